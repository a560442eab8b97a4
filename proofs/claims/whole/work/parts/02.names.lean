def RX0 : String := "Termgrid$Bounds"
def TX0 : u_T := fun k => match k with
  | _ => ("Termgrid$Bounds", "hoursGiven", "[I", true)
def tyX0 : Nat → FieldType := fun k => match k with
  | _ => .array .int
abbrev wsX00 : List Cond := u_ws RX0 TX0 1
theorem nmX0 : ∀ a, a < 1 → ∀ b, b < 1 → a ≠ b → (TX0 a).2.1 ≠ (TX0 b).2.1 := by decide +kernel
theorem tyX0_ok : ∀ k, k < 1 → parseFieldDescriptor (TX0 k).2.2.1 = some (tyX0 k) := by decide +kernel
abbrev cX0_init : ByteArray := prog_2_method_1_code
def yX0_init : MethodName := ⟨RX0, "<init>", "()V"⟩
abbrev cX0_lackByGiving : ByteArray := prog_2_method_2_code
def yX0_lackByGiving : MethodName := ⟨RX0, "lackByGiving", "(LTermgrid$Table;I)I"⟩
abbrev cX0_largestGroup : ByteArray := prog_2_method_3_code
def yX0_largestGroup : MethodName := ⟨RX0, "largestGroup", "(LTermgrid$Table;II)LTermgrid$Lesson;"⟩
abbrev cX0_giveHour : ByteArray := prog_2_method_4_code
def yX0_giveHour : MethodName := ⟨RX0, "giveHour", "(LTermgrid$Table;LTermgrid$Lesson;)Z"⟩
abbrev cX0_lackByNumbers : ByteArray := prog_2_method_5_code
def yX0_lackByNumbers : MethodName := ⟨RX0, "lackByNumbers", "(LTermgrid$Table;I)I"⟩
abbrev cX0_excessAbove : ByteArray := prog_2_method_6_code
def yX0_excessAbove : MethodName := ⟨RX0, "excessAbove", "(LTermgrid$Table;II)I"⟩
def RX1 : String := "Termgrid$Filler"
def TX1 : u_T := fun k => match k with
  | _ => ("Termgrid$Filler", "othersInTheWay", "[I", true)
def tyX1 : Nat → FieldType := fun k => match k with
  | _ => .array .int
abbrev wsX10 : List Cond := u_ws RX1 TX1 1
theorem nmX1 : ∀ a, a < 1 → ∀ b, b < 1 → a ≠ b → (TX1 a).2.1 ≠ (TX1 b).2.1 := by decide +kernel
theorem tyX1_ok : ∀ k, k < 1 → parseFieldDescriptor (TX1 k).2.2.1 = some (tyX1 k) := by decide +kernel
abbrev cX1_init : ByteArray := prog_3_method_1_code
def yX1_init : MethodName := ⟨RX1, "<init>", "()V"⟩
abbrev cX1_fillUp : ByteArray := prog_3_method_2_code
def yX1_fillUp : MethodName := ⟨RX1, "fillUp", "(LTermgrid$Table;)V"⟩
abbrev cX1_throwOthersOut : ByteArray := prog_3_method_3_code
def yX1_throwOthersOut : MethodName := ⟨RX1, "throwOthersOut", "(LTermgrid$Table;LTermgrid$Lesson;)Z"⟩
abbrev cX1_countOthersInTheWay : ByteArray := prog_3_method_4_code
def yX1_countOthersInTheWay : MethodName := ⟨RX1, "countOthersInTheWay", "(LTermgrid$Table;LTermgrid$Lesson;)V"⟩
abbrev cX1_slotsBarredByOne : ByteArray := prog_3_method_5_code
def yX1_slotsBarredByOne : MethodName := ⟨RX1, "slotsBarredByOne", "(LTermgrid$Table;LTermgrid$Lesson;II)I"⟩
abbrev cX1_openSlots : ByteArray := prog_3_method_6_code
def yX1_openSlots : MethodName := ⟨RX1, "openSlots", "(LTermgrid$Lesson;LTermgrid$Room;)I"⟩
abbrev cX1_addAtSlots : ByteArray := prog_3_method_7_code
def yX1_addAtSlots : MethodName := ⟨RX1, "addAtSlots", "(III)V"⟩
def RX2 : String := "Termgrid$Group"
def TX2 : u_T := fun k => match k with
  | _ => ("Termgrid$Group", "pupils", "I", true)
def tyX2 : Nat → FieldType := fun k => match k with
  | _ => .int
abbrev wsX20 : List Cond := u_ws RX2 TX2 1
theorem nmX2 : ∀ a, a < 1 → ∀ b, b < 1 → a ≠ b → (TX2 a).2.1 ≠ (TX2 b).2.1 := by decide +kernel
theorem tyX2_ok : ∀ k, k < 1 → parseFieldDescriptor (TX2 k).2.2.1 = some (tyX2 k) := by decide +kernel
abbrev cX2_init : ByteArray := prog_4_method_1_code
def yX2_init : MethodName := ⟨RX2, "<init>", "(I)V"⟩
def RX3 : String := "Termgrid$Improver"
def TX3 : u_T := fun k => match k with
  | 0 => ("Termgrid$Improver", "bestPlaces", "[I", true)
  | _ => ("Termgrid$Improver", "stepOfMove", "[I", true)
def tyX3 : Nat → FieldType := fun k => match k with
  | 0 => .array .int
  | _ => .array .int
abbrev wsX30 : List Cond := u_ws RX3 TX3 2
theorem nmX3 : ∀ a, a < 2 → ∀ b, b < 2 → a ≠ b → (TX3 a).2.1 ≠ (TX3 b).2.1 := by decide +kernel
theorem tyX3_ok : ∀ k, k < 2 → parseFieldDescriptor (TX3 k).2.2.1 = some (tyX3 k) := by decide +kernel
abbrev cX3_init : ByteArray := prog_5_method_1_code
def yX3_init : MethodName := ⟨RX3, "<init>", "()V"⟩
abbrev cX3_improveTable : ByteArray := prog_5_method_2_code
def yX3_improveTable : MethodName := ⟨RX3, "improveTable", "(LTermgrid$Table;I)V"⟩
abbrev cX3_findMover : ByteArray := prog_5_method_3_code
def yX3_findMover : MethodName := ⟨RX3, "findMover", "(LTermgrid$Table;I)LTermgrid$Lesson;"⟩
abbrev cX3_mayMove : ByteArray := prog_5_method_4_code
def yX3_mayMove : MethodName := ⟨RX3, "mayMove", "(LTermgrid$Table;LTermgrid$Lesson;I)Z"⟩
abbrev cX3_noteMove : ByteArray := prog_5_method_5_code
def yX3_noteMove : MethodName := ⟨RX3, "noteMove", "(LTermgrid$Lesson;I)V"⟩
abbrev cX3_becomeBest : ByteArray := prog_5_method_6_code
def yX3_becomeBest : MethodName := ⟨RX3, "becomeBest", "(LTermgrid$Table;)V"⟩
def RX4 : String := "Termgrid$Lesson"
def TX4 : u_T := fun k => match k with
  | 0 => ("Termgrid$Lesson", "number", "I", true)
  | 1 => ("Termgrid$Lesson", "group", "LTermgrid$Group;", true)
  | 2 => ("Termgrid$Lesson", "teacher", "LTermgrid$Teacher;", true)
  | 3 => ("Termgrid$Lesson", "kind", "I", true)
  | 4 => ("Termgrid$Lesson", "length", "I", true)
  | 5 => ("Termgrid$Lesson", "course", "I", true)
  | 6 => ("Termgrid$Lesson", "room", "LTermgrid$Room;", false)
  | 7 => ("Termgrid$Lesson", "slot", "I", false)
  | 8 => ("Termgrid$Lesson", "locked", "Z", false)
  | 9 => ("Termgrid$Lesson", "tooLateSlots", "I", true)
  | 10 => ("Termgrid$Lesson", "possibleSlots", "[I", true)
  | 11 => ("Termgrid$Lesson", "pastSlots", "I", false)
  | 12 => ("Termgrid$Lesson", "teacherSlots", "I", false)
  | 13 => ("Termgrid$Lesson", "groupSlots", "I", false)
  | 14 => ("Termgrid$Lesson", "roomSlots", "[I", true)
  | 15 => ("Termgrid$Lesson", "waySlots", "[I", true)
  | 16 => ("Termgrid$Lesson", "groupHours", "I", false)
  | _ => ("Termgrid$Lesson", "mates", "[I", true)
def tyX4 : Nat → FieldType := fun k => match k with
  | 0 => .int
  | 1 => .object "Termgrid$Group"
  | 2 => .object "Termgrid$Teacher"
  | 3 => .int
  | 4 => .int
  | 5 => .int
  | 6 => .object "Termgrid$Room"
  | 7 => .int
  | 8 => .boolean
  | 9 => .int
  | 10 => .array .int
  | 11 => .int
  | 12 => .int
  | 13 => .int
  | 14 => .array .int
  | 15 => .array .int
  | 16 => .int
  | _ => .array .int
abbrev wsX40 : List Cond := u_ws RX4 TX4 18
theorem nmX4 : ∀ a, a < 18 → ∀ b, b < 18 → a ≠ b → (TX4 a).2.1 ≠ (TX4 b).2.1 := by decide +kernel
theorem tyX4_ok : ∀ k, k < 18 → parseFieldDescriptor (TX4 k).2.2.1 = some (tyX4 k) := by decide +kernel
abbrev cX4_init : ByteArray := prog_6_method_1_code
def yX4_init : MethodName := ⟨RX4, "<init>", "(ILTermgrid$Group;LTermgrid$Teacher;III)V"⟩
abbrev cX4_placeNow : ByteArray := prog_6_method_2_code
def yX4_placeNow : MethodName := ⟨RX4, "placeNow", "()I"⟩
abbrev cX4_isOn : ByteArray := prog_6_method_3_code
def yX4_isOn : MethodName := ⟨RX4, "isOn", "(I)Z"⟩
abbrev cX4_hoursNow : ByteArray := prog_6_method_4_code
def yX4_hoursNow : MethodName := ⟨RX4, "hoursNow", "()I"⟩
abbrev cX4_hoursFrom : ByteArray := prog_6_method_5_code
def yX4_hoursFrom : MethodName := ⟨RX4, "hoursFrom", "(I)I"⟩
abbrev cX4_forgetOthers : ByteArray := prog_6_method_6_code
def yX4_forgetOthers : MethodName := ⟨RX4, "forgetOthers", "(I)V"⟩
abbrev cX4_see : ByteArray := prog_6_method_7_code
def yX4_see : MethodName := ⟨RX4, "see", "(LTermgrid$Lesson;)V"⟩
abbrev cX4_countMate : ByteArray := prog_6_method_8_code
def yX4_countMate : MethodName := ⟨RX4, "countMate", "(LTermgrid$Lesson;)V"⟩
abbrev cX4_slotsTouching : ByteArray := prog_6_method_9_code
def yX4_slotsTouching : MethodName := ⟨RX4, "slotsTouching", "(LTermgrid$Lesson;)I"⟩
abbrev cX4_addWay : ByteArray := prog_6_method_10_code
def yX4_addWay : MethodName := ⟨RX4, "addWay", "(II)V"⟩
abbrev cX4_barredBy : ByteArray := prog_6_method_11_code
def yX4_barredBy : MethodName := ⟨RX4, "barredBy", "(ILTermgrid$Room;)I"⟩
abbrev cX4_barredByOneOf : ByteArray := prog_6_method_12_code
def yX4_barredByOneOf : MethodName := ⟨RX4, "barredByOneOf", "(IILTermgrid$Room;)I"⟩
abbrev cX4_lettersAt : ByteArray := prog_6_method_13_code
def yX4_lettersAt : MethodName := ⟨RX4, "lettersAt", "(ILTermgrid$Room;)I"⟩
abbrev cX4_findPossibleSlots : ByteArray := prog_6_method_14_code
def yX4_findPossibleSlots : MethodName := ⟨RX4, "findPossibleSlots", "(Ljava/util/ArrayList;)V"⟩
abbrev cX4_leaveOutOwnPlace : ByteArray := prog_6_method_15_code
def yX4_leaveOutOwnPlace : MethodName := ⟨RX4, "leaveOutOwnPlace", "()V"⟩
abbrev cX4_countPossiblePlaces : ByteArray := prog_6_method_16_code
def yX4_countPossiblePlaces : MethodName := ⟨RX4, "countPossiblePlaces", "()I"⟩
abbrev cX4_firstRoomAt : ByteArray := prog_6_method_17_code
def yX4_firstRoomAt : MethodName := ⟨RX4, "firstRoomAt", "(I)I"⟩
abbrev cX4_isPossible : ByteArray := prog_6_method_18_code
def yX4_isPossible : MethodName := ⟨RX4, "isPossible", "(I)Z"⟩
abbrev cX4_addedTo : ByteArray := prog_6_method_19_code
def yX4_addedTo : MethodName := ⟨RX4, "addedTo", "(II)I"⟩
abbrev cX4_wishesIn : ByteArray := prog_6_method_20_code
def yX4_wishesIn : MethodName := ⟨RX4, "wishesIn", "(I)I"⟩
def RX5 : String := "Termgrid$Room"
def TX5 : u_T := fun k => match k with
  | 0 => ("Termgrid$Room", "number", "I", true)
  | 1 => ("Termgrid$Room", "house", "I", true)
  | 2 => ("Termgrid$Room", "kind", "I", true)
  | 3 => ("Termgrid$Room", "seats", "I", true)
  | _ => ("Termgrid$Room", "isOpen", "Z", false)
def tyX5 : Nat → FieldType := fun k => match k with
  | 0 => .int
  | 1 => .int
  | 2 => .int
  | 3 => .int
  | _ => .boolean
abbrev wsX50 : List Cond := u_ws RX5 TX5 5
theorem nmX5 : ∀ a, a < 5 → ∀ b, b < 5 → a ≠ b → (TX5 a).2.1 ≠ (TX5 b).2.1 := by decide +kernel
theorem tyX5_ok : ∀ k, k < 5 → parseFieldDescriptor (TX5 k).2.2.1 = some (tyX5 k) := by decide +kernel
abbrev cX5_init : ByteArray := prog_7_method_1_code
def yX5_init : MethodName := ⟨RX5, "<init>", "(IIII)V"⟩
def RX6 : String := "Termgrid$Table"
def TX6 : u_T := fun k => match k with
  | 0 => ("Termgrid$Table", "rooms", "Ljava/util/ArrayList;", true)
  | 1 => ("Termgrid$Table", "groups", "Ljava/util/ArrayList;", true)
  | 2 => ("Termgrid$Table", "lessons", "Ljava/util/ArrayList;", true)
  | 3 => ("Termgrid$Table", "weights", "[I", true)
  | 4 => ("Termgrid$Table", "amounts", "[I", true)
  | _ => ("Termgrid$Table", "today", "I", false)
def tyX6 : Nat → FieldType := fun k => match k with
  | 0 => .object "java/util/ArrayList"
  | 1 => .object "java/util/ArrayList"
  | 2 => .object "java/util/ArrayList"
  | 3 => .array .int
  | 4 => .array .int
  | _ => .int
abbrev wsX60 : List Cond := u_ws RX6 TX6 6
theorem nmX6 : ∀ a, a < 6 → ∀ b, b < 6 → a ≠ b → (TX6 a).2.1 ≠ (TX6 b).2.1 := by decide +kernel
theorem tyX6_ok : ∀ k, k < 6 → parseFieldDescriptor (TX6 k).2.2.1 = some (tyX6 k) := by decide +kernel
abbrev cX6_init : ByteArray := prog_8_method_1_code
def yX6_init : MethodName := ⟨RX6, "<init>", "()V"⟩
abbrev cX6_isPast : ByteArray := prog_8_method_2_code
def yX6_isPast : MethodName := ⟨RX6, "isPast", "(LTermgrid$Lesson;)Z"⟩
abbrev cX6_isFree : ByteArray := prog_8_method_3_code
def yX6_isFree : MethodName := ⟨RX6, "isFree", "(LTermgrid$Lesson;)Z"⟩
abbrev cX6_unplaced : ByteArray := prog_8_method_4_code
def yX6_unplaced : MethodName := ⟨RX6, "unplaced", "()I"⟩
abbrev cX6_lookAround : ByteArray := prog_8_method_5_code
def yX6_lookAround : MethodName := ⟨RX6, "lookAround", "(LTermgrid$Lesson;)V"⟩
abbrev cX6_judgePlaces : ByteArray := prog_8_method_6_code
def yX6_judgePlaces : MethodName := ⟨RX6, "judgePlaces", "(LTermgrid$Lesson;)V"⟩
abbrev cX6_put : ByteArray := prog_8_method_7_code
def yX6_put : MethodName := ⟨RX6, "put", "(LTermgrid$Lesson;ILTermgrid$Room;)V"⟩
abbrev cX6_putAt : ByteArray := prog_8_method_8_code
def yX6_putAt : MethodName := ⟨RX6, "putAt", "(LTermgrid$Lesson;I)V"⟩
abbrev cX6_take : ByteArray := prog_8_method_9_code
def yX6_take : MethodName := ⟨RX6, "take", "(LTermgrid$Lesson;)V"⟩
abbrev cX6_changeAmounts : ByteArray := prog_8_method_10_code
def yX6_changeAmounts : MethodName := ⟨RX6, "changeAmounts", "(LTermgrid$Lesson;I)V"⟩
abbrev cX6_takeAll : ByteArray := prog_8_method_11_code
def yX6_takeAll : MethodName := ⟨RX6, "takeAll", "(I)V"⟩
abbrev cX6_repair : ByteArray := prog_8_method_12_code
def yX6_repair : MethodName := ⟨RX6, "repair", "(I)I"⟩
abbrev cX6_copyPlaces : ByteArray := prog_8_method_13_code
def yX6_copyPlaces : MethodName := ⟨RX6, "copyPlaces", "([I)V"⟩
abbrev cX6_setFreeLessons : ByteArray := prog_8_method_14_code
def yX6_setFreeLessons : MethodName := ⟨RX6, "setFreeLessons", "([I)V"⟩
abbrev cX6_changeWish : ByteArray := prog_8_method_15_code
def yX6_changeWish : MethodName := ⟨RX6, "changeWish", "(LTermgrid$Teacher;II)I"⟩
abbrev cX6_changeWeight : ByteArray := prog_8_method_16_code
def yX6_changeWeight : MethodName := ⟨RX6, "changeWeight", "(II)I"⟩
abbrev cX6_bookLateHours : ByteArray := prog_8_method_17_code
def yX6_bookLateHours : MethodName := ⟨RX6, "bookLateHours", "()V"⟩
abbrev cX6_isLate : ByteArray := prog_8_method_18_code
def yX6_isLate : MethodName := ⟨RX6, "isLate", "(LTermgrid$Lesson;)Z"⟩
abbrev cX6_lateLessonsOf : ByteArray := prog_8_method_19_code
def yX6_lateLessonsOf : MethodName := ⟨RX6, "lateLessonsOf", "(LTermgrid$Teacher;)I"⟩
abbrev cX6_countPossible : ByteArray := prog_8_method_20_code
def yX6_countPossible : MethodName := ⟨RX6, "countPossible", "(LTermgrid$Lesson;)I"⟩
abbrev cX6_findPossible : ByteArray := prog_8_method_21_code
def yX6_findPossible : MethodName := ⟨RX6, "findPossible", "(LTermgrid$Lesson;I)I"⟩
abbrev cX6_findCheapest : ByteArray := prog_8_method_22_code
def yX6_findCheapest : MethodName := ⟨RX6, "findCheapest", "(LTermgrid$Lesson;)I"⟩
abbrev cX6_findCheapestElsewhere : ByteArray := prog_8_method_23_code
def yX6_findCheapestElsewhere : MethodName := ⟨RX6, "findCheapestElsewhere", "(LTermgrid$Lesson;)I"⟩
abbrev cX6_cheapestAmongJudged : ByteArray := prog_8_method_24_code
def yX6_cheapestAmongJudged : MethodName := ⟨RX6, "cheapestAmongJudged", "(LTermgrid$Lesson;)I"⟩
abbrev cX6_findHardest : ByteArray := prog_8_method_25_code
def yX6_findHardest : MethodName := ⟨RX6, "findHardest", "(I)LTermgrid$Lesson;"⟩
abbrev cX6_broken : ByteArray := prog_8_method_26_code
def yX6_broken : MethodName := ⟨RX6, "broken", "()I"⟩
abbrev cX6_countBreaks : ByteArray := prog_8_method_27_code
def yX6_countBreaks : MethodName := ⟨RX6, "countBreaks", "()I"⟩
abbrev cX6_costKept : ByteArray := prog_8_method_28_code
def yX6_costKept : MethodName := ⟨RX6, "costKept", "()I"⟩
abbrev cX6_addedCost : ByteArray := prog_8_method_29_code
def yX6_addedCost : MethodName := ⟨RX6, "addedCost", "(LTermgrid$Lesson;I)I"⟩
abbrev cX6_costFrom : ByteArray := prog_8_method_30_code
def yX6_costFrom : MethodName := ⟨RX6, "costFrom", "(LTermgrid$Lesson;I)I"⟩
abbrev cX6_amountAnew : ByteArray := prog_8_method_31_code
def yX6_amountAnew : MethodName := ⟨RX6, "amountAnew", "(I)I"⟩
abbrev cX6_gapsAnew : ByteArray := prog_8_method_32_code
def yX6_gapsAnew : MethodName := ⟨RX6, "gapsAnew", "()I"⟩
abbrev cX6_hoursOf : ByteArray := prog_8_method_33_code
def yX6_hoursOf : MethodName := ⟨RX6, "hoursOf", "(LTermgrid$Group;)I"⟩
abbrev cX6_gapsOnDay : ByteArray := prog_8_method_34_code
def yX6_gapsOnDay : MethodName := ⟨RX6, "gapsOnDay", "(II)I"⟩
abbrev cX6_lateHoursAnew : ByteArray := prog_8_method_35_code
def yX6_lateHoursAnew : MethodName := ⟨RX6, "lateHoursAnew", "()I"⟩
abbrev cX6_wishesAnew : ByteArray := prog_8_method_36_code
def yX6_wishesAnew : MethodName := ⟨RX6, "wishesAnew", "()I"⟩
abbrev cX6_crowdsAnew : ByteArray := prog_8_method_37_code
def yX6_crowdsAnew : MethodName := ⟨RX6, "crowdsAnew", "()I"⟩
abbrev cX6_areCrowd : ByteArray := prog_8_method_38_code
def yX6_areCrowd : MethodName := ⟨RX6, "areCrowd", "(LTermgrid$Lesson;LTermgrid$Lesson;)Z"⟩
def RX7 : String := "Termgrid$Teacher"
def TX7 : u_T := fun k => match k with
  | 0 => ("Termgrid$Teacher", "wishes", "[I", true)
  | 1 => ("Termgrid$Teacher", "slotsOff", "I", false)
  | _ => ("Termgrid$Teacher", "account", "I", false)
def tyX7 : Nat → FieldType := fun k => match k with
  | 0 => .array .int
  | 1 => .int
  | _ => .int
abbrev wsX70 : List Cond := u_ws RX7 TX7 3
theorem nmX7 : ∀ a, a < 3 → ∀ b, b < 3 → a ≠ b → (TX7 a).2.1 ≠ (TX7 b).2.1 := by decide +kernel
theorem tyX7_ok : ∀ k, k < 3 → parseFieldDescriptor (TX7 k).2.2.1 = some (tyX7 k) := by decide +kernel
abbrev cX7_init : ByteArray := prog_9_method_1_code
def yX7_init : MethodName := ⟨RX7, "<init>", "(I)V"⟩
def RX8 : String := "Termgrid"
def TX8 : u_T := fun k => match k with
  | 0 => ("Termgrid", "teachers", "Ljava/util/ArrayList;", true)
  | 1 => ("Termgrid", "table", "LTermgrid$Table;", true)
  | 2 => ("Termgrid", "filler", "LTermgrid$Filler;", true)
  | 3 => ("Termgrid", "improver", "LTermgrid$Improver;", true)
  | 4 => ("Termgrid", "bounds", "LTermgrid$Bounds;", true)
  | 5 => ("Termgrid", "versions", "[[I", true)
  | 6 => ("Termgrid", "goals", "[I", true)
  | 7 => ("Termgrid", "roomLetters", "[I", true)
  | 8 => ("Termgrid", "versionCount", "I", false)
  | _ => ("Termgrid", "weeks", "I", false)
def tyX8 : Nat → FieldType := fun k => match k with
  | 0 => .object "java/util/ArrayList"
  | 1 => .object "Termgrid$Table"
  | 2 => .object "Termgrid$Filler"
  | 3 => .object "Termgrid$Improver"
  | 4 => .object "Termgrid$Bounds"
  | 5 => .array (.array .int)
  | 6 => .array .int
  | 7 => .array .int
  | 8 => .int
  | _ => .int
abbrev wsX80 : List Cond := u_ws RX8 TX8 10
theorem nmX8 : ∀ a, a < 10 → ∀ b, b < 10 → a ≠ b → (TX8 a).2.1 ≠ (TX8 b).2.1 := by decide +kernel
theorem tyX8_ok : ∀ k, k < 10 → parseFieldDescriptor (TX8 k).2.2.1 = some (tyX8 k) := by decide +kernel
abbrev cX8_init : ByteArray := prog_1_method_1_code
def yX8_init : MethodName := ⟨RX8, "<init>", "()V"⟩
abbrev cX8_addRoom : ByteArray := prog_1_method_2_code
def yX8_addRoom : MethodName := ⟨RX8, "addRoom", "(III)I"⟩
abbrev cX8_addTeacher : ByteArray := prog_1_method_3_code
def yX8_addTeacher : MethodName := ⟨RX8, "addTeacher", "(I)I"⟩
abbrev cX8_addGroup : ByteArray := prog_1_method_4_code
def yX8_addGroup : MethodName := ⟨RX8, "addGroup", "(I)I"⟩
abbrev cX8_addLesson : ByteArray := prog_1_method_5_code
def yX8_addLesson : MethodName := ⟨RX8, "addLesson", "(IIIII)I"⟩
abbrev cX8_setWish : ByteArray := prog_1_method_6_code
def yX8_setWish : MethodName := ⟨RX8, "setWish", "(III)I"⟩
abbrev cX8_setWeight : ByteArray := prog_1_method_7_code
def yX8_setWeight : MethodName := ⟨RX8, "setWeight", "(II)I"⟩
abbrev cX8_reason : ByteArray := prog_1_method_8_code
def yX8_reason : MethodName := ⟨RX8, "reason", "(III)C"⟩
abbrev cX8_reasons : ByteArray := prog_1_method_9_code
def yX8_reasons : MethodName := ⟨RX8, "reasons", "(II)I"⟩
abbrev cX8_leastReasons : ByteArray := prog_1_method_10_code
def yX8_leastReasons : MethodName := ⟨RX8, "leastReasons", "()I"⟩
abbrev cX8_barEachRoom : ByteArray := prog_1_method_11_code
def yX8_barEachRoom : MethodName := ⟨RX8, "barEachRoom", "(I)Z"⟩
abbrev cX8_place : ByteArray := prog_1_method_12_code
def yX8_place : MethodName := ⟨RX8, "place", "(III)I"⟩
abbrev cX8_remove : ByteArray := prog_1_method_13_code
def yX8_remove : MethodName := ⟨RX8, "remove", "(I)I"⟩
abbrev cX8_lock : ByteArray := prog_1_method_14_code
def yX8_lock : MethodName := ⟨RX8, "lock", "(I)I"⟩
abbrev cX8_unlock : ByteArray := prog_1_method_15_code
def yX8_unlock : MethodName := ⟨RX8, "unlock", "(I)I"⟩
abbrev cX8_lockedLessons : ByteArray := prog_1_method_16_code
def yX8_lockedLessons : MethodName := ⟨RX8, "lockedLessons", "()I"⟩
abbrev cX8_isLocked : ByteArray := prog_1_method_17_code
def yX8_isLocked : MethodName := ⟨RX8, "isLocked", "(I)Z"⟩
abbrev cX8_placeOf : ByteArray := prog_1_method_18_code
def yX8_placeOf : MethodName := ⟨RX8, "placeOf", "(I)I"⟩
abbrev cX8_groupAt : ByteArray := prog_1_method_19_code
def yX8_groupAt : MethodName := ⟨RX8, "groupAt", "(II)I"⟩
abbrev cX8_teacherAt : ByteArray := prog_1_method_20_code
def yX8_teacherAt : MethodName := ⟨RX8, "teacherAt", "(II)I"⟩
abbrev cX8_possible : ByteArray := prog_1_method_21_code
def yX8_possible : MethodName := ⟨RX8, "possible", "(I)I"⟩
abbrev cX8_possibleAt : ByteArray := prog_1_method_22_code
def yX8_possibleAt : MethodName := ⟨RX8, "possibleAt", "(II)I"⟩
abbrev cX8_cheapest : ByteArray := prog_1_method_23_code
def yX8_cheapest : MethodName := ⟨RX8, "cheapest", "(I)I"⟩
abbrev cX8_costWith : ByteArray := prog_1_method_24_code
def yX8_costWith : MethodName := ⟨RX8, "costWith", "(III)I"⟩
abbrev cX8_hardest : ByteArray := prog_1_method_25_code
def yX8_hardest : MethodName := ⟨RX8, "hardest", "()I"⟩
abbrev cX8_fill : ByteArray := prog_1_method_26_code
def yX8_fill : MethodName := ⟨RX8, "fill", "()I"⟩
abbrev cX8_improve : ByteArray := prog_1_method_27_code
def yX8_improve : MethodName := ⟨RX8, "improve", "(I)I"⟩
abbrev cX8_cost : ByteArray := prog_1_method_28_code
def yX8_cost : MethodName := ⟨RX8, "cost", "()I"⟩
abbrev cX8_costAnew : ByteArray := prog_1_method_29_code
def yX8_costAnew : MethodName := ⟨RX8, "costAnew", "()I"⟩
abbrev cX8_amount : ByteArray := prog_1_method_30_code
def yX8_amount : MethodName := ⟨RX8, "amount", "(I)I"⟩
abbrev cX8_breaks : ByteArray := prog_1_method_31_code
def yX8_breaks : MethodName := ⟨RX8, "breaks", "()I"⟩
abbrev cX8_lacking : ByteArray := prog_1_method_32_code
def yX8_lacking : MethodName := ⟨RX8, "lacking", "(I)I"⟩
abbrev cX8_lackingBySeats : ByteArray := prog_1_method_33_code
def yX8_lackingBySeats : MethodName := ⟨RX8, "lackingBySeats", "(I)I"⟩
abbrev cX8_ill : ByteArray := prog_1_method_34_code
def yX8_ill : MethodName := ⟨RX8, "ill", "(II)I"⟩
abbrev cX8_close : ByteArray := prog_1_method_35_code
def yX8_close : MethodName := ⟨RX8, "close", "(I)I"⟩
abbrev cX8_open : ByteArray := prog_1_method_36_code
def yX8_open : MethodName := ⟨RX8, "open", "(I)I"⟩
abbrev cX8_passDay : ByteArray := prog_1_method_37_code
def yX8_passDay : MethodName := ⟨RX8, "passDay", "()I"⟩
abbrev cX8_nextWeek : ByteArray := prog_1_method_38_code
def yX8_nextWeek : MethodName := ⟨RX8, "nextWeek", "()I"⟩
abbrev cX8_today : ByteArray := prog_1_method_39_code
def yX8_today : MethodName := ⟨RX8, "today", "()I"⟩
abbrev cX8_account : ByteArray := prog_1_method_40_code
def yX8_account : MethodName := ⟨RX8, "account", "(I)I"⟩
abbrev cX8_save : ByteArray := prog_1_method_41_code
def yX8_save : MethodName := ⟨RX8, "save", "()I"⟩
abbrev cX8_placeIn : ByteArray := prog_1_method_42_code
def yX8_placeIn : MethodName := ⟨RX8, "placeIn", "(II)I"⟩
abbrev cX8_differences : ByteArray := prog_1_method_43_code
def yX8_differences : MethodName := ⟨RX8, "differences", "(II)I"⟩
abbrev cX8_restore : ByteArray := prog_1_method_44_code
def yX8_restore : MethodName := ⟨RX8, "restore", "(I)I"⟩
abbrev cX8_merge : ByteArray := prog_1_method_45_code
def yX8_merge : MethodName := ⟨RX8, "merge", "(II)I"⟩
abbrev cX8_placedShare : ByteArray := prog_1_method_46_code
def yX8_placedShare : MethodName := ⟨RX8, "placedShare", "()F"⟩
abbrev cX8_meanPossible : ByteArray := prog_1_method_47_code
def yX8_meanPossible : MethodName := ⟨RX8, "meanPossible", "()D"⟩
abbrev cX8_isSound : ByteArray := prog_1_method_48_code
def yX8_isSound : MethodName := ⟨RX8, "isSound", "()Z"⟩
abbrev cX8_roomNumbered : ByteArray := prog_1_method_49_code
def yX8_roomNumbered : MethodName := ⟨RX8, "roomNumbered", "(I)LTermgrid$Room;"⟩
abbrev cX8_teacherNumbered : ByteArray := prog_1_method_50_code
def yX8_teacherNumbered : MethodName := ⟨RX8, "teacherNumbered", "(I)LTermgrid$Teacher;"⟩
abbrev cX8_groupNumbered : ByteArray := prog_1_method_51_code
def yX8_groupNumbered : MethodName := ⟨RX8, "groupNumbered", "(I)LTermgrid$Group;"⟩
abbrev cX8_lessonNumbered : ByteArray := prog_1_method_52_code
def yX8_lessonNumbered : MethodName := ⟨RX8, "lessonNumbered", "(I)LTermgrid$Lesson;"⟩
abbrev cX8_versionNumbered : ByteArray := prog_1_method_53_code
def yX8_versionNumbered : MethodName := ⟨RX8, "versionNumbered", "(I)[I"⟩
abbrev cX8_roomOfPlace : ByteArray := prog_1_method_54_code
def yX8_roomOfPlace : MethodName := ⟨RX8, "roomOfPlace", "(II)LTermgrid$Room;"⟩
abbrev cX8_requireSlot : ByteArray := prog_1_method_55_code
def yX8_requireSlot : MethodName := ⟨RX8, "requireSlot", "(I)V"⟩
abbrev cX8_requirePiece : ByteArray := prog_1_method_56_code
def yX8_requirePiece : MethodName := ⟨RX8, "requirePiece", "(I)V"⟩
abbrev cX8_requireKind : ByteArray := prog_1_method_57_code
def yX8_requireKind : MethodName := ⟨RX8, "requireKind", "(I)V"⟩
abbrev cX8_requirePlaced : ByteArray := prog_1_method_58_code
def yX8_requirePlaced : MethodName := ⟨RX8, "requirePlaced", "(LTermgrid$Lesson;)V"⟩
abbrev cX8_requireFree : ByteArray := prog_1_method_59_code
def yX8_requireFree : MethodName := ⟨RX8, "requireFree", "(LTermgrid$Lesson;)V"⟩
abbrev cX8_requirePossible : ByteArray := prog_1_method_60_code
def yX8_requirePossible : MethodName := ⟨RX8, "requirePossible", "(LTermgrid$Lesson;ILTermgrid$Room;)V"⟩
abbrev cX8_isOutside : ByteArray := prog_1_method_61_code
def yX8_isOutside : MethodName := ⟨RX8, "isOutside", "(III)Z"⟩
abbrev cX8_has : ByteArray := prog_1_method_62_code
def yX8_has : MethodName := ⟨RX8, "has", "(II)Z"⟩
abbrev cX8_at : ByteArray := prog_1_method_63_code
def yX8_at : MethodName := ⟨RX8, "at", "([II)I"⟩
abbrev cX8_addSlots : ByteArray := prog_1_method_64_code
def yX8_addSlots : MethodName := ⟨RX8, "addSlots", "([III)V"⟩
abbrev cX8_slotsOfDay : ByteArray := prog_1_method_65_code
def yX8_slotsOfDay : MethodName := ⟨RX8, "slotsOfDay", "(I)I"⟩
abbrev cX8_slotsOfDays : ByteArray := prog_1_method_66_code
def yX8_slotsOfDays : MethodName := ⟨RX8, "slotsOfDays", "(I)I"⟩
abbrev cX8_slotsThatMeet : ByteArray := prog_1_method_67_code
def yX8_slotsThatMeet : MethodName := ⟨RX8, "slotsThatMeet", "(II)I"⟩
abbrev cX8_gapsAmong : ByteArray := prog_1_method_68_code
def yX8_gapsAmong : MethodName := ⟨RX8, "gapsAmong", "(I)I"⟩
def RX9 : String := "TermgridModel"
def TX9 : u_T := fun k => match k with
  | 0 => ("TermgridModel", "houses", "[I", true)
  | 1 => ("TermgridModel", "kinds", "[I", true)
  | 2 => ("TermgridModel", "seats", "[I", true)
  | 3 => ("TermgridModel", "daysOff", "[I", true)
  | 4 => ("TermgridModel", "accounts", "[I", true)
  | 5 => ("TermgridModel", "pupils", "[I", true)
  | 6 => ("TermgridModel", "wishes", "[I", true)
  | 7 => ("TermgridModel", "areClosed", "[Z", true)
  | 8 => ("TermgridModel", "areLocked", "[Z", true)
  | 9 => ("TermgridModel", "groupOf", "[I", true)
  | 10 => ("TermgridModel", "teacherOf", "[I", true)
  | 11 => ("TermgridModel", "kindOf", "[I", true)
  | 12 => ("TermgridModel", "lengths", "[I", true)
  | 13 => ("TermgridModel", "courses", "[I", true)
  | 14 => ("TermgridModel", "places", "[I", true)
  | 15 => ("TermgridModel", "weights", "[I", true)
  | 16 => ("TermgridModel", "kept", "[I", true)
  | 17 => ("TermgridModel", "targets", "[I", true)
  | 18 => ("TermgridModel", "moved", "[I", true)
  | 19 => ("TermgridModel", "found", "[I", true)
  | 20 => ("TermgridModel", "thrown", "I", false)
  | 21 => ("TermgridModel", "rooms", "I", false)
  | 22 => ("TermgridModel", "teachers", "I", false)
  | 23 => ("TermgridModel", "groups", "I", false)
  | 24 => ("TermgridModel", "lessons", "I", false)
  | 25 => ("TermgridModel", "versions", "I", false)
  | 26 => ("TermgridModel", "today", "I", false)
  | _ => ("TermgridModel", "weeks", "I", false)
def tyX9 : Nat → FieldType := fun k => match k with
  | 0 => .array .int
  | 1 => .array .int
  | 2 => .array .int
  | 3 => .array .int
  | 4 => .array .int
  | 5 => .array .int
  | 6 => .array .int
  | 7 => .array .boolean
  | 8 => .array .boolean
  | 9 => .array .int
  | 10 => .array .int
  | 11 => .array .int
  | 12 => .array .int
  | 13 => .array .int
  | 14 => .array .int
  | 15 => .array .int
  | 16 => .array .int
  | 17 => .array .int
  | 18 => .array .int
  | 19 => .array .int
  | 20 => .int
  | 21 => .int
  | 22 => .int
  | 23 => .int
  | 24 => .int
  | 25 => .int
  | 26 => .int
  | _ => .int
abbrev wsX90 : List Cond := u_ws RX9 TX9 28
theorem nmX9 : ∀ a, a < 28 → ∀ b, b < 28 → a ≠ b → (TX9 a).2.1 ≠ (TX9 b).2.1 := by decide +kernel
theorem tyX9_ok : ∀ k, k < 28 → parseFieldDescriptor (TX9 k).2.2.1 = some (tyX9 k) := by decide +kernel
abbrev cX9_init : ByteArray := prog_11_method_1_code
def yX9_init : MethodName := ⟨RX9, "<init>", "()V"⟩
abbrev cX9_thrown : ByteArray := prog_11_method_2_code
def yX9_thrown : MethodName := ⟨RX9, "thrown", "()I"⟩
abbrev cX9_in : ByteArray := prog_11_method_3_code
def yX9_in : MethodName := ⟨RX9, "in", "(III)Z"⟩
abbrev cX9_plain : ByteArray := prog_11_method_4_code
def yX9_plain : MethodName := ⟨RX9, "plain", "(I)I"⟩
abbrev cX9_checked : ByteArray := prog_11_method_5_code
def yX9_checked : MethodName := ⟨RX9, "checked", "(Z)I"⟩
abbrev cX9_isLesson : ByteArray := prog_11_method_6_code
def yX9_isLesson : MethodName := ⟨RX9, "isLesson", "(I)Z"⟩
abbrev cX9_isTeacher : ByteArray := prog_11_method_7_code
def yX9_isTeacher : MethodName := ⟨RX9, "isTeacher", "(I)Z"⟩
abbrev cX9_isGroup : ByteArray := prog_11_method_8_code
def yX9_isGroup : MethodName := ⟨RX9, "isGroup", "(I)Z"⟩
abbrev cX9_isRoom : ByteArray := prog_11_method_9_code
def yX9_isRoom : MethodName := ⟨RX9, "isRoom", "(I)Z"⟩
abbrev cX9_isSlot : ByteArray := prog_11_method_10_code
def yX9_isSlot : MethodName := ⟨RX9, "isSlot", "(I)Z"⟩
abbrev cX9_addRoom : ByteArray := prog_11_method_11_code
def yX9_addRoom : MethodName := ⟨RX9, "addRoom", "(III)I"⟩
abbrev cX9_addTeacher : ByteArray := prog_11_method_12_code
def yX9_addTeacher : MethodName := ⟨RX9, "addTeacher", "(I)I"⟩
abbrev cX9_addGroup : ByteArray := prog_11_method_13_code
def yX9_addGroup : MethodName := ⟨RX9, "addGroup", "(I)I"⟩
abbrev cX9_addLesson : ByteArray := prog_11_method_14_code
def yX9_addLesson : MethodName := ⟨RX9, "addLesson", "(IIIII)I"⟩
abbrev cX9_setWish : ByteArray := prog_11_method_15_code
def yX9_setWish : MethodName := ⟨RX9, "setWish", "(III)I"⟩
abbrev cX9_setWeight : ByteArray := prog_11_method_16_code
def yX9_setWeight : MethodName := ⟨RX9, "setWeight", "(II)I"⟩
abbrev cX9_slotOf : ByteArray := prog_11_method_17_code
def yX9_slotOf : MethodName := ⟨RX9, "slotOf", "(I)I"⟩
abbrev cX9_endOf : ByteArray := prog_11_method_18_code
def yX9_endOf : MethodName := ⟨RX9, "endOf", "(I)I"⟩
abbrev cX9_isPlaced : ByteArray := prog_11_method_19_code
def yX9_isPlaced : MethodName := ⟨RX9, "isPlaced", "(I)Z"⟩
abbrev cX9_isPast : ByteArray := prog_11_method_20_code
def yX9_isPast : MethodName := ⟨RX9, "isPast", "(I)Z"⟩
abbrev cX9_endFrom : ByteArray := prog_11_method_21_code
def yX9_endFrom : MethodName := ⟨RX9, "endFrom", "(II)I"⟩
abbrev cX9_meets : ByteArray := prog_11_method_22_code
def yX9_meets : MethodName := ⟨RX9, "meets", "(III)Z"⟩
abbrev cX9_touches : ByteArray := prog_11_method_23_code
def yX9_touches : MethodName := ⟨RX9, "touches", "(III)Z"⟩
abbrev cX9_lettersBy : ByteArray := prog_11_method_24_code
def yX9_lettersBy : MethodName := ⟨RX9, "lettersBy", "(IIII)I"⟩
abbrev cX9_plainLetters : ByteArray := prog_11_method_25_code
def yX9_plainLetters : MethodName := ⟨RX9, "plainLetters", "(III)I"⟩
abbrev cX9_both : ByteArray := prog_11_method_26_code
def yX9_both : MethodName := ⟨RX9, "both", "(II)I"⟩
abbrev cX9_letters : ByteArray := prog_11_method_27_code
def yX9_letters : MethodName := ⟨RX9, "letters", "(III)I"⟩
abbrev cX9_isPossible : ByteArray := prog_11_method_28_code
def yX9_isPossible : MethodName := ⟨RX9, "isPossible", "(II)Z"⟩
abbrev cX9_wrongPlace : ByteArray := prog_11_method_29_code
def yX9_wrongPlace : MethodName := ⟨RX9, "wrongPlace", "(III)I"⟩
abbrev cX9_letter : ByteArray := prog_11_method_30_code
def yX9_letter : MethodName := ⟨RX9, "letter", "(I)C"⟩
abbrev cX9_reason : ByteArray := prog_11_method_31_code
def yX9_reason : MethodName := ⟨RX9, "reason", "(III)C"⟩
abbrev cX9_manyBits : ByteArray := prog_11_method_32_code
def yX9_manyBits : MethodName := ⟨RX9, "manyBits", "(I)I"⟩
abbrev cX9_barsAll : ByteArray := prog_11_method_33_code
def yX9_barsAll : MethodName := ⟨RX9, "barsAll", "(III)Z"⟩
abbrev cX9_isOpenAt : ByteArray := prog_11_method_34_code
def yX9_isOpenAt : MethodName := ⟨RX9, "isOpenAt", "(II)Z"⟩
abbrev cX9_reasons : ByteArray := prog_11_method_35_code
def yX9_reasons : MethodName := ⟨RX9, "reasons", "(II)I"⟩
abbrev cX9_hasAt : ByteArray := prog_11_method_36_code
def yX9_hasAt : MethodName := ⟨RX9, "hasAt", "(II)Z"⟩
abbrev cX9_isBusy : ByteArray := prog_11_method_37_code
def yX9_isBusy : MethodName := ⟨RX9, "isBusy", "(II)Z"⟩
abbrev cX9_gapsOn : ByteArray := prog_11_method_38_code
def yX9_gapsOn : MethodName := ⟨RX9, "gapsOn", "(II)I"⟩
abbrev cX9_isLate : ByteArray := prog_11_method_39_code
def yX9_isLate : MethodName := ⟨RX9, "isLate", "(I)Z"⟩
abbrev cX9_amountOf : ByteArray := prog_11_method_40_code
def yX9_amountOf : MethodName := ⟨RX9, "amountOf", "(I)I"⟩
abbrev cX9_isCrowd : ByteArray := prog_11_method_41_code
def yX9_isCrowd : MethodName := ⟨RX9, "isCrowd", "(II)Z"⟩
abbrev cX9_costNow : ByteArray := prog_11_method_42_code
def yX9_costNow : MethodName := ⟨RX9, "costNow", "()I"⟩
abbrev cX9_costAt : ByteArray := prog_11_method_43_code
def yX9_costAt : MethodName := ⟨RX9, "costAt", "(II)I"⟩
abbrev cX9_manyPossible : ByteArray := prog_11_method_44_code
def yX9_manyPossible : MethodName := ⟨RX9, "manyPossible", "(I)I"⟩
abbrev cX9_cheapestOf : ByteArray := prog_11_method_45_code
def yX9_cheapestOf : MethodName := ⟨RX9, "cheapestOf", "(I)I"⟩
abbrev cX9_hardestOf : ByteArray := prog_11_method_46_code
def yX9_hardestOf : MethodName := ⟨RX9, "hardestOf", "([Z)I"⟩
abbrev cX9_place : ByteArray := prog_11_method_47_code
def yX9_place : MethodName := ⟨RX9, "place", "(III)I"⟩
abbrev cX9_wrongFree : ByteArray := prog_11_method_48_code
def yX9_wrongFree : MethodName := ⟨RX9, "wrongFree", "(I)I"⟩
abbrev cX9_remove : ByteArray := prog_11_method_49_code
def yX9_remove : MethodName := ⟨RX9, "remove", "(I)I"⟩
abbrev cX9_manyLocked : ByteArray := prog_11_method_50_code
def yX9_manyLocked : MethodName := ⟨RX9, "manyLocked", "()I"⟩
abbrev cX9_lock : ByteArray := prog_11_method_51_code
def yX9_lock : MethodName := ⟨RX9, "lock", "(I)I"⟩
abbrev cX9_unlock : ByteArray := prog_11_method_52_code
def yX9_unlock : MethodName := ⟨RX9, "unlock", "(I)I"⟩
abbrev cX9_isLocked : ByteArray := prog_11_method_53_code
def yX9_isLocked : MethodName := ⟨RX9, "isLocked", "(I)Z"⟩
abbrev cX9_placeOf : ByteArray := prog_11_method_54_code
def yX9_placeOf : MethodName := ⟨RX9, "placeOf", "(I)I"⟩
abbrev cX9_groupAt : ByteArray := prog_11_method_55_code
def yX9_groupAt : MethodName := ⟨RX9, "groupAt", "(II)I"⟩
abbrev cX9_teacherAt : ByteArray := prog_11_method_56_code
def yX9_teacherAt : MethodName := ⟨RX9, "teacherAt", "(II)I"⟩
abbrev cX9_possible : ByteArray := prog_11_method_57_code
def yX9_possible : MethodName := ⟨RX9, "possible", "(I)I"⟩
abbrev cX9_possibleAt : ByteArray := prog_11_method_58_code
def yX9_possibleAt : MethodName := ⟨RX9, "possibleAt", "(II)I"⟩
abbrev cX9_cheapest : ByteArray := prog_11_method_59_code
def yX9_cheapest : MethodName := ⟨RX9, "cheapest", "(I)I"⟩
abbrev cX9_costWith : ByteArray := prog_11_method_60_code
def yX9_costWith : MethodName := ⟨RX9, "costWith", "(III)I"⟩
abbrev cX9_unplaced : ByteArray := prog_11_method_61_code
def yX9_unplaced : MethodName := ⟨RX9, "unplaced", "()[Z"⟩
abbrev cX9_hardest : ByteArray := prog_11_method_62_code
def yX9_hardest : MethodName := ⟨RX9, "hardest", "()I"⟩
abbrev cX9_barring : ByteArray := prog_11_method_63_code
def yX9_barring : MethodName := ⟨RX9, "barring", "(II)I"⟩
abbrev cX9_throwsOut : ByteArray := prog_11_method_64_code
def yX9_throwsOut : MethodName := ⟨RX9, "throwsOut", "(I)Z"⟩
abbrev cX9_fill : ByteArray := prog_11_method_65_code
def yX9_fill : MethodName := ⟨RX9, "fill", "()I"⟩
abbrev cX9_wasMoved : ByteArray := prog_11_method_66_code
def yX9_wasMoved : MethodName := ⟨RX9, "wasMoved", "(I)Z"⟩
abbrev cX9_moves : ByteArray := prog_11_method_67_code
def yX9_moves : MethodName := ⟨RX9, "moves", "()Z"⟩
abbrev cX9_improve : ByteArray := prog_11_method_68_code
def yX9_improve : MethodName := ⟨RX9, "improve", "(I)I"⟩
abbrev cX9_cost : ByteArray := prog_11_method_69_code
def yX9_cost : MethodName := ⟨RX9, "cost", "()I"⟩
abbrev cX9_costAnew : ByteArray := prog_11_method_70_code
def yX9_costAnew : MethodName := ⟨RX9, "costAnew", "()I"⟩
abbrev cX9_amount : ByteArray := prog_11_method_71_code
def yX9_amount : MethodName := ⟨RX9, "amount", "(I)I"⟩
abbrev cX9_breaks : ByteArray := prog_11_method_72_code
def yX9_breaks : MethodName := ⟨RX9, "breaks", "()I"⟩
abbrev cX9_lacksAbove : ByteArray := prog_11_method_73_code
def yX9_lacksAbove : MethodName := ⟨RX9, "lacksAbove", "(II)I"⟩
abbrev cX9_lacking : ByteArray := prog_11_method_74_code
def yX9_lacking : MethodName := ⟨RX9, "lacking", "(I)I"⟩
abbrev cX9_lackingBySeats : ByteArray := prog_11_method_75_code
def yX9_lackingBySeats : MethodName := ⟨RX9, "lackingBySeats", "(I)I"⟩
abbrev cX9_repairs : ByteArray := prog_11_method_76_code
def yX9_repairs : MethodName := ⟨RX9, "repairs", "([Z)I"⟩
abbrev cX9_hasLocked : ByteArray := prog_11_method_77_code
def yX9_hasLocked : MethodName := ⟨RX9, "hasLocked", "([Z)Z"⟩
abbrev cX9_ill : ByteArray := prog_11_method_78_code
def yX9_ill : MethodName := ⟨RX9, "ill", "(II)I"⟩
abbrev cX9_close : ByteArray := prog_11_method_79_code
def yX9_close : MethodName := ⟨RX9, "close", "(I)I"⟩
abbrev cX9_open : ByteArray := prog_11_method_80_code
def yX9_open : MethodName := ⟨RX9, "open", "(I)I"⟩
abbrev cX9_passDay : ByteArray := prog_11_method_81_code
def yX9_passDay : MethodName := ⟨RX9, "passDay", "()I"⟩
abbrev cX9_nextWeek : ByteArray := prog_11_method_82_code
def yX9_nextWeek : MethodName := ⟨RX9, "nextWeek", "()I"⟩
abbrev cX9_today : ByteArray := prog_11_method_83_code
def yX9_today : MethodName := ⟨RX9, "today", "()I"⟩
abbrev cX9_account : ByteArray := prog_11_method_84_code
def yX9_account : MethodName := ⟨RX9, "account", "(I)I"⟩
abbrev cX9_isVersion : ByteArray := prog_11_method_85_code
def yX9_isVersion : MethodName := ⟨RX9, "isVersion", "(I)Z"⟩
abbrev cX9_save : ByteArray := prog_11_method_86_code
def yX9_save : MethodName := ⟨RX9, "save", "()I"⟩
abbrev cX9_placeIn : ByteArray := prog_11_method_87_code
def yX9_placeIn : MethodName := ⟨RX9, "placeIn", "(II)I"⟩
abbrev cX9_differences : ByteArray := prog_11_method_88_code
def yX9_differences : MethodName := ⟨RX9, "differences", "(II)I"⟩
abbrev cX9_setsFree : ByteArray := prog_11_method_89_code
def yX9_setsFree : MethodName := ⟨RX9, "setsFree", "()V"⟩
abbrev cX9_restore : ByteArray := prog_11_method_90_code
def yX9_restore : MethodName := ⟨RX9, "restore", "(I)I"⟩
abbrev cX9_merge : ByteArray := prog_11_method_91_code
def yX9_merge : MethodName := ⟨RX9, "merge", "(II)I"⟩
abbrev cX9_placedShare : ByteArray := prog_11_method_92_code
def yX9_placedShare : MethodName := ⟨RX9, "placedShare", "()F"⟩
abbrev cX9_meanPossible : ByteArray := prog_11_method_93_code
def yX9_meanPossible : MethodName := ⟨RX9, "meanPossible", "()D"⟩
abbrev cX9_isSound : ByteArray := prog_11_method_94_code
def yX9_isSound : MethodName := ⟨RX9, "isSound", "()Z"⟩
def RJx145de : String := "java/io/Serializable"
def TJx145de : u_T := fun k => match k with
  | _ => ("", "", "", false)
def tyJx145de : Nat → FieldType := fun k => match k with
  | _ => .int
abbrev wsJx145de0 : List Cond := u_ws RJx145de TJx145de 0
theorem nmJx145de : ∀ a, a < 0 → ∀ b, b < 0 → a ≠ b → (TJx145de a).2.1 ≠ (TJx145de b).2.1 := by decide +kernel
theorem tyJx145de_ok : ∀ k, k < 0 → parseFieldDescriptor (TJx145de k).2.2.1 = some (tyJx145de k) := by decide +kernel
def RJx00060 : String := "java/lang/ArrayIndexOutOfBoundsException"
def TJx00060 : u_T := fun k => match k with
  | 0 => ("java/lang/Throwable", "backtrace", "Ljava/lang/Object;", false)
  | 1 => ("java/lang/Throwable", "detailMessage", "Ljava/lang/String;", false)
  | 2 => ("java/lang/Throwable", "cause", "Ljava/lang/Throwable;", false)
  | 3 => ("java/lang/Throwable", "stackTrace", "[Ljava/lang/StackTraceElement;", false)
  | 4 => ("java/lang/Throwable", "depth", "I", false)
  | _ => ("java/lang/Throwable", "suppressedExceptions", "Ljava/util/List;", false)
def tyJx00060 : Nat → FieldType := fun k => match k with
  | 0 => .object "java/lang/Object"
  | 1 => .object "java/lang/String"
  | 2 => .object "java/lang/Throwable"
  | 3 => .array (.object "java/lang/StackTraceElement")
  | 4 => .int
  | _ => .object "java/util/List"
abbrev wsJx000600 : List Cond := u_ws RJx00060 TJx00060 6
theorem nmJx00060 : ∀ a, a < 6 → ∀ b, b < 6 → a ≠ b → (TJx00060 a).2.1 ≠ (TJx00060 b).2.1 := by decide +kernel
theorem tyJx00060_ok : ∀ k, k < 6 → parseFieldDescriptor (TJx00060 k).2.2.1 = some (tyJx00060 k) := by decide +kernel
abbrev cJx00060_init_a7421 : ByteArray := prog_14_method_2_code
def yJx00060_init_a7421 : MethodName := ⟨RJx00060, "<init>", "(Ljava/lang/String;)V"⟩
def RJx9f9b0 : String := "java/lang/CharSequence"
def TJx9f9b0 : u_T := fun k => match k with
  | _ => ("", "", "", false)
def tyJx9f9b0 : Nat → FieldType := fun k => match k with
  | _ => .int
abbrev wsJx9f9b00 : List Cond := u_ws RJx9f9b0 TJx9f9b0 0
theorem nmJx9f9b0 : ∀ a, a < 0 → ∀ b, b < 0 → a ≠ b → (TJx9f9b0 a).2.1 ≠ (TJx9f9b0 b).2.1 := by decide +kernel
theorem tyJx9f9b0_ok : ∀ k, k < 0 → parseFieldDescriptor (TJx9f9b0 k).2.2.1 = some (tyJx9f9b0 k) := by decide +kernel
def RJx8e188 : String := "java/lang/Cloneable"
def TJx8e188 : u_T := fun k => match k with
  | _ => ("", "", "", false)
def tyJx8e188 : Nat → FieldType := fun k => match k with
  | _ => .int
abbrev wsJx8e1880 : List Cond := u_ws RJx8e188 TJx8e188 0
theorem nmJx8e188 : ∀ a, a < 0 → ∀ b, b < 0 → a ≠ b → (TJx8e188 a).2.1 ≠ (TJx8e188 b).2.1 := by decide +kernel
theorem tyJx8e188_ok : ∀ k, k < 0 → parseFieldDescriptor (TJx8e188 k).2.2.1 = some (tyJx8e188 k) := by decide +kernel
def RJxb160c : String := "java/lang/Comparable"
def TJxb160c : u_T := fun k => match k with
  | _ => ("", "", "", false)
def tyJxb160c : Nat → FieldType := fun k => match k with
  | _ => .int
abbrev wsJxb160c0 : List Cond := u_ws RJxb160c TJxb160c 0
theorem nmJxb160c : ∀ a, a < 0 → ∀ b, b < 0 → a ≠ b → (TJxb160c a).2.1 ≠ (TJxb160c b).2.1 := by decide +kernel
theorem tyJxb160c_ok : ∀ k, k < 0 → parseFieldDescriptor (TJxb160c k).2.2.1 = some (tyJxb160c k) := by decide +kernel
def RJ6 : String := "java/lang/Integer"
def TJ6 : u_T := fun k => match k with
  | _ => ("", "", "", false)
def tyJ6 : Nat → FieldType := fun k => match k with
  | _ => .int
abbrev wsJ60 : List Cond := u_ws RJ6 TJ6 0
theorem nmJ6 : ∀ a, a < 0 → ∀ b, b < 0 → a ≠ b → (TJ6 a).2.1 ≠ (TJ6 b).2.1 := by decide +kernel
theorem tyJ6_ok : ∀ k, k < 0 → parseFieldDescriptor (TJ6 k).2.2.1 = some (tyJ6 k) := by decide +kernel
abbrev cJ6_bitCount_0f7a4 : ByteArray := prog_22_method_49_code
def yJ6_bitCount_0f7a4 : MethodName := ⟨RJ6, "bitCount", "(I)I"⟩
def RJxab1ab : String := "java/lang/Iterable"
def TJxab1ab : u_T := fun k => match k with
  | _ => ("", "", "", false)
def tyJxab1ab : Nat → FieldType := fun k => match k with
  | _ => .int
abbrev wsJxab1ab0 : List Cond := u_ws RJxab1ab TJxab1ab 0
theorem nmJxab1ab : ∀ a, a < 0 → ∀ b, b < 0 → a ≠ b → (TJxab1ab a).2.1 ≠ (TJxab1ab b).2.1 := by decide +kernel
theorem tyJxab1ab_ok : ∀ k, k < 0 → parseFieldDescriptor (TJxab1ab k).2.2.1 = some (tyJxab1ab k) := by decide +kernel
def RJ9 : String := "java/lang/Math"
def TJ9 : u_T := fun k => match k with
  | _ => ("", "", "", false)
def tyJ9 : Nat → FieldType := fun k => match k with
  | _ => .int
abbrev wsJ90 : List Cond := u_ws RJ9 TJ9 0
theorem nmJ9 : ∀ a, a < 0 → ∀ b, b < 0 → a ≠ b → (TJ9 a).2.1 ≠ (TJ9 b).2.1 := by decide +kernel
theorem tyJ9_ok : ∀ k, k < 0 → parseFieldDescriptor (TJ9 k).2.2.1 = some (tyJ9 k) := by decide +kernel
abbrev cJ9_max_7cf53 : ByteArray := prog_24_method_65_code
def yJ9_max_7cf53 : MethodName := ⟨RJ9, "max", "(II)I"⟩
abbrev cJ9_min_7cf53 : ByteArray := prog_24_method_69_code
def yJ9_min_7cf53 : MethodName := ⟨RJ9, "min", "(II)I"⟩
def RJ0 : String := "java/lang/String"
def TJ0 : u_T := fun k => match k with
  | 0 => ("java/lang/String", "value", "[B", true)
  | _ => ("java/lang/String", "coder", "B", true)
def tyJ0 : Nat → FieldType := fun k => match k with
  | 0 => .array .byte
  | _ => .byte
abbrev wsJ00 : List Cond := u_ws RJ0 TJ0 2
theorem nmJ0 : ∀ a, a < 2 → ∀ b, b < 2 → a ≠ b → (TJ0 a).2.1 ≠ (TJ0 b).2.1 := by decide +kernel
theorem tyJ0_ok : ∀ k, k < 2 → parseFieldDescriptor (TJ0 k).2.2.1 = some (tyJ0 k) := by decide +kernel
abbrev cJ0_length_8abf5 : ByteArray := prog_26_method_54_code
def yJ0_length_8abf5 : MethodName := ⟨RJ0, "length", "()I"⟩
abbrev cJ0_charAt_5068e : ByteArray := prog_26_method_56_code
def yJ0_charAt_5068e : MethodName := ⟨RJ0, "charAt", "(I)C"⟩
abbrev cJ0_coder_7d493 : ByteArray := prog_26_method_152_code
def yJ0_coder_7d493 : MethodName := ⟨RJ0, "coder", "()B"⟩
abbrev cJ0_isLatin1_aae02 : ByteArray := prog_26_method_154_code
def yJ0_isLatin1_aae02 : MethodName := ⟨RJ0, "isLatin1", "()Z"⟩
abbrev cJ0_checkIndex_df160 : ByteArray := prog_26_method_155_code
def yJ0_checkIndex_df160 : MethodName := ⟨RJ0, "checkIndex", "(II)V"⟩
def RJ1 : String := "java/lang/StringLatin1"
def TJ1 : u_T := fun k => match k with
  | _ => ("", "", "", false)
def tyJ1 : Nat → FieldType := fun k => match k with
  | _ => .int
abbrev wsJ10 : List Cond := u_ws RJ1 TJ1 0
theorem nmJ1 : ∀ a, a < 0 → ∀ b, b < 0 → a ≠ b → (TJ1 a).2.1 ≠ (TJ1 b).2.1 := by decide +kernel
theorem tyJ1_ok : ∀ k, k < 0 → parseFieldDescriptor (TJ1 k).2.2.1 = some (tyJ1 k) := by decide +kernel
abbrev cJ1_charAt_3b067 : ByteArray := prog_27_method_2_code
def yJ1_charAt_3b067 : MethodName := ⟨RJ1, "charAt", "([BI)C"⟩
def RJ2 : String := "java/lang/StringUTF16"
def TJ2 : u_T := fun k => match k with
  | _ => ("", "", "", false)
def tyJ2 : Nat → FieldType := fun k => match k with
  | _ => .int
abbrev wsJ20 : List Cond := u_ws RJ2 TJ2 0
theorem nmJ2 : ∀ a, a < 0 → ∀ b, b < 0 → a ≠ b → (TJ2 a).2.1 ≠ (TJ2 b).2.1 := by decide +kernel
theorem tyJ2_ok : ∀ k, k < 0 → parseFieldDescriptor (TJ2 k).2.2.1 = some (tyJ2 k) := by decide +kernel
abbrev cJ2_getChar_3b067 : ByteArray := prog_28_method_5_code
def yJ2_getChar_3b067 : MethodName := ⟨RJ2, "getChar", "([BI)C"⟩
abbrev cJ2_length_9d52b : ByteArray := prog_28_method_6_code
def yJ2_length_9d52b : MethodName := ⟨RJ2, "length", "([B)I"⟩
abbrev cJ2_charAt_3b067 : ByteArray := prog_28_method_83_code
def yJ2_charAt_3b067 : MethodName := ⟨RJ2, "charAt", "([BI)C"⟩
abbrev cJ2_checkIndex_2214a : ByteArray := prog_28_method_91_code
def yJ2_checkIndex_2214a : MethodName := ⟨RJ2, "checkIndex", "(I[B)V"⟩
def RJ10 : String := "java/lang/System"
def TJ10 : u_T := fun k => match k with
  | _ => ("", "", "", false)
def tyJ10 : Nat → FieldType := fun k => match k with
  | _ => .int
abbrev wsJ100 : List Cond := u_ws RJ10 TJ10 0
theorem nmJ10 : ∀ a, a < 0 → ∀ b, b < 0 → a ≠ b → (TJ10 a).2.1 ≠ (TJ10 b).2.1 := by decide +kernel
theorem tyJ10_ok : ∀ k, k < 0 → parseFieldDescriptor (TJ10 k).2.2.1 = some (tyJ10 k) := by decide +kernel
def RJxfd54e : String := "java/lang/constant/Constable"
def TJxfd54e : u_T := fun k => match k with
  | _ => ("", "", "", false)
def tyJxfd54e : Nat → FieldType := fun k => match k with
  | _ => .int
abbrev wsJxfd54e0 : List Cond := u_ws RJxfd54e TJxfd54e 0
theorem nmJxfd54e : ∀ a, a < 0 → ∀ b, b < 0 → a ≠ b → (TJxfd54e a).2.1 ≠ (TJxfd54e b).2.1 := by decide +kernel
theorem tyJxfd54e_ok : ∀ k, k < 0 → parseFieldDescriptor (TJxfd54e k).2.2.1 = some (tyJxfd54e k) := by decide +kernel
def RJx3cf43 : String := "java/lang/constant/ConstantDesc"
def TJx3cf43 : u_T := fun k => match k with
  | _ => ("", "", "", false)
def tyJx3cf43 : Nat → FieldType := fun k => match k with
  | _ => .int
abbrev wsJx3cf430 : List Cond := u_ws RJx3cf43 TJx3cf43 0
theorem nmJx3cf43 : ∀ a, a < 0 → ∀ b, b < 0 → a ≠ b → (TJx3cf43 a).2.1 ≠ (TJx3cf43 b).2.1 := by decide +kernel
theorem tyJx3cf43_ok : ∀ k, k < 0 → parseFieldDescriptor (TJx3cf43 k).2.2.1 = some (tyJx3cf43 k) := by decide +kernel
def RJxa1e45 : String := "java/util/AbstractCollection"
def TJxa1e45 : u_T := fun k => match k with
  | _ => ("", "", "", false)
def tyJxa1e45 : Nat → FieldType := fun k => match k with
  | _ => .int
abbrev wsJxa1e450 : List Cond := u_ws RJxa1e45 TJxa1e45 0
theorem nmJxa1e45 : ∀ a, a < 0 → ∀ b, b < 0 → a ≠ b → (TJxa1e45 a).2.1 ≠ (TJxa1e45 b).2.1 := by decide +kernel
theorem tyJxa1e45_ok : ∀ k, k < 0 → parseFieldDescriptor (TJxa1e45 k).2.2.1 = some (tyJxa1e45 k) := by decide +kernel
abbrev cJxa1e45_init_da8c8 : ByteArray := prog_34_method_1_code
def yJxa1e45_init_da8c8 : MethodName := ⟨RJxa1e45, "<init>", "()V"⟩
def RJxc12de : String := "java/util/AbstractList"
def TJxc12de : u_T := fun k => match k with
  | _ => ("", "", "", false)
def tyJxc12de : Nat → FieldType := fun k => match k with
  | _ => .int
abbrev wsJxc12de0 : List Cond := u_ws RJxc12de TJxc12de 0
theorem nmJxc12de : ∀ a, a < 0 → ∀ b, b < 0 → a ≠ b → (TJxc12de a).2.1 ≠ (TJxc12de b).2.1 := by decide +kernel
theorem tyJxc12de_ok : ∀ k, k < 0 → parseFieldDescriptor (TJxc12de k).2.2.1 = some (tyJxc12de k) := by decide +kernel
abbrev cJxc12de_init_da8c8 : ByteArray := prog_35_method_1_code
def yJxc12de_init_da8c8 : MethodName := ⟨RJxc12de, "<init>", "()V"⟩
def RJx4a65c : String := "java/util/ArrayList"
def TJx4a65c : u_T := fun k => match k with
  | 0 => ("java/util/AbstractList", "modCount", "I", false)
  | 1 => ("java/util/ArrayList", "elementData", "[Ljava/lang/Object;", false)
  | _ => ("java/util/ArrayList", "size", "I", false)
def tyJx4a65c : Nat → FieldType := fun k => match k with
  | 0 => .int
  | 1 => .array (.object "java/lang/Object")
  | _ => .int
abbrev wsJx4a65c0 : List Cond := u_ws RJx4a65c TJx4a65c 3
theorem nmJx4a65c : ∀ a, a < 3 → ∀ b, b < 3 → a ≠ b → (TJx4a65c a).2.1 ≠ (TJx4a65c b).2.1 := by decide +kernel
theorem tyJx4a65c_ok : ∀ k, k < 3 → parseFieldDescriptor (TJx4a65c k).2.2.1 = some (tyJx4a65c k) := by decide +kernel
abbrev cJx4a65c_init_da8c8 : ByteArray := prog_36_method_2_code
def yJx4a65c_init_da8c8 : MethodName := ⟨RJx4a65c, "<init>", "()V"⟩
abbrev cJx4a65c_grow_92f84 : ByteArray := prog_36_method_6_code
def yJx4a65c_grow_92f84 : MethodName := ⟨RJx4a65c, "grow", "(I)[Ljava/lang/Object;"⟩
abbrev cJx4a65c_grow_d5877 : ByteArray := prog_36_method_7_code
def yJx4a65c_grow_d5877 : MethodName := ⟨RJx4a65c, "grow", "()[Ljava/lang/Object;"⟩
abbrev cJx4a65c_size_8abf5 : ByteArray := prog_36_method_8_code
def yJx4a65c_size_8abf5 : MethodName := ⟨RJx4a65c, "size", "()I"⟩
abbrev cJx4a65c_isEmpty_aae02 : ByteArray := prog_36_method_9_code
def yJx4a65c_isEmpty_aae02 : MethodName := ⟨RJx4a65c, "isEmpty", "()Z"⟩
abbrev cJx4a65c_elementData_915e3 : ByteArray := prog_36_method_18_code
def yJx4a65c_elementData_915e3 : MethodName := ⟨RJx4a65c, "elementData", "(I)Ljava/lang/Object;"⟩
abbrev cJx4a65c_get_915e3 : ByteArray := prog_36_method_20_code
def yJx4a65c_get_915e3 : MethodName := ⟨RJx4a65c, "get", "(I)Ljava/lang/Object;"⟩
abbrev cJx4a65c_add_72be8 : ByteArray := prog_36_method_24_code
def yJx4a65c_add_72be8 : MethodName := ⟨RJx4a65c, "add", "(Ljava/lang/Object;[Ljava/lang/Object;I)V"⟩
abbrev cJx4a65c_add_9ea2d : ByteArray := prog_36_method_25_code
def yJx4a65c_add_9ea2d : MethodName := ⟨RJx4a65c, "add", "(Ljava/lang/Object;)Z"⟩
def RJ7 : String := "java/util/Arrays"
def TJ7 : u_T := fun k => match k with
  | _ => ("", "", "", false)
def tyJ7 : Nat → FieldType := fun k => match k with
  | _ => .int
abbrev wsJ70 : List Cond := u_ws RJ7 TJ7 0
theorem nmJ7 : ∀ a, a < 0 → ∀ b, b < 0 → a ≠ b → (TJ7 a).2.1 ≠ (TJ7 b).2.1 := by decide +kernel
theorem tyJ7_ok : ∀ k, k < 0 → parseFieldDescriptor (TJ7 k).2.2.1 = some (tyJ7 k) := by decide +kernel
abbrev cJ7_fill_53178 : ByteArray := prog_37_method_103_code
def yJ7_fill_53178 : MethodName := ⟨RJ7, "fill", "([II)V"⟩
abbrev cJ7_copyOf_1904c : ByteArray := prog_37_method_119_code
def yJ7_copyOf_1904c : MethodName := ⟨RJ7, "copyOf", "([Ljava/lang/Object;I)[Ljava/lang/Object;"⟩
abbrev cJ7_copyOf_6403c : ByteArray := prog_37_method_120_code
def yJ7_copyOf_6403c : MethodName := ⟨RJ7, "copyOf", "([Ljava/lang/Object;ILjava/lang/Class;)[Ljava/lang/Object;"⟩
def RJx5ef63 : String := "java/util/Collection"
def TJx5ef63 : u_T := fun k => match k with
  | _ => ("", "", "", false)
def tyJx5ef63 : Nat → FieldType := fun k => match k with
  | _ => .int
abbrev wsJx5ef630 : List Cond := u_ws RJx5ef63 TJx5ef63 0
theorem nmJx5ef63 : ∀ a, a < 0 → ∀ b, b < 0 → a ≠ b → (TJx5ef63 a).2.1 ≠ (TJx5ef63 b).2.1 := by decide +kernel
theorem tyJx5ef63_ok : ∀ k, k < 0 → parseFieldDescriptor (TJx5ef63 k).2.2.1 = some (tyJx5ef63 k) := by decide +kernel
def RJxbd725 : String := "java/util/List"
def TJxbd725 : u_T := fun k => match k with
  | _ => ("", "", "", false)
def tyJxbd725 : Nat → FieldType := fun k => match k with
  | _ => .int
abbrev wsJxbd7250 : List Cond := u_ws RJxbd725 TJxbd725 0
theorem nmJxbd725 : ∀ a, a < 0 → ∀ b, b < 0 → a ≠ b → (TJxbd725 a).2.1 ≠ (TJxbd725 b).2.1 := by decide +kernel
theorem tyJxbd725_ok : ∀ k, k < 0 → parseFieldDescriptor (TJxbd725 k).2.2.1 = some (tyJxbd725 k) := by decide +kernel
def RJ15 : String := "java/util/Objects"
def TJ15 : u_T := fun k => match k with
  | _ => ("", "", "", false)
def tyJ15 : Nat → FieldType := fun k => match k with
  | _ => .int
abbrev wsJ150 : List Cond := u_ws RJ15 TJ15 0
theorem nmJ15 : ∀ a, a < 0 → ∀ b, b < 0 → a ≠ b → (TJ15 a).2.1 ≠ (TJ15 b).2.1 := by decide +kernel
theorem tyJ15_ok : ∀ k, k < 0 → parseFieldDescriptor (TJ15 k).2.2.1 = some (tyJ15 k) := by decide +kernel
abbrev cJ15_checkIndex_7cf53 : ByteArray := prog_41_method_17_code
def yJ15_checkIndex_7cf53 : MethodName := ⟨RJ15, "checkIndex", "(II)I"⟩
def RJxf0a74 : String := "java/util/RandomAccess"
def TJxf0a74 : u_T := fun k => match k with
  | _ => ("", "", "", false)
def tyJxf0a74 : Nat → FieldType := fun k => match k with
  | _ => .int
abbrev wsJxf0a740 : List Cond := u_ws RJxf0a74 TJxf0a74 0
theorem nmJxf0a74 : ∀ a, a < 0 → ∀ b, b < 0 → a ≠ b → (TJxf0a74 a).2.1 ≠ (TJxf0a74 b).2.1 := by decide +kernel
theorem tyJxf0a74_ok : ∀ k, k < 0 → parseFieldDescriptor (TJxf0a74 k).2.2.1 = some (tyJxf0a74 k) := by decide +kernel
def RJxa66e6 : String := "java/util/SequencedCollection"
def TJxa66e6 : u_T := fun k => match k with
  | _ => ("", "", "", false)
def tyJxa66e6 : Nat → FieldType := fun k => match k with
  | _ => .int
abbrev wsJxa66e60 : List Cond := u_ws RJxa66e6 TJxa66e6 0
theorem nmJxa66e6 : ∀ a, a < 0 → ∀ b, b < 0 → a ≠ b → (TJxa66e6 a).2.1 ≠ (TJxa66e6 b).2.1 := by decide +kernel
theorem tyJxa66e6_ok : ∀ k, k < 0 → parseFieldDescriptor (TJxa66e6 k).2.2.1 = some (tyJxa66e6 k) := by decide +kernel
def RJ8 : String := "jdk/internal/util/ArraysSupport"
def TJ8 : u_T := fun k => match k with
  | _ => ("", "", "", false)
def tyJ8 : Nat → FieldType := fun k => match k with
  | _ => .int
abbrev wsJ80 : List Cond := u_ws RJ8 TJ8 0
theorem nmJ8 : ∀ a, a < 0 → ∀ b, b < 0 → a ≠ b → (TJ8 a).2.1 ≠ (TJ8 b).2.1 := by decide +kernel
theorem tyJ8_ok : ∀ k, k < 0 → parseFieldDescriptor (TJ8 k).2.2.1 = some (tyJ8 k) := by decide +kernel
abbrev cJ8_newLength_cabcc : ByteArray := prog_44_method_27_code
def yJ8_newLength_cabcc : MethodName := ⟨RJ8, "newLength", "(III)I"⟩
abbrev cJ8_hugeLength_7cf53 : ByteArray := prog_44_method_28_code
def yJ8_hugeLength_7cf53 : MethodName := ⟨RJ8, "hugeLength", "(II)I"⟩
def RJ3 : String := "jdk/internal/util/Preconditions"
def TJ3 : u_T := fun k => match k with
  | _ => ("", "", "", false)
def tyJ3 : Nat → FieldType := fun k => match k with
  | _ => .int
abbrev wsJ30 : List Cond := u_ws RJ3 TJ3 0
theorem nmJ3 : ∀ a, a < 0 → ∀ b, b < 0 → a ≠ b → (TJ3 a).2.1 ≠ (TJ3 b).2.1 := by decide +kernel
theorem tyJ3_ok : ∀ k, k < 0 → parseFieldDescriptor (TJ3 k).2.2.1 = some (tyJ3 k) := by decide +kernel
abbrev cJ3_checkIndex_8e157 : ByteArray := prog_45_method_11_code
def yJ3_checkIndex_8e157 : MethodName := ⟨RJ3, "checkIndex", "(IILjava/util/function/BiFunction;)I"⟩
def RL : String := "TermgridLaw"
abbrev cL_addRoom : ByteArray := method_3_code
def yL_addRoom : MethodName := ⟨RL, "addRoom", "(LTermgrid;III[J)I"⟩
abbrev cL_addTeacher : ByteArray := method_4_code
def yL_addTeacher : MethodName := ⟨RL, "addTeacher", "(LTermgrid;I[J)I"⟩
abbrev cL_addGroup : ByteArray := method_5_code
def yL_addGroup : MethodName := ⟨RL, "addGroup", "(LTermgrid;I[J)I"⟩
abbrev cL_addLesson : ByteArray := method_6_code
def yL_addLesson : MethodName := ⟨RL, "addLesson", "(LTermgrid;IIIII[J)I"⟩
abbrev cL_setWish : ByteArray := method_7_code
def yL_setWish : MethodName := ⟨RL, "setWish", "(LTermgrid;III[J)I"⟩
abbrev cL_setWeight : ByteArray := method_8_code
def yL_setWeight : MethodName := ⟨RL, "setWeight", "(LTermgrid;II[J)I"⟩
abbrev cL_reason : ByteArray := method_9_code
def yL_reason : MethodName := ⟨RL, "reason", "(LTermgrid;III[J)I"⟩
abbrev cL_reasons : ByteArray := method_10_code
def yL_reasons : MethodName := ⟨RL, "reasons", "(LTermgrid;II[J)I"⟩
abbrev cL_place : ByteArray := method_11_code
def yL_place : MethodName := ⟨RL, "place", "(LTermgrid;III[J)I"⟩
abbrev cL_remove : ByteArray := method_12_code
def yL_remove : MethodName := ⟨RL, "remove", "(LTermgrid;I[J)I"⟩
abbrev cL_lock : ByteArray := method_13_code
def yL_lock : MethodName := ⟨RL, "lock", "(LTermgrid;I[J)I"⟩
abbrev cL_unlock : ByteArray := method_14_code
def yL_unlock : MethodName := ⟨RL, "unlock", "(LTermgrid;I[J)I"⟩
abbrev cL_isLocked : ByteArray := method_15_code
def yL_isLocked : MethodName := ⟨RL, "isLocked", "(LTermgrid;I[J)I"⟩
abbrev cL_placeOf : ByteArray := method_16_code
def yL_placeOf : MethodName := ⟨RL, "placeOf", "(LTermgrid;I[J)I"⟩
abbrev cL_groupAt : ByteArray := method_17_code
def yL_groupAt : MethodName := ⟨RL, "groupAt", "(LTermgrid;II[J)I"⟩
abbrev cL_teacherAt : ByteArray := method_18_code
def yL_teacherAt : MethodName := ⟨RL, "teacherAt", "(LTermgrid;II[J)I"⟩
abbrev cL_possible : ByteArray := method_19_code
def yL_possible : MethodName := ⟨RL, "possible", "(LTermgrid;I[J)I"⟩
abbrev cL_possibleAt : ByteArray := method_20_code
def yL_possibleAt : MethodName := ⟨RL, "possibleAt", "(LTermgrid;II[J)I"⟩
abbrev cL_cheapest : ByteArray := method_21_code
def yL_cheapest : MethodName := ⟨RL, "cheapest", "(LTermgrid;I[J)I"⟩
abbrev cL_costWith : ByteArray := method_22_code
def yL_costWith : MethodName := ⟨RL, "costWith", "(LTermgrid;III[J)I"⟩
abbrev cL_hardest : ByteArray := method_23_code
def yL_hardest : MethodName := ⟨RL, "hardest", "(LTermgrid;[J)I"⟩
abbrev cL_improve : ByteArray := method_24_code
def yL_improve : MethodName := ⟨RL, "improve", "(LTermgrid;I[J)I"⟩
abbrev cL_amount : ByteArray := method_25_code
def yL_amount : MethodName := ⟨RL, "amount", "(LTermgrid;I[J)I"⟩
abbrev cL_lacking : ByteArray := method_26_code
def yL_lacking : MethodName := ⟨RL, "lacking", "(LTermgrid;I[J)I"⟩
abbrev cL_lackingBySeats : ByteArray := method_27_code
def yL_lackingBySeats : MethodName := ⟨RL, "lackingBySeats", "(LTermgrid;I[J)I"⟩
abbrev cL_ill : ByteArray := method_28_code
def yL_ill : MethodName := ⟨RL, "ill", "(LTermgrid;II[J)I"⟩
abbrev cL_close : ByteArray := method_29_code
def yL_close : MethodName := ⟨RL, "close", "(LTermgrid;I[J)I"⟩
abbrev cL_open : ByteArray := method_30_code
def yL_open : MethodName := ⟨RL, "open", "(LTermgrid;I[J)I"⟩
abbrev cL_passDay : ByteArray := method_31_code
def yL_passDay : MethodName := ⟨RL, "passDay", "(LTermgrid;[J)I"⟩
abbrev cL_nextWeek : ByteArray := method_32_code
def yL_nextWeek : MethodName := ⟨RL, "nextWeek", "(LTermgrid;[J)I"⟩
abbrev cL_account : ByteArray := method_33_code
def yL_account : MethodName := ⟨RL, "account", "(LTermgrid;I[J)I"⟩
abbrev cL_save : ByteArray := method_34_code
def yL_save : MethodName := ⟨RL, "save", "(LTermgrid;[J)I"⟩
abbrev cL_placeIn : ByteArray := method_35_code
def yL_placeIn : MethodName := ⟨RL, "placeIn", "(LTermgrid;II[J)I"⟩
abbrev cL_differences : ByteArray := method_36_code
def yL_differences : MethodName := ⟨RL, "differences", "(LTermgrid;II[J)I"⟩
abbrev cL_restore : ByteArray := method_37_code
def yL_restore : MethodName := ⟨RL, "restore", "(LTermgrid;I[J)I"⟩
abbrev cL_merge : ByteArray := method_38_code
def yL_merge : MethodName := ⟨RL, "merge", "(LTermgrid;II[J)I"⟩
abbrev cL_placedShare : ByteArray := method_39_code
def yL_placedShare : MethodName := ⟨RL, "placedShare", "(LTermgrid;[D)I"⟩
abbrev cL_meanPossible : ByteArray := method_40_code
def yL_meanPossible : MethodName := ⟨RL, "meanPossible", "(LTermgrid;[D)I"⟩
abbrev cL_law : ByteArray := code
def yL_law : MethodName := ⟨RL, "law", "([I)Z"⟩
abbrev vwCl : List vw_C := [(RJ0, TJ0, 2), (RJx00060, TJx00060, 6), (RJx4a65c, TJx4a65c, 3), (RX0, TX0, 1), (RX1, TX1, 1), (RX2, TX2, 1), (RX3, TX3, 2), (RX4, TX4, 18), (RX5, TX5, 5), (RX6, TX6, 6), (RX7, TX7, 3), (RX8, TX8, 10), (RX9, TX9, 28)]
