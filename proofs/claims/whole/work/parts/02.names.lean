/-! ===== BEGIN printed: names, fields, word lists, decode rows ===== -/
def RX0 : String := "StormFlags$Boat"
def TX0 : u_T := fun k => match k with
  | 0 => ("StormFlags$Boat", "home", "LStormFlags$Port;", true)
  | 1 => ("StormFlags$Boat", "bold", "I", true)
  | 2 => ("StormFlags$Boat", "strength", "I", true)
  | 3 => ("StormFlags$Boat", "state", "I", false)
  | 4 => ("StormFlags$Boat", "hour", "I", false)
  | 5 => ("StormFlags$Boat", "tripHours", "I", false)
  | 6 => ("StormFlags$Boat", "timesSailed", "I", false)
  | _ => ("StormFlags$Boat", "timesStayed", "I", false)
def tyX0 : Nat → FieldType := fun k => match k with
  | 0 => .object "StormFlags$Port"
  | 1 => .int
  | 2 => .int
  | 3 => .int
  | 4 => .int
  | 5 => .int
  | 6 => .int
  | _ => .int
theorem nmX0 : ∀ a, a < 8 → ∀ b, b < 8 → a ≠ b → (TX0 a).2.1 ≠ (TX0 b).2.1 := by decide +kernel
theorem tyX0_ok : ∀ k, k < 8 → parseFieldDescriptor (TX0 k).2.2.1 = some (tyX0 k) := by decide +kernel
abbrev cX0_init : ByteArray := prog_2_method_1_code
def yX0_init : MethodName := ⟨RX0, "<init>", "(LStormFlags$Port;II)V"⟩
abbrev cX0_plan : ByteArray := prog_2_method_2_code
def yX0_plan : MethodName := ⟨RX0, "plan", "(II)Z"⟩
abbrev cX0_comeHomeIfDue : ByteArray := prog_2_method_3_code
def yX0_comeHomeIfDue : MethodName := ⟨RX0, "comeHomeIfDue", "(I)V"⟩
abbrev cX0_isToSailAt : ByteArray := prog_2_method_4_code
def yX0_isToSailAt : MethodName := ⟨RX0, "isToSailAt", "(I)Z"⟩
abbrev cX0_sailOrStay : ByteArray := prog_2_method_5_code
def yX0_sailOrStay : MethodName := ⟨RX0, "sailOrStay", "(I)V"⟩
abbrev cX0_goDown : ByteArray := prog_2_method_6_code
def yX0_goDown : MethodName := ⟨RX0, "goDown", "(I)V"⟩
abbrev cX0_fears : ByteArray := prog_2_method_7_code
def yX0_fears : MethodName := ⟨RX0, "fears", "(I)Z"⟩
abbrev cX0_restAtHome : ByteArray := prog_2_method_8_code
def yX0_restAtHome : MethodName := ⟨RX0, "restAtHome", "()V"⟩
def RX1 : String := "StormFlags$Gale"
def TX1 : u_T := fun k => match k with
  | 0 => ("StormFlags$Gale", "port", "I", true)
  | 1 => ("StormFlags$Gale", "from", "I", true)
  | 2 => ("StormFlags$Gale", "to", "I", true)
  | _ => ("StormFlags$Gale", "force", "I", true)
def tyX1 : Nat → FieldType := fun k => match k with
  | 0 => .int
  | 1 => .int
  | 2 => .int
  | _ => .int
theorem nmX1 : ∀ a, a < 4 → ∀ b, b < 4 → a ≠ b → (TX1 a).2.1 ≠ (TX1 b).2.1 := by decide +kernel
theorem tyX1_ok : ∀ k, k < 4 → parseFieldDescriptor (TX1 k).2.2.1 = some (tyX1 k) := by decide +kernel
abbrev cX1_init : ByteArray := prog_3_method_1_code
def yX1_init : MethodName := ⟨RX1, "<init>", "(IIII)V"⟩
abbrev cX1_blows : ByteArray := prog_3_method_2_code
def yX1_blows : MethodName := ⟨RX1, "blows", "(LStormFlags$Port;II)Z"⟩
def RX2 : String := "StormFlags$Outlook"
def TX2 : u_T := fun k => match k with
  | 0 => ("StormFlags$Outlook", "coast", "I", false)
  | 1 => ("StormFlags$Outlook", "glassBefore", "I", false)
  | 2 => ("StormFlags$Outlook", "glass", "I", false)
  | _ => ("StormFlags$Outlook", "wind", "I", false)
def tyX2 : Nat → FieldType := fun k => match k with
  | 0 => .int
  | 1 => .int
  | 2 => .int
  | _ => .int
theorem nmX2 : ∀ a, a < 4 → ∀ b, b < 4 → a ≠ b → (TX2 a).2.1 ≠ (TX2 b).2.1 := by decide +kernel
theorem tyX2_ok : ∀ k, k < 4 → parseFieldDescriptor (TX2 k).2.2.1 = some (tyX2 k) := by decide +kernel
abbrev cX2_init : ByteArray := prog_4_method_1_code
def yX2_init : MethodName := ⟨RX2, "<init>", "()V"⟩
abbrev cX2_signOf : ByteArray := prog_4_method_2_code
def yX2_signOf : MethodName := ⟨RX2, "signOf", "(I)C"⟩
abbrev cX2_meets : ByteArray := prog_4_method_3_code
def yX2_meets : MethodName := ⟨RX2, "meets", "(II)Z"⟩
def RX3 : String := "StormFlags$Port"
def TX3 : u_T := fun k => match k with
  | 0 => ("StormFlags$Port", "number", "I", true)
  | 1 => ("StormFlags$Port", "x", "I", true)
  | 2 => ("StormFlags$Port", "y", "I", true)
  | 3 => ("StormFlags$Port", "coast", "I", true)
  | 4 => ("StormFlags$Port", "wire", "I", true)
  | _ => ("StormFlags$Port", "latest", "LStormFlags$Report;", false)
def tyX3 : Nat → FieldType := fun k => match k with
  | 0 => .int
  | 1 => .int
  | 2 => .int
  | 3 => .int
  | 4 => .int
  | _ => .object "StormFlags$Report"
theorem nmX3 : ∀ a, a < 6 → ∀ b, b < 6 → a ≠ b → (TX3 a).2.1 ≠ (TX3 b).2.1 := by decide +kernel
theorem tyX3_ok : ∀ k, k < 6 → parseFieldDescriptor (TX3 k).2.2.1 = some (tyX3 k) := by decide +kernel
abbrev cX3_init : ByteArray := prog_5_method_1_code
def yX3_init : MethodName := ⟨RX3, "<init>", "(IIIII)V"⟩
abbrev cX3_countingReport : ByteArray := prog_5_method_2_code
def yX3_countingReport : MethodName := ⟨RX3, "countingReport", "(II)LStormFlags$Report;"⟩
abbrev cX3_windKnown : ByteArray := prog_5_method_3_code
def yX3_windKnown : MethodName := ⟨RX3, "windKnown", "(II)I"⟩
abbrev cX3_weightAt : ByteArray := prog_5_method_4_code
def yX3_weightAt : MethodName := ⟨RX3, "weightAt", "(II)I"⟩
def RX4 : String := "StormFlags$Report"
def TX4 : u_T := fun k => match k with
  | 0 => ("StormFlags$Report", "number", "I", true)
  | 1 => ("StormFlags$Report", "watch", "I", true)
  | 2 => ("StormFlags$Report", "glass", "I", true)
  | 3 => ("StormFlags$Report", "wind", "I", true)
  | 4 => ("StormFlags$Report", "knownFrom", "I", true)
  | _ => ("StormFlags$Report", "earlier", "LStormFlags$Report;", true)
def tyX4 : Nat → FieldType := fun k => match k with
  | 0 => .int
  | 1 => .int
  | 2 => .int
  | 3 => .int
  | 4 => .int
  | _ => .object "StormFlags$Report"
theorem nmX4 : ∀ a, a < 6 → ∀ b, b < 6 → a ≠ b → (TX4 a).2.1 ≠ (TX4 b).2.1 := by decide +kernel
theorem tyX4_ok : ∀ k, k < 6 → parseFieldDescriptor (TX4 k).2.2.1 = some (tyX4 k) := by decide +kernel
abbrev cX4_init : ByteArray := prog_6_method_1_code
def yX4_init : MethodName := ⟨RX4, "<init>", "(IIIIILStormFlags$Report;)V"⟩
def RX5 : String := "StormFlags$RuleBook"
def TX5 : u_T := fun k => match k with
  | 0 => ("StormFlags$RuleBook", "flags", "[I", true)
  | 1 => ("StormFlags$RuleBook", "conditions", "[I", true)
  | 2 => ("StormFlags$RuleBook", "kinds", "[[I", true)
  | 3 => ("StormFlags$RuleBook", "numbers", "[[I", true)
  | _ => ("StormFlags$RuleBook", "size", "I", false)
def tyX5 : Nat → FieldType := fun k => match k with
  | 0 => .array .int
  | 1 => .array .int
  | 2 => .array (.array .int)
  | 3 => .array (.array .int)
  | _ => .int
theorem nmX5 : ∀ a, a < 5 → ∀ b, b < 5 → a ≠ b → (TX5 a).2.1 ≠ (TX5 b).2.1 := by decide +kernel
theorem tyX5_ok : ∀ k, k < 5 → parseFieldDescriptor (TX5 k).2.2.1 = some (tyX5 k) := by decide +kernel
abbrev cX5_init : ByteArray := prog_7_method_1_code
def yX5_init : MethodName := ⟨RX5, "<init>", "()V"⟩
abbrev cX5_size : ByteArray := prog_7_method_2_code
def yX5_size : MethodName := ⟨RX5, "size", "()I"⟩
abbrev cX5_flagOf : ByteArray := prog_7_method_3_code
def yX5_flagOf : MethodName := ⟨RX5, "flagOf", "(I)I"⟩
abbrev cX5_holds : ByteArray := prog_7_method_4_code
def yX5_holds : MethodName := ⟨RX5, "holds", "(ILStormFlags$Outlook;)Z"⟩
abbrev cX5_readFrom : ByteArray := prog_7_method_5_code
def yX5_readFrom : MethodName := ⟨RX5, "readFrom", "(LStormFlags$Tape;)I"⟩
abbrev cX5_readRule : ByteArray := prog_7_method_6_code
def yX5_readRule : MethodName := ⟨RX5, "readRule", "(LStormFlags$Tape;I)Z"⟩
abbrev cX5_readCondition : ByteArray := prog_7_method_7_code
def yX5_readCondition : MethodName := ⟨RX5, "readCondition", "(LStormFlags$Tape;II)Z"⟩
abbrev cX5_readFlag : ByteArray := prog_7_method_8_code
def yX5_readFlag : MethodName := ⟨RX5, "readFlag", "(LStormFlags$Tape;)I"⟩
abbrev cX5_readKind : ByteArray := prog_7_method_9_code
def yX5_readKind : MethodName := ⟨RX5, "readKind", "(LStormFlags$Tape;)I"⟩
def RX6 : String := "StormFlags$Tape"
def TX6 : u_T := fun k => match k with
  | 0 => ("StormFlags$Tape", "bytes", "[I", true)
  | 1 => ("StormFlags$Tape", "length", "I", false)
  | _ => ("StormFlags$Tape", "place", "I", false)
def tyX6 : Nat → FieldType := fun k => match k with
  | 0 => .array .int
  | 1 => .int
  | _ => .int
theorem nmX6 : ∀ a, a < 3 → ∀ b, b < 3 → a ≠ b → (TX6 a).2.1 ≠ (TX6 b).2.1 := by decide +kernel
theorem tyX6_ok : ∀ k, k < 3 → parseFieldDescriptor (TX6 k).2.2.1 = some (tyX6 k) := by decide +kernel
abbrev cX6_init : ByteArray := prog_8_method_1_code
def yX6_init : MethodName := ⟨RX6, "<init>", "()V"⟩
abbrev cX6_length : ByteArray := prog_8_method_2_code
def yX6_length : MethodName := ⟨RX6, "length", "()I"⟩
abbrev cX6_place : ByteArray := prog_8_method_3_code
def yX6_place : MethodName := ⟨RX6, "place", "()I"⟩
abbrev cX6_hasRoomFor : ByteArray := prog_8_method_4_code
def yX6_hasRoomFor : MethodName := ⟨RX6, "hasRoomFor", "(I)Z"⟩
abbrev cX6_append : ByteArray := prog_8_method_5_code
def yX6_append : MethodName := ⟨RX6, "append", "(I)V"⟩
abbrev cX6_cutTo : ByteArray := prog_8_method_6_code
def yX6_cutTo : MethodName := ⟨RX6, "cutTo", "(I)Z"⟩
abbrev cX6_rewind : ByteArray := prog_8_method_7_code
def yX6_rewind : MethodName := ⟨RX6, "rewind", "()V"⟩
abbrev cX6_isReadUp : ByteArray := prog_8_method_8_code
def yX6_isReadUp : MethodName := ⟨RX6, "isReadUp", "()Z"⟩
abbrev cX6_takeSign : ByteArray := prog_8_method_9_code
def yX6_takeSign : MethodName := ⟨RX6, "takeSign", "(C)Z"⟩
abbrev cX6_takeWord : ByteArray := prog_8_method_10_code
def yX6_takeWord : MethodName := ⟨RX6, "takeWord", "(Ljava/lang/String;)Z"⟩
abbrev cX6_takeNumber : ByteArray := prog_8_method_11_code
def yX6_takeNumber : MethodName := ⟨RX6, "takeNumber", "()I"⟩
abbrev cX6_moveTo : ByteArray := prog_8_method_12_code
def yX6_moveTo : MethodName := ⟨RX6, "moveTo", "(I)V"⟩
abbrev cX6_endOfRun : ByteArray := prog_8_method_13_code
def yX6_endOfRun : MethodName := ⟨RX6, "endOfRun", "(CC)I"⟩
abbrev cX6_byteAt : ByteArray := prog_8_method_14_code
def yX6_byteAt : MethodName := ⟨RX6, "byteAt", "(I)I"⟩
def RX7 : String := "StormFlags$Warning"
def TX7 : u_T := fun k => match k with
  | 0 => ("StormFlags$Warning", "hour", "I", true)
  | 1 => ("StormFlags$Warning", "coast", "I", true)
  | 2 => ("StormFlags$Warning", "flag", "I", true)
  | 3 => ("StormFlags$Warning", "rule", "I", true)
  | _ => ("StormFlags$Warning", "portsThen", "I", true)
def tyX7 : Nat → FieldType := fun k => match k with
  | 0 => .int
  | 1 => .int
  | 2 => .int
  | 3 => .int
  | _ => .int
theorem nmX7 : ∀ a, a < 5 → ∀ b, b < 5 → a ≠ b → (TX7 a).2.1 ≠ (TX7 b).2.1 := by decide +kernel
theorem tyX7_ok : ∀ k, k < 5 → parseFieldDescriptor (TX7 k).2.2.1 = some (tyX7 k) := by decide +kernel
abbrev cX7_init : ByteArray := prog_9_method_1_code
def yX7_init : MethodName := ⟨RX7, "<init>", "(IIIII)V"⟩
abbrev cX7_isFor : ByteArray := prog_9_method_2_code
def yX7_isFor : MethodName := ⟨RX7, "isFor", "(LStormFlags$Port;)Z"⟩
abbrev cX7_firstHour : ByteArray := prog_9_method_3_code
def yX7_firstHour : MethodName := ⟨RX7, "firstHour", "(LStormFlags$Port;)I"⟩
abbrev cX7_lastHour : ByteArray := prog_9_method_4_code
def yX7_lastHour : MethodName := ⟨RX7, "lastHour", "(LStormFlags$Port;)I"⟩
def RX8 : String := "StormFlags"
def TX8 : u_T := fun k => match k with
  | 0 => ("StormFlags", "tape", "LStormFlags$Tape;", true)
  | 1 => ("StormFlags", "ports", "Ljava/util/ArrayList;", true)
  | 2 => ("StormFlags", "warnings", "Ljava/util/ArrayList;", true)
  | 3 => ("StormFlags", "gales", "Ljava/util/ArrayList;", true)
  | 4 => ("StormFlags", "boats", "Ljava/util/ArrayList;", true)
  | 5 => ("StormFlags", "outlook", "LStormFlags$Outlook;", true)
  | 6 => ("StormFlags", "standing", "LStormFlags$RuleBook;", false)
  | 7 => ("StormFlags", "draft", "LStormFlags$RuleBook;", false)
  | 8 => ("StormFlags", "wrongByte", "I", false)
  | 9 => ("StormFlags", "reportsTold", "I", false)
  | _ => ("StormFlags", "now", "I", false)
def tyX8 : Nat → FieldType := fun k => match k with
  | 0 => .object "StormFlags$Tape"
  | 1 => .object "java/util/ArrayList"
  | 2 => .object "java/util/ArrayList"
  | 3 => .object "java/util/ArrayList"
  | 4 => .object "java/util/ArrayList"
  | 5 => .object "StormFlags$Outlook"
  | 6 => .object "StormFlags$RuleBook"
  | 7 => .object "StormFlags$RuleBook"
  | 8 => .int
  | 9 => .int
  | _ => .int
theorem nmX8 : ∀ a, a < 11 → ∀ b, b < 11 → a ≠ b → (TX8 a).2.1 ≠ (TX8 b).2.1 := by decide +kernel
theorem tyX8_ok : ∀ k, k < 11 → parseFieldDescriptor (TX8 k).2.2.1 = some (tyX8 k) := by decide +kernel
abbrev cX8_init : ByteArray := prog_1_method_1_code
def yX8_init : MethodName := ⟨RX8, "<init>", "()V"⟩
abbrev cX8_feed : ByteArray := prog_1_method_2_code
def yX8_feed : MethodName := ⟨RX8, "feed", "(IIIII)I"⟩
abbrev cX8_end : ByteArray := prog_1_method_3_code
def yX8_end : MethodName := ⟨RX8, "end", "(I)Z"⟩
abbrev cX8_port : ByteArray := prog_1_method_4_code
def yX8_port : MethodName := ⟨RX8, "port", "(IIII)I"⟩
abbrev cX8_report : ByteArray := prog_1_method_5_code
def yX8_report : MethodName := ⟨RX8, "report", "(IIII)I"⟩
abbrev cX8_counts : ByteArray := prog_1_method_6_code
def yX8_counts : MethodName := ⟨RX8, "counts", "(III)I"⟩
abbrev cX8_field : ByteArray := prog_1_method_7_code
def yX8_field : MethodName := ⟨RX8, "field", "(IIII)I"⟩
abbrev cX8_rules : ByteArray := prog_1_method_8_code
def yX8_rules : MethodName := ⟨RX8, "rules", "()I"⟩
abbrev cX8_fault : ByteArray := prog_1_method_9_code
def yX8_fault : MethodName := ⟨RX8, "fault", "()I"⟩
abbrev cX8_gale : ByteArray := prog_1_method_10_code
def yX8_gale : MethodName := ⟨RX8, "gale", "(IIII)I"⟩
abbrev cX8_boat : ByteArray := prog_1_method_11_code
def yX8_boat : MethodName := ⟨RX8, "boat", "(III)I"⟩
abbrev cX8_trip : ByteArray := prog_1_method_12_code
def yX8_trip : MethodName := ⟨RX8, "trip", "(III)Z"⟩
abbrev cX8_hours : ByteArray := prog_1_method_13_code
def yX8_hours : MethodName := ⟨RX8, "hours", "(I)I"⟩
abbrev cX8_flies : ByteArray := prog_1_method_14_code
def yX8_flies : MethodName := ⟨RX8, "flies", "(II)I"⟩
abbrev cX8_warning : ByteArray := prog_1_method_15_code
def yX8_warning : MethodName := ⟨RX8, "warning", "(II)I"⟩
abbrev cX8_look : ByteArray := prog_1_method_16_code
def yX8_look : MethodName := ⟨RX8, "look", "(II)I"⟩
abbrev cX8_score : ByteArray := prog_1_method_17_code
def yX8_score : MethodName := ⟨RX8, "score", "(II)I"⟩
abbrev cX8_count : ByteArray := prog_1_method_18_code
def yX8_count : MethodName := ⟨RX8, "count", "(I)I"⟩
abbrev cX8_within : ByteArray := prog_1_method_19_code
def yX8_within : MethodName := ⟨RX8, "within", "(III)Z"⟩
abbrev cX8_isPlace : ByteArray := prog_1_method_20_code
def yX8_isPlace : MethodName := ⟨RX8, "isPlace", "(II)Z"⟩
abbrev cX8_isWatchBegun : ByteArray := prog_1_method_21_code
def yX8_isWatchBegun : MethodName := ⟨RX8, "isWatchBegun", "(I)Z"⟩
abbrev cX8_isHourToCome : ByteArray := prog_1_method_22_code
def yX8_isHourToCome : MethodName := ⟨RX8, "isHourToCome", "(I)Z"⟩
abbrev cX8_portNumbered : ByteArray := prog_1_method_23_code
def yX8_portNumbered : MethodName := ⟨RX8, "portNumbered", "(I)LStormFlags$Port;"⟩
abbrev cX8_boatNumbered : ByteArray := prog_1_method_24_code
def yX8_boatNumbered : MethodName := ⟨RX8, "boatNumbered", "(I)LStormFlags$Boat;"⟩
abbrev cX8_glassAt : ByteArray := prog_1_method_25_code
def yX8_glassAt : MethodName := ⟨RX8, "glassAt", "(IIII)I"⟩
abbrev cX8_passHour : ByteArray := prog_1_method_26_code
def yX8_passHour : MethodName := ⟨RX8, "passHour", "()V"⟩
abbrev cX8_isOfficeHour : ByteArray := prog_1_method_27_code
def yX8_isOfficeHour : MethodName := ⟨RX8, "isOfficeHour", "()Z"⟩
abbrev cX8_doOfficeWork : ByteArray := prog_1_method_28_code
def yX8_doOfficeWork : MethodName := ⟨RX8, "doOfficeWork", "()V"⟩
abbrev cX8_drawOutlook : ByteArray := prog_1_method_29_code
def yX8_drawOutlook : MethodName := ⟨RX8, "drawOutlook", "(II)Z"⟩
abbrev cX8_sendWarnings : ByteArray := prog_1_method_30_code
def yX8_sendWarnings : MethodName := ⟨RX8, "sendWarnings", "(I)V"⟩
abbrev cX8_passHourOf : ByteArray := prog_1_method_31_code
def yX8_passHourOf : MethodName := ⟨RX8, "passHourOf", "(LStormFlags$Boat;)V"⟩
abbrev cX8_isGaleTooStrong : ByteArray := prog_1_method_32_code
def yX8_isGaleTooStrong : MethodName := ⟨RX8, "isGaleTooStrong", "(LStormFlags$Boat;)Z"⟩
abbrev cX8_flagsSeen : ByteArray := prog_1_method_33_code
def yX8_flagsSeen : MethodName := ⟨RX8, "flagsSeen", "(LStormFlags$Port;I)I"⟩
abbrev cX8_galesBegun : ByteArray := prog_1_method_34_code
def yX8_galesBegun : MethodName := ⟨RX8, "galesBegun", "(LStormFlags$Port;Z)I"⟩
abbrev cX8_warningsArrived : ByteArray := prog_1_method_35_code
def yX8_warningsArrived : MethodName := ⟨RX8, "warningsArrived", "(LStormFlags$Port;)I"⟩
abbrev cX8_warningsInVain : ByteArray := prog_1_method_36_code
def yX8_warningsInVain : MethodName := ⟨RX8, "warningsInVain", "(LStormFlags$Port;)I"⟩
abbrev cX8_blowsAtAll : ByteArray := prog_1_method_37_code
def yX8_blowsAtAll : MethodName := ⟨RX8, "blowsAtAll", "(LStormFlags$Port;II)Z"⟩
abbrev cX8_boatsThatAre : ByteArray := prog_1_method_38_code
def yX8_boatsThatAre : MethodName := ⟨RX8, "boatsThatAre", "(I)I"⟩
def RX9 : String := "StormFlagsModel"
def TX9 : u_T := fun k => match k with
  | 0 => ("StormFlagsModel", "thrown", "I", false)
  | 1 => ("StormFlagsModel", "now", "I", false)
  | 2 => ("StormFlagsModel", "px", "[I", true)
  | 3 => ("StormFlagsModel", "py", "[I", true)
  | 4 => ("StormFlagsModel", "coast", "[I", true)
  | 5 => ("StormFlagsModel", "wire", "[I", true)
  | 6 => ("StormFlagsModel", "ports", "I", false)
  | 7 => ("StormFlagsModel", "rPort", "[I", true)
  | 8 => ("StormFlagsModel", "rWatch", "[I", true)
  | 9 => ("StormFlagsModel", "rGlass", "[I", true)
  | 10 => ("StormFlagsModel", "rWind", "[I", true)
  | 11 => ("StormFlagsModel", "rTold", "[I", true)
  | 12 => ("StormFlagsModel", "reports", "I", false)
  | 13 => ("StormFlagsModel", "flag", "[I", true)
  | 14 => ("StormFlagsModel", "many", "[I", true)
  | 15 => ("StormFlagsModel", "sort", "[I", true)
  | 16 => ("StormFlagsModel", "number", "[I", true)
  | 17 => ("StormFlagsModel", "rules", "I", false)
  | 18 => ("StormFlagsModel", "tape", "[B", true)
  | 19 => ("StormFlagsModel", "taped", "I", false)
  | 20 => ("StormFlagsModel", "point", "I", false)
  | 21 => ("StormFlagsModel", "end", "I", false)
  | 22 => ("StormFlagsModel", "begin", "I", false)
  | 23 => ("StormFlagsModel", "faultAt", "I", false)
  | 24 => ("StormFlagsModel", "five", "[I", true)
  | 25 => ("StormFlagsModel", "warning", "[I", true)
  | 26 => ("StormFlagsModel", "warnings", "I", false)
  | 27 => ("StormFlagsModel", "before", "I", false)
  | 28 => ("StormFlagsModel", "here", "I", false)
  | 29 => ("StormFlagsModel", "strongest", "I", false)
  | 30 => ("StormFlagsModel", "gPort", "[I", true)
  | 31 => ("StormFlagsModel", "gFrom", "[I", true)
  | 32 => ("StormFlagsModel", "gTo", "[I", true)
  | 33 => ("StormFlagsModel", "gForce", "[I", true)
  | 34 => ("StormFlagsModel", "gales", "I", false)
  | 35 => ("StormFlagsModel", "boat", "[I", true)
  | _ => ("StormFlagsModel", "boats", "I", false)
def tyX9 : Nat → FieldType := fun k => match k with
  | 0 => .int
  | 1 => .int
  | 2 => .array .int
  | 3 => .array .int
  | 4 => .array .int
  | 5 => .array .int
  | 6 => .int
  | 7 => .array .int
  | 8 => .array .int
  | 9 => .array .int
  | 10 => .array .int
  | 11 => .array .int
  | 12 => .int
  | 13 => .array .int
  | 14 => .array .int
  | 15 => .array .int
  | 16 => .array .int
  | 17 => .int
  | 18 => .array .byte
  | 19 => .int
  | 20 => .int
  | 21 => .int
  | 22 => .int
  | 23 => .int
  | 24 => .array .int
  | 25 => .array .int
  | 26 => .int
  | 27 => .int
  | 28 => .int
  | 29 => .int
  | 30 => .array .int
  | 31 => .array .int
  | 32 => .array .int
  | 33 => .array .int
  | 34 => .int
  | 35 => .array .int
  | _ => .int
theorem nmX9 : ∀ a, a < 37 → ∀ b, b < 37 → a ≠ b → (TX9 a).2.1 ≠ (TX9 b).2.1 := by decide +kernel
theorem tyX9_ok : ∀ k, k < 37 → parseFieldDescriptor (TX9 k).2.2.1 = some (tyX9 k) := by decide +kernel
abbrev cX9_init : ByteArray := prog_11_method_1_code
def yX9_init : MethodName := ⟨RX9, "<init>", "()V"⟩
abbrev cX9_thrown : ByteArray := prog_11_method_2_code
def yX9_thrown : MethodName := ⟨RX9, "thrown", "()I"⟩
abbrev cX9_throwsIf : ByteArray := prog_11_method_3_code
def yX9_throwsIf : MethodName := ⟨RX9, "throwsIf", "(ZI)Z"⟩
abbrev cX9_in : ByteArray := prog_11_method_4_code
def yX9_in : MethodName := ⟨RX9, "in", "(III)Z"⟩
abbrev cX9_noPort : ByteArray := prog_11_method_5_code
def yX9_noPort : MethodName := ⟨RX9, "noPort", "(I)Z"⟩
abbrev cX9_port : ByteArray := prog_11_method_6_code
def yX9_port : MethodName := ⟨RX9, "port", "(IIII)I"⟩
abbrev cX9_report : ByteArray := prog_11_method_7_code
def yX9_report : MethodName := ⟨RX9, "report", "(IIII)I"⟩
abbrev cX9_countsOf : ByteArray := prog_11_method_8_code
def yX9_countsOf : MethodName := ⟨RX9, "countsOf", "(III)I"⟩
abbrev cX9_counts : ByteArray := prog_11_method_9_code
def yX9_counts : MethodName := ⟨RX9, "counts", "(III)I"⟩
abbrev cX9_fieldOf : ByteArray := prog_11_method_10_code
def yX9_fieldOf : MethodName := ⟨RX9, "fieldOf", "(IIII)I"⟩
abbrev cX9_field : ByteArray := prog_11_method_11_code
def yX9_field : MethodName := ⟨RX9, "field", "(IIII)I"⟩
abbrev cX9_feed : ByteArray := prog_11_method_12_code
def yX9_feed : MethodName := ⟨RX9, "feed", "(IIIII)I"⟩
abbrev cX9_end : ByteArray := prog_11_method_13_code
def yX9_end : MethodName := ⟨RX9, "end", "(I)Z"⟩
abbrev cX9_isAt : ByteArray := prog_11_method_14_code
def yX9_isAt : MethodName := ⟨RX9, "isAt", "(II)Z"⟩
abbrev cX9_blanks : ByteArray := prog_11_method_15_code
def yX9_blanks : MethodName := ⟨RX9, "blanks", "()V"⟩
abbrev cX9_word : ByteArray := prog_11_method_16_code
def yX9_word : MethodName := ⟨RX9, "word", "()V"⟩
abbrev cX9_isWord : ByteArray := prog_11_method_17_code
def yX9_isWord : MethodName := ⟨RX9, "isWord", "(Ljava/lang/String;)Z"⟩
abbrev cX9_readCondition : ByteArray := prog_11_method_18_code
def yX9_readCondition : MethodName := ⟨RX9, "readCondition", "(I)Z"⟩
abbrev cX9_readRule : ByteArray := prog_11_method_19_code
def yX9_readRule : MethodName := ⟨RX9, "readRule", "(I)Z"⟩
abbrev cX9_readAll : ByteArray := prog_11_method_20_code
def yX9_readAll : MethodName := ⟨RX9, "readAll", "()I"⟩
abbrev cX9_rules : ByteArray := prog_11_method_21_code
def yX9_rules : MethodName := ⟨RX9, "rules", "()I"⟩
abbrev cX9_fault : ByteArray := prog_11_method_22_code
def yX9_fault : MethodName := ⟨RX9, "fault", "()I"⟩
abbrev cX9_holds : ByteArray := prog_11_method_23_code
def yX9_holds : MethodName := ⟨RX9, "holds", "(III)Z"⟩
abbrev cX9_warns : ByteArray := prog_11_method_24_code
def yX9_warns : MethodName := ⟨RX9, "warns", "(II)V"⟩
abbrev cX9_reaches : ByteArray := prog_11_method_25_code
def yX9_reaches : MethodName := ⟨RX9, "reaches", "(II)I"⟩
abbrev cX9_fliesAt : ByteArray := prog_11_method_26_code
def yX9_fliesAt : MethodName := ⟨RX9, "fliesAt", "(II)I"⟩
abbrev cX9_gale : ByteArray := prog_11_method_27_code
def yX9_gale : MethodName := ⟨RX9, "gale", "(IIII)I"⟩
abbrev cX9_boat : ByteArray := prog_11_method_28_code
def yX9_boat : MethodName := ⟨RX9, "boat", "(III)I"⟩
abbrev cX9_noBoat : ByteArray := prog_11_method_29_code
def yX9_noBoat : MethodName := ⟨RX9, "noBoat", "(I)Z"⟩
abbrev cX9_trip : ByteArray := prog_11_method_30_code
def yX9_trip : MethodName := ⟨RX9, "trip", "(III)Z"⟩
abbrev cX9_meetsGale : ByteArray := prog_11_method_31_code
def yX9_meetsGale : MethodName := ⟨RX9, "meetsGale", "(II)Z"⟩
abbrev cX9_goes : ByteArray := prog_11_method_32_code
def yX9_goes : MethodName := ⟨RX9, "goes", "(I)V"⟩
abbrev cX9_hours : ByteArray := prog_11_method_33_code
def yX9_hours : MethodName := ⟨RX9, "hours", "(I)I"⟩
abbrev cX9_flies : ByteArray := prog_11_method_34_code
def yX9_flies : MethodName := ⟨RX9, "flies", "(II)I"⟩
abbrev cX9_warning : ByteArray := prog_11_method_35_code
def yX9_warning : MethodName := ⟨RX9, "warning", "(II)I"⟩
abbrev cX9_look : ByteArray := prog_11_method_36_code
def yX9_look : MethodName := ⟨RX9, "look", "(II)I"⟩
abbrev cX9_isVain : ByteArray := prog_11_method_37_code
def yX9_isVain : MethodName := ⟨RX9, "isVain", "(II)Z"⟩
abbrev cX9_score : ByteArray := prog_11_method_38_code
def yX9_score : MethodName := ⟨RX9, "score", "(II)I"⟩
abbrev cX9_count : ByteArray := prog_11_method_39_code
def yX9_count : MethodName := ⟨RX9, "count", "(I)I"⟩
def RJx145de : String := "java/io/Serializable"
def TJx145de : u_T := fun k => match k with
  | _ => ("", "", "", false)
def tyJx145de : Nat → FieldType := fun k => match k with
  | _ => .int
theorem nmJx145de : ∀ a, a < 0 → ∀ b, b < 0 → a ≠ b → (TJx145de a).2.1 ≠ (TJx145de b).2.1 := by decide +kernel
theorem tyJx145de_ok : ∀ k, k < 0 → parseFieldDescriptor (TJx145de k).2.2.1 = some (tyJx145de k) := by decide +kernel
def RJx8e188 : String := "java/lang/Cloneable"
def TJx8e188 : u_T := fun k => match k with
  | _ => ("", "", "", false)
def tyJx8e188 : Nat → FieldType := fun k => match k with
  | _ => .int
theorem nmJx8e188 : ∀ a, a < 0 → ∀ b, b < 0 → a ≠ b → (TJx8e188 a).2.1 ≠ (TJx8e188 b).2.1 := by decide +kernel
theorem tyJx8e188_ok : ∀ k, k < 0 → parseFieldDescriptor (TJx8e188 k).2.2.1 = some (tyJx8e188 k) := by decide +kernel
def RJxab1ab : String := "java/lang/Iterable"
def TJxab1ab : u_T := fun k => match k with
  | _ => ("", "", "", false)
def tyJxab1ab : Nat → FieldType := fun k => match k with
  | _ => .int
theorem nmJxab1ab : ∀ a, a < 0 → ∀ b, b < 0 → a ≠ b → (TJxab1ab a).2.1 ≠ (TJxab1ab b).2.1 := by decide +kernel
theorem tyJxab1ab_ok : ∀ k, k < 0 → parseFieldDescriptor (TJxab1ab k).2.2.1 = some (tyJxab1ab k) := by decide +kernel
def RJ9 : String := "java/lang/Math"
def TJ9 : u_T := fun k => match k with
  | _ => ("", "", "", false)
def tyJ9 : Nat → FieldType := fun k => match k with
  | _ => .int
theorem nmJ9 : ∀ a, a < 0 → ∀ b, b < 0 → a ≠ b → (TJ9 a).2.1 ≠ (TJ9 b).2.1 := by decide +kernel
theorem tyJ9_ok : ∀ k, k < 0 → parseFieldDescriptor (TJ9 k).2.2.1 = some (tyJ9 k) := by decide +kernel
abbrev cJ9_max_7cf53 : ByteArray := prog_18_method_65_code
def yJ9_max_7cf53 : MethodName := ⟨RJ9, "max", "(II)I"⟩
abbrev cJ9_min_7cf53 : ByteArray := prog_18_method_69_code
def yJ9_min_7cf53 : MethodName := ⟨RJ9, "min", "(II)I"⟩
def RJ0 : String := "java/lang/String"
def TJ0 : u_T := fun k => match k with
  | _ => ("", "", "", false)
def tyJ0 : Nat → FieldType := fun k => match k with
  | _ => .int
theorem nmJ0 : ∀ a, a < 0 → ∀ b, b < 0 → a ≠ b → (TJ0 a).2.1 ≠ (TJ0 b).2.1 := by decide +kernel
theorem tyJ0_ok : ∀ k, k < 0 → parseFieldDescriptor (TJ0 k).2.2.1 = some (tyJ0 k) := by decide +kernel
abbrev cJ0_length_8abf5 : ByteArray := prog_20_method_54_code
def yJ0_length_8abf5 : MethodName := ⟨RJ0, "length", "()I"⟩
abbrev cJ0_charAt_5068e : ByteArray := prog_20_method_56_code
def yJ0_charAt_5068e : MethodName := ⟨RJ0, "charAt", "(I)C"⟩
abbrev cJ0_coder_7d493 : ByteArray := prog_20_method_152_code
def yJ0_coder_7d493 : MethodName := ⟨RJ0, "coder", "()B"⟩
abbrev cJ0_isLatin1_aae02 : ByteArray := prog_20_method_154_code
def yJ0_isLatin1_aae02 : MethodName := ⟨RJ0, "isLatin1", "()Z"⟩
abbrev cJ0_checkIndex_df160 : ByteArray := prog_20_method_155_code
def yJ0_checkIndex_df160 : MethodName := ⟨RJ0, "checkIndex", "(II)V"⟩
def RJ1 : String := "java/lang/StringLatin1"
def TJ1 : u_T := fun k => match k with
  | _ => ("", "", "", false)
def tyJ1 : Nat → FieldType := fun k => match k with
  | _ => .int
theorem nmJ1 : ∀ a, a < 0 → ∀ b, b < 0 → a ≠ b → (TJ1 a).2.1 ≠ (TJ1 b).2.1 := by decide +kernel
theorem tyJ1_ok : ∀ k, k < 0 → parseFieldDescriptor (TJ1 k).2.2.1 = some (tyJ1 k) := by decide +kernel
abbrev cJ1_charAt_3b067 : ByteArray := prog_21_method_2_code
def yJ1_charAt_3b067 : MethodName := ⟨RJ1, "charAt", "([BI)C"⟩
def RJ2 : String := "java/lang/StringUTF16"
def TJ2 : u_T := fun k => match k with
  | _ => ("", "", "", false)
def tyJ2 : Nat → FieldType := fun k => match k with
  | _ => .int
theorem nmJ2 : ∀ a, a < 0 → ∀ b, b < 0 → a ≠ b → (TJ2 a).2.1 ≠ (TJ2 b).2.1 := by decide +kernel
theorem tyJ2_ok : ∀ k, k < 0 → parseFieldDescriptor (TJ2 k).2.2.1 = some (tyJ2 k) := by decide +kernel
abbrev cJ2_getChar_3b067 : ByteArray := prog_22_method_5_code
def yJ2_getChar_3b067 : MethodName := ⟨RJ2, "getChar", "([BI)C"⟩
abbrev cJ2_length_9d52b : ByteArray := prog_22_method_6_code
def yJ2_length_9d52b : MethodName := ⟨RJ2, "length", "([B)I"⟩
abbrev cJ2_charAt_3b067 : ByteArray := prog_22_method_83_code
def yJ2_charAt_3b067 : MethodName := ⟨RJ2, "charAt", "([BI)C"⟩
abbrev cJ2_checkIndex_2214a : ByteArray := prog_22_method_91_code
def yJ2_checkIndex_2214a : MethodName := ⟨RJ2, "checkIndex", "(I[B)V"⟩
def RJ10 : String := "java/lang/System"
def TJ10 : u_T := fun k => match k with
  | _ => ("", "", "", false)
def tyJ10 : Nat → FieldType := fun k => match k with
  | _ => .int
theorem nmJ10 : ∀ a, a < 0 → ∀ b, b < 0 → a ≠ b → (TJ10 a).2.1 ≠ (TJ10 b).2.1 := by decide +kernel
theorem tyJ10_ok : ∀ k, k < 0 → parseFieldDescriptor (TJ10 k).2.2.1 = some (tyJ10 k) := by decide +kernel
def RJxa1e45 : String := "java/util/AbstractCollection"
def TJxa1e45 : u_T := fun k => match k with
  | _ => ("", "", "", false)
def tyJxa1e45 : Nat → FieldType := fun k => match k with
  | _ => .int
theorem nmJxa1e45 : ∀ a, a < 0 → ∀ b, b < 0 → a ≠ b → (TJxa1e45 a).2.1 ≠ (TJxa1e45 b).2.1 := by decide +kernel
theorem tyJxa1e45_ok : ∀ k, k < 0 → parseFieldDescriptor (TJxa1e45 k).2.2.1 = some (tyJxa1e45 k) := by decide +kernel
abbrev cJxa1e45_init_da8c8 : ByteArray := prog_26_method_1_code
def yJxa1e45_init_da8c8 : MethodName := ⟨RJxa1e45, "<init>", "()V"⟩
def RJxc12de : String := "java/util/AbstractList"
def TJxc12de : u_T := fun k => match k with
  | _ => ("", "", "", false)
def tyJxc12de : Nat → FieldType := fun k => match k with
  | _ => .int
theorem nmJxc12de : ∀ a, a < 0 → ∀ b, b < 0 → a ≠ b → (TJxc12de a).2.1 ≠ (TJxc12de b).2.1 := by decide +kernel
theorem tyJxc12de_ok : ∀ k, k < 0 → parseFieldDescriptor (TJxc12de k).2.2.1 = some (tyJxc12de k) := by decide +kernel
abbrev cJxc12de_init_da8c8 : ByteArray := prog_27_method_1_code
def yJxc12de_init_da8c8 : MethodName := ⟨RJxc12de, "<init>", "()V"⟩
def RJx4a65c : String := "java/util/ArrayList"
def TJx4a65c : u_T := fun k => match k with
  | 0 => ("java/util/AbstractList", "modCount", "I", false)
  | 1 => ("java/util/ArrayList", "elementData", "[Ljava/lang/Object;", false)
  | _ => ("java/util/ArrayList", "size", "I", false)
def tyJx4a65c : Nat → FieldType := fun k => match k with
  | 0 => .int
  | 1 => .array (.object "java/lang/Object")
  | _ => .int
theorem nmJx4a65c : ∀ a, a < 3 → ∀ b, b < 3 → a ≠ b → (TJx4a65c a).2.1 ≠ (TJx4a65c b).2.1 := by decide +kernel
theorem tyJx4a65c_ok : ∀ k, k < 3 → parseFieldDescriptor (TJx4a65c k).2.2.1 = some (tyJx4a65c k) := by decide +kernel
abbrev cJx4a65c_init_da8c8 : ByteArray := prog_28_method_2_code
def yJx4a65c_init_da8c8 : MethodName := ⟨RJx4a65c, "<init>", "()V"⟩
abbrev cJx4a65c_grow_92f84 : ByteArray := prog_28_method_6_code
def yJx4a65c_grow_92f84 : MethodName := ⟨RJx4a65c, "grow", "(I)[Ljava/lang/Object;"⟩
abbrev cJx4a65c_grow_d5877 : ByteArray := prog_28_method_7_code
def yJx4a65c_grow_d5877 : MethodName := ⟨RJx4a65c, "grow", "()[Ljava/lang/Object;"⟩
abbrev cJx4a65c_size_8abf5 : ByteArray := prog_28_method_8_code
def yJx4a65c_size_8abf5 : MethodName := ⟨RJx4a65c, "size", "()I"⟩
abbrev cJx4a65c_elementData_915e3 : ByteArray := prog_28_method_18_code
def yJx4a65c_elementData_915e3 : MethodName := ⟨RJx4a65c, "elementData", "(I)Ljava/lang/Object;"⟩
abbrev cJx4a65c_get_915e3 : ByteArray := prog_28_method_20_code
def yJx4a65c_get_915e3 : MethodName := ⟨RJx4a65c, "get", "(I)Ljava/lang/Object;"⟩
abbrev cJx4a65c_add_72be8 : ByteArray := prog_28_method_24_code
def yJx4a65c_add_72be8 : MethodName := ⟨RJx4a65c, "add", "(Ljava/lang/Object;[Ljava/lang/Object;I)V"⟩
abbrev cJx4a65c_add_9ea2d : ByteArray := prog_28_method_25_code
def yJx4a65c_add_9ea2d : MethodName := ⟨RJx4a65c, "add", "(Ljava/lang/Object;)Z"⟩
def RJ7 : String := "java/util/Arrays"
def TJ7 : u_T := fun k => match k with
  | _ => ("", "", "", false)
def tyJ7 : Nat → FieldType := fun k => match k with
  | _ => .int
theorem nmJ7 : ∀ a, a < 0 → ∀ b, b < 0 → a ≠ b → (TJ7 a).2.1 ≠ (TJ7 b).2.1 := by decide +kernel
theorem tyJ7_ok : ∀ k, k < 0 → parseFieldDescriptor (TJ7 k).2.2.1 = some (tyJ7 k) := by decide +kernel
abbrev cJ7_copyOf_1904c : ByteArray := prog_29_method_119_code
def yJ7_copyOf_1904c : MethodName := ⟨RJ7, "copyOf", "([Ljava/lang/Object;I)[Ljava/lang/Object;"⟩
abbrev cJ7_copyOf_6403c : ByteArray := prog_29_method_120_code
def yJ7_copyOf_6403c : MethodName := ⟨RJ7, "copyOf", "([Ljava/lang/Object;ILjava/lang/Class;)[Ljava/lang/Object;"⟩
def RJx5ef63 : String := "java/util/Collection"
def TJx5ef63 : u_T := fun k => match k with
  | _ => ("", "", "", false)
def tyJx5ef63 : Nat → FieldType := fun k => match k with
  | _ => .int
theorem nmJx5ef63 : ∀ a, a < 0 → ∀ b, b < 0 → a ≠ b → (TJx5ef63 a).2.1 ≠ (TJx5ef63 b).2.1 := by decide +kernel
theorem tyJx5ef63_ok : ∀ k, k < 0 → parseFieldDescriptor (TJx5ef63 k).2.2.1 = some (tyJx5ef63 k) := by decide +kernel
def RJxbd725 : String := "java/util/List"
def TJxbd725 : u_T := fun k => match k with
  | _ => ("", "", "", false)
def tyJxbd725 : Nat → FieldType := fun k => match k with
  | _ => .int
theorem nmJxbd725 : ∀ a, a < 0 → ∀ b, b < 0 → a ≠ b → (TJxbd725 a).2.1 ≠ (TJxbd725 b).2.1 := by decide +kernel
theorem tyJxbd725_ok : ∀ k, k < 0 → parseFieldDescriptor (TJxbd725 k).2.2.1 = some (tyJxbd725 k) := by decide +kernel
def RJ15 : String := "java/util/Objects"
def TJ15 : u_T := fun k => match k with
  | _ => ("", "", "", false)
def tyJ15 : Nat → FieldType := fun k => match k with
  | _ => .int
theorem nmJ15 : ∀ a, a < 0 → ∀ b, b < 0 → a ≠ b → (TJ15 a).2.1 ≠ (TJ15 b).2.1 := by decide +kernel
theorem tyJ15_ok : ∀ k, k < 0 → parseFieldDescriptor (TJ15 k).2.2.1 = some (tyJ15 k) := by decide +kernel
abbrev cJ15_checkIndex_7cf53 : ByteArray := prog_33_method_17_code
def yJ15_checkIndex_7cf53 : MethodName := ⟨RJ15, "checkIndex", "(II)I"⟩
def RJxf0a74 : String := "java/util/RandomAccess"
def TJxf0a74 : u_T := fun k => match k with
  | _ => ("", "", "", false)
def tyJxf0a74 : Nat → FieldType := fun k => match k with
  | _ => .int
theorem nmJxf0a74 : ∀ a, a < 0 → ∀ b, b < 0 → a ≠ b → (TJxf0a74 a).2.1 ≠ (TJxf0a74 b).2.1 := by decide +kernel
theorem tyJxf0a74_ok : ∀ k, k < 0 → parseFieldDescriptor (TJxf0a74 k).2.2.1 = some (tyJxf0a74 k) := by decide +kernel
def RJxa66e6 : String := "java/util/SequencedCollection"
def TJxa66e6 : u_T := fun k => match k with
  | _ => ("", "", "", false)
def tyJxa66e6 : Nat → FieldType := fun k => match k with
  | _ => .int
theorem nmJxa66e6 : ∀ a, a < 0 → ∀ b, b < 0 → a ≠ b → (TJxa66e6 a).2.1 ≠ (TJxa66e6 b).2.1 := by decide +kernel
theorem tyJxa66e6_ok : ∀ k, k < 0 → parseFieldDescriptor (TJxa66e6 k).2.2.1 = some (tyJxa66e6 k) := by decide +kernel
def RJ8 : String := "jdk/internal/util/ArraysSupport"
def TJ8 : u_T := fun k => match k with
  | _ => ("", "", "", false)
def tyJ8 : Nat → FieldType := fun k => match k with
  | _ => .int
theorem nmJ8 : ∀ a, a < 0 → ∀ b, b < 0 → a ≠ b → (TJ8 a).2.1 ≠ (TJ8 b).2.1 := by decide +kernel
theorem tyJ8_ok : ∀ k, k < 0 → parseFieldDescriptor (TJ8 k).2.2.1 = some (tyJ8 k) := by decide +kernel
abbrev cJ8_newLength_cabcc : ByteArray := prog_36_method_27_code
def yJ8_newLength_cabcc : MethodName := ⟨RJ8, "newLength", "(III)I"⟩
abbrev cJ8_hugeLength_7cf53 : ByteArray := prog_36_method_28_code
def yJ8_hugeLength_7cf53 : MethodName := ⟨RJ8, "hugeLength", "(II)I"⟩
def RJ3 : String := "jdk/internal/util/Preconditions"
def TJ3 : u_T := fun k => match k with
  | _ => ("", "", "", false)
def tyJ3 : Nat → FieldType := fun k => match k with
  | _ => .int
theorem nmJ3 : ∀ a, a < 0 → ∀ b, b < 0 → a ≠ b → (TJ3 a).2.1 ≠ (TJ3 b).2.1 := by decide +kernel
theorem tyJ3_ok : ∀ k, k < 0 → parseFieldDescriptor (TJ3 k).2.2.1 = some (tyJ3 k) := by decide +kernel
abbrev cJ3_checkIndex_8e157 : ByteArray := prog_37_method_11_code
def yJ3_checkIndex_8e157 : MethodName := ⟨RJ3, "checkIndex", "(IILjava/util/function/BiFunction;)I"⟩
def RL : String := "StormFlagsLaw"
abbrev cL_port : ByteArray := method_3_code
def yL_port : MethodName := ⟨RL, "port", "(LStormFlags;IIII[J)I"⟩
abbrev cL_report : ByteArray := method_4_code
def yL_report : MethodName := ⟨RL, "report", "(LStormFlags;IIII[J)I"⟩
abbrev cL_counts : ByteArray := method_5_code
def yL_counts : MethodName := ⟨RL, "counts", "(LStormFlags;III[J)I"⟩
abbrev cL_field : ByteArray := method_6_code
def yL_field : MethodName := ⟨RL, "field", "(LStormFlags;IIII[J)I"⟩
abbrev cL_rules : ByteArray := method_7_code
def yL_rules : MethodName := ⟨RL, "rules", "(LStormFlags;[J)I"⟩
abbrev cL_gale : ByteArray := method_8_code
def yL_gale : MethodName := ⟨RL, "gale", "(LStormFlags;IIII[J)I"⟩
abbrev cL_boat : ByteArray := method_9_code
def yL_boat : MethodName := ⟨RL, "boat", "(LStormFlags;III[J)I"⟩
abbrev cL_trip : ByteArray := method_10_code
def yL_trip : MethodName := ⟨RL, "trip", "(LStormFlags;III[J)I"⟩
abbrev cL_hours : ByteArray := method_11_code
def yL_hours : MethodName := ⟨RL, "hours", "(LStormFlags;I[J)I"⟩
abbrev cL_flies : ByteArray := method_12_code
def yL_flies : MethodName := ⟨RL, "flies", "(LStormFlags;II[J)I"⟩
abbrev cL_warning : ByteArray := method_13_code
def yL_warning : MethodName := ⟨RL, "warning", "(LStormFlags;II[J)I"⟩
abbrev cL_look : ByteArray := method_14_code
def yL_look : MethodName := ⟨RL, "look", "(LStormFlags;II[J)I"⟩
abbrev cL_score : ByteArray := method_15_code
def yL_score : MethodName := ⟨RL, "score", "(LStormFlags;II[J)I"⟩
abbrev cL_law : ByteArray := code
def yL_law : MethodName := ⟨RL, "law", "([I)Z"⟩
abbrev vwCl : List vw_C := [(RJx4a65c, TJx4a65c, 3), (RX0, TX0, 8), (RX1, TX1, 4), (RX2, TX2, 4), (RX3, TX3, 6), (RX4, TX4, 6), (RX5, TX5, 5), (RX6, TX6, 3), (RX7, TX7, 5), (RX8, TX8, 11), (RX9, TX9, 37)]
