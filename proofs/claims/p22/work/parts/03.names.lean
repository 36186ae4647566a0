/-! ===== BEGIN printed: names, fields, word lists, decode rows ===== -/
def RX0 : String := "SleighPost$Bag"
def TX0 : u_T := fun k => match k with
  | 0 => ("SleighPost$Bag", "weight", "I", false)
  | 1 => ("SleighPost$Bag", "goal", "I", false)
  | 2 => ("SleighPost$Bag", "state", "I", false)
  | 3 => ("SleighPost$Bag", "place", "I", false)
  | _ => ("SleighPost$Bag", "cameIn", "I", false)
def tyX0 : Nat → FieldType := fun k => match k with
  | 0 => .int
  | 1 => .int
  | 2 => .int
  | 3 => .int
  | _ => .int
theorem nmX0 : ∀ a, a < 5 → ∀ b, b < 5 → a ≠ b → (TX0 a).2.1 ≠ (TX0 b).2.1 := by decide +kernel
theorem tyX0_ok : ∀ k, k < 5 → parseFieldDescriptor (TX0 k).2.2.1 = some (tyX0 k) := by decide +kernel
abbrev cX0_init : ByteArray := prog_2_method_1_code
def yX0_init : MethodName := ⟨RX0, "<init>", "()V"⟩
abbrev cX0_begin : ByteArray := prog_2_method_2_code
def yX0_begin : MethodName := ⟨RX0, "begin", "(III)V"⟩
abbrev cX0_isOn : ByteArray := prog_2_method_3_code
def yX0_isOn : MethodName := ⟨RX0, "isOn", "(I)Z"⟩
abbrev cX0_lose : ByteArray := prog_2_method_4_code
def yX0_lose : MethodName := ⟨RX0, "lose", "()V"⟩
abbrev cX0_putDown : ByteArray := prog_2_method_5_code
def yX0_putDown : MethodName := ⟨RX0, "putDown", "(II)Z"⟩
abbrev cX0_tell : ByteArray := prog_2_method_6_code
def yX0_tell : MethodName := ⟨RX0, "tell", "(I)I"⟩
def RX1 : String := "SleighPost$Lake"
def TX1 : u_T := fun k => match k with
  | 0 => ("SleighPost$Lake", "thickness", "[I", true)
  | 1 => ("SleighPost$Lake", "snow", "[I", true)
  | 2 => ("SleighPost$Lake", "strain", "[I", true)
  | 3 => ("SleighPost$Lake", "cracked", "[Z", true)
  | 4 => ("SleighPost$Lake", "crackedBefore", "[Z", true)
  | 5 => ("SleighPost$Lake", "cold", "[I", true)
  | _ => ("SleighPost$Lake", "openings", "I", false)
def tyX1 : Nat → FieldType := fun k => match k with
  | 0 => .array .int
  | 1 => .array .int
  | 2 => .array .int
  | 3 => .array .boolean
  | 4 => .array .boolean
  | 5 => .array .int
  | _ => .int
theorem nmX1 : ∀ a, a < 7 → ∀ b, b < 7 → a ≠ b → (TX1 a).2.1 ≠ (TX1 b).2.1 := by decide +kernel
theorem tyX1_ok : ∀ k, k < 7 → parseFieldDescriptor (TX1 k).2.2.1 = some (tyX1 k) := by decide +kernel
abbrev cX1_init : ByteArray := prog_3_method_1_code
def yX1_init : MethodName := ⟨RX1, "<init>", "()V"⟩
abbrev cX1_copyLake : ByteArray := prog_3_method_2_code
def yX1_copyLake : MethodName := ⟨RX1, "copyLake", "(LSleighPost$Lake;)V"⟩
abbrev cX1_lay : ByteArray := prog_3_method_3_code
def yX1_lay : MethodName := ⟨RX1, "lay", "(II)V"⟩
abbrev cX1_snowOver : ByteArray := prog_3_method_4_code
def yX1_snowOver : MethodName := ⟨RX1, "snowOver", "(II)V"⟩
abbrev cX1_thicknessOf : ByteArray := prog_3_method_5_code
def yX1_thicknessOf : MethodName := ⟨RX1, "thicknessOf", "(I)I"⟩
abbrev cX1_snowOf : ByteArray := prog_3_method_6_code
def yX1_snowOf : MethodName := ⟨RX1, "snowOf", "(I)I"⟩
abbrev cX1_strainOf : ByteArray := prog_3_method_7_code
def yX1_strainOf : MethodName := ⟨RX1, "strainOf", "(I)I"⟩
abbrev cX1_isCracked : ByteArray := prog_3_method_8_code
def yX1_isCracked : MethodName := ⟨RX1, "isCracked", "(I)Z"⟩
abbrev cX1_holds : ByteArray := prog_3_method_9_code
def yX1_holds : MethodName := ⟨RX1, "holds", "(II)Z"⟩
abbrev cX1_strainUnder : ByteArray := prog_3_method_10_code
def yX1_strainUnder : MethodName := ⟨RX1, "strainUnder", "(II)V"⟩
abbrev cX1_beginDay : ByteArray := prog_3_method_11_code
def yX1_beginDay : MethodName := ⟨RX1, "beginDay", "(I)V"⟩
abbrev cX1_freeze : ByteArray := prog_3_method_12_code
def yX1_freeze : MethodName := ⟨RX1, "freeze", "(I)V"⟩
abbrev cX1_thin : ByteArray := prog_3_method_13_code
def yX1_thin : MethodName := ⟨RX1, "thin", "(I)V"⟩
abbrev cX1_spreadCracks : ByteArray := prog_3_method_14_code
def yX1_spreadCracks : MethodName := ⟨RX1, "spreadCracks", "()V"⟩
abbrev cX1_wasCrackedBeside : ByteArray := prog_3_method_15_code
def yX1_wasCrackedBeside : MethodName := ⟨RX1, "wasCrackedBeside", "(I)Z"⟩
abbrev cX1_crackedCells : ByteArray := prog_3_method_17_code
def yX1_crackedCells : MethodName := ⟨RX1, "crackedCells", "()I"⟩
abbrev cX1_allThickness : ByteArray := prog_3_method_18_code
def yX1_allThickness : MethodName := ⟨RX1, "allThickness", "()I"⟩
def RX2 : String := "SleighPost$Sleigh"
def TX2 : u_T := fun k => match k with
  | 0 => ("SleighPost$Sleigh", "reindeer", "I", false)
  | 1 => ("SleighPost$Sleigh", "mail", "I", false)
  | 2 => ("SleighPost$Sleigh", "tired", "I", false)
  | 3 => ("SleighPost$Sleigh", "state", "I", false)
  | 4 => ("SleighPost$Sleigh", "cell", "I", false)
  | 5 => ("SleighPost$Sleigh", "post", "I", false)
  | 6 => ("SleighPost$Sleigh", "next", "I", false)
  | 7 => ("SleighPost$Sleigh", "hoursLeft", "I", false)
  | _ => ("SleighPost$Sleigh", "noWayAt", "I", false)
def tyX2 : Nat → FieldType := fun k => match k with
  | 0 => .int
  | 1 => .int
  | 2 => .int
  | 3 => .int
  | 4 => .int
  | 5 => .int
  | 6 => .int
  | 7 => .int
  | _ => .int
theorem nmX2 : ∀ a, a < 9 → ∀ b, b < 9 → a ≠ b → (TX2 a).2.1 ≠ (TX2 b).2.1 := by decide +kernel
theorem tyX2_ok : ∀ k, k < 9 → parseFieldDescriptor (TX2 k).2.2.1 = some (tyX2 k) := by decide +kernel
abbrev cX2_init : ByteArray := prog_4_method_1_code
def yX2_init : MethodName := ⟨RX2, "<init>", "()V"⟩
abbrev cX2_begin : ByteArray := prog_4_method_2_code
def yX2_begin : MethodName := ⟨RX2, "begin", "(III)V"⟩
abbrev cX2_copySleigh : ByteArray := prog_4_method_3_code
def yX2_copySleigh : MethodName := ⟨RX2, "copySleigh", "(LSleighPost$Sleigh;)V"⟩
abbrev cX2_weight : ByteArray := prog_4_method_4_code
def yX2_weight : MethodName := ⟨RX2, "weight", "()I"⟩
abbrev cX2_need : ByteArray := prog_4_method_5_code
def yX2_need : MethodName := ⟨RX2, "need", "()I"⟩
abbrev cX2_ownDrag : ByteArray := prog_4_method_6_code
def yX2_ownDrag : MethodName := ⟨RX2, "ownDrag", "()I"⟩
abbrev cX2_depart : ByteArray := prog_4_method_7_code
def yX2_depart : MethodName := ⟨RX2, "depart", "(I)V"⟩
abbrev cX2_isBetween : ByteArray := prog_4_method_8_code
def yX2_isBetween : MethodName := ⟨RX2, "isBetween", "()Z"⟩
abbrev cX2_sink : ByteArray := prog_4_method_9_code
def yX2_sink : MethodName := ⟨RX2, "sink", "()V"⟩
abbrev cX2_beginToGo : ByteArray := prog_4_method_10_code
def yX2_beginToGo : MethodName := ⟨RX2, "beginToGo", "(II)V"⟩
abbrev cX2_comesOn : ByteArray := prog_4_method_11_code
def yX2_comesOn : MethodName := ⟨RX2, "comesOn", "()Z"⟩
abbrev cX2_restAtGoal : ByteArray := prog_4_method_12_code
def yX2_restAtGoal : MethodName := ⟨RX2, "restAtGoal", "()V"⟩
abbrev cX2_recover : ByteArray := prog_4_method_13_code
def yX2_recover : MethodName := ⟨RX2, "recover", "()V"⟩
def RX3 : String := "SleighPost$Ways"
def TX3 : u_T := fun k => match k with
  | 0 => ("SleighPost$Ways", "hours", "[I", true)
  | 1 => ("SleighPost$Ways", "head", "[I", true)
  | 2 => ("SleighPost$Ways", "follower", "[I", true)
  | 3 => ("SleighPost$Ways", "waiting", "I", false)
  | 4 => ("SleighPost$Ways", "lake", "LSleighPost$Lake;", false)
  | 5 => ("SleighPost$Ways", "need", "I", false)
  | _ => ("SleighPost$Ways", "drag", "I", false)
def tyX3 : Nat → FieldType := fun k => match k with
  | 0 => .array .int
  | 1 => .array .int
  | 2 => .array .int
  | 3 => .int
  | 4 => .object "SleighPost$Lake"
  | 5 => .int
  | _ => .int
theorem nmX3 : ∀ a, a < 7 → ∀ b, b < 7 → a ≠ b → (TX3 a).2.1 ≠ (TX3 b).2.1 := by decide +kernel
theorem tyX3_ok : ∀ k, k < 7 → parseFieldDescriptor (TX3 k).2.2.1 = some (tyX3 k) := by decide +kernel
abbrev cX3_init : ByteArray := prog_5_method_1_code
def yX3_init : MethodName := ⟨RX3, "<init>", "()V"⟩
abbrev cX3_look : ByteArray := prog_5_method_2_code
def yX3_look : MethodName := ⟨RX3, "look", "(LSleighPost$Lake;IIII)I"⟩
abbrev cX3_firstFrom : ByteArray := prog_5_method_3_code
def yX3_firstFrom : MethodName := ⟨RX3, "firstFrom", "(I)I"⟩
abbrev cX3_reach : ByteArray := prog_5_method_4_code
def yX3_reach : MethodName := ⟨RX3, "reach", "(II)V"⟩
abbrev cX3_spread : ByteArray := prog_5_method_5_code
def yX3_spread : MethodName := ⟨RX3, "spread", "(I)V"⟩
def RX4 : String := "SleighPost$World"
def TX4 : u_T := fun k => match k with
  | 0 => ("SleighPost$World", "ways", "LSleighPost$Ways;", true)
  | 1 => ("SleighPost$World", "lake", "LSleighPost$Lake;", true)
  | 2 => ("SleighPost$World", "postCell", "[I", true)
  | 3 => ("SleighPost$World", "sleighs", "[LSleighPost$Sleigh;", true)
  | 4 => ("SleighPost$World", "bags", "[LSleighPost$Bag;", true)
  | 5 => ("SleighPost$World", "posts", "I", false)
  | 6 => ("SleighPost$World", "sleighCount", "I", false)
  | 7 => ("SleighPost$World", "bagCount", "I", false)
  | _ => ("SleighPost$World", "hour", "I", false)
def tyX4 : Nat → FieldType := fun k => match k with
  | 0 => .object "SleighPost$Ways"
  | 1 => .object "SleighPost$Lake"
  | 2 => .array .int
  | 3 => .array (.object "SleighPost$Sleigh")
  | 4 => .array (.object "SleighPost$Bag")
  | 5 => .int
  | 6 => .int
  | 7 => .int
  | _ => .int
theorem nmX4 : ∀ a, a < 9 → ∀ b, b < 9 → a ≠ b → (TX4 a).2.1 ≠ (TX4 b).2.1 := by decide +kernel
theorem tyX4_ok : ∀ k, k < 9 → parseFieldDescriptor (TX4 k).2.2.1 = some (tyX4 k) := by decide +kernel
abbrev cX4_init : ByteArray := prog_6_method_1_code
def yX4_init : MethodName := ⟨RX4, "<init>", "()V"⟩
abbrev cX4_copyWithoutBags : ByteArray := prog_6_method_2_code
def yX4_copyWithoutBags : MethodName := ⟨RX4, "copyWithoutBags", "(LSleighPost$World;)V"⟩
abbrev cX4_isPost : ByteArray := prog_6_method_3_code
def yX4_isPost : MethodName := ⟨RX4, "isPost", "(I)Z"⟩
abbrev cX4_cellOfPost : ByteArray := prog_6_method_4_code
def yX4_cellOfPost : MethodName := ⟨RX4, "cellOfPost", "(I)I"⟩
abbrev cX4_postOn : ByteArray := prog_6_method_5_code
def yX4_postOn : MethodName := ⟨RX4, "postOn", "(I)I"⟩
abbrev cX4_sleighAt : ByteArray := prog_6_method_6_code
def yX4_sleighAt : MethodName := ⟨RX4, "sleighAt", "(I)LSleighPost$Sleigh;"⟩
abbrev cX4_bagAt : ByteArray := prog_6_method_7_code
def yX4_bagAt : MethodName := ⟨RX4, "bagAt", "(I)LSleighPost$Bag;"⟩
abbrev cX4_buildPost : ByteArray := prog_6_method_8_code
def yX4_buildPost : MethodName := ⟨RX4, "buildPost", "(I)I"⟩
abbrev cX4_harness : ByteArray := prog_6_method_9_code
def yX4_harness : MethodName := ⟨RX4, "harness", "(II)I"⟩
abbrev cX4_postMail : ByteArray := prog_6_method_10_code
def yX4_postMail : MethodName := ⟨RX4, "postMail", "(III)I"⟩
abbrev cX4_isTaken : ByteArray := prog_6_method_11_code
def yX4_isTaken : MethodName := ⟨RX4, "isTaken", "(IIII)Z"⟩
abbrev cX4_sleighsOn : ByteArray := prog_6_method_12_code
def yX4_sleighsOn : MethodName := ⟨RX4, "sleighsOn", "(I)I"⟩
abbrev cX4_bagsOn : ByteArray := prog_6_method_13_code
def yX4_bagsOn : MethodName := ⟨RX4, "bagsOn", "(I)I"⟩
abbrev cX4_hoursToGoal : ByteArray := prog_6_method_14_code
def yX4_hoursToGoal : MethodName := ⟨RX4, "hoursToGoal", "(LSleighPost$Sleigh;)I"⟩
abbrev cX4_goOneHour : ByteArray := prog_6_method_15_code
def yX4_goOneHour : MethodName := ⟨RX4, "goOneHour", "()I"⟩
abbrev cX4_sinkSleighs : ByteArray := prog_6_method_16_code
def yX4_sinkSleighs : MethodName := ⟨RX4, "sinkSleighs", "()V"⟩
abbrev cX4_loseMailOf : ByteArray := prog_6_method_17_code
def yX4_loseMailOf : MethodName := ⟨RX4, "loseMailOf", "(I)V"⟩
abbrev cX4_moveSleighs : ByteArray := prog_6_method_18_code
def yX4_moveSleighs : MethodName := ⟨RX4, "moveSleighs", "()I"⟩
abbrev cX4_unload : ByteArray := prog_6_method_19_code
def yX4_unload : MethodName := ⟨RX4, "unload", "(II)I"⟩
abbrev cX4_setOutSleighs : ByteArray := prog_6_method_20_code
def yX4_setOutSleighs : MethodName := ⟨RX4, "setOutSleighs", "()V"⟩
abbrev cX4_restSleighs : ByteArray := prog_6_method_21_code
def yX4_restSleighs : MethodName := ⟨RX4, "restSleighs", "()V"⟩
abbrev cX4_tellCell : ByteArray := prog_6_method_22_code
def yX4_tellCell : MethodName := ⟨RX4, "tellCell", "(II)I"⟩
abbrev cX4_tellSleigh : ByteArray := prog_6_method_23_code
def yX4_tellSleigh : MethodName := ⟨RX4, "tellSleigh", "(II)I"⟩
abbrev cX4_tellCount : ByteArray := prog_6_method_24_code
def yX4_tellCount : MethodName := ⟨RX4, "tellCount", "(I)I"⟩
abbrev cX4_sunkSleighs : ByteArray := prog_6_method_25_code
def yX4_sunkSleighs : MethodName := ⟨RX4, "sunkSleighs", "()I"⟩
abbrev cX4_bagsThat : ByteArray := prog_6_method_26_code
def yX4_bagsThat : MethodName := ⟨RX4, "bagsThat", "(I)I"⟩
def RX5 : String := "SleighPost"
def TX5 : u_T := fun k => match k with
  | 0 => ("SleighPost", "now", "LSleighPost$World;", true)
  | _ => ("SleighPost", "ahead", "LSleighPost$World;", true)
def tyX5 : Nat → FieldType := fun k => match k with
  | 0 => .object "SleighPost$World"
  | _ => .object "SleighPost$World"
theorem nmX5 : ∀ a, a < 2 → ∀ b, b < 2 → a ≠ b → (TX5 a).2.1 ≠ (TX5 b).2.1 := by decide +kernel
theorem tyX5_ok : ∀ k, k < 2 → parseFieldDescriptor (TX5 k).2.2.1 = some (tyX5 k) := by decide +kernel
abbrev cX5_init : ByteArray := prog_1_method_1_code
def yX5_init : MethodName := ⟨RX5, "<init>", "()V"⟩
abbrev cX5_setIce : ByteArray := prog_1_method_2_code
def yX5_setIce : MethodName := ⟨RX5, "setIce", "(IIIII)I"⟩
abbrev cX5_setSnow : ByteArray := prog_1_method_3_code
def yX5_setSnow : MethodName := ⟨RX5, "setSnow", "(III)I"⟩
abbrev cX5_setCold : ByteArray := prog_1_method_4_code
def yX5_setCold : MethodName := ⟨RX5, "setCold", "(II)I"⟩
abbrev cX5_cell : ByteArray := prog_1_method_5_code
def yX5_cell : MethodName := ⟨RX5, "cell", "(III)I"⟩
abbrev cX5_addPost : ByteArray := prog_1_method_6_code
def yX5_addPost : MethodName := ⟨RX5, "addPost", "(II)I"⟩
abbrev cX5_addSleigh : ByteArray := prog_1_method_7_code
def yX5_addSleigh : MethodName := ⟨RX5, "addSleigh", "(II)I"⟩
abbrev cX5_addBag : ByteArray := prog_1_method_8_code
def yX5_addBag : MethodName := ⟨RX5, "addBag", "(III)I"⟩
abbrev cX5_load : ByteArray := prog_1_method_9_code
def yX5_load : MethodName := ⟨RX5, "load", "(II)I"⟩
abbrev cX5_send : ByteArray := prog_1_method_10_code
def yX5_send : MethodName := ⟨RX5, "send", "(II)I"⟩
abbrev cX5_sleigh : ByteArray := prog_1_method_11_code
def yX5_sleigh : MethodName := ⟨RX5, "sleigh", "(II)I"⟩
abbrev cX5_bag : ByteArray := prog_1_method_12_code
def yX5_bag : MethodName := ⟨RX5, "bag", "(II)I"⟩
abbrev cX5_pass : ByteArray := prog_1_method_13_code
def yX5_pass : MethodName := ⟨RX5, "pass", "(I)I"⟩
abbrev cX5_count : ByteArray := prog_1_method_14_code
def yX5_count : MethodName := ⟨RX5, "count", "(I)I"⟩
abbrev cX5_foresee : ByteArray := prog_1_method_17_code
def yX5_foresee : MethodName := ⟨RX5, "foresee", "(II)I"⟩
abbrev cX5_isWithin : ByteArray := prog_1_method_22_code
def yX5_isWithin : MethodName := ⟨RX5, "isWithin", "(III)Z"⟩
abbrev cX5_isOnMap : ByteArray := prog_1_method_23_code
def yX5_isOnMap : MethodName := ⟨RX5, "isOnMap", "(II)Z"⟩
abbrev cX5_isRectangle : ByteArray := prog_1_method_24_code
def yX5_isRectangle : MethodName := ⟨RX5, "isRectangle", "(IIII)Z"⟩
abbrev cX5_isCell : ByteArray := prog_1_method_25_code
def yX5_isCell : MethodName := ⟨RX5, "isCell", "(I)Z"⟩
abbrev cX5_numberOf : ByteArray := prog_1_method_26_code
def yX5_numberOf : MethodName := ⟨RX5, "numberOf", "(II)I"⟩
abbrev cX5_beside : ByteArray := prog_1_method_27_code
def yX5_beside : MethodName := ⟨RX5, "beside", "(II)I"⟩
abbrev cX5_thicknessFor : ByteArray := prog_1_method_28_code
def yX5_thicknessFor : MethodName := ⟨RX5, "thicknessFor", "(I)I"⟩
abbrev cX5_drag : ByteArray := prog_1_method_29_code
def yX5_drag : MethodName := ⟨RX5, "drag", "(III)I"⟩
def RX6 : String := "SleighPostLaw$Sim"
def TX6 : u_T := fun k => match k with
  | 0 => ("SleighPostLaw$Sim", "hour", "I", false)
  | 1 => ("SleighPostLaw$Sim", "thick", "[I", false)
  | 2 => ("SleighPostLaw$Sim", "snow", "[I", false)
  | 3 => ("SleighPostLaw$Sim", "strain", "[I", false)
  | 4 => ("SleighPostLaw$Sim", "cracked", "[Z", false)
  | 5 => ("SleighPostLaw$Sim", "cold", "[I", false)
  | 6 => ("SleighPostLaw$Sim", "posts", "[I", false)
  | 7 => ("SleighPostLaw$Sim", "sleighs", "[LSleighPostLaw$Sleigh;", false)
  | 8 => ("SleighPostLaw$Sim", "bags", "[[I", false)
  | 9 => ("SleighPostLaw$Sim", "far", "[I", true)
  | _ => ("SleighPostLaw$Sim", "done", "[Z", true)
def tyX6 : Nat → FieldType := fun k => match k with
  | 0 => .int
  | 1 => .array .int
  | 2 => .array .int
  | 3 => .array .int
  | 4 => .array .boolean
  | 5 => .array .int
  | 6 => .array .int
  | 7 => .array (.object "SleighPostLaw$Sleigh")
  | 8 => .array (.array .int)
  | 9 => .array .int
  | _ => .array .boolean
theorem nmX6 : ∀ a, a < 11 → ∀ b, b < 11 → a ≠ b → (TX6 a).2.1 ≠ (TX6 b).2.1 := by decide +kernel
theorem tyX6_ok : ∀ k, k < 11 → parseFieldDescriptor (TX6 k).2.2.1 = some (tyX6 k) := by decide +kernel
abbrev cX6_init : ByteArray := prog_8_method_1_code
def yX6_init : MethodName := ⟨RX6, "<init>", "()V"⟩
abbrev cX6_post : ByteArray := prog_8_method_4_code
def yX6_post : MethodName := ⟨RX6, "post", "(I)V"⟩
abbrev cX6_ice : ByteArray := prog_8_method_5_code
def yX6_ice : MethodName := ⟨RX6, "ice", "(II)V"⟩
abbrev cX6_postAt : ByteArray := prog_8_method_6_code
def yX6_postAt : MethodName := ⟨RX6, "postAt", "(I)I"⟩
abbrev cX6_come : ByteArray := prog_8_method_7_code
def yX6_come : MethodName := ⟨RX6, "come", "(II)V"⟩
abbrev cX6_bag : ByteArray := prog_8_method_8_code
def yX6_bag : MethodName := ⟨RX6, "bag", "(III)V"⟩
abbrev cX6_weight : ByteArray := prog_8_method_9_code
def yX6_weight : MethodName := ⟨RX6, "weight", "(I)I"⟩
abbrev cX6_needs : ByteArray := prog_8_method_10_code
def yX6_needs : MethodName := ⟨RX6, "needs", "(II)I"⟩
abbrev cX6_bears : ByteArray := prog_8_method_11_code
def yX6_bears : MethodName := ⟨RX6, "bears", "(II)Z"⟩
abbrev cX6_pace : ByteArray := prog_8_method_12_code
def yX6_pace : MethodName := ⟨RX6, "pace", "(IIII)I"⟩
abbrev cX6_areBeside : ByteArray := prog_8_method_13_code
def yX6_areBeside : MethodName := ⟨RX6, "areBeside", "(II)Z"⟩
abbrev cX6_find : ByteArray := prog_8_method_14_code
def yX6_find : MethodName := ⟨RX6, "find", "(IIII)V"⟩
abbrev cX6_way : ByteArray := prog_8_method_15_code
def yX6_way : MethodName := ⟨RX6, "way", "(IIIII)I"⟩
abbrev cX6_frost : ByteArray := prog_8_method_16_code
def yX6_frost : MethodName := ⟨RX6, "frost", "(I)V"⟩
abbrev cX6_pass : ByteArray := prog_8_method_17_code
def yX6_pass : MethodName := ⟨RX6, "pass", "()I"⟩
def RX7 : String := "SleighPostLaw$Sleigh"
def TX7 : u_T := fun k => match k with
  | 0 => ("SleighPostLaw$Sleigh", "reindeer", "I", false)
  | 1 => ("SleighPostLaw$Sleigh", "tired", "I", false)
  | 2 => ("SleighPostLaw$Sleigh", "state", "I", false)
  | 3 => ("SleighPostLaw$Sleigh", "cell", "I", false)
  | 4 => ("SleighPostLaw$Sleigh", "post", "I", false)
  | 5 => ("SleighPostLaw$Sleigh", "next", "I", false)
  | _ => ("SleighPostLaw$Sleigh", "left", "I", false)
def tyX7 : Nat → FieldType := fun k => match k with
  | 0 => .int
  | 1 => .int
  | 2 => .int
  | 3 => .int
  | 4 => .int
  | 5 => .int
  | _ => .int
theorem nmX7 : ∀ a, a < 7 → ∀ b, b < 7 → a ≠ b → (TX7 a).2.1 ≠ (TX7 b).2.1 := by decide +kernel
theorem tyX7_ok : ∀ k, k < 7 → parseFieldDescriptor (TX7 k).2.2.1 = some (tyX7 k) := by decide +kernel
abbrev cX7_init : ByteArray := prog_9_method_1_code
def yX7_init : MethodName := ⟨RX7, "<init>", "()V"⟩
def RX8 : String := "SleighPostModel"
def TX8 : u_T := fun k => match k with
  | _ => ("", "", "", false)
def tyX8 : Nat → FieldType := fun k => match k with
  | _ => .int
theorem nmX8 : ∀ a, a < 0 → ∀ b, b < 0 → a ≠ b → (TX8 a).2.1 ≠ (TX8 b).2.1 := by decide +kernel
theorem tyX8_ok : ∀ k, k < 0 → parseFieldDescriptor (TX8 k).2.2.1 = some (tyX8 k) := by decide +kernel
def RJx145de : String := "java/io/Serializable"
def TJx145de : u_T := fun k => match k with
  | _ => ("", "", "", false)
def tyJx145de : Nat → FieldType := fun k => match k with
  | _ => .int
theorem nmJx145de : ∀ a, a < 0 → ∀ b, b < 0 → a ≠ b → (TJx145de a).2.1 ≠ (TJx145de b).2.1 := by decide +kernel
theorem tyJx145de_ok : ∀ k, k < 0 → parseFieldDescriptor (TJx145de k).2.2.1 = some (tyJx145de k) := by decide +kernel
def RJx8e188 : String := "java/lang/Cloneable"
def TJx8e188 : u_T := fun k => match k with
  | _ => ("", "", "", false)
def tyJx8e188 : Nat → FieldType := fun k => match k with
  | _ => .int
theorem nmJx8e188 : ∀ a, a < 0 → ∀ b, b < 0 → a ≠ b → (TJx8e188 a).2.1 ≠ (TJx8e188 b).2.1 := by decide +kernel
theorem tyJx8e188_ok : ∀ k, k < 0 → parseFieldDescriptor (TJx8e188 k).2.2.1 = some (tyJx8e188 k) := by decide +kernel
def RJ9 : String := "java/lang/Math"
def TJ9 : u_T := fun k => match k with
  | _ => ("", "", "", false)
def tyJ9 : Nat → FieldType := fun k => match k with
  | _ => .int
theorem nmJ9 : ∀ a, a < 0 → ∀ b, b < 0 → a ≠ b → (TJ9 a).2.1 ≠ (TJ9 b).2.1 := by decide +kernel
theorem tyJ9_ok : ∀ k, k < 0 → parseFieldDescriptor (TJ9 k).2.2.1 = some (tyJ9 k) := by decide +kernel
abbrev cJ9_floorMod_7cf53 : ByteArray := prog_16_method_50_code
def yJ9_floorMod_7cf53 : MethodName := ⟨RJ9, "floorMod", "(II)I"⟩
abbrev cJ9_abs_0f7a4 : ByteArray := prog_16_method_59_code
def yJ9_abs_0f7a4 : MethodName := ⟨RJ9, "abs", "(I)I"⟩
abbrev cJ9_max_7cf53 : ByteArray := prog_16_method_65_code
def yJ9_max_7cf53 : MethodName := ⟨RJ9, "max", "(II)I"⟩
abbrev cJ9_min_7cf53 : ByteArray := prog_16_method_69_code
def yJ9_min_7cf53 : MethodName := ⟨RJ9, "min", "(II)I"⟩
def RJ0 : String := "java/lang/String"
def TJ0 : u_T := fun k => match k with
  | _ => ("", "", "", false)
def tyJ0 : Nat → FieldType := fun k => match k with
  | _ => .int
theorem nmJ0 : ∀ a, a < 0 → ∀ b, b < 0 → a ≠ b → (TJ0 a).2.1 ≠ (TJ0 b).2.1 := by decide +kernel
theorem tyJ0_ok : ∀ k, k < 0 → parseFieldDescriptor (TJ0 k).2.2.1 = some (tyJ0 k) := by decide +kernel
def RJ10 : String := "java/lang/System"
def TJ10 : u_T := fun k => match k with
  | _ => ("", "", "", false)
def tyJ10 : Nat → FieldType := fun k => match k with
  | _ => .int
theorem nmJ10 : ∀ a, a < 0 → ∀ b, b < 0 → a ≠ b → (TJ10 a).2.1 ≠ (TJ10 b).2.1 := by decide +kernel
theorem tyJ10_ok : ∀ k, k < 0 → parseFieldDescriptor (TJ10 k).2.2.1 = some (tyJ10 k) := by decide +kernel
def RJ7 : String := "java/util/Arrays"
def TJ7 : u_T := fun k => match k with
  | _ => ("", "", "", false)
def tyJ7 : Nat → FieldType := fun k => match k with
  | _ => .int
theorem nmJ7 : ∀ a, a < 0 → ∀ b, b < 0 → a ≠ b → (TJ7 a).2.1 ≠ (TJ7 b).2.1 := by decide +kernel
theorem tyJ7_ok : ∀ k, k < 0 → parseFieldDescriptor (TJ7 k).2.2.1 = some (tyJ7 k) := by decide +kernel
abbrev cJ7_fill_53178 : ByteArray := prog_21_method_103_code
def yJ7_fill_53178 : MethodName := ⟨RJ7, "fill", "([II)V"⟩
def RL : String := "SleighPostLaw"
abbrev cL_below : ByteArray := method_2_code
def yL_below : MethodName := ⟨RL, "below", "(II)I"⟩
abbrev cL_cell : ByteArray := method_3_code
def yL_cell : MethodName := ⟨RL, "cell", "([II)I"⟩
abbrev cL_build : ByteArray := method_4_code
def yL_build : MethodName := ⟨RL, "build", "(LSleighPost;[I)LSleighPostLaw$Sim;"⟩
abbrev cL_act : ByteArray := method_5_code
def yL_act : MethodName := ⟨RL, "act", "(LSleighPost;LSleighPostLaw$Sim;I)Z"⟩
abbrev cL_law : ByteArray := code
def yL_law : MethodName := ⟨RL, "law", "([I)Z"⟩
abbrev vwCl : List vw_C := [(RX0, TX0, 5), (RX1, TX1, 7), (RX2, TX2, 9), (RX3, TX3, 7), (RX4, TX4, 9), (RX5, TX5, 2), (RX6, TX6, 11), (RX7, TX7, 7)]

