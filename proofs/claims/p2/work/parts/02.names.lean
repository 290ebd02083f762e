def RX0 : String := "Overwalks$Kind"
def TX0 : u_T := fun k => match k with
  | _ => ("", "", "", false)
def tyX0 : Nat → FieldType := fun k => match k with
  | _ => .int
theorem nmX0 : ∀ a, a < 0 → ∀ b, b < 0 → a ≠ b → (TX0 a).2.1 ≠ (TX0 b).2.1 := by decide +kernel
theorem tyX0_ok : ∀ k, k < 0 → parseFieldDescriptor (TX0 k).2.2.1 = some (tyX0 k) := by decide +kernel
def RX1 : String := "Overwalks$Shelf"
def TX1 : u_T := fun k => match k with
  | 0 => ("Overwalks$Shelf", "kind", "LOverwalks$Kind;", true)
  | 1 => ("Overwalks$Shelf", "things", "[I", true)
  | 2 => ("Overwalks$Shelf", "count", "I", false)
  | 3 => ("Overwalks$Shelf", "shifts", "I", false)
  | _ => ("Overwalks$Shelf", "turns", "I", false)
def tyX1 : Nat → FieldType := fun k => match k with
  | 0 => .object "Overwalks$Kind"
  | 1 => .array .int
  | 2 => .int
  | 3 => .int
  | _ => .int
theorem nmX1 : ∀ a, a < 5 → ∀ b, b < 5 → a ≠ b → (TX1 a).2.1 ≠ (TX1 b).2.1 := by decide +kernel
theorem tyX1_ok : ∀ k, k < 5 → parseFieldDescriptor (TX1 k).2.2.1 = some (tyX1 k) := by decide +kernel
abbrev cX1_init : ByteArray := prog_3_method_1_code
def yX1_init : MethodName := ⟨RX1, "<init>", "(LOverwalks$Kind;)V"⟩
abbrev cX1_isOfTable : ByteArray := prog_3_method_2_code
def yX1_isOfTable : MethodName := ⟨RX1, "isOfTable", "()Z"⟩
abbrev cX1_takesIn : ByteArray := prog_3_method_3_code
def yX1_takesIn : MethodName := ⟨RX1, "takesIn", "(I)Z"⟩
abbrev cX1_thingAt : ByteArray := prog_3_method_4_code
def yX1_thingAt : MethodName := ⟨RX1, "thingAt", "(I)I"⟩
abbrev cX1_firstPlace : ByteArray := prog_3_method_5_code
def yX1_firstPlace : MethodName := ⟨RX1, "firstPlace", "(I)I"⟩
abbrev cX1_lastPlace : ByteArray := prog_3_method_6_code
def yX1_lastPlace : MethodName := ⟨RX1, "lastPlace", "(I)I"⟩
abbrev cX1_holds : ByteArray := prog_3_method_7_code
def yX1_holds : MethodName := ⟨RX1, "holds", "(I)Z"⟩
abbrev cX1_countOf : ByteArray := prog_3_method_8_code
def yX1_countOf : MethodName := ⟨RX1, "countOf", "(I)I"⟩
abbrev cX1_risingPlace : ByteArray := prog_3_method_9_code
def yX1_risingPlace : MethodName := ⟨RX1, "risingPlace", "(I)I"⟩
abbrev cX1_layDown : ByteArray := prog_3_method_10_code
def yX1_layDown : MethodName := ⟨RX1, "layDown", "(I)Z"⟩
abbrev cX1_layAhead : ByteArray := prog_3_method_11_code
def yX1_layAhead : MethodName := ⟨RX1, "layAhead", "(II)Z"⟩
abbrev cX1_lift : ByteArray := prog_3_method_12_code
def yX1_lift : MethodName := ⟨RX1, "lift", "(I)I"⟩
abbrev cX1_liftAll : ByteArray := prog_3_method_13_code
def yX1_liftAll : MethodName := ⟨RX1, "liftAll", "()V"⟩
abbrev cX1_exchange : ByteArray := prog_3_method_14_code
def yX1_exchange : MethodName := ⟨RX1, "exchange", "(II)I"⟩
abbrev cX1_reverse : ByteArray := prog_3_method_15_code
def yX1_reverse : MethodName := ⟨RX1, "reverse", "(II)V"⟩
abbrev cX1_moveOn : ByteArray := prog_3_method_16_code
def yX1_moveOn : MethodName := ⟨RX1, "moveOn", "(I)V"⟩
abbrev cX1_becomeListOf : ByteArray := prog_3_method_17_code
def yX1_becomeListOf : MethodName := ⟨RX1, "becomeListOf", "(LOverwalks$Shelf;I)V"⟩
abbrev cX1_rises : ByteArray := prog_3_method_18_code
def yX1_rises : MethodName := ⟨RX1, "rises", "()Z"⟩
abbrev cX1_hasEachOnce : ByteArray := prog_3_method_19_code
def yX1_hasEachOnce : MethodName := ⟨RX1, "hasEachOnce", "()Z"⟩
def RX2 : String := "Overwalks$Walk"
def TX2 : u_T := fun k => match k with
  | 0 => ("Overwalks$Walk", "isMade", "Z", false)
  | 1 => ("Overwalks$Walk", "over", "LOverwalks$Shelf;", false)
  | 2 => ("Overwalks$Walk", "shelf", "I", false)
  | 3 => ("Overwalks$Walk", "how", "I", false)
  | 4 => ("Overwalks$Walk", "given", "I", false)
  | 5 => ("Overwalks$Walk", "takenOut", "I", false)
  | 6 => ("Overwalks$Walk", "shiftsSeen", "I", false)
  | 7 => ("Overwalks$Walk", "turnsSeen", "I", false)
  | _ => ("Overwalks$Walk", "hasLast", "Z", false)
def tyX2 : Nat → FieldType := fun k => match k with
  | 0 => .boolean
  | 1 => .object "Overwalks$Shelf"
  | 2 => .int
  | 3 => .int
  | 4 => .int
  | 5 => .int
  | 6 => .int
  | 7 => .int
  | _ => .boolean
theorem nmX2 : ∀ a, a < 9 → ∀ b, b < 9 → a ≠ b → (TX2 a).2.1 ≠ (TX2 b).2.1 := by decide +kernel
theorem tyX2_ok : ∀ k, k < 9 → parseFieldDescriptor (TX2 k).2.2.1 = some (tyX2 k) := by decide +kernel
abbrev cX2_init : ByteArray := prog_4_method_1_code
def yX2_init : MethodName := ⟨RX2, "<init>", "(LOverwalks$Shelf;)V"⟩
abbrev cX2_begin : ByteArray := prog_4_method_2_code
def yX2_begin : MethodName := ⟨RX2, "begin", "(LOverwalks$Shelf;II)V"⟩
abbrev cX2_isStale : ByteArray := prog_4_method_3_code
def yX2_isStale : MethodName := ⟨RX2, "isStale", "()Z"⟩
abbrev cX2_ahead : ByteArray := prog_4_method_4_code
def yX2_ahead : MethodName := ⟨RX2, "ahead", "()I"⟩
abbrev cX2_hasMore : ByteArray := prog_4_method_5_code
def yX2_hasMore : MethodName := ⟨RX2, "hasMore", "()Z"⟩
abbrev cX2_canGiveAll : ByteArray := prog_4_method_6_code
def yX2_canGiveAll : MethodName := ⟨RX2, "canGiveAll", "()Z"⟩
abbrev cX2_canTakeOut : ByteArray := prog_4_method_7_code
def yX2_canTakeOut : MethodName := ⟨RX2, "canTakeOut", "()Z"⟩
abbrev cX2_give : ByteArray := prog_4_method_8_code
def yX2_give : MethodName := ⟨RX2, "give", "()I"⟩
abbrev cX2_giveUpTo : ByteArray := prog_4_method_9_code
def yX2_giveUpTo : MethodName := ⟨RX2, "giveUpTo", "(I)I"⟩
abbrev cX2_tookOut : ByteArray := prog_4_method_10_code
def yX2_tookOut : MethodName := ⟨RX2, "tookOut", "()V"⟩
def RX3 : String := "Overwalks"
def TX3 : u_T := fun k => match k with
  | 0 => ("Overwalks", "shelves", "[LOverwalks$Shelf;", true)
  | 1 => ("Overwalks", "walks", "[LOverwalks$Walk;", true)
  | 2 => ("Overwalks", "probe", "LOverwalks$Walk;", true)
  | 3 => ("Overwalks", "otherProbe", "LOverwalks$Walk;", true)
  | 4 => ("Overwalks", "probeList", "LOverwalks$Shelf;", true)
  | 5 => ("Overwalks", "refusals", "I", false)
  | _ => ("Overwalks", "knocks", "I", false)
def tyX3 : Nat → FieldType := fun k => match k with
  | 0 => .array (.object "Overwalks$Shelf")
  | 1 => .array (.object "Overwalks$Walk")
  | 2 => .object "Overwalks$Walk"
  | 3 => .object "Overwalks$Walk"
  | 4 => .object "Overwalks$Shelf"
  | 5 => .int
  | _ => .int
theorem nmX3 : ∀ a, a < 7 → ∀ b, b < 7 → a ≠ b → (TX3 a).2.1 ≠ (TX3 b).2.1 := by decide +kernel
theorem tyX3_ok : ∀ k, k < 7 → parseFieldDescriptor (TX3 k).2.2.1 = some (tyX3 k) := by decide +kernel
abbrev cX3_init : ByteArray := prog_1_method_1_code
def yX3_init : MethodName := ⟨RX3, "<init>", "()V"⟩
abbrev cX3_put : ByteArray := prog_1_method_2_code
def yX3_put : MethodName := ⟨RX3, "put", "(II)I"⟩
abbrev cX3_putAll : ByteArray := prog_1_method_3_code
def yX3_putAll : MethodName := ⟨RX3, "putAll", "(IIIII)I"⟩
abbrev cX3_take : ByteArray := prog_1_method_4_code
def yX3_take : MethodName := ⟨RX3, "take", "(II)I"⟩
abbrev cX3_clear : ByteArray := prog_1_method_5_code
def yX3_clear : MethodName := ⟨RX3, "clear", "(I)I"⟩
abbrev cX3_pair : ByteArray := prog_1_method_6_code
def yX3_pair : MethodName := ⟨RX3, "pair", "(II)I"⟩
abbrev cX3_pour : ByteArray := prog_1_method_7_code
def yX3_pour : MethodName := ⟨RX3, "pour", "(II)I"⟩
abbrev cX3_change : ByteArray := prog_1_method_8_code
def yX3_change : MethodName := ⟨RX3, "change", "(III)I"⟩
abbrev cX3_insert : ByteArray := prog_1_method_9_code
def yX3_insert : MethodName := ⟨RX3, "insert", "(III)I"⟩
abbrev cX3_remove : ByteArray := prog_1_method_10_code
def yX3_remove : MethodName := ⟨RX3, "remove", "(II)I"⟩
abbrev cX3_turn : ByteArray := prog_1_method_11_code
def yX3_turn : MethodName := ⟨RX3, "turn", "(I)I"⟩
abbrev cX3_rotate : ByteArray := prog_1_method_12_code
def yX3_rotate : MethodName := ⟨RX3, "rotate", "(II)I"⟩
abbrev cX3_swap : ByteArray := prog_1_method_13_code
def yX3_swap : MethodName := ⟨RX3, "swap", "(III)I"⟩
abbrev cX3_fill : ByteArray := prog_1_method_14_code
def yX3_fill : MethodName := ⟨RX3, "fill", "(II)I"⟩
abbrev cX3_replace : ByteArray := prog_1_method_15_code
def yX3_replace : MethodName := ⟨RX3, "replace", "(III)I"⟩
abbrev cX3_copies : ByteArray := prog_1_method_16_code
def yX3_copies : MethodName := ⟨RX3, "copies", "(III)I"⟩
abbrev cX3_walk : ByteArray := prog_1_method_17_code
def yX3_walk : MethodName := ⟨RX3, "walk", "(III)I"⟩
abbrev cX3_next : ByteArray := prog_1_method_18_code
def yX3_next : MethodName := ⟨RX3, "next", "(I)I"⟩
abbrev cX3_more : ByteArray := prog_1_method_19_code
def yX3_more : MethodName := ⟨RX3, "more", "(I)I"⟩
abbrev cX3_takeOut : ByteArray := prog_1_method_20_code
def yX3_takeOut : MethodName := ⟨RX3, "takeOut", "(I)I"⟩
abbrev cX3_rest : ByteArray := prog_1_method_21_code
def yX3_rest : MethodName := ⟨RX3, "rest", "(I)Ljava/lang/String;"⟩
abbrev cX3_keepRest : ByteArray := prog_1_method_22_code
def yX3_keepRest : MethodName := ⟨RX3, "keepRest", "(II)I"⟩
abbrev cX3_keep : ByteArray := prog_1_method_23_code
def yX3_keep : MethodName := ⟨RX3, "keep", "(II)I"⟩
abbrev cX3_drop : ByteArray := prog_1_method_24_code
def yX3_drop : MethodName := ⟨RX3, "drop", "(I)I"⟩
abbrev cX3_skip : ByteArray := prog_1_method_25_code
def yX3_skip : MethodName := ⟨RX3, "skip", "(II)I"⟩
abbrev cX3_pourRest : ByteArray := prog_1_method_26_code
def yX3_pourRest : MethodName := ⟨RX3, "pourRest", "(II)I"⟩
abbrev cX3_zip : ByteArray := prog_1_method_27_code
def yX3_zip : MethodName := ⟨RX3, "zip", "(II)Ljava/lang/String;"⟩
abbrev cX3_text : ByteArray := prog_1_method_28_code
def yX3_text : MethodName := ⟨RX3, "text", "(I)Ljava/lang/String;"⟩
abbrev cX3_list : ByteArray := prog_1_method_29_code
def yX3_list : MethodName := ⟨RX3, "list", "(I)Ljava/lang/String;"⟩
abbrev cX3_size : ByteArray := prog_1_method_30_code
def yX3_size : MethodName := ⟨RX3, "size", "(I)I"⟩
abbrev cX3_isEmpty : ByteArray := prog_1_method_31_code
def yX3_isEmpty : MethodName := ⟨RX3, "isEmpty", "(I)Z"⟩
abbrev cX3_has : ByteArray := prog_1_method_32_code
def yX3_has : MethodName := ⟨RX3, "has", "(II)I"⟩
abbrev cX3_often : ByteArray := prog_1_method_33_code
def yX3_often : MethodName := ⟨RX3, "often", "(II)I"⟩
abbrev cX3_placeOf : ByteArray := prog_1_method_34_code
def yX3_placeOf : MethodName := ⟨RX3, "placeOf", "(IIZ)I"⟩
abbrev cX3_disjoint : ByteArray := prog_1_method_35_code
def yX3_disjoint : MethodName := ⟨RX3, "disjoint", "(II)I"⟩
abbrev cX3_end : ByteArray := prog_1_method_36_code
def yX3_end : MethodName := ⟨RX3, "end", "(IZ)I"⟩
abbrev cX3_code : ByteArray := prog_1_method_37_code
def yX3_code : MethodName := ⟨RX3, "code", "(I)I"⟩
abbrev cX3_areAlike : ByteArray := prog_1_method_38_code
def yX3_areAlike : MethodName := ⟨RX3, "areAlike", "(II)Z"⟩
abbrev cX3_first : ByteArray := prog_1_method_39_code
def yX3_first : MethodName := ⟨RX3, "first", "(IZ)I"⟩
abbrev cX3_valueOf : ByteArray := prog_1_method_40_code
def yX3_valueOf : MethodName := ⟨RX3, "valueOf", "(I)I"⟩
abbrev cX3_ofWalk : ByteArray := prog_1_method_41_code
def yX3_ofWalk : MethodName := ⟨RX3, "ofWalk", "(II)I"⟩
abbrev cX3_house : ByteArray := prog_1_method_42_code
def yX3_house : MethodName := ⟨RX3, "house", "(I)I"⟩
abbrev cX3_knock : ByteArray := prog_1_method_43_code
def yX3_knock : MethodName := ⟨RX3, "knock", "()I"⟩
abbrev cX3_isSound : ByteArray := prog_1_method_44_code
def yX3_isSound : MethodName := ⟨RX3, "isSound", "()Z"⟩
abbrev cX3_digest : ByteArray := prog_1_method_45_code
def yX3_digest : MethodName := ⟨RX3, "digest", "()J"⟩
abbrev cX3_shelfAt : ByteArray := prog_1_method_46_code
def yX3_shelfAt : MethodName := ⟨RX3, "shelfAt", "(I)LOverwalks$Shelf;"⟩
abbrev cX3_rowAt : ByteArray := prog_1_method_47_code
def yX3_rowAt : MethodName := ⟨RX3, "rowAt", "(I)LOverwalks$Shelf;"⟩
abbrev cX3_listAt : ByteArray := prog_1_method_48_code
def yX3_listAt : MethodName := ⟨RX3, "listAt", "(I)LOverwalks$Shelf;"⟩
abbrev cX3_walkAt : ByteArray := prog_1_method_49_code
def yX3_walkAt : MethodName := ⟨RX3, "walkAt", "(I)LOverwalks$Walk;"⟩
abbrev cX3_requireMade : ByteArray := prog_1_method_50_code
def yX3_requireMade : MethodName := ⟨RX3, "requireMade", "(LOverwalks$Walk;)V"⟩
abbrev cX3_requirePlace : ByteArray := prog_1_method_51_code
def yX3_requirePlace : MethodName := ⟨RX3, "requirePlace", "(II)V"⟩
abbrev cX3_requireThing : ByteArray := prog_1_method_52_code
def yX3_requireThing : MethodName := ⟨RX3, "requireThing", "(I)V"⟩
abbrev cX3_requireThingOrNothing : ByteArray := prog_1_method_53_code
def yX3_requireThingOrNothing : MethodName := ⟨RX3, "requireThingOrNothing", "(I)V"⟩
abbrev cX3_requireThingNothingOrNone : ByteArray := prog_1_method_54_code
def yX3_requireThingNothingOrNone : MethodName := ⟨RX3, "requireThingNothingOrNone", "(I)V"⟩
abbrev cX3_requireUpToRoom : ByteArray := prog_1_method_55_code
def yX3_requireUpToRoom : MethodName := ⟨RX3, "requireUpToRoom", "(I)V"⟩
abbrev cX3_requireRoom : ByteArray := prog_1_method_56_code
def yX3_requireRoom : MethodName := ⟨RX3, "requireRoom", "(LOverwalks$Shelf;I)V"⟩
abbrev cX3_refuse : ByteArray := prog_1_method_57_code
def yX3_refuse : MethodName := ⟨RX3, "refuse", "()I"⟩
abbrev cX3_oneIf : ByteArray := prog_1_method_58_code
def yX3_oneIf : MethodName := ⟨RX3, "oneIf", "(Z)I"⟩
abbrev cX3_countToFirstNone : ByteArray := prog_1_method_59_code
def yX3_countToFirstNone : MethodName := ⟨RX3, "countToFirstNone", "(IIII)I"⟩
abbrev cX3_oneOfFour : ByteArray := prog_1_method_60_code
def yX3_oneOfFour : MethodName := ⟨RX3, "oneOfFour", "(IIIII)I"⟩
abbrev cX3_liftFrom : ByteArray := prog_1_method_61_code
def yX3_liftFrom : MethodName := ⟨RX3, "liftFrom", "(LOverwalks$Shelf;I)V"⟩
abbrev cX3_cannotPour : ByteArray := prog_1_method_62_code
def yX3_cannotPour : MethodName := ⟨RX3, "cannotPour", "(LOverwalks$Shelf;LOverwalks$Shelf;)Z"⟩
abbrev cX3_hasNothingsThatAreNotTaken : ByteArray := prog_1_method_63_code
def yX3_hasNothingsThatAreNotTaken : MethodName := ⟨RX3, "hasNothingsThatAreNotTaken", "(LOverwalks$Shelf;LOverwalks$Shelf;)Z"⟩
abbrev cX3_pourBehind : ByteArray := prog_1_method_64_code
def yX3_pourBehind : MethodName := ⟨RX3, "pourBehind", "(LOverwalks$Shelf;ILOverwalks$Shelf;)Z"⟩
abbrev cX3_listRest : ByteArray := prog_1_method_65_code
def yX3_listRest : MethodName := ⟨RX3, "listRest", "(LOverwalks$Walk;LOverwalks$Shelf;)I"⟩
abbrev cX3_haveTheSame : ByteArray := prog_1_method_66_code
def yX3_haveTheSame : MethodName := ⟨RX3, "haveTheSame", "(LOverwalks$Shelf;LOverwalks$Shelf;)Z"⟩
abbrev cX3_textBehind : ByteArray := prog_1_method_67_code
def yX3_textBehind : MethodName := ⟨RX3, "textBehind", "(LOverwalks$Shelf;I)Ljava/lang/String;"⟩
abbrev cX3_appendBlankBehindFirst : ByteArray := prog_1_method_68_code
def yX3_appendBlankBehindFirst : MethodName := ⟨RX3, "appendBlankBehindFirst", "(Ljava/lang/StringBuilder;I)V"⟩
abbrev cX3_appendThing : ByteArray := prog_1_method_69_code
def yX3_appendThing : MethodName := ⟨RX3, "appendThing", "(Ljava/lang/StringBuilder;I)V"⟩
abbrev cX3_countThings : ByteArray := prog_1_method_70_code
def yX3_countThings : MethodName := ⟨RX3, "countThings", "()I"⟩
abbrev cX3_countNothings : ByteArray := prog_1_method_71_code
def yX3_countNothings : MethodName := ⟨RX3, "countNothings", "()I"⟩
abbrev cX3_countWalks : ByteArray := prog_1_method_72_code
def yX3_countWalks : MethodName := ⟨RX3, "countWalks", "()I"⟩
abbrev cX3_countStaleWalks : ByteArray := prog_1_method_73_code
def yX3_countStaleWalks : MethodName := ⟨RX3, "countStaleWalks", "()I"⟩
abbrev cX3_giveTheSame : ByteArray := prog_1_method_74_code
def yX3_giveTheSame : MethodName := ⟨RX3, "giveTheSame", "(III)Z"⟩
abbrev cX3_isItsList : ByteArray := prog_1_method_75_code
def yX3_isItsList : MethodName := ⟨RX3, "isItsList", "(I)Z"⟩
abbrev cX3_isItsListBehindOneStep : ByteArray := prog_1_method_76_code
def yX3_isItsListBehindOneStep : MethodName := ⟨RX3, "isItsListBehindOneStep", "(I)Z"⟩
def RX4 : String := "OverwalksLaw$Out"
def TX4 : u_T := fun k => match k with
  | 0 => ("OverwalksLaw$Out", "n", "J", false)
  | _ => ("OverwalksLaw$Out", "s", "Ljava/lang/String;", false)
def tyX4 : Nat → FieldType := fun k => match k with
  | 0 => .long
  | _ => .object "java/lang/String"
theorem nmX4 : ∀ a, a < 2 → ∀ b, b < 2 → a ≠ b → (TX4 a).2.1 ≠ (TX4 b).2.1 := by decide +kernel
theorem tyX4_ok : ∀ k, k < 2 → parseFieldDescriptor (TX4 k).2.2.1 = some (tyX4 k) := by decide +kernel
abbrev cX4_init : ByteArray := prog_6_method_1_code
def yX4_init : MethodName := ⟨RX4, "<init>", "()V"⟩
def RX5 : String := "OverwalksModel"
def TX5 : u_T := fun k => match k with
  | 0 => ("OverwalksModel", "thrown", "I", false)
  | 1 => ("OverwalksModel", "knocks", "I", false)
  | 2 => ("OverwalksModel", "refusals", "I", false)
  | 3 => ("OverwalksModel", "rows", "[[I", true)
  | 4 => ("OverwalksModel", "sizes", "[I", true)
  | 5 => ("OverwalksModel", "shifts", "[I", true)
  | 6 => ("OverwalksModel", "shelves", "[I", true)
  | 7 => ("OverwalksModel", "hows", "[I", true)
  | 8 => ("OverwalksModel", "given", "[I", true)
  | 9 => ("OverwalksModel", "stamps", "[I", true)
  | 10 => ("OverwalksModel", "places", "[I", true)
  | 11 => ("OverwalksModel", "canTake", "[Z", true)
  | 12 => ("OverwalksModel", "turns", "[I", true)
  | _ => ("OverwalksModel", "turned", "[I", true)
def tyX5 : Nat → FieldType := fun k => match k with
  | 0 => .int
  | 1 => .int
  | 2 => .int
  | 3 => .array (.array .int)
  | 4 => .array .int
  | 5 => .array .int
  | 6 => .array .int
  | 7 => .array .int
  | 8 => .array .int
  | 9 => .array .int
  | 10 => .array .int
  | 11 => .array .boolean
  | 12 => .array .int
  | _ => .array .int
theorem nmX5 : ∀ a, a < 14 → ∀ b, b < 14 → a ≠ b → (TX5 a).2.1 ≠ (TX5 b).2.1 := by decide +kernel
theorem tyX5_ok : ∀ k, k < 14 → parseFieldDescriptor (TX5 k).2.2.1 = some (tyX5 k) := by decide +kernel
abbrev cX5_init : ByteArray := prog_7_method_1_code
def yX5_init : MethodName := ⟨RX5, "<init>", "()V"⟩
abbrev cX5_thrown : ByteArray := prog_7_method_2_code
def yX5_thrown : MethodName := ⟨RX5, "thrown", "()I"⟩
abbrev cX5_isIn : ByteArray := prog_7_method_3_code
def yX5_isIn : MethodName := ⟨RX5, "isIn", "(III)Z"⟩
abbrev cX5_one : ByteArray := prog_7_method_4_code
def yX5_one : MethodName := ⟨RX5, "one", "(Z)I"⟩
abbrev cX5_isStopped : ByteArray := prog_7_method_5_code
def yX5_isStopped : MethodName := ⟨RX5, "isStopped", "(ZZZ)Z"⟩
abbrev cX5_isStopped_ : ByteArray := prog_7_method_6_code
def yX5_isStopped_ : MethodName := ⟨RX5, "isStopped", "(ZZ)Z"⟩
abbrev cX5_isStopped__ : ByteArray := prog_7_method_7_code
def yX5_isStopped__ : MethodName := ⟨RX5, "isStopped", "(Z)Z"⟩
abbrev cX5_no : ByteArray := prog_7_method_8_code
def yX5_no : MethodName := ⟨RX5, "no", "()I"⟩
abbrev cX5_noText : ByteArray := prog_7_method_9_code
def yX5_noText : MethodName := ⟨RX5, "noText", "()Ljava/lang/String;"⟩
abbrev cX5_isNone : ByteArray := prog_7_method_10_code
def yX5_isNone : MethodName := ⟨RX5, "isNone", "(I)Z"⟩
abbrev cX5_isNoRow : ByteArray := prog_7_method_11_code
def yX5_isNoRow : MethodName := ⟨RX5, "isNoRow", "(I)Z"⟩
abbrev cX5_isNoList : ByteArray := prog_7_method_12_code
def yX5_isNoList : MethodName := ⟨RX5, "isNoList", "(I)Z"⟩
abbrev cX5_isNoThing : ByteArray := prog_7_method_13_code
def yX5_isNoThing : MethodName := ⟨RX5, "isNoThing", "(I)Z"⟩
abbrev cX5_isTable : ByteArray := prog_7_method_14_code
def yX5_isTable : MethodName := ⟨RX5, "isTable", "(I)Z"⟩
abbrev cX5_takesNothing : ByteArray := prog_7_method_15_code
def yX5_takesNothing : MethodName := ⟨RX5, "takesNothing", "(I)Z"⟩
abbrev cX5_isNoPlace : ByteArray := prog_7_method_16_code
def yX5_isNoPlace : MethodName := ⟨RX5, "isNoPlace", "(II)Z"⟩
abbrev cX5_hasNothing : ByteArray := prog_7_method_17_code
def yX5_hasNothing : MethodName := ⟨RX5, "hasNothing", "(I)Z"⟩
abbrev cX5_count : ByteArray := prog_7_method_18_code
def yX5_count : MethodName := ⟨RX5, "count", "(II)I"⟩
abbrev cX5_firstPlace : ByteArray := prog_7_method_19_code
def yX5_firstPlace : MethodName := ⟨RX5, "firstPlace", "(II)I"⟩
abbrev cX5_comeAt : ByteArray := prog_7_method_20_code
def yX5_comeAt : MethodName := ⟨RX5, "comeAt", "(III)V"⟩
abbrev cX5_goAt : ByteArray := prog_7_method_21_code
def yX5_goAt : MethodName := ⟨RX5, "goAt", "(II)V"⟩
abbrev cX5_leave : ByteArray := prog_7_method_22_code
def yX5_leave : MethodName := ⟨RX5, "leave", "(II)V"⟩
abbrev cX5_come : ByteArray := prog_7_method_23_code
def yX5_come : MethodName := ⟨RX5, "come", "(II)Z"⟩
abbrev cX5_comeAll : ByteArray := prog_7_method_24_code
def yX5_comeAll : MethodName := ⟨RX5, "comeAll", "(I[II)I"⟩
abbrev cX5_picture : ByteArray := prog_7_method_25_code
def yX5_picture : MethodName := ⟨RX5, "picture", "(II)[I"⟩
abbrev cX5_empty : ByteArray := prog_7_method_26_code
def yX5_empty : MethodName := ⟨RX5, "empty", "(I)V"⟩
abbrev cX5_put : ByteArray := prog_7_method_27_code
def yX5_put : MethodName := ⟨RX5, "put", "(II)I"⟩
abbrev cX5_putAll : ByteArray := prog_7_method_28_code
def yX5_putAll : MethodName := ⟨RX5, "putAll", "(IIIII)I"⟩
abbrev cX5_take : ByteArray := prog_7_method_29_code
def yX5_take : MethodName := ⟨RX5, "take", "(II)I"⟩
abbrev cX5_clear : ByteArray := prog_7_method_30_code
def yX5_clear : MethodName := ⟨RX5, "clear", "(I)I"⟩
abbrev cX5_pair : ByteArray := prog_7_method_31_code
def yX5_pair : MethodName := ⟨RX5, "pair", "(II)I"⟩
abbrev cX5_pour : ByteArray := prog_7_method_32_code
def yX5_pour : MethodName := ⟨RX5, "pour", "(II)I"⟩
abbrev cX5_change : ByteArray := prog_7_method_33_code
def yX5_change : MethodName := ⟨RX5, "change", "(III)I"⟩
abbrev cX5_insert : ByteArray := prog_7_method_34_code
def yX5_insert : MethodName := ⟨RX5, "insert", "(III)I"⟩
abbrev cX5_remove : ByteArray := prog_7_method_35_code
def yX5_remove : MethodName := ⟨RX5, "remove", "(II)I"⟩
abbrev cX5_turn : ByteArray := prog_7_method_36_code
def yX5_turn : MethodName := ⟨RX5, "turn", "(I)I"⟩
abbrev cX5_rotate : ByteArray := prog_7_method_37_code
def yX5_rotate : MethodName := ⟨RX5, "rotate", "(II)I"⟩
abbrev cX5_swap : ByteArray := prog_7_method_38_code
def yX5_swap : MethodName := ⟨RX5, "swap", "(III)I"⟩
abbrev cX5_fill : ByteArray := prog_7_method_39_code
def yX5_fill : MethodName := ⟨RX5, "fill", "(II)I"⟩
abbrev cX5_replace : ByteArray := prog_7_method_40_code
def yX5_replace : MethodName := ⟨RX5, "replace", "(III)I"⟩
abbrev cX5_copies : ByteArray := prog_7_method_41_code
def yX5_copies : MethodName := ⟨RX5, "copies", "(III)I"⟩
abbrev cX5_isNoWalk : ByteArray := prog_7_method_42_code
def yX5_isNoWalk : MethodName := ⟨RX5, "isNoWalk", "(I)Z"⟩
abbrev cX5_isUnmade : ByteArray := prog_7_method_43_code
def yX5_isUnmade : MethodName := ⟨RX5, "isUnmade", "(I)Z"⟩
abbrev cX5_isStale : ByteArray := prog_7_method_44_code
def yX5_isStale : MethodName := ⟨RX5, "isStale", "(I)Z"⟩
abbrev cX5_hasMore : ByteArray := prog_7_method_45_code
def yX5_hasMore : MethodName := ⟨RX5, "hasMore", "(I)Z"⟩
abbrev cX5_give : ByteArray := prog_7_method_46_code
def yX5_give : MethodName := ⟨RX5, "give", "(I)I"⟩
abbrev cX5_walk : ByteArray := prog_7_method_47_code
def yX5_walk : MethodName := ⟨RX5, "walk", "(III)I"⟩
abbrev cX5_next : ByteArray := prog_7_method_48_code
def yX5_next : MethodName := ⟨RX5, "next", "(I)I"⟩
abbrev cX5_more : ByteArray := prog_7_method_49_code
def yX5_more : MethodName := ⟨RX5, "more", "(I)I"⟩
abbrev cX5_takeOut : ByteArray := prog_7_method_50_code
def yX5_takeOut : MethodName := ⟨RX5, "takeOut", "(I)I"⟩
abbrev cX5_left : ByteArray := prog_7_method_51_code
def yX5_left : MethodName := ⟨RX5, "left", "(I)[I"⟩
abbrev cX5_sign : ByteArray := prog_7_method_52_code
def yX5_sign : MethodName := ⟨RX5, "sign", "(I)Ljava/lang/String;"⟩
abbrev cX5_text : ByteArray := prog_7_method_53_code
def yX5_text : MethodName := ⟨RX5, "text", "([I)Ljava/lang/String;"⟩
abbrev cX5_rest : ByteArray := prog_7_method_54_code
def yX5_rest : MethodName := ⟨RX5, "rest", "(I)Ljava/lang/String;"⟩
abbrev cX5_made : ByteArray := prog_7_method_55_code
def yX5_made : MethodName := ⟨RX5, "made", "(I[I)I"⟩
abbrev cX5_keepRest : ByteArray := prog_7_method_56_code
def yX5_keepRest : MethodName := ⟨RX5, "keepRest", "(II)I"⟩
abbrev cX5_keep : ByteArray := prog_7_method_57_code
def yX5_keep : MethodName := ⟨RX5, "keep", "(II)I"⟩
abbrev cX5_drop : ByteArray := prog_7_method_58_code
def yX5_drop : MethodName := ⟨RX5, "drop", "(I)I"⟩
abbrev cX5_skip : ByteArray := prog_7_method_59_code
def yX5_skip : MethodName := ⟨RX5, "skip", "(II)I"⟩
abbrev cX5_pourRest : ByteArray := prog_7_method_60_code
def yX5_pourRest : MethodName := ⟨RX5, "pourRest", "(II)I"⟩
abbrev cX5_zip : ByteArray := prog_7_method_61_code
def yX5_zip : MethodName := ⟨RX5, "zip", "(II)Ljava/lang/String;"⟩
abbrev cX5_text_ : ByteArray := prog_7_method_62_code
def yX5_text_ : MethodName := ⟨RX5, "text", "(I)Ljava/lang/String;"⟩
abbrev cX5_list : ByteArray := prog_7_method_63_code
def yX5_list : MethodName := ⟨RX5, "list", "(I)Ljava/lang/String;"⟩
abbrev cX5_size : ByteArray := prog_7_method_64_code
def yX5_size : MethodName := ⟨RX5, "size", "(I)I"⟩
abbrev cX5_isEmpty : ByteArray := prog_7_method_65_code
def yX5_isEmpty : MethodName := ⟨RX5, "isEmpty", "(I)Z"⟩
abbrev cX5_has : ByteArray := prog_7_method_66_code
def yX5_has : MethodName := ⟨RX5, "has", "(II)I"⟩
abbrev cX5_often : ByteArray := prog_7_method_67_code
def yX5_often : MethodName := ⟨RX5, "often", "(II)I"⟩
abbrev cX5_placeOf : ByteArray := prog_7_method_68_code
def yX5_placeOf : MethodName := ⟨RX5, "placeOf", "(IIZ)I"⟩
abbrev cX5_disjoint : ByteArray := prog_7_method_69_code
def yX5_disjoint : MethodName := ⟨RX5, "disjoint", "(II)I"⟩
abbrev cX5_end : ByteArray := prog_7_method_70_code
def yX5_end : MethodName := ⟨RX5, "end", "(IZ)I"⟩
abbrev cX5_code : ByteArray := prog_7_method_71_code
def yX5_code : MethodName := ⟨RX5, "code", "(I)I"⟩
abbrev cX5_areAlike : ByteArray := prog_7_method_72_code
def yX5_areAlike : MethodName := ⟨RX5, "areAlike", "(II)Z"⟩
abbrev cX5_first : ByteArray := prog_7_method_73_code
def yX5_first : MethodName := ⟨RX5, "first", "(IZ)I"⟩
abbrev cX5_valueOf : ByteArray := prog_7_method_74_code
def yX5_valueOf : MethodName := ⟨RX5, "valueOf", "(I)I"⟩
abbrev cX5_told : ByteArray := prog_7_method_75_code
def yX5_told : MethodName := ⟨RX5, "told", "(II)I"⟩
abbrev cX5_ofWalk : ByteArray := prog_7_method_76_code
def yX5_ofWalk : MethodName := ⟨RX5, "ofWalk", "(II)I"⟩
abbrev cX5_houseTold : ByteArray := prog_7_method_77_code
def yX5_houseTold : MethodName := ⟨RX5, "houseTold", "(I)I"⟩
abbrev cX5_house : ByteArray := prog_7_method_78_code
def yX5_house : MethodName := ⟨RX5, "house", "(I)I"⟩
abbrev cX5_knock : ByteArray := prog_7_method_79_code
def yX5_knock : MethodName := ⟨RX5, "knock", "()I"⟩
abbrev cX5_isSound : ByteArray := prog_7_method_80_code
def yX5_isSound : MethodName := ⟨RX5, "isSound", "()Z"⟩
abbrev cX5_digest : ByteArray := prog_7_method_81_code
def yX5_digest : MethodName := ⟨RX5, "digest", "()J"⟩
def RJ5 : String := "java/lang/AbstractStringBuilder"
def TJ5 : u_T := fun k => match k with
  | _ => ("", "", "", false)
def tyJ5 : Nat → FieldType := fun k => match k with
  | _ => .int
theorem nmJ5 : ∀ a, a < 0 → ∀ b, b < 0 → a ≠ b → (TJ5 a).2.1 ≠ (TJ5 b).2.1 := by decide +kernel
theorem tyJ5_ok : ∀ k, k < 0 → parseFieldDescriptor (TJ5 k).2.2.1 = some (tyJ5 k) := by decide +kernel
abbrev cJ5_init_d00df : ByteArray := prog_8_method_2_code
def yJ5_init_d00df : MethodName := ⟨RJ5, "<init>", "(I)V"⟩
abbrev cJ5_length_8abf5 : ByteArray := prog_8_method_6_code
def yJ5_length_8abf5 : MethodName := ⟨RJ5, "length", "()I"⟩
abbrev cJ5_ensureCapacityInternal_d00df : ByteArray := prog_8_method_9_code
def yJ5_ensureCapacityInternal_d00df : MethodName := ⟨RJ5, "ensureCapacityInternal", "(I)V"⟩
abbrev cJ5_newCapacity_0f7a4 : ByteArray := prog_8_method_10_code
def yJ5_newCapacity_0f7a4 : MethodName := ⟨RJ5, "newCapacity", "(I)I"⟩
abbrev cJ5_inflate_da8c8 : ByteArray := prog_8_method_11_code
def yJ5_inflate_da8c8 : MethodName := ⟨RJ5, "inflate", "()V"⟩
abbrev cJ5_append_cf1ce : ByteArray := prog_8_method_22_code
def yJ5_append_cf1ce : MethodName := ⟨RJ5, "append", "(Ljava/lang/String;)Ljava/lang/AbstractStringBuilder;"⟩
abbrev cJ5_appendNull_278bc : ByteArray := prog_8_method_26_code
def yJ5_appendNull_278bc : MethodName := ⟨RJ5, "appendNull", "()Ljava/lang/AbstractStringBuilder;"⟩
abbrev cJ5_append_3fe6f : ByteArray := prog_8_method_31_code
def yJ5_append_3fe6f : MethodName := ⟨RJ5, "append", "(C)Ljava/lang/AbstractStringBuilder;"⟩
abbrev cJ5_append_c97b9 : ByteArray := prog_8_method_32_code
def yJ5_append_c97b9 : MethodName := ⟨RJ5, "append", "(I)Ljava/lang/AbstractStringBuilder;"⟩
abbrev cJ5_getValue_6d5f1 : ByteArray := prog_8_method_64_code
def yJ5_getValue_6d5f1 : MethodName := ⟨RJ5, "getValue", "()[B"⟩
abbrev cJ5_isLatin1_aae02 : ByteArray := prog_8_method_68_code
def yJ5_isLatin1_aae02 : MethodName := ⟨RJ5, "isLatin1", "()Z"⟩
abbrev cJ5_inflateIfNeededFor_a7421 : ByteArray := prog_8_method_71_code
def yJ5_inflateIfNeededFor_a7421 : MethodName := ⟨RJ5, "inflateIfNeededFor", "(Ljava/lang/String;)V"⟩
abbrev cJ5_putStringAt_47b60 : ByteArray := prog_8_method_73_code
def yJ5_putStringAt_47b60 : MethodName := ⟨RJ5, "putStringAt", "(ILjava/lang/String;)V"⟩
def RJx8e188 : String := "java/lang/Cloneable"
def TJx8e188 : u_T := fun k => match k with
  | _ => ("", "", "", false)
def tyJx8e188 : Nat → FieldType := fun k => match k with
  | _ => .int
theorem nmJx8e188 : ∀ a, a < 0 → ∀ b, b < 0 → a ≠ b → (TJx8e188 a).2.1 ≠ (TJx8e188 b).2.1 := by decide +kernel
theorem tyJx8e188_ok : ∀ k, k < 0 → parseFieldDescriptor (TJx8e188 k).2.2.1 = some (tyJx8e188 k) := by decide +kernel
def RJx29ce0 : String := "java/lang/Enum"
def TJx29ce0 : u_T := fun k => match k with
  | _ => ("", "", "", false)
def tyJx29ce0 : Nat → FieldType := fun k => match k with
  | _ => .int
theorem nmJx29ce0 : ∀ a, a < 0 → ∀ b, b < 0 → a ≠ b → (TJx29ce0 a).2.1 ≠ (TJx29ce0 b).2.1 := by decide +kernel
theorem tyJx29ce0_ok : ∀ k, k < 0 → parseFieldDescriptor (TJx29ce0 k).2.2.1 = some (tyJx29ce0 k) := by decide +kernel
def RJ6 : String := "java/lang/Integer"
def TJ6 : u_T := fun k => match k with
  | _ => ("", "", "", false)
def tyJ6 : Nat → FieldType := fun k => match k with
  | _ => .int
theorem nmJ6 : ∀ a, a < 0 → ∀ b, b < 0 → a ≠ b → (TJ6 a).2.1 ≠ (TJ6 b).2.1 := by decide +kernel
theorem tyJ6_ok : ∀ k, k < 0 → parseFieldDescriptor (TJ6 k).2.2.1 = some (tyJ6 k) := by decide +kernel
abbrev cJ6_getChars_ba4f3 : ByteArray := prog_15_method_12_code
def yJ6_getChars_ba4f3 : MethodName := ⟨RJ6, "getChars", "(II[B)I"⟩
abbrev cJ6_stringSize_0f7a4 : ByteArray := prog_15_method_13_code
def yJ6_stringSize_0f7a4 : MethodName := ⟨RJ6, "stringSize", "(I)I"⟩
def RJ9 : String := "java/lang/Math"
def TJ9 : u_T := fun k => match k with
  | _ => ("", "", "", false)
def tyJ9 : Nat → FieldType := fun k => match k with
  | _ => .int
theorem nmJ9 : ∀ a, a < 0 → ∀ b, b < 0 → a ≠ b → (TJ9 a).2.1 ≠ (TJ9 b).2.1 := by decide +kernel
theorem tyJ9_ok : ∀ k, k < 0 → parseFieldDescriptor (TJ9 k).2.2.1 = some (tyJ9 k) := by decide +kernel
abbrev cJ9_floorMod_7cf53 : ByteArray := prog_16_method_50_code
def yJ9_floorMod_7cf53 : MethodName := ⟨RJ9, "floorMod", "(II)I"⟩
abbrev cJ9_max_7cf53 : ByteArray := prog_16_method_65_code
def yJ9_max_7cf53 : MethodName := ⟨RJ9, "max", "(II)I"⟩
abbrev cJ9_min_7cf53 : ByteArray := prog_16_method_69_code
def yJ9_min_7cf53 : MethodName := ⟨RJ9, "min", "(II)I"⟩
def RJ0 : String := "java/lang/String"
def TJ0 : u_T := fun k => match k with
  | 0 => ("java/lang/String", "value", "[B", true)
  | 1 => ("java/lang/String", "coder", "B", true)
  | 2 => ("java/lang/String", "hash", "I", false)
  | _ => ("java/lang/String", "hashIsZero", "Z", false)
def tyJ0 : Nat → FieldType := fun k => match k with
  | 0 => .array .byte
  | 1 => .byte
  | 2 => .int
  | _ => .boolean
theorem nmJ0 : ∀ a, a < 4 → ∀ b, b < 4 → a ≠ b → (TJ0 a).2.1 ≠ (TJ0 b).2.1 := by decide +kernel
theorem tyJ0_ok : ∀ k, k < 4 → parseFieldDescriptor (TJ0 k).2.2.1 = some (tyJ0 k) := by decide +kernel
abbrev cJ0_init_81219 : ByteArray := prog_18_method_53_code
def yJ0_init_81219 : MethodName := ⟨RJ0, "<init>", "(Ljava/lang/StringBuilder;)V"⟩
abbrev cJ0_length_8abf5 : ByteArray := prog_18_method_54_code
def yJ0_length_8abf5 : MethodName := ⟨RJ0, "length", "()I"⟩
abbrev cJ0_isEmpty_aae02 : ByteArray := prog_18_method_55_code
def yJ0_isEmpty_aae02 : MethodName := ⟨RJ0, "isEmpty", "()Z"⟩
abbrev cJ0_getBytes_840e7 : ByteArray := prog_18_method_147_code
def yJ0_getBytes_840e7 : MethodName := ⟨RJ0, "getBytes", "([BIB)V"⟩
abbrev cJ0_init_db425 : ByteArray := prog_18_method_150_code
def yJ0_init_db425 : MethodName := ⟨RJ0, "<init>", "(Ljava/lang/AbstractStringBuilder;Ljava/lang/Void;)V"⟩
abbrev cJ0_coder_7d493 : ByteArray := prog_18_method_152_code
def yJ0_coder_7d493 : MethodName := ⟨RJ0, "coder", "()B"⟩
abbrev cJ0_checkIndex_df160 : ByteArray := prog_18_method_155_code
def yJ0_checkIndex_df160 : MethodName := ⟨RJ0, "checkIndex", "(II)V"⟩
abbrev cJ0_checkBoundsOffCount_cabcc : ByteArray := prog_18_method_157_code
def yJ0_checkBoundsOffCount_cabcc : MethodName := ⟨RJ0, "checkBoundsOffCount", "(III)I"⟩
abbrev cJ0_checkBoundsBeginEnd_23922 : ByteArray := prog_18_method_158_code
def yJ0_checkBoundsBeginEnd_23922 : MethodName := ⟨RJ0, "checkBoundsBeginEnd", "(III)V"⟩
def RJ4 : String := "java/lang/StringBuilder"
def TJ4 : u_T := fun k => match k with
  | 0 => ("java/lang/AbstractStringBuilder", "value", "[B", false)
  | 1 => ("java/lang/AbstractStringBuilder", "coder", "B", false)
  | 2 => ("java/lang/AbstractStringBuilder", "maybeLatin1", "Z", false)
  | _ => ("java/lang/AbstractStringBuilder", "count", "I", false)
def tyJ4 : Nat → FieldType := fun k => match k with
  | 0 => .array .byte
  | 1 => .byte
  | 2 => .boolean
  | _ => .int
theorem nmJ4 : ∀ a, a < 4 → ∀ b, b < 4 → a ≠ b → (TJ4 a).2.1 ≠ (TJ4 b).2.1 := by decide +kernel
theorem tyJ4_ok : ∀ k, k < 4 → parseFieldDescriptor (TJ4 k).2.2.1 = some (tyJ4 k) := by decide +kernel
abbrev cJ4_init_da8c8 : ByteArray := prog_19_method_1_code
def yJ4_init_da8c8 : MethodName := ⟨RJ4, "<init>", "()V"⟩
abbrev cJ4_append_15ec4 : ByteArray := prog_19_method_7_code
def yJ4_append_15ec4 : MethodName := ⟨RJ4, "append", "(Ljava/lang/String;)Ljava/lang/StringBuilder;"⟩
abbrev cJ4_append_cf468 : ByteArray := prog_19_method_14_code
def yJ4_append_cf468 : MethodName := ⟨RJ4, "append", "(C)Ljava/lang/StringBuilder;"⟩
abbrev cJ4_append_bf812 : ByteArray := prog_19_method_15_code
def yJ4_append_bf812 : MethodName := ⟨RJ4, "append", "(I)Ljava/lang/StringBuilder;"⟩
abbrev cJ4_toString_0e30d : ByteArray := prog_19_method_42_code
def yJ4_toString_0e30d : MethodName := ⟨RJ4, "toString", "()Ljava/lang/String;"⟩
abbrev cJ4_length_8abf5 : ByteArray := prog_19_method_93_code
def yJ4_length_8abf5 : MethodName := ⟨RJ4, "length", "()I"⟩
def RJ1 : String := "java/lang/StringLatin1"
def TJ1 : u_T := fun k => match k with
  | _ => ("", "", "", false)
def tyJ1 : Nat → FieldType := fun k => match k with
  | _ => .int
theorem nmJ1 : ∀ a, a < 0 → ∀ b, b < 0 → a ≠ b → (TJ1 a).2.1 ≠ (TJ1 b).2.1 := by decide +kernel
theorem tyJ1_ok : ∀ k, k < 0 → parseFieldDescriptor (TJ1 k).2.2.1 = some (tyJ1 k) := by decide +kernel
abbrev cJ1_canEncode_fc78d : ByteArray := prog_20_method_3_code
def yJ1_canEncode_fc78d : MethodName := ⟨RJ1, "canEncode", "(C)Z"⟩
abbrev cJ1_inflate_0e8fd : ByteArray := prog_20_method_50_code
def yJ1_inflate_0e8fd : MethodName := ⟨RJ1, "inflate", "([BI[BII)V"⟩
def RJ2 : String := "java/lang/StringUTF16"
def TJ2 : u_T := fun k => match k with
  | _ => ("", "", "", false)
def tyJ2 : Nat → FieldType := fun k => match k with
  | _ => .int
theorem nmJ2 : ∀ a, a < 0 → ∀ b, b < 0 → a ≠ b → (TJ2 a).2.1 ≠ (TJ2 b).2.1 := by decide +kernel
theorem tyJ2_ok : ∀ k, k < 0 → parseFieldDescriptor (TJ2 k).2.2.1 = some (tyJ2 k) := by decide +kernel
abbrev cJ2_newBytesFor_77867 : ByteArray := prog_21_method_2_code
def yJ2_newBytesFor_77867 : MethodName := ⟨RJ2, "newBytesFor", "(I)[B"⟩
abbrev cJ2_newBytesLength_0f7a4 : ByteArray := prog_21_method_3_code
def yJ2_newBytesLength_0f7a4 : MethodName := ⟨RJ2, "newBytesLength", "(I)I"⟩
abbrev cJ2_putChar_b72d1 : ByteArray := prog_21_method_4_code
def yJ2_putChar_b72d1 : MethodName := ⟨RJ2, "putChar", "([BII)V"⟩
abbrev cJ2_getChar_3b067 : ByteArray := prog_21_method_5_code
def yJ2_getChar_3b067 : MethodName := ⟨RJ2, "getChar", "([BI)C"⟩
abbrev cJ2_length_9d52b : ByteArray := prog_21_method_6_code
def yJ2_length_9d52b : MethodName := ⟨RJ2, "length", "([B)I"⟩
abbrev cJ2_coderFromArrayLen_85cad : ByteArray := prog_21_method_15_code
def yJ2_coderFromArrayLen_85cad : MethodName := ⟨RJ2, "coderFromArrayLen", "([BI)B"⟩
abbrev cJ2_compress_39247 : ByteArray := prog_21_method_17_code
def yJ2_compress_39247 : MethodName := ⟨RJ2, "compress", "([BII)[B"⟩
abbrev cJ2_compress_5af95 : ByteArray := prog_21_method_22_code
def yJ2_compress_5af95 : MethodName := ⟨RJ2, "compress", "([BI[BII)I"⟩
abbrev cJ2_putCharSB_b72d1 : ByteArray := prog_21_method_71_code
def yJ2_putCharSB_b72d1 : MethodName := ⟨RJ2, "putCharSB", "([BII)V"⟩
abbrev cJ2_getChars_46870 : ByteArray := prog_21_method_77_code
def yJ2_getChars_46870 : MethodName := ⟨RJ2, "getChars", "(III[B)I"⟩
abbrev cJ2_putCharsAt_cd4e5 : ByteArray := prog_21_method_81_code
def yJ2_putCharsAt_cd4e5 : MethodName := ⟨RJ2, "putCharsAt", "([BICCCC)I"⟩
abbrev cJ2_inflate_0e8fd : ByteArray := prog_21_method_86_code
def yJ2_inflate_0e8fd : MethodName := ⟨RJ2, "inflate", "([BI[BII)V"⟩
abbrev cJ2_getChars_ba4f3 : ByteArray := prog_21_method_89_code
def yJ2_getChars_ba4f3 : MethodName := ⟨RJ2, "getChars", "(II[B)I"⟩
abbrev cJ2_checkIndex_2214a : ByteArray := prog_21_method_91_code
def yJ2_checkIndex_2214a : MethodName := ⟨RJ2, "checkIndex", "(I[B)V"⟩
abbrev cJ2_checkBoundsBeginEnd_d044e : ByteArray := prog_21_method_93_code
def yJ2_checkBoundsBeginEnd_d044e : MethodName := ⟨RJ2, "checkBoundsBeginEnd", "(II[B)V"⟩
abbrev cJ2_checkBoundsOffCount_d044e : ByteArray := prog_21_method_94_code
def yJ2_checkBoundsOffCount_d044e : MethodName := ⟨RJ2, "checkBoundsOffCount", "(II[B)V"⟩
def RJ10 : String := "java/lang/System"
def TJ10 : u_T := fun k => match k with
  | _ => ("", "", "", false)
def tyJ10 : Nat → FieldType := fun k => match k with
  | _ => .int
theorem nmJ10 : ∀ a, a < 0 → ∀ b, b < 0 → a ≠ b → (TJ10 a).2.1 ≠ (TJ10 b).2.1 := by decide +kernel
theorem tyJ10_ok : ∀ k, k < 0 → parseFieldDescriptor (TJ10 k).2.2.1 = some (tyJ10 k) := by decide +kernel
def RJ7 : String := "java/util/Arrays"
def TJ7 : u_T := fun k => match k with
  | _ => ("", "", "", false)
def tyJ7 : Nat → FieldType := fun k => match k with
  | _ => .int
theorem nmJ7 : ∀ a, a < 0 → ∀ b, b < 0 → a ≠ b → (TJ7 a).2.1 ≠ (TJ7 b).2.1 := by decide +kernel
theorem tyJ7_ok : ∀ k, k < 0 → parseFieldDescriptor (TJ7 k).2.2.1 = some (tyJ7 k) := by decide +kernel
abbrev cJ7_copyOf_9075b : ByteArray := prog_24_method_121_code
def yJ7_copyOf_9075b : MethodName := ⟨RJ7, "copyOf", "([BI)[B"⟩
abbrev cJ7_checkLength_df160 : ByteArray := prog_24_method_131_code
def yJ7_checkLength_df160 : MethodName := ⟨RJ7, "checkLength", "(II)V"⟩
abbrev cJ7_copyOfRange_39247 : ByteArray := prog_24_method_132_code
def yJ7_copyOfRange_39247 : MethodName := ⟨RJ7, "copyOfRange", "([BII)[B"⟩
abbrev cJ7_copyOfRangeByte_39247 : ByteArray := prog_24_method_133_code
def yJ7_copyOfRangeByte_39247 : MethodName := ⟨RJ7, "copyOfRangeByte", "([BII)[B"⟩
def RJ8 : String := "jdk/internal/util/ArraysSupport"
def TJ8 : u_T := fun k => match k with
  | _ => ("", "", "", false)
def tyJ8 : Nat → FieldType := fun k => match k with
  | _ => .int
theorem nmJ8 : ∀ a, a < 0 → ∀ b, b < 0 → a ≠ b → (TJ8 a).2.1 ≠ (TJ8 b).2.1 := by decide +kernel
theorem tyJ8_ok : ∀ k, k < 0 → parseFieldDescriptor (TJ8 k).2.2.1 = some (tyJ8 k) := by decide +kernel
abbrev cJ8_newLength_cabcc : ByteArray := prog_25_method_27_code
def yJ8_newLength_cabcc : MethodName := ⟨RJ8, "newLength", "(III)I"⟩
abbrev cJ8_hugeLength_7cf53 : ByteArray := prog_25_method_28_code
def yJ8_hugeLength_7cf53 : MethodName := ⟨RJ8, "hugeLength", "(II)I"⟩
def RJ3 : String := "jdk/internal/util/Preconditions"
def TJ3 : u_T := fun k => match k with
  | _ => ("", "", "", false)
def tyJ3 : Nat → FieldType := fun k => match k with
  | _ => .int
theorem nmJ3 : ∀ a, a < 0 → ∀ b, b < 0 → a ≠ b → (TJ3 a).2.1 ≠ (TJ3 b).2.1 := by decide +kernel
theorem tyJ3_ok : ∀ k, k < 0 → parseFieldDescriptor (TJ3 k).2.2.1 = some (tyJ3 k) := by decide +kernel
abbrev cJ3_checkIndex_8e157 : ByteArray := prog_26_method_11_code
def yJ3_checkIndex_8e157 : MethodName := ⟨RJ3, "checkIndex", "(IILjava/util/function/BiFunction;)I"⟩
abbrev cJ3_checkFromToIndex_8c36e : ByteArray := prog_26_method_12_code
def yJ3_checkFromToIndex_8c36e : MethodName := ⟨RJ3, "checkFromToIndex", "(IIILjava/util/function/BiFunction;)I"⟩
abbrev cJ3_checkFromIndexSize_8c36e : ByteArray := prog_26_method_13_code
def yJ3_checkFromIndexSize_8c36e : MethodName := ⟨RJ3, "checkFromIndexSize", "(IIILjava/util/function/BiFunction;)I"⟩
def RL : String := "OverwalksLaw"
abbrev cL_put : ByteArray := method_2_code
def yL_put : MethodName := ⟨RL, "put", "(LOverwalks;IILOverwalksLaw$Out;)I"⟩
abbrev cL_putAll : ByteArray := method_3_code
def yL_putAll : MethodName := ⟨RL, "putAll", "(LOverwalks;IIIIILOverwalksLaw$Out;)I"⟩
abbrev cL_take : ByteArray := method_4_code
def yL_take : MethodName := ⟨RL, "take", "(LOverwalks;IILOverwalksLaw$Out;)I"⟩
abbrev cL_clear : ByteArray := method_5_code
def yL_clear : MethodName := ⟨RL, "clear", "(LOverwalks;ILOverwalksLaw$Out;)I"⟩
abbrev cL_pair : ByteArray := method_6_code
def yL_pair : MethodName := ⟨RL, "pair", "(LOverwalks;IILOverwalksLaw$Out;)I"⟩
abbrev cL_pour : ByteArray := method_7_code
def yL_pour : MethodName := ⟨RL, "pour", "(LOverwalks;IILOverwalksLaw$Out;)I"⟩
abbrev cL_change : ByteArray := method_8_code
def yL_change : MethodName := ⟨RL, "change", "(LOverwalks;IIILOverwalksLaw$Out;)I"⟩
abbrev cL_insert : ByteArray := method_9_code
def yL_insert : MethodName := ⟨RL, "insert", "(LOverwalks;IIILOverwalksLaw$Out;)I"⟩
abbrev cL_remove : ByteArray := method_10_code
def yL_remove : MethodName := ⟨RL, "remove", "(LOverwalks;IILOverwalksLaw$Out;)I"⟩
abbrev cL_turn : ByteArray := method_11_code
def yL_turn : MethodName := ⟨RL, "turn", "(LOverwalks;ILOverwalksLaw$Out;)I"⟩
abbrev cL_rotate : ByteArray := method_12_code
def yL_rotate : MethodName := ⟨RL, "rotate", "(LOverwalks;IILOverwalksLaw$Out;)I"⟩
abbrev cL_swap : ByteArray := method_13_code
def yL_swap : MethodName := ⟨RL, "swap", "(LOverwalks;IIILOverwalksLaw$Out;)I"⟩
abbrev cL_fill : ByteArray := method_14_code
def yL_fill : MethodName := ⟨RL, "fill", "(LOverwalks;IILOverwalksLaw$Out;)I"⟩
abbrev cL_replace : ByteArray := method_15_code
def yL_replace : MethodName := ⟨RL, "replace", "(LOverwalks;IIILOverwalksLaw$Out;)I"⟩
abbrev cL_copies : ByteArray := method_16_code
def yL_copies : MethodName := ⟨RL, "copies", "(LOverwalks;IIILOverwalksLaw$Out;)I"⟩
abbrev cL_walk : ByteArray := method_17_code
def yL_walk : MethodName := ⟨RL, "walk", "(LOverwalks;IIILOverwalksLaw$Out;)I"⟩
abbrev cL_next : ByteArray := method_18_code
def yL_next : MethodName := ⟨RL, "next", "(LOverwalks;ILOverwalksLaw$Out;)I"⟩
abbrev cL_more : ByteArray := method_19_code
def yL_more : MethodName := ⟨RL, "more", "(LOverwalks;ILOverwalksLaw$Out;)I"⟩
abbrev cL_takeOut : ByteArray := method_20_code
def yL_takeOut : MethodName := ⟨RL, "takeOut", "(LOverwalks;ILOverwalksLaw$Out;)I"⟩
abbrev cL_rest : ByteArray := method_21_code
def yL_rest : MethodName := ⟨RL, "rest", "(LOverwalks;ILOverwalksLaw$Out;)I"⟩
abbrev cL_keepRest : ByteArray := method_22_code
def yL_keepRest : MethodName := ⟨RL, "keepRest", "(LOverwalks;IILOverwalksLaw$Out;)I"⟩
abbrev cL_keep : ByteArray := method_23_code
def yL_keep : MethodName := ⟨RL, "keep", "(LOverwalks;IILOverwalksLaw$Out;)I"⟩
abbrev cL_drop : ByteArray := method_24_code
def yL_drop : MethodName := ⟨RL, "drop", "(LOverwalks;ILOverwalksLaw$Out;)I"⟩
abbrev cL_skip : ByteArray := method_25_code
def yL_skip : MethodName := ⟨RL, "skip", "(LOverwalks;IILOverwalksLaw$Out;)I"⟩
abbrev cL_pourRest : ByteArray := method_26_code
def yL_pourRest : MethodName := ⟨RL, "pourRest", "(LOverwalks;IILOverwalksLaw$Out;)I"⟩
abbrev cL_zip : ByteArray := method_27_code
def yL_zip : MethodName := ⟨RL, "zip", "(LOverwalks;IILOverwalksLaw$Out;)I"⟩
abbrev cL_text : ByteArray := method_28_code
def yL_text : MethodName := ⟨RL, "text", "(LOverwalks;ILOverwalksLaw$Out;)I"⟩
abbrev cL_list : ByteArray := method_29_code
def yL_list : MethodName := ⟨RL, "list", "(LOverwalks;ILOverwalksLaw$Out;)I"⟩
abbrev cL_size : ByteArray := method_30_code
def yL_size : MethodName := ⟨RL, "size", "(LOverwalks;ILOverwalksLaw$Out;)I"⟩
abbrev cL_isEmpty : ByteArray := method_31_code
def yL_isEmpty : MethodName := ⟨RL, "isEmpty", "(LOverwalks;ILOverwalksLaw$Out;)I"⟩
abbrev cL_has : ByteArray := method_32_code
def yL_has : MethodName := ⟨RL, "has", "(LOverwalks;IILOverwalksLaw$Out;)I"⟩
abbrev cL_often : ByteArray := method_33_code
def yL_often : MethodName := ⟨RL, "often", "(LOverwalks;IILOverwalksLaw$Out;)I"⟩
abbrev cL_placeOf : ByteArray := method_34_code
def yL_placeOf : MethodName := ⟨RL, "placeOf", "(LOverwalks;IIZLOverwalksLaw$Out;)I"⟩
abbrev cL_disjoint : ByteArray := method_35_code
def yL_disjoint : MethodName := ⟨RL, "disjoint", "(LOverwalks;IILOverwalksLaw$Out;)I"⟩
abbrev cL_end : ByteArray := method_36_code
def yL_end : MethodName := ⟨RL, "end", "(LOverwalks;IZLOverwalksLaw$Out;)I"⟩
abbrev cL_code : ByteArray := method_37_code
def yL_code : MethodName := ⟨RL, "code", "(LOverwalks;ILOverwalksLaw$Out;)I"⟩
abbrev cL_areAlike : ByteArray := method_38_code
def yL_areAlike : MethodName := ⟨RL, "areAlike", "(LOverwalks;IILOverwalksLaw$Out;)I"⟩
abbrev cL_first : ByteArray := method_39_code
def yL_first : MethodName := ⟨RL, "first", "(LOverwalks;IZLOverwalksLaw$Out;)I"⟩
abbrev cL_valueOf : ByteArray := method_40_code
def yL_valueOf : MethodName := ⟨RL, "valueOf", "(LOverwalks;ILOverwalksLaw$Out;)I"⟩
abbrev cL_ofWalk : ByteArray := method_41_code
def yL_ofWalk : MethodName := ⟨RL, "ofWalk", "(LOverwalks;IILOverwalksLaw$Out;)I"⟩
abbrev cL_house : ByteArray := method_42_code
def yL_house : MethodName := ⟨RL, "house", "(LOverwalks;ILOverwalksLaw$Out;)I"⟩
abbrev cL_law : ByteArray := code
def yL_law : MethodName := ⟨RL, "law", "([I)Z"⟩
abbrev vwCl : List vw_C := [(RJ0, TJ0, 4), (RJ4, TJ4, 4), (RX1, TX1, 5), (RX2, TX2, 9), (RX3, TX3, 7), (RX4, TX4, 2), (RX5, TX5, 14)]
/-! many rows of one method at once: a chain of 'and's, whose links are the rows -/
def dch (c : ByteArray) : List (Nat × Instr × Nat) → Prop
  | [] => True
  | (p, i, n) :: l => decode c p = .ok (i, n) ∧ dch c l
theorem dch_of {c : ByteArray} : ∀ {l : List (Nat × Instr × Nat)}, l.all (fun x => decide (decode c x.1 = .ok x.2)) = true → dch c l
  | [], _ => trivial
  | (p, i, n) :: l, h => by
    simp only [List.all_cons, Bool.and_eq_true] at h
    exact ⟨of_decide_eq_true h.1, dch_of h.2⟩
/-! rows of long lists of bytes: what the decoder does at each opcode, once; then bytes alone are read -/
section
variable {α β : Type}
theorem rd_b (r : Decoder α) (f : α → Decoder β) (C : ByteArray) (q : Nat) : (r >>= f) C q = (match r C q with | .error e => Except.error e | .ok (a, s) => f a C s) := by
  have e : (r >>= f) C q = (r C q >>= fun x => f x.1 C x.2) := rfl
  rw [e]
  cases r C q <;> rfl
theorem rd_o {r : Decoder α} {f : α → Decoder β} {C : ByteArray} {q q' : Nat} {a : α} (h : r C q = .ok (a, q')) : (r >>= f) C q = f a C q' := by
  rw [rd_b, h]
theorem rd_m (g : α → β) (r : Decoder α) : (g <$> r) = (r >>= fun a => pure (g a)) := by
  funext C q
  have e : (g <$> r) C q = (r C q >>= fun x => (pure (g x.1, x.2) : Except DecodeError (β × Nat))) := rfl
  have e2 : (r >>= fun a => (pure (g a) : Decoder β)) C q = (r C q >>= fun x => (pure (g x.1, x.2) : Except DecodeError (β × Nat))) := rfl
  exact e.trans e2.symm
end
theorem rd_i (C : ByteArray) (q : Nat) : (Reader.u1 : Decoder Nat) C q = (if h : q < C.size then (do set (q + 1); pure C[q].toNat : Decoder Nat) else throw (HasTruncated.truncated q)) C q := rfl
section
variable {C : ByteArray} {q : Nat} {x y : UInt8}
theorem rd_u (h : C.data.toList[q]? = some x) : (Reader.u1 : Decoder Nat) C q = .ok (x.toNat, q + 1) := by
  obtain ⟨h1, h2⟩ := List.getElem?_eq_some_iff.mp h
  have h3 : q < C.size := by simpa using h1
  have e4 : C[q] = x := h2
  rw [rd_i, dif_pos h3]
  show Except.ok (C[q].toNat, q + 1) = _
  rw [e4]
theorem rd_s1 (h : C.data.toList[q]? = some x) : (Reader.s1 : Decoder Int) C q = .ok (Reader.signed 8 x.toNat, q + 1) := by
  have e : (Reader.s1 : Decoder Int) = (Reader.u1 >>= fun a => pure (Reader.signed 8 a)) := rd_m _ _
  rw [e, rd_o (rd_u h)]
  rfl
theorem rd_u2 (h : C.data.toList[q]? = some x) (h2 : C.data.toList[q + 1]? = some y) : (Reader.u2 : Decoder Nat) C q = .ok (x.toNat * 256 + y.toNat, q + 2) := by
  have e : (Reader.u2 : Decoder Nat) = (Reader.u1 >>= fun a => Reader.u1 >>= fun b => pure (a * 256 + b)) := rfl
  rw [e, rd_o (rd_u h), rd_o (rd_u h2)]
  rfl
theorem rd_s2 (h : C.data.toList[q]? = some x) (h2 : C.data.toList[q + 1]? = some y) : (Reader.s2 : Decoder Int) C q = .ok (Reader.signed 16 (x.toNat * 256 + y.toNat), q + 2) := by
  have e : (Reader.s2 : Decoder Int) = (Reader.u2 >>= fun a => pure (Reader.signed 16 a)) := rd_m _ _
  rw [e, rd_o (rd_u2 h h2)]
  rfl
end
/-- an opcode, its length, the instruction out of the next two bytes -/
abbrev Arm : Type := Nat × Nat × (Nat → Nat → Instr)
def armOK (a : Arm) : Prop := ∀ (C : ByteArray) (pc : Nat) (b x y : UInt8), C.data.toList[pc]? = some b → b.toNat = a.1 → (2 ≤ a.2.1 → C.data.toList[pc + 1]? = some x) → (3 ≤ a.2.1 → C.data.toList[pc + 2]? = some y) → decode C pc = .ok (a.2.2 x.toNat y.toNat, a.2.1)
def opAt (b : Nat) (M : Decoder Instr) : Prop := ∀ pc : Nat, ∃ f : Nat → Decoder Instr, Decoder.instr pc = (Reader.u1 >>= f) ∧ f b = M
theorem rd_d (C : ByteArray) (pc : Nat) : decode C pc = (Decoder.instr pc C pc >>= fun x => Except.ok (x.1, x.2 - pc)) := rfl
theorem arm_in {k : Nat} {M : Decoder Instr} {C : ByteArray} {pc q : Nat} {b : UInt8} {i : Instr} (h : opAt k M) (hb : C.data.toList[pc]? = some b) (e : b.toNat = k) (hM : M C (pc + 1) = .ok (i, pc + q)) : decode C pc = .ok (i, q) := by
  obtain ⟨f, e1, e2⟩ := h pc
  rw [rd_d, e1, rd_o (rd_u hb), e, e2, hM]
  show Except.ok (i, pc + q - pc) = _
  rw [Nat.add_sub_cancel_left]
theorem arm0 {b : Nat} {I : Instr} (h : opAt b (pure I)) : armOK (b, 1, fun _ _ => I) := fun _ _ _ _ _ hb e _ _ => arm_in h hb e rfl
theorem arm1 {b : Nat} {F : Nat → Instr} (h : opAt b (Reader.u1 >>= fun x => pure (F x))) : armOK (b, 2, fun x _ => F x) := fun _ _ _ _ _ hb e hx _ => arm_in h hb e (by rw [rd_o (rd_u (hx (Nat.le_refl _)))]; rfl)
theorem arm1s {b : Nat} {F : Int → Instr} (h : opAt b (Reader.s1 >>= fun x => pure (F x))) : armOK (b, 2, fun x _ => F (Reader.signed 8 x)) := fun _ _ _ _ _ hb e hx _ => arm_in h hb e (by rw [rd_o (rd_s1 (hx (Nat.le_refl _)))]; rfl)
theorem arm2 {b : Nat} {F : Nat → Instr} (h : opAt b (Reader.u2 >>= fun x => pure (F x))) : armOK (b, 3, fun x y => F (x * 256 + y)) := fun _ _ _ _ _ hb e hx hy => arm_in h hb e (by rw [rd_o (rd_u2 (hx (Nat.le_of_ble_eq_true rfl)) (hy (Nat.le_refl _)))]; rfl)
theorem arm2s {b : Nat} {F : Int → Instr} (h : opAt b (Reader.s2 >>= fun x => pure (F x))) : armOK (b, 3, fun x y => F (Reader.signed 16 (x * 256 + y))) := fun _ _ _ _ _ hb e hx hy => arm_in h hb e (by rw [rd_o (rd_s2 (hx (Nat.le_of_ble_eq_true rfl)) (hy (Nat.le_refl _)))]; rfl)
theorem arm11 {b : Nat} {F : Nat → Int → Instr} (h : opAt b (Reader.u1 >>= fun x => Reader.s1 >>= fun y => pure (F x y))) : armOK (b, 3, fun x y => F x (Reader.signed 8 y)) := fun _ _ _ _ _ hb e hx hy => arm_in h hb e (by rw [rd_o (rd_u (hx (Nat.le_of_ble_eq_true rfl))), rd_o (rd_s1 (hy (Nat.le_refl _)))]; rfl)
def fck2 (k : Nat) (F : Nat → Nat → Instr) (i : Instr) : List UInt8 → Bool
  | [] => Nat.ble k 1 && decide (F 0 0 = i)
  | [x] => Nat.ble k 2 && decide (F x.toNat 0 = i)
  | x :: y :: _ => Nat.ble k 3 && decide (F x.toNat y.toNat = i)
def fck1 (B : List UInt8) (A : List Arm) (j q : Nat) (i : Instr) (n : Nat) : Bool :=
  match A.drop j, B.drop q with
  | a :: _, b :: r => Nat.beq b.toNat a.1 && (Nat.beq a.2.1 n && fck2 a.2.1 a.2.2 i r)
  | _, _ => false
theorem fck1_ok {C : ByteArray} {B : List UInt8} {A : List Arm} {k j q : Nat} {i : Instr} {n : Nat} (hs : ∀ (j : Nat) (x : UInt8), B[j]? = some x → C.data.toList[j + k]? = some x) (hA : ∀ a ∈ A, armOK a) (h : fck1 B A j q i n = true) : decode C (q + k) = .ok (i, n) := by
  cases e1 : A.drop j with
  | nil => rw [fck1, e1] at h; cases h
  | cons a A' =>
    cases e2 : B.drop q with
    | nil => rw [fck1, e1, e2] at h; cases h
    | cons b r =>
      rw [fck1, e1, e2] at h
      have ha : armOK a := hA a (List.mem_of_mem_drop (e1 ▸ List.mem_cons_self))
      obtain ⟨h1, h2⟩ := Bool.and_eq_true_iff.mp h
      obtain ⟨h3, h4⟩ := Bool.and_eq_true_iff.mp h2
      have g : ∀ m, B[q + m]? = (b :: r)[m]? := fun m => by rw [← List.getElem?_drop, e2]
      have hb : C.data.toList[q + k]? = some b := hs q b (g 0)
      have hn : a.2.1 = n := Nat.eq_of_beq_eq_true h3
      have he : b.toNat = a.1 := Nat.eq_of_beq_eq_true h1
      match r, h4, g with
      | [], h4, g =>
        obtain ⟨h5, h6⟩ := Bool.and_eq_true_iff.mp h4
        have h7 := Nat.le_of_ble_eq_true h5
        have h8 : decode C (q + k) = .ok (a.2.2 0 0, a.2.1) := ha C (q + k) b 0 0 hb he (fun z => absurd z (by omega)) (fun z => absurd z (by omega))
        rw [h8, of_decide_eq_true h6, hn]
      | [x], h4, g =>
        obtain ⟨h5, h6⟩ := Bool.and_eq_true_iff.mp h4
        have h7 := Nat.le_of_ble_eq_true h5
        have hx : C.data.toList[q + k + 1]? = some x := by rw [Nat.add_right_comm]; exact hs (q + 1) x (g 1)
        have h8 : decode C (q + k) = .ok (a.2.2 x.toNat 0, a.2.1) := ha C (q + k) b x 0 hb he (fun _ => hx) (fun z => absurd z (by omega))
        rw [h8, of_decide_eq_true h6, hn]
      | x :: y :: r', h4, g =>
        obtain ⟨h5, h6⟩ := Bool.and_eq_true_iff.mp h4
        have hx : C.data.toList[q + k + 1]? = some x := by rw [Nat.add_right_comm]; exact hs (q + 1) x (g 1)
        have hy : C.data.toList[q + k + 2]? = some y := by rw [Nat.add_right_comm]; exact hs (q + 2) y (g 2)
        have h8 : decode C (q + k) = .ok (a.2.2 x.toNat y.toNat, a.2.1) := ha C (q + k) b x y hb he (fun _ => hx) (fun _ => hy)
        rw [h8, of_decide_eq_true h6, hn]
def fcks (B : List UInt8) (A : List Arm) (k : Nat) : List Nat → List (Nat × Instr × Nat) → Bool
  | [], [] => true
  | j :: js, (p, i, n) :: l => Nat.ble k p && (fck1 B A j (p - k) i n && fcks B A k js l)
  | _, _ => false
theorem dch_k {C : ByteArray} {B : List UInt8} {A : List Arm} {k : Nat} (hs : ∀ (j : Nat) (x : UInt8), B[j]? = some x → C.data.toList[j + k]? = some x) (hA : ∀ a ∈ A, armOK a) : ∀ (js : List Nat) {l : List (Nat × Instr × Nat)}, fcks B A k js l = true → dch C l
  | [], [], _ => trivial
  | [], _ :: _, h => by cases h
  | _ :: _, [], h => by cases h
  | j :: js, (p, i, n) :: l, h => by
    obtain ⟨h1, h2⟩ := Bool.and_eq_true_iff.mp h
    obtain ⟨h3, h4⟩ := Bool.and_eq_true_iff.mp h2
    have h5 := fck1_ok hs hA h3
    rw [Nat.sub_add_cancel (Nat.le_of_ble_eq_true h1)] at h5
    exact ⟨h5, dch_k hs hA js h4⟩
theorem suba_of {B : List UInt8} {C : ByteArray} {k : Nat} (m : Nat) (h : (C.data.toList.drop k).take m = B) : ∀ (j : Nat) (x : UInt8), B[j]? = some x → C.data.toList[j + k]? = some x := by
  intro j x hj
  rw [← h, List.getElem?_take] at hj
  split at hj
  · rw [List.getElem?_drop] at hj
    rw [Nat.add_comm]
    exact hj
  · cases hj
theorem arm_nil : ∀ a ∈ ([] : List Arm), armOK a := fun b h => nomatch h
theorem arm_c {a : Arm} {l : List Arm} (h : armOK a) (t : ∀ b ∈ l, armOK b) : ∀ b ∈ a :: l, armOK b := fun b hb => (List.mem_cons.mp hb).elim (fun e => e ▸ h) (t b)
