section
def RX0 : String := "WindowChairs$Room"
def TX0 : u_T := fun k => match k with
  | 0 => ("WindowChairs$Room", "views", "[I", true)
  | 1 => ("WindowChairs$Room", "draughts", "[I", true)
  | 2 => ("WindowChairs$Room", "sitters", "[I", true)
  | 3 => ("WindowChairs$Room", "kinds", "[I", true)
  | 4 => ("WindowChairs$Room", "ages", "[I", true)
  | 5 => ("WindowChairs$Room", "claims", "[I", true)
  | 6 => ("WindowChairs$Room", "quarrels", "[I", true)
  | 7 => ("WindowChairs$Room", "gaps", "[I", true)
  | 8 => ("WindowChairs$Room", "seats", "[I", true)
  | 9 => ("WindowChairs$Room", "people", "I", false)
  | _ => ("WindowChairs$Room", "hour", "I", false)
def tyX0 : Nat → FieldType := fun k => match k with
  | 0 => .array .int
  | 1 => .array .int
  | 2 => .array .int
  | 3 => .array .int
  | 4 => .array .int
  | 5 => .array .int
  | 6 => .array .int
  | 7 => .array .int
  | 8 => .array .int
  | 9 => .int
  | _ => .int
abbrev wsX00 : List Cond := u_ws RX0 TX0 11
theorem nmX0 : ∀ a, a < 11 → ∀ b, b < 11 → a ≠ b → (TX0 a).2.1 ≠ (TX0 b).2.1 := by decide +kernel
theorem tyX0_ok : ∀ k, k < 11 → parseFieldDescriptor (TX0 k).2.2.1 = some (tyX0 k) := by decide +kernel
abbrev cX0_init : ByteArray := prog_2_method_1_code
def yX0_init : MethodName := ⟨RX0, "<init>", "()V"⟩
abbrev cX0_become : ByteArray := prog_2_method_2_code
def yX0_become : MethodName := ⟨RX0, "become", "(LWindowChairs$Room;)V"⟩
abbrev cX0_enter : ByteArray := prog_2_method_3_code
def yX0_enter : MethodName := ⟨RX0, "enter", "(I)I"⟩
abbrev cX0_areAtOdds : ByteArray := prog_2_method_4_code
def yX0_areAtOdds : MethodName := ⟨RX0, "areAtOdds", "(II)Z"⟩
abbrev cX0_putAtOdds : ByteArray := prog_2_method_5_code
def yX0_putAtOdds : MethodName := ⟨RX0, "putAtOdds", "(IIZ)V"⟩
abbrev cX0_pairsAtOdds : ByteArray := prog_2_method_6_code
def yX0_pairsAtOdds : MethodName := ⟨RX0, "pairsAtOdds", "()I"⟩
abbrev cX0_seat : ByteArray := prog_2_method_7_code
def yX0_seat : MethodName := ⟨RX0, "seat", "(II)V"⟩
abbrev cX0_swap : ByteArray := prog_2_method_8_code
def yX0_swap : MethodName := ⟨RX0, "swap", "(II)V"⟩
abbrev cX0_isFreeFor : ByteArray := prog_2_method_9_code
def yX0_isFreeFor : MethodName := ⟨RX0, "isFreeFor", "(II)Z"⟩
abbrev cX0_whoSits : ByteArray := prog_2_method_10_code
def yX0_whoSits : MethodName := ⟨RX0, "whoSits", "()I"⟩
abbrev cX0_emptyChairs : ByteArray := prog_2_method_11_code
def yX0_emptyChairs : MethodName := ⟨RX0, "emptyChairs", "()I"⟩
abbrev cX0_hasSun : ByteArray := prog_2_method_12_code
def yX0_hasSun : MethodName := ⟨RX0, "hasSun", "()Z"⟩
abbrev cX0_likes : ByteArray := prog_2_method_13_code
def yX0_likes : MethodName := ⟨RX0, "likes", "(II)I"⟩
abbrev cX0_minds : ByteArray := prog_2_method_14_code
def yX0_minds : MethodName := ⟨RX0, "minds", "(II)I"⟩
abbrev cX0_givesUp : ByteArray := prog_2_method_15_code
def yX0_givesUp : MethodName := ⟨RX0, "givesUp", "(I)I"⟩
abbrev cX0_howWell : ByteArray := prog_2_method_16_code
def yX0_howWell : MethodName := ⟨RX0, "howWell", "(II)I"⟩
abbrev cX0_howWellNow : ByteArray := prog_2_method_17_code
def yX0_howWellNow : MethodName := ⟨RX0, "howWellNow", "(I)I"⟩
abbrev cX0_together : ByteArray := prog_2_method_18_code
def yX0_together : MethodName := ⟨RX0, "together", "()I"⟩
abbrev cX0_pass : ByteArray := prog_2_method_19_code
def yX0_pass : MethodName := ⟨RX0, "pass", "(I)I"⟩
abbrev cX0_passOne : ByteArray := prog_2_method_20_code
def yX0_passOne : MethodName := ⟨RX0, "passOne", "()I"⟩
abbrev cX0_movesToEmpty : ByteArray := prog_2_method_21_code
def yX0_movesToEmpty : MethodName := ⟨RX0, "movesToEmpty", "(I)Z"⟩
abbrev cX0_takesItsClaim : ByteArray := prog_2_method_22_code
def yX0_takesItsClaim : MethodName := ⟨RX0, "takesItsClaim", "(I)Z"⟩
def RX1 : String := "WindowChairs$Sheet"
def TX1 : u_T := fun k => match k with
  | 0 => ("WindowChairs$Sheet", "numbers", "[J", true)
  | 1 => ("WindowChairs$Sheet", "bits", "I", false)
  | _ => ("WindowChairs$Sheet", "size", "I", false)
def tyX1 : Nat → FieldType := fun k => match k with
  | 0 => .array .long
  | 1 => .int
  | _ => .int
abbrev wsX10 : List Cond := u_ws RX1 TX1 3
theorem nmX1 : ∀ a, a < 3 → ∀ b, b < 3 → a ≠ b → (TX1 a).2.1 ≠ (TX1 b).2.1 := by decide +kernel
theorem tyX1_ok : ∀ k, k < 3 → parseFieldDescriptor (TX1 k).2.2.1 = some (tyX1 k) := by decide +kernel
abbrev cX1_init : ByteArray := prog_3_method_1_code
def yX1_init : MethodName := ⟨RX1, "<init>", "()V"⟩
abbrev cX1_isMissing : ByteArray := prog_3_method_2_code
def yX1_isMissing : MethodName := ⟨RX1, "isMissing", "()Z"⟩
abbrev cX1_renew : ByteArray := prog_3_method_3_code
def yX1_renew : MethodName := ⟨RX1, "renew", "(II)I"⟩
abbrev cX1_cut : ByteArray := prog_3_method_4_code
def yX1_cut : MethodName := ⟨RX1, "cut", "(J)J"⟩
abbrev cX1_has : ByteArray := prog_3_method_5_code
def yX1_has : MethodName := ⟨RX1, "has", "(II)Z"⟩
def RX2 : String := "WindowChairs$Text"
def TX2 : u_T := fun k => match k with
  | 0 => ("WindowChairs$Text", "bytes", "[I", true)
  | 1 => ("WindowChairs$Text", "length", "I", false)
  | 2 => ("WindowChairs$Text", "items", "I", false)
  | 3 => ("WindowChairs$Text", "token", "I", false)
  | 4 => ("WindowChairs$Text", "place", "I", false)
  | 5 => ("WindowChairs$Text", "end", "I", false)
  | _ => ("WindowChairs$Text", "number", "I", false)
def tyX2 : Nat → FieldType := fun k => match k with
  | 0 => .array .int
  | 1 => .int
  | 2 => .int
  | 3 => .int
  | 4 => .int
  | 5 => .int
  | _ => .int
abbrev wsX20 : List Cond := u_ws RX2 TX2 7
theorem nmX2 : ∀ a, a < 7 → ∀ b, b < 7 → a ≠ b → (TX2 a).2.1 ≠ (TX2 b).2.1 := by decide +kernel
theorem tyX2_ok : ∀ k, k < 7 → parseFieldDescriptor (TX2 k).2.2.1 = some (tyX2 k) := by decide +kernel
abbrev cX2_init : ByteArray := prog_4_method_1_code
def yX2_init : MethodName := ⟨RX2, "<init>", "()V"⟩
abbrev cX2_append : ByteArray := prog_4_method_2_code
def yX2_append : MethodName := ⟨RX2, "append", "(I)V"⟩
abbrev cX2_comesTo : ByteArray := prog_4_method_3_code
def yX2_comesTo : MethodName := ⟨RX2, "comesTo", "(LWindowChairs$Room;)Z"⟩
abbrev cX2_step : ByteArray := prog_4_method_4_code
def yX2_step : MethodName := ⟨RX2, "step", "()V"⟩
abbrev cX2_sortAt : ByteArray := prog_4_method_5_code
def yX2_sortAt : MethodName := ⟨RX2, "sortAt", "(I)I"⟩
abbrev cX2_isWord : ByteArray := prog_4_method_6_code
def yX2_isWord : MethodName := ⟨RX2, "isWord", "(Ljava/lang/String;)Z"⟩
abbrev cX2_isNumber : ByteArray := prog_4_method_7_code
def yX2_isNumber : MethodName := ⟨RX2, "isNumber", "(I)Z"⟩
abbrev cX2_takesItem : ByteArray := prog_4_method_8_code
def yX2_takesItem : MethodName := ⟨RX2, "takesItem", "(LWindowChairs$Room;)Z"⟩
abbrev cX2_kindNamed : ByteArray := prog_4_method_9_code
def yX2_kindNamed : MethodName := ⟨RX2, "kindNamed", "()I"⟩
abbrev cX2_nameOf : ByteArray := prog_4_method_10_code
def yX2_nameOf : MethodName := ⟨RX2, "nameOf", "(I)Ljava/lang/String;"⟩
abbrev cX2_takesPerson : ByteArray := prog_4_method_11_code
def yX2_takesPerson : MethodName := ⟨RX2, "takesPerson", "(LWindowChairs$Room;I)Z"⟩
abbrev cX2_takesChair : ByteArray := prog_4_method_12_code
def yX2_takesChair : MethodName := ⟨RX2, "takesChair", "(LWindowChairs$Room;)Z"⟩
abbrev cX2_takesTwo : ByteArray := prog_4_method_13_code
def yX2_takesTwo : MethodName := ⟨RX2, "takesTwo", "(LWindowChairs$Room;Z)Z"⟩
abbrev cX2_takesPerhaps : ByteArray := prog_4_method_14_code
def yX2_takesPerhaps : MethodName := ⟨RX2, "takesPerhaps", "(Ljava/lang/String;[III)Z"⟩
def RX3 : String := "WindowChairs"
def TX3 : u_T := fun k => match k with
  | 0 => ("WindowChairs", "here", "LWindowChairs$Room;", true)
  | 1 => ("WindowChairs", "ahead", "LWindowChairs$Room;", true)
  | 2 => ("WindowChairs", "kept", "LWindowChairs$Room;", true)
  | 3 => ("WindowChairs", "isKept", "Z", false)
  | 4 => ("WindowChairs", "text", "LWindowChairs$Text;", true)
  | 5 => ("WindowChairs", "sheets", "[LWindowChairs$Sheet;", true)
  | 6 => ("WindowChairs", "findings", "[I", true)
  | _ => ("WindowChairs", "sitting", "[I", true)
def tyX3 : Nat → FieldType := fun k => match k with
  | 0 => .object "WindowChairs$Room"
  | 1 => .object "WindowChairs$Room"
  | 2 => .object "WindowChairs$Room"
  | 3 => .boolean
  | 4 => .object "WindowChairs$Text"
  | 5 => .array (.object "WindowChairs$Sheet")
  | 6 => .array .int
  | _ => .array .int
abbrev wsX30 : List Cond := u_ws RX3 TX3 8
theorem nmX3 : ∀ a, a < 8 → ∀ b, b < 8 → a ≠ b → (TX3 a).2.1 ≠ (TX3 b).2.1 := by decide +kernel
theorem tyX3_ok : ∀ k, k < 8 → parseFieldDescriptor (TX3 k).2.2.1 = some (tyX3 k) := by decide +kernel
abbrev cX3_init : ByteArray := prog_1_method_1_code
def yX3_init : MethodName := ⟨RX3, "<init>", "()V"⟩
abbrev cX3_chair : ByteArray := prog_1_method_2_code
def yX3_chair : MethodName := ⟨RX3, "chair", "(III)I"⟩
abbrev cX3_chairOf : ByteArray := prog_1_method_3_code
def yX3_chairOf : MethodName := ⟨RX3, "chairOf", "(II)I"⟩
abbrev cX3_person : ByteArray := prog_1_method_4_code
def yX3_person : MethodName := ⟨RX3, "person", "(I)I"⟩
abbrev cX3_of : ByteArray := prog_1_method_5_code
def yX3_of : MethodName := ⟨RX3, "of", "(II)I"⟩
abbrev cX3_set : ByteArray := prog_1_method_6_code
def yX3_set : MethodName := ⟨RX3, "set", "(III)I"⟩
abbrev cX3_turn : ByteArray := prog_1_method_7_code
def yX3_turn : MethodName := ⟨RX3, "turn", "(II)I"⟩
abbrev cX3_as : ByteArray := prog_1_method_8_code
def yX3_as : MethodName := ⟨RX3, "as", "(II)I"⟩
abbrev cX3_quarrel : ByteArray := prog_1_method_9_code
def yX3_quarrel : MethodName := ⟨RX3, "quarrel", "(III)I"⟩
abbrev cX3_sit : ByteArray := prog_1_method_10_code
def yX3_sit : MethodName := ⟨RX3, "sit", "(II)I"⟩
abbrev cX3_change : ByteArray := prog_1_method_11_code
def yX3_change : MethodName := ⟨RX3, "change", "(II)I"⟩
abbrev cX3_well : ByteArray := prog_1_method_12_code
def yX3_well : MethodName := ⟨RX3, "well", "(II)I"⟩
abbrev cX3_hours : ByteArray := prog_1_method_13_code
def yX3_hours : MethodName := ⟨RX3, "hours", "(I)I"⟩
abbrev cX3_now : ByteArray := prog_1_method_14_code
def yX3_now : MethodName := ⟨RX3, "now", "(I)I"⟩
abbrev cX3_on : ByteArray := prog_1_method_15_code
def yX3_on : MethodName := ⟨RX3, "on", "(III)I"⟩
abbrev cX3_peace : ByteArray := prog_1_method_16_code
def yX3_peace : MethodName := ⟨RX3, "peace", "(I)I"⟩
abbrev cX3_settles : ByteArray := prog_1_method_17_code
def yX3_settles : MethodName := ⟨RX3, "settles", "()I"⟩
abbrev cX3_gets : ByteArray := prog_1_method_18_code
def yX3_gets : MethodName := ⟨RX3, "gets", "(II)I"⟩
abbrev cX3_best : ByteArray := prog_1_method_19_code
def yX3_best : MethodName := ⟨RX3, "best", "()I"⟩
abbrev cX3_mend : ByteArray := prog_1_method_20_code
def yX3_mend : MethodName := ⟨RX3, "mend", "(I)I"⟩
abbrev cX3_kind : ByteArray := prog_1_method_21_code
def yX3_kind : MethodName := ⟨RX3, "kind", "(II)I"⟩
abbrev cX3_claim : ByteArray := prog_1_method_22_code
def yX3_claim : MethodName := ⟨RX3, "claim", "(II)I"⟩
abbrev cX3_years : ByteArray := prog_1_method_23_code
def yX3_years : MethodName := ⟨RX3, "years", "(III)I"⟩
abbrev cX3_always : ByteArray := prog_1_method_24_code
def yX3_always : MethodName := ⟨RX3, "always", "(I)I"⟩
abbrev cX3_beside : ByteArray := prog_1_method_25_code
def yX3_beside : MethodName := ⟨RX3, "beside", "(I)I"⟩
abbrev cX3_feed : ByteArray := prog_1_method_26_code
def yX3_feed : MethodName := ⟨RX3, "feed", "(II)I"⟩
abbrev cX3_wipe : ByteArray := prog_1_method_27_code
def yX3_wipe : MethodName := ⟨RX3, "wipe", "()I"⟩
abbrev cX3_room : ByteArray := prog_1_method_28_code
def yX3_room : MethodName := ⟨RX3, "room", "()I"⟩
abbrev cX3_sheet : ByteArray := prog_1_method_29_code
def yX3_sheet : MethodName := ⟨RX3, "sheet", "(III)I"⟩
abbrev cX3_write : ByteArray := prog_1_method_30_code
def yX3_write : MethodName := ⟨RX3, "write", "(IIJ)J"⟩
abbrev cX3_copy : ByteArray := prog_1_method_31_code
def yX3_copy : MethodName := ⟨RX3, "copy", "(IIIII)I"⟩
abbrev cX3_lays : ByteArray := prog_1_method_32_code
def yX3_lays : MethodName := ⟨RX3, "lays", "(I)I"⟩
abbrev cX3_book : ByteArray := prog_1_method_33_code
def yX3_book : MethodName := ⟨RX3, "book", "(II)I"⟩
abbrev cX3_read : ByteArray := prog_1_method_34_code
def yX3_read : MethodName := ⟨RX3, "read", "(II)I"⟩
abbrev cX3_image : ByteArray := prog_1_method_35_code
def yX3_image : MethodName := ⟨RX3, "image", "()I"⟩
abbrev cX3_undo : ByteArray := prog_1_method_36_code
def yX3_undo : MethodName := ⟨RX3, "undo", "()I"⟩
abbrev cX3_tear : ByteArray := prog_1_method_37_code
def yX3_tear : MethodName := ⟨RX3, "tear", "()I"⟩
abbrev cX3_count : ByteArray := prog_1_method_38_code
def yX3_count : MethodName := ⟨RX3, "count", "(I)I"⟩
abbrev cX3_status : ByteArray := prog_1_method_39_code
def yX3_status : MethodName := ⟨RX3, "status", "(I)I"⟩
abbrev cX3_finding : ByteArray := prog_1_method_40_code
def yX3_finding : MethodName := ⟨RX3, "finding", "(I)I"⟩
abbrev cX3_put : ByteArray := prog_1_method_41_code
def yX3_put : MethodName := ⟨RX3, "put", "([IIIII)I"⟩
abbrev cX3_isThere : ByteArray := prog_1_method_42_code
def yX3_isThere : MethodName := ⟨RX3, "isThere", "(I)Z"⟩
abbrev cX3_areTwo : ByteArray := prog_1_method_43_code
def yX3_areTwo : MethodName := ⟨RX3, "areTwo", "(II)Z"⟩
abbrev cX3_isChair : ByteArray := prog_1_method_44_code
def yX3_isChair : MethodName := ⟨RX3, "isChair", "(I)Z"⟩
abbrev cX3_isKind : ByteArray := prog_1_method_45_code
def yX3_isKind : MethodName := ⟨RX3, "isKind", "(I)Z"⟩
abbrev cX3_isSheet : ByteArray := prog_1_method_46_code
def yX3_isSheet : MethodName := ⟨RX3, "isSheet", "(I)Z"⟩
abbrev cX3_isWithin : ByteArray := prog_1_method_47_code
def yX3_isWithin : MethodName := ⟨RX3, "isWithin", "(III)Z"⟩
abbrev cX3_isOfKind : ByteArray := prog_1_method_48_code
def yX3_isOfKind : MethodName := ⟨RX3, "isOfKind", "(II)Z"⟩
abbrev cX3_mostPeace : ByteArray := prog_1_method_49_code
def yX3_mostPeace : MethodName := ⟨RX3, "mostPeace", "(II)I"⟩
abbrev cX3_goesAsTold : ByteArray := prog_1_method_50_code
def yX3_goesAsTold : MethodName := ⟨RX3, "goesAsTold", "(LWindowChairs$Sheet;I)Z"⟩
def RX4 : String := "WindowChairsModel"
def TX4 : u_T := fun k => match k with
  | 0 => ("WindowChairsModel", "s", "[I", true)
  | 1 => ("WindowChairsModel", "keptS", "[I", true)
  | 2 => ("WindowChairsModel", "other", "[I", true)
  | 3 => ("WindowChairsModel", "aside", "[I", true)
  | 4 => ("WindowChairsModel", "statuses", "[I", true)
  | 5 => ("WindowChairsModel", "isKept", "Z", false)
  | 6 => ("WindowChairsModel", "taken", "[I", true)
  | 7 => ("WindowChairsModel", "takenMany", "I", false)
  | 8 => ("WindowChairsModel", "mostPeace", "I", false)
  | 9 => ("WindowChairsModel", "tape", "[I", true)
  | 10 => ("WindowChairsModel", "taped", "I", false)
  | 11 => ("WindowChairsModel", "from", "I", false)
  | 12 => ("WindowChairsModel", "to", "I", false)
  | 13 => ("WindowChairsModel", "value", "I", false)
  | 14 => ("WindowChairsModel", "isWrong", "Z", false)
  | 15 => ("WindowChairsModel", "bitsOf", "[I", true)
  | 16 => ("WindowChairsModel", "sizeOf", "[I", true)
  | 17 => ("WindowChairsModel", "numbers", "[J", true)
  | _ => ("WindowChairsModel", "moved", "[J", true)
def tyX4 : Nat → FieldType := fun k => match k with
  | 0 => .array .int
  | 1 => .array .int
  | 2 => .array .int
  | 3 => .array .int
  | 4 => .array .int
  | 5 => .boolean
  | 6 => .array .int
  | 7 => .int
  | 8 => .int
  | 9 => .array .int
  | 10 => .int
  | 11 => .int
  | 12 => .int
  | 13 => .int
  | 14 => .boolean
  | 15 => .array .int
  | 16 => .array .int
  | 17 => .array .long
  | _ => .array .long
abbrev wsX40 : List Cond := u_ws RX4 TX4 19
theorem nmX4 : ∀ a, a < 19 → ∀ b, b < 19 → a ≠ b → (TX4 a).2.1 ≠ (TX4 b).2.1 := by decide +kernel
theorem tyX4_ok : ∀ k, k < 19 → parseFieldDescriptor (TX4 k).2.2.1 = some (tyX4 k) := by decide +kernel
abbrev cX4_init : ByteArray := prog_6_method_1_code
def yX4_init : MethodName := ⟨RX4, "<init>", "()V"⟩
abbrev cX4_in : ByteArray := prog_6_method_2_code
def yX4_in : MethodName := ⟨RX4, "in", "(JJJ)Z"⟩
abbrev cX4_finds : ByteArray := prog_6_method_3_code
def yX4_finds : MethodName := ⟨RX4, "finds", "(I)I"⟩
abbrev cX4_saves : ByteArray := prog_6_method_4_code
def yX4_saves : MethodName := ⟨RX4, "saves", "()V"⟩
abbrev cX4_putsBack : ByteArray := prog_6_method_5_code
def yX4_putsBack : MethodName := ⟨RX4, "putsBack", "()V"⟩
abbrev cX4_laysAside : ByteArray := prog_6_method_6_code
def yX4_laysAside : MethodName := ⟨RX4, "laysAside", "()V"⟩
abbrev cX4_takesBack : ByteArray := prog_6_method_7_code
def yX4_takesBack : MethodName := ⟨RX4, "takesBack", "(I)I"⟩
abbrev cX4_becomes : ByteArray := prog_6_method_8_code
def yX4_becomes : MethodName := ⟨RX4, "becomes", "(II)I"⟩
abbrev cX4_isChair : ByteArray := prog_6_method_9_code
def yX4_isChair : MethodName := ⟨RX4, "isChair", "(I)Z"⟩
abbrev cX4_isPerson : ByteArray := prog_6_method_10_code
def yX4_isPerson : MethodName := ⟨RX4, "isPerson", "(I)Z"⟩
abbrev cX4_areTwo : ByteArray := prog_6_method_11_code
def yX4_areTwo : MethodName := ⟨RX4, "areTwo", "(II)Z"⟩
abbrev cX4_isKind : ByteArray := prog_6_method_12_code
def yX4_isKind : MethodName := ⟨RX4, "isKind", "(I)Z"⟩
abbrev cX4_chairAt : ByteArray := prog_6_method_13_code
def yX4_chairAt : MethodName := ⟨RX4, "chairAt", "(II)I"⟩
abbrev cX4_spotOf : ByteArray := prog_6_method_14_code
def yX4_spotOf : MethodName := ⟨RX4, "spotOf", "(II)I"⟩
abbrev cX4_its : ByteArray := prog_6_method_15_code
def yX4_its : MethodName := ⟨RX4, "its", "(II)I"⟩
abbrev cX4_ones : ByteArray := prog_6_method_16_code
def yX4_ones : MethodName := ⟨RX4, "ones", "(I)I"⟩
abbrev cX4_whoIn : ByteArray := prog_6_method_17_code
def yX4_whoIn : MethodName := ⟨RX4, "whoIn", "(I)I"⟩
abbrev cX4_chair : ByteArray := prog_6_method_18_code
def yX4_chair : MethodName := ⟨RX4, "chair", "(III)I"⟩
abbrev cX4_chairOf : ByteArray := prog_6_method_19_code
def yX4_chairOf : MethodName := ⟨RX4, "chairOf", "(II)I"⟩
abbrev cX4_adds : ByteArray := prog_6_method_20_code
def yX4_adds : MethodName := ⟨RX4, "adds", "(I)I"⟩
abbrev cX4_person : ByteArray := prog_6_method_21_code
def yX4_person : MethodName := ⟨RX4, "person", "(I)I"⟩
abbrev cX4_givesUp : ByteArray := prog_6_method_22_code
def yX4_givesUp : MethodName := ⟨RX4, "givesUp", "(I)I"⟩
abbrev cX4_of : ByteArray := prog_6_method_23_code
def yX4_of : MethodName := ⟨RX4, "of", "(II)I"⟩
abbrev cX4_isPart : ByteArray := prog_6_method_24_code
def yX4_isPart : MethodName := ⟨RX4, "isPart", "(II)Z"⟩
abbrev cX4_set : ByteArray := prog_6_method_25_code
def yX4_set : MethodName := ⟨RX4, "set", "(III)I"⟩
abbrev cX4_turn : ByteArray := prog_6_method_26_code
def yX4_turn : MethodName := ⟨RX4, "turn", "(II)I"⟩
abbrev cX4_isUnder : ByteArray := prog_6_method_27_code
def yX4_isUnder : MethodName := ⟨RX4, "isUnder", "(II)Z"⟩
abbrev cX4_as : ByteArray := prog_6_method_28_code
def yX4_as : MethodName := ⟨RX4, "as", "(II)I"⟩
abbrev cX4_isQuarrel : ByteArray := prog_6_method_29_code
def yX4_isQuarrel : MethodName := ⟨RX4, "isQuarrel", "(II)Z"⟩
abbrev cX4_quarrels : ByteArray := prog_6_method_30_code
def yX4_quarrels : MethodName := ⟨RX4, "quarrels", "(IIZ)V"⟩
abbrev cX4_quarrel : ByteArray := prog_6_method_31_code
def yX4_quarrel : MethodName := ⟨RX4, "quarrel", "(III)I"⟩
abbrev cX4_sit : ByteArray := prog_6_method_32_code
def yX4_sit : MethodName := ⟨RX4, "sit", "(II)I"⟩
abbrev cX4_changes : ByteArray := prog_6_method_33_code
def yX4_changes : MethodName := ⟨RX4, "changes", "(II)V"⟩
abbrev cX4_change : ByteArray := prog_6_method_34_code
def yX4_change : MethodName := ⟨RX4, "change", "(II)I"⟩
abbrev cX4_hourNow : ByteArray := prog_6_method_35_code
def yX4_hourNow : MethodName := ⟨RX4, "hourNow", "()I"⟩
abbrev cX4_isSunny : ByteArray := prog_6_method_36_code
def yX4_isSunny : MethodName := ⟨RX4, "isSunny", "()Z"⟩
abbrev cX4_likes : ByteArray := prog_6_method_37_code
def yX4_likes : MethodName := ⟨RX4, "likes", "(II)I"⟩
abbrev cX4_minds : ByteArray := prog_6_method_38_code
def yX4_minds : MethodName := ⟨RX4, "minds", "(II)I"⟩
abbrev cX4_sits : ByteArray := prog_6_method_39_code
def yX4_sits : MethodName := ⟨RX4, "sits", "(II)I"⟩
abbrev cX4_well : ByteArray := prog_6_method_40_code
def yX4_well : MethodName := ⟨RX4, "well", "(II)I"⟩
abbrev cX4_bestEmpty : ByteArray := prog_6_method_41_code
def yX4_bestEmpty : MethodName := ⟨RX4, "bestEmpty", "(I)I"⟩
abbrev cX4_moves : ByteArray := prog_6_method_42_code
def yX4_moves : MethodName := ⟨RX4, "moves", "(I)I"⟩
abbrev cX4_hour : ByteArray := prog_6_method_43_code
def yX4_hour : MethodName := ⟨RX4, "hour", "()I"⟩
abbrev cX4_hoursGo : ByteArray := prog_6_method_44_code
def yX4_hoursGo : MethodName := ⟨RX4, "hoursGo", "(I)I"⟩
abbrev cX4_hours : ByteArray := prog_6_method_45_code
def yX4_hours : MethodName := ⟨RX4, "hours", "(I)I"⟩
abbrev cX4_sitting : ByteArray := prog_6_method_46_code
def yX4_sitting : MethodName := ⟨RX4, "sitting", "()I"⟩
abbrev cX4_emptyOnes : ByteArray := prog_6_method_47_code
def yX4_emptyOnes : MethodName := ⟨RX4, "emptyOnes", "()I"⟩
abbrev cX4_peaceNow : ByteArray := prog_6_method_48_code
def yX4_peaceNow : MethodName := ⟨RX4, "peaceNow", "()I"⟩
abbrev cX4_now : ByteArray := prog_6_method_49_code
def yX4_now : MethodName := ⟨RX4, "now", "(I)I"⟩
abbrev cX4_on : ByteArray := prog_6_method_50_code
def yX4_on : MethodName := ⟨RX4, "on", "(III)I"⟩
abbrev cX4_peaceIn : ByteArray := prog_6_method_51_code
def yX4_peaceIn : MethodName := ⟨RX4, "peaceIn", "(I)I"⟩
abbrev cX4_peace : ByteArray := prog_6_method_52_code
def yX4_peace : MethodName := ⟨RX4, "peace", "(I)I"⟩
abbrev cX4_settles : ByteArray := prog_6_method_53_code
def yX4_settles : MethodName := ⟨RX4, "settles", "()I"⟩
abbrev cX4_gets : ByteArray := prog_6_method_54_code
def yX4_gets : MethodName := ⟨RX4, "gets", "(II)I"⟩
abbrev cX4_places : ByteArray := prog_6_method_55_code
def yX4_places : MethodName := ⟨RX4, "places", "(II)V"⟩
abbrev cX4_best : ByteArray := prog_6_method_56_code
def yX4_best : MethodName := ⟨RX4, "best", "()I"⟩
abbrev cX4_isSoon : ByteArray := prog_6_method_57_code
def yX4_isSoon : MethodName := ⟨RX4, "isSoon", "(I)Z"⟩
abbrev cX4_mend : ByteArray := prog_6_method_58_code
def yX4_mend : MethodName := ⟨RX4, "mend", "(I)I"⟩
abbrev cX4_wellIn : ByteArray := prog_6_method_59_code
def yX4_wellIn : MethodName := ⟨RX4, "wellIn", "(II)I"⟩
abbrev cX4_bestBy : ByteArray := prog_6_method_60_code
def yX4_bestBy : MethodName := ⟨RX4, "bestBy", "(IIIII)I"⟩
abbrev cX4_kind : ByteArray := prog_6_method_61_code
def yX4_kind : MethodName := ⟨RX4, "kind", "(II)I"⟩
abbrev cX4_claim : ByteArray := prog_6_method_62_code
def yX4_claim : MethodName := ⟨RX4, "claim", "(II)I"⟩
abbrev cX4_years : ByteArray := prog_6_method_63_code
def yX4_years : MethodName := ⟨RX4, "years", "(III)I"⟩
abbrev cX4_always : ByteArray := prog_6_method_64_code
def yX4_always : MethodName := ⟨RX4, "always", "(I)I"⟩
abbrev cX4_beside : ByteArray := prog_6_method_65_code
def yX4_beside : MethodName := ⟨RX4, "beside", "(I)I"⟩
abbrev cX4_feed : ByteArray := prog_6_method_66_code
def yX4_feed : MethodName := ⟨RX4, "feed", "(II)I"⟩
abbrev cX4_wipe : ByteArray := prog_6_method_67_code
def yX4_wipe : MethodName := ⟨RX4, "wipe", "()I"⟩
abbrev cX4_byteAt : ByteArray := prog_6_method_68_code
def yX4_byteAt : MethodName := ⟨RX4, "byteAt", "(I)I"⟩
abbrev cX4_isLetter : ByteArray := prog_6_method_69_code
def yX4_isLetter : MethodName := ⟨RX4, "isLetter", "(I)Z"⟩
abbrev cX4_isDigit : ByteArray := prog_6_method_70_code
def yX4_isDigit : MethodName := ⟨RX4, "isDigit", "(I)Z"⟩
abbrev cX4_token : ByteArray := prog_6_method_71_code
def yX4_token : MethodName := ⟨RX4, "token", "()V"⟩
abbrev cX4_must : ByteArray := prog_6_method_72_code
def yX4_must : MethodName := ⟨RX4, "must", "(Z)V"⟩
abbrev cX4_word : ByteArray := prog_6_method_73_code
def yX4_word : MethodName := ⟨RX4, "word", "()J"⟩
abbrev cX4_number : ByteArray := prog_6_method_74_code
def yX4_number : MethodName := ⟨RX4, "number", "(II)V"⟩
abbrev cX4_kindHere : ByteArray := prog_6_method_75_code
def yX4_kindHere : MethodName := ⟨RX4, "kindHere", "()I"⟩
abbrev cX4_partItem : ByteArray := prog_6_method_76_code
def yX4_partItem : MethodName := ⟨RX4, "partItem", "(JII)V"⟩
abbrev cX4_peeked : ByteArray := prog_6_method_77_code
def yX4_peeked : MethodName := ⟨RX4, "peeked", "()I"⟩
abbrev cX4_personItem : ByteArray := prog_6_method_78_code
def yX4_personItem : MethodName := ⟨RX4, "personItem", "(I)V"⟩
abbrev cX4_chairItem : ByteArray := prog_6_method_79_code
def yX4_chairItem : MethodName := ⟨RX4, "chairItem", "()V"⟩
abbrev cX4_item : ByteArray := prog_6_method_80_code
def yX4_item : MethodName := ⟨RX4, "item", "()V"⟩
abbrev cX4_room : ByteArray := prog_6_method_81_code
def yX4_room : MethodName := ⟨RX4, "room", "()I"⟩
abbrev cX4_isOne : ByteArray := prog_6_method_82_code
def yX4_isOne : MethodName := ⟨RX4, "isOne", "(I)Z"⟩
abbrev cX4_sheet : ByteArray := prog_6_method_83_code
def yX4_sheet : MethodName := ⟨RX4, "sheet", "(III)I"⟩
abbrev cX4_narrowed : ByteArray := prog_6_method_84_code
def yX4_narrowed : MethodName := ⟨RX4, "narrowed", "(IJ)J"⟩
abbrev cX4_wrongSheet : ByteArray := prog_6_method_85_code
def yX4_wrongSheet : MethodName := ⟨RX4, "wrongSheet", "(I)I"⟩
abbrev cX4_write : ByteArray := prog_6_method_86_code
def yX4_write : MethodName := ⟨RX4, "write", "(IIJ)J"⟩
abbrev cX4_copy : ByteArray := prog_6_method_87_code
def yX4_copy : MethodName := ⟨RX4, "copy", "(IIIII)I"⟩
abbrev cX4_lays : ByteArray := prog_6_method_88_code
def yX4_lays : MethodName := ⟨RX4, "lays", "(I)I"⟩
abbrev cX4_wrongBook : ByteArray := prog_6_method_89_code
def yX4_wrongBook : MethodName := ⟨RX4, "wrongBook", "(II)I"⟩
abbrev cX4_book : ByteArray := prog_6_method_90_code
def yX4_book : MethodName := ⟨RX4, "book", "(II)I"⟩
abbrev cX4_isBook : ByteArray := prog_6_method_91_code
def yX4_isBook : MethodName := ⟨RX4, "isBook", "(II)Z"⟩
abbrev cX4_read : ByteArray := prog_6_method_92_code
def yX4_read : MethodName := ⟨RX4, "read", "(II)I"⟩
abbrev cX4_image : ByteArray := prog_6_method_93_code
def yX4_image : MethodName := ⟨RX4, "image", "()I"⟩
abbrev cX4_undo : ByteArray := prog_6_method_94_code
def yX4_undo : MethodName := ⟨RX4, "undo", "()I"⟩
abbrev cX4_tear : ByteArray := prog_6_method_95_code
def yX4_tear : MethodName := ⟨RX4, "tear", "()I"⟩
abbrev cX4_pairs : ByteArray := prog_6_method_96_code
def yX4_pairs : MethodName := ⟨RX4, "pairs", "()I"⟩
abbrev cX4_count : ByteArray := prog_6_method_97_code
def yX4_count : MethodName := ⟨RX4, "count", "(I)I"⟩
abbrev cX4_status : ByteArray := prog_6_method_98_code
def yX4_status : MethodName := ⟨RX4, "status", "(I)I"⟩
def RJx145de : String := "java/io/Serializable"
def TJx145de : u_T := fun k => match k with
  | _ => ("", "", "", false)
def tyJx145de : Nat → FieldType := fun k => match k with
  | _ => .int
abbrev wsJx145de0 : List Cond := u_ws RJx145de TJx145de 0
theorem nmJx145de : ∀ a, a < 0 → ∀ b, b < 0 → a ≠ b → (TJx145de a).2.1 ≠ (TJx145de b).2.1 := by decide +kernel
theorem tyJx145de_ok : ∀ k, k < 0 → parseFieldDescriptor (TJx145de k).2.2.1 = some (tyJx145de k) := by decide +kernel
def RJx9f9b0 : String := "java/lang/CharSequence"
def TJx9f9b0 : u_T := fun k => match k with
  | _ => ("", "", "", false)
def tyJx9f9b0 : Nat → FieldType := fun k => match k with
  | _ => .int
abbrev wsJx9f9b00 : List Cond := u_ws RJx9f9b0 TJx9f9b0 0
theorem nmJx9f9b0 : ∀ a, a < 0 → ∀ b, b < 0 → a ≠ b → (TJx9f9b0 a).2.1 ≠ (TJx9f9b0 b).2.1 := by decide +kernel
theorem tyJx9f9b0_ok : ∀ k, k < 0 → parseFieldDescriptor (TJx9f9b0 k).2.2.1 = some (tyJx9f9b0 k) := by decide +kernel
def RJxb160c : String := "java/lang/Comparable"
def TJxb160c : u_T := fun k => match k with
  | _ => ("", "", "", false)
def tyJxb160c : Nat → FieldType := fun k => match k with
  | _ => .int
abbrev wsJxb160c0 : List Cond := u_ws RJxb160c TJxb160c 0
theorem nmJxb160c : ∀ a, a < 0 → ∀ b, b < 0 → a ≠ b → (TJxb160c a).2.1 ≠ (TJxb160c b).2.1 := by decide +kernel
theorem tyJxb160c_ok : ∀ k, k < 0 → parseFieldDescriptor (TJxb160c k).2.2.1 = some (tyJxb160c k) := by decide +kernel
def RJ6 : String := "java/lang/Integer"
def TJ6 : u_T := fun k => match k with
  | _ => ("", "", "", false)
def tyJ6 : Nat → FieldType := fun k => match k with
  | _ => .int
abbrev wsJ60 : List Cond := u_ws RJ6 TJ6 0
theorem nmJ6 : ∀ a, a < 0 → ∀ b, b < 0 → a ≠ b → (TJ6 a).2.1 ≠ (TJ6 b).2.1 := by decide +kernel
theorem tyJ6_ok : ∀ k, k < 0 → parseFieldDescriptor (TJ6 k).2.2.1 = some (tyJ6 k) := by decide +kernel
abbrev cJ6_bitCount_0f7a4 : ByteArray := prog_7_method_49_code
def yJ6_bitCount_0f7a4 : MethodName := ⟨RJ6, "bitCount", "(I)I"⟩
def RJ9 : String := "java/lang/Math"
def TJ9 : u_T := fun k => match k with
  | _ => ("", "", "", false)
def tyJ9 : Nat → FieldType := fun k => match k with
  | _ => .int
abbrev wsJ90 : List Cond := u_ws RJ9 TJ9 0
theorem nmJ9 : ∀ a, a < 0 → ∀ b, b < 0 → a ≠ b → (TJ9 a).2.1 ≠ (TJ9 b).2.1 := by decide +kernel
theorem tyJ9_ok : ∀ k, k < 0 → parseFieldDescriptor (TJ9 k).2.2.1 = some (tyJ9 k) := by decide +kernel
abbrev cJ9_max_7cf53 : ByteArray := prog_8_method_65_code
def yJ9_max_7cf53 : MethodName := ⟨RJ9, "max", "(II)I"⟩
abbrev cJ9_min_7cf53 : ByteArray := prog_8_method_69_code
def yJ9_min_7cf53 : MethodName := ⟨RJ9, "min", "(II)I"⟩
def RJ0 : String := "java/lang/String"
def TJ0 : u_T := fun k => match k with
  | _ => ("", "", "", false)
def tyJ0 : Nat → FieldType := fun k => match k with
  | _ => .int
abbrev wsJ00 : List Cond := u_ws RJ0 TJ0 0
theorem nmJ0 : ∀ a, a < 0 → ∀ b, b < 0 → a ≠ b → (TJ0 a).2.1 ≠ (TJ0 b).2.1 := by decide +kernel
theorem tyJ0_ok : ∀ k, k < 0 → parseFieldDescriptor (TJ0 k).2.2.1 = some (tyJ0 k) := by decide +kernel
abbrev cJ0_length_8abf5 : ByteArray := prog_9_method_54_code
def yJ0_length_8abf5 : MethodName := ⟨RJ0, "length", "()I"⟩
abbrev cJ0_charAt_5068e : ByteArray := prog_9_method_56_code
def yJ0_charAt_5068e : MethodName := ⟨RJ0, "charAt", "(I)C"⟩
abbrev cJ0_coder_7d493 : ByteArray := prog_9_method_152_code
def yJ0_coder_7d493 : MethodName := ⟨RJ0, "coder", "()B"⟩
abbrev cJ0_isLatin1_aae02 : ByteArray := prog_9_method_154_code
def yJ0_isLatin1_aae02 : MethodName := ⟨RJ0, "isLatin1", "()Z"⟩
abbrev cJ0_checkIndex_df160 : ByteArray := prog_9_method_155_code
def yJ0_checkIndex_df160 : MethodName := ⟨RJ0, "checkIndex", "(II)V"⟩
def RJ1 : String := "java/lang/StringLatin1"
def TJ1 : u_T := fun k => match k with
  | _ => ("", "", "", false)
def tyJ1 : Nat → FieldType := fun k => match k with
  | _ => .int
abbrev wsJ10 : List Cond := u_ws RJ1 TJ1 0
theorem nmJ1 : ∀ a, a < 0 → ∀ b, b < 0 → a ≠ b → (TJ1 a).2.1 ≠ (TJ1 b).2.1 := by decide +kernel
theorem tyJ1_ok : ∀ k, k < 0 → parseFieldDescriptor (TJ1 k).2.2.1 = some (tyJ1 k) := by decide +kernel
abbrev cJ1_charAt_3b067 : ByteArray := prog_10_method_2_code
def yJ1_charAt_3b067 : MethodName := ⟨RJ1, "charAt", "([BI)C"⟩
def RJ2 : String := "java/lang/StringUTF16"
def TJ2 : u_T := fun k => match k with
  | _ => ("", "", "", false)
def tyJ2 : Nat → FieldType := fun k => match k with
  | _ => .int
abbrev wsJ20 : List Cond := u_ws RJ2 TJ2 0
theorem nmJ2 : ∀ a, a < 0 → ∀ b, b < 0 → a ≠ b → (TJ2 a).2.1 ≠ (TJ2 b).2.1 := by decide +kernel
theorem tyJ2_ok : ∀ k, k < 0 → parseFieldDescriptor (TJ2 k).2.2.1 = some (tyJ2 k) := by decide +kernel
abbrev cJ2_getChar_3b067 : ByteArray := prog_11_method_5_code
def yJ2_getChar_3b067 : MethodName := ⟨RJ2, "getChar", "([BI)C"⟩
abbrev cJ2_length_9d52b : ByteArray := prog_11_method_6_code
def yJ2_length_9d52b : MethodName := ⟨RJ2, "length", "([B)I"⟩
abbrev cJ2_charAt_3b067 : ByteArray := prog_11_method_83_code
def yJ2_charAt_3b067 : MethodName := ⟨RJ2, "charAt", "([BI)C"⟩
abbrev cJ2_checkIndex_2214a : ByteArray := prog_11_method_91_code
def yJ2_checkIndex_2214a : MethodName := ⟨RJ2, "checkIndex", "(I[B)V"⟩
def RJ10 : String := "java/lang/System"
def TJ10 : u_T := fun k => match k with
  | _ => ("", "", "", false)
def tyJ10 : Nat → FieldType := fun k => match k with
  | _ => .int
abbrev wsJ100 : List Cond := u_ws RJ10 TJ10 0
theorem nmJ10 : ∀ a, a < 0 → ∀ b, b < 0 → a ≠ b → (TJ10 a).2.1 ≠ (TJ10 b).2.1 := by decide +kernel
theorem tyJ10_ok : ∀ k, k < 0 → parseFieldDescriptor (TJ10 k).2.2.1 = some (tyJ10 k) := by decide +kernel
def RJxfd54e : String := "java/lang/constant/Constable"
def TJxfd54e : u_T := fun k => match k with
  | _ => ("", "", "", false)
def tyJxfd54e : Nat → FieldType := fun k => match k with
  | _ => .int
abbrev wsJxfd54e0 : List Cond := u_ws RJxfd54e TJxfd54e 0
theorem nmJxfd54e : ∀ a, a < 0 → ∀ b, b < 0 → a ≠ b → (TJxfd54e a).2.1 ≠ (TJxfd54e b).2.1 := by decide +kernel
theorem tyJxfd54e_ok : ∀ k, k < 0 → parseFieldDescriptor (TJxfd54e k).2.2.1 = some (tyJxfd54e k) := by decide +kernel
def RJx3cf43 : String := "java/lang/constant/ConstantDesc"
def TJx3cf43 : u_T := fun k => match k with
  | _ => ("", "", "", false)
def tyJx3cf43 : Nat → FieldType := fun k => match k with
  | _ => .int
abbrev wsJx3cf430 : List Cond := u_ws RJx3cf43 TJx3cf43 0
theorem nmJx3cf43 : ∀ a, a < 0 → ∀ b, b < 0 → a ≠ b → (TJx3cf43 a).2.1 ≠ (TJx3cf43 b).2.1 := by decide +kernel
theorem tyJx3cf43_ok : ∀ k, k < 0 → parseFieldDescriptor (TJx3cf43 k).2.2.1 = some (tyJx3cf43 k) := by decide +kernel
def RJ7 : String := "java/util/Arrays"
def TJ7 : u_T := fun k => match k with
  | _ => ("", "", "", false)
def tyJ7 : Nat → FieldType := fun k => match k with
  | _ => .int
abbrev wsJ70 : List Cond := u_ws RJ7 TJ7 0
theorem nmJ7 : ∀ a, a < 0 → ∀ b, b < 0 → a ≠ b → (TJ7 a).2.1 ≠ (TJ7 b).2.1 := by decide +kernel
theorem tyJ7_ok : ∀ k, k < 0 → parseFieldDescriptor (TJ7 k).2.2.1 = some (tyJ7 k) := by decide +kernel
abbrev cJ7_fill_d0a16 : ByteArray := prog_13_method_101_code
def yJ7_fill_d0a16 : MethodName := ⟨RJ7, "fill", "([JJ)V"⟩
abbrev cJ7_fill_53178 : ByteArray := prog_13_method_103_code
def yJ7_fill_53178 : MethodName := ⟨RJ7, "fill", "([II)V"⟩
def RJ3 : String := "jdk/internal/util/Preconditions"
def TJ3 : u_T := fun k => match k with
  | _ => ("", "", "", false)
def tyJ3 : Nat → FieldType := fun k => match k with
  | _ => .int
abbrev wsJ30 : List Cond := u_ws RJ3 TJ3 0
theorem nmJ3 : ∀ a, a < 0 → ∀ b, b < 0 → a ≠ b → (TJ3 a).2.1 ≠ (TJ3 b).2.1 := by decide +kernel
theorem tyJ3_ok : ∀ k, k < 0 → parseFieldDescriptor (TJ3 k).2.2.1 = some (tyJ3 k) := by decide +kernel
abbrev cJ3_checkIndex_8e157 : ByteArray := prog_14_method_11_code
def yJ3_checkIndex_8e157 : MethodName := ⟨RJ3, "checkIndex", "(IILjava/util/function/BiFunction;)I"⟩
def RL : String := "WindowChairsLaw"
abbrev cL_law : ByteArray := code
def yL_law : MethodName := ⟨RL, "law", "([I)Z"⟩
def wsL_law_r1 : List Cond := [Cond.classLink RL 7 RX3, Cond.instantiable RX3 8, Cond.initialized RX3, Cond.classLink RL 10 RX4, Cond.instantiable RX4 19, Cond.initialized RX4, Cond.constantLong RL 129 (4294967295), Cond.methodLink RL 9 yX3_init, Cond.instanceMethod yX3_init, Cond.code yX3_init cX3_init 2 none, Cond.methodLink RX3 1 objectInit, Cond.instanceMethod objectInit, Cond.code objectInit ⟨#[0xb1]⟩ 1 none, Cond.classLink RX3 7 RX0, Cond.instantiable RX0 11, Cond.initialized RX0, Cond.fieldLink RX3 10 "WindowChairs" "here" "LWindowChairs$Room;", Cond.fieldLink RX3 16 "WindowChairs" "ahead" "LWindowChairs$Room;", Cond.fieldLink RX3 19 "WindowChairs" "kept" "LWindowChairs$Room;", Cond.fieldLink RX3 22 "WindowChairs" "isKept" "Z", Cond.classLink RX3 26 RX2, Cond.instantiable RX2 7, Cond.initialized RX2, Cond.fieldLink RX3 29 "WindowChairs" "text" "LWindowChairs$Text;"]
def wsL_law_r2 : List Cond := [Cond.classLink RX3 33 RX1, Cond.fieldLink RX3 35 "WindowChairs" "sheets" "[LWindowChairs$Sheet;", Cond.instantiable RX1 3, Cond.initialized RX1, Cond.arrayClass .int, Cond.fieldLink RX3 40 "WindowChairs" "findings" "[I", Cond.fieldLink RX3 44 "WindowChairs" "sitting" "[I", Cond.methodLink RX3 9 yX0_init, Cond.instanceMethod yX0_init, Cond.code yX0_init cX0_init 1 none, Cond.methodLink RX0 3 objectInit, Cond.fieldLink RX0 9 "WindowChairs$Room" "views" "[I", Cond.fieldLink RX0 21 "WindowChairs$Room" "draughts" "[I", Cond.fieldLink RX0 24 "WindowChairs$Room" "sitters" "[I", Cond.fieldLink RX0 27 "WindowChairs$Room" "kinds" "[I", Cond.fieldLink RX0 30 "WindowChairs$Room" "ages" "[I", Cond.fieldLink RX0 33 "WindowChairs$Room" "claims" "[I", Cond.fieldLink RX0 36 "WindowChairs$Room" "quarrels" "[I", Cond.fieldLink RX0 39 "WindowChairs$Room" "gaps" "[I", Cond.fieldLink RX0 42 "WindowChairs$Room" "seats" "[I", Cond.methodLink RX0 15 yJ7_fill_53178, Cond.static yJ7_fill_53178, Cond.initialized RJ7, Cond.code yJ7_fill_53178 cJ7_fill_53178 4 none]
def wsL_law_r3 : List Cond := [Cond.methodLink RX3 28 yX2_init, Cond.instanceMethod yX2_init, Cond.code yX2_init cX2_init 1 none, Cond.methodLink RX2 3 objectInit, Cond.fieldLink RX2 9 "WindowChairs$Text" "bytes" "[I", Cond.methodLink RX3 39 yX1_init, Cond.instanceMethod yX1_init, Cond.code yX1_init cX1_init 1 none, Cond.methodLink RX1 3 objectInit, Cond.arrayClass .long, Cond.fieldLink RX1 9 "WindowChairs$Sheet" "numbers" "[J", Cond.methodLink RL 12 yX4_init, Cond.instanceMethod yX4_init, Cond.code yX4_init cX4_init 2 none, Cond.methodLink RX4 1 objectInit, Cond.fieldLink RX4 7 "WindowChairsModel" "s" "[I", Cond.fieldLink RX4 13 "WindowChairsModel" "keptS" "[I", Cond.fieldLink RX4 16 "WindowChairsModel" "other" "[I", Cond.fieldLink RX4 19 "WindowChairsModel" "aside" "[I", Cond.fieldLink RX4 22 "WindowChairsModel" "statuses" "[I", Cond.fieldLink RX4 25 "WindowChairsModel" "taken" "[I", Cond.fieldLink RX4 28 "WindowChairsModel" "tape" "[I", Cond.fieldLink RX4 31 "WindowChairsModel" "bitsOf" "[I", Cond.fieldLink RX4 34 "WindowChairsModel" "sizeOf" "[I"]
def wsL_law_r4 : List Cond := [Cond.fieldLink RX4 37 "WindowChairsModel" "numbers" "[J", Cond.fieldLink RX4 41 "WindowChairsModel" "moved" "[J", Cond.methodLink RX4 44 yX4_chairAt, Cond.static yX4_chairAt, Cond.code yX4_chairAt cX4_chairAt 2 (some .int), Cond.methodLink RL 13 yX3_chair, Cond.instanceMethod yX3_chair, Cond.selects RX3 yX3_chair yX3_chair, Cond.code yX3_chair cX3_chair 6 (some .int), Cond.fieldLink RX3 59 "WindowChairs$Room" "views" "[I", Cond.fieldLink RX3 62 "WindowChairs$Room" "draughts" "[I", Cond.methodLink RX3 47 yX3_isChair, Cond.static yX3_isChair, Cond.code yX3_isChair cX3_isChair 1 (some .boolean), Cond.methodLink RX3 51 yX3_isWithin, Cond.static yX3_isWithin, Cond.code yX3_isWithin cX3_isWithin 3 (some .boolean), Cond.methodLink RX3 55 yX3_finding, Cond.instanceMethod yX3_finding, Cond.selects RX3 yX3_finding yX3_finding, Cond.code yX3_finding cX3_finding 2 (some .int), Cond.constant RX3 231 (-1000000001), Cond.methodLink RL 17 yX4_chair, Cond.instanceMethod yX4_chair]
def wsL_law_r5 : List Cond := [Cond.selects RX4 yX4_chair yX4_chair, Cond.code yX4_chair cX4_chair 5 (some .int), Cond.constantLong RX4 67 (20), Cond.constantLong RX4 69 (9), Cond.constant RX4 48 (-1000000001), Cond.methodLink RX4 51 yX4_in, Cond.static yX4_in, Cond.code yX4_in cX4_in 6 (some .boolean), Cond.methodLink RX4 71 yX4_isChair, Cond.static yX4_isChair, Cond.code yX4_isChair cX4_isChair 1 (some .boolean), Cond.constantLong RX4 49 (7), Cond.methodLink RX4 74 yX4_becomes, Cond.instanceMethod yX4_becomes, Cond.selects RX4 yX4_becomes yX4_becomes, Cond.code yX4_becomes cX4_becomes 4 (some .int), Cond.methodLink RX4 77 yX4_finds, Cond.instanceMethod yX4_finds, Cond.selects RX4 yX4_finds yX4_finds, Cond.code yX4_finds cX4_finds 2 (some .int), Cond.methodLink RL 18 yX3_chairOf, Cond.instanceMethod yX3_chairOf, Cond.selects RX3 yX3_chairOf yX3_chairOf, Cond.code yX3_chairOf cX3_chairOf 3 (some .int)]
def wsL_law_r6 : List Cond := [Cond.fieldLink RX3 65 "WindowChairs$Room" "sitters" "[I", Cond.methodLink RL 22 yX4_chairOf, Cond.instanceMethod yX4_chairOf, Cond.selects RX4 yX4_chairOf yX4_chairOf, Cond.code yX4_chairOf cX4_chairOf 3 (some .int), Cond.constantLong RX4 81 (2), Cond.methodLink RX4 83 yX4_whoIn, Cond.instanceMethod yX4_whoIn, Cond.selects RX4 yX4_whoIn yX4_whoIn, Cond.code yX4_whoIn cX4_whoIn 3 (some .int), Cond.methodLink RX4 64 yX4_its, Cond.instanceMethod yX4_its, Cond.selects RX4 yX4_its yX4_its, Cond.code yX4_its cX4_its 3 (some .int), Cond.methodLink RX4 61 yX4_spotOf, Cond.static yX4_spotOf, Cond.code yX4_spotOf cX4_spotOf 2 (some .int), Cond.methodLink RL 23 yX3_person, Cond.instanceMethod yX3_person, Cond.selects RX3 yX3_person yX3_person, Cond.code yX3_person cX3_person 2 (some .int), Cond.fieldLink RX3 71 "WindowChairs$Room" "people" "I", Cond.methodLink RX3 68 yX3_isKind, Cond.static yX3_isKind]
def wsL_law_r7 : List Cond := [Cond.code yX3_isKind cX3_isKind 1 (some .boolean), Cond.methodLink RX3 75 yX0_enter, Cond.instanceMethod yX0_enter, Cond.selects RX0 yX0_enter yX0_enter, Cond.code yX0_enter cX0_enter 3 (some .int), Cond.fieldLink RX0 51 "WindowChairs$Room" "people" "I", Cond.methodLink RL 27 yX4_person, Cond.instanceMethod yX4_person, Cond.selects RX4 yX4_person yX4_person, Cond.code yX4_person cX4_person 2 (some .int), Cond.constant RX4 89 (-1000000002), Cond.methodLink RX4 86 yX4_isKind, Cond.static yX4_isKind, Cond.code yX4_isKind cX4_isKind 1 (some .boolean), Cond.constantLong RX4 59 (5), Cond.methodLink RX4 90 yX4_adds, Cond.instanceMethod yX4_adds, Cond.selects RX4 yX4_adds yX4_adds, Cond.code yX4_adds cX4_adds 3 (some .int), Cond.methodLink RL 28 yX3_of, Cond.instanceMethod yX3_of, Cond.selects RX3 yX3_of yX3_of, Cond.code yX3_of cX3_of 3 (some .int), Cond.fieldLink RX3 81 "WindowChairs$Room" "kinds" "[I"]
def wsL_law_r8 : List Cond := [Cond.fieldLink RX3 84 "WindowChairs$Room" "ages" "[I", Cond.fieldLink RX3 87 "WindowChairs$Room" "claims" "[I", Cond.fieldLink RX3 90 "WindowChairs$Room" "quarrels" "[I", Cond.fieldLink RX3 93 "WindowChairs$Room" "gaps" "[I", Cond.fieldLink RX3 96 "WindowChairs$Room" "seats" "[I", Cond.methodLink RX3 78 yX3_isThere, Cond.instanceMethod yX3_isThere, Cond.selects RX3 yX3_isThere yX3_isThere, Cond.code yX3_isThere cX3_isThere 2 (some .boolean), Cond.methodLink RX3 99 yX0_givesUp, Cond.instanceMethod yX0_givesUp, Cond.selects RX0 yX0_givesUp yX0_givesUp, Cond.code yX0_givesUp cX0_givesUp 2 (some .int), Cond.methodLink RL 31 yX4_of, Cond.instanceMethod yX4_of, Cond.selects RX4 yX4_of yX4_of, Cond.code yX4_of cX4_of 3 (some .int), Cond.constantLong RX4 93 (6), Cond.methodLink RX4 55 yX4_isPerson, Cond.instanceMethod yX4_isPerson, Cond.selects RX4 yX4_isPerson yX4_isPerson, Cond.code yX4_isPerson cX4_isPerson 2 (some .boolean), Cond.methodLink RX4 95 yX4_givesUp, Cond.instanceMethod yX4_givesUp]
def wsL_law_r9 : List Cond := [Cond.selects RX4 yX4_givesUp yX4_givesUp, Cond.code yX4_givesUp cX4_givesUp 2 (some .int), Cond.methodLink RL 32 yX3_set, Cond.instanceMethod yX3_set, Cond.selects RX3 yX3_set yX3_set, Cond.code yX3_set cX3_set 4 (some .int), Cond.methodLink RX3 102 yX3_put, Cond.instanceMethod yX3_put, Cond.selects RX3 yX3_put yX3_put, Cond.code yX3_put cX3_put 7 (some .int), Cond.methodLink RL 35 yX4_set, Cond.instanceMethod yX4_set, Cond.selects RX4 yX4_set yX4_set, Cond.code yX4_set cX4_set 4 (some .int), Cond.methodLink RX4 104 yX4_isPart, Cond.static yX4_isPart, Cond.code yX4_isPart cX4_isPart 2 (some .boolean), Cond.constantLong RX4 98 (99), Cond.constantLong RX4 100 (-1), Cond.constantLong RX4 102 (9999), Cond.methodLink RL 36 yX3_turn, Cond.instanceMethod yX3_turn, Cond.selects RX3 yX3_turn yX3_turn, Cond.code yX3_turn cX3_turn 3 (some .int)]
def wsL_law_r10 : List Cond := [Cond.methodLink RL 39 yX4_turn, Cond.instanceMethod yX4_turn, Cond.selects RX4 yX4_turn yX4_turn, Cond.code yX4_turn cX4_turn 3 (some .int), Cond.methodLink RL 40 yX3_as, Cond.instanceMethod yX3_as, Cond.selects RX3 yX3_as yX3_as, Cond.code yX3_as cX3_as 3 (some .int), Cond.methodLink RX3 106 yX3_isOfKind, Cond.static yX3_isOfKind, Cond.code yX3_isOfKind cX3_isOfKind 4 (some .boolean), Cond.fieldLink RX3 232 "WindowChairs" "KIND_ABOVE" "[I", Cond.methodLink RL 43 yX4_as, Cond.instanceMethod yX4_as, Cond.selects RX4 yX4_as yX4_as, Cond.code yX4_as cX4_as 3 (some .int), Cond.constant RX4 111 (-1000000003), Cond.methodLink RX4 108 yX4_isUnder, Cond.static yX4_isUnder, Cond.code yX4_isUnder cX4_isUnder 2 (some .boolean), Cond.methodLink RL 44 yX3_quarrel, Cond.instanceMethod yX3_quarrel, Cond.selects RX3 yX3_quarrel yX3_quarrel, Cond.code yX3_quarrel cX3_quarrel 5 (some .int)]
def wsL_law_r11 : List Cond := [Cond.methodLink RX3 110 yX3_areTwo, Cond.instanceMethod yX3_areTwo, Cond.selects RX3 yX3_areTwo yX3_areTwo, Cond.code yX3_areTwo cX3_areTwo 3 (some .boolean), Cond.methodLink RX3 113 yX0_areAtOdds, Cond.instanceMethod yX0_areAtOdds, Cond.selects RX0 yX0_areAtOdds yX0_areAtOdds, Cond.code yX0_areAtOdds cX0_areAtOdds 3 (some .boolean), Cond.methodLink RX3 116 yX0_putAtOdds, Cond.instanceMethod yX0_putAtOdds, Cond.selects RX0 yX0_putAtOdds yX0_putAtOdds, Cond.code yX0_putAtOdds cX0_putAtOdds 4 none, Cond.methodLink RL 47 yX4_quarrel, Cond.instanceMethod yX4_quarrel, Cond.selects RX4 yX4_quarrel yX4_quarrel, Cond.code yX4_quarrel cX4_quarrel 5 (some .int), Cond.methodLink RX4 112 yX4_areTwo, Cond.instanceMethod yX4_areTwo, Cond.selects RX4 yX4_areTwo yX4_areTwo, Cond.code yX4_areTwo cX4_areTwo 3 (some .boolean), Cond.methodLink RX4 115 yX4_isQuarrel, Cond.instanceMethod yX4_isQuarrel, Cond.selects RX4 yX4_isQuarrel yX4_isQuarrel, Cond.code yX4_isQuarrel cX4_isQuarrel 3 (some .boolean)]
def wsL_law_r12 : List Cond := [Cond.methodLink RX4 118 yX4_quarrels, Cond.instanceMethod yX4_quarrels, Cond.selects RX4 yX4_quarrels yX4_quarrels, Cond.code yX4_quarrels cX4_quarrels 6 none, Cond.methodLink RL 48 yX3_sit, Cond.instanceMethod yX3_sit, Cond.selects RX3 yX3_sit yX3_sit, Cond.code yX3_sit cX3_sit 4 (some .int), Cond.methodLink RX3 120 yX0_seat, Cond.instanceMethod yX0_seat, Cond.selects RX0 yX0_seat yX0_seat, Cond.code yX0_seat cX0_seat 3 none, Cond.methodLink RL 51 yX4_sit, Cond.instanceMethod yX4_sit, Cond.selects RX4 yX4_sit yX4_sit, Cond.code yX4_sit cX4_sit 4 (some .int), Cond.constant RX4 122 (-1000000005), Cond.methodLink RL 52 yX3_change, Cond.instanceMethod yX3_change, Cond.selects RX3 yX3_change yX3_change, Cond.code yX3_change cX3_change 3 (some .int), Cond.methodLink RX3 124 yX0_swap, Cond.instanceMethod yX0_swap, Cond.selects RX0 yX0_swap yX0_swap]
def wsL_law_r13 : List Cond := [Cond.code yX0_swap cX0_swap 5 none, Cond.methodLink RL 55 yX4_change, Cond.instanceMethod yX4_change, Cond.selects RX4 yX4_change yX4_change, Cond.code yX4_change cX4_change 3 (some .int), Cond.methodLink RX4 123 yX4_changes, Cond.instanceMethod yX4_changes, Cond.selects RX4 yX4_changes yX4_changes, Cond.code yX4_changes cX4_changes 4 none, Cond.methodLink RL 56 yX3_well, Cond.instanceMethod yX3_well, Cond.selects RX3 yX3_well yX3_well, Cond.code yX3_well cX3_well 3 (some .int), Cond.methodLink RX3 127 yX0_howWell, Cond.instanceMethod yX0_howWell, Cond.selects RX0 yX0_howWell yX0_howWell, Cond.code yX0_howWell cX0_howWell 4 (some .int), Cond.methodLink RX0 79 yX0_likes, Cond.instanceMethod yX0_likes, Cond.selects RX0 yX0_likes yX0_likes, Cond.code yX0_likes cX0_likes 5 (some .int), Cond.methodLink RX0 68 yX0_hasSun, Cond.instanceMethod yX0_hasSun, Cond.selects RX0 yX0_hasSun yX0_hasSun]
def wsL_law_r14 : List Cond := [Cond.code yX0_hasSun cX0_hasSun 2 (some .boolean), Cond.fieldLink RX0 55 "WindowChairs$Room" "hour" "I", Cond.methodLink RX0 83 yX0_minds, Cond.instanceMethod yX0_minds, Cond.selects RX0 yX0_minds yX0_minds, Cond.code yX0_minds cX0_minds 4 (some .int), Cond.methodLink RX0 72 yX0_areAtOdds, Cond.methodLink RL 59 yX4_well, Cond.instanceMethod yX4_well, Cond.selects RX4 yX4_well yX4_well, Cond.code yX4_well cX4_well 3 (some .int), Cond.methodLink RX4 141 yX4_sits, Cond.instanceMethod yX4_sits, Cond.selects RX4 yX4_sits yX4_sits, Cond.code yX4_sits cX4_sits 7 (some .int), Cond.methodLink RX4 135 yX4_likes, Cond.instanceMethod yX4_likes, Cond.selects RX4 yX4_likes yX4_likes, Cond.code yX4_likes cX4_likes 9 (some .int), Cond.methodLink RX4 131 yX4_isSunny, Cond.instanceMethod yX4_isSunny, Cond.selects RX4 yX4_isSunny yX4_isSunny, Cond.code yX4_isSunny cX4_isSunny 1 (some .boolean), Cond.methodLink RX4 127 yX4_hourNow]
def wsL_law_r15 : List Cond := [Cond.instanceMethod yX4_hourNow, Cond.selects RX4 yX4_hourNow yX4_hourNow, Cond.code yX4_hourNow cX4_hourNow 1 (some .int), Cond.methodLink RX4 138 yX4_minds, Cond.instanceMethod yX4_minds, Cond.selects RX4 yX4_minds yX4_minds, Cond.code yX4_minds cX4_minds 4 (some .int), Cond.methodLink RL 60 yX3_hours, Cond.instanceMethod yX3_hours, Cond.selects RX3 yX3_hours yX3_hours, Cond.code yX3_hours cX3_hours 2 (some .int), Cond.fieldLink RX3 131 "WindowChairs$Room" "hour" "I", Cond.constant RX3 134 (99999), Cond.methodLink RX3 135 yX0_pass, Cond.instanceMethod yX0_pass, Cond.selects RX0 yX0_pass yX0_pass, Cond.code yX0_pass cX0_pass 4 (some .int), Cond.methodLink RX0 89 yX0_passOne, Cond.instanceMethod yX0_passOne, Cond.selects RX0 yX0_passOne yX0_passOne, Cond.code yX0_passOne cX0_passOne 3 (some .int), Cond.methodLink RX0 93 yX0_movesToEmpty, Cond.instanceMethod yX0_movesToEmpty, Cond.selects RX0 yX0_movesToEmpty yX0_movesToEmpty]
def wsL_law_r16 : List Cond := [Cond.code yX0_movesToEmpty cX0_movesToEmpty 6 (some .boolean), Cond.methodLink RX0 86 yX0_howWell, Cond.methodLink RX0 99 yX0_seat, Cond.methodLink RX0 96 yX0_takesItsClaim, Cond.instanceMethod yX0_takesItsClaim, Cond.selects RX0 yX0_takesItsClaim yX0_takesItsClaim, Cond.code yX0_takesItsClaim cX0_takesItsClaim 4 (some .boolean), Cond.methodLink RX0 103 yX0_givesUp, Cond.methodLink RX0 106 yX0_swap, Cond.methodLink RL 63 yX4_hours, Cond.instanceMethod yX4_hours, Cond.selects RX4 yX4_hours yX4_hours, Cond.code yX4_hours cX4_hours 2 (some .int), Cond.constantLong RX4 153 (60), Cond.constant RX4 155 (99999), Cond.methodLink RX4 156 yX4_hoursGo, Cond.instanceMethod yX4_hoursGo, Cond.selects RX4 yX4_hoursGo yX4_hoursGo, Cond.code yX4_hoursGo cX4_hoursGo 4 (some .int), Cond.methodLink RX4 150 yX4_hour, Cond.instanceMethod yX4_hour, Cond.selects RX4 yX4_hour yX4_hour, Cond.code yX4_hour cX4_hour 3 (some .int), Cond.methodLink RX4 147 yX4_moves]
def wsL_law_r17 : List Cond := [Cond.instanceMethod yX4_moves, Cond.selects RX4 yX4_moves yX4_moves, Cond.code yX4_moves cX4_moves 6 (some .int), Cond.methodLink RX4 144 yX4_bestEmpty, Cond.instanceMethod yX4_bestEmpty, Cond.selects RX4 yX4_bestEmpty yX4_bestEmpty, Cond.code yX4_bestEmpty cX4_bestEmpty 7 (some .int), Cond.methodLink RL 64 yX3_now, Cond.instanceMethod yX3_now, Cond.selects RX3 yX3_now yX3_now, Cond.code yX3_now cX3_now 2 (some .int), Cond.methodLink RX3 138 yX0_hasSun, Cond.methodLink RX3 142 yX0_whoSits, Cond.instanceMethod yX0_whoSits, Cond.selects RX0 yX0_whoSits yX0_whoSits, Cond.code yX0_whoSits cX0_whoSits 3 (some .int), Cond.methodLink RX3 146 yX0_together, Cond.instanceMethod yX0_together, Cond.selects RX0 yX0_together yX0_together, Cond.code yX0_together cX0_together 3 (some .int), Cond.methodLink RX3 149 yX0_emptyChairs, Cond.instanceMethod yX0_emptyChairs, Cond.selects RX0 yX0_emptyChairs yX0_emptyChairs, Cond.code yX0_emptyChairs cX0_emptyChairs 3 (some .int)]
def wsL_law_r18 : List Cond := [Cond.methodLink RL 67 yX4_now, Cond.instanceMethod yX4_now, Cond.selects RX4 yX4_now yX4_now, Cond.code yX4_now cX4_now 2 (some .int), Cond.methodLink RX4 159 yX4_sitting, Cond.instanceMethod yX4_sitting, Cond.selects RX4 yX4_sitting yX4_sitting, Cond.code yX4_sitting cX4_sitting 3 (some .int), Cond.methodLink RX4 162 yX4_peaceNow, Cond.instanceMethod yX4_peaceNow, Cond.selects RX4 yX4_peaceNow yX4_peaceNow, Cond.code yX4_peaceNow cX4_peaceNow 3 (some .int), Cond.methodLink RX4 165 yX4_emptyOnes, Cond.instanceMethod yX4_emptyOnes, Cond.selects RX4 yX4_emptyOnes yX4_emptyOnes, Cond.code yX4_emptyOnes cX4_emptyOnes 3 (some .int), Cond.methodLink RL 68 yX3_on, Cond.instanceMethod yX3_on, Cond.selects RX3 yX3_on yX3_on, Cond.code yX3_on cX3_on 4 (some .int), Cond.methodLink RX3 152 yX0_become, Cond.instanceMethod yX0_become, Cond.selects RX0 yX0_become yX0_become, Cond.code yX0_become cX0_become 2 none]
def wsL_law_r19 : List Cond := [Cond.methodLink RX0 45 arraycopyName, Cond.native arraycopyName, Cond.static arraycopyName, Cond.initialized "java/lang/System", Cond.methodLink RL 71 yX4_on, Cond.instanceMethod yX4_on, Cond.selects RX4 yX4_on yX4_on, Cond.code yX4_on cX4_on 5 (some .int), Cond.methodLink RX4 168 yX4_laysAside, Cond.instanceMethod yX4_laysAside, Cond.selects RX4 yX4_laysAside yX4_laysAside, Cond.code yX4_laysAside cX4_laysAside 2 none, Cond.methodLink RX4 171 yX4_takesBack, Cond.instanceMethod yX4_takesBack, Cond.selects RX4 yX4_takesBack yX4_takesBack, Cond.code yX4_takesBack cX4_takesBack 3 (some .int), Cond.methodLink RL 72 yX3_peace, Cond.instanceMethod yX3_peace, Cond.selects RX3 yX3_peace yX3_peace, Cond.code yX3_peace cX3_peace 2 (some .int), Cond.methodLink RL 75 yX4_peace, Cond.instanceMethod yX4_peace, Cond.selects RX4 yX4_peace yX4_peace, Cond.code yX4_peace cX4_peace 2 (some .int)]
def wsL_law_r20 : List Cond := [Cond.methodLink RX4 174 yX4_peaceIn, Cond.instanceMethod yX4_peaceIn, Cond.selects RX4 yX4_peaceIn yX4_peaceIn, Cond.code yX4_peaceIn cX4_peaceIn 3 (some .int), Cond.methodLink RL 76 yX3_settles, Cond.instanceMethod yX3_settles, Cond.selects RX3 yX3_settles yX3_settles, Cond.code yX3_settles cX3_settles 2 (some .int), Cond.methodLink RX3 156 yX0_passOne, Cond.methodLink RL 80 yX4_settles, Cond.instanceMethod yX4_settles, Cond.selects RX4 yX4_settles yX4_settles, Cond.code yX4_settles cX4_settles 3 (some .int), Cond.constant RX4 177 (-1000000004), Cond.methodLink RL 81 yX3_gets, Cond.instanceMethod yX3_gets, Cond.selects RX3 yX3_gets yX3_gets, Cond.code yX3_gets cX3_gets 4 (some .int), Cond.methodLink RL 84 yX4_gets, Cond.instanceMethod yX4_gets, Cond.selects RX4 yX4_gets yX4_gets, Cond.code yX4_gets cX4_gets 5 (some .int), Cond.methodLink RL 85 yX3_best, Cond.instanceMethod yX3_best]
def wsL_law_r21 : List Cond := [Cond.selects RX3 yX3_best yX3_best, Cond.code yX3_best cX3_best 3 (some .int), Cond.methodLink RX3 159 yX3_mostPeace, Cond.instanceMethod yX3_mostPeace, Cond.selects RX3 yX3_mostPeace yX3_mostPeace, Cond.code yX3_mostPeace cX3_mostPeace 5 (some .int), Cond.methodLink RX3 235 Lib.Math.max.name, Cond.static Lib.Math.max.name, Cond.initialized "java/lang/Math", Cond.code Lib.Math.max.name Lib.Math.max.code 2 (some .int), Cond.methodLink RL 88 yX4_best, Cond.instanceMethod yX4_best, Cond.selects RX4 yX4_best yX4_best, Cond.code yX4_best cX4_best 3 (some .int), Cond.constant RX4 188 (-1000000007), Cond.fieldLink RX4 189 "WindowChairsModel" "takenMany" "I", Cond.fieldLink RX4 178 "WindowChairsModel" "mostPeace" "I", Cond.methodLink RX4 185 yX4_ones, Cond.static yX4_ones, Cond.code yX4_ones cX4_ones 3 (some .int), Cond.methodLink RX4 182 yX4_places, Cond.instanceMethod yX4_places, Cond.selects RX4 yX4_places yX4_places, Cond.code yX4_places cX4_places 4 none]
def wsL_law_r22 : List Cond := [Cond.methodLink RL 89 yX3_mend, Cond.instanceMethod yX3_mend, Cond.selects RX3 yX3_mend yX3_mend, Cond.code yX3_mend cX3_mend 6 (some .int), Cond.methodLink RL 92 yX4_mend, Cond.instanceMethod yX4_mend, Cond.selects RX4 yX4_mend yX4_mend, Cond.code yX4_mend cX4_mend 7 (some .int), Cond.methodLink RX4 194 yX4_isSoon, Cond.static yX4_isSoon, Cond.code yX4_isSoon cX4_isSoon 1 (some .boolean), Cond.constantLong RX4 192 (30), Cond.methodLink RL 93 yX3_kind, Cond.instanceMethod yX3_kind, Cond.selects RX3 yX3_kind yX3_kind, Cond.code yX3_kind cX3_kind 7 (some .int), Cond.methodLink RX3 162 yX0_howWellNow, Cond.instanceMethod yX0_howWellNow, Cond.selects RX0 yX0_howWellNow yX0_howWellNow, Cond.code yX0_howWellNow cX0_howWellNow 2 (some .int), Cond.methodLink RL 96 yX4_kind, Cond.instanceMethod yX4_kind, Cond.selects RX4 yX4_kind yX4_kind, Cond.code yX4_kind cX4_kind 3 (some .int)]
def wsL_law_r23 : List Cond := [Cond.methodLink RX4 200 yX4_bestBy, Cond.instanceMethod yX4_bestBy, Cond.selects RX4 yX4_bestBy yX4_bestBy, Cond.code yX4_bestBy cX4_bestBy 11 (some .int), Cond.methodLink RX4 197 yX4_wellIn, Cond.instanceMethod yX4_wellIn, Cond.selects RX4 yX4_wellIn yX4_wellIn, Cond.code yX4_wellIn cX4_wellIn 4 (some .int), Cond.methodLink RL 97 yX3_claim, Cond.instanceMethod yX3_claim, Cond.selects RX3 yX3_claim yX3_claim, Cond.code yX3_claim cX3_claim 7 (some .int), Cond.methodLink RL 100 yX4_claim, Cond.instanceMethod yX4_claim, Cond.selects RX4 yX4_claim yX4_claim, Cond.code yX4_claim cX4_claim 3 (some .int), Cond.methodLink RL 101 yX3_years, Cond.instanceMethod yX3_years, Cond.selects RX3 yX3_years yX3_years, Cond.code yX3_years cX3_years 5 (some .int), Cond.methodLink RL 104 yX4_years, Cond.instanceMethod yX4_years, Cond.selects RX4 yX4_years yX4_years, Cond.code yX4_years cX4_years 7 (some .int)]
def wsL_law_r24 : List Cond := [Cond.methodLink RL 105 yX3_always, Cond.instanceMethod yX3_always, Cond.selects RX3 yX3_always yX3_always, Cond.code yX3_always cX3_always 4 (some .int), Cond.methodLink RL 108 yX4_always, Cond.instanceMethod yX4_always, Cond.selects RX4 yX4_always yX4_always, Cond.code yX4_always cX4_always 5 (some .int), Cond.methodLink RL 109 yX3_beside, Cond.instanceMethod yX3_beside, Cond.selects RX3 yX3_beside yX3_beside, Cond.code yX3_beside cX3_beside 6 (some .int), Cond.methodLink RX3 165 yX0_isFreeFor, Cond.instanceMethod yX0_isFreeFor, Cond.selects RX0 yX0_isFreeFor yX0_isFreeFor, Cond.code yX0_isFreeFor cX0_isFreeFor 3 (some .boolean), Cond.methodLink RL 112 yX4_beside, Cond.instanceMethod yX4_beside, Cond.selects RX4 yX4_beside yX4_beside, Cond.code yX4_beside cX4_beside 9 (some .int), Cond.methodLink RL 113 yX3_feed, Cond.instanceMethod yX3_feed, Cond.selects RX3 yX3_feed yX3_feed, Cond.code yX3_feed cX3_feed 4 (some .int)]
def wsL_law_r25 : List Cond := [Cond.fieldLink RX3 168 "WindowChairs$Text" "length" "I", Cond.methodLink RX3 171 yX2_append, Cond.instanceMethod yX2_append, Cond.selects RX2 yX2_append yX2_append, Cond.code yX2_append cX2_append 2 none, Cond.fieldLink RX2 15 "WindowChairs$Text" "length" "I", Cond.methodLink RL 116 yX4_feed, Cond.instanceMethod yX4_feed, Cond.selects RX4 yX4_feed yX4_feed, Cond.code yX4_feed cX4_feed 4 (some .int), Cond.constantLong RX4 204 (4), Cond.fieldLink RX4 206 "WindowChairsModel" "taped" "I", Cond.methodLink RL 117 yX3_wipe, Cond.instanceMethod yX3_wipe, Cond.selects RX3 yX3_wipe yX3_wipe, Cond.code yX3_wipe cX3_wipe 2 (some .int), Cond.methodLink RL 120 yX4_wipe, Cond.instanceMethod yX4_wipe, Cond.selects RX4 yX4_wipe yX4_wipe, Cond.code yX4_wipe cX4_wipe 2 (some .int), Cond.methodLink RL 121 yX3_room, Cond.instanceMethod yX3_room, Cond.selects RX3 yX3_room yX3_room, Cond.code yX3_room cX3_room 2 (some .int)]
def wsL_law_r26 : List Cond := [Cond.fieldLink RX3 179 "WindowChairs$Text" "place" "I", Cond.fieldLink RX3 182 "WindowChairs$Text" "items" "I", Cond.methodLink RX3 175 yX2_comesTo, Cond.instanceMethod yX2_comesTo, Cond.selects RX2 yX2_comesTo yX2_comesTo, Cond.code yX2_comesTo cX2_comesTo 3 (some .boolean), Cond.fieldLink RX2 19 "WindowChairs$Text" "items" "I", Cond.fieldLink RX2 22 "WindowChairs$Text" "end" "I", Cond.fieldLink RX2 32 "WindowChairs$Text" "token" "I", Cond.methodLink RX2 25 yX2_step, Cond.instanceMethod yX2_step, Cond.selects RX2 yX2_step yX2_step, Cond.code yX2_step cX2_step 1 none, Cond.fieldLink RX2 35 "WindowChairs$Text" "place" "I", Cond.fieldLink RX2 42 "WindowChairs$Text" "number" "I", Cond.methodLink RX2 45 Lib.Math.min.name, Cond.static Lib.Math.min.name, Cond.code Lib.Math.min.name Lib.Math.min.code 2 (some .int), Cond.methodLink RX2 38 yX2_sortAt, Cond.instanceMethod yX2_sortAt, Cond.selects RX2 yX2_sortAt yX2_sortAt, Cond.code yX2_sortAt cX2_sortAt 3 (some .int), Cond.methodLink RX2 28 yX2_takesItem, Cond.instanceMethod yX2_takesItem]
def wsL_law_r27 : List Cond := [Cond.selects RX2 yX2_takesItem yX2_takesItem, Cond.code yX2_takesItem cX2_takesItem 3 (some .boolean), Cond.methodLink RX2 60 yX2_kindNamed, Cond.instanceMethod yX2_kindNamed, Cond.selects RX2 yX2_kindNamed yX2_kindNamed, Cond.code yX2_kindNamed cX2_kindNamed 2 (some .int), Cond.methodLink RX2 88 yX2_nameOf, Cond.static yX2_nameOf, Cond.code yX2_nameOf cX2_nameOf 1 (some (.object "java/lang/String")), Cond.methodLink RX2 73 yX2_isWord, Cond.instanceMethod yX2_isWord, Cond.selects RX2 yX2_isWord yX2_isWord, Cond.code yX2_isWord cX2_isWord 3 (some .boolean), Cond.methodLink RX2 51 yJ0_length_8abf5, Cond.instanceMethod yJ0_length_8abf5, Cond.selects RJ0 yJ0_length_8abf5 yJ0_length_8abf5, Cond.initialized RJ0, Cond.code yJ0_length_8abf5 cJ0_length_8abf5 1 (some .int), Cond.fieldLink RJ0 9 "java/lang/String" "value" "[B", Cond.methodLink RJ0 335 yJ0_coder_7d493, Cond.instanceMethod yJ0_coder_7d493, Cond.selects RJ0 yJ0_coder_7d493 yJ0_coder_7d493, Cond.code yJ0_coder_7d493 cJ0_coder_7d493 1 (some .byte), Cond.fieldLink RJ0 38 "java/lang/String" "COMPACT_STRINGS" "Z"]
def wsL_law_r28 : List Cond := [Cond.fieldLink RJ0 15 "java/lang/String" "coder" "B", Cond.methodLink RX2 56 yJ0_charAt_5068e, Cond.instanceMethod yJ0_charAt_5068e, Cond.selects RJ0 yJ0_charAt_5068e yJ0_charAt_5068e, Cond.code yJ0_charAt_5068e cJ0_charAt_5068e 2 (some .char), Cond.methodLink RJ0 492 yJ0_isLatin1_aae02, Cond.instanceMethod yJ0_isLatin1_aae02, Cond.selects RJ0 yJ0_isLatin1_aae02 yJ0_isLatin1_aae02, Cond.code yJ0_isLatin1_aae02 cJ0_isLatin1_aae02 1 (some .boolean), Cond.methodLink RJ0 495 yJ1_charAt_3b067, Cond.static yJ1_charAt_3b067, Cond.initialized RJ1, Cond.code yJ1_charAt_3b067 cJ1_charAt_3b067 2 (some .char), Cond.methodLink RJ1 9 yJ0_checkIndex_df160, Cond.static yJ0_checkIndex_df160, Cond.code yJ0_checkIndex_df160 cJ0_checkIndex_df160 2 none, Cond.fieldLink RJ0 1053 "jdk/internal/util/Preconditions" "SIOOBE_FORMATTER" "Ljava/util/function/BiFunction;", Cond.methodLink RJ0 1059 yJ3_checkIndex_8e157, Cond.static yJ3_checkIndex_8e157, Cond.initialized RJ3, Cond.code yJ3_checkIndex_8e157 cJ3_checkIndex_8e157 3 (some .int), Cond.methodLink RJ0 498 yJ2_charAt_3b067, Cond.static yJ2_charAt_3b067, Cond.initialized RJ2]
def wsL_law_r29 : List Cond := [Cond.code yJ2_charAt_3b067 cJ2_charAt_3b067 2 (some .char), Cond.methodLink RJ2 67 yJ2_checkIndex_2214a, Cond.static yJ2_checkIndex_2214a, Cond.code yJ2_checkIndex_2214a cJ2_checkIndex_2214a 2 none, Cond.methodLink RJ2 48 yJ2_length_9d52b, Cond.static yJ2_length_9d52b, Cond.code yJ2_length_9d52b cJ2_length_9d52b 1 (some .int), Cond.methodLink RJ2 414 yJ0_checkIndex_df160, Cond.methodLink RJ2 71 yJ2_getChar_3b067, Cond.static yJ2_getChar_3b067, Cond.code yJ2_getChar_3b067 cJ2_getChar_3b067 2 (some .char), Cond.fieldLink RJ2 44 "java/lang/StringUTF16" "$assertionsDisabled" "Z", Cond.fieldLink RJ2 59 "java/lang/StringUTF16" "HI_BYTE_SHIFT" "I", Cond.fieldLink RJ2 63 "java/lang/StringUTF16" "LO_BYTE_SHIFT" "I", Cond.methodLink RX2 67 yX2_takesPerson, Cond.instanceMethod yX2_takesPerson, Cond.selects RX2 yX2_takesPerson yX2_takesPerson, Cond.code yX2_takesPerson cX2_takesPerson 4 (some .boolean), Cond.fieldLink RX2 104 "WindowChairs$Room" "people" "I", Cond.fieldLink RX2 114 "WindowChairs$Room" "ages" "[I", Cond.fieldLink RX2 123 "WindowChairs$Room" "claims" "[I", Cond.fieldLink RX2 130 "WindowChairs$Room" "sitters" "[I", Cond.methodLink RX2 109 yX0_enter, Cond.methodLink RX2 117 yX2_takesPerhaps]
def wsL_law_r30 : List Cond := [Cond.instanceMethod yX2_takesPerhaps, Cond.selects RX2 yX2_takesPerhaps yX2_takesPerhaps, Cond.code yX2_takesPerhaps cX2_takesPerhaps 5 (some .boolean), Cond.methodLink RX2 127 yX2_isNumber, Cond.instanceMethod yX2_isNumber, Cond.selects RX2 yX2_isNumber yX2_isNumber, Cond.code yX2_isNumber cX2_isNumber 2 (some .boolean), Cond.methodLink RX2 133 yX0_seat, Cond.methodLink RX2 77 yX2_takesChair, Cond.instanceMethod yX2_takesChair, Cond.selects RX2 yX2_takesChair yX2_takesChair, Cond.code yX2_takesChair cX2_takesChair 3 (some .boolean), Cond.fieldLink RX2 139 "WindowChairs$Room" "views" "[I", Cond.fieldLink RX2 144 "WindowChairs$Room" "draughts" "[I", Cond.methodLink RX2 82 yX2_takesTwo, Cond.instanceMethod yX2_takesTwo, Cond.selects RX2 yX2_takesTwo yX2_takesTwo, Cond.code yX2_takesTwo cX2_takesTwo 4 (some .boolean), Cond.methodLink RX2 147 yX0_putAtOdds, Cond.methodLink RL 124 yX4_room, Cond.instanceMethod yX4_room, Cond.selects RX4 yX4_room yX4_room, Cond.code yX4_room cX4_room 2 (some .int), Cond.fieldLink RX4 232 "WindowChairsModel" "isWrong" "Z"]
def wsL_law_r31 : List Cond := [Cond.fieldLink RX4 217 "WindowChairsModel" "to" "I", Cond.fieldLink RX4 220 "WindowChairsModel" "from" "I", Cond.methodLink RX4 302 yX4_saves, Cond.instanceMethod yX4_saves, Cond.selects RX4 yX4_saves yX4_saves, Cond.code yX4_saves cX4_saves 2 none, Cond.methodLink RX4 236 yX4_token, Cond.instanceMethod yX4_token, Cond.selects RX4 yX4_token yX4_token, Cond.code yX4_token cX4_token 3 none, Cond.methodLink RX4 223 yX4_byteAt, Cond.instanceMethod yX4_byteAt, Cond.selects RX4 yX4_byteAt yX4_byteAt, Cond.code yX4_byteAt cX4_byteAt 2 (some .int), Cond.methodLink RX4 226 yX4_isLetter, Cond.static yX4_isLetter, Cond.code yX4_isLetter cX4_isLetter 1 (some .boolean), Cond.constantLong RX4 209 (97), Cond.constantLong RX4 211 (122), Cond.methodLink RX4 229 yX4_isDigit, Cond.static yX4_isDigit, Cond.code yX4_isDigit cX4_isDigit 1 (some .boolean), Cond.constantLong RX4 213 (48), Cond.constantLong RX4 215 (57)]
def wsL_law_r32 : List Cond := [Cond.methodLink RX4 305 yX4_item, Cond.instanceMethod yX4_item, Cond.selects RX4 yX4_item yX4_item, Cond.code yX4_item cX4_item 7 none, Cond.constantLong RX4 293 (3409202), Cond.constantLong RX4 298 (18959911084), Cond.constantLong RX4 300 (16942181), Cond.methodLink RX4 286 yX4_kindHere, Cond.instanceMethod yX4_kindHere, Cond.selects RX4 yX4_kindHere yX4_kindHere, Cond.code yX4_kindHere cX4_kindHere 3 (some .int), Cond.constantLong RX4 254 (8033908), Cond.constantLong RX4 256 (15748), Cond.constantLong RX4 258 (672541874), Cond.constantLong RX4 260 (136230), Cond.constantLong RX4 262 (18519214), Cond.constantLong RX4 264 (20809171122), Cond.methodLink RX4 250 yX4_word, Cond.instanceMethod yX4_word, Cond.selects RX4 yX4_word yX4_word, Cond.code yX4_word cX4_word 4 (some .long), Cond.constantLong RX4 239 (36028797018963967), Cond.constantLong RX4 241 (32), Cond.methodLink RX4 289 yX4_personItem]
def wsL_law_r33 : List Cond := [Cond.instanceMethod yX4_personItem, Cond.selects RX4 yX4_personItem yX4_personItem, Cond.code yX4_personItem cX4_personItem 4 none, Cond.constantLong RX4 269 (26379859), Cond.constantLong RX4 275 (113288627), Cond.constantLong RX4 277 (302), Cond.methodLink RX4 246 yX4_must, Cond.instanceMethod yX4_must, Cond.selects RX4 yX4_must yX4_must, Cond.code yX4_must cX4_must 2 none, Cond.methodLink RX4 271 yX4_partItem, Cond.instanceMethod yX4_partItem, Cond.selects RX4 yX4_partItem yX4_partItem, Cond.code yX4_partItem cX4_partItem 5 none, Cond.fieldLink RX4 243 "WindowChairsModel" "value" "I", Cond.methodLink RX4 266 yX4_number, Cond.instanceMethod yX4_number, Cond.selects RX4 yX4_number yX4_number, Cond.code yX4_number cX4_number 6 none, Cond.methodLink RX4 279 yX4_peeked, Cond.instanceMethod yX4_peeked, Cond.selects RX4 yX4_peeked yX4_peeked, Cond.code yX4_peeked cX4_peeked 3 (some .int), Cond.methodLink RX4 295 yX4_chairItem]
def wsL_law_r34 : List Cond := [Cond.instanceMethod yX4_chairItem, Cond.selects RX4 yX4_chairItem yX4_chairItem, Cond.code yX4_chairItem cX4_chairItem 2 none, Cond.constantLong RX4 282 (730295), Cond.constantLong RX4 284 (4900691220), Cond.methodLink RX4 308 yX4_putsBack, Cond.instanceMethod yX4_putsBack, Cond.selects RX4 yX4_putsBack yX4_putsBack, Cond.code yX4_putsBack cX4_putsBack 2 none, Cond.methodLink RL 125 yX3_sheet, Cond.instanceMethod yX3_sheet, Cond.selects RX3 yX3_sheet yX3_sheet, Cond.code yX3_sheet cX3_sheet 4 (some .int), Cond.methodLink RX3 185 yX3_isSheet, Cond.static yX3_isSheet, Cond.code yX3_isSheet cX3_isSheet 1 (some .boolean), Cond.methodLink RX3 188 yX1_renew, Cond.instanceMethod yX1_renew, Cond.selects RX1 yX1_renew yX1_renew, Cond.code yX1_renew cX1_renew 3 (some .int), Cond.fieldLink RX1 15 "WindowChairs$Sheet" "bits" "I", Cond.fieldLink RX1 25 "WindowChairs$Sheet" "size" "I", Cond.methodLink RX1 19 yJ7_fill_d0a16, Cond.static yJ7_fill_d0a16]
def wsL_law_r35 : List Cond := [Cond.code yJ7_fill_d0a16 cJ7_fill_d0a16 5 none, Cond.methodLink RL 128 yX4_sheet, Cond.instanceMethod yX4_sheet, Cond.selects RX4 yX4_sheet yX4_sheet, Cond.code yX4_sheet cX4_sheet 5 (some .int), Cond.methodLink RX4 313 yX4_isOne, Cond.static yX4_isOne, Cond.code yX4_isOne cX4_isOne 1 (some .boolean), Cond.constantLong RX4 311 (3), Cond.methodLink RL 131 yX3_write, Cond.instanceMethod yX3_write, Cond.selects RX3 yX3_write yX3_write, Cond.code yX3_write cX3_write 8 (some .long), Cond.fieldLink RX3 194 "WindowChairs$Sheet" "size" "I", Cond.fieldLink RX3 197 "WindowChairs$Sheet" "numbers" "[J", Cond.methodLink RX3 191 yX1_isMissing, Cond.instanceMethod yX1_isMissing, Cond.selects RX1 yX1_isMissing yX1_isMissing, Cond.code yX1_isMissing cX1_isMissing 1 (some .boolean), Cond.methodLink RX3 201 yX1_cut, Cond.instanceMethod yX1_cut, Cond.selects RX1 yX1_cut yX1_cut, Cond.code yX1_cut cX1_cut 3 (some .long), Cond.methodLink RL 135 yX4_write]
def wsL_law_r36 : List Cond := [Cond.instanceMethod yX4_write, Cond.selects RX4 yX4_write yX4_write, Cond.code yX4_write cX4_write 8 (some .long), Cond.methodLink RX4 317 yX4_wrongSheet, Cond.instanceMethod yX4_wrongSheet, Cond.selects RX4 yX4_wrongSheet yX4_wrongSheet, Cond.code yX4_wrongSheet cX4_wrongSheet 2 (some .int), Cond.constant RX4 316 (-1000000006), Cond.methodLink RX4 320 yX4_narrowed, Cond.static yX4_narrowed, Cond.code yX4_narrowed cX4_narrowed 3 (some .long), Cond.methodLink RL 136 yX3_copy, Cond.instanceMethod yX3_copy, Cond.selects RX3 yX3_copy yX3_copy, Cond.code yX3_copy cX3_copy 8 (some .int), Cond.fieldLink RX3 205 "WindowChairs$Sheet" "bits" "I", Cond.methodLink RX3 211 arraycopyName, Cond.methodLink RX3 208 yX1_has, Cond.instanceMethod yX1_has, Cond.selects RX1 yX1_has yX1_has, Cond.code yX1_has cX1_has 3 (some .boolean), Cond.methodLink RL 140 yX4_copy, Cond.instanceMethod yX4_copy, Cond.selects RX4 yX4_copy yX4_copy]
def wsL_law_r37 : List Cond := [Cond.code yX4_copy cX4_copy 7 (some .int), Cond.methodLink RL 141 yX3_lays, Cond.instanceMethod yX3_lays, Cond.selects RX3 yX3_lays yX3_lays, Cond.code yX3_lays cX3_lays 7 (some .int), Cond.constantLong RX3 217 (20), Cond.methodLink RL 144 yX4_lays, Cond.instanceMethod yX4_lays, Cond.selects RX4 yX4_lays yX4_lays, Cond.code yX4_lays cX4_lays 6 (some .int), Cond.methodLink RL 145 yX3_book, Cond.instanceMethod yX3_book, Cond.selects RX3 yX3_book yX3_book, Cond.code yX3_book cX3_book 5 (some .int), Cond.methodLink RL 148 yX4_book, Cond.instanceMethod yX4_book, Cond.selects RX4 yX4_book yX4_book, Cond.code yX4_book cX4_book 6 (some .int), Cond.methodLink RX4 324 yX4_wrongBook, Cond.instanceMethod yX4_wrongBook, Cond.selects RX4 yX4_wrongBook yX4_wrongBook, Cond.code yX4_wrongBook cX4_wrongBook 4 (some .int), Cond.methodLink RL 149 yX3_read, Cond.instanceMethod yX3_read]
def wsL_law_r38 : List Cond := [Cond.selects RX3 yX3_read yX3_read, Cond.code yX3_read cX3_read 7 (some .int), Cond.methodLink RX3 219 yX3_goesAsTold, Cond.instanceMethod yX3_goesAsTold, Cond.selects RX3 yX3_goesAsTold yX3_goesAsTold, Cond.code yX3_goesAsTold cX3_goesAsTold 4 (some .boolean), Cond.methodLink RL 152 yX4_read, Cond.instanceMethod yX4_read, Cond.selects RX4 yX4_read yX4_read, Cond.code yX4_read cX4_read 6 (some .int), Cond.methodLink RX4 327 yX4_isBook, Cond.instanceMethod yX4_isBook, Cond.selects RX4 yX4_isBook yX4_isBook, Cond.code yX4_isBook cX4_isBook 5 (some .boolean), Cond.methodLink RL 153 yX3_image, Cond.instanceMethod yX3_image, Cond.selects RX3 yX3_image yX3_image, Cond.code yX3_image cX3_image 1 (some .int), Cond.methodLink RL 156 yX4_image, Cond.instanceMethod yX4_image, Cond.selects RX4 yX4_image yX4_image, Cond.code yX4_image cX4_image 2 (some .int), Cond.fieldLink RX4 330 "WindowChairsModel" "isKept" "Z", Cond.methodLink RL 157 yX3_undo]
def wsL_law_r39 : List Cond := [Cond.instanceMethod yX3_undo, Cond.selects RX3 yX3_undo yX3_undo, Cond.code yX3_undo cX3_undo 1 (some .int), Cond.methodLink RL 160 yX4_undo, Cond.instanceMethod yX4_undo, Cond.selects RX4 yX4_undo yX4_undo, Cond.code yX4_undo cX4_undo 2 (some .int), Cond.methodLink RL 161 yX3_tear, Cond.instanceMethod yX3_tear, Cond.selects RX3 yX3_tear yX3_tear, Cond.code yX3_tear cX3_tear 2 (some .int), Cond.methodLink RL 164 yX4_tear, Cond.instanceMethod yX4_tear, Cond.selects RX4 yX4_tear yX4_tear, Cond.code yX4_tear cX4_tear 2 (some .int), Cond.methodLink RL 165 yX3_count, Cond.instanceMethod yX3_count, Cond.selects RX3 yX3_count yX3_count, Cond.code yX3_count cX3_count 2 (some .int), Cond.methodLink RX3 223 yJ6_bitCount_0f7a4, Cond.static yJ6_bitCount_0f7a4, Cond.initialized RJ6, Cond.code yJ6_bitCount_0f7a4 cJ6_bitCount_0f7a4 1 (some .int), Cond.constant RJ6 265 (1431655765)]
def wsL_law_r40 : List Cond := [Cond.constant RJ6 266 (858993459), Cond.constant RJ6 267 (252645135), Cond.methodLink RX3 228 yX0_pairsAtOdds, Cond.instanceMethod yX0_pairsAtOdds, Cond.selects RX0 yX0_pairsAtOdds yX0_pairsAtOdds, Cond.code yX0_pairsAtOdds cX0_pairsAtOdds 3 (some .int), Cond.methodLink RX0 58 yJ6_bitCount_0f7a4, Cond.methodLink RL 168 yX4_count, Cond.instanceMethod yX4_count, Cond.selects RX4 yX4_count yX4_count, Cond.code yX4_count cX4_count 2 (some .int), Cond.methodLink RX4 333 yX4_pairs, Cond.instanceMethod yX4_pairs, Cond.selects RX4 yX4_pairs yX4_pairs, Cond.code yX4_pairs cX4_pairs 3 (some .int), Cond.methodLink RL 169 yX3_status, Cond.instanceMethod yX3_status, Cond.selects RX3 yX3_status yX3_status, Cond.code yX3_status cX3_status 4 (some .int), Cond.methodLink RL 172 yX4_status, Cond.instanceMethod yX4_status, Cond.selects RX4 yX4_status yX4_status, Cond.code yX4_status cX4_status 4 (some .int)]
def wsL_law : List Cond := (wsL_law_r1 ++ (wsL_law_r2 ++ (wsL_law_r3 ++ (wsL_law_r4 ++ (wsL_law_r5 ++ (wsL_law_r6 ++ (wsL_law_r7 ++ (wsL_law_r8 ++ (wsL_law_r9 ++ (wsL_law_r10 ++ (wsL_law_r11 ++ (wsL_law_r12 ++ (wsL_law_r13 ++ (wsL_law_r14 ++ (wsL_law_r15 ++ (wsL_law_r16 ++ (wsL_law_r17 ++ (wsL_law_r18 ++ (wsL_law_r19 ++ (wsL_law_r20 ++ (wsL_law_r21 ++ (wsL_law_r22 ++ (wsL_law_r23 ++ (wsL_law_r24 ++ (wsL_law_r25 ++ (wsL_law_r26 ++ (wsL_law_r27 ++ (wsL_law_r28 ++ (wsL_law_r29 ++ (wsL_law_r30 ++ (wsL_law_r31 ++ (wsL_law_r32 ++ (wsL_law_r33 ++ (wsL_law_r34 ++ (wsL_law_r35 ++ (wsL_law_r36 ++ (wsL_law_r37 ++ (wsL_law_r38 ++ (wsL_law_r39 ++ wsL_law_r40))))))))))))))))))))))))))))))))))))))) ++ wsX30 ++ wsX40 ++ wsX00 ++ wsX20 ++ wsX10 ++ ([] : List Cond)
theorem inlX0 : ∀ w ∈ wsX00, w ∈ wsL_law := fun _ h => List.mem_append_left _ (List.mem_append_left _ (List.mem_append_left _ (List.mem_append_right _ h)))
theorem inlX1 : ∀ w ∈ wsX10, w ∈ wsL_law := fun _ h => List.mem_append_left _ (List.mem_append_right _ h)
theorem inlX2 : ∀ w ∈ wsX20, w ∈ wsL_law := fun _ h => List.mem_append_left _ (List.mem_append_left _ (List.mem_append_right _ h))
theorem inlX3 : ∀ w ∈ wsX30, w ∈ wsL_law := fun _ h => List.mem_append_left _ (List.mem_append_left _ (List.mem_append_left _ (List.mem_append_left _ (List.mem_append_left _ (List.mem_append_right _ h)))))
theorem inlX4 : ∀ w ∈ wsX40, w ∈ wsL_law := fun _ h => List.mem_append_left _ (List.mem_append_left _ (List.mem_append_left _ (List.mem_append_left _ (List.mem_append_right _ h))))
abbrev vwCl : List vw_C := [(RX0, TX0, 11), (RX1, TX1, 3), (RX2, TX2, 7), (RX3, TX3, 8), (RX4, TX4, 19)]
end
section
theorem dX0_init_0 : decode cX0_init 0 = .ok (.aload_n 0, 1) := by decide +kernel
theorem dX0_init_1 : decode cX0_init 1 = .ok (.invokespecial 3, 3) := by decide +kernel
theorem dX0_init_4 : decode cX0_init 4 = .ok (.aload_n 0, 1) := by decide +kernel
theorem dX0_init_5 : decode cX0_init 5 = .ok (.bipush 8, 2) := by decide +kernel
theorem dX0_init_7 : decode cX0_init 7 = .ok (.newarray .int, 2) := by decide +kernel
theorem dX0_init_9 : decode cX0_init 9 = .ok (.putfield 9, 3) := by decide +kernel
theorem dX0_init_12 : decode cX0_init 12 = .ok (.aload_n 0, 1) := by decide +kernel
theorem dX0_init_13 : decode cX0_init 13 = .ok (.getfield 9, 3) := by decide +kernel
theorem dX0_init_16 : decode cX0_init 16 = .ok (.iconst 3, 1) := by decide +kernel
theorem dX0_init_17 : decode cX0_init 17 = .ok (.invokestatic 15, 3) := by decide +kernel
theorem dX0_init_20 : decode cX0_init 20 = .ok (.aload_n 0, 1) := by decide +kernel
theorem dX0_init_21 : decode cX0_init 21 = .ok (.getfield 9, 3) := by decide +kernel
theorem dX0_init_24 : decode cX0_init 24 = .ok (.iconst 0, 1) := by decide +kernel
theorem dX0_init_25 : decode cX0_init 25 = .ok (.bipush 15, 2) := by decide +kernel
theorem dX0_init_27 : decode cX0_init 27 = .ok (.iastore, 1) := by decide +kernel
theorem dX0_init_28 : decode cX0_init 28 = .ok (.aload_n 0, 1) := by decide +kernel
theorem dX0_init_29 : decode cX0_init 29 = .ok (.bipush 8, 2) := by decide +kernel
theorem dX0_init_31 : decode cX0_init 31 = .ok (.newarray .int, 2) := by decide +kernel
theorem dX0_init_33 : decode cX0_init 33 = .ok (.putfield 21, 3) := by decide +kernel
theorem dX0_init_36 : decode cX0_init 36 = .ok (.aload_n 0, 1) := by decide +kernel
theorem dX0_init_37 : decode cX0_init 37 = .ok (.getfield 21, 3) := by decide +kernel
theorem dX0_init_40 : decode cX0_init 40 = .ok (.iconst 1, 1) := by decide +kernel
theorem dX0_init_41 : decode cX0_init 41 = .ok (.invokestatic 15, 3) := by decide +kernel
theorem dX0_init_44 : decode cX0_init 44 = .ok (.aload_n 0, 1) := by decide +kernel
theorem dX0_init_45 : decode cX0_init 45 = .ok (.bipush 8, 2) := by decide +kernel
theorem dX0_init_47 : decode cX0_init 47 = .ok (.newarray .int, 2) := by decide +kernel
theorem dX0_init_49 : decode cX0_init 49 = .ok (.putfield 24, 3) := by decide +kernel
theorem dX0_init_52 : decode cX0_init 52 = .ok (.aload_n 0, 1) := by decide +kernel
theorem dX0_init_53 : decode cX0_init 53 = .ok (.getfield 24, 3) := by decide +kernel
theorem dX0_init_56 : decode cX0_init 56 = .ok (.iconst (-1), 1) := by decide +kernel
theorem dX0_init_57 : decode cX0_init 57 = .ok (.invokestatic 15, 3) := by decide +kernel
theorem dX0_init_60 : decode cX0_init 60 = .ok (.aload_n 0, 1) := by decide +kernel
theorem dX0_init_61 : decode cX0_init 61 = .ok (.bipush 8, 2) := by decide +kernel
theorem dX0_init_63 : decode cX0_init 63 = .ok (.newarray .int, 2) := by decide +kernel
theorem dX0_init_65 : decode cX0_init 65 = .ok (.putfield 27, 3) := by decide +kernel
theorem dX0_init_68 : decode cX0_init 68 = .ok (.aload_n 0, 1) := by decide +kernel
theorem dX0_init_69 : decode cX0_init 69 = .ok (.bipush 8, 2) := by decide +kernel
theorem dX0_init_71 : decode cX0_init 71 = .ok (.newarray .int, 2) := by decide +kernel
theorem dX0_init_73 : decode cX0_init 73 = .ok (.putfield 30, 3) := by decide +kernel
theorem dX0_init_76 : decode cX0_init 76 = .ok (.aload_n 0, 1) := by decide +kernel
theorem dX0_init_77 : decode cX0_init 77 = .ok (.bipush 8, 2) := by decide +kernel
theorem dX0_init_79 : decode cX0_init 79 = .ok (.newarray .int, 2) := by decide +kernel
theorem dX0_init_81 : decode cX0_init 81 = .ok (.putfield 33, 3) := by decide +kernel
theorem dX0_init_84 : decode cX0_init 84 = .ok (.aload_n 0, 1) := by decide +kernel
theorem dX0_init_85 : decode cX0_init 85 = .ok (.getfield 33, 3) := by decide +kernel
theorem dX0_init_88 : decode cX0_init 88 = .ok (.iconst (-1), 1) := by decide +kernel
theorem dX0_init_89 : decode cX0_init 89 = .ok (.invokestatic 15, 3) := by decide +kernel
theorem dX0_init_92 : decode cX0_init 92 = .ok (.aload_n 0, 1) := by decide +kernel
theorem dX0_init_93 : decode cX0_init 93 = .ok (.bipush 8, 2) := by decide +kernel
theorem dX0_init_95 : decode cX0_init 95 = .ok (.newarray .int, 2) := by decide +kernel
theorem dX0_init_97 : decode cX0_init 97 = .ok (.putfield 36, 3) := by decide +kernel
theorem dX0_init_100 : decode cX0_init 100 = .ok (.aload_n 0, 1) := by decide +kernel
theorem dX0_init_101 : decode cX0_init 101 = .ok (.bipush 8, 2) := by decide +kernel
theorem dX0_init_103 : decode cX0_init 103 = .ok (.newarray .int, 2) := by decide +kernel
theorem dX0_init_105 : decode cX0_init 105 = .ok (.putfield 39, 3) := by decide +kernel
theorem dX0_init_108 : decode cX0_init 108 = .ok (.aload_n 0, 1) := by decide +kernel
theorem dX0_init_109 : decode cX0_init 109 = .ok (.bipush 8, 2) := by decide +kernel
theorem dX0_init_111 : decode cX0_init 111 = .ok (.newarray .int, 2) := by decide +kernel
theorem dX0_init_113 : decode cX0_init 113 = .ok (.putfield 42, 3) := by decide +kernel
theorem dX0_init_116 : decode cX0_init 116 = .ok (.aload_n 0, 1) := by decide +kernel
theorem dX0_init_117 : decode cX0_init 117 = .ok (.getfield 42, 3) := by decide +kernel
theorem dX0_init_120 : decode cX0_init 120 = .ok (.iconst (-1), 1) := by decide +kernel
theorem dX0_init_121 : decode cX0_init 121 = .ok (.invokestatic 15, 3) := by decide +kernel
theorem dX0_init_124 : decode cX0_init 124 = .ok (.return_, 1) := by decide +kernel
theorem dX0_become_0 : decode cX0_become 0 = .ok (.aload_n 1, 1) := by decide +kernel
theorem dX0_become_1 : decode cX0_become 1 = .ok (.getfield 9, 3) := by decide +kernel
theorem dX0_become_4 : decode cX0_become 4 = .ok (.iconst 0, 1) := by decide +kernel
theorem dX0_become_5 : decode cX0_become 5 = .ok (.aload_n 0, 1) := by decide +kernel
theorem dX0_become_6 : decode cX0_become 6 = .ok (.getfield 9, 3) := by decide +kernel
theorem dX0_become_9 : decode cX0_become 9 = .ok (.iconst 0, 1) := by decide +kernel
theorem dX0_become_10 : decode cX0_become 10 = .ok (.bipush 8, 2) := by decide +kernel
theorem dX0_become_12 : decode cX0_become 12 = .ok (.invokestatic 45, 3) := by decide +kernel
theorem dX0_become_15 : decode cX0_become 15 = .ok (.aload_n 1, 1) := by decide +kernel
theorem dX0_become_16 : decode cX0_become 16 = .ok (.getfield 21, 3) := by decide +kernel
theorem dX0_become_19 : decode cX0_become 19 = .ok (.iconst 0, 1) := by decide +kernel
theorem dX0_become_20 : decode cX0_become 20 = .ok (.aload_n 0, 1) := by decide +kernel
theorem dX0_become_21 : decode cX0_become 21 = .ok (.getfield 21, 3) := by decide +kernel
theorem dX0_become_24 : decode cX0_become 24 = .ok (.iconst 0, 1) := by decide +kernel
theorem dX0_become_25 : decode cX0_become 25 = .ok (.bipush 8, 2) := by decide +kernel
theorem dX0_become_27 : decode cX0_become 27 = .ok (.invokestatic 45, 3) := by decide +kernel
theorem dX0_become_30 : decode cX0_become 30 = .ok (.aload_n 1, 1) := by decide +kernel
theorem dX0_become_31 : decode cX0_become 31 = .ok (.getfield 24, 3) := by decide +kernel
theorem dX0_become_34 : decode cX0_become 34 = .ok (.iconst 0, 1) := by decide +kernel
theorem dX0_become_35 : decode cX0_become 35 = .ok (.aload_n 0, 1) := by decide +kernel
theorem dX0_become_36 : decode cX0_become 36 = .ok (.getfield 24, 3) := by decide +kernel
theorem dX0_become_39 : decode cX0_become 39 = .ok (.iconst 0, 1) := by decide +kernel
theorem dX0_become_40 : decode cX0_become 40 = .ok (.bipush 8, 2) := by decide +kernel
theorem dX0_become_42 : decode cX0_become 42 = .ok (.invokestatic 45, 3) := by decide +kernel
theorem dX0_become_45 : decode cX0_become 45 = .ok (.aload_n 1, 1) := by decide +kernel
theorem dX0_become_46 : decode cX0_become 46 = .ok (.getfield 27, 3) := by decide +kernel
theorem dX0_become_49 : decode cX0_become 49 = .ok (.iconst 0, 1) := by decide +kernel
theorem dX0_become_50 : decode cX0_become 50 = .ok (.aload_n 0, 1) := by decide +kernel
theorem dX0_become_51 : decode cX0_become 51 = .ok (.getfield 27, 3) := by decide +kernel
theorem dX0_become_54 : decode cX0_become 54 = .ok (.iconst 0, 1) := by decide +kernel
theorem dX0_become_55 : decode cX0_become 55 = .ok (.bipush 8, 2) := by decide +kernel
theorem dX0_become_57 : decode cX0_become 57 = .ok (.invokestatic 45, 3) := by decide +kernel
theorem dX0_become_60 : decode cX0_become 60 = .ok (.aload_n 1, 1) := by decide +kernel
theorem dX0_become_61 : decode cX0_become 61 = .ok (.getfield 30, 3) := by decide +kernel
theorem dX0_become_64 : decode cX0_become 64 = .ok (.iconst 0, 1) := by decide +kernel
theorem dX0_become_65 : decode cX0_become 65 = .ok (.aload_n 0, 1) := by decide +kernel
theorem dX0_become_66 : decode cX0_become 66 = .ok (.getfield 30, 3) := by decide +kernel
theorem dX0_become_69 : decode cX0_become 69 = .ok (.iconst 0, 1) := by decide +kernel
theorem dX0_become_70 : decode cX0_become 70 = .ok (.bipush 8, 2) := by decide +kernel
theorem dX0_become_72 : decode cX0_become 72 = .ok (.invokestatic 45, 3) := by decide +kernel
theorem dX0_become_75 : decode cX0_become 75 = .ok (.aload_n 1, 1) := by decide +kernel
theorem dX0_become_76 : decode cX0_become 76 = .ok (.getfield 33, 3) := by decide +kernel
theorem dX0_become_79 : decode cX0_become 79 = .ok (.iconst 0, 1) := by decide +kernel
theorem dX0_become_80 : decode cX0_become 80 = .ok (.aload_n 0, 1) := by decide +kernel
theorem dX0_become_81 : decode cX0_become 81 = .ok (.getfield 33, 3) := by decide +kernel
theorem dX0_become_84 : decode cX0_become 84 = .ok (.iconst 0, 1) := by decide +kernel
theorem dX0_become_85 : decode cX0_become 85 = .ok (.bipush 8, 2) := by decide +kernel
theorem dX0_become_87 : decode cX0_become 87 = .ok (.invokestatic 45, 3) := by decide +kernel
theorem dX0_become_90 : decode cX0_become 90 = .ok (.aload_n 1, 1) := by decide +kernel
theorem dX0_become_91 : decode cX0_become 91 = .ok (.getfield 36, 3) := by decide +kernel
theorem dX0_become_94 : decode cX0_become 94 = .ok (.iconst 0, 1) := by decide +kernel
theorem dX0_become_95 : decode cX0_become 95 = .ok (.aload_n 0, 1) := by decide +kernel
theorem dX0_become_96 : decode cX0_become 96 = .ok (.getfield 36, 3) := by decide +kernel
theorem dX0_become_99 : decode cX0_become 99 = .ok (.iconst 0, 1) := by decide +kernel
theorem dX0_become_100 : decode cX0_become 100 = .ok (.bipush 8, 2) := by decide +kernel
theorem dX0_become_102 : decode cX0_become 102 = .ok (.invokestatic 45, 3) := by decide +kernel
theorem dX0_become_105 : decode cX0_become 105 = .ok (.aload_n 1, 1) := by decide +kernel
theorem dX0_become_106 : decode cX0_become 106 = .ok (.getfield 39, 3) := by decide +kernel
theorem dX0_become_109 : decode cX0_become 109 = .ok (.iconst 0, 1) := by decide +kernel
theorem dX0_become_110 : decode cX0_become 110 = .ok (.aload_n 0, 1) := by decide +kernel
theorem dX0_become_111 : decode cX0_become 111 = .ok (.getfield 39, 3) := by decide +kernel
theorem dX0_become_114 : decode cX0_become 114 = .ok (.iconst 0, 1) := by decide +kernel
theorem dX0_become_115 : decode cX0_become 115 = .ok (.bipush 8, 2) := by decide +kernel
theorem dX0_become_117 : decode cX0_become 117 = .ok (.invokestatic 45, 3) := by decide +kernel
theorem dX0_become_120 : decode cX0_become 120 = .ok (.aload_n 1, 1) := by decide +kernel
theorem dX0_become_121 : decode cX0_become 121 = .ok (.getfield 42, 3) := by decide +kernel
theorem dX0_become_124 : decode cX0_become 124 = .ok (.iconst 0, 1) := by decide +kernel
theorem dX0_become_125 : decode cX0_become 125 = .ok (.aload_n 0, 1) := by decide +kernel
theorem dX0_become_126 : decode cX0_become 126 = .ok (.getfield 42, 3) := by decide +kernel
theorem dX0_become_129 : decode cX0_become 129 = .ok (.iconst 0, 1) := by decide +kernel
theorem dX0_become_130 : decode cX0_become 130 = .ok (.bipush 8, 2) := by decide +kernel
theorem dX0_become_132 : decode cX0_become 132 = .ok (.invokestatic 45, 3) := by decide +kernel
theorem dX0_become_135 : decode cX0_become 135 = .ok (.aload_n 0, 1) := by decide +kernel
theorem dX0_become_136 : decode cX0_become 136 = .ok (.aload_n 1, 1) := by decide +kernel
theorem dX0_become_137 : decode cX0_become 137 = .ok (.getfield 51, 3) := by decide +kernel
theorem dX0_become_140 : decode cX0_become 140 = .ok (.putfield 51, 3) := by decide +kernel
theorem dX0_become_143 : decode cX0_become 143 = .ok (.aload_n 0, 1) := by decide +kernel
theorem dX0_become_144 : decode cX0_become 144 = .ok (.aload_n 1, 1) := by decide +kernel
theorem dX0_become_145 : decode cX0_become 145 = .ok (.getfield 55, 3) := by decide +kernel
theorem dX0_become_148 : decode cX0_become 148 = .ok (.putfield 55, 3) := by decide +kernel
theorem dX0_become_151 : decode cX0_become 151 = .ok (.return_, 1) := by decide +kernel
theorem dX0_enter_0 : decode cX0_enter 0 = .ok (.aload_n 0, 1) := by decide +kernel
theorem dX0_enter_1 : decode cX0_enter 1 = .ok (.getfield 51, 3) := by decide +kernel
theorem dX0_enter_4 : decode cX0_enter 4 = .ok (.istore_n 2, 1) := by decide +kernel
theorem dX0_enter_5 : decode cX0_enter 5 = .ok (.aload_n 0, 1) := by decide +kernel
theorem dX0_enter_6 : decode cX0_enter 6 = .ok (.dup, 1) := by decide +kernel
theorem dX0_enter_7 : decode cX0_enter 7 = .ok (.getfield 51, 3) := by decide +kernel
theorem dX0_enter_10 : decode cX0_enter 10 = .ok (.iconst 1, 1) := by decide +kernel
theorem dX0_enter_11 : decode cX0_enter 11 = .ok (.iadd, 1) := by decide +kernel
theorem dX0_enter_12 : decode cX0_enter 12 = .ok (.putfield 51, 3) := by decide +kernel
theorem dX0_enter_15 : decode cX0_enter 15 = .ok (.aload_n 0, 1) := by decide +kernel
theorem dX0_enter_16 : decode cX0_enter 16 = .ok (.getfield 27, 3) := by decide +kernel
theorem dX0_enter_19 : decode cX0_enter 19 = .ok (.iload_n 2, 1) := by decide +kernel
theorem dX0_enter_20 : decode cX0_enter 20 = .ok (.iload_n 1, 1) := by decide +kernel
theorem dX0_enter_21 : decode cX0_enter 21 = .ok (.iastore, 1) := by decide +kernel
theorem dX0_enter_22 : decode cX0_enter 22 = .ok (.iload_n 2, 1) := by decide +kernel
theorem dX0_enter_23 : decode cX0_enter 23 = .ok (.ireturn, 1) := by decide +kernel
theorem dX0_areAtOdds_0 : decode cX0_areAtOdds 0 = .ok (.aload_n 0, 1) := by decide +kernel
theorem dX0_areAtOdds_1 : decode cX0_areAtOdds 1 = .ok (.getfield 36, 3) := by decide +kernel
theorem dX0_areAtOdds_4 : decode cX0_areAtOdds 4 = .ok (.iload_n 1, 1) := by decide +kernel
theorem dX0_areAtOdds_5 : decode cX0_areAtOdds 5 = .ok (.iaload, 1) := by decide +kernel
theorem dX0_areAtOdds_6 : decode cX0_areAtOdds 6 = .ok (.iload_n 2, 1) := by decide +kernel
theorem dX0_areAtOdds_7 : decode cX0_areAtOdds 7 = .ok (.ishr, 1) := by decide +kernel
theorem dX0_areAtOdds_8 : decode cX0_areAtOdds 8 = .ok (.iconst 1, 1) := by decide +kernel
theorem dX0_areAtOdds_9 : decode cX0_areAtOdds 9 = .ok (.iand, 1) := by decide +kernel
theorem dX0_areAtOdds_10 : decode cX0_areAtOdds 10 = .ok (.iconst 1, 1) := by decide +kernel
theorem dX0_areAtOdds_11 : decode cX0_areAtOdds 11 = .ok (.if_icmp .ne 7, 3) := by decide +kernel
theorem dX0_areAtOdds_14 : decode cX0_areAtOdds 14 = .ok (.iconst 1, 1) := by decide +kernel
theorem dX0_areAtOdds_15 : decode cX0_areAtOdds 15 = .ok (.goto 4, 3) := by decide +kernel
theorem dX0_areAtOdds_18 : decode cX0_areAtOdds 18 = .ok (.iconst 0, 1) := by decide +kernel
theorem dX0_areAtOdds_19 : decode cX0_areAtOdds 19 = .ok (.ireturn, 1) := by decide +kernel
theorem dX0_putAtOdds_0 : decode cX0_putAtOdds 0 = .ok (.iload_n 3, 1) := by decide +kernel
theorem dX0_putAtOdds_1 : decode cX0_putAtOdds 1 = .ok (.ifCond .eq 30, 3) := by decide +kernel
theorem dX0_putAtOdds_4 : decode cX0_putAtOdds 4 = .ok (.aload_n 0, 1) := by decide +kernel
theorem dX0_putAtOdds_5 : decode cX0_putAtOdds 5 = .ok (.getfield 36, 3) := by decide +kernel
theorem dX0_putAtOdds_8 : decode cX0_putAtOdds 8 = .ok (.iload_n 1, 1) := by decide +kernel
theorem dX0_putAtOdds_9 : decode cX0_putAtOdds 9 = .ok (.dup2, 1) := by decide +kernel
theorem dX0_putAtOdds_10 : decode cX0_putAtOdds 10 = .ok (.iaload, 1) := by decide +kernel
theorem dX0_putAtOdds_11 : decode cX0_putAtOdds 11 = .ok (.iconst 1, 1) := by decide +kernel
theorem dX0_putAtOdds_12 : decode cX0_putAtOdds 12 = .ok (.iload_n 2, 1) := by decide +kernel
theorem dX0_putAtOdds_13 : decode cX0_putAtOdds 13 = .ok (.ishl, 1) := by decide +kernel
theorem dX0_putAtOdds_14 : decode cX0_putAtOdds 14 = .ok (.ior, 1) := by decide +kernel
theorem dX0_putAtOdds_15 : decode cX0_putAtOdds 15 = .ok (.iastore, 1) := by decide +kernel
theorem dX0_putAtOdds_16 : decode cX0_putAtOdds 16 = .ok (.aload_n 0, 1) := by decide +kernel
theorem dX0_putAtOdds_17 : decode cX0_putAtOdds 17 = .ok (.getfield 36, 3) := by decide +kernel
theorem dX0_putAtOdds_20 : decode cX0_putAtOdds 20 = .ok (.iload_n 2, 1) := by decide +kernel
theorem dX0_putAtOdds_21 : decode cX0_putAtOdds 21 = .ok (.dup2, 1) := by decide +kernel
theorem dX0_putAtOdds_22 : decode cX0_putAtOdds 22 = .ok (.iaload, 1) := by decide +kernel
theorem dX0_putAtOdds_23 : decode cX0_putAtOdds 23 = .ok (.iconst 1, 1) := by decide +kernel
theorem dX0_putAtOdds_24 : decode cX0_putAtOdds 24 = .ok (.iload_n 1, 1) := by decide +kernel
theorem dX0_putAtOdds_25 : decode cX0_putAtOdds 25 = .ok (.ishl, 1) := by decide +kernel
theorem dX0_putAtOdds_26 : decode cX0_putAtOdds 26 = .ok (.ior, 1) := by decide +kernel
theorem dX0_putAtOdds_27 : decode cX0_putAtOdds 27 = .ok (.iastore, 1) := by decide +kernel
theorem dX0_putAtOdds_28 : decode cX0_putAtOdds 28 = .ok (.goto 31, 3) := by decide +kernel
theorem dX0_putAtOdds_31 : decode cX0_putAtOdds 31 = .ok (.aload_n 0, 1) := by decide +kernel
theorem dX0_putAtOdds_32 : decode cX0_putAtOdds 32 = .ok (.getfield 36, 3) := by decide +kernel
theorem dX0_putAtOdds_35 : decode cX0_putAtOdds 35 = .ok (.iload_n 1, 1) := by decide +kernel
theorem dX0_putAtOdds_36 : decode cX0_putAtOdds 36 = .ok (.dup2, 1) := by decide +kernel
theorem dX0_putAtOdds_37 : decode cX0_putAtOdds 37 = .ok (.iaload, 1) := by decide +kernel
theorem dX0_putAtOdds_38 : decode cX0_putAtOdds 38 = .ok (.iconst 1, 1) := by decide +kernel
theorem dX0_putAtOdds_39 : decode cX0_putAtOdds 39 = .ok (.iload_n 2, 1) := by decide +kernel
theorem dX0_putAtOdds_40 : decode cX0_putAtOdds 40 = .ok (.ishl, 1) := by decide +kernel
theorem dX0_putAtOdds_41 : decode cX0_putAtOdds 41 = .ok (.iconst (-1), 1) := by decide +kernel
theorem dX0_putAtOdds_42 : decode cX0_putAtOdds 42 = .ok (.ixor, 1) := by decide +kernel
theorem dX0_putAtOdds_43 : decode cX0_putAtOdds 43 = .ok (.iand, 1) := by decide +kernel
theorem dX0_putAtOdds_44 : decode cX0_putAtOdds 44 = .ok (.iastore, 1) := by decide +kernel
theorem dX0_putAtOdds_45 : decode cX0_putAtOdds 45 = .ok (.aload_n 0, 1) := by decide +kernel
theorem dX0_putAtOdds_46 : decode cX0_putAtOdds 46 = .ok (.getfield 36, 3) := by decide +kernel
theorem dX0_putAtOdds_49 : decode cX0_putAtOdds 49 = .ok (.iload_n 2, 1) := by decide +kernel
theorem dX0_putAtOdds_50 : decode cX0_putAtOdds 50 = .ok (.dup2, 1) := by decide +kernel
theorem dX0_putAtOdds_51 : decode cX0_putAtOdds 51 = .ok (.iaload, 1) := by decide +kernel
theorem dX0_putAtOdds_52 : decode cX0_putAtOdds 52 = .ok (.iconst 1, 1) := by decide +kernel
theorem dX0_putAtOdds_53 : decode cX0_putAtOdds 53 = .ok (.iload_n 1, 1) := by decide +kernel
theorem dX0_putAtOdds_54 : decode cX0_putAtOdds 54 = .ok (.ishl, 1) := by decide +kernel
theorem dX0_putAtOdds_55 : decode cX0_putAtOdds 55 = .ok (.iconst (-1), 1) := by decide +kernel
theorem dX0_putAtOdds_56 : decode cX0_putAtOdds 56 = .ok (.ixor, 1) := by decide +kernel
theorem dX0_putAtOdds_57 : decode cX0_putAtOdds 57 = .ok (.iand, 1) := by decide +kernel
theorem dX0_putAtOdds_58 : decode cX0_putAtOdds 58 = .ok (.iastore, 1) := by decide +kernel
theorem dX0_putAtOdds_59 : decode cX0_putAtOdds 59 = .ok (.return_, 1) := by decide +kernel
theorem dX0_pairsAtOdds_0 : decode cX0_pairsAtOdds 0 = .ok (.iconst 0, 1) := by decide +kernel
theorem dX0_pairsAtOdds_1 : decode cX0_pairsAtOdds 1 = .ok (.istore_n 1, 1) := by decide +kernel
theorem dX0_pairsAtOdds_2 : decode cX0_pairsAtOdds 2 = .ok (.iconst 0, 1) := by decide +kernel
theorem dX0_pairsAtOdds_3 : decode cX0_pairsAtOdds 3 = .ok (.istore_n 2, 1) := by decide +kernel
theorem dX0_pairsAtOdds_4 : decode cX0_pairsAtOdds 4 = .ok (.iload_n 2, 1) := by decide +kernel
theorem dX0_pairsAtOdds_5 : decode cX0_pairsAtOdds 5 = .ok (.aload_n 0, 1) := by decide +kernel
theorem dX0_pairsAtOdds_6 : decode cX0_pairsAtOdds 6 = .ok (.getfield 51, 3) := by decide +kernel
theorem dX0_pairsAtOdds_9 : decode cX0_pairsAtOdds 9 = .ok (.if_icmp .ge 21, 3) := by decide +kernel
theorem dX0_pairsAtOdds_12 : decode cX0_pairsAtOdds 12 = .ok (.iload_n 1, 1) := by decide +kernel
theorem dX0_pairsAtOdds_13 : decode cX0_pairsAtOdds 13 = .ok (.aload_n 0, 1) := by decide +kernel
theorem dX0_pairsAtOdds_14 : decode cX0_pairsAtOdds 14 = .ok (.getfield 36, 3) := by decide +kernel
theorem dX0_pairsAtOdds_17 : decode cX0_pairsAtOdds 17 = .ok (.iload_n 2, 1) := by decide +kernel
theorem dX0_pairsAtOdds_18 : decode cX0_pairsAtOdds 18 = .ok (.iaload, 1) := by decide +kernel
theorem dX0_pairsAtOdds_19 : decode cX0_pairsAtOdds 19 = .ok (.invokestatic 58, 3) := by decide +kernel
theorem dX0_pairsAtOdds_22 : decode cX0_pairsAtOdds 22 = .ok (.iadd, 1) := by decide +kernel
theorem dX0_pairsAtOdds_23 : decode cX0_pairsAtOdds 23 = .ok (.istore_n 1, 1) := by decide +kernel
theorem dX0_pairsAtOdds_24 : decode cX0_pairsAtOdds 24 = .ok (.iinc 2 1, 3) := by decide +kernel
theorem dX0_pairsAtOdds_27 : decode cX0_pairsAtOdds 27 = .ok (.goto (-23), 3) := by decide +kernel
theorem dX0_pairsAtOdds_30 : decode cX0_pairsAtOdds 30 = .ok (.iload_n 1, 1) := by decide +kernel
theorem dX0_pairsAtOdds_31 : decode cX0_pairsAtOdds 31 = .ok (.iconst 2, 1) := by decide +kernel
theorem dX0_pairsAtOdds_32 : decode cX0_pairsAtOdds 32 = .ok (.idiv, 1) := by decide +kernel
theorem dX0_pairsAtOdds_33 : decode cX0_pairsAtOdds 33 = .ok (.ireturn, 1) := by decide +kernel
theorem dX0_seat_0 : decode cX0_seat 0 = .ok (.aload_n 0, 1) := by decide +kernel
theorem dX0_seat_1 : decode cX0_seat 1 = .ok (.getfield 42, 3) := by decide +kernel
theorem dX0_seat_4 : decode cX0_seat 4 = .ok (.iload_n 1, 1) := by decide +kernel
theorem dX0_seat_5 : decode cX0_seat 5 = .ok (.iaload, 1) := by decide +kernel
theorem dX0_seat_6 : decode cX0_seat 6 = .ok (.ifCond .lt 15, 3) := by decide +kernel
theorem dX0_seat_9 : decode cX0_seat 9 = .ok (.aload_n 0, 1) := by decide +kernel
theorem dX0_seat_10 : decode cX0_seat 10 = .ok (.getfield 24, 3) := by decide +kernel
theorem dX0_seat_13 : decode cX0_seat 13 = .ok (.aload_n 0, 1) := by decide +kernel
theorem dX0_seat_14 : decode cX0_seat 14 = .ok (.getfield 42, 3) := by decide +kernel
theorem dX0_seat_17 : decode cX0_seat 17 = .ok (.iload_n 1, 1) := by decide +kernel
theorem dX0_seat_18 : decode cX0_seat 18 = .ok (.iaload, 1) := by decide +kernel
theorem dX0_seat_19 : decode cX0_seat 19 = .ok (.iconst (-1), 1) := by decide +kernel
theorem dX0_seat_20 : decode cX0_seat 20 = .ok (.iastore, 1) := by decide +kernel
theorem dX0_seat_21 : decode cX0_seat 21 = .ok (.aload_n 0, 1) := by decide +kernel
theorem dX0_seat_22 : decode cX0_seat 22 = .ok (.getfield 42, 3) := by decide +kernel
theorem dX0_seat_25 : decode cX0_seat 25 = .ok (.iload_n 1, 1) := by decide +kernel
theorem dX0_seat_26 : decode cX0_seat 26 = .ok (.iload_n 2, 1) := by decide +kernel
theorem dX0_seat_27 : decode cX0_seat 27 = .ok (.iastore, 1) := by decide +kernel
theorem dX0_seat_28 : decode cX0_seat 28 = .ok (.iload_n 2, 1) := by decide +kernel
theorem dX0_seat_29 : decode cX0_seat 29 = .ok (.ifCond .lt 10, 3) := by decide +kernel
theorem dX0_seat_32 : decode cX0_seat 32 = .ok (.aload_n 0, 1) := by decide +kernel
theorem dX0_seat_33 : decode cX0_seat 33 = .ok (.getfield 24, 3) := by decide +kernel
theorem dX0_seat_36 : decode cX0_seat 36 = .ok (.iload_n 2, 1) := by decide +kernel
theorem dX0_seat_37 : decode cX0_seat 37 = .ok (.iload_n 1, 1) := by decide +kernel
theorem dX0_seat_38 : decode cX0_seat 38 = .ok (.iastore, 1) := by decide +kernel
theorem dX0_seat_39 : decode cX0_seat 39 = .ok (.return_, 1) := by decide +kernel
theorem dX0_swap_0 : decode cX0_swap 0 = .ok (.aload_n 0, 1) := by decide +kernel
theorem dX0_swap_1 : decode cX0_swap 1 = .ok (.getfield 42, 3) := by decide +kernel
theorem dX0_swap_4 : decode cX0_swap 4 = .ok (.iload_n 1, 1) := by decide +kernel
theorem dX0_swap_5 : decode cX0_swap 5 = .ok (.iaload, 1) := by decide +kernel
theorem dX0_swap_6 : decode cX0_swap 6 = .ok (.istore_n 3, 1) := by decide +kernel
theorem dX0_swap_7 : decode cX0_swap 7 = .ok (.aload_n 0, 1) := by decide +kernel
theorem dX0_swap_8 : decode cX0_swap 8 = .ok (.getfield 42, 3) := by decide +kernel
theorem dX0_swap_11 : decode cX0_swap 11 = .ok (.iload_n 2, 1) := by decide +kernel
theorem dX0_swap_12 : decode cX0_swap 12 = .ok (.iaload, 1) := by decide +kernel
theorem dX0_swap_13 : decode cX0_swap 13 = .ok (.istore 4, 2) := by decide +kernel
theorem dX0_swap_15 : decode cX0_swap 15 = .ok (.aload_n 0, 1) := by decide +kernel
theorem dX0_swap_16 : decode cX0_swap 16 = .ok (.getfield 42, 3) := by decide +kernel
theorem dX0_swap_19 : decode cX0_swap 19 = .ok (.iload_n 1, 1) := by decide +kernel
theorem dX0_swap_20 : decode cX0_swap 20 = .ok (.iload 4, 2) := by decide +kernel
theorem dX0_swap_22 : decode cX0_swap 22 = .ok (.iastore, 1) := by decide +kernel
theorem dX0_swap_23 : decode cX0_swap 23 = .ok (.aload_n 0, 1) := by decide +kernel
theorem dX0_swap_24 : decode cX0_swap 24 = .ok (.getfield 42, 3) := by decide +kernel
theorem dX0_swap_27 : decode cX0_swap 27 = .ok (.iload_n 2, 1) := by decide +kernel
theorem dX0_swap_28 : decode cX0_swap 28 = .ok (.iload_n 3, 1) := by decide +kernel
theorem dX0_swap_29 : decode cX0_swap 29 = .ok (.iastore, 1) := by decide +kernel
theorem dX0_swap_30 : decode cX0_swap 30 = .ok (.iload 4, 2) := by decide +kernel
theorem dX0_swap_32 : decode cX0_swap 32 = .ok (.ifCond .lt 11, 3) := by decide +kernel
theorem dX0_swap_35 : decode cX0_swap 35 = .ok (.aload_n 0, 1) := by decide +kernel
theorem dX0_swap_36 : decode cX0_swap 36 = .ok (.getfield 24, 3) := by decide +kernel
theorem dX0_swap_39 : decode cX0_swap 39 = .ok (.iload 4, 2) := by decide +kernel
theorem dX0_swap_41 : decode cX0_swap 41 = .ok (.iload_n 1, 1) := by decide +kernel
theorem dX0_swap_42 : decode cX0_swap 42 = .ok (.iastore, 1) := by decide +kernel
theorem dX0_swap_43 : decode cX0_swap 43 = .ok (.iload_n 3, 1) := by decide +kernel
theorem dX0_swap_44 : decode cX0_swap 44 = .ok (.ifCond .lt 10, 3) := by decide +kernel
theorem dX0_swap_47 : decode cX0_swap 47 = .ok (.aload_n 0, 1) := by decide +kernel
theorem dX0_swap_48 : decode cX0_swap 48 = .ok (.getfield 24, 3) := by decide +kernel
theorem dX0_swap_51 : decode cX0_swap 51 = .ok (.iload_n 3, 1) := by decide +kernel
theorem dX0_swap_52 : decode cX0_swap 52 = .ok (.iload_n 2, 1) := by decide +kernel
theorem dX0_swap_53 : decode cX0_swap 53 = .ok (.iastore, 1) := by decide +kernel
theorem dX0_swap_54 : decode cX0_swap 54 = .ok (.return_, 1) := by decide +kernel
theorem dX0_isFreeFor_0 : decode cX0_isFreeFor 0 = .ok (.iload_n 2, 1) := by decide +kernel
theorem dX0_isFreeFor_1 : decode cX0_isFreeFor 1 = .ok (.invokestatic 64, 3) := by decide +kernel
theorem dX0_isFreeFor_4 : decode cX0_isFreeFor 4 = .ok (.ifCond .eq 27, 3) := by decide +kernel
theorem dX0_isFreeFor_7 : decode cX0_isFreeFor 7 = .ok (.aload_n 0, 1) := by decide +kernel
theorem dX0_isFreeFor_8 : decode cX0_isFreeFor 8 = .ok (.getfield 24, 3) := by decide +kernel
theorem dX0_isFreeFor_11 : decode cX0_isFreeFor 11 = .ok (.iload_n 2, 1) := by decide +kernel
theorem dX0_isFreeFor_12 : decode cX0_isFreeFor 12 = .ok (.iaload, 1) := by decide +kernel
theorem dX0_isFreeFor_13 : decode cX0_isFreeFor 13 = .ok (.iconst (-1), 1) := by decide +kernel
theorem dX0_isFreeFor_14 : decode cX0_isFreeFor 14 = .ok (.if_icmp .eq 13, 3) := by decide +kernel
theorem dX0_isFreeFor_17 : decode cX0_isFreeFor 17 = .ok (.aload_n 0, 1) := by decide +kernel
theorem dX0_isFreeFor_18 : decode cX0_isFreeFor 18 = .ok (.getfield 24, 3) := by decide +kernel
theorem dX0_isFreeFor_21 : decode cX0_isFreeFor 21 = .ok (.iload_n 2, 1) := by decide +kernel
theorem dX0_isFreeFor_22 : decode cX0_isFreeFor 22 = .ok (.iaload, 1) := by decide +kernel
theorem dX0_isFreeFor_23 : decode cX0_isFreeFor 23 = .ok (.iload_n 1, 1) := by decide +kernel
theorem dX0_isFreeFor_24 : decode cX0_isFreeFor 24 = .ok (.if_icmp .ne 7, 3) := by decide +kernel
theorem dX0_isFreeFor_27 : decode cX0_isFreeFor 27 = .ok (.iconst 1, 1) := by decide +kernel
theorem dX0_isFreeFor_28 : decode cX0_isFreeFor 28 = .ok (.goto 4, 3) := by decide +kernel
theorem dX0_isFreeFor_31 : decode cX0_isFreeFor 31 = .ok (.iconst 0, 1) := by decide +kernel
theorem dX0_isFreeFor_32 : decode cX0_isFreeFor 32 = .ok (.ireturn, 1) := by decide +kernel
theorem dX0_whoSits_0 : decode cX0_whoSits 0 = .ok (.iconst 0, 1) := by decide +kernel
theorem dX0_whoSits_1 : decode cX0_whoSits 1 = .ok (.istore_n 1, 1) := by decide +kernel
theorem dX0_whoSits_2 : decode cX0_whoSits 2 = .ok (.iconst 0, 1) := by decide +kernel
theorem dX0_whoSits_3 : decode cX0_whoSits 3 = .ok (.istore_n 2, 1) := by decide +kernel
theorem dX0_whoSits_4 : decode cX0_whoSits 4 = .ok (.iload_n 2, 1) := by decide +kernel
theorem dX0_whoSits_5 : decode cX0_whoSits 5 = .ok (.aload_n 0, 1) := by decide +kernel
theorem dX0_whoSits_6 : decode cX0_whoSits 6 = .ok (.getfield 51, 3) := by decide +kernel
theorem dX0_whoSits_9 : decode cX0_whoSits 9 = .ok (.if_icmp .ge 24, 3) := by decide +kernel
theorem dX0_whoSits_12 : decode cX0_whoSits 12 = .ok (.aload_n 0, 1) := by decide +kernel
theorem dX0_whoSits_13 : decode cX0_whoSits 13 = .ok (.getfield 42, 3) := by decide +kernel
theorem dX0_whoSits_16 : decode cX0_whoSits 16 = .ok (.iload_n 2, 1) := by decide +kernel
theorem dX0_whoSits_17 : decode cX0_whoSits 17 = .ok (.iaload, 1) := by decide +kernel
theorem dX0_whoSits_18 : decode cX0_whoSits 18 = .ok (.ifCond .lt 9, 3) := by decide +kernel
theorem dX0_whoSits_21 : decode cX0_whoSits 21 = .ok (.iload_n 1, 1) := by decide +kernel
theorem dX0_whoSits_22 : decode cX0_whoSits 22 = .ok (.iconst 1, 1) := by decide +kernel
theorem dX0_whoSits_23 : decode cX0_whoSits 23 = .ok (.iload_n 2, 1) := by decide +kernel
theorem dX0_whoSits_24 : decode cX0_whoSits 24 = .ok (.ishl, 1) := by decide +kernel
theorem dX0_whoSits_25 : decode cX0_whoSits 25 = .ok (.ior, 1) := by decide +kernel
theorem dX0_whoSits_26 : decode cX0_whoSits 26 = .ok (.istore_n 1, 1) := by decide +kernel
theorem dX0_whoSits_27 : decode cX0_whoSits 27 = .ok (.iinc 2 1, 3) := by decide +kernel
theorem dX0_whoSits_30 : decode cX0_whoSits 30 = .ok (.goto (-26), 3) := by decide +kernel
theorem dX0_whoSits_33 : decode cX0_whoSits 33 = .ok (.iload_n 1, 1) := by decide +kernel
theorem dX0_whoSits_34 : decode cX0_whoSits 34 = .ok (.ireturn, 1) := by decide +kernel
theorem dX0_emptyChairs_0 : decode cX0_emptyChairs 0 = .ok (.iconst 0, 1) := by decide +kernel
theorem dX0_emptyChairs_1 : decode cX0_emptyChairs 1 = .ok (.istore_n 1, 1) := by decide +kernel
theorem dX0_emptyChairs_2 : decode cX0_emptyChairs 2 = .ok (.iconst 0, 1) := by decide +kernel
theorem dX0_emptyChairs_3 : decode cX0_emptyChairs 3 = .ok (.istore_n 2, 1) := by decide +kernel
theorem dX0_emptyChairs_4 : decode cX0_emptyChairs 4 = .ok (.iload_n 2, 1) := by decide +kernel
theorem dX0_emptyChairs_5 : decode cX0_emptyChairs 5 = .ok (.bipush 8, 2) := by decide +kernel
theorem dX0_emptyChairs_7 : decode cX0_emptyChairs 7 = .ok (.if_icmp .ge 25, 3) := by decide +kernel
theorem dX0_emptyChairs_10 : decode cX0_emptyChairs 10 = .ok (.aload_n 0, 1) := by decide +kernel
theorem dX0_emptyChairs_11 : decode cX0_emptyChairs 11 = .ok (.getfield 24, 3) := by decide +kernel
theorem dX0_emptyChairs_14 : decode cX0_emptyChairs 14 = .ok (.iload_n 2, 1) := by decide +kernel
theorem dX0_emptyChairs_15 : decode cX0_emptyChairs 15 = .ok (.iaload, 1) := by decide +kernel
theorem dX0_emptyChairs_16 : decode cX0_emptyChairs 16 = .ok (.iconst (-1), 1) := by decide +kernel
theorem dX0_emptyChairs_17 : decode cX0_emptyChairs 17 = .ok (.if_icmp .ne 9, 3) := by decide +kernel
theorem dX0_emptyChairs_20 : decode cX0_emptyChairs 20 = .ok (.iload_n 1, 1) := by decide +kernel
theorem dX0_emptyChairs_21 : decode cX0_emptyChairs 21 = .ok (.iconst 1, 1) := by decide +kernel
theorem dX0_emptyChairs_22 : decode cX0_emptyChairs 22 = .ok (.iload_n 2, 1) := by decide +kernel
theorem dX0_emptyChairs_23 : decode cX0_emptyChairs 23 = .ok (.ishl, 1) := by decide +kernel
theorem dX0_emptyChairs_24 : decode cX0_emptyChairs 24 = .ok (.ior, 1) := by decide +kernel
theorem dX0_emptyChairs_25 : decode cX0_emptyChairs 25 = .ok (.istore_n 1, 1) := by decide +kernel
theorem dX0_emptyChairs_26 : decode cX0_emptyChairs 26 = .ok (.iinc 2 1, 3) := by decide +kernel
theorem dX0_emptyChairs_29 : decode cX0_emptyChairs 29 = .ok (.goto (-25), 3) := by decide +kernel
theorem dX0_emptyChairs_32 : decode cX0_emptyChairs 32 = .ok (.iload_n 1, 1) := by decide +kernel
theorem dX0_emptyChairs_33 : decode cX0_emptyChairs 33 = .ok (.ireturn, 1) := by decide +kernel
theorem dX0_hasSun_0 : decode cX0_hasSun 0 = .ok (.aload_n 0, 1) := by decide +kernel
theorem dX0_hasSun_1 : decode cX0_hasSun 1 = .ok (.getfield 55, 3) := by decide +kernel
theorem dX0_hasSun_4 : decode cX0_hasSun 4 = .ok (.bipush 24, 2) := by decide +kernel
theorem dX0_hasSun_6 : decode cX0_hasSun 6 = .ok (.irem, 1) := by decide +kernel
theorem dX0_hasSun_7 : decode cX0_hasSun 7 = .ok (.istore_n 1, 1) := by decide +kernel
theorem dX0_hasSun_8 : decode cX0_hasSun 8 = .ok (.iload_n 1, 1) := by decide +kernel
theorem dX0_hasSun_9 : decode cX0_hasSun 9 = .ok (.bipush 10, 2) := by decide +kernel
theorem dX0_hasSun_11 : decode cX0_hasSun 11 = .ok (.if_icmp .lt 13, 3) := by decide +kernel
theorem dX0_hasSun_14 : decode cX0_hasSun 14 = .ok (.iload_n 1, 1) := by decide +kernel
theorem dX0_hasSun_15 : decode cX0_hasSun 15 = .ok (.bipush 14, 2) := by decide +kernel
theorem dX0_hasSun_17 : decode cX0_hasSun 17 = .ok (.if_icmp .gt 7, 3) := by decide +kernel
theorem dX0_hasSun_20 : decode cX0_hasSun 20 = .ok (.iconst 1, 1) := by decide +kernel
theorem dX0_hasSun_21 : decode cX0_hasSun 21 = .ok (.goto 4, 3) := by decide +kernel
theorem dX0_hasSun_24 : decode cX0_hasSun 24 = .ok (.iconst 0, 1) := by decide +kernel
theorem dX0_hasSun_25 : decode cX0_hasSun 25 = .ok (.ireturn, 1) := by decide +kernel
theorem dX0_likes_0 : decode cX0_likes 0 = .ok (.aload_n 0, 1) := by decide +kernel
theorem dX0_likes_1 : decode cX0_likes 1 = .ok (.getfield 27, 3) := by decide +kernel
theorem dX0_likes_4 : decode cX0_likes 4 = .ok (.iload_n 1, 1) := by decide +kernel
theorem dX0_likes_5 : decode cX0_likes 5 = .ok (.iaload, 1) := by decide +kernel
theorem dX0_likes_6 : decode cX0_likes 6 = .ok (.istore_n 3, 1) := by decide +kernel
theorem dX0_likes_7 : decode cX0_likes 7 = .ok (.iload_n 3, 1) := by decide +kernel
theorem dX0_likes_8 : decode cX0_likes 8 = .ok (.iconst 3, 1) := by decide +kernel
theorem dX0_likes_9 : decode cX0_likes 9 = .ok (.if_icmp .eq 8, 3) := by decide +kernel
theorem dX0_likes_12 : decode cX0_likes 12 = .ok (.iload_n 3, 1) := by decide +kernel
theorem dX0_likes_13 : decode cX0_likes 13 = .ok (.iconst 5, 1) := by decide +kernel
theorem dX0_likes_14 : decode cX0_likes 14 = .ok (.if_icmp .ne 44, 3) := by decide +kernel
theorem dX0_likes_17 : decode cX0_likes 17 = .ok (.aload_n 0, 1) := by decide +kernel
theorem dX0_likes_18 : decode cX0_likes 18 = .ok (.getfield 9, 3) := by decide +kernel
theorem dX0_likes_21 : decode cX0_likes 21 = .ok (.iload_n 2, 1) := by decide +kernel
theorem dX0_likes_22 : decode cX0_likes 22 = .ok (.iaload, 1) := by decide +kernel
theorem dX0_likes_23 : decode cX0_likes 23 = .ok (.iconst 2, 1) := by decide +kernel
theorem dX0_likes_24 : decode cX0_likes 24 = .ok (.idiv, 1) := by decide +kernel
theorem dX0_likes_25 : decode cX0_likes 25 = .ok (.iconst 2, 1) := by decide +kernel
theorem dX0_likes_26 : decode cX0_likes 26 = .ok (.aload_n 0, 1) := by decide +kernel
theorem dX0_likes_27 : decode cX0_likes 27 = .ok (.getfield 21, 3) := by decide +kernel
theorem dX0_likes_30 : decode cX0_likes 30 = .ok (.iload_n 2, 1) := by decide +kernel
theorem dX0_likes_31 : decode cX0_likes 31 = .ok (.iaload, 1) := by decide +kernel
theorem dX0_likes_32 : decode cX0_likes 32 = .ok (.imul, 1) := by decide +kernel
theorem dX0_likes_33 : decode cX0_likes 33 = .ok (.isub, 1) := by decide +kernel
theorem dX0_likes_34 : decode cX0_likes 34 = .ok (.istore 4, 2) := by decide +kernel
theorem dX0_likes_36 : decode cX0_likes 36 = .ok (.iload_n 3, 1) := by decide +kernel
theorem dX0_likes_37 : decode cX0_likes 37 = .ok (.iconst 5, 1) := by decide +kernel
theorem dX0_likes_38 : decode cX0_likes 38 = .ok (.if_icmp .ne 17, 3) := by decide +kernel
theorem dX0_likes_41 : decode cX0_likes 41 = .ok (.iload_n 2, 1) := by decide +kernel
theorem dX0_likes_42 : decode cX0_likes 42 = .ok (.bipush 7, 2) := by decide +kernel
theorem dX0_likes_44 : decode cX0_likes 44 = .ok (.if_icmp .ne 11, 3) := by decide +kernel
theorem dX0_likes_47 : decode cX0_likes 47 = .ok (.iload 4, 2) := by decide +kernel
theorem dX0_likes_49 : decode cX0_likes 49 = .ok (.bipush 6, 2) := by decide +kernel
theorem dX0_likes_51 : decode cX0_likes 51 = .ok (.iadd, 1) := by decide +kernel
theorem dX0_likes_52 : decode cX0_likes 52 = .ok (.goto 5, 3) := by decide +kernel
theorem dX0_likes_55 : decode cX0_likes 55 = .ok (.iload 4, 2) := by decide +kernel
theorem dX0_likes_57 : decode cX0_likes 57 = .ok (.ireturn, 1) := by decide +kernel
theorem dX0_likes_58 : decode cX0_likes 58 = .ok (.aload_n 0, 1) := by decide +kernel
theorem dX0_likes_59 : decode cX0_likes 59 = .ok (.getfield 9, 3) := by decide +kernel
theorem dX0_likes_62 : decode cX0_likes 62 = .ok (.iload_n 2, 1) := by decide +kernel
theorem dX0_likes_63 : decode cX0_likes 63 = .ok (.iaload, 1) := by decide +kernel
theorem dX0_likes_64 : decode cX0_likes 64 = .ok (.aload_n 0, 1) := by decide +kernel
theorem dX0_likes_65 : decode cX0_likes 65 = .ok (.getfield 21, 3) := by decide +kernel
theorem dX0_likes_68 : decode cX0_likes 68 = .ok (.iload_n 2, 1) := by decide +kernel
theorem dX0_likes_69 : decode cX0_likes 69 = .ok (.iaload, 1) := by decide +kernel
theorem dX0_likes_70 : decode cX0_likes 70 = .ok (.isub, 1) := by decide +kernel
theorem dX0_likes_71 : decode cX0_likes 71 = .ok (.istore 4, 2) := by decide +kernel
theorem dX0_likes_73 : decode cX0_likes 73 = .ok (.aload_n 0, 1) := by decide +kernel
theorem dX0_likes_74 : decode cX0_likes 74 = .ok (.getfield 9, 3) := by decide +kernel
theorem dX0_likes_77 : decode cX0_likes 77 = .ok (.iload_n 2, 1) := by decide +kernel
theorem dX0_likes_78 : decode cX0_likes 78 = .ok (.iaload, 1) := by decide +kernel
theorem dX0_likes_79 : decode cX0_likes 79 = .ok (.bipush 10, 2) := by decide +kernel
theorem dX0_likes_81 : decode cX0_likes 81 = .ok (.if_icmp .le 13, 3) := by decide +kernel
theorem dX0_likes_84 : decode cX0_likes 84 = .ok (.aload_n 0, 1) := by decide +kernel
theorem dX0_likes_85 : decode cX0_likes 85 = .ok (.invokevirtual 68, 3) := by decide +kernel
theorem dX0_likes_88 : decode cX0_likes 88 = .ok (.ifCond .eq 6, 3) := by decide +kernel
theorem dX0_likes_91 : decode cX0_likes 91 = .ok (.iinc 4 (-4), 3) := by decide +kernel
theorem dX0_likes_94 : decode cX0_likes 94 = .ok (.iload_n 3, 1) := by decide +kernel
theorem dX0_likes_95 : decode cX0_likes 95 = .ok (.iconst 2, 1) := by decide +kernel
theorem dX0_likes_96 : decode cX0_likes 96 = .ok (.if_icmp .ne 6, 3) := by decide +kernel
theorem dX0_likes_99 : decode cX0_likes 99 = .ok (.iinc 4 3, 3) := by decide +kernel
theorem dX0_likes_102 : decode cX0_likes 102 = .ok (.aload_n 0, 1) := by decide +kernel
theorem dX0_likes_103 : decode cX0_likes 103 = .ok (.getfield 33, 3) := by decide +kernel
theorem dX0_likes_106 : decode cX0_likes 106 = .ok (.iload_n 1, 1) := by decide +kernel
theorem dX0_likes_107 : decode cX0_likes 107 = .ok (.iaload, 1) := by decide +kernel
theorem dX0_likes_108 : decode cX0_likes 108 = .ok (.iload_n 2, 1) := by decide +kernel
theorem dX0_likes_109 : decode cX0_likes 109 = .ok (.if_icmp .ne 42, 3) := by decide +kernel
theorem dX0_likes_112 : decode cX0_likes 112 = .ok (.iload_n 3, 1) := by decide +kernel
theorem dX0_likes_113 : decode cX0_likes 113 = .ok (.iconst 1, 1) := by decide +kernel
theorem dX0_likes_114 : decode cX0_likes 114 = .ok (.if_icmp .eq 8, 3) := by decide +kernel
theorem dX0_likes_117 : decode cX0_likes 117 = .ok (.iload_n 3, 1) := by decide +kernel
theorem dX0_likes_118 : decode cX0_likes 118 = .ok (.iconst 4, 1) := by decide +kernel
theorem dX0_likes_119 : decode cX0_likes 119 = .ok (.if_icmp .ne 32, 3) := by decide +kernel
theorem dX0_likes_122 : decode cX0_likes 122 = .ok (.iload 4, 2) := by decide +kernel
theorem dX0_likes_124 : decode cX0_likes 124 = .ok (.aload_n 0, 1) := by decide +kernel
theorem dX0_likes_125 : decode cX0_likes 125 = .ok (.getfield 30, 3) := by decide +kernel
theorem dX0_likes_128 : decode cX0_likes 128 = .ok (.iload_n 1, 1) := by decide +kernel
theorem dX0_likes_129 : decode cX0_likes 129 = .ok (.iaload, 1) := by decide +kernel
theorem dX0_likes_130 : decode cX0_likes 130 = .ok (.iconst 4, 1) := by decide +kernel
theorem dX0_likes_131 : decode cX0_likes 131 = .ok (.idiv, 1) := by decide +kernel
theorem dX0_likes_132 : decode cX0_likes 132 = .ok (.iadd, 1) := by decide +kernel
theorem dX0_likes_133 : decode cX0_likes 133 = .ok (.istore 4, 2) := by decide +kernel
theorem dX0_likes_135 : decode cX0_likes 135 = .ok (.iload 4, 2) := by decide +kernel
theorem dX0_likes_137 : decode cX0_likes 137 = .ok (.iload_n 3, 1) := by decide +kernel
theorem dX0_likes_138 : decode cX0_likes 138 = .ok (.iconst 4, 1) := by decide +kernel
theorem dX0_likes_139 : decode cX0_likes 139 = .ok (.if_icmp .ne 8, 3) := by decide +kernel
theorem dX0_likes_142 : decode cX0_likes 142 = .ok (.bipush 10, 2) := by decide +kernel
theorem dX0_likes_144 : decode cX0_likes 144 = .ok (.goto 4, 3) := by decide +kernel
theorem dX0_likes_147 : decode cX0_likes 147 = .ok (.iconst 0, 1) := by decide +kernel
theorem dX0_likes_148 : decode cX0_likes 148 = .ok (.iadd, 1) := by decide +kernel
theorem dX0_likes_149 : decode cX0_likes 149 = .ok (.istore 4, 2) := by decide +kernel
theorem dX0_likes_151 : decode cX0_likes 151 = .ok (.iload 4, 2) := by decide +kernel
theorem dX0_likes_153 : decode cX0_likes 153 = .ok (.ireturn, 1) := by decide +kernel
theorem dX0_minds_0 : decode cX0_minds 0 = .ok (.aload_n 0, 1) := by decide +kernel
theorem dX0_minds_1 : decode cX0_minds 1 = .ok (.iload_n 1, 1) := by decide +kernel
theorem dX0_minds_2 : decode cX0_minds 2 = .ok (.iload_n 2, 1) := by decide +kernel
theorem dX0_minds_3 : decode cX0_minds 3 = .ok (.invokevirtual 72, 3) := by decide +kernel
theorem dX0_minds_6 : decode cX0_minds 6 = .ok (.ifCond .eq 8, 3) := by decide +kernel
theorem dX0_minds_9 : decode cX0_minds 9 = .ok (.bipush (-6), 2) := by decide +kernel
theorem dX0_minds_11 : decode cX0_minds 11 = .ok (.goto 4, 3) := by decide +kernel
theorem dX0_minds_14 : decode cX0_minds 14 = .ok (.iconst 1, 1) := by decide +kernel
theorem dX0_minds_15 : decode cX0_minds 15 = .ok (.istore_n 3, 1) := by decide +kernel
theorem dX0_minds_16 : decode cX0_minds 16 = .ok (.aload_n 0, 1) := by decide +kernel
theorem dX0_minds_17 : decode cX0_minds 17 = .ok (.getfield 27, 3) := by decide +kernel
theorem dX0_minds_20 : decode cX0_minds 20 = .ok (.iload_n 1, 1) := by decide +kernel
theorem dX0_minds_21 : decode cX0_minds 21 = .ok (.iaload, 1) := by decide +kernel
theorem dX0_minds_22 : decode cX0_minds 22 = .ok (.tableswitch 59 2 5 #[30, 34, 36, 40], 30) := by decide +kernel
theorem dX0_minds_52 : decode cX0_minds 52 = .ok (.iconst 2, 1) := by decide +kernel
theorem dX0_minds_53 : decode cX0_minds 53 = .ok (.iload_n 3, 1) := by decide +kernel
theorem dX0_minds_54 : decode cX0_minds 54 = .ok (.imul, 1) := by decide +kernel
theorem dX0_minds_55 : decode cX0_minds 55 = .ok (.ireturn, 1) := by decide +kernel
theorem dX0_minds_56 : decode cX0_minds 56 = .ok (.iconst 0, 1) := by decide +kernel
theorem dX0_minds_57 : decode cX0_minds 57 = .ok (.ireturn, 1) := by decide +kernel
theorem dX0_minds_58 : decode cX0_minds 58 = .ok (.iload_n 3, 1) := by decide +kernel
theorem dX0_minds_59 : decode cX0_minds 59 = .ok (.iconst 2, 1) := by decide +kernel
theorem dX0_minds_60 : decode cX0_minds 60 = .ok (.isub, 1) := by decide +kernel
theorem dX0_minds_61 : decode cX0_minds 61 = .ok (.ireturn, 1) := by decide +kernel
theorem dX0_minds_62 : decode cX0_minds 62 = .ok (.aload_n 0, 1) := by decide +kernel
theorem dX0_minds_63 : decode cX0_minds 63 = .ok (.getfield 27, 3) := by decide +kernel
theorem dX0_minds_66 : decode cX0_minds 66 = .ok (.iload_n 2, 1) := by decide +kernel
theorem dX0_minds_67 : decode cX0_minds 67 = .ok (.iaload, 1) := by decide +kernel
theorem dX0_minds_68 : decode cX0_minds 68 = .ok (.iconst 2, 1) := by decide +kernel
theorem dX0_minds_69 : decode cX0_minds 69 = .ok (.invokestatic 76, 3) := by decide +kernel
theorem dX0_minds_72 : decode cX0_minds 72 = .ok (.ifCond .eq 7, 3) := by decide +kernel
theorem dX0_minds_75 : decode cX0_minds 75 = .ok (.iconst (-1), 1) := by decide +kernel
theorem dX0_minds_76 : decode cX0_minds 76 = .ok (.goto 4, 3) := by decide +kernel
theorem dX0_minds_79 : decode cX0_minds 79 = .ok (.iconst 0, 1) := by decide +kernel
theorem dX0_minds_80 : decode cX0_minds 80 = .ok (.ireturn, 1) := by decide +kernel
theorem dX0_minds_81 : decode cX0_minds 81 = .ok (.iload_n 3, 1) := by decide +kernel
theorem dX0_minds_82 : decode cX0_minds 82 = .ok (.ireturn, 1) := by decide +kernel
theorem dX0_givesUp_0 : decode cX0_givesUp 0 = .ok (.aload_n 0, 1) := by decide +kernel
theorem dX0_givesUp_1 : decode cX0_givesUp 1 = .ok (.getfield 27, 3) := by decide +kernel
theorem dX0_givesUp_4 : decode cX0_givesUp 4 = .ok (.iload_n 1, 1) := by decide +kernel
theorem dX0_givesUp_5 : decode cX0_givesUp 5 = .ok (.iaload, 1) := by decide +kernel
theorem dX0_givesUp_6 : decode cX0_givesUp 6 = .ok (.tableswitch 52 1 5 #[34, 52, 47, 49, 47], 34) := by decide +kernel
theorem dX0_givesUp_40 : decode cX0_givesUp 40 = .ok (.bipush 8, 2) := by decide +kernel
theorem dX0_givesUp_42 : decode cX0_givesUp 42 = .ok (.aload_n 0, 1) := by decide +kernel
theorem dX0_givesUp_43 : decode cX0_givesUp 43 = .ok (.getfield 30, 3) := by decide +kernel
theorem dX0_givesUp_46 : decode cX0_givesUp 46 = .ok (.iload_n 1, 1) := by decide +kernel
theorem dX0_givesUp_47 : decode cX0_givesUp 47 = .ok (.iaload, 1) := by decide +kernel
theorem dX0_givesUp_48 : decode cX0_givesUp 48 = .ok (.bipush 10, 2) := by decide +kernel
theorem dX0_givesUp_50 : decode cX0_givesUp 50 = .ok (.idiv, 1) := by decide +kernel
theorem dX0_givesUp_51 : decode cX0_givesUp 51 = .ok (.iadd, 1) := by decide +kernel
theorem dX0_givesUp_52 : decode cX0_givesUp 52 = .ok (.ireturn, 1) := by decide +kernel
theorem dX0_givesUp_53 : decode cX0_givesUp 53 = .ok (.iconst 4, 1) := by decide +kernel
theorem dX0_givesUp_54 : decode cX0_givesUp 54 = .ok (.ireturn, 1) := by decide +kernel
theorem dX0_givesUp_55 : decode cX0_givesUp 55 = .ok (.bipush 99, 2) := by decide +kernel
theorem dX0_givesUp_57 : decode cX0_givesUp 57 = .ok (.ireturn, 1) := by decide +kernel
theorem dX0_givesUp_58 : decode cX0_givesUp 58 = .ok (.bipush 8, 2) := by decide +kernel
theorem dX0_givesUp_60 : decode cX0_givesUp 60 = .ok (.ireturn, 1) := by decide +kernel
theorem dX0_howWell_0 : decode cX0_howWell 0 = .ok (.aload_n 0, 1) := by decide +kernel
theorem dX0_howWell_1 : decode cX0_howWell 1 = .ok (.iload_n 1, 1) := by decide +kernel
theorem dX0_howWell_2 : decode cX0_howWell 2 = .ok (.iload_n 2, 1) := by decide +kernel
theorem dX0_howWell_3 : decode cX0_howWell 3 = .ok (.invokevirtual 79, 3) := by decide +kernel
theorem dX0_howWell_6 : decode cX0_howWell 6 = .ok (.istore_n 3, 1) := by decide +kernel
theorem dX0_howWell_7 : decode cX0_howWell 7 = .ok (.iload_n 2, 1) := by decide +kernel
theorem dX0_howWell_8 : decode cX0_howWell 8 = .ok (.ifCond .le 42, 3) := by decide +kernel
theorem dX0_howWell_11 : decode cX0_howWell 11 = .ok (.aload_n 0, 1) := by decide +kernel
theorem dX0_howWell_12 : decode cX0_howWell 12 = .ok (.getfield 24, 3) := by decide +kernel
theorem dX0_howWell_15 : decode cX0_howWell 15 = .ok (.iload_n 2, 1) := by decide +kernel
theorem dX0_howWell_16 : decode cX0_howWell 16 = .ok (.iconst 1, 1) := by decide +kernel
theorem dX0_howWell_17 : decode cX0_howWell 17 = .ok (.isub, 1) := by decide +kernel
theorem dX0_howWell_18 : decode cX0_howWell 18 = .ok (.iaload, 1) := by decide +kernel
theorem dX0_howWell_19 : decode cX0_howWell 19 = .ok (.ifCond .lt 31, 3) := by decide +kernel
theorem dX0_howWell_22 : decode cX0_howWell 22 = .ok (.aload_n 0, 1) := by decide +kernel
theorem dX0_howWell_23 : decode cX0_howWell 23 = .ok (.getfield 24, 3) := by decide +kernel
theorem dX0_howWell_26 : decode cX0_howWell 26 = .ok (.iload_n 2, 1) := by decide +kernel
theorem dX0_howWell_27 : decode cX0_howWell 27 = .ok (.iconst 1, 1) := by decide +kernel
theorem dX0_howWell_28 : decode cX0_howWell 28 = .ok (.isub, 1) := by decide +kernel
theorem dX0_howWell_29 : decode cX0_howWell 29 = .ok (.iaload, 1) := by decide +kernel
theorem dX0_howWell_30 : decode cX0_howWell 30 = .ok (.iload_n 1, 1) := by decide +kernel
theorem dX0_howWell_31 : decode cX0_howWell 31 = .ok (.if_icmp .eq 19, 3) := by decide +kernel
theorem dX0_howWell_34 : decode cX0_howWell 34 = .ok (.iload_n 3, 1) := by decide +kernel
theorem dX0_howWell_35 : decode cX0_howWell 35 = .ok (.aload_n 0, 1) := by decide +kernel
theorem dX0_howWell_36 : decode cX0_howWell 36 = .ok (.iload_n 1, 1) := by decide +kernel
theorem dX0_howWell_37 : decode cX0_howWell 37 = .ok (.aload_n 0, 1) := by decide +kernel
theorem dX0_howWell_38 : decode cX0_howWell 38 = .ok (.getfield 24, 3) := by decide +kernel
theorem dX0_howWell_41 : decode cX0_howWell 41 = .ok (.iload_n 2, 1) := by decide +kernel
theorem dX0_howWell_42 : decode cX0_howWell 42 = .ok (.iconst 1, 1) := by decide +kernel
theorem dX0_howWell_43 : decode cX0_howWell 43 = .ok (.isub, 1) := by decide +kernel
theorem dX0_howWell_44 : decode cX0_howWell 44 = .ok (.iaload, 1) := by decide +kernel
theorem dX0_howWell_45 : decode cX0_howWell 45 = .ok (.invokevirtual 83, 3) := by decide +kernel
theorem dX0_howWell_48 : decode cX0_howWell 48 = .ok (.iadd, 1) := by decide +kernel
theorem dX0_howWell_49 : decode cX0_howWell 49 = .ok (.istore_n 3, 1) := by decide +kernel
theorem dX0_howWell_50 : decode cX0_howWell 50 = .ok (.iload_n 2, 1) := by decide +kernel
theorem dX0_howWell_51 : decode cX0_howWell 51 = .ok (.bipush 7, 2) := by decide +kernel
theorem dX0_howWell_53 : decode cX0_howWell 53 = .ok (.if_icmp .ge 42, 3) := by decide +kernel
theorem dX0_howWell_56 : decode cX0_howWell 56 = .ok (.aload_n 0, 1) := by decide +kernel
theorem dX0_howWell_57 : decode cX0_howWell 57 = .ok (.getfield 24, 3) := by decide +kernel
theorem dX0_howWell_60 : decode cX0_howWell 60 = .ok (.iload_n 2, 1) := by decide +kernel
theorem dX0_howWell_61 : decode cX0_howWell 61 = .ok (.iconst 1, 1) := by decide +kernel
theorem dX0_howWell_62 : decode cX0_howWell 62 = .ok (.iadd, 1) := by decide +kernel
theorem dX0_howWell_63 : decode cX0_howWell 63 = .ok (.iaload, 1) := by decide +kernel
theorem dX0_howWell_64 : decode cX0_howWell 64 = .ok (.ifCond .lt 31, 3) := by decide +kernel
theorem dX0_howWell_67 : decode cX0_howWell 67 = .ok (.aload_n 0, 1) := by decide +kernel
theorem dX0_howWell_68 : decode cX0_howWell 68 = .ok (.getfield 24, 3) := by decide +kernel
theorem dX0_howWell_71 : decode cX0_howWell 71 = .ok (.iload_n 2, 1) := by decide +kernel
theorem dX0_howWell_72 : decode cX0_howWell 72 = .ok (.iconst 1, 1) := by decide +kernel
theorem dX0_howWell_73 : decode cX0_howWell 73 = .ok (.iadd, 1) := by decide +kernel
theorem dX0_howWell_74 : decode cX0_howWell 74 = .ok (.iaload, 1) := by decide +kernel
theorem dX0_howWell_75 : decode cX0_howWell 75 = .ok (.iload_n 1, 1) := by decide +kernel
theorem dX0_howWell_76 : decode cX0_howWell 76 = .ok (.if_icmp .eq 19, 3) := by decide +kernel
theorem dX0_howWell_79 : decode cX0_howWell 79 = .ok (.iload_n 3, 1) := by decide +kernel
theorem dX0_howWell_80 : decode cX0_howWell 80 = .ok (.aload_n 0, 1) := by decide +kernel
theorem dX0_howWell_81 : decode cX0_howWell 81 = .ok (.iload_n 1, 1) := by decide +kernel
theorem dX0_howWell_82 : decode cX0_howWell 82 = .ok (.aload_n 0, 1) := by decide +kernel
theorem dX0_howWell_83 : decode cX0_howWell 83 = .ok (.getfield 24, 3) := by decide +kernel
theorem dX0_howWell_86 : decode cX0_howWell 86 = .ok (.iload_n 2, 1) := by decide +kernel
theorem dX0_howWell_87 : decode cX0_howWell 87 = .ok (.iconst 1, 1) := by decide +kernel
theorem dX0_howWell_88 : decode cX0_howWell 88 = .ok (.iadd, 1) := by decide +kernel
theorem dX0_howWell_89 : decode cX0_howWell 89 = .ok (.iaload, 1) := by decide +kernel
theorem dX0_howWell_90 : decode cX0_howWell 90 = .ok (.invokevirtual 83, 3) := by decide +kernel
theorem dX0_howWell_93 : decode cX0_howWell 93 = .ok (.iadd, 1) := by decide +kernel
theorem dX0_howWell_94 : decode cX0_howWell 94 = .ok (.istore_n 3, 1) := by decide +kernel
theorem dX0_howWell_95 : decode cX0_howWell 95 = .ok (.iload_n 3, 1) := by decide +kernel
theorem dX0_howWell_96 : decode cX0_howWell 96 = .ok (.ireturn, 1) := by decide +kernel
theorem dX0_howWellNow_0 : decode cX0_howWellNow 0 = .ok (.aload_n 0, 1) := by decide +kernel
theorem dX0_howWellNow_1 : decode cX0_howWellNow 1 = .ok (.getfield 42, 3) := by decide +kernel
theorem dX0_howWellNow_4 : decode cX0_howWellNow 4 = .ok (.iload_n 1, 1) := by decide +kernel
theorem dX0_howWellNow_5 : decode cX0_howWellNow 5 = .ok (.iaload, 1) := by decide +kernel
theorem dX0_howWellNow_6 : decode cX0_howWellNow 6 = .ok (.ifCond .lt 17, 3) := by decide +kernel
theorem dX0_howWellNow_9 : decode cX0_howWellNow 9 = .ok (.aload_n 0, 1) := by decide +kernel
theorem dX0_howWellNow_10 : decode cX0_howWellNow 10 = .ok (.iload_n 1, 1) := by decide +kernel
theorem dX0_howWellNow_11 : decode cX0_howWellNow 11 = .ok (.aload_n 0, 1) := by decide +kernel
theorem dX0_howWellNow_12 : decode cX0_howWellNow 12 = .ok (.getfield 42, 3) := by decide +kernel
theorem dX0_howWellNow_15 : decode cX0_howWellNow 15 = .ok (.iload_n 1, 1) := by decide +kernel
theorem dX0_howWellNow_16 : decode cX0_howWellNow 16 = .ok (.iaload, 1) := by decide +kernel
theorem dX0_howWellNow_17 : decode cX0_howWellNow 17 = .ok (.invokevirtual 86, 3) := by decide +kernel
theorem dX0_howWellNow_20 : decode cX0_howWellNow 20 = .ok (.goto 6, 3) := by decide +kernel
theorem dX0_howWellNow_23 : decode cX0_howWellNow 23 = .ok (.sipush (-1000), 3) := by decide +kernel
theorem dX0_howWellNow_26 : decode cX0_howWellNow 26 = .ok (.ireturn, 1) := by decide +kernel
theorem dX0_together_0 : decode cX0_together 0 = .ok (.iconst 0, 1) := by decide +kernel
theorem dX0_together_1 : decode cX0_together 1 = .ok (.istore_n 1, 1) := by decide +kernel
theorem dX0_together_2 : decode cX0_together 2 = .ok (.iconst 0, 1) := by decide +kernel
theorem dX0_together_3 : decode cX0_together 3 = .ok (.istore_n 2, 1) := by decide +kernel
theorem dX0_together_4 : decode cX0_together 4 = .ok (.iload_n 2, 1) := by decide +kernel
theorem dX0_together_5 : decode cX0_together 5 = .ok (.aload_n 0, 1) := by decide +kernel
theorem dX0_together_6 : decode cX0_together 6 = .ok (.getfield 51, 3) := by decide +kernel
theorem dX0_together_9 : decode cX0_together 9 = .ok (.if_icmp .ge 32, 3) := by decide +kernel
theorem dX0_together_12 : decode cX0_together 12 = .ok (.aload_n 0, 1) := by decide +kernel
theorem dX0_together_13 : decode cX0_together 13 = .ok (.getfield 42, 3) := by decide +kernel
theorem dX0_together_16 : decode cX0_together 16 = .ok (.iload_n 2, 1) := by decide +kernel
theorem dX0_together_17 : decode cX0_together 17 = .ok (.iaload, 1) := by decide +kernel
theorem dX0_together_18 : decode cX0_together 18 = .ok (.ifCond .lt 17, 3) := by decide +kernel
theorem dX0_together_21 : decode cX0_together 21 = .ok (.iload_n 1, 1) := by decide +kernel
theorem dX0_together_22 : decode cX0_together 22 = .ok (.aload_n 0, 1) := by decide +kernel
theorem dX0_together_23 : decode cX0_together 23 = .ok (.iload_n 2, 1) := by decide +kernel
theorem dX0_together_24 : decode cX0_together 24 = .ok (.aload_n 0, 1) := by decide +kernel
theorem dX0_together_25 : decode cX0_together 25 = .ok (.getfield 42, 3) := by decide +kernel
theorem dX0_together_28 : decode cX0_together 28 = .ok (.iload_n 2, 1) := by decide +kernel
theorem dX0_together_29 : decode cX0_together 29 = .ok (.iaload, 1) := by decide +kernel
theorem dX0_together_30 : decode cX0_together 30 = .ok (.invokevirtual 86, 3) := by decide +kernel
theorem dX0_together_33 : decode cX0_together 33 = .ok (.iadd, 1) := by decide +kernel
theorem dX0_together_34 : decode cX0_together 34 = .ok (.istore_n 1, 1) := by decide +kernel
theorem dX0_together_35 : decode cX0_together 35 = .ok (.iinc 2 1, 3) := by decide +kernel
theorem dX0_together_38 : decode cX0_together 38 = .ok (.goto (-34), 3) := by decide +kernel
theorem dX0_together_41 : decode cX0_together 41 = .ok (.iload_n 1, 1) := by decide +kernel
theorem dX0_together_42 : decode cX0_together 42 = .ok (.ireturn, 1) := by decide +kernel
theorem dX0_pass_0 : decode cX0_pass 0 = .ok (.iconst 0, 1) := by decide +kernel
theorem dX0_pass_1 : decode cX0_pass 1 = .ok (.istore_n 2, 1) := by decide +kernel
theorem dX0_pass_2 : decode cX0_pass 2 = .ok (.iconst 0, 1) := by decide +kernel
theorem dX0_pass_3 : decode cX0_pass 3 = .ok (.istore_n 3, 1) := by decide +kernel
theorem dX0_pass_4 : decode cX0_pass 4 = .ok (.iload_n 3, 1) := by decide +kernel
theorem dX0_pass_5 : decode cX0_pass 5 = .ok (.iload_n 1, 1) := by decide +kernel
theorem dX0_pass_6 : decode cX0_pass 6 = .ok (.if_icmp .ge 14, 3) := by decide +kernel
theorem dX0_pass_9 : decode cX0_pass 9 = .ok (.aload_n 0, 1) := by decide +kernel
theorem dX0_pass_10 : decode cX0_pass 10 = .ok (.invokevirtual 89, 3) := by decide +kernel
theorem dX0_pass_13 : decode cX0_pass 13 = .ok (.istore_n 2, 1) := by decide +kernel
theorem dX0_pass_14 : decode cX0_pass 14 = .ok (.iinc 3 1, 3) := by decide +kernel
theorem dX0_pass_17 : decode cX0_pass 17 = .ok (.goto (-13), 3) := by decide +kernel
theorem dX0_pass_20 : decode cX0_pass 20 = .ok (.iload_n 2, 1) := by decide +kernel
theorem dX0_pass_21 : decode cX0_pass 21 = .ok (.ireturn, 1) := by decide +kernel
theorem dX0_passOne_0 : decode cX0_passOne 0 = .ok (.iconst 0, 1) := by decide +kernel
theorem dX0_passOne_1 : decode cX0_passOne 1 = .ok (.istore_n 1, 1) := by decide +kernel
theorem dX0_passOne_2 : decode cX0_passOne 2 = .ok (.iconst 0, 1) := by decide +kernel
theorem dX0_passOne_3 : decode cX0_passOne 3 = .ok (.istore_n 2, 1) := by decide +kernel
theorem dX0_passOne_4 : decode cX0_passOne 4 = .ok (.iload_n 2, 1) := by decide +kernel
theorem dX0_passOne_5 : decode cX0_passOne 5 = .ok (.aload_n 0, 1) := by decide +kernel
theorem dX0_passOne_6 : decode cX0_passOne 6 = .ok (.getfield 51, 3) := by decide +kernel
theorem dX0_passOne_9 : decode cX0_passOne 9 = .ok (.if_icmp .ge 28, 3) := by decide +kernel
theorem dX0_passOne_12 : decode cX0_passOne 12 = .ok (.aload_n 0, 1) := by decide +kernel
theorem dX0_passOne_13 : decode cX0_passOne 13 = .ok (.iload_n 2, 1) := by decide +kernel
theorem dX0_passOne_14 : decode cX0_passOne 14 = .ok (.invokevirtual 93, 3) := by decide +kernel
theorem dX0_passOne_17 : decode cX0_passOne 17 = .ok (.ifCond .ne 11, 3) := by decide +kernel
theorem dX0_passOne_20 : decode cX0_passOne 20 = .ok (.aload_n 0, 1) := by decide +kernel
theorem dX0_passOne_21 : decode cX0_passOne 21 = .ok (.iload_n 2, 1) := by decide +kernel
theorem dX0_passOne_22 : decode cX0_passOne 22 = .ok (.invokevirtual 96, 3) := by decide +kernel
theorem dX0_passOne_25 : decode cX0_passOne 25 = .ok (.ifCond .eq 6, 3) := by decide +kernel
theorem dX0_passOne_28 : decode cX0_passOne 28 = .ok (.iinc 1 1, 3) := by decide +kernel
theorem dX0_passOne_31 : decode cX0_passOne 31 = .ok (.iinc 2 1, 3) := by decide +kernel
theorem dX0_passOne_34 : decode cX0_passOne 34 = .ok (.goto (-30), 3) := by decide +kernel
theorem dX0_passOne_37 : decode cX0_passOne 37 = .ok (.aload_n 0, 1) := by decide +kernel
theorem dX0_passOne_38 : decode cX0_passOne 38 = .ok (.dup, 1) := by decide +kernel
theorem dX0_passOne_39 : decode cX0_passOne 39 = .ok (.getfield 55, 3) := by decide +kernel
theorem dX0_passOne_42 : decode cX0_passOne 42 = .ok (.iconst 1, 1) := by decide +kernel
theorem dX0_passOne_43 : decode cX0_passOne 43 = .ok (.iadd, 1) := by decide +kernel
theorem dX0_passOne_44 : decode cX0_passOne 44 = .ok (.putfield 55, 3) := by decide +kernel
theorem dX0_passOne_47 : decode cX0_passOne 47 = .ok (.aload_n 0, 1) := by decide +kernel
theorem dX0_passOne_48 : decode cX0_passOne 48 = .ok (.getfield 24, 3) := by decide +kernel
theorem dX0_passOne_51 : decode cX0_passOne 51 = .ok (.bipush 7, 2) := by decide +kernel
theorem dX0_passOne_53 : decode cX0_passOne 53 = .ok (.iaload, 1) := by decide +kernel
theorem dX0_passOne_54 : decode cX0_passOne 54 = .ok (.istore_n 2, 1) := by decide +kernel
theorem dX0_passOne_55 : decode cX0_passOne 55 = .ok (.iload_n 2, 1) := by decide +kernel
theorem dX0_passOne_56 : decode cX0_passOne 56 = .ok (.ifCond .lt 25, 3) := by decide +kernel
theorem dX0_passOne_59 : decode cX0_passOne 59 = .ok (.aload_n 0, 1) := by decide +kernel
theorem dX0_passOne_60 : decode cX0_passOne 60 = .ok (.getfield 39, 3) := by decide +kernel
theorem dX0_passOne_63 : decode cX0_passOne 63 = .ok (.iload_n 2, 1) := by decide +kernel
theorem dX0_passOne_64 : decode cX0_passOne 64 = .ok (.iaload, 1) := by decide +kernel
theorem dX0_passOne_65 : decode cX0_passOne 65 = .ok (.sipush 9999, 3) := by decide +kernel
theorem dX0_passOne_68 : decode cX0_passOne 68 = .ok (.if_icmp .ge 13, 3) := by decide +kernel
theorem dX0_passOne_71 : decode cX0_passOne 71 = .ok (.aload_n 0, 1) := by decide +kernel
theorem dX0_passOne_72 : decode cX0_passOne 72 = .ok (.getfield 39, 3) := by decide +kernel
theorem dX0_passOne_75 : decode cX0_passOne 75 = .ok (.iload_n 2, 1) := by decide +kernel
theorem dX0_passOne_76 : decode cX0_passOne 76 = .ok (.dup2, 1) := by decide +kernel
theorem dX0_passOne_77 : decode cX0_passOne 77 = .ok (.iaload, 1) := by decide +kernel
theorem dX0_passOne_78 : decode cX0_passOne 78 = .ok (.iconst 1, 1) := by decide +kernel
theorem dX0_passOne_79 : decode cX0_passOne 79 = .ok (.iadd, 1) := by decide +kernel
theorem dX0_passOne_80 : decode cX0_passOne 80 = .ok (.iastore, 1) := by decide +kernel
theorem dX0_passOne_81 : decode cX0_passOne 81 = .ok (.iload_n 1, 1) := by decide +kernel
theorem dX0_passOne_82 : decode cX0_passOne 82 = .ok (.ireturn, 1) := by decide +kernel
theorem dX0_movesToEmpty_0 : decode cX0_movesToEmpty 0 = .ok (.iconst (-1), 1) := by decide +kernel
theorem dX0_movesToEmpty_1 : decode cX0_movesToEmpty 1 = .ok (.istore_n 2, 1) := by decide +kernel
theorem dX0_movesToEmpty_2 : decode cX0_movesToEmpty 2 = .ok (.iconst 0, 1) := by decide +kernel
theorem dX0_movesToEmpty_3 : decode cX0_movesToEmpty 3 = .ok (.istore_n 3, 1) := by decide +kernel
theorem dX0_movesToEmpty_4 : decode cX0_movesToEmpty 4 = .ok (.iconst 0, 1) := by decide +kernel
theorem dX0_movesToEmpty_5 : decode cX0_movesToEmpty 5 = .ok (.istore 4, 2) := by decide +kernel
theorem dX0_movesToEmpty_7 : decode cX0_movesToEmpty 7 = .ok (.iload 4, 2) := by decide +kernel
theorem dX0_movesToEmpty_9 : decode cX0_movesToEmpty 9 = .ok (.bipush 8, 2) := by decide +kernel
theorem dX0_movesToEmpty_11 : decode cX0_movesToEmpty 11 = .ok (.if_icmp .ge 46, 3) := by decide +kernel
theorem dX0_movesToEmpty_14 : decode cX0_movesToEmpty 14 = .ok (.aload_n 0, 1) := by decide +kernel
theorem dX0_movesToEmpty_15 : decode cX0_movesToEmpty 15 = .ok (.getfield 24, 3) := by decide +kernel
theorem dX0_movesToEmpty_18 : decode cX0_movesToEmpty 18 = .ok (.iload 4, 2) := by decide +kernel
theorem dX0_movesToEmpty_20 : decode cX0_movesToEmpty 20 = .ok (.iaload, 1) := by decide +kernel
theorem dX0_movesToEmpty_21 : decode cX0_movesToEmpty 21 = .ok (.iconst (-1), 1) := by decide +kernel
theorem dX0_movesToEmpty_22 : decode cX0_movesToEmpty 22 = .ok (.if_icmp .ne 29, 3) := by decide +kernel
theorem dX0_movesToEmpty_25 : decode cX0_movesToEmpty 25 = .ok (.aload_n 0, 1) := by decide +kernel
theorem dX0_movesToEmpty_26 : decode cX0_movesToEmpty 26 = .ok (.iload_n 1, 1) := by decide +kernel
theorem dX0_movesToEmpty_27 : decode cX0_movesToEmpty 27 = .ok (.iload 4, 2) := by decide +kernel
theorem dX0_movesToEmpty_29 : decode cX0_movesToEmpty 29 = .ok (.invokevirtual 86, 3) := by decide +kernel
theorem dX0_movesToEmpty_32 : decode cX0_movesToEmpty 32 = .ok (.istore 5, 2) := by decide +kernel
theorem dX0_movesToEmpty_34 : decode cX0_movesToEmpty 34 = .ok (.iload_n 2, 1) := by decide +kernel
theorem dX0_movesToEmpty_35 : decode cX0_movesToEmpty 35 = .ok (.iconst (-1), 1) := by decide +kernel
theorem dX0_movesToEmpty_36 : decode cX0_movesToEmpty 36 = .ok (.if_icmp .eq 9, 3) := by decide +kernel
theorem dX0_movesToEmpty_39 : decode cX0_movesToEmpty 39 = .ok (.iload 5, 2) := by decide +kernel
theorem dX0_movesToEmpty_41 : decode cX0_movesToEmpty 41 = .ok (.iload_n 3, 1) := by decide +kernel
theorem dX0_movesToEmpty_42 : decode cX0_movesToEmpty 42 = .ok (.if_icmp .le 9, 3) := by decide +kernel
theorem dX0_movesToEmpty_45 : decode cX0_movesToEmpty 45 = .ok (.iload 4, 2) := by decide +kernel
theorem dX0_movesToEmpty_47 : decode cX0_movesToEmpty 47 = .ok (.istore_n 2, 1) := by decide +kernel
theorem dX0_movesToEmpty_48 : decode cX0_movesToEmpty 48 = .ok (.iload 5, 2) := by decide +kernel
theorem dX0_movesToEmpty_50 : decode cX0_movesToEmpty 50 = .ok (.istore_n 3, 1) := by decide +kernel
theorem dX0_movesToEmpty_51 : decode cX0_movesToEmpty 51 = .ok (.iinc 4 1, 3) := by decide +kernel
theorem dX0_movesToEmpty_54 : decode cX0_movesToEmpty 54 = .ok (.goto (-47), 3) := by decide +kernel
theorem dX0_movesToEmpty_57 : decode cX0_movesToEmpty 57 = .ok (.iload_n 2, 1) := by decide +kernel
theorem dX0_movesToEmpty_58 : decode cX0_movesToEmpty 58 = .ok (.iconst (-1), 1) := by decide +kernel
theorem dX0_movesToEmpty_59 : decode cX0_movesToEmpty 59 = .ok (.if_icmp .eq 27, 3) := by decide +kernel
theorem dX0_movesToEmpty_62 : decode cX0_movesToEmpty 62 = .ok (.aload_n 0, 1) := by decide +kernel
theorem dX0_movesToEmpty_63 : decode cX0_movesToEmpty 63 = .ok (.getfield 42, 3) := by decide +kernel
theorem dX0_movesToEmpty_66 : decode cX0_movesToEmpty 66 = .ok (.iload_n 1, 1) := by decide +kernel
theorem dX0_movesToEmpty_67 : decode cX0_movesToEmpty 67 = .ok (.iaload, 1) := by decide +kernel
theorem dX0_movesToEmpty_68 : decode cX0_movesToEmpty 68 = .ok (.ifCond .lt 20, 3) := by decide +kernel
theorem dX0_movesToEmpty_71 : decode cX0_movesToEmpty 71 = .ok (.iload_n 3, 1) := by decide +kernel
theorem dX0_movesToEmpty_72 : decode cX0_movesToEmpty 72 = .ok (.aload_n 0, 1) := by decide +kernel
theorem dX0_movesToEmpty_73 : decode cX0_movesToEmpty 73 = .ok (.iload_n 1, 1) := by decide +kernel
theorem dX0_movesToEmpty_74 : decode cX0_movesToEmpty 74 = .ok (.aload_n 0, 1) := by decide +kernel
theorem dX0_movesToEmpty_75 : decode cX0_movesToEmpty 75 = .ok (.getfield 42, 3) := by decide +kernel
theorem dX0_movesToEmpty_78 : decode cX0_movesToEmpty 78 = .ok (.iload_n 1, 1) := by decide +kernel
theorem dX0_movesToEmpty_79 : decode cX0_movesToEmpty 79 = .ok (.iaload, 1) := by decide +kernel
theorem dX0_movesToEmpty_80 : decode cX0_movesToEmpty 80 = .ok (.invokevirtual 86, 3) := by decide +kernel
theorem dX0_movesToEmpty_83 : decode cX0_movesToEmpty 83 = .ok (.if_icmp .gt 5, 3) := by decide +kernel
theorem dX0_movesToEmpty_86 : decode cX0_movesToEmpty 86 = .ok (.iconst 0, 1) := by decide +kernel
theorem dX0_movesToEmpty_87 : decode cX0_movesToEmpty 87 = .ok (.ireturn, 1) := by decide +kernel
theorem dX0_movesToEmpty_88 : decode cX0_movesToEmpty 88 = .ok (.aload_n 0, 1) := by decide +kernel
theorem dX0_movesToEmpty_89 : decode cX0_movesToEmpty 89 = .ok (.iload_n 1, 1) := by decide +kernel
theorem dX0_movesToEmpty_90 : decode cX0_movesToEmpty 90 = .ok (.iload_n 2, 1) := by decide +kernel
theorem dX0_movesToEmpty_91 : decode cX0_movesToEmpty 91 = .ok (.invokevirtual 99, 3) := by decide +kernel
theorem dX0_movesToEmpty_94 : decode cX0_movesToEmpty 94 = .ok (.iconst 1, 1) := by decide +kernel
theorem dX0_movesToEmpty_95 : decode cX0_movesToEmpty 95 = .ok (.ireturn, 1) := by decide +kernel
theorem dX0_takesItsClaim_0 : decode cX0_takesItsClaim 0 = .ok (.aload_n 0, 1) := by decide +kernel
theorem dX0_takesItsClaim_1 : decode cX0_takesItsClaim 1 = .ok (.getfield 33, 3) := by decide +kernel
theorem dX0_takesItsClaim_4 : decode cX0_takesItsClaim 4 = .ok (.iload_n 1, 1) := by decide +kernel
theorem dX0_takesItsClaim_5 : decode cX0_takesItsClaim 5 = .ok (.iaload, 1) := by decide +kernel
theorem dX0_takesItsClaim_6 : decode cX0_takesItsClaim 6 = .ok (.istore_n 2, 1) := by decide +kernel
theorem dX0_takesItsClaim_7 : decode cX0_takesItsClaim 7 = .ok (.iload_n 2, 1) := by decide +kernel
theorem dX0_takesItsClaim_8 : decode cX0_takesItsClaim 8 = .ok (.ifCond .ge 5, 3) := by decide +kernel
theorem dX0_takesItsClaim_11 : decode cX0_takesItsClaim 11 = .ok (.iconst 0, 1) := by decide +kernel
theorem dX0_takesItsClaim_12 : decode cX0_takesItsClaim 12 = .ok (.ireturn, 1) := by decide +kernel
theorem dX0_takesItsClaim_13 : decode cX0_takesItsClaim 13 = .ok (.aload_n 0, 1) := by decide +kernel
theorem dX0_takesItsClaim_14 : decode cX0_takesItsClaim 14 = .ok (.getfield 24, 3) := by decide +kernel
theorem dX0_takesItsClaim_17 : decode cX0_takesItsClaim 17 = .ok (.iload_n 2, 1) := by decide +kernel
theorem dX0_takesItsClaim_18 : decode cX0_takesItsClaim 18 = .ok (.iaload, 1) := by decide +kernel
theorem dX0_takesItsClaim_19 : decode cX0_takesItsClaim 19 = .ok (.istore_n 3, 1) := by decide +kernel
theorem dX0_takesItsClaim_20 : decode cX0_takesItsClaim 20 = .ok (.iload_n 3, 1) := by decide +kernel
theorem dX0_takesItsClaim_21 : decode cX0_takesItsClaim 21 = .ok (.ifCond .lt 29, 3) := by decide +kernel
theorem dX0_takesItsClaim_24 : decode cX0_takesItsClaim 24 = .ok (.iload_n 3, 1) := by decide +kernel
theorem dX0_takesItsClaim_25 : decode cX0_takesItsClaim 25 = .ok (.iload_n 1, 1) := by decide +kernel
theorem dX0_takesItsClaim_26 : decode cX0_takesItsClaim 26 = .ok (.if_icmp .eq 24, 3) := by decide +kernel
theorem dX0_takesItsClaim_29 : decode cX0_takesItsClaim 29 = .ok (.aload_n 0, 1) := by decide +kernel
theorem dX0_takesItsClaim_30 : decode cX0_takesItsClaim 30 = .ok (.iload_n 1, 1) := by decide +kernel
theorem dX0_takesItsClaim_31 : decode cX0_takesItsClaim 31 = .ok (.iload_n 2, 1) := by decide +kernel
theorem dX0_takesItsClaim_32 : decode cX0_takesItsClaim 32 = .ok (.invokevirtual 86, 3) := by decide +kernel
theorem dX0_takesItsClaim_35 : decode cX0_takesItsClaim 35 = .ok (.aload_n 0, 1) := by decide +kernel
theorem dX0_takesItsClaim_36 : decode cX0_takesItsClaim 36 = .ok (.iload_n 3, 1) := by decide +kernel
theorem dX0_takesItsClaim_37 : decode cX0_takesItsClaim 37 = .ok (.iload_n 2, 1) := by decide +kernel
theorem dX0_takesItsClaim_38 : decode cX0_takesItsClaim 38 = .ok (.invokevirtual 86, 3) := by decide +kernel
theorem dX0_takesItsClaim_41 : decode cX0_takesItsClaim 41 = .ok (.aload_n 0, 1) := by decide +kernel
theorem dX0_takesItsClaim_42 : decode cX0_takesItsClaim 42 = .ok (.iload_n 3, 1) := by decide +kernel
theorem dX0_takesItsClaim_43 : decode cX0_takesItsClaim 43 = .ok (.invokevirtual 103, 3) := by decide +kernel
theorem dX0_takesItsClaim_46 : decode cX0_takesItsClaim 46 = .ok (.iadd, 1) := by decide +kernel
theorem dX0_takesItsClaim_47 : decode cX0_takesItsClaim 47 = .ok (.if_icmp .ge 5, 3) := by decide +kernel
theorem dX0_takesItsClaim_50 : decode cX0_takesItsClaim 50 = .ok (.iconst 0, 1) := by decide +kernel
theorem dX0_takesItsClaim_51 : decode cX0_takesItsClaim 51 = .ok (.ireturn, 1) := by decide +kernel
theorem dX0_takesItsClaim_52 : decode cX0_takesItsClaim 52 = .ok (.aload_n 0, 1) := by decide +kernel
theorem dX0_takesItsClaim_53 : decode cX0_takesItsClaim 53 = .ok (.iload_n 1, 1) := by decide +kernel
theorem dX0_takesItsClaim_54 : decode cX0_takesItsClaim 54 = .ok (.iload_n 3, 1) := by decide +kernel
theorem dX0_takesItsClaim_55 : decode cX0_takesItsClaim 55 = .ok (.invokevirtual 106, 3) := by decide +kernel
theorem dX0_takesItsClaim_58 : decode cX0_takesItsClaim 58 = .ok (.iconst 1, 1) := by decide +kernel
theorem dX0_takesItsClaim_59 : decode cX0_takesItsClaim 59 = .ok (.ireturn, 1) := by decide +kernel
theorem dX1_init_0 : decode cX1_init 0 = .ok (.aload_n 0, 1) := by decide +kernel
theorem dX1_init_1 : decode cX1_init 1 = .ok (.invokespecial 3, 3) := by decide +kernel
theorem dX1_init_4 : decode cX1_init 4 = .ok (.aload_n 0, 1) := by decide +kernel
theorem dX1_init_5 : decode cX1_init 5 = .ok (.bipush 40, 2) := by decide +kernel
theorem dX1_init_7 : decode cX1_init 7 = .ok (.newarray .long, 2) := by decide +kernel
theorem dX1_init_9 : decode cX1_init 9 = .ok (.putfield 9, 3) := by decide +kernel
theorem dX1_init_12 : decode cX1_init 12 = .ok (.return_, 1) := by decide +kernel
theorem dX1_isMissing_0 : decode cX1_isMissing 0 = .ok (.aload_n 0, 1) := by decide +kernel
theorem dX1_isMissing_1 : decode cX1_isMissing 1 = .ok (.getfield 15, 3) := by decide +kernel
theorem dX1_isMissing_4 : decode cX1_isMissing 4 = .ok (.ifCond .ne 7, 3) := by decide +kernel
theorem dX1_isMissing_7 : decode cX1_isMissing 7 = .ok (.iconst 1, 1) := by decide +kernel
theorem dX1_isMissing_8 : decode cX1_isMissing 8 = .ok (.goto 4, 3) := by decide +kernel
theorem dX1_isMissing_11 : decode cX1_isMissing 11 = .ok (.iconst 0, 1) := by decide +kernel
theorem dX1_isMissing_12 : decode cX1_isMissing 12 = .ok (.ireturn, 1) := by decide +kernel
theorem dX1_renew_0 : decode cX1_renew 0 = .ok (.aload_n 0, 1) := by decide +kernel
theorem dX1_renew_1 : decode cX1_renew 1 = .ok (.getfield 9, 3) := by decide +kernel
theorem dX1_renew_4 : decode cX1_renew 4 = .ok (.lconst 0, 1) := by decide +kernel
theorem dX1_renew_5 : decode cX1_renew 5 = .ok (.invokestatic 19, 3) := by decide +kernel
theorem dX1_renew_8 : decode cX1_renew 8 = .ok (.aload_n 0, 1) := by decide +kernel
theorem dX1_renew_9 : decode cX1_renew 9 = .ok (.iload_n 1, 1) := by decide +kernel
theorem dX1_renew_10 : decode cX1_renew 10 = .ok (.putfield 15, 3) := by decide +kernel
theorem dX1_renew_13 : decode cX1_renew 13 = .ok (.aload_n 0, 1) := by decide +kernel
theorem dX1_renew_14 : decode cX1_renew 14 = .ok (.iload_n 1, 1) := by decide +kernel
theorem dX1_renew_15 : decode cX1_renew 15 = .ok (.ifCond .ne 7, 3) := by decide +kernel
theorem dX1_renew_18 : decode cX1_renew 18 = .ok (.iconst 0, 1) := by decide +kernel
theorem dX1_renew_19 : decode cX1_renew 19 = .ok (.goto 4, 3) := by decide +kernel
theorem dX1_renew_22 : decode cX1_renew 22 = .ok (.iload_n 2, 1) := by decide +kernel
theorem dX1_renew_23 : decode cX1_renew 23 = .ok (.putfield 25, 3) := by decide +kernel
theorem dX1_renew_26 : decode cX1_renew 26 = .ok (.aload_n 0, 1) := by decide +kernel
theorem dX1_renew_27 : decode cX1_renew 27 = .ok (.getfield 25, 3) := by decide +kernel
theorem dX1_renew_30 : decode cX1_renew 30 = .ok (.ireturn, 1) := by decide +kernel
theorem dX1_cut_0 : decode cX1_cut 0 = .ok (.aload_n 0, 1) := by decide +kernel
theorem dX1_cut_1 : decode cX1_cut 1 = .ok (.getfield 15, 3) := by decide +kernel
theorem dX1_cut_4 : decode cX1_cut 4 = .ok (.lookupswitch 38 #[(8, 28), (16, 33)], 28) := by decide +kernel
theorem dX1_cut_32 : decode cX1_cut 32 = .ok (.lload_n 1, 1) := by decide +kernel
theorem dX1_cut_33 : decode cX1_cut 33 = .ok (.l2i, 1) := by decide +kernel
theorem dX1_cut_34 : decode cX1_cut 34 = .ok (.i2b, 1) := by decide +kernel
theorem dX1_cut_35 : decode cX1_cut 35 = .ok (.i2l, 1) := by decide +kernel
theorem dX1_cut_36 : decode cX1_cut 36 = .ok (.lreturn, 1) := by decide +kernel
theorem dX1_cut_37 : decode cX1_cut 37 = .ok (.lload_n 1, 1) := by decide +kernel
theorem dX1_cut_38 : decode cX1_cut 38 = .ok (.l2i, 1) := by decide +kernel
theorem dX1_cut_39 : decode cX1_cut 39 = .ok (.i2s, 1) := by decide +kernel
theorem dX1_cut_40 : decode cX1_cut 40 = .ok (.i2l, 1) := by decide +kernel
theorem dX1_cut_41 : decode cX1_cut 41 = .ok (.lreturn, 1) := by decide +kernel
theorem dX1_cut_42 : decode cX1_cut 42 = .ok (.lload_n 1, 1) := by decide +kernel
theorem dX1_cut_43 : decode cX1_cut 43 = .ok (.lreturn, 1) := by decide +kernel
theorem dX1_has_0 : decode cX1_has 0 = .ok (.iload_n 1, 1) := by decide +kernel
theorem dX1_has_1 : decode cX1_has 1 = .ok (.ifCond .lt 29, 3) := by decide +kernel
theorem dX1_has_4 : decode cX1_has 4 = .ok (.iload_n 2, 1) := by decide +kernel
theorem dX1_has_5 : decode cX1_has 5 = .ok (.ifCond .lt 25, 3) := by decide +kernel
theorem dX1_has_8 : decode cX1_has 8 = .ok (.iload_n 2, 1) := by decide +kernel
theorem dX1_has_9 : decode cX1_has 9 = .ok (.aload_n 0, 1) := by decide +kernel
theorem dX1_has_10 : decode cX1_has 10 = .ok (.getfield 25, 3) := by decide +kernel
theorem dX1_has_13 : decode cX1_has 13 = .ok (.if_icmp .gt 17, 3) := by decide +kernel
theorem dX1_has_16 : decode cX1_has 16 = .ok (.iload_n 1, 1) := by decide +kernel
theorem dX1_has_17 : decode cX1_has 17 = .ok (.aload_n 0, 1) := by decide +kernel
theorem dX1_has_18 : decode cX1_has 18 = .ok (.getfield 25, 3) := by decide +kernel
theorem dX1_has_21 : decode cX1_has 21 = .ok (.iload_n 2, 1) := by decide +kernel
theorem dX1_has_22 : decode cX1_has 22 = .ok (.isub, 1) := by decide +kernel
theorem dX1_has_23 : decode cX1_has 23 = .ok (.if_icmp .gt 7, 3) := by decide +kernel
theorem dX1_has_26 : decode cX1_has 26 = .ok (.iconst 1, 1) := by decide +kernel
theorem dX1_has_27 : decode cX1_has 27 = .ok (.goto 4, 3) := by decide +kernel
theorem dX1_has_30 : decode cX1_has 30 = .ok (.iconst 0, 1) := by decide +kernel
theorem dX1_has_31 : decode cX1_has 31 = .ok (.ireturn, 1) := by decide +kernel
theorem dX2_init_0 : decode cX2_init 0 = .ok (.aload_n 0, 1) := by decide +kernel
theorem dX2_init_1 : decode cX2_init 1 = .ok (.invokespecial 3, 3) := by decide +kernel
theorem dX2_init_4 : decode cX2_init 4 = .ok (.aload_n 0, 1) := by decide +kernel
theorem dX2_init_5 : decode cX2_init 5 = .ok (.bipush 120, 2) := by decide +kernel
theorem dX2_init_7 : decode cX2_init 7 = .ok (.newarray .int, 2) := by decide +kernel
theorem dX2_init_9 : decode cX2_init 9 = .ok (.putfield 9, 3) := by decide +kernel
theorem dX2_init_12 : decode cX2_init 12 = .ok (.return_, 1) := by decide +kernel
theorem dX2_append_0 : decode cX2_append 0 = .ok (.aload_n 0, 1) := by decide +kernel
theorem dX2_append_1 : decode cX2_append 1 = .ok (.getfield 15, 3) := by decide +kernel
theorem dX2_append_4 : decode cX2_append 4 = .ok (.bipush 120, 2) := by decide +kernel
theorem dX2_append_6 : decode cX2_append 6 = .ok (.if_icmp .ge 23, 3) := by decide +kernel
theorem dX2_append_9 : decode cX2_append 9 = .ok (.aload_n 0, 1) := by decide +kernel
theorem dX2_append_10 : decode cX2_append 10 = .ok (.getfield 9, 3) := by decide +kernel
theorem dX2_append_13 : decode cX2_append 13 = .ok (.aload_n 0, 1) := by decide +kernel
theorem dX2_append_14 : decode cX2_append 14 = .ok (.getfield 15, 3) := by decide +kernel
theorem dX2_append_17 : decode cX2_append 17 = .ok (.iload_n 1, 1) := by decide +kernel
theorem dX2_append_18 : decode cX2_append 18 = .ok (.iastore, 1) := by decide +kernel
theorem dX2_append_19 : decode cX2_append 19 = .ok (.aload_n 0, 1) := by decide +kernel
theorem dX2_append_20 : decode cX2_append 20 = .ok (.dup, 1) := by decide +kernel
theorem dX2_append_21 : decode cX2_append 21 = .ok (.getfield 15, 3) := by decide +kernel
theorem dX2_append_24 : decode cX2_append 24 = .ok (.iconst 1, 1) := by decide +kernel
theorem dX2_append_25 : decode cX2_append 25 = .ok (.iadd, 1) := by decide +kernel
theorem dX2_append_26 : decode cX2_append 26 = .ok (.putfield 15, 3) := by decide +kernel
theorem dX2_append_29 : decode cX2_append 29 = .ok (.return_, 1) := by decide +kernel
theorem dX2_comesTo_0 : decode cX2_comesTo 0 = .ok (.aload_n 0, 1) := by decide +kernel
theorem dX2_comesTo_1 : decode cX2_comesTo 1 = .ok (.iconst 0, 1) := by decide +kernel
theorem dX2_comesTo_2 : decode cX2_comesTo 2 = .ok (.putfield 19, 3) := by decide +kernel
theorem dX2_comesTo_5 : decode cX2_comesTo 5 = .ok (.aload_n 0, 1) := by decide +kernel
theorem dX2_comesTo_6 : decode cX2_comesTo 6 = .ok (.iconst 0, 1) := by decide +kernel
theorem dX2_comesTo_7 : decode cX2_comesTo 7 = .ok (.putfield 22, 3) := by decide +kernel
theorem dX2_comesTo_10 : decode cX2_comesTo 10 = .ok (.iconst 0, 1) := by decide +kernel
theorem dX2_comesTo_11 : decode cX2_comesTo 11 = .ok (.istore_n 2, 1) := by decide +kernel
theorem dX2_comesTo_12 : decode cX2_comesTo 12 = .ok (.iload_n 2, 1) := by decide +kernel
theorem dX2_comesTo_13 : decode cX2_comesTo 13 = .ok (.bipush 120, 2) := by decide +kernel
theorem dX2_comesTo_15 : decode cX2_comesTo 15 = .ok (.if_icmp .gt 54, 3) := by decide +kernel
theorem dX2_comesTo_18 : decode cX2_comesTo 18 = .ok (.aload_n 0, 1) := by decide +kernel
theorem dX2_comesTo_19 : decode cX2_comesTo 19 = .ok (.invokevirtual 25, 3) := by decide +kernel
theorem dX2_comesTo_22 : decode cX2_comesTo 22 = .ok (.aload_n 0, 1) := by decide +kernel
theorem dX2_comesTo_23 : decode cX2_comesTo 23 = .ok (.aload_n 1, 1) := by decide +kernel
theorem dX2_comesTo_24 : decode cX2_comesTo 24 = .ok (.invokevirtual 28, 3) := by decide +kernel
theorem dX2_comesTo_27 : decode cX2_comesTo 27 = .ok (.ifCond .ne 5, 3) := by decide +kernel
theorem dX2_comesTo_30 : decode cX2_comesTo 30 = .ok (.iconst 0, 1) := by decide +kernel
theorem dX2_comesTo_31 : decode cX2_comesTo 31 = .ok (.ireturn, 1) := by decide +kernel
theorem dX2_comesTo_32 : decode cX2_comesTo 32 = .ok (.aload_n 0, 1) := by decide +kernel
theorem dX2_comesTo_33 : decode cX2_comesTo 33 = .ok (.dup, 1) := by decide +kernel
theorem dX2_comesTo_34 : decode cX2_comesTo 34 = .ok (.getfield 19, 3) := by decide +kernel
theorem dX2_comesTo_37 : decode cX2_comesTo 37 = .ok (.iconst 1, 1) := by decide +kernel
theorem dX2_comesTo_38 : decode cX2_comesTo 38 = .ok (.iadd, 1) := by decide +kernel
theorem dX2_comesTo_39 : decode cX2_comesTo 39 = .ok (.putfield 19, 3) := by decide +kernel
theorem dX2_comesTo_42 : decode cX2_comesTo 42 = .ok (.aload_n 0, 1) := by decide +kernel
theorem dX2_comesTo_43 : decode cX2_comesTo 43 = .ok (.getfield 32, 3) := by decide +kernel
theorem dX2_comesTo_46 : decode cX2_comesTo 46 = .ok (.iconst 3, 1) := by decide +kernel
theorem dX2_comesTo_47 : decode cX2_comesTo 47 = .ok (.if_icmp .eq 16, 3) := by decide +kernel
theorem dX2_comesTo_50 : decode cX2_comesTo 50 = .ok (.aload_n 0, 1) := by decide +kernel
theorem dX2_comesTo_51 : decode cX2_comesTo 51 = .ok (.getfield 32, 3) := by decide +kernel
theorem dX2_comesTo_54 : decode cX2_comesTo 54 = .ok (.ifCond .ne 7, 3) := by decide +kernel
theorem dX2_comesTo_57 : decode cX2_comesTo 57 = .ok (.iconst 1, 1) := by decide +kernel
theorem dX2_comesTo_58 : decode cX2_comesTo 58 = .ok (.goto 4, 3) := by decide +kernel
theorem dX2_comesTo_61 : decode cX2_comesTo 61 = .ok (.iconst 0, 1) := by decide +kernel
theorem dX2_comesTo_62 : decode cX2_comesTo 62 = .ok (.ireturn, 1) := by decide +kernel
theorem dX2_comesTo_63 : decode cX2_comesTo 63 = .ok (.iinc 2 1, 3) := by decide +kernel
theorem dX2_comesTo_66 : decode cX2_comesTo 66 = .ok (.goto (-54), 3) := by decide +kernel
theorem dX2_comesTo_69 : decode cX2_comesTo 69 = .ok (.iconst 0, 1) := by decide +kernel
theorem dX2_comesTo_70 : decode cX2_comesTo 70 = .ok (.ireturn, 1) := by decide +kernel
theorem dX2_step_0 : decode cX2_step 0 = .ok (.aload_n 0, 1) := by decide +kernel
theorem dX2_step_1 : decode cX2_step 1 = .ok (.getfield 22, 3) := by decide +kernel
theorem dX2_step_4 : decode cX2_step 4 = .ok (.aload_n 0, 1) := by decide +kernel
theorem dX2_step_5 : decode cX2_step 5 = .ok (.getfield 15, 3) := by decide +kernel
theorem dX2_step_8 : decode cX2_step 8 = .ok (.if_icmp .ge 30, 3) := by decide +kernel
theorem dX2_step_11 : decode cX2_step 11 = .ok (.aload_n 0, 1) := by decide +kernel
theorem dX2_step_12 : decode cX2_step 12 = .ok (.getfield 9, 3) := by decide +kernel
theorem dX2_step_15 : decode cX2_step 15 = .ok (.aload_n 0, 1) := by decide +kernel
theorem dX2_step_16 : decode cX2_step 16 = .ok (.getfield 22, 3) := by decide +kernel
theorem dX2_step_19 : decode cX2_step 19 = .ok (.iaload, 1) := by decide +kernel
theorem dX2_step_20 : decode cX2_step 20 = .ok (.bipush 32, 2) := by decide +kernel
theorem dX2_step_22 : decode cX2_step 22 = .ok (.if_icmp .ne 16, 3) := by decide +kernel
theorem dX2_step_25 : decode cX2_step 25 = .ok (.aload_n 0, 1) := by decide +kernel
theorem dX2_step_26 : decode cX2_step 26 = .ok (.dup, 1) := by decide +kernel
theorem dX2_step_27 : decode cX2_step 27 = .ok (.getfield 22, 3) := by decide +kernel
theorem dX2_step_30 : decode cX2_step 30 = .ok (.iconst 1, 1) := by decide +kernel
theorem dX2_step_31 : decode cX2_step 31 = .ok (.iadd, 1) := by decide +kernel
theorem dX2_step_32 : decode cX2_step 32 = .ok (.putfield 22, 3) := by decide +kernel
theorem dX2_step_35 : decode cX2_step 35 = .ok (.goto (-35), 3) := by decide +kernel
theorem dX2_step_38 : decode cX2_step 38 = .ok (.aload_n 0, 1) := by decide +kernel
theorem dX2_step_39 : decode cX2_step 39 = .ok (.aload_n 0, 1) := by decide +kernel
theorem dX2_step_40 : decode cX2_step 40 = .ok (.getfield 22, 3) := by decide +kernel
theorem dX2_step_43 : decode cX2_step 43 = .ok (.putfield 35, 3) := by decide +kernel
theorem dX2_step_46 : decode cX2_step 46 = .ok (.aload_n 0, 1) := by decide +kernel
theorem dX2_step_47 : decode cX2_step 47 = .ok (.aload_n 0, 1) := by decide +kernel
theorem dX2_step_48 : decode cX2_step 48 = .ok (.aload_n 0, 1) := by decide +kernel
theorem dX2_step_49 : decode cX2_step 49 = .ok (.getfield 35, 3) := by decide +kernel
theorem dX2_step_52 : decode cX2_step 52 = .ok (.invokevirtual 38, 3) := by decide +kernel
theorem dX2_step_55 : decode cX2_step 55 = .ok (.putfield 32, 3) := by decide +kernel
theorem dX2_step_58 : decode cX2_step 58 = .ok (.aload_n 0, 1) := by decide +kernel
theorem dX2_step_59 : decode cX2_step 59 = .ok (.iconst 0, 1) := by decide +kernel
theorem dX2_step_60 : decode cX2_step 60 = .ok (.putfield 42, 3) := by decide +kernel
theorem dX2_step_63 : decode cX2_step 63 = .ok (.aload_n 0, 1) := by decide +kernel
theorem dX2_step_64 : decode cX2_step 64 = .ok (.getfield 32, 3) := by decide +kernel
theorem dX2_step_67 : decode cX2_step 67 = .ok (.iconst 3, 1) := by decide +kernel
theorem dX2_step_68 : decode cX2_step 68 = .ok (.if_icmp .eq 11, 3) := by decide +kernel
theorem dX2_step_71 : decode cX2_step 71 = .ok (.aload_n 0, 1) := by decide +kernel
theorem dX2_step_72 : decode cX2_step 72 = .ok (.getfield 32, 3) := by decide +kernel
theorem dX2_step_75 : decode cX2_step 75 = .ok (.iconst 4, 1) := by decide +kernel
theorem dX2_step_76 : decode cX2_step 76 = .ok (.if_icmp .ne 14, 3) := by decide +kernel
theorem dX2_step_79 : decode cX2_step 79 = .ok (.aload_n 0, 1) := by decide +kernel
theorem dX2_step_80 : decode cX2_step 80 = .ok (.dup, 1) := by decide +kernel
theorem dX2_step_81 : decode cX2_step 81 = .ok (.getfield 22, 3) := by decide +kernel
theorem dX2_step_84 : decode cX2_step 84 = .ok (.iconst 1, 1) := by decide +kernel
theorem dX2_step_85 : decode cX2_step 85 = .ok (.iadd, 1) := by decide +kernel
theorem dX2_step_86 : decode cX2_step 86 = .ok (.putfield 22, 3) := by decide +kernel
theorem dX2_step_89 : decode cX2_step 89 = .ok (.return_, 1) := by decide +kernel
theorem dX2_step_90 : decode cX2_step 90 = .ok (.aload_n 0, 1) := by decide +kernel
theorem dX2_step_91 : decode cX2_step 91 = .ok (.getfield 22, 3) := by decide +kernel
theorem dX2_step_94 : decode cX2_step 94 = .ok (.aload_n 0, 1) := by decide +kernel
theorem dX2_step_95 : decode cX2_step 95 = .ok (.getfield 15, 3) := by decide +kernel
theorem dX2_step_98 : decode cX2_step 98 = .ok (.if_icmp .ge 69, 3) := by decide +kernel
theorem dX2_step_101 : decode cX2_step 101 = .ok (.aload_n 0, 1) := by decide +kernel
theorem dX2_step_102 : decode cX2_step 102 = .ok (.aload_n 0, 1) := by decide +kernel
theorem dX2_step_103 : decode cX2_step 103 = .ok (.getfield 22, 3) := by decide +kernel
theorem dX2_step_106 : decode cX2_step 106 = .ok (.invokevirtual 38, 3) := by decide +kernel
theorem dX2_step_109 : decode cX2_step 109 = .ok (.aload_n 0, 1) := by decide +kernel
theorem dX2_step_110 : decode cX2_step 110 = .ok (.getfield 32, 3) := by decide +kernel
theorem dX2_step_113 : decode cX2_step 113 = .ok (.if_icmp .ne 54, 3) := by decide +kernel
theorem dX2_step_116 : decode cX2_step 116 = .ok (.aload_n 0, 1) := by decide +kernel
theorem dX2_step_117 : decode cX2_step 117 = .ok (.getfield 32, 3) := by decide +kernel
theorem dX2_step_120 : decode cX2_step 120 = .ok (.iconst 2, 1) := by decide +kernel
theorem dX2_step_121 : decode cX2_step 121 = .ok (.if_icmp .ne 33, 3) := by decide +kernel
theorem dX2_step_124 : decode cX2_step 124 = .ok (.aload_n 0, 1) := by decide +kernel
theorem dX2_step_125 : decode cX2_step 125 = .ok (.bipush 10, 2) := by decide +kernel
theorem dX2_step_127 : decode cX2_step 127 = .ok (.aload_n 0, 1) := by decide +kernel
theorem dX2_step_128 : decode cX2_step 128 = .ok (.getfield 42, 3) := by decide +kernel
theorem dX2_step_131 : decode cX2_step 131 = .ok (.imul, 1) := by decide +kernel
theorem dX2_step_132 : decode cX2_step 132 = .ok (.aload_n 0, 1) := by decide +kernel
theorem dX2_step_133 : decode cX2_step 133 = .ok (.getfield 9, 3) := by decide +kernel
theorem dX2_step_136 : decode cX2_step 136 = .ok (.aload_n 0, 1) := by decide +kernel
theorem dX2_step_137 : decode cX2_step 137 = .ok (.getfield 22, 3) := by decide +kernel
theorem dX2_step_140 : decode cX2_step 140 = .ok (.iaload, 1) := by decide +kernel
theorem dX2_step_141 : decode cX2_step 141 = .ok (.iadd, 1) := by decide +kernel
theorem dX2_step_142 : decode cX2_step 142 = .ok (.bipush 48, 2) := by decide +kernel
theorem dX2_step_144 : decode cX2_step 144 = .ok (.isub, 1) := by decide +kernel
theorem dX2_step_145 : decode cX2_step 145 = .ok (.sipush 1000, 3) := by decide +kernel
theorem dX2_step_148 : decode cX2_step 148 = .ok (.invokestatic 45, 3) := by decide +kernel
theorem dX2_step_151 : decode cX2_step 151 = .ok (.putfield 42, 3) := by decide +kernel
theorem dX2_step_154 : decode cX2_step 154 = .ok (.aload_n 0, 1) := by decide +kernel
theorem dX2_step_155 : decode cX2_step 155 = .ok (.dup, 1) := by decide +kernel
theorem dX2_step_156 : decode cX2_step 156 = .ok (.getfield 22, 3) := by decide +kernel
theorem dX2_step_159 : decode cX2_step 159 = .ok (.iconst 1, 1) := by decide +kernel
theorem dX2_step_160 : decode cX2_step 160 = .ok (.iadd, 1) := by decide +kernel
theorem dX2_step_161 : decode cX2_step 161 = .ok (.putfield 22, 3) := by decide +kernel
theorem dX2_step_164 : decode cX2_step 164 = .ok (.goto (-74), 3) := by decide +kernel
theorem dX2_step_167 : decode cX2_step 167 = .ok (.return_, 1) := by decide +kernel
theorem dX2_sortAt_0 : decode cX2_sortAt 0 = .ok (.iload_n 1, 1) := by decide +kernel
theorem dX2_sortAt_1 : decode cX2_sortAt 1 = .ok (.aload_n 0, 1) := by decide +kernel
theorem dX2_sortAt_2 : decode cX2_sortAt 2 = .ok (.getfield 15, 3) := by decide +kernel
theorem dX2_sortAt_5 : decode cX2_sortAt 5 = .ok (.if_icmp .lt 5, 3) := by decide +kernel
theorem dX2_sortAt_8 : decode cX2_sortAt 8 = .ok (.iconst 0, 1) := by decide +kernel
theorem dX2_sortAt_9 : decode cX2_sortAt 9 = .ok (.ireturn, 1) := by decide +kernel
theorem dX2_sortAt_10 : decode cX2_sortAt 10 = .ok (.aload_n 0, 1) := by decide +kernel
theorem dX2_sortAt_11 : decode cX2_sortAt 11 = .ok (.getfield 9, 3) := by decide +kernel
theorem dX2_sortAt_14 : decode cX2_sortAt 14 = .ok (.iload_n 1, 1) := by decide +kernel
theorem dX2_sortAt_15 : decode cX2_sortAt 15 = .ok (.iaload, 1) := by decide +kernel
theorem dX2_sortAt_16 : decode cX2_sortAt 16 = .ok (.istore_n 2, 1) := by decide +kernel
theorem dX2_sortAt_17 : decode cX2_sortAt 17 = .ok (.iload_n 2, 1) := by decide +kernel
theorem dX2_sortAt_18 : decode cX2_sortAt 18 = .ok (.bipush 97, 2) := by decide +kernel
theorem dX2_sortAt_20 : decode cX2_sortAt 20 = .ok (.if_icmp .lt 11, 3) := by decide +kernel
theorem dX2_sortAt_23 : decode cX2_sortAt 23 = .ok (.iload_n 2, 1) := by decide +kernel
theorem dX2_sortAt_24 : decode cX2_sortAt 24 = .ok (.bipush 122, 2) := by decide +kernel
theorem dX2_sortAt_26 : decode cX2_sortAt 26 = .ok (.if_icmp .gt 5, 3) := by decide +kernel
theorem dX2_sortAt_29 : decode cX2_sortAt 29 = .ok (.iconst 1, 1) := by decide +kernel
theorem dX2_sortAt_30 : decode cX2_sortAt 30 = .ok (.ireturn, 1) := by decide +kernel
theorem dX2_sortAt_31 : decode cX2_sortAt 31 = .ok (.iload_n 2, 1) := by decide +kernel
theorem dX2_sortAt_32 : decode cX2_sortAt 32 = .ok (.bipush 48, 2) := by decide +kernel
theorem dX2_sortAt_34 : decode cX2_sortAt 34 = .ok (.if_icmp .lt 11, 3) := by decide +kernel
theorem dX2_sortAt_37 : decode cX2_sortAt 37 = .ok (.iload_n 2, 1) := by decide +kernel
theorem dX2_sortAt_38 : decode cX2_sortAt 38 = .ok (.bipush 57, 2) := by decide +kernel
theorem dX2_sortAt_40 : decode cX2_sortAt 40 = .ok (.if_icmp .gt 5, 3) := by decide +kernel
theorem dX2_sortAt_43 : decode cX2_sortAt 43 = .ok (.iconst 2, 1) := by decide +kernel
theorem dX2_sortAt_44 : decode cX2_sortAt 44 = .ok (.ireturn, 1) := by decide +kernel
theorem dX2_sortAt_45 : decode cX2_sortAt 45 = .ok (.iload_n 2, 1) := by decide +kernel
theorem dX2_sortAt_46 : decode cX2_sortAt 46 = .ok (.bipush 59, 2) := by decide +kernel
theorem dX2_sortAt_48 : decode cX2_sortAt 48 = .ok (.if_icmp .ne 7, 3) := by decide +kernel
theorem dX2_sortAt_51 : decode cX2_sortAt 51 = .ok (.iconst 3, 1) := by decide +kernel
theorem dX2_sortAt_52 : decode cX2_sortAt 52 = .ok (.goto 4, 3) := by decide +kernel
theorem dX2_sortAt_55 : decode cX2_sortAt 55 = .ok (.iconst 4, 1) := by decide +kernel
theorem dX2_sortAt_56 : decode cX2_sortAt 56 = .ok (.ireturn, 1) := by decide +kernel
theorem dX2_isWord_0 : decode cX2_isWord 0 = .ok (.aload_n 0, 1) := by decide +kernel
theorem dX2_isWord_1 : decode cX2_isWord 1 = .ok (.getfield 32, 3) := by decide +kernel
theorem dX2_isWord_4 : decode cX2_isWord 4 = .ok (.iconst 1, 1) := by decide +kernel
theorem dX2_isWord_5 : decode cX2_isWord 5 = .ok (.if_icmp .ne 19, 3) := by decide +kernel
theorem dX2_isWord_8 : decode cX2_isWord 8 = .ok (.aload_n 0, 1) := by decide +kernel
theorem dX2_isWord_9 : decode cX2_isWord 9 = .ok (.getfield 22, 3) := by decide +kernel
theorem dX2_isWord_12 : decode cX2_isWord 12 = .ok (.aload_n 0, 1) := by decide +kernel
theorem dX2_isWord_13 : decode cX2_isWord 13 = .ok (.getfield 35, 3) := by decide +kernel
theorem dX2_isWord_16 : decode cX2_isWord 16 = .ok (.isub, 1) := by decide +kernel
theorem dX2_isWord_17 : decode cX2_isWord 17 = .ok (.aload_n 1, 1) := by decide +kernel
theorem dX2_isWord_18 : decode cX2_isWord 18 = .ok (.invokevirtual 51, 3) := by decide +kernel
theorem dX2_isWord_21 : decode cX2_isWord 21 = .ok (.if_icmp .eq 5, 3) := by decide +kernel
theorem dX2_isWord_24 : decode cX2_isWord 24 = .ok (.iconst 0, 1) := by decide +kernel
theorem dX2_isWord_25 : decode cX2_isWord 25 = .ok (.ireturn, 1) := by decide +kernel
theorem dX2_isWord_26 : decode cX2_isWord 26 = .ok (.iconst 0, 1) := by decide +kernel
theorem dX2_isWord_27 : decode cX2_isWord 27 = .ok (.istore_n 2, 1) := by decide +kernel
theorem dX2_isWord_28 : decode cX2_isWord 28 = .ok (.iload_n 2, 1) := by decide +kernel
theorem dX2_isWord_29 : decode cX2_isWord 29 = .ok (.aload_n 1, 1) := by decide +kernel
theorem dX2_isWord_30 : decode cX2_isWord 30 = .ok (.invokevirtual 51, 3) := by decide +kernel
theorem dX2_isWord_33 : decode cX2_isWord 33 = .ok (.if_icmp .ge 30, 3) := by decide +kernel
theorem dX2_isWord_36 : decode cX2_isWord 36 = .ok (.aload_n 0, 1) := by decide +kernel
theorem dX2_isWord_37 : decode cX2_isWord 37 = .ok (.getfield 9, 3) := by decide +kernel
theorem dX2_isWord_40 : decode cX2_isWord 40 = .ok (.aload_n 0, 1) := by decide +kernel
theorem dX2_isWord_41 : decode cX2_isWord 41 = .ok (.getfield 35, 3) := by decide +kernel
theorem dX2_isWord_44 : decode cX2_isWord 44 = .ok (.iload_n 2, 1) := by decide +kernel
theorem dX2_isWord_45 : decode cX2_isWord 45 = .ok (.iadd, 1) := by decide +kernel
theorem dX2_isWord_46 : decode cX2_isWord 46 = .ok (.iaload, 1) := by decide +kernel
theorem dX2_isWord_47 : decode cX2_isWord 47 = .ok (.aload_n 1, 1) := by decide +kernel
theorem dX2_isWord_48 : decode cX2_isWord 48 = .ok (.iload_n 2, 1) := by decide +kernel
theorem dX2_isWord_49 : decode cX2_isWord 49 = .ok (.invokevirtual 56, 3) := by decide +kernel
theorem dX2_isWord_52 : decode cX2_isWord 52 = .ok (.if_icmp .eq 5, 3) := by decide +kernel
theorem dX2_isWord_55 : decode cX2_isWord 55 = .ok (.iconst 0, 1) := by decide +kernel
theorem dX2_isWord_56 : decode cX2_isWord 56 = .ok (.ireturn, 1) := by decide +kernel
theorem dX2_isWord_57 : decode cX2_isWord 57 = .ok (.iinc 2 1, 3) := by decide +kernel
theorem dX2_isWord_60 : decode cX2_isWord 60 = .ok (.goto (-32), 3) := by decide +kernel
theorem dX2_isWord_63 : decode cX2_isWord 63 = .ok (.iconst 1, 1) := by decide +kernel
theorem dX2_isWord_64 : decode cX2_isWord 64 = .ok (.ireturn, 1) := by decide +kernel
theorem dX2_isNumber_0 : decode cX2_isNumber 0 = .ok (.aload_n 0, 1) := by decide +kernel
theorem dX2_isNumber_1 : decode cX2_isNumber 1 = .ok (.getfield 32, 3) := by decide +kernel
theorem dX2_isNumber_4 : decode cX2_isNumber 4 = .ok (.iconst 2, 1) := by decide +kernel
theorem dX2_isNumber_5 : decode cX2_isNumber 5 = .ok (.if_icmp .ne 15, 3) := by decide +kernel
theorem dX2_isNumber_8 : decode cX2_isNumber 8 = .ok (.aload_n 0, 1) := by decide +kernel
theorem dX2_isNumber_9 : decode cX2_isNumber 9 = .ok (.getfield 42, 3) := by decide +kernel
theorem dX2_isNumber_12 : decode cX2_isNumber 12 = .ok (.iload_n 1, 1) := by decide +kernel
theorem dX2_isNumber_13 : decode cX2_isNumber 13 = .ok (.if_icmp .gt 7, 3) := by decide +kernel
theorem dX2_isNumber_16 : decode cX2_isNumber 16 = .ok (.iconst 1, 1) := by decide +kernel
theorem dX2_isNumber_17 : decode cX2_isNumber 17 = .ok (.goto 4, 3) := by decide +kernel
theorem dX2_isNumber_20 : decode cX2_isNumber 20 = .ok (.iconst 0, 1) := by decide +kernel
theorem dX2_isNumber_21 : decode cX2_isNumber 21 = .ok (.ireturn, 1) := by decide +kernel
theorem dX2_takesItem_0 : decode cX2_takesItem 0 = .ok (.aload_n 0, 1) := by decide +kernel
theorem dX2_takesItem_1 : decode cX2_takesItem 1 = .ok (.invokevirtual 60, 3) := by decide +kernel
theorem dX2_takesItem_4 : decode cX2_takesItem 4 = .ok (.istore_n 2, 1) := by decide +kernel
theorem dX2_takesItem_5 : decode cX2_takesItem 5 = .ok (.iload_n 2, 1) := by decide +kernel
theorem dX2_takesItem_6 : decode cX2_takesItem 6 = .ok (.invokestatic 63, 3) := by decide +kernel
theorem dX2_takesItem_9 : decode cX2_takesItem 9 = .ok (.ifCond .eq 10, 3) := by decide +kernel
theorem dX2_takesItem_12 : decode cX2_takesItem 12 = .ok (.aload_n 0, 1) := by decide +kernel
theorem dX2_takesItem_13 : decode cX2_takesItem 13 = .ok (.aload_n 1, 1) := by decide +kernel
theorem dX2_takesItem_14 : decode cX2_takesItem 14 = .ok (.iload_n 2, 1) := by decide +kernel
theorem dX2_takesItem_15 : decode cX2_takesItem 15 = .ok (.invokevirtual 67, 3) := by decide +kernel
theorem dX2_takesItem_18 : decode cX2_takesItem 18 = .ok (.ireturn, 1) := by decide +kernel
theorem dX2_takesItem_19 : decode cX2_takesItem 19 = .ok (.aload_n 0, 1) := by decide +kernel
theorem dX2_takesItem_20 : decode cX2_takesItem 20 = .ok (.ldc 71, 2) := by decide +kernel
theorem dX2_takesItem_22 : decode cX2_takesItem 22 = .ok (.invokevirtual 73, 3) := by decide +kernel
theorem dX2_takesItem_25 : decode cX2_takesItem 25 = .ok (.ifCond .eq 9, 3) := by decide +kernel
theorem dX2_takesItem_28 : decode cX2_takesItem 28 = .ok (.aload_n 0, 1) := by decide +kernel
theorem dX2_takesItem_29 : decode cX2_takesItem 29 = .ok (.aload_n 1, 1) := by decide +kernel
theorem dX2_takesItem_30 : decode cX2_takesItem 30 = .ok (.invokevirtual 77, 3) := by decide +kernel
theorem dX2_takesItem_33 : decode cX2_takesItem 33 = .ok (.ireturn, 1) := by decide +kernel
theorem dX2_takesItem_34 : decode cX2_takesItem 34 = .ok (.aload_n 0, 1) := by decide +kernel
theorem dX2_takesItem_35 : decode cX2_takesItem 35 = .ok (.ldc 80, 2) := by decide +kernel
theorem dX2_takesItem_37 : decode cX2_takesItem 37 = .ok (.invokevirtual 73, 3) := by decide +kernel
theorem dX2_takesItem_40 : decode cX2_takesItem 40 = .ok (.ifCond .eq 10, 3) := by decide +kernel
theorem dX2_takesItem_43 : decode cX2_takesItem 43 = .ok (.aload_n 0, 1) := by decide +kernel
theorem dX2_takesItem_44 : decode cX2_takesItem 44 = .ok (.aload_n 1, 1) := by decide +kernel
theorem dX2_takesItem_45 : decode cX2_takesItem 45 = .ok (.iconst 1, 1) := by decide +kernel
theorem dX2_takesItem_46 : decode cX2_takesItem 46 = .ok (.invokevirtual 82, 3) := by decide +kernel
theorem dX2_takesItem_49 : decode cX2_takesItem 49 = .ok (.ireturn, 1) := by decide +kernel
theorem dX2_takesItem_50 : decode cX2_takesItem 50 = .ok (.aload_n 0, 1) := by decide +kernel
theorem dX2_takesItem_51 : decode cX2_takesItem 51 = .ok (.ldc 86, 2) := by decide +kernel
theorem dX2_takesItem_53 : decode cX2_takesItem 53 = .ok (.invokevirtual 73, 3) := by decide +kernel
theorem dX2_takesItem_56 : decode cX2_takesItem 56 = .ok (.ifCond .eq 16, 3) := by decide +kernel
theorem dX2_takesItem_59 : decode cX2_takesItem 59 = .ok (.aload_n 0, 1) := by decide +kernel
theorem dX2_takesItem_60 : decode cX2_takesItem 60 = .ok (.aload_n 1, 1) := by decide +kernel
theorem dX2_takesItem_61 : decode cX2_takesItem 61 = .ok (.iconst 0, 1) := by decide +kernel
theorem dX2_takesItem_62 : decode cX2_takesItem 62 = .ok (.invokevirtual 82, 3) := by decide +kernel
theorem dX2_takesItem_65 : decode cX2_takesItem 65 = .ok (.ifCond .eq 7, 3) := by decide +kernel
theorem dX2_takesItem_68 : decode cX2_takesItem 68 = .ok (.iconst 1, 1) := by decide +kernel
theorem dX2_takesItem_69 : decode cX2_takesItem 69 = .ok (.goto 4, 3) := by decide +kernel
theorem dX2_takesItem_72 : decode cX2_takesItem 72 = .ok (.iconst 0, 1) := by decide +kernel
theorem dX2_takesItem_73 : decode cX2_takesItem 73 = .ok (.ireturn, 1) := by decide +kernel
theorem dX2_kindNamed_0 : decode cX2_kindNamed 0 = .ok (.iconst 0, 1) := by decide +kernel
theorem dX2_kindNamed_1 : decode cX2_kindNamed 1 = .ok (.istore_n 1, 1) := by decide +kernel
theorem dX2_kindNamed_2 : decode cX2_kindNamed 2 = .ok (.iload_n 1, 1) := by decide +kernel
theorem dX2_kindNamed_3 : decode cX2_kindNamed 3 = .ok (.bipush 6, 2) := by decide +kernel
theorem dX2_kindNamed_5 : decode cX2_kindNamed 5 = .ok (.if_icmp .ge 22, 3) := by decide +kernel
theorem dX2_kindNamed_8 : decode cX2_kindNamed 8 = .ok (.aload_n 0, 1) := by decide +kernel
theorem dX2_kindNamed_9 : decode cX2_kindNamed 9 = .ok (.iload_n 1, 1) := by decide +kernel
theorem dX2_kindNamed_10 : decode cX2_kindNamed 10 = .ok (.invokestatic 88, 3) := by decide +kernel
theorem dX2_kindNamed_13 : decode cX2_kindNamed 13 = .ok (.invokevirtual 73, 3) := by decide +kernel
theorem dX2_kindNamed_16 : decode cX2_kindNamed 16 = .ok (.ifCond .eq 5, 3) := by decide +kernel
theorem dX2_kindNamed_19 : decode cX2_kindNamed 19 = .ok (.iload_n 1, 1) := by decide +kernel
theorem dX2_kindNamed_20 : decode cX2_kindNamed 20 = .ok (.ireturn, 1) := by decide +kernel
theorem dX2_kindNamed_21 : decode cX2_kindNamed 21 = .ok (.iinc 1 1, 3) := by decide +kernel
theorem dX2_kindNamed_24 : decode cX2_kindNamed 24 = .ok (.goto (-22), 3) := by decide +kernel
theorem dX2_kindNamed_27 : decode cX2_kindNamed 27 = .ok (.iconst (-1), 1) := by decide +kernel
theorem dX2_kindNamed_28 : decode cX2_kindNamed 28 = .ok (.ireturn, 1) := by decide +kernel
theorem dX2_nameOf_0 : decode cX2_nameOf 0 = .ok (.iload_n 0, 1) := by decide +kernel
theorem dX2_nameOf_1 : decode cX2_nameOf 1 = .ok (.tableswitch 50 1 5 #[35, 38, 41, 44, 47], 35) := by decide +kernel
theorem dX2_nameOf_36 : decode cX2_nameOf 36 = .ok (.ldc 92, 2) := by decide +kernel
theorem dX2_nameOf_38 : decode cX2_nameOf 38 = .ok (.areturn, 1) := by decide +kernel
theorem dX2_nameOf_39 : decode cX2_nameOf 39 = .ok (.ldc 94, 2) := by decide +kernel
theorem dX2_nameOf_41 : decode cX2_nameOf 41 = .ok (.areturn, 1) := by decide +kernel
theorem dX2_nameOf_42 : decode cX2_nameOf 42 = .ok (.ldc 96, 2) := by decide +kernel
theorem dX2_nameOf_44 : decode cX2_nameOf 44 = .ok (.areturn, 1) := by decide +kernel
theorem dX2_nameOf_45 : decode cX2_nameOf 45 = .ok (.ldc 98, 2) := by decide +kernel
theorem dX2_nameOf_47 : decode cX2_nameOf 47 = .ok (.areturn, 1) := by decide +kernel
theorem dX2_nameOf_48 : decode cX2_nameOf 48 = .ok (.ldc 100, 2) := by decide +kernel
theorem dX2_nameOf_50 : decode cX2_nameOf 50 = .ok (.areturn, 1) := by decide +kernel
theorem dX2_nameOf_51 : decode cX2_nameOf 51 = .ok (.ldc 102, 2) := by decide +kernel
theorem dX2_nameOf_53 : decode cX2_nameOf 53 = .ok (.areturn, 1) := by decide +kernel
theorem dX2_takesPerson_0 : decode cX2_takesPerson 0 = .ok (.aload_n 1, 1) := by decide +kernel
theorem dX2_takesPerson_1 : decode cX2_takesPerson 1 = .ok (.getfield 104, 3) := by decide +kernel
theorem dX2_takesPerson_4 : decode cX2_takesPerson 4 = .ok (.bipush 8, 2) := by decide +kernel
theorem dX2_takesPerson_6 : decode cX2_takesPerson 6 = .ok (.if_icmp .lt 5, 3) := by decide +kernel
theorem dX2_takesPerson_9 : decode cX2_takesPerson 9 = .ok (.iconst 0, 1) := by decide +kernel
theorem dX2_takesPerson_10 : decode cX2_takesPerson 10 = .ok (.ireturn, 1) := by decide +kernel
theorem dX2_takesPerson_11 : decode cX2_takesPerson 11 = .ok (.aload_n 1, 1) := by decide +kernel
theorem dX2_takesPerson_12 : decode cX2_takesPerson 12 = .ok (.iload_n 2, 1) := by decide +kernel
theorem dX2_takesPerson_13 : decode cX2_takesPerson 13 = .ok (.invokevirtual 109, 3) := by decide +kernel
theorem dX2_takesPerson_16 : decode cX2_takesPerson 16 = .ok (.istore_n 3, 1) := by decide +kernel
theorem dX2_takesPerson_17 : decode cX2_takesPerson 17 = .ok (.aload_n 0, 1) := by decide +kernel
theorem dX2_takesPerson_18 : decode cX2_takesPerson 18 = .ok (.invokevirtual 25, 3) := by decide +kernel
theorem dX2_takesPerson_21 : decode cX2_takesPerson 21 = .ok (.aload_n 0, 1) := by decide +kernel
theorem dX2_takesPerson_22 : decode cX2_takesPerson 22 = .ok (.ldc 112, 2) := by decide +kernel
theorem dX2_takesPerson_24 : decode cX2_takesPerson 24 = .ok (.aload_n 1, 1) := by decide +kernel
theorem dX2_takesPerson_25 : decode cX2_takesPerson 25 = .ok (.getfield 114, 3) := by decide +kernel
theorem dX2_takesPerson_28 : decode cX2_takesPerson 28 = .ok (.iload_n 3, 1) := by decide +kernel
theorem dX2_takesPerson_29 : decode cX2_takesPerson 29 = .ok (.bipush 99, 2) := by decide +kernel
theorem dX2_takesPerson_31 : decode cX2_takesPerson 31 = .ok (.invokevirtual 117, 3) := by decide +kernel
theorem dX2_takesPerson_34 : decode cX2_takesPerson 34 = .ok (.ifCond .ne 5, 3) := by decide +kernel
theorem dX2_takesPerson_37 : decode cX2_takesPerson 37 = .ok (.iconst 0, 1) := by decide +kernel
theorem dX2_takesPerson_38 : decode cX2_takesPerson 38 = .ok (.ireturn, 1) := by decide +kernel
theorem dX2_takesPerson_39 : decode cX2_takesPerson 39 = .ok (.aload_n 0, 1) := by decide +kernel
theorem dX2_takesPerson_40 : decode cX2_takesPerson 40 = .ok (.ldc 121, 2) := by decide +kernel
theorem dX2_takesPerson_42 : decode cX2_takesPerson 42 = .ok (.aload_n 1, 1) := by decide +kernel
theorem dX2_takesPerson_43 : decode cX2_takesPerson 43 = .ok (.getfield 123, 3) := by decide +kernel
theorem dX2_takesPerson_46 : decode cX2_takesPerson 46 = .ok (.iload_n 3, 1) := by decide +kernel
theorem dX2_takesPerson_47 : decode cX2_takesPerson 47 = .ok (.bipush 7, 2) := by decide +kernel
theorem dX2_takesPerson_49 : decode cX2_takesPerson 49 = .ok (.invokevirtual 117, 3) := by decide +kernel
theorem dX2_takesPerson_52 : decode cX2_takesPerson 52 = .ok (.ifCond .ne 5, 3) := by decide +kernel
theorem dX2_takesPerson_55 : decode cX2_takesPerson 55 = .ok (.iconst 0, 1) := by decide +kernel
theorem dX2_takesPerson_56 : decode cX2_takesPerson 56 = .ok (.ireturn, 1) := by decide +kernel
theorem dX2_takesPerson_57 : decode cX2_takesPerson 57 = .ok (.aload_n 0, 1) := by decide +kernel
theorem dX2_takesPerson_58 : decode cX2_takesPerson 58 = .ok (.ldc 125, 2) := by decide +kernel
theorem dX2_takesPerson_60 : decode cX2_takesPerson 60 = .ok (.invokevirtual 73, 3) := by decide +kernel
theorem dX2_takesPerson_63 : decode cX2_takesPerson 63 = .ok (.ifCond .eq 44, 3) := by decide +kernel
theorem dX2_takesPerson_66 : decode cX2_takesPerson 66 = .ok (.aload_n 0, 1) := by decide +kernel
theorem dX2_takesPerson_67 : decode cX2_takesPerson 67 = .ok (.invokevirtual 25, 3) := by decide +kernel
theorem dX2_takesPerson_70 : decode cX2_takesPerson 70 = .ok (.aload_n 0, 1) := by decide +kernel
theorem dX2_takesPerson_71 : decode cX2_takesPerson 71 = .ok (.bipush 7, 2) := by decide +kernel
theorem dX2_takesPerson_73 : decode cX2_takesPerson 73 = .ok (.invokevirtual 127, 3) := by decide +kernel
theorem dX2_takesPerson_76 : decode cX2_takesPerson 76 = .ok (.ifCond .eq 16, 3) := by decide +kernel
theorem dX2_takesPerson_79 : decode cX2_takesPerson 79 = .ok (.aload_n 1, 1) := by decide +kernel
theorem dX2_takesPerson_80 : decode cX2_takesPerson 80 = .ok (.getfield 130, 3) := by decide +kernel
theorem dX2_takesPerson_83 : decode cX2_takesPerson 83 = .ok (.aload_n 0, 1) := by decide +kernel
theorem dX2_takesPerson_84 : decode cX2_takesPerson 84 = .ok (.getfield 42, 3) := by decide +kernel
theorem dX2_takesPerson_87 : decode cX2_takesPerson 87 = .ok (.iaload, 1) := by decide +kernel
theorem dX2_takesPerson_88 : decode cX2_takesPerson 88 = .ok (.iconst (-1), 1) := by decide +kernel
theorem dX2_takesPerson_89 : decode cX2_takesPerson 89 = .ok (.if_icmp .eq 5, 3) := by decide +kernel
theorem dX2_takesPerson_92 : decode cX2_takesPerson 92 = .ok (.iconst 0, 1) := by decide +kernel
theorem dX2_takesPerson_93 : decode cX2_takesPerson 93 = .ok (.ireturn, 1) := by decide +kernel
theorem dX2_takesPerson_94 : decode cX2_takesPerson 94 = .ok (.aload_n 1, 1) := by decide +kernel
theorem dX2_takesPerson_95 : decode cX2_takesPerson 95 = .ok (.iload_n 3, 1) := by decide +kernel
theorem dX2_takesPerson_96 : decode cX2_takesPerson 96 = .ok (.aload_n 0, 1) := by decide +kernel
theorem dX2_takesPerson_97 : decode cX2_takesPerson 97 = .ok (.getfield 42, 3) := by decide +kernel
theorem dX2_takesPerson_100 : decode cX2_takesPerson 100 = .ok (.invokevirtual 133, 3) := by decide +kernel
theorem dX2_takesPerson_103 : decode cX2_takesPerson 103 = .ok (.aload_n 0, 1) := by decide +kernel
theorem dX2_takesPerson_104 : decode cX2_takesPerson 104 = .ok (.invokevirtual 25, 3) := by decide +kernel
theorem dX2_takesPerson_107 : decode cX2_takesPerson 107 = .ok (.iconst 1, 1) := by decide +kernel
theorem dX2_takesPerson_108 : decode cX2_takesPerson 108 = .ok (.ireturn, 1) := by decide +kernel
theorem dX2_takesChair_0 : decode cX2_takesChair 0 = .ok (.aload_n 0, 1) := by decide +kernel
theorem dX2_takesChair_1 : decode cX2_takesChair 1 = .ok (.invokevirtual 25, 3) := by decide +kernel
theorem dX2_takesChair_4 : decode cX2_takesChair 4 = .ok (.aload_n 0, 1) := by decide +kernel
theorem dX2_takesChair_5 : decode cX2_takesChair 5 = .ok (.bipush 7, 2) := by decide +kernel
theorem dX2_takesChair_7 : decode cX2_takesChair 7 = .ok (.invokevirtual 127, 3) := by decide +kernel
theorem dX2_takesChair_10 : decode cX2_takesChair 10 = .ok (.ifCond .ne 5, 3) := by decide +kernel
theorem dX2_takesChair_13 : decode cX2_takesChair 13 = .ok (.iconst 0, 1) := by decide +kernel
theorem dX2_takesChair_14 : decode cX2_takesChair 14 = .ok (.ireturn, 1) := by decide +kernel
theorem dX2_takesChair_15 : decode cX2_takesChair 15 = .ok (.aload_n 0, 1) := by decide +kernel
theorem dX2_takesChair_16 : decode cX2_takesChair 16 = .ok (.getfield 42, 3) := by decide +kernel
theorem dX2_takesChair_19 : decode cX2_takesChair 19 = .ok (.istore_n 2, 1) := by decide +kernel
theorem dX2_takesChair_20 : decode cX2_takesChair 20 = .ok (.aload_n 0, 1) := by decide +kernel
theorem dX2_takesChair_21 : decode cX2_takesChair 21 = .ok (.invokevirtual 25, 3) := by decide +kernel
theorem dX2_takesChair_24 : decode cX2_takesChair 24 = .ok (.aload_n 0, 1) := by decide +kernel
theorem dX2_takesChair_25 : decode cX2_takesChair 25 = .ok (.ldc 137, 2) := by decide +kernel
theorem dX2_takesChair_27 : decode cX2_takesChair 27 = .ok (.aload_n 1, 1) := by decide +kernel
theorem dX2_takesChair_28 : decode cX2_takesChair 28 = .ok (.getfield 139, 3) := by decide +kernel
theorem dX2_takesChair_31 : decode cX2_takesChair 31 = .ok (.iload_n 2, 1) := by decide +kernel
theorem dX2_takesChair_32 : decode cX2_takesChair 32 = .ok (.bipush 20, 2) := by decide +kernel
theorem dX2_takesChair_34 : decode cX2_takesChair 34 = .ok (.invokevirtual 117, 3) := by decide +kernel
theorem dX2_takesChair_37 : decode cX2_takesChair 37 = .ok (.ifCond .eq 23, 3) := by decide +kernel
theorem dX2_takesChair_40 : decode cX2_takesChair 40 = .ok (.aload_n 0, 1) := by decide +kernel
theorem dX2_takesChair_41 : decode cX2_takesChair 41 = .ok (.ldc 142, 2) := by decide +kernel
theorem dX2_takesChair_43 : decode cX2_takesChair 43 = .ok (.aload_n 1, 1) := by decide +kernel
theorem dX2_takesChair_44 : decode cX2_takesChair 44 = .ok (.getfield 144, 3) := by decide +kernel
theorem dX2_takesChair_47 : decode cX2_takesChair 47 = .ok (.iload_n 2, 1) := by decide +kernel
theorem dX2_takesChair_48 : decode cX2_takesChair 48 = .ok (.bipush 9, 2) := by decide +kernel
theorem dX2_takesChair_50 : decode cX2_takesChair 50 = .ok (.invokevirtual 117, 3) := by decide +kernel
theorem dX2_takesChair_53 : decode cX2_takesChair 53 = .ok (.ifCond .eq 7, 3) := by decide +kernel
theorem dX2_takesChair_56 : decode cX2_takesChair 56 = .ok (.iconst 1, 1) := by decide +kernel
theorem dX2_takesChair_57 : decode cX2_takesChair 57 = .ok (.goto 4, 3) := by decide +kernel
theorem dX2_takesChair_60 : decode cX2_takesChair 60 = .ok (.iconst 0, 1) := by decide +kernel
theorem dX2_takesChair_61 : decode cX2_takesChair 61 = .ok (.ireturn, 1) := by decide +kernel
theorem dX2_takesTwo_0 : decode cX2_takesTwo 0 = .ok (.aload_n 0, 1) := by decide +kernel
theorem dX2_takesTwo_1 : decode cX2_takesTwo 1 = .ok (.invokevirtual 25, 3) := by decide +kernel
theorem dX2_takesTwo_4 : decode cX2_takesTwo 4 = .ok (.aload_n 0, 1) := by decide +kernel
theorem dX2_takesTwo_5 : decode cX2_takesTwo 5 = .ok (.aload_n 1, 1) := by decide +kernel
theorem dX2_takesTwo_6 : decode cX2_takesTwo 6 = .ok (.getfield 104, 3) := by decide +kernel
theorem dX2_takesTwo_9 : decode cX2_takesTwo 9 = .ok (.iconst 1, 1) := by decide +kernel
theorem dX2_takesTwo_10 : decode cX2_takesTwo 10 = .ok (.isub, 1) := by decide +kernel
theorem dX2_takesTwo_11 : decode cX2_takesTwo 11 = .ok (.invokevirtual 127, 3) := by decide +kernel
theorem dX2_takesTwo_14 : decode cX2_takesTwo 14 = .ok (.ifCond .ne 5, 3) := by decide +kernel
theorem dX2_takesTwo_17 : decode cX2_takesTwo 17 = .ok (.iconst 0, 1) := by decide +kernel
theorem dX2_takesTwo_18 : decode cX2_takesTwo 18 = .ok (.ireturn, 1) := by decide +kernel
theorem dX2_takesTwo_19 : decode cX2_takesTwo 19 = .ok (.aload_n 0, 1) := by decide +kernel
theorem dX2_takesTwo_20 : decode cX2_takesTwo 20 = .ok (.getfield 42, 3) := by decide +kernel
theorem dX2_takesTwo_23 : decode cX2_takesTwo 23 = .ok (.istore_n 3, 1) := by decide +kernel
theorem dX2_takesTwo_24 : decode cX2_takesTwo 24 = .ok (.aload_n 0, 1) := by decide +kernel
theorem dX2_takesTwo_25 : decode cX2_takesTwo 25 = .ok (.invokevirtual 25, 3) := by decide +kernel
theorem dX2_takesTwo_28 : decode cX2_takesTwo 28 = .ok (.aload_n 0, 1) := by decide +kernel
theorem dX2_takesTwo_29 : decode cX2_takesTwo 29 = .ok (.aload_n 1, 1) := by decide +kernel
theorem dX2_takesTwo_30 : decode cX2_takesTwo 30 = .ok (.getfield 104, 3) := by decide +kernel
theorem dX2_takesTwo_33 : decode cX2_takesTwo 33 = .ok (.iconst 1, 1) := by decide +kernel
theorem dX2_takesTwo_34 : decode cX2_takesTwo 34 = .ok (.isub, 1) := by decide +kernel
theorem dX2_takesTwo_35 : decode cX2_takesTwo 35 = .ok (.invokevirtual 127, 3) := by decide +kernel
theorem dX2_takesTwo_38 : decode cX2_takesTwo 38 = .ok (.ifCond .eq 11, 3) := by decide +kernel
theorem dX2_takesTwo_41 : decode cX2_takesTwo 41 = .ok (.aload_n 0, 1) := by decide +kernel
theorem dX2_takesTwo_42 : decode cX2_takesTwo 42 = .ok (.getfield 42, 3) := by decide +kernel
theorem dX2_takesTwo_45 : decode cX2_takesTwo 45 = .ok (.iload_n 3, 1) := by decide +kernel
theorem dX2_takesTwo_46 : decode cX2_takesTwo 46 = .ok (.if_icmp .ne 5, 3) := by decide +kernel
theorem dX2_takesTwo_49 : decode cX2_takesTwo 49 = .ok (.iconst 0, 1) := by decide +kernel
theorem dX2_takesTwo_50 : decode cX2_takesTwo 50 = .ok (.ireturn, 1) := by decide +kernel
theorem dX2_takesTwo_51 : decode cX2_takesTwo 51 = .ok (.aload_n 1, 1) := by decide +kernel
theorem dX2_takesTwo_52 : decode cX2_takesTwo 52 = .ok (.iload_n 3, 1) := by decide +kernel
theorem dX2_takesTwo_53 : decode cX2_takesTwo 53 = .ok (.aload_n 0, 1) := by decide +kernel
theorem dX2_takesTwo_54 : decode cX2_takesTwo 54 = .ok (.getfield 42, 3) := by decide +kernel
theorem dX2_takesTwo_57 : decode cX2_takesTwo 57 = .ok (.iload_n 2, 1) := by decide +kernel
theorem dX2_takesTwo_58 : decode cX2_takesTwo 58 = .ok (.invokevirtual 147, 3) := by decide +kernel
theorem dX2_takesTwo_61 : decode cX2_takesTwo 61 = .ok (.aload_n 0, 1) := by decide +kernel
theorem dX2_takesTwo_62 : decode cX2_takesTwo 62 = .ok (.invokevirtual 25, 3) := by decide +kernel
theorem dX2_takesTwo_65 : decode cX2_takesTwo 65 = .ok (.iconst 1, 1) := by decide +kernel
theorem dX2_takesTwo_66 : decode cX2_takesTwo 66 = .ok (.ireturn, 1) := by decide +kernel
theorem dX2_takesPerhaps_0 : decode cX2_takesPerhaps 0 = .ok (.aload_n 0, 1) := by decide +kernel
theorem dX2_takesPerhaps_1 : decode cX2_takesPerhaps 1 = .ok (.aload_n 1, 1) := by decide +kernel
theorem dX2_takesPerhaps_2 : decode cX2_takesPerhaps 2 = .ok (.invokevirtual 73, 3) := by decide +kernel
theorem dX2_takesPerhaps_5 : decode cX2_takesPerhaps 5 = .ok (.ifCond .ne 5, 3) := by decide +kernel
theorem dX2_takesPerhaps_8 : decode cX2_takesPerhaps 8 = .ok (.iconst 1, 1) := by decide +kernel
theorem dX2_takesPerhaps_9 : decode cX2_takesPerhaps 9 = .ok (.ireturn, 1) := by decide +kernel
theorem dX2_takesPerhaps_10 : decode cX2_takesPerhaps 10 = .ok (.aload_n 0, 1) := by decide +kernel
theorem dX2_takesPerhaps_11 : decode cX2_takesPerhaps 11 = .ok (.invokevirtual 25, 3) := by decide +kernel
theorem dX2_takesPerhaps_14 : decode cX2_takesPerhaps 14 = .ok (.aload_n 0, 1) := by decide +kernel
theorem dX2_takesPerhaps_15 : decode cX2_takesPerhaps 15 = .ok (.iload 4, 2) := by decide +kernel
theorem dX2_takesPerhaps_17 : decode cX2_takesPerhaps 17 = .ok (.invokevirtual 127, 3) := by decide +kernel
theorem dX2_takesPerhaps_20 : decode cX2_takesPerhaps 20 = .ok (.ifCond .ne 5, 3) := by decide +kernel
theorem dX2_takesPerhaps_23 : decode cX2_takesPerhaps 23 = .ok (.iconst 0, 1) := by decide +kernel
theorem dX2_takesPerhaps_24 : decode cX2_takesPerhaps 24 = .ok (.ireturn, 1) := by decide +kernel
theorem dX2_takesPerhaps_25 : decode cX2_takesPerhaps 25 = .ok (.aload_n 2, 1) := by decide +kernel
theorem dX2_takesPerhaps_26 : decode cX2_takesPerhaps 26 = .ok (.iload_n 3, 1) := by decide +kernel
theorem dX2_takesPerhaps_27 : decode cX2_takesPerhaps 27 = .ok (.aload_n 0, 1) := by decide +kernel
theorem dX2_takesPerhaps_28 : decode cX2_takesPerhaps 28 = .ok (.getfield 42, 3) := by decide +kernel
theorem dX2_takesPerhaps_31 : decode cX2_takesPerhaps 31 = .ok (.iastore, 1) := by decide +kernel
theorem dX2_takesPerhaps_32 : decode cX2_takesPerhaps 32 = .ok (.aload_n 0, 1) := by decide +kernel
theorem dX2_takesPerhaps_33 : decode cX2_takesPerhaps 33 = .ok (.invokevirtual 25, 3) := by decide +kernel
theorem dX2_takesPerhaps_36 : decode cX2_takesPerhaps 36 = .ok (.iconst 1, 1) := by decide +kernel
theorem dX2_takesPerhaps_37 : decode cX2_takesPerhaps 37 = .ok (.ireturn, 1) := by decide +kernel
theorem dX3_init_0 : decode cX3_init 0 = .ok (.aload_n 0, 1) := by decide +kernel
theorem dX3_init_1 : decode cX3_init 1 = .ok (.invokespecial 1, 3) := by decide +kernel
theorem dX3_init_4 : decode cX3_init 4 = .ok (.aload_n 0, 1) := by decide +kernel
theorem dX3_init_5 : decode cX3_init 5 = .ok (.new 7, 3) := by decide +kernel
theorem dX3_init_8 : decode cX3_init 8 = .ok (.dup, 1) := by decide +kernel
theorem dX3_init_9 : decode cX3_init 9 = .ok (.invokespecial 9, 3) := by decide +kernel
theorem dX3_init_12 : decode cX3_init 12 = .ok (.putfield 10, 3) := by decide +kernel
theorem dX3_init_15 : decode cX3_init 15 = .ok (.aload_n 0, 1) := by decide +kernel
theorem dX3_init_16 : decode cX3_init 16 = .ok (.new 7, 3) := by decide +kernel
theorem dX3_init_19 : decode cX3_init 19 = .ok (.dup, 1) := by decide +kernel
theorem dX3_init_20 : decode cX3_init 20 = .ok (.invokespecial 9, 3) := by decide +kernel
theorem dX3_init_23 : decode cX3_init 23 = .ok (.putfield 16, 3) := by decide +kernel
theorem dX3_init_26 : decode cX3_init 26 = .ok (.aload_n 0, 1) := by decide +kernel
theorem dX3_init_27 : decode cX3_init 27 = .ok (.new 7, 3) := by decide +kernel
theorem dX3_init_30 : decode cX3_init 30 = .ok (.dup, 1) := by decide +kernel
theorem dX3_init_31 : decode cX3_init 31 = .ok (.invokespecial 9, 3) := by decide +kernel
theorem dX3_init_34 : decode cX3_init 34 = .ok (.putfield 19, 3) := by decide +kernel
theorem dX3_init_37 : decode cX3_init 37 = .ok (.aload_n 0, 1) := by decide +kernel
theorem dX3_init_38 : decode cX3_init 38 = .ok (.iconst 0, 1) := by decide +kernel
theorem dX3_init_39 : decode cX3_init 39 = .ok (.putfield 22, 3) := by decide +kernel
theorem dX3_init_42 : decode cX3_init 42 = .ok (.aload_n 0, 1) := by decide +kernel
theorem dX3_init_43 : decode cX3_init 43 = .ok (.new 26, 3) := by decide +kernel
theorem dX3_init_46 : decode cX3_init 46 = .ok (.dup, 1) := by decide +kernel
theorem dX3_init_47 : decode cX3_init 47 = .ok (.invokespecial 28, 3) := by decide +kernel
theorem dX3_init_50 : decode cX3_init 50 = .ok (.putfield 29, 3) := by decide +kernel
theorem dX3_init_53 : decode cX3_init 53 = .ok (.aload_n 0, 1) := by decide +kernel
theorem dX3_init_54 : decode cX3_init 54 = .ok (.iconst 4, 1) := by decide +kernel
theorem dX3_init_55 : decode cX3_init 55 = .ok (.anewarray 33, 3) := by decide +kernel
theorem dX3_init_58 : decode cX3_init 58 = .ok (.putfield 35, 3) := by decide +kernel
theorem dX3_init_61 : decode cX3_init 61 = .ok (.iconst 0, 1) := by decide +kernel
theorem dX3_init_62 : decode cX3_init 62 = .ok (.istore_n 1, 1) := by decide +kernel
theorem dX3_init_63 : decode cX3_init 63 = .ok (.iload_n 1, 1) := by decide +kernel
theorem dX3_init_64 : decode cX3_init 64 = .ok (.iconst 4, 1) := by decide +kernel
theorem dX3_init_65 : decode cX3_init 65 = .ok (.if_icmp .ge 22, 3) := by decide +kernel
theorem dX3_init_68 : decode cX3_init 68 = .ok (.aload_n 0, 1) := by decide +kernel
theorem dX3_init_69 : decode cX3_init 69 = .ok (.getfield 35, 3) := by decide +kernel
theorem dX3_init_72 : decode cX3_init 72 = .ok (.iload_n 1, 1) := by decide +kernel
theorem dX3_init_73 : decode cX3_init 73 = .ok (.new 33, 3) := by decide +kernel
theorem dX3_init_76 : decode cX3_init 76 = .ok (.dup, 1) := by decide +kernel
theorem dX3_init_77 : decode cX3_init 77 = .ok (.invokespecial 39, 3) := by decide +kernel
theorem dX3_init_80 : decode cX3_init 80 = .ok (.aastore, 1) := by decide +kernel
theorem dX3_init_81 : decode cX3_init 81 = .ok (.iinc 1 1, 3) := by decide +kernel
theorem dX3_init_84 : decode cX3_init 84 = .ok (.goto (-21), 3) := by decide +kernel
theorem dX3_init_87 : decode cX3_init 87 = .ok (.aload_n 0, 1) := by decide +kernel
theorem dX3_init_88 : decode cX3_init 88 = .ok (.bipush 7, 2) := by decide +kernel
theorem dX3_init_90 : decode cX3_init 90 = .ok (.newarray .int, 2) := by decide +kernel
theorem dX3_init_92 : decode cX3_init 92 = .ok (.putfield 40, 3) := by decide +kernel
theorem dX3_init_95 : decode cX3_init 95 = .ok (.aload_n 0, 1) := by decide +kernel
theorem dX3_init_96 : decode cX3_init 96 = .ok (.bipush 8, 2) := by decide +kernel
theorem dX3_init_98 : decode cX3_init 98 = .ok (.newarray .int, 2) := by decide +kernel
theorem dX3_init_100 : decode cX3_init 100 = .ok (.putfield 44, 3) := by decide +kernel
theorem dX3_init_103 : decode cX3_init 103 = .ok (.return_, 1) := by decide +kernel
theorem dX3_chair_0 : decode cX3_chair 0 = .ok (.iload_n 1, 1) := by decide +kernel
theorem dX3_chair_1 : decode cX3_chair 1 = .ok (.invokestatic 47, 3) := by decide +kernel
theorem dX3_chair_4 : decode cX3_chair 4 = .ok (.ifCond .eq 12, 3) := by decide +kernel
theorem dX3_chair_7 : decode cX3_chair 7 = .ok (.iload_n 2, 1) := by decide +kernel
theorem dX3_chair_8 : decode cX3_chair 8 = .ok (.iconst 0, 1) := by decide +kernel
theorem dX3_chair_9 : decode cX3_chair 9 = .ok (.iconst 1, 1) := by decide +kernel
theorem dX3_chair_10 : decode cX3_chair 10 = .ok (.invokestatic 51, 3) := by decide +kernel
theorem dX3_chair_13 : decode cX3_chair 13 = .ok (.ifCond .ne 9, 3) := by decide +kernel
theorem dX3_chair_16 : decode cX3_chair 16 = .ok (.aload_n 0, 1) := by decide +kernel
theorem dX3_chair_17 : decode cX3_chair 17 = .ok (.iconst 0, 1) := by decide +kernel
theorem dX3_chair_18 : decode cX3_chair 18 = .ok (.invokevirtual 55, 3) := by decide +kernel
theorem dX3_chair_21 : decode cX3_chair 21 = .ok (.ireturn, 1) := by decide +kernel
theorem dX3_chair_22 : decode cX3_chair 22 = .ok (.iload_n 2, 1) := by decide +kernel
theorem dX3_chair_23 : decode cX3_chair 23 = .ok (.ifCond .ne 13, 3) := by decide +kernel
theorem dX3_chair_26 : decode cX3_chair 26 = .ok (.aload_n 0, 1) := by decide +kernel
theorem dX3_chair_27 : decode cX3_chair 27 = .ok (.getfield 10, 3) := by decide +kernel
theorem dX3_chair_30 : decode cX3_chair 30 = .ok (.getfield 59, 3) := by decide +kernel
theorem dX3_chair_33 : decode cX3_chair 33 = .ok (.goto 10, 3) := by decide +kernel
theorem dX3_chair_36 : decode cX3_chair 36 = .ok (.aload_n 0, 1) := by decide +kernel
theorem dX3_chair_37 : decode cX3_chair 37 = .ok (.getfield 10, 3) := by decide +kernel
theorem dX3_chair_40 : decode cX3_chair 40 = .ok (.getfield 62, 3) := by decide +kernel
theorem dX3_chair_43 : decode cX3_chair 43 = .ok (.astore 4, 2) := by decide +kernel
theorem dX3_chair_45 : decode cX3_chair 45 = .ok (.iload_n 3, 1) := by decide +kernel
theorem dX3_chair_46 : decode cX3_chair 46 = .ok (.iconst 0, 1) := by decide +kernel
theorem dX3_chair_47 : decode cX3_chair 47 = .ok (.iload_n 2, 1) := by decide +kernel
theorem dX3_chair_48 : decode cX3_chair 48 = .ok (.ifCond .ne 8, 3) := by decide +kernel
theorem dX3_chair_51 : decode cX3_chair 51 = .ok (.bipush 20, 2) := by decide +kernel
theorem dX3_chair_53 : decode cX3_chair 53 = .ok (.goto 5, 3) := by decide +kernel
theorem dX3_chair_56 : decode cX3_chair 56 = .ok (.bipush 9, 2) := by decide +kernel
theorem dX3_chair_58 : decode cX3_chair 58 = .ok (.invokestatic 51, 3) := by decide +kernel
theorem dX3_chair_61 : decode cX3_chair 61 = .ok (.ifCond .ne 9, 3) := by decide +kernel
theorem dX3_chair_64 : decode cX3_chair 64 = .ok (.aload_n 0, 1) := by decide +kernel
theorem dX3_chair_65 : decode cX3_chair 65 = .ok (.iconst 0, 1) := by decide +kernel
theorem dX3_chair_66 : decode cX3_chair 66 = .ok (.invokevirtual 55, 3) := by decide +kernel
theorem dX3_chair_69 : decode cX3_chair 69 = .ok (.ireturn, 1) := by decide +kernel
theorem dX3_chair_70 : decode cX3_chair 70 = .ok (.aload 4, 2) := by decide +kernel
theorem dX3_chair_72 : decode cX3_chair 72 = .ok (.iload_n 1, 1) := by decide +kernel
theorem dX3_chair_73 : decode cX3_chair 73 = .ok (.iaload, 1) := by decide +kernel
theorem dX3_chair_74 : decode cX3_chair 74 = .ok (.istore 5, 2) := by decide +kernel
theorem dX3_chair_76 : decode cX3_chair 76 = .ok (.aload 4, 2) := by decide +kernel
theorem dX3_chair_78 : decode cX3_chair 78 = .ok (.iload_n 1, 1) := by decide +kernel
theorem dX3_chair_79 : decode cX3_chair 79 = .ok (.iload_n 3, 1) := by decide +kernel
theorem dX3_chair_80 : decode cX3_chair 80 = .ok (.iastore, 1) := by decide +kernel
theorem dX3_chair_81 : decode cX3_chair 81 = .ok (.iload 5, 2) := by decide +kernel
theorem dX3_chair_83 : decode cX3_chair 83 = .ok (.ireturn, 1) := by decide +kernel
theorem dX3_chairOf_0 : decode cX3_chairOf 0 = .ok (.iload_n 1, 1) := by decide +kernel
theorem dX3_chairOf_1 : decode cX3_chairOf 1 = .ok (.invokestatic 47, 3) := by decide +kernel
theorem dX3_chairOf_4 : decode cX3_chairOf 4 = .ok (.ifCond .ne 9, 3) := by decide +kernel
theorem dX3_chairOf_7 : decode cX3_chairOf 7 = .ok (.aload_n 0, 1) := by decide +kernel
theorem dX3_chairOf_8 : decode cX3_chairOf 8 = .ok (.iconst 0, 1) := by decide +kernel
theorem dX3_chairOf_9 : decode cX3_chairOf 9 = .ok (.invokevirtual 55, 3) := by decide +kernel
theorem dX3_chairOf_12 : decode cX3_chairOf 12 = .ok (.ireturn, 1) := by decide +kernel
theorem dX3_chairOf_13 : decode cX3_chairOf 13 = .ok (.iload_n 2, 1) := by decide +kernel
theorem dX3_chairOf_14 : decode cX3_chairOf 14 = .ok (.tableswitch 56 0 2 #[26, 36, 46], 26) := by decide +kernel
theorem dX3_chairOf_40 : decode cX3_chairOf 40 = .ok (.aload_n 0, 1) := by decide +kernel
theorem dX3_chairOf_41 : decode cX3_chairOf 41 = .ok (.getfield 10, 3) := by decide +kernel
theorem dX3_chairOf_44 : decode cX3_chairOf 44 = .ok (.getfield 59, 3) := by decide +kernel
theorem dX3_chairOf_47 : decode cX3_chairOf 47 = .ok (.iload_n 1, 1) := by decide +kernel
theorem dX3_chairOf_48 : decode cX3_chairOf 48 = .ok (.iaload, 1) := by decide +kernel
theorem dX3_chairOf_49 : decode cX3_chairOf 49 = .ok (.ireturn, 1) := by decide +kernel
theorem dX3_chairOf_50 : decode cX3_chairOf 50 = .ok (.aload_n 0, 1) := by decide +kernel
theorem dX3_chairOf_51 : decode cX3_chairOf 51 = .ok (.getfield 10, 3) := by decide +kernel
theorem dX3_chairOf_54 : decode cX3_chairOf 54 = .ok (.getfield 62, 3) := by decide +kernel
theorem dX3_chairOf_57 : decode cX3_chairOf 57 = .ok (.iload_n 1, 1) := by decide +kernel
theorem dX3_chairOf_58 : decode cX3_chairOf 58 = .ok (.iaload, 1) := by decide +kernel
theorem dX3_chairOf_59 : decode cX3_chairOf 59 = .ok (.ireturn, 1) := by decide +kernel
theorem dX3_chairOf_60 : decode cX3_chairOf 60 = .ok (.aload_n 0, 1) := by decide +kernel
theorem dX3_chairOf_61 : decode cX3_chairOf 61 = .ok (.getfield 10, 3) := by decide +kernel
theorem dX3_chairOf_64 : decode cX3_chairOf 64 = .ok (.getfield 65, 3) := by decide +kernel
theorem dX3_chairOf_67 : decode cX3_chairOf 67 = .ok (.iload_n 1, 1) := by decide +kernel
theorem dX3_chairOf_68 : decode cX3_chairOf 68 = .ok (.iaload, 1) := by decide +kernel
theorem dX3_chairOf_69 : decode cX3_chairOf 69 = .ok (.ireturn, 1) := by decide +kernel
theorem dX3_chairOf_70 : decode cX3_chairOf 70 = .ok (.aload_n 0, 1) := by decide +kernel
theorem dX3_chairOf_71 : decode cX3_chairOf 71 = .ok (.iconst 0, 1) := by decide +kernel
theorem dX3_chairOf_72 : decode cX3_chairOf 72 = .ok (.invokevirtual 55, 3) := by decide +kernel
theorem dX3_chairOf_75 : decode cX3_chairOf 75 = .ok (.ireturn, 1) := by decide +kernel
theorem dX3_person_0 : decode cX3_person 0 = .ok (.iload_n 1, 1) := by decide +kernel
theorem dX3_person_1 : decode cX3_person 1 = .ok (.invokestatic 68, 3) := by decide +kernel
theorem dX3_person_4 : decode cX3_person 4 = .ok (.ifCond .ne 9, 3) := by decide +kernel
theorem dX3_person_7 : decode cX3_person 7 = .ok (.aload_n 0, 1) := by decide +kernel
theorem dX3_person_8 : decode cX3_person 8 = .ok (.iconst 0, 1) := by decide +kernel
theorem dX3_person_9 : decode cX3_person 9 = .ok (.invokevirtual 55, 3) := by decide +kernel
theorem dX3_person_12 : decode cX3_person 12 = .ok (.ireturn, 1) := by decide +kernel
theorem dX3_person_13 : decode cX3_person 13 = .ok (.aload_n 0, 1) := by decide +kernel
theorem dX3_person_14 : decode cX3_person 14 = .ok (.getfield 10, 3) := by decide +kernel
theorem dX3_person_17 : decode cX3_person 17 = .ok (.getfield 71, 3) := by decide +kernel
theorem dX3_person_20 : decode cX3_person 20 = .ok (.bipush 8, 2) := by decide +kernel
theorem dX3_person_22 : decode cX3_person 22 = .ok (.if_icmp .lt 9, 3) := by decide +kernel
theorem dX3_person_25 : decode cX3_person 25 = .ok (.aload_n 0, 1) := by decide +kernel
theorem dX3_person_26 : decode cX3_person 26 = .ok (.iconst 1, 1) := by decide +kernel
theorem dX3_person_27 : decode cX3_person 27 = .ok (.invokevirtual 55, 3) := by decide +kernel
theorem dX3_person_30 : decode cX3_person 30 = .ok (.ireturn, 1) := by decide +kernel
theorem dX3_person_31 : decode cX3_person 31 = .ok (.aload_n 0, 1) := by decide +kernel
theorem dX3_person_32 : decode cX3_person 32 = .ok (.getfield 10, 3) := by decide +kernel
theorem dX3_person_35 : decode cX3_person 35 = .ok (.iload_n 1, 1) := by decide +kernel
theorem dX3_person_36 : decode cX3_person 36 = .ok (.invokevirtual 75, 3) := by decide +kernel
theorem dX3_person_39 : decode cX3_person 39 = .ok (.ireturn, 1) := by decide +kernel
theorem dX3_of_0 : decode cX3_of 0 = .ok (.aload_n 0, 1) := by decide +kernel
theorem dX3_of_1 : decode cX3_of 1 = .ok (.iload_n 1, 1) := by decide +kernel
theorem dX3_of_2 : decode cX3_of 2 = .ok (.invokevirtual 78, 3) := by decide +kernel
theorem dX3_of_5 : decode cX3_of 5 = .ok (.ifCond .ne 9, 3) := by decide +kernel
theorem dX3_of_8 : decode cX3_of 8 = .ok (.aload_n 0, 1) := by decide +kernel
theorem dX3_of_9 : decode cX3_of 9 = .ok (.iconst 0, 1) := by decide +kernel
theorem dX3_of_10 : decode cX3_of 10 = .ok (.invokevirtual 55, 3) := by decide +kernel
theorem dX3_of_13 : decode cX3_of 13 = .ok (.ireturn, 1) := by decide +kernel
theorem dX3_of_14 : decode cX3_of 14 = .ok (.iload_n 2, 1) := by decide +kernel
theorem dX3_of_15 : decode cX3_of 15 = .ok (.tableswitch 110 0 6 #[41, 51, 61, 71, 81, 91, 101], 41) := by decide +kernel
theorem dX3_of_56 : decode cX3_of 56 = .ok (.aload_n 0, 1) := by decide +kernel
theorem dX3_of_57 : decode cX3_of 57 = .ok (.getfield 10, 3) := by decide +kernel
theorem dX3_of_60 : decode cX3_of 60 = .ok (.getfield 81, 3) := by decide +kernel
theorem dX3_of_63 : decode cX3_of 63 = .ok (.iload_n 1, 1) := by decide +kernel
theorem dX3_of_64 : decode cX3_of 64 = .ok (.iaload, 1) := by decide +kernel
theorem dX3_of_65 : decode cX3_of 65 = .ok (.ireturn, 1) := by decide +kernel
theorem dX3_of_66 : decode cX3_of 66 = .ok (.aload_n 0, 1) := by decide +kernel
theorem dX3_of_67 : decode cX3_of 67 = .ok (.getfield 10, 3) := by decide +kernel
theorem dX3_of_70 : decode cX3_of 70 = .ok (.getfield 84, 3) := by decide +kernel
theorem dX3_of_73 : decode cX3_of 73 = .ok (.iload_n 1, 1) := by decide +kernel
theorem dX3_of_74 : decode cX3_of 74 = .ok (.iaload, 1) := by decide +kernel
theorem dX3_of_75 : decode cX3_of 75 = .ok (.ireturn, 1) := by decide +kernel
theorem dX3_of_76 : decode cX3_of 76 = .ok (.aload_n 0, 1) := by decide +kernel
theorem dX3_of_77 : decode cX3_of 77 = .ok (.getfield 10, 3) := by decide +kernel
theorem dX3_of_80 : decode cX3_of 80 = .ok (.getfield 87, 3) := by decide +kernel
theorem dX3_of_83 : decode cX3_of 83 = .ok (.iload_n 1, 1) := by decide +kernel
theorem dX3_of_84 : decode cX3_of 84 = .ok (.iaload, 1) := by decide +kernel
theorem dX3_of_85 : decode cX3_of 85 = .ok (.ireturn, 1) := by decide +kernel
theorem dX3_of_86 : decode cX3_of 86 = .ok (.aload_n 0, 1) := by decide +kernel
theorem dX3_of_87 : decode cX3_of 87 = .ok (.getfield 10, 3) := by decide +kernel
theorem dX3_of_90 : decode cX3_of 90 = .ok (.getfield 90, 3) := by decide +kernel
theorem dX3_of_93 : decode cX3_of 93 = .ok (.iload_n 1, 1) := by decide +kernel
theorem dX3_of_94 : decode cX3_of 94 = .ok (.iaload, 1) := by decide +kernel
theorem dX3_of_95 : decode cX3_of 95 = .ok (.ireturn, 1) := by decide +kernel
theorem dX3_of_96 : decode cX3_of 96 = .ok (.aload_n 0, 1) := by decide +kernel
theorem dX3_of_97 : decode cX3_of 97 = .ok (.getfield 10, 3) := by decide +kernel
theorem dX3_of_100 : decode cX3_of 100 = .ok (.getfield 93, 3) := by decide +kernel
theorem dX3_of_103 : decode cX3_of 103 = .ok (.iload_n 1, 1) := by decide +kernel
theorem dX3_of_104 : decode cX3_of 104 = .ok (.iaload, 1) := by decide +kernel
theorem dX3_of_105 : decode cX3_of 105 = .ok (.ireturn, 1) := by decide +kernel
theorem dX3_of_106 : decode cX3_of 106 = .ok (.aload_n 0, 1) := by decide +kernel
theorem dX3_of_107 : decode cX3_of 107 = .ok (.getfield 10, 3) := by decide +kernel
theorem dX3_of_110 : decode cX3_of 110 = .ok (.getfield 96, 3) := by decide +kernel
theorem dX3_of_113 : decode cX3_of 113 = .ok (.iload_n 1, 1) := by decide +kernel
theorem dX3_of_114 : decode cX3_of 114 = .ok (.iaload, 1) := by decide +kernel
theorem dX3_of_115 : decode cX3_of 115 = .ok (.ireturn, 1) := by decide +kernel
theorem dX3_of_116 : decode cX3_of 116 = .ok (.aload_n 0, 1) := by decide +kernel
theorem dX3_of_117 : decode cX3_of 117 = .ok (.getfield 10, 3) := by decide +kernel
theorem dX3_of_120 : decode cX3_of 120 = .ok (.iload_n 1, 1) := by decide +kernel
theorem dX3_of_121 : decode cX3_of 121 = .ok (.invokevirtual 99, 3) := by decide +kernel
theorem dX3_of_124 : decode cX3_of 124 = .ok (.ireturn, 1) := by decide +kernel
theorem dX3_of_125 : decode cX3_of 125 = .ok (.aload_n 0, 1) := by decide +kernel
theorem dX3_of_126 : decode cX3_of 126 = .ok (.iconst 0, 1) := by decide +kernel
theorem dX3_of_127 : decode cX3_of 127 = .ok (.invokevirtual 55, 3) := by decide +kernel
theorem dX3_of_130 : decode cX3_of 130 = .ok (.ireturn, 1) := by decide +kernel
theorem dX3_set_0 : decode cX3_set 0 = .ok (.aload_n 0, 1) := by decide +kernel
theorem dX3_set_1 : decode cX3_set 1 = .ok (.iload_n 1, 1) := by decide +kernel
theorem dX3_set_2 : decode cX3_set 2 = .ok (.invokevirtual 78, 3) := by decide +kernel
theorem dX3_set_5 : decode cX3_set 5 = .ok (.ifCond .ne 9, 3) := by decide +kernel
theorem dX3_set_8 : decode cX3_set 8 = .ok (.aload_n 0, 1) := by decide +kernel
theorem dX3_set_9 : decode cX3_set 9 = .ok (.iconst 0, 1) := by decide +kernel
theorem dX3_set_10 : decode cX3_set 10 = .ok (.invokevirtual 55, 3) := by decide +kernel
theorem dX3_set_13 : decode cX3_set 13 = .ok (.ireturn, 1) := by decide +kernel
theorem dX3_set_14 : decode cX3_set 14 = .ok (.iload_n 2, 1) := by decide +kernel
theorem dX3_set_15 : decode cX3_set 15 = .ok (.tableswitch 81 1 4 #[29, 46, 81, 63], 29) := by decide +kernel
theorem dX3_set_44 : decode cX3_set 44 = .ok (.aload_n 0, 1) := by decide +kernel
theorem dX3_set_45 : decode cX3_set 45 = .ok (.aload_n 0, 1) := by decide +kernel
theorem dX3_set_46 : decode cX3_set 46 = .ok (.getfield 10, 3) := by decide +kernel
theorem dX3_set_49 : decode cX3_set 49 = .ok (.getfield 84, 3) := by decide +kernel
theorem dX3_set_52 : decode cX3_set 52 = .ok (.iload_n 1, 1) := by decide +kernel
theorem dX3_set_53 : decode cX3_set 53 = .ok (.iload_n 3, 1) := by decide +kernel
theorem dX3_set_54 : decode cX3_set 54 = .ok (.iconst 0, 1) := by decide +kernel
theorem dX3_set_55 : decode cX3_set 55 = .ok (.bipush 99, 2) := by decide +kernel
theorem dX3_set_57 : decode cX3_set 57 = .ok (.invokevirtual 102, 3) := by decide +kernel
theorem dX3_set_60 : decode cX3_set 60 = .ok (.ireturn, 1) := by decide +kernel
theorem dX3_set_61 : decode cX3_set 61 = .ok (.aload_n 0, 1) := by decide +kernel
theorem dX3_set_62 : decode cX3_set 62 = .ok (.aload_n 0, 1) := by decide +kernel
theorem dX3_set_63 : decode cX3_set 63 = .ok (.getfield 10, 3) := by decide +kernel
theorem dX3_set_66 : decode cX3_set 66 = .ok (.getfield 87, 3) := by decide +kernel
theorem dX3_set_69 : decode cX3_set 69 = .ok (.iload_n 1, 1) := by decide +kernel
theorem dX3_set_70 : decode cX3_set 70 = .ok (.iload_n 3, 1) := by decide +kernel
theorem dX3_set_71 : decode cX3_set 71 = .ok (.iconst (-1), 1) := by decide +kernel
theorem dX3_set_72 : decode cX3_set 72 = .ok (.bipush 7, 2) := by decide +kernel
theorem dX3_set_74 : decode cX3_set 74 = .ok (.invokevirtual 102, 3) := by decide +kernel
theorem dX3_set_77 : decode cX3_set 77 = .ok (.ireturn, 1) := by decide +kernel
theorem dX3_set_78 : decode cX3_set 78 = .ok (.aload_n 0, 1) := by decide +kernel
theorem dX3_set_79 : decode cX3_set 79 = .ok (.aload_n 0, 1) := by decide +kernel
theorem dX3_set_80 : decode cX3_set 80 = .ok (.getfield 10, 3) := by decide +kernel
theorem dX3_set_83 : decode cX3_set 83 = .ok (.getfield 93, 3) := by decide +kernel
theorem dX3_set_86 : decode cX3_set 86 = .ok (.iload_n 1, 1) := by decide +kernel
theorem dX3_set_87 : decode cX3_set 87 = .ok (.iload_n 3, 1) := by decide +kernel
theorem dX3_set_88 : decode cX3_set 88 = .ok (.iconst 0, 1) := by decide +kernel
theorem dX3_set_89 : decode cX3_set 89 = .ok (.sipush 9999, 3) := by decide +kernel
theorem dX3_set_92 : decode cX3_set 92 = .ok (.invokevirtual 102, 3) := by decide +kernel
theorem dX3_set_95 : decode cX3_set 95 = .ok (.ireturn, 1) := by decide +kernel
theorem dX3_set_96 : decode cX3_set 96 = .ok (.aload_n 0, 1) := by decide +kernel
theorem dX3_set_97 : decode cX3_set 97 = .ok (.iconst 0, 1) := by decide +kernel
theorem dX3_set_98 : decode cX3_set 98 = .ok (.invokevirtual 55, 3) := by decide +kernel
theorem dX3_set_101 : decode cX3_set 101 = .ok (.ireturn, 1) := by decide +kernel
theorem dX3_turn_0 : decode cX3_turn 0 = .ok (.aload_n 0, 1) := by decide +kernel
theorem dX3_turn_1 : decode cX3_turn 1 = .ok (.iload_n 1, 1) := by decide +kernel
theorem dX3_turn_2 : decode cX3_turn 2 = .ok (.invokevirtual 78, 3) := by decide +kernel
theorem dX3_turn_5 : decode cX3_turn 5 = .ok (.ifCond .ne 9, 3) := by decide +kernel
theorem dX3_turn_8 : decode cX3_turn 8 = .ok (.aload_n 0, 1) := by decide +kernel
theorem dX3_turn_9 : decode cX3_turn 9 = .ok (.iconst 0, 1) := by decide +kernel
theorem dX3_turn_10 : decode cX3_turn 10 = .ok (.invokevirtual 55, 3) := by decide +kernel
theorem dX3_turn_13 : decode cX3_turn 13 = .ok (.ireturn, 1) := by decide +kernel
theorem dX3_turn_14 : decode cX3_turn 14 = .ok (.aload_n 0, 1) := by decide +kernel
theorem dX3_turn_15 : decode cX3_turn 15 = .ok (.aload_n 0, 1) := by decide +kernel
theorem dX3_turn_16 : decode cX3_turn 16 = .ok (.getfield 10, 3) := by decide +kernel
theorem dX3_turn_19 : decode cX3_turn 19 = .ok (.getfield 81, 3) := by decide +kernel
theorem dX3_turn_22 : decode cX3_turn 22 = .ok (.iload_n 1, 1) := by decide +kernel
theorem dX3_turn_23 : decode cX3_turn 23 = .ok (.iload_n 2, 1) := by decide +kernel
theorem dX3_turn_24 : decode cX3_turn 24 = .ok (.iconst 0, 1) := by decide +kernel
theorem dX3_turn_25 : decode cX3_turn 25 = .ok (.iconst 5, 1) := by decide +kernel
theorem dX3_turn_26 : decode cX3_turn 26 = .ok (.invokevirtual 102, 3) := by decide +kernel
theorem dX3_turn_29 : decode cX3_turn 29 = .ok (.ireturn, 1) := by decide +kernel
theorem dX3_as_0 : decode cX3_as 0 = .ok (.aload_n 0, 1) := by decide +kernel
theorem dX3_as_1 : decode cX3_as 1 = .ok (.iload_n 1, 1) := by decide +kernel
theorem dX3_as_2 : decode cX3_as 2 = .ok (.invokevirtual 78, 3) := by decide +kernel
theorem dX3_as_5 : decode cX3_as 5 = .ok (.ifCond .eq 10, 3) := by decide +kernel
theorem dX3_as_8 : decode cX3_as 8 = .ok (.iload_n 2, 1) := by decide +kernel
theorem dX3_as_9 : decode cX3_as 9 = .ok (.invokestatic 68, 3) := by decide +kernel
theorem dX3_as_12 : decode cX3_as 12 = .ok (.ifCond .ne 9, 3) := by decide +kernel
theorem dX3_as_15 : decode cX3_as 15 = .ok (.aload_n 0, 1) := by decide +kernel
theorem dX3_as_16 : decode cX3_as 16 = .ok (.iconst 0, 1) := by decide +kernel
theorem dX3_as_17 : decode cX3_as 17 = .ok (.invokevirtual 55, 3) := by decide +kernel
theorem dX3_as_20 : decode cX3_as 20 = .ok (.ireturn, 1) := by decide +kernel
theorem dX3_as_21 : decode cX3_as 21 = .ok (.aload_n 0, 1) := by decide +kernel
theorem dX3_as_22 : decode cX3_as 22 = .ok (.getfield 10, 3) := by decide +kernel
theorem dX3_as_25 : decode cX3_as 25 = .ok (.getfield 81, 3) := by decide +kernel
theorem dX3_as_28 : decode cX3_as 28 = .ok (.iload_n 1, 1) := by decide +kernel
theorem dX3_as_29 : decode cX3_as 29 = .ok (.iaload, 1) := by decide +kernel
theorem dX3_as_30 : decode cX3_as 30 = .ok (.iload_n 2, 1) := by decide +kernel
theorem dX3_as_31 : decode cX3_as 31 = .ok (.invokestatic 106, 3) := by decide +kernel
theorem dX3_as_34 : decode cX3_as 34 = .ok (.ifCond .ne 9, 3) := by decide +kernel
theorem dX3_as_37 : decode cX3_as 37 = .ok (.aload_n 0, 1) := by decide +kernel
theorem dX3_as_38 : decode cX3_as 38 = .ok (.iconst 2, 1) := by decide +kernel
theorem dX3_as_39 : decode cX3_as 39 = .ok (.invokevirtual 55, 3) := by decide +kernel
theorem dX3_as_42 : decode cX3_as 42 = .ok (.ireturn, 1) := by decide +kernel
theorem dX3_as_43 : decode cX3_as 43 = .ok (.aload_n 0, 1) := by decide +kernel
theorem dX3_as_44 : decode cX3_as 44 = .ok (.getfield 10, 3) := by decide +kernel
theorem dX3_as_47 : decode cX3_as 47 = .ok (.getfield 84, 3) := by decide +kernel
theorem dX3_as_50 : decode cX3_as 50 = .ok (.iload_n 1, 1) := by decide +kernel
theorem dX3_as_51 : decode cX3_as 51 = .ok (.iaload, 1) := by decide +kernel
theorem dX3_as_52 : decode cX3_as 52 = .ok (.ireturn, 1) := by decide +kernel
theorem dX3_quarrel_0 : decode cX3_quarrel 0 = .ok (.aload_n 0, 1) := by decide +kernel
theorem dX3_quarrel_1 : decode cX3_quarrel 1 = .ok (.iload_n 1, 1) := by decide +kernel
theorem dX3_quarrel_2 : decode cX3_quarrel 2 = .ok (.iload_n 2, 1) := by decide +kernel
theorem dX3_quarrel_3 : decode cX3_quarrel 3 = .ok (.invokevirtual 110, 3) := by decide +kernel
theorem dX3_quarrel_6 : decode cX3_quarrel 6 = .ok (.ifCond .eq 12, 3) := by decide +kernel
theorem dX3_quarrel_9 : decode cX3_quarrel 9 = .ok (.iload_n 3, 1) := by decide +kernel
theorem dX3_quarrel_10 : decode cX3_quarrel 10 = .ok (.iconst 0, 1) := by decide +kernel
theorem dX3_quarrel_11 : decode cX3_quarrel 11 = .ok (.iconst 1, 1) := by decide +kernel
theorem dX3_quarrel_12 : decode cX3_quarrel 12 = .ok (.invokestatic 51, 3) := by decide +kernel
theorem dX3_quarrel_15 : decode cX3_quarrel 15 = .ok (.ifCond .ne 9, 3) := by decide +kernel
theorem dX3_quarrel_18 : decode cX3_quarrel 18 = .ok (.aload_n 0, 1) := by decide +kernel
theorem dX3_quarrel_19 : decode cX3_quarrel 19 = .ok (.iconst 0, 1) := by decide +kernel
theorem dX3_quarrel_20 : decode cX3_quarrel 20 = .ok (.invokevirtual 55, 3) := by decide +kernel
theorem dX3_quarrel_23 : decode cX3_quarrel 23 = .ok (.ireturn, 1) := by decide +kernel
theorem dX3_quarrel_24 : decode cX3_quarrel 24 = .ok (.aload_n 0, 1) := by decide +kernel
theorem dX3_quarrel_25 : decode cX3_quarrel 25 = .ok (.getfield 10, 3) := by decide +kernel
theorem dX3_quarrel_28 : decode cX3_quarrel 28 = .ok (.iload_n 1, 1) := by decide +kernel
theorem dX3_quarrel_29 : decode cX3_quarrel 29 = .ok (.iload_n 2, 1) := by decide +kernel
theorem dX3_quarrel_30 : decode cX3_quarrel 30 = .ok (.invokevirtual 113, 3) := by decide +kernel
theorem dX3_quarrel_33 : decode cX3_quarrel 33 = .ok (.ifCond .eq 7, 3) := by decide +kernel
theorem dX3_quarrel_36 : decode cX3_quarrel 36 = .ok (.iconst 1, 1) := by decide +kernel
theorem dX3_quarrel_37 : decode cX3_quarrel 37 = .ok (.goto 4, 3) := by decide +kernel
theorem dX3_quarrel_40 : decode cX3_quarrel 40 = .ok (.iconst 0, 1) := by decide +kernel
theorem dX3_quarrel_41 : decode cX3_quarrel 41 = .ok (.istore 4, 2) := by decide +kernel
theorem dX3_quarrel_43 : decode cX3_quarrel 43 = .ok (.aload_n 0, 1) := by decide +kernel
theorem dX3_quarrel_44 : decode cX3_quarrel 44 = .ok (.getfield 10, 3) := by decide +kernel
theorem dX3_quarrel_47 : decode cX3_quarrel 47 = .ok (.iload_n 1, 1) := by decide +kernel
theorem dX3_quarrel_48 : decode cX3_quarrel 48 = .ok (.iload_n 2, 1) := by decide +kernel
theorem dX3_quarrel_49 : decode cX3_quarrel 49 = .ok (.iload_n 3, 1) := by decide +kernel
theorem dX3_quarrel_50 : decode cX3_quarrel 50 = .ok (.iconst 1, 1) := by decide +kernel
theorem dX3_quarrel_51 : decode cX3_quarrel 51 = .ok (.if_icmp .ne 7, 3) := by decide +kernel
theorem dX3_quarrel_54 : decode cX3_quarrel 54 = .ok (.iconst 1, 1) := by decide +kernel
theorem dX3_quarrel_55 : decode cX3_quarrel 55 = .ok (.goto 4, 3) := by decide +kernel
theorem dX3_quarrel_58 : decode cX3_quarrel 58 = .ok (.iconst 0, 1) := by decide +kernel
theorem dX3_quarrel_59 : decode cX3_quarrel 59 = .ok (.invokevirtual 116, 3) := by decide +kernel
theorem dX3_quarrel_62 : decode cX3_quarrel 62 = .ok (.iload 4, 2) := by decide +kernel
theorem dX3_quarrel_64 : decode cX3_quarrel 64 = .ok (.ireturn, 1) := by decide +kernel
theorem dX3_sit_0 : decode cX3_sit 0 = .ok (.aload_n 0, 1) := by decide +kernel
theorem dX3_sit_1 : decode cX3_sit 1 = .ok (.iload_n 1, 1) := by decide +kernel
theorem dX3_sit_2 : decode cX3_sit 2 = .ok (.invokevirtual 78, 3) := by decide +kernel
theorem dX3_sit_5 : decode cX3_sit 5 = .ok (.ifCond .eq 13, 3) := by decide +kernel
theorem dX3_sit_8 : decode cX3_sit 8 = .ok (.iload_n 2, 1) := by decide +kernel
theorem dX3_sit_9 : decode cX3_sit 9 = .ok (.iconst (-1), 1) := by decide +kernel
theorem dX3_sit_10 : decode cX3_sit 10 = .ok (.bipush 7, 2) := by decide +kernel
theorem dX3_sit_12 : decode cX3_sit 12 = .ok (.invokestatic 51, 3) := by decide +kernel
theorem dX3_sit_15 : decode cX3_sit 15 = .ok (.ifCond .ne 9, 3) := by decide +kernel
theorem dX3_sit_18 : decode cX3_sit 18 = .ok (.aload_n 0, 1) := by decide +kernel
theorem dX3_sit_19 : decode cX3_sit 19 = .ok (.iconst 0, 1) := by decide +kernel
theorem dX3_sit_20 : decode cX3_sit 20 = .ok (.invokevirtual 55, 3) := by decide +kernel
theorem dX3_sit_23 : decode cX3_sit 23 = .ok (.ireturn, 1) := by decide +kernel
theorem dX3_sit_24 : decode cX3_sit 24 = .ok (.iload_n 2, 1) := by decide +kernel
theorem dX3_sit_25 : decode cX3_sit 25 = .ok (.ifCond .lt 34, 3) := by decide +kernel
theorem dX3_sit_28 : decode cX3_sit 28 = .ok (.aload_n 0, 1) := by decide +kernel
theorem dX3_sit_29 : decode cX3_sit 29 = .ok (.getfield 10, 3) := by decide +kernel
theorem dX3_sit_32 : decode cX3_sit 32 = .ok (.getfield 65, 3) := by decide +kernel
theorem dX3_sit_35 : decode cX3_sit 35 = .ok (.iload_n 2, 1) := by decide +kernel
theorem dX3_sit_36 : decode cX3_sit 36 = .ok (.iaload, 1) := by decide +kernel
theorem dX3_sit_37 : decode cX3_sit 37 = .ok (.ifCond .lt 22, 3) := by decide +kernel
theorem dX3_sit_40 : decode cX3_sit 40 = .ok (.aload_n 0, 1) := by decide +kernel
theorem dX3_sit_41 : decode cX3_sit 41 = .ok (.getfield 10, 3) := by decide +kernel
theorem dX3_sit_44 : decode cX3_sit 44 = .ok (.getfield 65, 3) := by decide +kernel
theorem dX3_sit_47 : decode cX3_sit 47 = .ok (.iload_n 2, 1) := by decide +kernel
theorem dX3_sit_48 : decode cX3_sit 48 = .ok (.iaload, 1) := by decide +kernel
theorem dX3_sit_49 : decode cX3_sit 49 = .ok (.iload_n 1, 1) := by decide +kernel
theorem dX3_sit_50 : decode cX3_sit 50 = .ok (.if_icmp .eq 9, 3) := by decide +kernel
theorem dX3_sit_53 : decode cX3_sit 53 = .ok (.aload_n 0, 1) := by decide +kernel
theorem dX3_sit_54 : decode cX3_sit 54 = .ok (.iconst 4, 1) := by decide +kernel
theorem dX3_sit_55 : decode cX3_sit 55 = .ok (.invokevirtual 55, 3) := by decide +kernel
theorem dX3_sit_58 : decode cX3_sit 58 = .ok (.ireturn, 1) := by decide +kernel
theorem dX3_sit_59 : decode cX3_sit 59 = .ok (.aload_n 0, 1) := by decide +kernel
theorem dX3_sit_60 : decode cX3_sit 60 = .ok (.getfield 10, 3) := by decide +kernel
theorem dX3_sit_63 : decode cX3_sit 63 = .ok (.getfield 96, 3) := by decide +kernel
theorem dX3_sit_66 : decode cX3_sit 66 = .ok (.iload_n 1, 1) := by decide +kernel
theorem dX3_sit_67 : decode cX3_sit 67 = .ok (.iaload, 1) := by decide +kernel
theorem dX3_sit_68 : decode cX3_sit 68 = .ok (.istore_n 3, 1) := by decide +kernel
theorem dX3_sit_69 : decode cX3_sit 69 = .ok (.aload_n 0, 1) := by decide +kernel
theorem dX3_sit_70 : decode cX3_sit 70 = .ok (.getfield 10, 3) := by decide +kernel
theorem dX3_sit_73 : decode cX3_sit 73 = .ok (.iload_n 1, 1) := by decide +kernel
theorem dX3_sit_74 : decode cX3_sit 74 = .ok (.iload_n 2, 1) := by decide +kernel
theorem dX3_sit_75 : decode cX3_sit 75 = .ok (.invokevirtual 120, 3) := by decide +kernel
theorem dX3_sit_78 : decode cX3_sit 78 = .ok (.iload_n 3, 1) := by decide +kernel
theorem dX3_sit_79 : decode cX3_sit 79 = .ok (.ireturn, 1) := by decide +kernel
theorem dX3_change_0 : decode cX3_change 0 = .ok (.aload_n 0, 1) := by decide +kernel
theorem dX3_change_1 : decode cX3_change 1 = .ok (.iload_n 1, 1) := by decide +kernel
theorem dX3_change_2 : decode cX3_change 2 = .ok (.iload_n 2, 1) := by decide +kernel
theorem dX3_change_3 : decode cX3_change 3 = .ok (.invokevirtual 110, 3) := by decide +kernel
theorem dX3_change_6 : decode cX3_change 6 = .ok (.ifCond .ne 9, 3) := by decide +kernel
theorem dX3_change_9 : decode cX3_change 9 = .ok (.aload_n 0, 1) := by decide +kernel
theorem dX3_change_10 : decode cX3_change 10 = .ok (.iconst 0, 1) := by decide +kernel
theorem dX3_change_11 : decode cX3_change 11 = .ok (.invokevirtual 55, 3) := by decide +kernel
theorem dX3_change_14 : decode cX3_change 14 = .ok (.ireturn, 1) := by decide +kernel
theorem dX3_change_15 : decode cX3_change 15 = .ok (.aload_n 0, 1) := by decide +kernel
theorem dX3_change_16 : decode cX3_change 16 = .ok (.getfield 10, 3) := by decide +kernel
theorem dX3_change_19 : decode cX3_change 19 = .ok (.iload_n 1, 1) := by decide +kernel
theorem dX3_change_20 : decode cX3_change 20 = .ok (.iload_n 2, 1) := by decide +kernel
theorem dX3_change_21 : decode cX3_change 21 = .ok (.invokevirtual 124, 3) := by decide +kernel
theorem dX3_change_24 : decode cX3_change 24 = .ok (.iconst 1, 1) := by decide +kernel
theorem dX3_change_25 : decode cX3_change 25 = .ok (.ireturn, 1) := by decide +kernel
theorem dX3_well_0 : decode cX3_well 0 = .ok (.aload_n 0, 1) := by decide +kernel
theorem dX3_well_1 : decode cX3_well 1 = .ok (.iload_n 1, 1) := by decide +kernel
theorem dX3_well_2 : decode cX3_well 2 = .ok (.invokevirtual 78, 3) := by decide +kernel
theorem dX3_well_5 : decode cX3_well 5 = .ok (.ifCond .eq 10, 3) := by decide +kernel
theorem dX3_well_8 : decode cX3_well 8 = .ok (.iload_n 2, 1) := by decide +kernel
theorem dX3_well_9 : decode cX3_well 9 = .ok (.invokestatic 47, 3) := by decide +kernel
theorem dX3_well_12 : decode cX3_well 12 = .ok (.ifCond .ne 9, 3) := by decide +kernel
theorem dX3_well_15 : decode cX3_well 15 = .ok (.aload_n 0, 1) := by decide +kernel
theorem dX3_well_16 : decode cX3_well 16 = .ok (.iconst 0, 1) := by decide +kernel
theorem dX3_well_17 : decode cX3_well 17 = .ok (.invokevirtual 55, 3) := by decide +kernel
theorem dX3_well_20 : decode cX3_well 20 = .ok (.ireturn, 1) := by decide +kernel
theorem dX3_well_21 : decode cX3_well 21 = .ok (.sipush 1000, 3) := by decide +kernel
theorem dX3_well_24 : decode cX3_well 24 = .ok (.aload_n 0, 1) := by decide +kernel
theorem dX3_well_25 : decode cX3_well 25 = .ok (.getfield 10, 3) := by decide +kernel
theorem dX3_well_28 : decode cX3_well 28 = .ok (.iload_n 1, 1) := by decide +kernel
theorem dX3_well_29 : decode cX3_well 29 = .ok (.iload_n 2, 1) := by decide +kernel
theorem dX3_well_30 : decode cX3_well 30 = .ok (.invokevirtual 127, 3) := by decide +kernel
theorem dX3_well_33 : decode cX3_well 33 = .ok (.iadd, 1) := by decide +kernel
theorem dX3_well_34 : decode cX3_well 34 = .ok (.ireturn, 1) := by decide +kernel
theorem dX3_hours_0 : decode cX3_hours 0 = .ok (.iload_n 1, 1) := by decide +kernel
theorem dX3_hours_1 : decode cX3_hours 1 = .ok (.iconst 1, 1) := by decide +kernel
theorem dX3_hours_2 : decode cX3_hours 2 = .ok (.bipush 60, 2) := by decide +kernel
theorem dX3_hours_4 : decode cX3_hours 4 = .ok (.invokestatic 51, 3) := by decide +kernel
theorem dX3_hours_7 : decode cX3_hours 7 = .ok (.ifCond .ne 9, 3) := by decide +kernel
theorem dX3_hours_10 : decode cX3_hours 10 = .ok (.aload_n 0, 1) := by decide +kernel
theorem dX3_hours_11 : decode cX3_hours 11 = .ok (.iconst 0, 1) := by decide +kernel
theorem dX3_hours_12 : decode cX3_hours 12 = .ok (.invokevirtual 55, 3) := by decide +kernel
theorem dX3_hours_15 : decode cX3_hours 15 = .ok (.ireturn, 1) := by decide +kernel
theorem dX3_hours_16 : decode cX3_hours 16 = .ok (.aload_n 0, 1) := by decide +kernel
theorem dX3_hours_17 : decode cX3_hours 17 = .ok (.getfield 10, 3) := by decide +kernel
theorem dX3_hours_20 : decode cX3_hours 20 = .ok (.getfield 131, 3) := by decide +kernel
theorem dX3_hours_23 : decode cX3_hours 23 = .ok (.iload_n 1, 1) := by decide +kernel
theorem dX3_hours_24 : decode cX3_hours 24 = .ok (.iadd, 1) := by decide +kernel
theorem dX3_hours_25 : decode cX3_hours 25 = .ok (.ldc 134, 2) := by decide +kernel
theorem dX3_hours_27 : decode cX3_hours 27 = .ok (.if_icmp .le 9, 3) := by decide +kernel
theorem dX3_hours_30 : decode cX3_hours 30 = .ok (.aload_n 0, 1) := by decide +kernel
theorem dX3_hours_31 : decode cX3_hours 31 = .ok (.iconst 4, 1) := by decide +kernel
theorem dX3_hours_32 : decode cX3_hours 32 = .ok (.invokevirtual 55, 3) := by decide +kernel
theorem dX3_hours_35 : decode cX3_hours 35 = .ok (.ireturn, 1) := by decide +kernel
theorem dX3_hours_36 : decode cX3_hours 36 = .ok (.aload_n 0, 1) := by decide +kernel
theorem dX3_hours_37 : decode cX3_hours 37 = .ok (.getfield 10, 3) := by decide +kernel
theorem dX3_hours_40 : decode cX3_hours 40 = .ok (.iload_n 1, 1) := by decide +kernel
theorem dX3_hours_41 : decode cX3_hours 41 = .ok (.invokevirtual 135, 3) := by decide +kernel
theorem dX3_hours_44 : decode cX3_hours 44 = .ok (.ireturn, 1) := by decide +kernel
theorem dX3_now_0 : decode cX3_now 0 = .ok (.iload_n 1, 1) := by decide +kernel
theorem dX3_now_1 : decode cX3_now 1 = .ok (.tableswitch 102 0 5 #[39, 47, 58, 74, 82, 94], 39) := by decide +kernel
theorem dX3_now_40 : decode cX3_now 40 = .ok (.aload_n 0, 1) := by decide +kernel
theorem dX3_now_41 : decode cX3_now 41 = .ok (.getfield 10, 3) := by decide +kernel
theorem dX3_now_44 : decode cX3_now 44 = .ok (.getfield 131, 3) := by decide +kernel
theorem dX3_now_47 : decode cX3_now 47 = .ok (.ireturn, 1) := by decide +kernel
theorem dX3_now_48 : decode cX3_now 48 = .ok (.aload_n 0, 1) := by decide +kernel
theorem dX3_now_49 : decode cX3_now 49 = .ok (.getfield 10, 3) := by decide +kernel
theorem dX3_now_52 : decode cX3_now 52 = .ok (.getfield 131, 3) := by decide +kernel
theorem dX3_now_55 : decode cX3_now 55 = .ok (.bipush 24, 2) := by decide +kernel
theorem dX3_now_57 : decode cX3_now 57 = .ok (.irem, 1) := by decide +kernel
theorem dX3_now_58 : decode cX3_now 58 = .ok (.ireturn, 1) := by decide +kernel
theorem dX3_now_59 : decode cX3_now 59 = .ok (.aload_n 0, 1) := by decide +kernel
theorem dX3_now_60 : decode cX3_now 60 = .ok (.getfield 10, 3) := by decide +kernel
theorem dX3_now_63 : decode cX3_now 63 = .ok (.invokevirtual 138, 3) := by decide +kernel
theorem dX3_now_66 : decode cX3_now 66 = .ok (.ifCond .eq 7, 3) := by decide +kernel
theorem dX3_now_69 : decode cX3_now 69 = .ok (.iconst 1, 1) := by decide +kernel
theorem dX3_now_70 : decode cX3_now 70 = .ok (.goto 4, 3) := by decide +kernel
theorem dX3_now_73 : decode cX3_now 73 = .ok (.iconst 0, 1) := by decide +kernel
theorem dX3_now_74 : decode cX3_now 74 = .ok (.ireturn, 1) := by decide +kernel
theorem dX3_now_75 : decode cX3_now 75 = .ok (.aload_n 0, 1) := by decide +kernel
theorem dX3_now_76 : decode cX3_now 76 = .ok (.getfield 10, 3) := by decide +kernel
theorem dX3_now_79 : decode cX3_now 79 = .ok (.invokevirtual 142, 3) := by decide +kernel
theorem dX3_now_82 : decode cX3_now 82 = .ok (.ireturn, 1) := by decide +kernel
theorem dX3_now_83 : decode cX3_now 83 = .ok (.sipush 10000, 3) := by decide +kernel
theorem dX3_now_86 : decode cX3_now 86 = .ok (.aload_n 0, 1) := by decide +kernel
theorem dX3_now_87 : decode cX3_now 87 = .ok (.getfield 10, 3) := by decide +kernel
theorem dX3_now_90 : decode cX3_now 90 = .ok (.invokevirtual 146, 3) := by decide +kernel
theorem dX3_now_93 : decode cX3_now 93 = .ok (.iadd, 1) := by decide +kernel
theorem dX3_now_94 : decode cX3_now 94 = .ok (.ireturn, 1) := by decide +kernel
theorem dX3_now_95 : decode cX3_now 95 = .ok (.aload_n 0, 1) := by decide +kernel
theorem dX3_now_96 : decode cX3_now 96 = .ok (.getfield 10, 3) := by decide +kernel
theorem dX3_now_99 : decode cX3_now 99 = .ok (.invokevirtual 149, 3) := by decide +kernel
theorem dX3_now_102 : decode cX3_now 102 = .ok (.ireturn, 1) := by decide +kernel
theorem dX3_now_103 : decode cX3_now 103 = .ok (.aload_n 0, 1) := by decide +kernel
theorem dX3_now_104 : decode cX3_now 104 = .ok (.iconst 0, 1) := by decide +kernel
theorem dX3_now_105 : decode cX3_now 105 = .ok (.invokevirtual 55, 3) := by decide +kernel
theorem dX3_now_108 : decode cX3_now 108 = .ok (.ireturn, 1) := by decide +kernel
theorem dX3_on_0 : decode cX3_on 0 = .ok (.aload_n 0, 1) := by decide +kernel
theorem dX3_on_1 : decode cX3_on 1 = .ok (.iload_n 1, 1) := by decide +kernel
theorem dX3_on_2 : decode cX3_on 2 = .ok (.invokevirtual 78, 3) := by decide +kernel
theorem dX3_on_5 : decode cX3_on 5 = .ok (.ifCond .eq 22, 3) := by decide +kernel
theorem dX3_on_8 : decode cX3_on 8 = .ok (.iload_n 2, 1) := by decide +kernel
theorem dX3_on_9 : decode cX3_on 9 = .ok (.iconst 0, 1) := by decide +kernel
theorem dX3_on_10 : decode cX3_on 10 = .ok (.bipush 60, 2) := by decide +kernel
theorem dX3_on_12 : decode cX3_on 12 = .ok (.invokestatic 51, 3) := by decide +kernel
theorem dX3_on_15 : decode cX3_on 15 = .ok (.ifCond .eq 12, 3) := by decide +kernel
theorem dX3_on_18 : decode cX3_on 18 = .ok (.iload_n 3, 1) := by decide +kernel
theorem dX3_on_19 : decode cX3_on 19 = .ok (.iconst 0, 1) := by decide +kernel
theorem dX3_on_20 : decode cX3_on 20 = .ok (.iconst 1, 1) := by decide +kernel
theorem dX3_on_21 : decode cX3_on 21 = .ok (.invokestatic 51, 3) := by decide +kernel
theorem dX3_on_24 : decode cX3_on 24 = .ok (.ifCond .ne 9, 3) := by decide +kernel
theorem dX3_on_27 : decode cX3_on 27 = .ok (.aload_n 0, 1) := by decide +kernel
theorem dX3_on_28 : decode cX3_on 28 = .ok (.iconst 0, 1) := by decide +kernel
theorem dX3_on_29 : decode cX3_on 29 = .ok (.invokevirtual 55, 3) := by decide +kernel
theorem dX3_on_32 : decode cX3_on 32 = .ok (.ireturn, 1) := by decide +kernel
theorem dX3_on_33 : decode cX3_on 33 = .ok (.aload_n 0, 1) := by decide +kernel
theorem dX3_on_34 : decode cX3_on 34 = .ok (.getfield 16, 3) := by decide +kernel
theorem dX3_on_37 : decode cX3_on 37 = .ok (.aload_n 0, 1) := by decide +kernel
theorem dX3_on_38 : decode cX3_on 38 = .ok (.getfield 10, 3) := by decide +kernel
theorem dX3_on_41 : decode cX3_on 41 = .ok (.invokevirtual 152, 3) := by decide +kernel
theorem dX3_on_44 : decode cX3_on 44 = .ok (.aload_n 0, 1) := by decide +kernel
theorem dX3_on_45 : decode cX3_on 45 = .ok (.getfield 16, 3) := by decide +kernel
theorem dX3_on_48 : decode cX3_on 48 = .ok (.iload_n 2, 1) := by decide +kernel
theorem dX3_on_49 : decode cX3_on 49 = .ok (.invokevirtual 135, 3) := by decide +kernel
theorem dX3_on_52 : decode cX3_on 52 = .ok (.pop, 1) := by decide +kernel
theorem dX3_on_53 : decode cX3_on 53 = .ok (.iload_n 3, 1) := by decide +kernel
theorem dX3_on_54 : decode cX3_on 54 = .ok (.ifCond .ne 15, 3) := by decide +kernel
theorem dX3_on_57 : decode cX3_on 57 = .ok (.aload_n 0, 1) := by decide +kernel
theorem dX3_on_58 : decode cX3_on 58 = .ok (.getfield 16, 3) := by decide +kernel
theorem dX3_on_61 : decode cX3_on 61 = .ok (.getfield 96, 3) := by decide +kernel
theorem dX3_on_64 : decode cX3_on 64 = .ok (.iload_n 1, 1) := by decide +kernel
theorem dX3_on_65 : decode cX3_on 65 = .ok (.iaload, 1) := by decide +kernel
theorem dX3_on_66 : decode cX3_on 66 = .ok (.goto 12, 3) := by decide +kernel
theorem dX3_on_69 : decode cX3_on 69 = .ok (.aload_n 0, 1) := by decide +kernel
theorem dX3_on_70 : decode cX3_on 70 = .ok (.getfield 16, 3) := by decide +kernel
theorem dX3_on_73 : decode cX3_on 73 = .ok (.getfield 93, 3) := by decide +kernel
theorem dX3_on_76 : decode cX3_on 76 = .ok (.iload_n 1, 1) := by decide +kernel
theorem dX3_on_77 : decode cX3_on 77 = .ok (.iaload, 1) := by decide +kernel
theorem dX3_on_78 : decode cX3_on 78 = .ok (.ireturn, 1) := by decide +kernel
theorem dX3_peace_0 : decode cX3_peace 0 = .ok (.iload_n 1, 1) := by decide +kernel
theorem dX3_peace_1 : decode cX3_peace 1 = .ok (.iconst 0, 1) := by decide +kernel
theorem dX3_peace_2 : decode cX3_peace 2 = .ok (.bipush 60, 2) := by decide +kernel
theorem dX3_peace_4 : decode cX3_peace 4 = .ok (.invokestatic 51, 3) := by decide +kernel
theorem dX3_peace_7 : decode cX3_peace 7 = .ok (.ifCond .ne 9, 3) := by decide +kernel
theorem dX3_peace_10 : decode cX3_peace 10 = .ok (.aload_n 0, 1) := by decide +kernel
theorem dX3_peace_11 : decode cX3_peace 11 = .ok (.iconst 0, 1) := by decide +kernel
theorem dX3_peace_12 : decode cX3_peace 12 = .ok (.invokevirtual 55, 3) := by decide +kernel
theorem dX3_peace_15 : decode cX3_peace 15 = .ok (.ireturn, 1) := by decide +kernel
theorem dX3_peace_16 : decode cX3_peace 16 = .ok (.aload_n 0, 1) := by decide +kernel
theorem dX3_peace_17 : decode cX3_peace 17 = .ok (.getfield 16, 3) := by decide +kernel
theorem dX3_peace_20 : decode cX3_peace 20 = .ok (.aload_n 0, 1) := by decide +kernel
theorem dX3_peace_21 : decode cX3_peace 21 = .ok (.getfield 10, 3) := by decide +kernel
theorem dX3_peace_24 : decode cX3_peace 24 = .ok (.invokevirtual 152, 3) := by decide +kernel
theorem dX3_peace_27 : decode cX3_peace 27 = .ok (.aload_n 0, 1) := by decide +kernel
theorem dX3_peace_28 : decode cX3_peace 28 = .ok (.getfield 16, 3) := by decide +kernel
theorem dX3_peace_31 : decode cX3_peace 31 = .ok (.iload_n 1, 1) := by decide +kernel
theorem dX3_peace_32 : decode cX3_peace 32 = .ok (.invokevirtual 135, 3) := by decide +kernel
theorem dX3_peace_35 : decode cX3_peace 35 = .ok (.pop, 1) := by decide +kernel
theorem dX3_peace_36 : decode cX3_peace 36 = .ok (.sipush 10000, 3) := by decide +kernel
theorem dX3_peace_39 : decode cX3_peace 39 = .ok (.aload_n 0, 1) := by decide +kernel
theorem dX3_peace_40 : decode cX3_peace 40 = .ok (.getfield 16, 3) := by decide +kernel
theorem dX3_peace_43 : decode cX3_peace 43 = .ok (.invokevirtual 146, 3) := by decide +kernel
theorem dX3_peace_46 : decode cX3_peace 46 = .ok (.iadd, 1) := by decide +kernel
theorem dX3_peace_47 : decode cX3_peace 47 = .ok (.ireturn, 1) := by decide +kernel
theorem dX3_settles_0 : decode cX3_settles 0 = .ok (.aload_n 0, 1) := by decide +kernel
theorem dX3_settles_1 : decode cX3_settles 1 = .ok (.getfield 16, 3) := by decide +kernel
theorem dX3_settles_4 : decode cX3_settles 4 = .ok (.aload_n 0, 1) := by decide +kernel
theorem dX3_settles_5 : decode cX3_settles 5 = .ok (.getfield 10, 3) := by decide +kernel
theorem dX3_settles_8 : decode cX3_settles 8 = .ok (.invokevirtual 152, 3) := by decide +kernel
theorem dX3_settles_11 : decode cX3_settles 11 = .ok (.iconst 0, 1) := by decide +kernel
theorem dX3_settles_12 : decode cX3_settles 12 = .ok (.istore_n 1, 1) := by decide +kernel
theorem dX3_settles_13 : decode cX3_settles 13 = .ok (.iload_n 1, 1) := by decide +kernel
theorem dX3_settles_14 : decode cX3_settles 14 = .ok (.bipush 60, 2) := by decide +kernel
theorem dX3_settles_16 : decode cX3_settles 16 = .ok (.if_icmp .gt 21, 3) := by decide +kernel
theorem dX3_settles_19 : decode cX3_settles 19 = .ok (.aload_n 0, 1) := by decide +kernel
theorem dX3_settles_20 : decode cX3_settles 20 = .ok (.getfield 16, 3) := by decide +kernel
theorem dX3_settles_23 : decode cX3_settles 23 = .ok (.invokevirtual 156, 3) := by decide +kernel
theorem dX3_settles_26 : decode cX3_settles 26 = .ok (.ifCond .ne 5, 3) := by decide +kernel
theorem dX3_settles_29 : decode cX3_settles 29 = .ok (.iload_n 1, 1) := by decide +kernel
theorem dX3_settles_30 : decode cX3_settles 30 = .ok (.ireturn, 1) := by decide +kernel
theorem dX3_settles_31 : decode cX3_settles 31 = .ok (.iinc 1 1, 3) := by decide +kernel
theorem dX3_settles_34 : decode cX3_settles 34 = .ok (.goto (-21), 3) := by decide +kernel
theorem dX3_settles_37 : decode cX3_settles 37 = .ok (.aload_n 0, 1) := by decide +kernel
theorem dX3_settles_38 : decode cX3_settles 38 = .ok (.iconst 3, 1) := by decide +kernel
theorem dX3_settles_39 : decode cX3_settles 39 = .ok (.invokevirtual 55, 3) := by decide +kernel
theorem dX3_settles_42 : decode cX3_settles 42 = .ok (.ireturn, 1) := by decide +kernel
theorem dX3_gets_0 : decode cX3_gets 0 = .ok (.aload_n 0, 1) := by decide +kernel
theorem dX3_gets_1 : decode cX3_gets 1 = .ok (.iload_n 1, 1) := by decide +kernel
theorem dX3_gets_2 : decode cX3_gets 2 = .ok (.invokevirtual 78, 3) := by decide +kernel
theorem dX3_gets_5 : decode cX3_gets 5 = .ok (.ifCond .eq 10, 3) := by decide +kernel
theorem dX3_gets_8 : decode cX3_gets 8 = .ok (.iload_n 2, 1) := by decide +kernel
theorem dX3_gets_9 : decode cX3_gets 9 = .ok (.invokestatic 47, 3) := by decide +kernel
theorem dX3_gets_12 : decode cX3_gets 12 = .ok (.ifCond .ne 9, 3) := by decide +kernel
theorem dX3_gets_15 : decode cX3_gets 15 = .ok (.aload_n 0, 1) := by decide +kernel
theorem dX3_gets_16 : decode cX3_gets 16 = .ok (.iconst 0, 1) := by decide +kernel
theorem dX3_gets_17 : decode cX3_gets 17 = .ok (.invokevirtual 55, 3) := by decide +kernel
theorem dX3_gets_20 : decode cX3_gets 20 = .ok (.ireturn, 1) := by decide +kernel
theorem dX3_gets_21 : decode cX3_gets 21 = .ok (.aload_n 0, 1) := by decide +kernel
theorem dX3_gets_22 : decode cX3_gets 22 = .ok (.getfield 16, 3) := by decide +kernel
theorem dX3_gets_25 : decode cX3_gets 25 = .ok (.aload_n 0, 1) := by decide +kernel
theorem dX3_gets_26 : decode cX3_gets 26 = .ok (.getfield 10, 3) := by decide +kernel
theorem dX3_gets_29 : decode cX3_gets 29 = .ok (.invokevirtual 152, 3) := by decide +kernel
theorem dX3_gets_32 : decode cX3_gets 32 = .ok (.iconst 0, 1) := by decide +kernel
theorem dX3_gets_33 : decode cX3_gets 33 = .ok (.istore_n 3, 1) := by decide +kernel
theorem dX3_gets_34 : decode cX3_gets 34 = .ok (.iload_n 3, 1) := by decide +kernel
theorem dX3_gets_35 : decode cX3_gets 35 = .ok (.bipush 60, 2) := by decide +kernel
theorem dX3_gets_37 : decode cX3_gets 37 = .ok (.if_icmp .gt 32, 3) := by decide +kernel
theorem dX3_gets_40 : decode cX3_gets 40 = .ok (.aload_n 0, 1) := by decide +kernel
theorem dX3_gets_41 : decode cX3_gets 41 = .ok (.getfield 16, 3) := by decide +kernel
theorem dX3_gets_44 : decode cX3_gets 44 = .ok (.getfield 96, 3) := by decide +kernel
theorem dX3_gets_47 : decode cX3_gets 47 = .ok (.iload_n 1, 1) := by decide +kernel
theorem dX3_gets_48 : decode cX3_gets 48 = .ok (.iaload, 1) := by decide +kernel
theorem dX3_gets_49 : decode cX3_gets 49 = .ok (.iload_n 2, 1) := by decide +kernel
theorem dX3_gets_50 : decode cX3_gets 50 = .ok (.if_icmp .ne 5, 3) := by decide +kernel
theorem dX3_gets_53 : decode cX3_gets 53 = .ok (.iload_n 3, 1) := by decide +kernel
theorem dX3_gets_54 : decode cX3_gets 54 = .ok (.ireturn, 1) := by decide +kernel
theorem dX3_gets_55 : decode cX3_gets 55 = .ok (.aload_n 0, 1) := by decide +kernel
theorem dX3_gets_56 : decode cX3_gets 56 = .ok (.getfield 16, 3) := by decide +kernel
theorem dX3_gets_59 : decode cX3_gets 59 = .ok (.invokevirtual 156, 3) := by decide +kernel
theorem dX3_gets_62 : decode cX3_gets 62 = .ok (.pop, 1) := by decide +kernel
theorem dX3_gets_63 : decode cX3_gets 63 = .ok (.iinc 3 1, 3) := by decide +kernel
theorem dX3_gets_66 : decode cX3_gets 66 = .ok (.goto (-32), 3) := by decide +kernel
theorem dX3_gets_69 : decode cX3_gets 69 = .ok (.aload_n 0, 1) := by decide +kernel
theorem dX3_gets_70 : decode cX3_gets 70 = .ok (.iconst 3, 1) := by decide +kernel
theorem dX3_gets_71 : decode cX3_gets 71 = .ok (.invokevirtual 55, 3) := by decide +kernel
theorem dX3_gets_74 : decode cX3_gets 74 = .ok (.ireturn, 1) := by decide +kernel
theorem dX3_best_0 : decode cX3_best 0 = .ok (.iconst 0, 1) := by decide +kernel
theorem dX3_best_1 : decode cX3_best 1 = .ok (.istore_n 1, 1) := by decide +kernel
theorem dX3_best_2 : decode cX3_best 2 = .ok (.iconst 0, 1) := by decide +kernel
theorem dX3_best_3 : decode cX3_best 3 = .ok (.istore_n 2, 1) := by decide +kernel
theorem dX3_best_4 : decode cX3_best 4 = .ok (.iload_n 2, 1) := by decide +kernel
theorem dX3_best_5 : decode cX3_best 5 = .ok (.aload_n 0, 1) := by decide +kernel
theorem dX3_best_6 : decode cX3_best 6 = .ok (.getfield 10, 3) := by decide +kernel
theorem dX3_best_9 : decode cX3_best 9 = .ok (.getfield 71, 3) := by decide +kernel
theorem dX3_best_12 : decode cX3_best 12 = .ok (.if_icmp .ge 31, 3) := by decide +kernel
theorem dX3_best_15 : decode cX3_best 15 = .ok (.aload_n 0, 1) := by decide +kernel
theorem dX3_best_16 : decode cX3_best 16 = .ok (.getfield 10, 3) := by decide +kernel
theorem dX3_best_19 : decode cX3_best 19 = .ok (.getfield 96, 3) := by decide +kernel
theorem dX3_best_22 : decode cX3_best 22 = .ok (.iload_n 2, 1) := by decide +kernel
theorem dX3_best_23 : decode cX3_best 23 = .ok (.iaload, 1) := by decide +kernel
theorem dX3_best_24 : decode cX3_best 24 = .ok (.ifCond .lt 13, 3) := by decide +kernel
theorem dX3_best_27 : decode cX3_best 27 = .ok (.aload_n 0, 1) := by decide +kernel
theorem dX3_best_28 : decode cX3_best 28 = .ok (.getfield 44, 3) := by decide +kernel
theorem dX3_best_31 : decode cX3_best 31 = .ok (.iload_n 1, 1) := by decide +kernel
theorem dX3_best_32 : decode cX3_best 32 = .ok (.iload_n 2, 1) := by decide +kernel
theorem dX3_best_33 : decode cX3_best 33 = .ok (.iastore, 1) := by decide +kernel
theorem dX3_best_34 : decode cX3_best 34 = .ok (.iinc 1 1, 3) := by decide +kernel
theorem dX3_best_37 : decode cX3_best 37 = .ok (.iinc 2 1, 3) := by decide +kernel
theorem dX3_best_40 : decode cX3_best 40 = .ok (.goto (-36), 3) := by decide +kernel
theorem dX3_best_43 : decode cX3_best 43 = .ok (.iload_n 1, 1) := by decide +kernel
theorem dX3_best_44 : decode cX3_best 44 = .ok (.bipush 6, 2) := by decide +kernel
theorem dX3_best_46 : decode cX3_best 46 = .ok (.if_icmp .le 10, 3) := by decide +kernel
theorem dX3_best_49 : decode cX3_best 49 = .ok (.aload_n 0, 1) := by decide +kernel
theorem dX3_best_50 : decode cX3_best 50 = .ok (.bipush 6, 2) := by decide +kernel
theorem dX3_best_52 : decode cX3_best 52 = .ok (.invokevirtual 55, 3) := by decide +kernel
theorem dX3_best_55 : decode cX3_best 55 = .ok (.ireturn, 1) := by decide +kernel
theorem dX3_best_56 : decode cX3_best 56 = .ok (.aload_n 0, 1) := by decide +kernel
theorem dX3_best_57 : decode cX3_best 57 = .ok (.getfield 16, 3) := by decide +kernel
theorem dX3_best_60 : decode cX3_best 60 = .ok (.aload_n 0, 1) := by decide +kernel
theorem dX3_best_61 : decode cX3_best 61 = .ok (.getfield 10, 3) := by decide +kernel
theorem dX3_best_64 : decode cX3_best 64 = .ok (.invokevirtual 152, 3) := by decide +kernel
theorem dX3_best_67 : decode cX3_best 67 = .ok (.sipush 10000, 3) := by decide +kernel
theorem dX3_best_70 : decode cX3_best 70 = .ok (.aload_n 0, 1) := by decide +kernel
theorem dX3_best_71 : decode cX3_best 71 = .ok (.iconst 0, 1) := by decide +kernel
theorem dX3_best_72 : decode cX3_best 72 = .ok (.iload_n 1, 1) := by decide +kernel
theorem dX3_best_73 : decode cX3_best 73 = .ok (.invokevirtual 159, 3) := by decide +kernel
theorem dX3_best_76 : decode cX3_best 76 = .ok (.iadd, 1) := by decide +kernel
theorem dX3_best_77 : decode cX3_best 77 = .ok (.ireturn, 1) := by decide +kernel
theorem dX3_mend_0 : decode cX3_mend 0 = .ok (.iload_n 1, 1) := by decide +kernel
theorem dX3_mend_1 : decode cX3_mend 1 = .ok (.iconst 0, 1) := by decide +kernel
theorem dX3_mend_2 : decode cX3_mend 2 = .ok (.bipush 30, 2) := by decide +kernel
theorem dX3_mend_4 : decode cX3_mend 4 = .ok (.invokestatic 51, 3) := by decide +kernel
theorem dX3_mend_7 : decode cX3_mend 7 = .ok (.ifCond .ne 9, 3) := by decide +kernel
theorem dX3_mend_10 : decode cX3_mend 10 = .ok (.aload_n 0, 1) := by decide +kernel
theorem dX3_mend_11 : decode cX3_mend 11 = .ok (.iconst 0, 1) := by decide +kernel
theorem dX3_mend_12 : decode cX3_mend 12 = .ok (.invokevirtual 55, 3) := by decide +kernel
theorem dX3_mend_15 : decode cX3_mend 15 = .ok (.ireturn, 1) := by decide +kernel
theorem dX3_mend_16 : decode cX3_mend 16 = .ok (.aload_n 0, 1) := by decide +kernel
theorem dX3_mend_17 : decode cX3_mend 17 = .ok (.getfield 16, 3) := by decide +kernel
theorem dX3_mend_20 : decode cX3_mend 20 = .ok (.aload_n 0, 1) := by decide +kernel
theorem dX3_mend_21 : decode cX3_mend 21 = .ok (.getfield 10, 3) := by decide +kernel
theorem dX3_mend_24 : decode cX3_mend 24 = .ok (.invokevirtual 152, 3) := by decide +kernel
theorem dX3_mend_27 : decode cX3_mend 27 = .ok (.aload_n 0, 1) := by decide +kernel
theorem dX3_mend_28 : decode cX3_mend 28 = .ok (.getfield 16, 3) := by decide +kernel
theorem dX3_mend_31 : decode cX3_mend 31 = .ok (.iload_n 1, 1) := by decide +kernel
theorem dX3_mend_32 : decode cX3_mend 32 = .ok (.invokevirtual 135, 3) := by decide +kernel
theorem dX3_mend_35 : decode cX3_mend 35 = .ok (.pop, 1) := by decide +kernel
theorem dX3_mend_36 : decode cX3_mend 36 = .ok (.aload_n 0, 1) := by decide +kernel
theorem dX3_mend_37 : decode cX3_mend 37 = .ok (.getfield 16, 3) := by decide +kernel
theorem dX3_mend_40 : decode cX3_mend 40 = .ok (.invokevirtual 146, 3) := by decide +kernel
theorem dX3_mend_43 : decode cX3_mend 43 = .ok (.istore_n 2, 1) := by decide +kernel
theorem dX3_mend_44 : decode cX3_mend 44 = .ok (.iconst (-1), 1) := by decide +kernel
theorem dX3_mend_45 : decode cX3_mend 45 = .ok (.istore_n 3, 1) := by decide +kernel
theorem dX3_mend_46 : decode cX3_mend 46 = .ok (.iconst 0, 1) := by decide +kernel
theorem dX3_mend_47 : decode cX3_mend 47 = .ok (.istore 4, 2) := by decide +kernel
theorem dX3_mend_49 : decode cX3_mend 49 = .ok (.iload 4, 2) := by decide +kernel
theorem dX3_mend_51 : decode cX3_mend 51 = .ok (.aload_n 0, 1) := by decide +kernel
theorem dX3_mend_52 : decode cX3_mend 52 = .ok (.getfield 10, 3) := by decide +kernel
theorem dX3_mend_55 : decode cX3_mend 55 = .ok (.getfield 71, 3) := by decide +kernel
theorem dX3_mend_58 : decode cX3_mend 58 = .ok (.if_icmp .ge 107, 3) := by decide +kernel
theorem dX3_mend_61 : decode cX3_mend 61 = .ok (.iload 4, 2) := by decide +kernel
theorem dX3_mend_63 : decode cX3_mend 63 = .ok (.iconst 1, 1) := by decide +kernel
theorem dX3_mend_64 : decode cX3_mend 64 = .ok (.iadd, 1) := by decide +kernel
theorem dX3_mend_65 : decode cX3_mend 65 = .ok (.istore 5, 2) := by decide +kernel
theorem dX3_mend_67 : decode cX3_mend 67 = .ok (.iload 5, 2) := by decide +kernel
theorem dX3_mend_69 : decode cX3_mend 69 = .ok (.aload_n 0, 1) := by decide +kernel
theorem dX3_mend_70 : decode cX3_mend 70 = .ok (.getfield 10, 3) := by decide +kernel
theorem dX3_mend_73 : decode cX3_mend 73 = .ok (.getfield 71, 3) := by decide +kernel
theorem dX3_mend_76 : decode cX3_mend 76 = .ok (.if_icmp .ge 83, 3) := by decide +kernel
theorem dX3_mend_79 : decode cX3_mend 79 = .ok (.aload_n 0, 1) := by decide +kernel
theorem dX3_mend_80 : decode cX3_mend 80 = .ok (.getfield 10, 3) := by decide +kernel
theorem dX3_mend_83 : decode cX3_mend 83 = .ok (.iload 4, 2) := by decide +kernel
theorem dX3_mend_85 : decode cX3_mend 85 = .ok (.iload 5, 2) := by decide +kernel
theorem dX3_mend_87 : decode cX3_mend 87 = .ok (.invokevirtual 113, 3) := by decide +kernel
theorem dX3_mend_90 : decode cX3_mend 90 = .ok (.ifCond .eq 63, 3) := by decide +kernel
theorem dX3_mend_93 : decode cX3_mend 93 = .ok (.aload_n 0, 1) := by decide +kernel
theorem dX3_mend_94 : decode cX3_mend 94 = .ok (.getfield 16, 3) := by decide +kernel
theorem dX3_mend_97 : decode cX3_mend 97 = .ok (.aload_n 0, 1) := by decide +kernel
theorem dX3_mend_98 : decode cX3_mend 98 = .ok (.getfield 10, 3) := by decide +kernel
theorem dX3_mend_101 : decode cX3_mend 101 = .ok (.invokevirtual 152, 3) := by decide +kernel
theorem dX3_mend_104 : decode cX3_mend 104 = .ok (.aload_n 0, 1) := by decide +kernel
theorem dX3_mend_105 : decode cX3_mend 105 = .ok (.getfield 16, 3) := by decide +kernel
theorem dX3_mend_108 : decode cX3_mend 108 = .ok (.iload 4, 2) := by decide +kernel
theorem dX3_mend_110 : decode cX3_mend 110 = .ok (.iload 5, 2) := by decide +kernel
theorem dX3_mend_112 : decode cX3_mend 112 = .ok (.iconst 0, 1) := by decide +kernel
theorem dX3_mend_113 : decode cX3_mend 113 = .ok (.invokevirtual 116, 3) := by decide +kernel
theorem dX3_mend_116 : decode cX3_mend 116 = .ok (.aload_n 0, 1) := by decide +kernel
theorem dX3_mend_117 : decode cX3_mend 117 = .ok (.getfield 16, 3) := by decide +kernel
theorem dX3_mend_120 : decode cX3_mend 120 = .ok (.iload_n 1, 1) := by decide +kernel
theorem dX3_mend_121 : decode cX3_mend 121 = .ok (.invokevirtual 135, 3) := by decide +kernel
theorem dX3_mend_124 : decode cX3_mend 124 = .ok (.pop, 1) := by decide +kernel
theorem dX3_mend_125 : decode cX3_mend 125 = .ok (.aload_n 0, 1) := by decide +kernel
theorem dX3_mend_126 : decode cX3_mend 126 = .ok (.getfield 16, 3) := by decide +kernel
theorem dX3_mend_129 : decode cX3_mend 129 = .ok (.invokevirtual 146, 3) := by decide +kernel
theorem dX3_mend_132 : decode cX3_mend 132 = .ok (.iload_n 2, 1) := by decide +kernel
theorem dX3_mend_133 : decode cX3_mend 133 = .ok (.if_icmp .le 20, 3) := by decide +kernel
theorem dX3_mend_136 : decode cX3_mend 136 = .ok (.aload_n 0, 1) := by decide +kernel
theorem dX3_mend_137 : decode cX3_mend 137 = .ok (.getfield 16, 3) := by decide +kernel
theorem dX3_mend_140 : decode cX3_mend 140 = .ok (.invokevirtual 146, 3) := by decide +kernel
theorem dX3_mend_143 : decode cX3_mend 143 = .ok (.istore_n 2, 1) := by decide +kernel
theorem dX3_mend_144 : decode cX3_mend 144 = .ok (.bipush 10, 2) := by decide +kernel
theorem dX3_mend_146 : decode cX3_mend 146 = .ok (.iload 4, 2) := by decide +kernel
theorem dX3_mend_148 : decode cX3_mend 148 = .ok (.imul, 1) := by decide +kernel
theorem dX3_mend_149 : decode cX3_mend 149 = .ok (.iload 5, 2) := by decide +kernel
theorem dX3_mend_151 : decode cX3_mend 151 = .ok (.iadd, 1) := by decide +kernel
theorem dX3_mend_152 : decode cX3_mend 152 = .ok (.istore_n 3, 1) := by decide +kernel
theorem dX3_mend_153 : decode cX3_mend 153 = .ok (.iinc 5 1, 3) := by decide +kernel
theorem dX3_mend_156 : decode cX3_mend 156 = .ok (.goto (-89), 3) := by decide +kernel
theorem dX3_mend_159 : decode cX3_mend 159 = .ok (.iinc 4 1, 3) := by decide +kernel
theorem dX3_mend_162 : decode cX3_mend 162 = .ok (.goto (-113), 3) := by decide +kernel
theorem dX3_mend_165 : decode cX3_mend 165 = .ok (.iload_n 3, 1) := by decide +kernel
theorem dX3_mend_166 : decode cX3_mend 166 = .ok (.ifCond .ge 11, 3) := by decide +kernel
theorem dX3_mend_169 : decode cX3_mend 169 = .ok (.aload_n 0, 1) := by decide +kernel
theorem dX3_mend_170 : decode cX3_mend 170 = .ok (.iconst 3, 1) := by decide +kernel
theorem dX3_mend_171 : decode cX3_mend 171 = .ok (.invokevirtual 55, 3) := by decide +kernel
theorem dX3_mend_174 : decode cX3_mend 174 = .ok (.goto 4, 3) := by decide +kernel
theorem dX3_mend_177 : decode cX3_mend 177 = .ok (.iload_n 3, 1) := by decide +kernel
theorem dX3_mend_178 : decode cX3_mend 178 = .ok (.ireturn, 1) := by decide +kernel
theorem dX3_kind_0 : decode cX3_kind 0 = .ok (.aload_n 0, 1) := by decide +kernel
theorem dX3_kind_1 : decode cX3_kind 1 = .ok (.iload_n 1, 1) := by decide +kernel
theorem dX3_kind_2 : decode cX3_kind 2 = .ok (.invokevirtual 78, 3) := by decide +kernel
theorem dX3_kind_5 : decode cX3_kind 5 = .ok (.ifCond .eq 13, 3) := by decide +kernel
theorem dX3_kind_8 : decode cX3_kind 8 = .ok (.iload_n 2, 1) := by decide +kernel
theorem dX3_kind_9 : decode cX3_kind 9 = .ok (.iconst 0, 1) := by decide +kernel
theorem dX3_kind_10 : decode cX3_kind 10 = .ok (.bipush 30, 2) := by decide +kernel
theorem dX3_kind_12 : decode cX3_kind 12 = .ok (.invokestatic 51, 3) := by decide +kernel
theorem dX3_kind_15 : decode cX3_kind 15 = .ok (.ifCond .ne 9, 3) := by decide +kernel
theorem dX3_kind_18 : decode cX3_kind 18 = .ok (.aload_n 0, 1) := by decide +kernel
theorem dX3_kind_19 : decode cX3_kind 19 = .ok (.iconst 0, 1) := by decide +kernel
theorem dX3_kind_20 : decode cX3_kind 20 = .ok (.invokevirtual 55, 3) := by decide +kernel
theorem dX3_kind_23 : decode cX3_kind 23 = .ok (.ireturn, 1) := by decide +kernel
theorem dX3_kind_24 : decode cX3_kind 24 = .ok (.iconst 0, 1) := by decide +kernel
theorem dX3_kind_25 : decode cX3_kind 25 = .ok (.istore_n 3, 1) := by decide +kernel
theorem dX3_kind_26 : decode cX3_kind 26 = .ok (.iconst 0, 1) := by decide +kernel
theorem dX3_kind_27 : decode cX3_kind 27 = .ok (.istore 4, 2) := by decide +kernel
theorem dX3_kind_29 : decode cX3_kind 29 = .ok (.iconst 0, 1) := by decide +kernel
theorem dX3_kind_30 : decode cX3_kind 30 = .ok (.istore 5, 2) := by decide +kernel
theorem dX3_kind_32 : decode cX3_kind 32 = .ok (.iload 5, 2) := by decide +kernel
theorem dX3_kind_34 : decode cX3_kind 34 = .ok (.bipush 6, 2) := by decide +kernel
theorem dX3_kind_36 : decode cX3_kind 36 = .ok (.if_icmp .ge 69, 3) := by decide +kernel
theorem dX3_kind_39 : decode cX3_kind 39 = .ok (.aload_n 0, 1) := by decide +kernel
theorem dX3_kind_40 : decode cX3_kind 40 = .ok (.getfield 16, 3) := by decide +kernel
theorem dX3_kind_43 : decode cX3_kind 43 = .ok (.aload_n 0, 1) := by decide +kernel
theorem dX3_kind_44 : decode cX3_kind 44 = .ok (.getfield 10, 3) := by decide +kernel
theorem dX3_kind_47 : decode cX3_kind 47 = .ok (.invokevirtual 152, 3) := by decide +kernel
theorem dX3_kind_50 : decode cX3_kind 50 = .ok (.aload_n 0, 1) := by decide +kernel
theorem dX3_kind_51 : decode cX3_kind 51 = .ok (.getfield 16, 3) := by decide +kernel
theorem dX3_kind_54 : decode cX3_kind 54 = .ok (.getfield 81, 3) := by decide +kernel
theorem dX3_kind_57 : decode cX3_kind 57 = .ok (.iload_n 1, 1) := by decide +kernel
theorem dX3_kind_58 : decode cX3_kind 58 = .ok (.iload 5, 2) := by decide +kernel
theorem dX3_kind_60 : decode cX3_kind 60 = .ok (.iastore, 1) := by decide +kernel
theorem dX3_kind_61 : decode cX3_kind 61 = .ok (.aload_n 0, 1) := by decide +kernel
theorem dX3_kind_62 : decode cX3_kind 62 = .ok (.getfield 16, 3) := by decide +kernel
theorem dX3_kind_65 : decode cX3_kind 65 = .ok (.iload_n 2, 1) := by decide +kernel
theorem dX3_kind_66 : decode cX3_kind 66 = .ok (.invokevirtual 135, 3) := by decide +kernel
theorem dX3_kind_69 : decode cX3_kind 69 = .ok (.pop, 1) := by decide +kernel
theorem dX3_kind_70 : decode cX3_kind 70 = .ok (.aload_n 0, 1) := by decide +kernel
theorem dX3_kind_71 : decode cX3_kind 71 = .ok (.getfield 16, 3) := by decide +kernel
theorem dX3_kind_74 : decode cX3_kind 74 = .ok (.iload_n 1, 1) := by decide +kernel
theorem dX3_kind_75 : decode cX3_kind 75 = .ok (.invokevirtual 162, 3) := by decide +kernel
theorem dX3_kind_78 : decode cX3_kind 78 = .ok (.istore 6, 2) := by decide +kernel
theorem dX3_kind_80 : decode cX3_kind 80 = .ok (.iload 5, 2) := by decide +kernel
theorem dX3_kind_82 : decode cX3_kind 82 = .ok (.ifCond .eq 10, 3) := by decide +kernel
theorem dX3_kind_85 : decode cX3_kind 85 = .ok (.iload 6, 2) := by decide +kernel
theorem dX3_kind_87 : decode cX3_kind 87 = .ok (.iload 4, 2) := by decide +kernel
theorem dX3_kind_89 : decode cX3_kind 89 = .ok (.if_icmp .le 10, 3) := by decide +kernel
theorem dX3_kind_92 : decode cX3_kind 92 = .ok (.iload 5, 2) := by decide +kernel
theorem dX3_kind_94 : decode cX3_kind 94 = .ok (.istore_n 3, 1) := by decide +kernel
theorem dX3_kind_95 : decode cX3_kind 95 = .ok (.iload 6, 2) := by decide +kernel
theorem dX3_kind_97 : decode cX3_kind 97 = .ok (.istore 4, 2) := by decide +kernel
theorem dX3_kind_99 : decode cX3_kind 99 = .ok (.iinc 5 1, 3) := by decide +kernel
theorem dX3_kind_102 : decode cX3_kind 102 = .ok (.goto (-70), 3) := by decide +kernel
theorem dX3_kind_105 : decode cX3_kind 105 = .ok (.iload_n 3, 1) := by decide +kernel
theorem dX3_kind_106 : decode cX3_kind 106 = .ok (.ireturn, 1) := by decide +kernel
theorem dX3_claim_0 : decode cX3_claim 0 = .ok (.aload_n 0, 1) := by decide +kernel
theorem dX3_claim_1 : decode cX3_claim 1 = .ok (.iload_n 1, 1) := by decide +kernel
theorem dX3_claim_2 : decode cX3_claim 2 = .ok (.invokevirtual 78, 3) := by decide +kernel
theorem dX3_claim_5 : decode cX3_claim 5 = .ok (.ifCond .eq 13, 3) := by decide +kernel
theorem dX3_claim_8 : decode cX3_claim 8 = .ok (.iload_n 2, 1) := by decide +kernel
theorem dX3_claim_9 : decode cX3_claim 9 = .ok (.iconst 0, 1) := by decide +kernel
theorem dX3_claim_10 : decode cX3_claim 10 = .ok (.bipush 30, 2) := by decide +kernel
theorem dX3_claim_12 : decode cX3_claim 12 = .ok (.invokestatic 51, 3) := by decide +kernel
theorem dX3_claim_15 : decode cX3_claim 15 = .ok (.ifCond .ne 9, 3) := by decide +kernel
theorem dX3_claim_18 : decode cX3_claim 18 = .ok (.aload_n 0, 1) := by decide +kernel
theorem dX3_claim_19 : decode cX3_claim 19 = .ok (.iconst 0, 1) := by decide +kernel
theorem dX3_claim_20 : decode cX3_claim 20 = .ok (.invokevirtual 55, 3) := by decide +kernel
theorem dX3_claim_23 : decode cX3_claim 23 = .ok (.ireturn, 1) := by decide +kernel
theorem dX3_claim_24 : decode cX3_claim 24 = .ok (.iconst (-1), 1) := by decide +kernel
theorem dX3_claim_25 : decode cX3_claim 25 = .ok (.istore_n 3, 1) := by decide +kernel
theorem dX3_claim_26 : decode cX3_claim 26 = .ok (.iconst 0, 1) := by decide +kernel
theorem dX3_claim_27 : decode cX3_claim 27 = .ok (.istore 4, 2) := by decide +kernel
theorem dX3_claim_29 : decode cX3_claim 29 = .ok (.iconst (-1), 1) := by decide +kernel
theorem dX3_claim_30 : decode cX3_claim 30 = .ok (.istore 5, 2) := by decide +kernel
theorem dX3_claim_32 : decode cX3_claim 32 = .ok (.iload 5, 2) := by decide +kernel
theorem dX3_claim_34 : decode cX3_claim 34 = .ok (.bipush 8, 2) := by decide +kernel
theorem dX3_claim_36 : decode cX3_claim 36 = .ok (.if_icmp .ge 70, 3) := by decide +kernel
theorem dX3_claim_39 : decode cX3_claim 39 = .ok (.aload_n 0, 1) := by decide +kernel
theorem dX3_claim_40 : decode cX3_claim 40 = .ok (.getfield 16, 3) := by decide +kernel
theorem dX3_claim_43 : decode cX3_claim 43 = .ok (.aload_n 0, 1) := by decide +kernel
theorem dX3_claim_44 : decode cX3_claim 44 = .ok (.getfield 10, 3) := by decide +kernel
theorem dX3_claim_47 : decode cX3_claim 47 = .ok (.invokevirtual 152, 3) := by decide +kernel
theorem dX3_claim_50 : decode cX3_claim 50 = .ok (.aload_n 0, 1) := by decide +kernel
theorem dX3_claim_51 : decode cX3_claim 51 = .ok (.getfield 16, 3) := by decide +kernel
theorem dX3_claim_54 : decode cX3_claim 54 = .ok (.getfield 87, 3) := by decide +kernel
theorem dX3_claim_57 : decode cX3_claim 57 = .ok (.iload_n 1, 1) := by decide +kernel
theorem dX3_claim_58 : decode cX3_claim 58 = .ok (.iload 5, 2) := by decide +kernel
theorem dX3_claim_60 : decode cX3_claim 60 = .ok (.iastore, 1) := by decide +kernel
theorem dX3_claim_61 : decode cX3_claim 61 = .ok (.aload_n 0, 1) := by decide +kernel
theorem dX3_claim_62 : decode cX3_claim 62 = .ok (.getfield 16, 3) := by decide +kernel
theorem dX3_claim_65 : decode cX3_claim 65 = .ok (.iload_n 2, 1) := by decide +kernel
theorem dX3_claim_66 : decode cX3_claim 66 = .ok (.invokevirtual 135, 3) := by decide +kernel
theorem dX3_claim_69 : decode cX3_claim 69 = .ok (.pop, 1) := by decide +kernel
theorem dX3_claim_70 : decode cX3_claim 70 = .ok (.aload_n 0, 1) := by decide +kernel
theorem dX3_claim_71 : decode cX3_claim 71 = .ok (.getfield 16, 3) := by decide +kernel
theorem dX3_claim_74 : decode cX3_claim 74 = .ok (.iload_n 1, 1) := by decide +kernel
theorem dX3_claim_75 : decode cX3_claim 75 = .ok (.invokevirtual 162, 3) := by decide +kernel
theorem dX3_claim_78 : decode cX3_claim 78 = .ok (.istore 6, 2) := by decide +kernel
theorem dX3_claim_80 : decode cX3_claim 80 = .ok (.iload 5, 2) := by decide +kernel
theorem dX3_claim_82 : decode cX3_claim 82 = .ok (.iconst (-1), 1) := by decide +kernel
theorem dX3_claim_83 : decode cX3_claim 83 = .ok (.if_icmp .eq 10, 3) := by decide +kernel
theorem dX3_claim_86 : decode cX3_claim 86 = .ok (.iload 6, 2) := by decide +kernel
theorem dX3_claim_88 : decode cX3_claim 88 = .ok (.iload 4, 2) := by decide +kernel
theorem dX3_claim_90 : decode cX3_claim 90 = .ok (.if_icmp .le 10, 3) := by decide +kernel
theorem dX3_claim_93 : decode cX3_claim 93 = .ok (.iload 5, 2) := by decide +kernel
theorem dX3_claim_95 : decode cX3_claim 95 = .ok (.istore_n 3, 1) := by decide +kernel
theorem dX3_claim_96 : decode cX3_claim 96 = .ok (.iload 6, 2) := by decide +kernel
theorem dX3_claim_98 : decode cX3_claim 98 = .ok (.istore 4, 2) := by decide +kernel
theorem dX3_claim_100 : decode cX3_claim 100 = .ok (.iinc 5 1, 3) := by decide +kernel
theorem dX3_claim_103 : decode cX3_claim 103 = .ok (.goto (-71), 3) := by decide +kernel
theorem dX3_claim_106 : decode cX3_claim 106 = .ok (.iconst 1, 1) := by decide +kernel
theorem dX3_claim_107 : decode cX3_claim 107 = .ok (.iload_n 3, 1) := by decide +kernel
theorem dX3_claim_108 : decode cX3_claim 108 = .ok (.iadd, 1) := by decide +kernel
theorem dX3_claim_109 : decode cX3_claim 109 = .ok (.ireturn, 1) := by decide +kernel
theorem dX3_years_0 : decode cX3_years 0 = .ok (.aload_n 0, 1) := by decide +kernel
theorem dX3_years_1 : decode cX3_years 1 = .ok (.iload_n 1, 1) := by decide +kernel
theorem dX3_years_2 : decode cX3_years 2 = .ok (.invokevirtual 78, 3) := by decide +kernel
theorem dX3_years_5 : decode cX3_years 5 = .ok (.ifCond .eq 20, 3) := by decide +kernel
theorem dX3_years_8 : decode cX3_years 8 = .ok (.iload_n 2, 1) := by decide +kernel
theorem dX3_years_9 : decode cX3_years 9 = .ok (.invokestatic 47, 3) := by decide +kernel
theorem dX3_years_12 : decode cX3_years 12 = .ok (.ifCond .eq 13, 3) := by decide +kernel
theorem dX3_years_15 : decode cX3_years 15 = .ok (.iload_n 3, 1) := by decide +kernel
theorem dX3_years_16 : decode cX3_years 16 = .ok (.iconst 1, 1) := by decide +kernel
theorem dX3_years_17 : decode cX3_years 17 = .ok (.bipush 30, 2) := by decide +kernel
theorem dX3_years_19 : decode cX3_years 19 = .ok (.invokestatic 51, 3) := by decide +kernel
theorem dX3_years_22 : decode cX3_years 22 = .ok (.ifCond .ne 9, 3) := by decide +kernel
theorem dX3_years_25 : decode cX3_years 25 = .ok (.aload_n 0, 1) := by decide +kernel
theorem dX3_years_26 : decode cX3_years 26 = .ok (.iconst 0, 1) := by decide +kernel
theorem dX3_years_27 : decode cX3_years 27 = .ok (.invokevirtual 55, 3) := by decide +kernel
theorem dX3_years_30 : decode cX3_years 30 = .ok (.ireturn, 1) := by decide +kernel
theorem dX3_years_31 : decode cX3_years 31 = .ok (.iconst 0, 1) := by decide +kernel
theorem dX3_years_32 : decode cX3_years 32 = .ok (.istore 4, 2) := by decide +kernel
theorem dX3_years_34 : decode cX3_years 34 = .ok (.iload 4, 2) := by decide +kernel
theorem dX3_years_36 : decode cX3_years 36 = .ok (.bipush 99, 2) := by decide +kernel
theorem dX3_years_38 : decode cX3_years 38 = .ok (.if_icmp .gt 71, 3) := by decide +kernel
theorem dX3_years_41 : decode cX3_years 41 = .ok (.iload 4, 2) := by decide +kernel
theorem dX3_years_43 : decode cX3_years 43 = .ok (.iconst 4, 1) := by decide +kernel
theorem dX3_years_44 : decode cX3_years 44 = .ok (.irem, 1) := by decide +kernel
theorem dX3_years_45 : decode cX3_years 45 = .ok (.ifCond .eq 11, 3) := by decide +kernel
theorem dX3_years_48 : decode cX3_years 48 = .ok (.iload 4, 2) := by decide +kernel
theorem dX3_years_50 : decode cX3_years 50 = .ok (.bipush 10, 2) := by decide +kernel
theorem dX3_years_52 : decode cX3_years 52 = .ok (.irem, 1) := by decide +kernel
theorem dX3_years_53 : decode cX3_years 53 = .ok (.ifCond .ne 50, 3) := by decide +kernel
theorem dX3_years_56 : decode cX3_years 56 = .ok (.aload_n 0, 1) := by decide +kernel
theorem dX3_years_57 : decode cX3_years 57 = .ok (.getfield 16, 3) := by decide +kernel
theorem dX3_years_60 : decode cX3_years 60 = .ok (.aload_n 0, 1) := by decide +kernel
theorem dX3_years_61 : decode cX3_years 61 = .ok (.getfield 10, 3) := by decide +kernel
theorem dX3_years_64 : decode cX3_years 64 = .ok (.invokevirtual 152, 3) := by decide +kernel
theorem dX3_years_67 : decode cX3_years 67 = .ok (.aload_n 0, 1) := by decide +kernel
theorem dX3_years_68 : decode cX3_years 68 = .ok (.getfield 16, 3) := by decide +kernel
theorem dX3_years_71 : decode cX3_years 71 = .ok (.getfield 84, 3) := by decide +kernel
theorem dX3_years_74 : decode cX3_years 74 = .ok (.iload_n 1, 1) := by decide +kernel
theorem dX3_years_75 : decode cX3_years 75 = .ok (.iload 4, 2) := by decide +kernel
theorem dX3_years_77 : decode cX3_years 77 = .ok (.iastore, 1) := by decide +kernel
theorem dX3_years_78 : decode cX3_years 78 = .ok (.aload_n 0, 1) := by decide +kernel
theorem dX3_years_79 : decode cX3_years 79 = .ok (.getfield 16, 3) := by decide +kernel
theorem dX3_years_82 : decode cX3_years 82 = .ok (.iload_n 3, 1) := by decide +kernel
theorem dX3_years_83 : decode cX3_years 83 = .ok (.invokevirtual 135, 3) := by decide +kernel
theorem dX3_years_86 : decode cX3_years 86 = .ok (.pop, 1) := by decide +kernel
theorem dX3_years_87 : decode cX3_years 87 = .ok (.aload_n 0, 1) := by decide +kernel
theorem dX3_years_88 : decode cX3_years 88 = .ok (.getfield 16, 3) := by decide +kernel
theorem dX3_years_91 : decode cX3_years 91 = .ok (.getfield 96, 3) := by decide +kernel
theorem dX3_years_94 : decode cX3_years 94 = .ok (.iload_n 1, 1) := by decide +kernel
theorem dX3_years_95 : decode cX3_years 95 = .ok (.iaload, 1) := by decide +kernel
theorem dX3_years_96 : decode cX3_years 96 = .ok (.iload_n 2, 1) := by decide +kernel
theorem dX3_years_97 : decode cX3_years 97 = .ok (.if_icmp .ne 6, 3) := by decide +kernel
theorem dX3_years_100 : decode cX3_years 100 = .ok (.iload 4, 2) := by decide +kernel
theorem dX3_years_102 : decode cX3_years 102 = .ok (.ireturn, 1) := by decide +kernel
theorem dX3_years_103 : decode cX3_years 103 = .ok (.iinc 4 1, 3) := by decide +kernel
theorem dX3_years_106 : decode cX3_years 106 = .ok (.goto (-72), 3) := by decide +kernel
theorem dX3_years_109 : decode cX3_years 109 = .ok (.aload_n 0, 1) := by decide +kernel
theorem dX3_years_110 : decode cX3_years 110 = .ok (.iconst 3, 1) := by decide +kernel
theorem dX3_years_111 : decode cX3_years 111 = .ok (.invokevirtual 55, 3) := by decide +kernel
theorem dX3_years_114 : decode cX3_years 114 = .ok (.ireturn, 1) := by decide +kernel
theorem dX3_always_0 : decode cX3_always 0 = .ok (.iload_n 1, 1) := by decide +kernel
theorem dX3_always_1 : decode cX3_always 1 = .ok (.iconst 0, 1) := by decide +kernel
theorem dX3_always_2 : decode cX3_always 2 = .ok (.bipush 60, 2) := by decide +kernel
theorem dX3_always_4 : decode cX3_always 4 = .ok (.invokestatic 51, 3) := by decide +kernel
theorem dX3_always_7 : decode cX3_always 7 = .ok (.ifCond .ne 9, 3) := by decide +kernel
theorem dX3_always_10 : decode cX3_always 10 = .ok (.aload_n 0, 1) := by decide +kernel
theorem dX3_always_11 : decode cX3_always 11 = .ok (.iconst 0, 1) := by decide +kernel
theorem dX3_always_12 : decode cX3_always 12 = .ok (.invokevirtual 55, 3) := by decide +kernel
theorem dX3_always_15 : decode cX3_always 15 = .ok (.ireturn, 1) := by decide +kernel
theorem dX3_always_16 : decode cX3_always 16 = .ok (.aload_n 0, 1) := by decide +kernel
theorem dX3_always_17 : decode cX3_always 17 = .ok (.getfield 10, 3) := by decide +kernel
theorem dX3_always_20 : decode cX3_always 20 = .ok (.getfield 71, 3) := by decide +kernel
theorem dX3_always_23 : decode cX3_always 23 = .ok (.ifCond .ne 9, 3) := by decide +kernel
theorem dX3_always_26 : decode cX3_always 26 = .ok (.aload_n 0, 1) := by decide +kernel
theorem dX3_always_27 : decode cX3_always 27 = .ok (.iconst 3, 1) := by decide +kernel
theorem dX3_always_28 : decode cX3_always 28 = .ok (.invokevirtual 55, 3) := by decide +kernel
theorem dX3_always_31 : decode cX3_always 31 = .ok (.ireturn, 1) := by decide +kernel
theorem dX3_always_32 : decode cX3_always 32 = .ok (.aload_n 0, 1) := by decide +kernel
theorem dX3_always_33 : decode cX3_always 33 = .ok (.getfield 16, 3) := by decide +kernel
theorem dX3_always_36 : decode cX3_always 36 = .ok (.aload_n 0, 1) := by decide +kernel
theorem dX3_always_37 : decode cX3_always 37 = .ok (.getfield 10, 3) := by decide +kernel
theorem dX3_always_40 : decode cX3_always 40 = .ok (.invokevirtual 152, 3) := by decide +kernel
theorem dX3_always_43 : decode cX3_always 43 = .ok (.aload_n 0, 1) := by decide +kernel
theorem dX3_always_44 : decode cX3_always 44 = .ok (.getfield 16, 3) := by decide +kernel
theorem dX3_always_47 : decode cX3_always 47 = .ok (.iload_n 1, 1) := by decide +kernel
theorem dX3_always_48 : decode cX3_always 48 = .ok (.invokevirtual 135, 3) := by decide +kernel
theorem dX3_always_51 : decode cX3_always 51 = .ok (.pop, 1) := by decide +kernel
theorem dX3_always_52 : decode cX3_always 52 = .ok (.iconst 0, 1) := by decide +kernel
theorem dX3_always_53 : decode cX3_always 53 = .ok (.istore_n 2, 1) := by decide +kernel
theorem dX3_always_54 : decode cX3_always 54 = .ok (.iconst 1, 1) := by decide +kernel
theorem dX3_always_55 : decode cX3_always 55 = .ok (.istore_n 3, 1) := by decide +kernel
theorem dX3_always_56 : decode cX3_always 56 = .ok (.iload_n 3, 1) := by decide +kernel
theorem dX3_always_57 : decode cX3_always 57 = .ok (.aload_n 0, 1) := by decide +kernel
theorem dX3_always_58 : decode cX3_always 58 = .ok (.getfield 16, 3) := by decide +kernel
theorem dX3_always_61 : decode cX3_always 61 = .ok (.getfield 71, 3) := by decide +kernel
theorem dX3_always_64 : decode cX3_always 64 = .ok (.if_icmp .ge 32, 3) := by decide +kernel
theorem dX3_always_67 : decode cX3_always 67 = .ok (.aload_n 0, 1) := by decide +kernel
theorem dX3_always_68 : decode cX3_always 68 = .ok (.getfield 16, 3) := by decide +kernel
theorem dX3_always_71 : decode cX3_always 71 = .ok (.getfield 93, 3) := by decide +kernel
theorem dX3_always_74 : decode cX3_always 74 = .ok (.iload_n 3, 1) := by decide +kernel
theorem dX3_always_75 : decode cX3_always 75 = .ok (.iaload, 1) := by decide +kernel
theorem dX3_always_76 : decode cX3_always 76 = .ok (.aload_n 0, 1) := by decide +kernel
theorem dX3_always_77 : decode cX3_always 77 = .ok (.getfield 16, 3) := by decide +kernel
theorem dX3_always_80 : decode cX3_always 80 = .ok (.getfield 93, 3) := by decide +kernel
theorem dX3_always_83 : decode cX3_always 83 = .ok (.iload_n 2, 1) := by decide +kernel
theorem dX3_always_84 : decode cX3_always 84 = .ok (.iaload, 1) := by decide +kernel
theorem dX3_always_85 : decode cX3_always 85 = .ok (.if_icmp .le 5, 3) := by decide +kernel
theorem dX3_always_88 : decode cX3_always 88 = .ok (.iload_n 3, 1) := by decide +kernel
theorem dX3_always_89 : decode cX3_always 89 = .ok (.istore_n 2, 1) := by decide +kernel
theorem dX3_always_90 : decode cX3_always 90 = .ok (.iinc 3 1, 3) := by decide +kernel
theorem dX3_always_93 : decode cX3_always 93 = .ok (.goto (-37), 3) := by decide +kernel
theorem dX3_always_96 : decode cX3_always 96 = .ok (.iload_n 2, 1) := by decide +kernel
theorem dX3_always_97 : decode cX3_always 97 = .ok (.ireturn, 1) := by decide +kernel
theorem dX3_beside_0 : decode cX3_beside 0 = .ok (.aload_n 0, 1) := by decide +kernel
theorem dX3_beside_1 : decode cX3_beside 1 = .ok (.iload_n 1, 1) := by decide +kernel
theorem dX3_beside_2 : decode cX3_beside 2 = .ok (.invokevirtual 78, 3) := by decide +kernel
theorem dX3_beside_5 : decode cX3_beside 5 = .ok (.ifCond .ne 9, 3) := by decide +kernel
theorem dX3_beside_8 : decode cX3_beside 8 = .ok (.aload_n 0, 1) := by decide +kernel
theorem dX3_beside_9 : decode cX3_beside 9 = .ok (.iconst 0, 1) := by decide +kernel
theorem dX3_beside_10 : decode cX3_beside 10 = .ok (.invokevirtual 55, 3) := by decide +kernel
theorem dX3_beside_13 : decode cX3_beside 13 = .ok (.ireturn, 1) := by decide +kernel
theorem dX3_beside_14 : decode cX3_beside 14 = .ok (.iconst (-1), 1) := by decide +kernel
theorem dX3_beside_15 : decode cX3_beside 15 = .ok (.istore_n 2, 1) := by decide +kernel
theorem dX3_beside_16 : decode cX3_beside 16 = .ok (.iconst 0, 1) := by decide +kernel
theorem dX3_beside_17 : decode cX3_beside 17 = .ok (.istore_n 3, 1) := by decide +kernel
theorem dX3_beside_18 : decode cX3_beside 18 = .ok (.iconst 0, 1) := by decide +kernel
theorem dX3_beside_19 : decode cX3_beside 19 = .ok (.istore 4, 2) := by decide +kernel
theorem dX3_beside_21 : decode cX3_beside 21 = .ok (.iload 4, 2) := by decide +kernel
theorem dX3_beside_23 : decode cX3_beside 23 = .ok (.aload_n 0, 1) := by decide +kernel
theorem dX3_beside_24 : decode cX3_beside 24 = .ok (.getfield 10, 3) := by decide +kernel
theorem dX3_beside_27 : decode cX3_beside 27 = .ok (.getfield 71, 3) := by decide +kernel
theorem dX3_beside_30 : decode cX3_beside 30 = .ok (.if_icmp .ge 111, 3) := by decide +kernel
theorem dX3_beside_33 : decode cX3_beside 33 = .ok (.iload 4, 2) := by decide +kernel
theorem dX3_beside_35 : decode cX3_beside 35 = .ok (.iload_n 1, 1) := by decide +kernel
theorem dX3_beside_36 : decode cX3_beside 36 = .ok (.if_icmp .eq 99, 3) := by decide +kernel
theorem dX3_beside_39 : decode cX3_beside 39 = .ok (.aload_n 0, 1) := by decide +kernel
theorem dX3_beside_40 : decode cX3_beside 40 = .ok (.getfield 10, 3) := by decide +kernel
theorem dX3_beside_43 : decode cX3_beside 43 = .ok (.getfield 96, 3) := by decide +kernel
theorem dX3_beside_46 : decode cX3_beside 46 = .ok (.iload 4, 2) := by decide +kernel
theorem dX3_beside_48 : decode cX3_beside 48 = .ok (.iaload, 1) := by decide +kernel
theorem dX3_beside_49 : decode cX3_beside 49 = .ok (.ifCond .lt 86, 3) := by decide +kernel
theorem dX3_beside_52 : decode cX3_beside 52 = .ok (.aload_n 0, 1) := by decide +kernel
theorem dX3_beside_53 : decode cX3_beside 53 = .ok (.getfield 10, 3) := by decide +kernel
theorem dX3_beside_56 : decode cX3_beside 56 = .ok (.getfield 96, 3) := by decide +kernel
theorem dX3_beside_59 : decode cX3_beside 59 = .ok (.iload 4, 2) := by decide +kernel
theorem dX3_beside_61 : decode cX3_beside 61 = .ok (.iaload, 1) := by decide +kernel
theorem dX3_beside_62 : decode cX3_beside 62 = .ok (.iconst 1, 1) := by decide +kernel
theorem dX3_beside_63 : decode cX3_beside 63 = .ok (.isub, 1) := by decide +kernel
theorem dX3_beside_64 : decode cX3_beside 64 = .ok (.istore 5, 2) := by decide +kernel
theorem dX3_beside_66 : decode cX3_beside 66 = .ok (.iload 5, 2) := by decide +kernel
theorem dX3_beside_68 : decode cX3_beside 68 = .ok (.aload_n 0, 1) := by decide +kernel
theorem dX3_beside_69 : decode cX3_beside 69 = .ok (.getfield 10, 3) := by decide +kernel
theorem dX3_beside_72 : decode cX3_beside 72 = .ok (.getfield 96, 3) := by decide +kernel
theorem dX3_beside_75 : decode cX3_beside 75 = .ok (.iload 4, 2) := by decide +kernel
theorem dX3_beside_77 : decode cX3_beside 77 = .ok (.iaload, 1) := by decide +kernel
theorem dX3_beside_78 : decode cX3_beside 78 = .ok (.iconst 1, 1) := by decide +kernel
theorem dX3_beside_79 : decode cX3_beside 79 = .ok (.iadd, 1) := by decide +kernel
theorem dX3_beside_80 : decode cX3_beside 80 = .ok (.if_icmp .gt 55, 3) := by decide +kernel
theorem dX3_beside_83 : decode cX3_beside 83 = .ok (.aload_n 0, 1) := by decide +kernel
theorem dX3_beside_84 : decode cX3_beside 84 = .ok (.getfield 10, 3) := by decide +kernel
theorem dX3_beside_87 : decode cX3_beside 87 = .ok (.iload_n 1, 1) := by decide +kernel
theorem dX3_beside_88 : decode cX3_beside 88 = .ok (.iload 5, 2) := by decide +kernel
theorem dX3_beside_90 : decode cX3_beside 90 = .ok (.invokevirtual 165, 3) := by decide +kernel
theorem dX3_beside_93 : decode cX3_beside 93 = .ok (.ifCond .eq 36, 3) := by decide +kernel
theorem dX3_beside_96 : decode cX3_beside 96 = .ok (.iload_n 2, 1) := by decide +kernel
theorem dX3_beside_97 : decode cX3_beside 97 = .ok (.iconst (-1), 1) := by decide +kernel
theorem dX3_beside_98 : decode cX3_beside 98 = .ok (.if_icmp .eq 17, 3) := by decide +kernel
theorem dX3_beside_101 : decode cX3_beside 101 = .ok (.aload_n 0, 1) := by decide +kernel
theorem dX3_beside_102 : decode cX3_beside 102 = .ok (.getfield 10, 3) := by decide +kernel
theorem dX3_beside_105 : decode cX3_beside 105 = .ok (.iload_n 1, 1) := by decide +kernel
theorem dX3_beside_106 : decode cX3_beside 106 = .ok (.iload 5, 2) := by decide +kernel
theorem dX3_beside_108 : decode cX3_beside 108 = .ok (.invokevirtual 127, 3) := by decide +kernel
theorem dX3_beside_111 : decode cX3_beside 111 = .ok (.iload_n 3, 1) := by decide +kernel
theorem dX3_beside_112 : decode cX3_beside 112 = .ok (.if_icmp .le 17, 3) := by decide +kernel
theorem dX3_beside_115 : decode cX3_beside 115 = .ok (.iload 4, 2) := by decide +kernel
theorem dX3_beside_117 : decode cX3_beside 117 = .ok (.istore_n 2, 1) := by decide +kernel
theorem dX3_beside_118 : decode cX3_beside 118 = .ok (.aload_n 0, 1) := by decide +kernel
theorem dX3_beside_119 : decode cX3_beside 119 = .ok (.getfield 10, 3) := by decide +kernel
theorem dX3_beside_122 : decode cX3_beside 122 = .ok (.iload_n 1, 1) := by decide +kernel
theorem dX3_beside_123 : decode cX3_beside 123 = .ok (.iload 5, 2) := by decide +kernel
theorem dX3_beside_125 : decode cX3_beside 125 = .ok (.invokevirtual 127, 3) := by decide +kernel
theorem dX3_beside_128 : decode cX3_beside 128 = .ok (.istore_n 3, 1) := by decide +kernel
theorem dX3_beside_129 : decode cX3_beside 129 = .ok (.iinc 5 2, 3) := by decide +kernel
theorem dX3_beside_132 : decode cX3_beside 132 = .ok (.goto (-66), 3) := by decide +kernel
theorem dX3_beside_135 : decode cX3_beside 135 = .ok (.iinc 4 1, 3) := by decide +kernel
theorem dX3_beside_138 : decode cX3_beside 138 = .ok (.goto (-117), 3) := by decide +kernel
theorem dX3_beside_141 : decode cX3_beside 141 = .ok (.iload_n 2, 1) := by decide +kernel
theorem dX3_beside_142 : decode cX3_beside 142 = .ok (.iconst (-1), 1) := by decide +kernel
theorem dX3_beside_143 : decode cX3_beside 143 = .ok (.if_icmp .ne 11, 3) := by decide +kernel
theorem dX3_beside_146 : decode cX3_beside 146 = .ok (.aload_n 0, 1) := by decide +kernel
theorem dX3_beside_147 : decode cX3_beside 147 = .ok (.iconst 3, 1) := by decide +kernel
theorem dX3_beside_148 : decode cX3_beside 148 = .ok (.invokevirtual 55, 3) := by decide +kernel
theorem dX3_beside_151 : decode cX3_beside 151 = .ok (.goto 4, 3) := by decide +kernel
theorem dX3_beside_154 : decode cX3_beside 154 = .ok (.iload_n 2, 1) := by decide +kernel
theorem dX3_beside_155 : decode cX3_beside 155 = .ok (.ireturn, 1) := by decide +kernel
theorem dX3_feed_0 : decode cX3_feed 0 = .ok (.iload_n 2, 1) := by decide +kernel
theorem dX3_feed_1 : decode cX3_feed 1 = .ok (.iconst 1, 1) := by decide +kernel
theorem dX3_feed_2 : decode cX3_feed 2 = .ok (.iconst 4, 1) := by decide +kernel
theorem dX3_feed_3 : decode cX3_feed 3 = .ok (.invokestatic 51, 3) := by decide +kernel
theorem dX3_feed_6 : decode cX3_feed 6 = .ok (.ifCond .ne 9, 3) := by decide +kernel
theorem dX3_feed_9 : decode cX3_feed 9 = .ok (.aload_n 0, 1) := by decide +kernel
theorem dX3_feed_10 : decode cX3_feed 10 = .ok (.iconst 0, 1) := by decide +kernel
theorem dX3_feed_11 : decode cX3_feed 11 = .ok (.invokevirtual 55, 3) := by decide +kernel
theorem dX3_feed_14 : decode cX3_feed 14 = .ok (.ireturn, 1) := by decide +kernel
theorem dX3_feed_15 : decode cX3_feed 15 = .ok (.aload_n 0, 1) := by decide +kernel
theorem dX3_feed_16 : decode cX3_feed 16 = .ok (.getfield 29, 3) := by decide +kernel
theorem dX3_feed_19 : decode cX3_feed 19 = .ok (.getfield 168, 3) := by decide +kernel
theorem dX3_feed_22 : decode cX3_feed 22 = .ok (.iload_n 2, 1) := by decide +kernel
theorem dX3_feed_23 : decode cX3_feed 23 = .ok (.iadd, 1) := by decide +kernel
theorem dX3_feed_24 : decode cX3_feed 24 = .ok (.bipush 120, 2) := by decide +kernel
theorem dX3_feed_26 : decode cX3_feed 26 = .ok (.if_icmp .le 9, 3) := by decide +kernel
theorem dX3_feed_29 : decode cX3_feed 29 = .ok (.aload_n 0, 1) := by decide +kernel
theorem dX3_feed_30 : decode cX3_feed 30 = .ok (.iconst 1, 1) := by decide +kernel
theorem dX3_feed_31 : decode cX3_feed 31 = .ok (.invokevirtual 55, 3) := by decide +kernel
theorem dX3_feed_34 : decode cX3_feed 34 = .ok (.ireturn, 1) := by decide +kernel
theorem dX3_feed_35 : decode cX3_feed 35 = .ok (.iload_n 2, 1) := by decide +kernel
theorem dX3_feed_36 : decode cX3_feed 36 = .ok (.iconst 1, 1) := by decide +kernel
theorem dX3_feed_37 : decode cX3_feed 37 = .ok (.isub, 1) := by decide +kernel
theorem dX3_feed_38 : decode cX3_feed 38 = .ok (.istore_n 3, 1) := by decide +kernel
theorem dX3_feed_39 : decode cX3_feed 39 = .ok (.iload_n 3, 1) := by decide +kernel
theorem dX3_feed_40 : decode cX3_feed 40 = .ok (.ifCond .lt 26, 3) := by decide +kernel
theorem dX3_feed_43 : decode cX3_feed 43 = .ok (.aload_n 0, 1) := by decide +kernel
theorem dX3_feed_44 : decode cX3_feed 44 = .ok (.getfield 29, 3) := by decide +kernel
theorem dX3_feed_47 : decode cX3_feed 47 = .ok (.iload_n 1, 1) := by decide +kernel
theorem dX3_feed_48 : decode cX3_feed 48 = .ok (.bipush 8, 2) := by decide +kernel
theorem dX3_feed_50 : decode cX3_feed 50 = .ok (.iload_n 3, 1) := by decide +kernel
theorem dX3_feed_51 : decode cX3_feed 51 = .ok (.imul, 1) := by decide +kernel
theorem dX3_feed_52 : decode cX3_feed 52 = .ok (.iushr, 1) := by decide +kernel
theorem dX3_feed_53 : decode cX3_feed 53 = .ok (.sipush 255, 3) := by decide +kernel
theorem dX3_feed_56 : decode cX3_feed 56 = .ok (.iand, 1) := by decide +kernel
theorem dX3_feed_57 : decode cX3_feed 57 = .ok (.invokevirtual 171, 3) := by decide +kernel
theorem dX3_feed_60 : decode cX3_feed 60 = .ok (.iinc 3 (-1), 3) := by decide +kernel
theorem dX3_feed_63 : decode cX3_feed 63 = .ok (.goto (-24), 3) := by decide +kernel
theorem dX3_feed_66 : decode cX3_feed 66 = .ok (.aload_n 0, 1) := by decide +kernel
theorem dX3_feed_67 : decode cX3_feed 67 = .ok (.getfield 29, 3) := by decide +kernel
theorem dX3_feed_70 : decode cX3_feed 70 = .ok (.getfield 168, 3) := by decide +kernel
theorem dX3_feed_73 : decode cX3_feed 73 = .ok (.ireturn, 1) := by decide +kernel
theorem dX3_wipe_0 : decode cX3_wipe 0 = .ok (.aload_n 0, 1) := by decide +kernel
theorem dX3_wipe_1 : decode cX3_wipe 1 = .ok (.getfield 29, 3) := by decide +kernel
theorem dX3_wipe_4 : decode cX3_wipe 4 = .ok (.getfield 168, 3) := by decide +kernel
theorem dX3_wipe_7 : decode cX3_wipe 7 = .ok (.istore_n 1, 1) := by decide +kernel
theorem dX3_wipe_8 : decode cX3_wipe 8 = .ok (.aload_n 0, 1) := by decide +kernel
theorem dX3_wipe_9 : decode cX3_wipe 9 = .ok (.getfield 29, 3) := by decide +kernel
theorem dX3_wipe_12 : decode cX3_wipe 12 = .ok (.iconst 0, 1) := by decide +kernel
theorem dX3_wipe_13 : decode cX3_wipe 13 = .ok (.putfield 168, 3) := by decide +kernel
theorem dX3_wipe_16 : decode cX3_wipe 16 = .ok (.iload_n 1, 1) := by decide +kernel
theorem dX3_wipe_17 : decode cX3_wipe 17 = .ok (.ireturn, 1) := by decide +kernel
theorem dX3_room_0 : decode cX3_room 0 = .ok (.aload_n 0, 1) := by decide +kernel
theorem dX3_room_1 : decode cX3_room 1 = .ok (.getfield 16, 3) := by decide +kernel
theorem dX3_room_4 : decode cX3_room 4 = .ok (.aload_n 0, 1) := by decide +kernel
theorem dX3_room_5 : decode cX3_room 5 = .ok (.getfield 10, 3) := by decide +kernel
theorem dX3_room_8 : decode cX3_room 8 = .ok (.invokevirtual 152, 3) := by decide +kernel
theorem dX3_room_11 : decode cX3_room 11 = .ok (.aload_n 0, 1) := by decide +kernel
theorem dX3_room_12 : decode cX3_room 12 = .ok (.getfield 29, 3) := by decide +kernel
theorem dX3_room_15 : decode cX3_room 15 = .ok (.aload_n 0, 1) := by decide +kernel
theorem dX3_room_16 : decode cX3_room 16 = .ok (.getfield 16, 3) := by decide +kernel
theorem dX3_room_19 : decode cX3_room 19 = .ok (.invokevirtual 175, 3) := by decide +kernel
theorem dX3_room_22 : decode cX3_room 22 = .ok (.istore_n 1, 1) := by decide +kernel
theorem dX3_room_23 : decode cX3_room 23 = .ok (.aload_n 0, 1) := by decide +kernel
theorem dX3_room_24 : decode cX3_room 24 = .ok (.getfield 29, 3) := by decide +kernel
theorem dX3_room_27 : decode cX3_room 27 = .ok (.iconst 0, 1) := by decide +kernel
theorem dX3_room_28 : decode cX3_room 28 = .ok (.putfield 168, 3) := by decide +kernel
theorem dX3_room_31 : decode cX3_room 31 = .ok (.iload_n 1, 1) := by decide +kernel
theorem dX3_room_32 : decode cX3_room 32 = .ok (.ifCond .ne 13, 3) := by decide +kernel
theorem dX3_room_35 : decode cX3_room 35 = .ok (.iconst (-1), 1) := by decide +kernel
theorem dX3_room_36 : decode cX3_room 36 = .ok (.aload_n 0, 1) := by decide +kernel
theorem dX3_room_37 : decode cX3_room 37 = .ok (.getfield 29, 3) := by decide +kernel
theorem dX3_room_40 : decode cX3_room 40 = .ok (.getfield 179, 3) := by decide +kernel
theorem dX3_room_43 : decode cX3_room 43 = .ok (.isub, 1) := by decide +kernel
theorem dX3_room_44 : decode cX3_room 44 = .ok (.ireturn, 1) := by decide +kernel
theorem dX3_room_45 : decode cX3_room 45 = .ok (.aload_n 0, 1) := by decide +kernel
theorem dX3_room_46 : decode cX3_room 46 = .ok (.getfield 10, 3) := by decide +kernel
theorem dX3_room_49 : decode cX3_room 49 = .ok (.aload_n 0, 1) := by decide +kernel
theorem dX3_room_50 : decode cX3_room 50 = .ok (.getfield 16, 3) := by decide +kernel
theorem dX3_room_53 : decode cX3_room 53 = .ok (.invokevirtual 152, 3) := by decide +kernel
theorem dX3_room_56 : decode cX3_room 56 = .ok (.aload_n 0, 1) := by decide +kernel
theorem dX3_room_57 : decode cX3_room 57 = .ok (.getfield 29, 3) := by decide +kernel
theorem dX3_room_60 : decode cX3_room 60 = .ok (.getfield 182, 3) := by decide +kernel
theorem dX3_room_63 : decode cX3_room 63 = .ok (.ireturn, 1) := by decide +kernel
theorem dX3_sheet_0 : decode cX3_sheet 0 = .ok (.iload_n 1, 1) := by decide +kernel
theorem dX3_sheet_1 : decode cX3_sheet 1 = .ok (.invokestatic 185, 3) := by decide +kernel
theorem dX3_sheet_4 : decode cX3_sheet 4 = .ok (.ifCond .eq 25, 3) := by decide +kernel
theorem dX3_sheet_7 : decode cX3_sheet 7 = .ok (.iload_n 2, 1) := by decide +kernel
theorem dX3_sheet_8 : decode cX3_sheet 8 = .ok (.ifCond .eq 27, 3) := by decide +kernel
theorem dX3_sheet_11 : decode cX3_sheet 11 = .ok (.iload_n 2, 1) := by decide +kernel
theorem dX3_sheet_12 : decode cX3_sheet 12 = .ok (.bipush 8, 2) := by decide +kernel
theorem dX3_sheet_14 : decode cX3_sheet 14 = .ok (.if_icmp .eq 21, 3) := by decide +kernel
theorem dX3_sheet_17 : decode cX3_sheet 17 = .ok (.iload_n 2, 1) := by decide +kernel
theorem dX3_sheet_18 : decode cX3_sheet 18 = .ok (.bipush 16, 2) := by decide +kernel
theorem dX3_sheet_20 : decode cX3_sheet 20 = .ok (.if_icmp .eq 15, 3) := by decide +kernel
theorem dX3_sheet_23 : decode cX3_sheet 23 = .ok (.iload_n 2, 1) := by decide +kernel
theorem dX3_sheet_24 : decode cX3_sheet 24 = .ok (.bipush 64, 2) := by decide +kernel
theorem dX3_sheet_26 : decode cX3_sheet 26 = .ok (.if_icmp .eq 9, 3) := by decide +kernel
theorem dX3_sheet_29 : decode cX3_sheet 29 = .ok (.aload_n 0, 1) := by decide +kernel
theorem dX3_sheet_30 : decode cX3_sheet 30 = .ok (.iconst 0, 1) := by decide +kernel
theorem dX3_sheet_31 : decode cX3_sheet 31 = .ok (.invokevirtual 55, 3) := by decide +kernel
theorem dX3_sheet_34 : decode cX3_sheet 34 = .ok (.ireturn, 1) := by decide +kernel
theorem dX3_sheet_35 : decode cX3_sheet 35 = .ok (.iload_n 3, 1) := by decide +kernel
theorem dX3_sheet_36 : decode cX3_sheet 36 = .ok (.ifCond .ge 10, 3) := by decide +kernel
theorem dX3_sheet_39 : decode cX3_sheet 39 = .ok (.aload_n 0, 1) := by decide +kernel
theorem dX3_sheet_40 : decode cX3_sheet 40 = .ok (.bipush 6, 2) := by decide +kernel
theorem dX3_sheet_42 : decode cX3_sheet 42 = .ok (.invokevirtual 55, 3) := by decide +kernel
theorem dX3_sheet_45 : decode cX3_sheet 45 = .ok (.ireturn, 1) := by decide +kernel
theorem dX3_sheet_46 : decode cX3_sheet 46 = .ok (.iload_n 3, 1) := by decide +kernel
theorem dX3_sheet_47 : decode cX3_sheet 47 = .ok (.bipush 40, 2) := by decide +kernel
theorem dX3_sheet_49 : decode cX3_sheet 49 = .ok (.if_icmp .le 9, 3) := by decide +kernel
theorem dX3_sheet_52 : decode cX3_sheet 52 = .ok (.aload_n 0, 1) := by decide +kernel
theorem dX3_sheet_53 : decode cX3_sheet 53 = .ok (.iconst 0, 1) := by decide +kernel
theorem dX3_sheet_54 : decode cX3_sheet 54 = .ok (.invokevirtual 55, 3) := by decide +kernel
theorem dX3_sheet_57 : decode cX3_sheet 57 = .ok (.ireturn, 1) := by decide +kernel
theorem dX3_sheet_58 : decode cX3_sheet 58 = .ok (.aload_n 0, 1) := by decide +kernel
theorem dX3_sheet_59 : decode cX3_sheet 59 = .ok (.getfield 35, 3) := by decide +kernel
theorem dX3_sheet_62 : decode cX3_sheet 62 = .ok (.iload_n 1, 1) := by decide +kernel
theorem dX3_sheet_63 : decode cX3_sheet 63 = .ok (.aaload, 1) := by decide +kernel
theorem dX3_sheet_64 : decode cX3_sheet 64 = .ok (.iload_n 2, 1) := by decide +kernel
theorem dX3_sheet_65 : decode cX3_sheet 65 = .ok (.iload_n 3, 1) := by decide +kernel
theorem dX3_sheet_66 : decode cX3_sheet 66 = .ok (.invokevirtual 188, 3) := by decide +kernel
theorem dX3_sheet_69 : decode cX3_sheet 69 = .ok (.ireturn, 1) := by decide +kernel
theorem dX3_write_0 : decode cX3_write 0 = .ok (.iload_n 1, 1) := by decide +kernel
theorem dX3_write_1 : decode cX3_write 1 = .ok (.invokestatic 185, 3) := by decide +kernel
theorem dX3_write_4 : decode cX3_write 4 = .ok (.ifCond .ne 10, 3) := by decide +kernel
theorem dX3_write_7 : decode cX3_write 7 = .ok (.aload_n 0, 1) := by decide +kernel
theorem dX3_write_8 : decode cX3_write 8 = .ok (.iconst 0, 1) := by decide +kernel
theorem dX3_write_9 : decode cX3_write 9 = .ok (.invokevirtual 55, 3) := by decide +kernel
theorem dX3_write_12 : decode cX3_write 12 = .ok (.i2l, 1) := by decide +kernel
theorem dX3_write_13 : decode cX3_write 13 = .ok (.lreturn, 1) := by decide +kernel
theorem dX3_write_14 : decode cX3_write 14 = .ok (.aload_n 0, 1) := by decide +kernel
theorem dX3_write_15 : decode cX3_write 15 = .ok (.getfield 35, 3) := by decide +kernel
theorem dX3_write_18 : decode cX3_write 18 = .ok (.iload_n 1, 1) := by decide +kernel
theorem dX3_write_19 : decode cX3_write 19 = .ok (.aaload, 1) := by decide +kernel
theorem dX3_write_20 : decode cX3_write 20 = .ok (.astore 5, 2) := by decide +kernel
theorem dX3_write_22 : decode cX3_write 22 = .ok (.aload 5, 2) := by decide +kernel
theorem dX3_write_24 : decode cX3_write 24 = .ok (.invokevirtual 191, 3) := by decide +kernel
theorem dX3_write_27 : decode cX3_write 27 = .ok (.ifCond .eq 10, 3) := by decide +kernel
theorem dX3_write_30 : decode cX3_write 30 = .ok (.aload_n 0, 1) := by decide +kernel
theorem dX3_write_31 : decode cX3_write 31 = .ok (.iconst 5, 1) := by decide +kernel
theorem dX3_write_32 : decode cX3_write 32 = .ok (.invokevirtual 55, 3) := by decide +kernel
theorem dX3_write_35 : decode cX3_write 35 = .ok (.i2l, 1) := by decide +kernel
theorem dX3_write_36 : decode cX3_write 36 = .ok (.lreturn, 1) := by decide +kernel
theorem dX3_write_37 : decode cX3_write 37 = .ok (.iload_n 2, 1) := by decide +kernel
theorem dX3_write_38 : decode cX3_write 38 = .ok (.iconst 0, 1) := by decide +kernel
theorem dX3_write_39 : decode cX3_write 39 = .ok (.aload 5, 2) := by decide +kernel
theorem dX3_write_41 : decode cX3_write 41 = .ok (.getfield 194, 3) := by decide +kernel
theorem dX3_write_44 : decode cX3_write 44 = .ok (.iconst 1, 1) := by decide +kernel
theorem dX3_write_45 : decode cX3_write 45 = .ok (.isub, 1) := by decide +kernel
theorem dX3_write_46 : decode cX3_write 46 = .ok (.invokestatic 51, 3) := by decide +kernel
theorem dX3_write_49 : decode cX3_write 49 = .ok (.ifCond .ne 10, 3) := by decide +kernel
theorem dX3_write_52 : decode cX3_write 52 = .ok (.aload_n 0, 1) := by decide +kernel
theorem dX3_write_53 : decode cX3_write 53 = .ok (.iconst 0, 1) := by decide +kernel
theorem dX3_write_54 : decode cX3_write 54 = .ok (.invokevirtual 55, 3) := by decide +kernel
theorem dX3_write_57 : decode cX3_write 57 = .ok (.i2l, 1) := by decide +kernel
theorem dX3_write_58 : decode cX3_write 58 = .ok (.lreturn, 1) := by decide +kernel
theorem dX3_write_59 : decode cX3_write 59 = .ok (.aload 5, 2) := by decide +kernel
theorem dX3_write_61 : decode cX3_write 61 = .ok (.getfield 197, 3) := by decide +kernel
theorem dX3_write_64 : decode cX3_write 64 = .ok (.iload_n 2, 1) := by decide +kernel
theorem dX3_write_65 : decode cX3_write 65 = .ok (.laload, 1) := by decide +kernel
theorem dX3_write_66 : decode cX3_write 66 = .ok (.lstore 6, 2) := by decide +kernel
theorem dX3_write_68 : decode cX3_write 68 = .ok (.aload 5, 2) := by decide +kernel
theorem dX3_write_70 : decode cX3_write 70 = .ok (.getfield 197, 3) := by decide +kernel
theorem dX3_write_73 : decode cX3_write 73 = .ok (.iload_n 2, 1) := by decide +kernel
theorem dX3_write_74 : decode cX3_write 74 = .ok (.aload 5, 2) := by decide +kernel
theorem dX3_write_76 : decode cX3_write 76 = .ok (.lload_n 3, 1) := by decide +kernel
theorem dX3_write_77 : decode cX3_write 77 = .ok (.invokevirtual 201, 3) := by decide +kernel
theorem dX3_write_80 : decode cX3_write 80 = .ok (.lastore, 1) := by decide +kernel
theorem dX3_write_81 : decode cX3_write 81 = .ok (.lload 6, 2) := by decide +kernel
theorem dX3_write_83 : decode cX3_write 83 = .ok (.lreturn, 1) := by decide +kernel
theorem dX3_copy_0 : decode cX3_copy 0 = .ok (.iload_n 1, 1) := by decide +kernel
theorem dX3_copy_1 : decode cX3_copy 1 = .ok (.invokestatic 185, 3) := by decide +kernel
theorem dX3_copy_4 : decode cX3_copy 4 = .ok (.ifCond .eq 10, 3) := by decide +kernel
theorem dX3_copy_7 : decode cX3_copy 7 = .ok (.iload_n 3, 1) := by decide +kernel
theorem dX3_copy_8 : decode cX3_copy 8 = .ok (.invokestatic 185, 3) := by decide +kernel
theorem dX3_copy_11 : decode cX3_copy 11 = .ok (.ifCond .ne 9, 3) := by decide +kernel
theorem dX3_copy_14 : decode cX3_copy 14 = .ok (.aload_n 0, 1) := by decide +kernel
theorem dX3_copy_15 : decode cX3_copy 15 = .ok (.iconst 0, 1) := by decide +kernel
theorem dX3_copy_16 : decode cX3_copy 16 = .ok (.invokevirtual 55, 3) := by decide +kernel
theorem dX3_copy_19 : decode cX3_copy 19 = .ok (.ireturn, 1) := by decide +kernel
theorem dX3_copy_20 : decode cX3_copy 20 = .ok (.aload_n 0, 1) := by decide +kernel
theorem dX3_copy_21 : decode cX3_copy 21 = .ok (.getfield 35, 3) := by decide +kernel
theorem dX3_copy_24 : decode cX3_copy 24 = .ok (.iload_n 1, 1) := by decide +kernel
theorem dX3_copy_25 : decode cX3_copy 25 = .ok (.aaload, 1) := by decide +kernel
theorem dX3_copy_26 : decode cX3_copy 26 = .ok (.astore 6, 2) := by decide +kernel
theorem dX3_copy_28 : decode cX3_copy 28 = .ok (.aload_n 0, 1) := by decide +kernel
theorem dX3_copy_29 : decode cX3_copy 29 = .ok (.getfield 35, 3) := by decide +kernel
theorem dX3_copy_32 : decode cX3_copy 32 = .ok (.iload_n 3, 1) := by decide +kernel
theorem dX3_copy_33 : decode cX3_copy 33 = .ok (.aaload, 1) := by decide +kernel
theorem dX3_copy_34 : decode cX3_copy 34 = .ok (.astore 7, 2) := by decide +kernel
theorem dX3_copy_36 : decode cX3_copy 36 = .ok (.aload 6, 2) := by decide +kernel
theorem dX3_copy_38 : decode cX3_copy 38 = .ok (.invokevirtual 191, 3) := by decide +kernel
theorem dX3_copy_41 : decode cX3_copy 41 = .ok (.ifCond .ne 11, 3) := by decide +kernel
theorem dX3_copy_44 : decode cX3_copy 44 = .ok (.aload 7, 2) := by decide +kernel
theorem dX3_copy_46 : decode cX3_copy 46 = .ok (.invokevirtual 191, 3) := by decide +kernel
theorem dX3_copy_49 : decode cX3_copy 49 = .ok (.ifCond .eq 9, 3) := by decide +kernel
theorem dX3_copy_52 : decode cX3_copy 52 = .ok (.aload_n 0, 1) := by decide +kernel
theorem dX3_copy_53 : decode cX3_copy 53 = .ok (.iconst 5, 1) := by decide +kernel
theorem dX3_copy_54 : decode cX3_copy 54 = .ok (.invokevirtual 55, 3) := by decide +kernel
theorem dX3_copy_57 : decode cX3_copy 57 = .ok (.ireturn, 1) := by decide +kernel
theorem dX3_copy_58 : decode cX3_copy 58 = .ok (.aload 6, 2) := by decide +kernel
theorem dX3_copy_60 : decode cX3_copy 60 = .ok (.getfield 205, 3) := by decide +kernel
theorem dX3_copy_63 : decode cX3_copy 63 = .ok (.aload 7, 2) := by decide +kernel
theorem dX3_copy_65 : decode cX3_copy 65 = .ok (.getfield 205, 3) := by decide +kernel
theorem dX3_copy_68 : decode cX3_copy 68 = .ok (.if_icmp .eq 9, 3) := by decide +kernel
theorem dX3_copy_71 : decode cX3_copy 71 = .ok (.aload_n 0, 1) := by decide +kernel
theorem dX3_copy_72 : decode cX3_copy 72 = .ok (.iconst 2, 1) := by decide +kernel
theorem dX3_copy_73 : decode cX3_copy 73 = .ok (.invokevirtual 55, 3) := by decide +kernel
theorem dX3_copy_76 : decode cX3_copy 76 = .ok (.ireturn, 1) := by decide +kernel
theorem dX3_copy_77 : decode cX3_copy 77 = .ok (.aload 6, 2) := by decide +kernel
theorem dX3_copy_79 : decode cX3_copy 79 = .ok (.iload_n 2, 1) := by decide +kernel
theorem dX3_copy_80 : decode cX3_copy 80 = .ok (.iload 5, 2) := by decide +kernel
theorem dX3_copy_82 : decode cX3_copy 82 = .ok (.invokevirtual 208, 3) := by decide +kernel
theorem dX3_copy_85 : decode cX3_copy 85 = .ok (.ifCond .eq 15, 3) := by decide +kernel
theorem dX3_copy_88 : decode cX3_copy 88 = .ok (.aload 7, 2) := by decide +kernel
theorem dX3_copy_90 : decode cX3_copy 90 = .ok (.iload 4, 2) := by decide +kernel
theorem dX3_copy_92 : decode cX3_copy 92 = .ok (.iload 5, 2) := by decide +kernel
theorem dX3_copy_94 : decode cX3_copy 94 = .ok (.invokevirtual 208, 3) := by decide +kernel
theorem dX3_copy_97 : decode cX3_copy 97 = .ok (.ifCond .ne 9, 3) := by decide +kernel
theorem dX3_copy_100 : decode cX3_copy 100 = .ok (.aload_n 0, 1) := by decide +kernel
theorem dX3_copy_101 : decode cX3_copy 101 = .ok (.iconst 0, 1) := by decide +kernel
theorem dX3_copy_102 : decode cX3_copy 102 = .ok (.invokevirtual 55, 3) := by decide +kernel
theorem dX3_copy_105 : decode cX3_copy 105 = .ok (.ireturn, 1) := by decide +kernel
theorem dX3_copy_106 : decode cX3_copy 106 = .ok (.aload 6, 2) := by decide +kernel
theorem dX3_copy_108 : decode cX3_copy 108 = .ok (.getfield 197, 3) := by decide +kernel
theorem dX3_copy_111 : decode cX3_copy 111 = .ok (.iload_n 2, 1) := by decide +kernel
theorem dX3_copy_112 : decode cX3_copy 112 = .ok (.aload 7, 2) := by decide +kernel
theorem dX3_copy_114 : decode cX3_copy 114 = .ok (.getfield 197, 3) := by decide +kernel
theorem dX3_copy_117 : decode cX3_copy 117 = .ok (.iload 4, 2) := by decide +kernel
theorem dX3_copy_119 : decode cX3_copy 119 = .ok (.iload 5, 2) := by decide +kernel
theorem dX3_copy_121 : decode cX3_copy 121 = .ok (.invokestatic 211, 3) := by decide +kernel
theorem dX3_copy_124 : decode cX3_copy 124 = .ok (.iload 5, 2) := by decide +kernel
theorem dX3_copy_126 : decode cX3_copy 126 = .ok (.ireturn, 1) := by decide +kernel
theorem dX3_lays_0 : decode cX3_lays 0 = .ok (.iload_n 1, 1) := by decide +kernel
theorem dX3_lays_1 : decode cX3_lays 1 = .ok (.invokestatic 185, 3) := by decide +kernel
theorem dX3_lays_4 : decode cX3_lays 4 = .ok (.ifCond .ne 9, 3) := by decide +kernel
theorem dX3_lays_7 : decode cX3_lays 7 = .ok (.aload_n 0, 1) := by decide +kernel
theorem dX3_lays_8 : decode cX3_lays 8 = .ok (.iconst 0, 1) := by decide +kernel
theorem dX3_lays_9 : decode cX3_lays 9 = .ok (.invokevirtual 55, 3) := by decide +kernel
theorem dX3_lays_12 : decode cX3_lays 12 = .ok (.ireturn, 1) := by decide +kernel
theorem dX3_lays_13 : decode cX3_lays 13 = .ok (.aload_n 0, 1) := by decide +kernel
theorem dX3_lays_14 : decode cX3_lays 14 = .ok (.getfield 35, 3) := by decide +kernel
theorem dX3_lays_17 : decode cX3_lays 17 = .ok (.iload_n 1, 1) := by decide +kernel
theorem dX3_lays_18 : decode cX3_lays 18 = .ok (.aaload, 1) := by decide +kernel
theorem dX3_lays_19 : decode cX3_lays 19 = .ok (.astore_n 2, 1) := by decide +kernel
theorem dX3_lays_20 : decode cX3_lays 20 = .ok (.aload_n 2, 1) := by decide +kernel
theorem dX3_lays_21 : decode cX3_lays 21 = .ok (.invokevirtual 191, 3) := by decide +kernel
theorem dX3_lays_24 : decode cX3_lays 24 = .ok (.ifCond .eq 9, 3) := by decide +kernel
theorem dX3_lays_27 : decode cX3_lays 27 = .ok (.aload_n 0, 1) := by decide +kernel
theorem dX3_lays_28 : decode cX3_lays 28 = .ok (.iconst 5, 1) := by decide +kernel
theorem dX3_lays_29 : decode cX3_lays 29 = .ok (.invokevirtual 55, 3) := by decide +kernel
theorem dX3_lays_32 : decode cX3_lays 32 = .ok (.ireturn, 1) := by decide +kernel
theorem dX3_lays_33 : decode cX3_lays 33 = .ok (.iconst 0, 1) := by decide +kernel
theorem dX3_lays_34 : decode cX3_lays 34 = .ok (.istore_n 3, 1) := by decide +kernel
theorem dX3_lays_35 : decode cX3_lays 35 = .ok (.iconst 0, 1) := by decide +kernel
theorem dX3_lays_36 : decode cX3_lays 36 = .ok (.istore 4, 2) := by decide +kernel
theorem dX3_lays_38 : decode cX3_lays 38 = .ok (.iload 4, 2) := by decide +kernel
theorem dX3_lays_40 : decode cX3_lays 40 = .ok (.bipush 8, 2) := by decide +kernel
theorem dX3_lays_42 : decode cX3_lays 42 = .ok (.if_icmp .ge 59, 3) := by decide +kernel
theorem dX3_lays_45 : decode cX3_lays 45 = .ok (.iload 4, 2) := by decide +kernel
theorem dX3_lays_47 : decode cX3_lays 47 = .ok (.aload_n 2, 1) := by decide +kernel
theorem dX3_lays_48 : decode cX3_lays 48 = .ok (.getfield 194, 3) := by decide +kernel
theorem dX3_lays_51 : decode cX3_lays 51 = .ok (.if_icmp .ge 50, 3) := by decide +kernel
theorem dX3_lays_54 : decode cX3_lays 54 = .ok (.aload_n 2, 1) := by decide +kernel
theorem dX3_lays_55 : decode cX3_lays 55 = .ok (.getfield 197, 3) := by decide +kernel
theorem dX3_lays_58 : decode cX3_lays 58 = .ok (.iload 4, 2) := by decide +kernel
theorem dX3_lays_60 : decode cX3_lays 60 = .ok (.laload, 1) := by decide +kernel
theorem dX3_lays_61 : decode cX3_lays 61 = .ok (.lstore 5, 2) := by decide +kernel
theorem dX3_lays_63 : decode cX3_lays 63 = .ok (.lload 5, 2) := by decide +kernel
theorem dX3_lays_65 : decode cX3_lays 65 = .ok (.lconst 0, 1) := by decide +kernel
theorem dX3_lays_66 : decode cX3_lays 66 = .ok (.lcmp, 1) := by decide +kernel
theorem dX3_lays_67 : decode cX3_lays 67 = .ok (.ifCond .lt 28, 3) := by decide +kernel
theorem dX3_lays_70 : decode cX3_lays 70 = .ok (.lload 5, 2) := by decide +kernel
theorem dX3_lays_72 : decode cX3_lays 72 = .ok (.ldc2_w 217, 3) := by decide +kernel
theorem dX3_lays_75 : decode cX3_lays 75 = .ok (.lcmp, 1) := by decide +kernel
theorem dX3_lays_76 : decode cX3_lays 76 = .ok (.ifCond .gt 19, 3) := by decide +kernel
theorem dX3_lays_79 : decode cX3_lays 79 = .ok (.aload_n 0, 1) := by decide +kernel
theorem dX3_lays_80 : decode cX3_lays 80 = .ok (.getfield 10, 3) := by decide +kernel
theorem dX3_lays_83 : decode cX3_lays 83 = .ok (.getfield 59, 3) := by decide +kernel
theorem dX3_lays_86 : decode cX3_lays 86 = .ok (.iload 4, 2) := by decide +kernel
theorem dX3_lays_88 : decode cX3_lays 88 = .ok (.lload 5, 2) := by decide +kernel
theorem dX3_lays_90 : decode cX3_lays 90 = .ok (.l2i, 1) := by decide +kernel
theorem dX3_lays_91 : decode cX3_lays 91 = .ok (.iastore, 1) := by decide +kernel
theorem dX3_lays_92 : decode cX3_lays 92 = .ok (.iinc 3 1, 3) := by decide +kernel
theorem dX3_lays_95 : decode cX3_lays 95 = .ok (.iinc 4 1, 3) := by decide +kernel
theorem dX3_lays_98 : decode cX3_lays 98 = .ok (.goto (-60), 3) := by decide +kernel
theorem dX3_lays_101 : decode cX3_lays 101 = .ok (.iload_n 3, 1) := by decide +kernel
theorem dX3_lays_102 : decode cX3_lays 102 = .ok (.ireturn, 1) := by decide +kernel
theorem dX3_book_0 : decode cX3_book 0 = .ok (.iload_n 1, 1) := by decide +kernel
theorem dX3_book_1 : decode cX3_book 1 = .ok (.invokestatic 185, 3) := by decide +kernel
theorem dX3_book_4 : decode cX3_book 4 = .ok (.ifCond .ne 9, 3) := by decide +kernel
theorem dX3_book_7 : decode cX3_book 7 = .ok (.aload_n 0, 1) := by decide +kernel
theorem dX3_book_8 : decode cX3_book 8 = .ok (.iconst 0, 1) := by decide +kernel
theorem dX3_book_9 : decode cX3_book 9 = .ok (.invokevirtual 55, 3) := by decide +kernel
theorem dX3_book_12 : decode cX3_book 12 = .ok (.ireturn, 1) := by decide +kernel
theorem dX3_book_13 : decode cX3_book 13 = .ok (.aload_n 0, 1) := by decide +kernel
theorem dX3_book_14 : decode cX3_book 14 = .ok (.getfield 35, 3) := by decide +kernel
theorem dX3_book_17 : decode cX3_book 17 = .ok (.iload_n 1, 1) := by decide +kernel
theorem dX3_book_18 : decode cX3_book 18 = .ok (.aaload, 1) := by decide +kernel
theorem dX3_book_19 : decode cX3_book 19 = .ok (.astore_n 3, 1) := by decide +kernel
theorem dX3_book_20 : decode cX3_book 20 = .ok (.aload_n 3, 1) := by decide +kernel
theorem dX3_book_21 : decode cX3_book 21 = .ok (.invokevirtual 191, 3) := by decide +kernel
theorem dX3_book_24 : decode cX3_book 24 = .ok (.ifCond .eq 9, 3) := by decide +kernel
theorem dX3_book_27 : decode cX3_book 27 = .ok (.aload_n 0, 1) := by decide +kernel
theorem dX3_book_28 : decode cX3_book 28 = .ok (.iconst 5, 1) := by decide +kernel
theorem dX3_book_29 : decode cX3_book 29 = .ok (.invokevirtual 55, 3) := by decide +kernel
theorem dX3_book_32 : decode cX3_book 32 = .ok (.ireturn, 1) := by decide +kernel
theorem dX3_book_33 : decode cX3_book 33 = .ok (.aload_n 0, 1) := by decide +kernel
theorem dX3_book_34 : decode cX3_book 34 = .ok (.iload_n 2, 1) := by decide +kernel
theorem dX3_book_35 : decode cX3_book 35 = .ok (.invokevirtual 78, 3) := by decide +kernel
theorem dX3_book_38 : decode cX3_book 38 = .ok (.ifCond .ne 9, 3) := by decide +kernel
theorem dX3_book_41 : decode cX3_book 41 = .ok (.aload_n 0, 1) := by decide +kernel
theorem dX3_book_42 : decode cX3_book 42 = .ok (.iconst 0, 1) := by decide +kernel
theorem dX3_book_43 : decode cX3_book 43 = .ok (.invokevirtual 55, 3) := by decide +kernel
theorem dX3_book_46 : decode cX3_book 46 = .ok (.ireturn, 1) := by decide +kernel
theorem dX3_book_47 : decode cX3_book 47 = .ok (.aload_n 0, 1) := by decide +kernel
theorem dX3_book_48 : decode cX3_book 48 = .ok (.getfield 16, 3) := by decide +kernel
theorem dX3_book_51 : decode cX3_book 51 = .ok (.aload_n 0, 1) := by decide +kernel
theorem dX3_book_52 : decode cX3_book 52 = .ok (.getfield 10, 3) := by decide +kernel
theorem dX3_book_55 : decode cX3_book 55 = .ok (.invokevirtual 152, 3) := by decide +kernel
theorem dX3_book_58 : decode cX3_book 58 = .ok (.iconst 0, 1) := by decide +kernel
theorem dX3_book_59 : decode cX3_book 59 = .ok (.istore 4, 2) := by decide +kernel
theorem dX3_book_61 : decode cX3_book 61 = .ok (.iload 4, 2) := by decide +kernel
theorem dX3_book_63 : decode cX3_book 63 = .ok (.aload_n 3, 1) := by decide +kernel
theorem dX3_book_64 : decode cX3_book 64 = .ok (.getfield 194, 3) := by decide +kernel
theorem dX3_book_67 : decode cX3_book 67 = .ok (.if_icmp .ge 34, 3) := by decide +kernel
theorem dX3_book_70 : decode cX3_book 70 = .ok (.aload_n 3, 1) := by decide +kernel
theorem dX3_book_71 : decode cX3_book 71 = .ok (.getfield 197, 3) := by decide +kernel
theorem dX3_book_74 : decode cX3_book 74 = .ok (.iload 4, 2) := by decide +kernel
theorem dX3_book_76 : decode cX3_book 76 = .ok (.aload_n 0, 1) := by decide +kernel
theorem dX3_book_77 : decode cX3_book 77 = .ok (.getfield 16, 3) := by decide +kernel
theorem dX3_book_80 : decode cX3_book 80 = .ok (.getfield 96, 3) := by decide +kernel
theorem dX3_book_83 : decode cX3_book 83 = .ok (.iload_n 2, 1) := by decide +kernel
theorem dX3_book_84 : decode cX3_book 84 = .ok (.iaload, 1) := by decide +kernel
theorem dX3_book_85 : decode cX3_book 85 = .ok (.i2l, 1) := by decide +kernel
theorem dX3_book_86 : decode cX3_book 86 = .ok (.lastore, 1) := by decide +kernel
theorem dX3_book_87 : decode cX3_book 87 = .ok (.aload_n 0, 1) := by decide +kernel
theorem dX3_book_88 : decode cX3_book 88 = .ok (.getfield 16, 3) := by decide +kernel
theorem dX3_book_91 : decode cX3_book 91 = .ok (.invokevirtual 156, 3) := by decide +kernel
theorem dX3_book_94 : decode cX3_book 94 = .ok (.pop, 1) := by decide +kernel
theorem dX3_book_95 : decode cX3_book 95 = .ok (.iinc 4 1, 3) := by decide +kernel
theorem dX3_book_98 : decode cX3_book 98 = .ok (.goto (-37), 3) := by decide +kernel
theorem dX3_book_101 : decode cX3_book 101 = .ok (.aload_n 3, 1) := by decide +kernel
theorem dX3_book_102 : decode cX3_book 102 = .ok (.getfield 194, 3) := by decide +kernel
theorem dX3_book_105 : decode cX3_book 105 = .ok (.ireturn, 1) := by decide +kernel
theorem dX3_read_0 : decode cX3_read 0 = .ok (.iload_n 1, 1) := by decide +kernel
theorem dX3_read_1 : decode cX3_read 1 = .ok (.invokestatic 185, 3) := by decide +kernel
theorem dX3_read_4 : decode cX3_read 4 = .ok (.ifCond .ne 9, 3) := by decide +kernel
theorem dX3_read_7 : decode cX3_read 7 = .ok (.aload_n 0, 1) := by decide +kernel
theorem dX3_read_8 : decode cX3_read 8 = .ok (.iconst 0, 1) := by decide +kernel
theorem dX3_read_9 : decode cX3_read 9 = .ok (.invokevirtual 55, 3) := by decide +kernel
theorem dX3_read_12 : decode cX3_read 12 = .ok (.ireturn, 1) := by decide +kernel
theorem dX3_read_13 : decode cX3_read 13 = .ok (.aload_n 0, 1) := by decide +kernel
theorem dX3_read_14 : decode cX3_read 14 = .ok (.getfield 35, 3) := by decide +kernel
theorem dX3_read_17 : decode cX3_read 17 = .ok (.iload_n 1, 1) := by decide +kernel
theorem dX3_read_18 : decode cX3_read 18 = .ok (.aaload, 1) := by decide +kernel
theorem dX3_read_19 : decode cX3_read 19 = .ok (.astore_n 3, 1) := by decide +kernel
theorem dX3_read_20 : decode cX3_read 20 = .ok (.aload_n 3, 1) := by decide +kernel
theorem dX3_read_21 : decode cX3_read 21 = .ok (.invokevirtual 191, 3) := by decide +kernel
theorem dX3_read_24 : decode cX3_read 24 = .ok (.ifCond .eq 9, 3) := by decide +kernel
theorem dX3_read_27 : decode cX3_read 27 = .ok (.aload_n 0, 1) := by decide +kernel
theorem dX3_read_28 : decode cX3_read 28 = .ok (.iconst 5, 1) := by decide +kernel
theorem dX3_read_29 : decode cX3_read 29 = .ok (.invokevirtual 55, 3) := by decide +kernel
theorem dX3_read_32 : decode cX3_read 32 = .ok (.ireturn, 1) := by decide +kernel
theorem dX3_read_33 : decode cX3_read 33 = .ok (.aload_n 0, 1) := by decide +kernel
theorem dX3_read_34 : decode cX3_read 34 = .ok (.iload_n 2, 1) := by decide +kernel
theorem dX3_read_35 : decode cX3_read 35 = .ok (.invokevirtual 78, 3) := by decide +kernel
theorem dX3_read_38 : decode cX3_read 38 = .ok (.ifCond .ne 9, 3) := by decide +kernel
theorem dX3_read_41 : decode cX3_read 41 = .ok (.aload_n 0, 1) := by decide +kernel
theorem dX3_read_42 : decode cX3_read 42 = .ok (.iconst 0, 1) := by decide +kernel
theorem dX3_read_43 : decode cX3_read 43 = .ok (.invokevirtual 55, 3) := by decide +kernel
theorem dX3_read_46 : decode cX3_read 46 = .ok (.ireturn, 1) := by decide +kernel
theorem dX3_read_47 : decode cX3_read 47 = .ok (.iconst 0, 1) := by decide +kernel
theorem dX3_read_48 : decode cX3_read 48 = .ok (.istore 4, 2) := by decide +kernel
theorem dX3_read_50 : decode cX3_read 50 = .ok (.iconst 0, 1) := by decide +kernel
theorem dX3_read_51 : decode cX3_read 51 = .ok (.istore 5, 2) := by decide +kernel
theorem dX3_read_53 : decode cX3_read 53 = .ok (.iload 5, 2) := by decide +kernel
theorem dX3_read_55 : decode cX3_read 55 = .ok (.bipush 6, 2) := by decide +kernel
theorem dX3_read_57 : decode cX3_read 57 = .ok (.if_icmp .ge 70, 3) := by decide +kernel
theorem dX3_read_60 : decode cX3_read 60 = .ok (.iconst (-1), 1) := by decide +kernel
theorem dX3_read_61 : decode cX3_read 61 = .ok (.istore 6, 2) := by decide +kernel
theorem dX3_read_63 : decode cX3_read 63 = .ok (.iload 6, 2) := by decide +kernel
theorem dX3_read_65 : decode cX3_read 65 = .ok (.bipush 8, 2) := by decide +kernel
theorem dX3_read_67 : decode cX3_read 67 = .ok (.if_icmp .ge 54, 3) := by decide +kernel
theorem dX3_read_70 : decode cX3_read 70 = .ok (.aload_n 0, 1) := by decide +kernel
theorem dX3_read_71 : decode cX3_read 71 = .ok (.getfield 16, 3) := by decide +kernel
theorem dX3_read_74 : decode cX3_read 74 = .ok (.aload_n 0, 1) := by decide +kernel
theorem dX3_read_75 : decode cX3_read 75 = .ok (.getfield 10, 3) := by decide +kernel
theorem dX3_read_78 : decode cX3_read 78 = .ok (.invokevirtual 152, 3) := by decide +kernel
theorem dX3_read_81 : decode cX3_read 81 = .ok (.aload_n 0, 1) := by decide +kernel
theorem dX3_read_82 : decode cX3_read 82 = .ok (.getfield 16, 3) := by decide +kernel
theorem dX3_read_85 : decode cX3_read 85 = .ok (.getfield 81, 3) := by decide +kernel
theorem dX3_read_88 : decode cX3_read 88 = .ok (.iload_n 2, 1) := by decide +kernel
theorem dX3_read_89 : decode cX3_read 89 = .ok (.iload 5, 2) := by decide +kernel
theorem dX3_read_91 : decode cX3_read 91 = .ok (.iastore, 1) := by decide +kernel
theorem dX3_read_92 : decode cX3_read 92 = .ok (.aload_n 0, 1) := by decide +kernel
theorem dX3_read_93 : decode cX3_read 93 = .ok (.getfield 16, 3) := by decide +kernel
theorem dX3_read_96 : decode cX3_read 96 = .ok (.getfield 87, 3) := by decide +kernel
theorem dX3_read_99 : decode cX3_read 99 = .ok (.iload_n 2, 1) := by decide +kernel
theorem dX3_read_100 : decode cX3_read 100 = .ok (.iload 6, 2) := by decide +kernel
theorem dX3_read_102 : decode cX3_read 102 = .ok (.iastore, 1) := by decide +kernel
theorem dX3_read_103 : decode cX3_read 103 = .ok (.aload_n 0, 1) := by decide +kernel
theorem dX3_read_104 : decode cX3_read 104 = .ok (.aload_n 3, 1) := by decide +kernel
theorem dX3_read_105 : decode cX3_read 105 = .ok (.iload_n 2, 1) := by decide +kernel
theorem dX3_read_106 : decode cX3_read 106 = .ok (.invokevirtual 219, 3) := by decide +kernel
theorem dX3_read_109 : decode cX3_read 109 = .ok (.ifCond .eq 6, 3) := by decide +kernel
theorem dX3_read_112 : decode cX3_read 112 = .ok (.iinc 4 1, 3) := by decide +kernel
theorem dX3_read_115 : decode cX3_read 115 = .ok (.iinc 6 1, 3) := by decide +kernel
theorem dX3_read_118 : decode cX3_read 118 = .ok (.goto (-55), 3) := by decide +kernel
theorem dX3_read_121 : decode cX3_read 121 = .ok (.iinc 5 1, 3) := by decide +kernel
theorem dX3_read_124 : decode cX3_read 124 = .ok (.goto (-71), 3) := by decide +kernel
theorem dX3_read_127 : decode cX3_read 127 = .ok (.iload 4, 2) := by decide +kernel
theorem dX3_read_129 : decode cX3_read 129 = .ok (.ireturn, 1) := by decide +kernel
theorem dX3_image_0 : decode cX3_image 0 = .ok (.aload_n 0, 1) := by decide +kernel
theorem dX3_image_1 : decode cX3_image 1 = .ok (.getfield 19, 3) := by decide +kernel
theorem dX3_image_4 : decode cX3_image 4 = .ok (.aload_n 0, 1) := by decide +kernel
theorem dX3_image_5 : decode cX3_image 5 = .ok (.getfield 10, 3) := by decide +kernel
theorem dX3_image_8 : decode cX3_image 8 = .ok (.invokevirtual 152, 3) := by decide +kernel
theorem dX3_image_11 : decode cX3_image 11 = .ok (.aload_n 0, 1) := by decide +kernel
theorem dX3_image_12 : decode cX3_image 12 = .ok (.iconst 1, 1) := by decide +kernel
theorem dX3_image_13 : decode cX3_image 13 = .ok (.putfield 22, 3) := by decide +kernel
theorem dX3_image_16 : decode cX3_image 16 = .ok (.iconst 1, 1) := by decide +kernel
theorem dX3_image_17 : decode cX3_image 17 = .ok (.ireturn, 1) := by decide +kernel
theorem dX3_undo_0 : decode cX3_undo 0 = .ok (.aload_n 0, 1) := by decide +kernel
theorem dX3_undo_1 : decode cX3_undo 1 = .ok (.getfield 22, 3) := by decide +kernel
theorem dX3_undo_4 : decode cX3_undo 4 = .ok (.ifCond .ne 9, 3) := by decide +kernel
theorem dX3_undo_7 : decode cX3_undo 7 = .ok (.aload_n 0, 1) := by decide +kernel
theorem dX3_undo_8 : decode cX3_undo 8 = .ok (.iconst 3, 1) := by decide +kernel
theorem dX3_undo_9 : decode cX3_undo 9 = .ok (.invokevirtual 55, 3) := by decide +kernel
theorem dX3_undo_12 : decode cX3_undo 12 = .ok (.ireturn, 1) := by decide +kernel
theorem dX3_undo_13 : decode cX3_undo 13 = .ok (.aload_n 0, 1) := by decide +kernel
theorem dX3_undo_14 : decode cX3_undo 14 = .ok (.getfield 10, 3) := by decide +kernel
theorem dX3_undo_17 : decode cX3_undo 17 = .ok (.aload_n 0, 1) := by decide +kernel
theorem dX3_undo_18 : decode cX3_undo 18 = .ok (.getfield 19, 3) := by decide +kernel
theorem dX3_undo_21 : decode cX3_undo 21 = .ok (.invokevirtual 152, 3) := by decide +kernel
theorem dX3_undo_24 : decode cX3_undo 24 = .ok (.aload_n 0, 1) := by decide +kernel
theorem dX3_undo_25 : decode cX3_undo 25 = .ok (.getfield 10, 3) := by decide +kernel
theorem dX3_undo_28 : decode cX3_undo 28 = .ok (.getfield 71, 3) := by decide +kernel
theorem dX3_undo_31 : decode cX3_undo 31 = .ok (.ireturn, 1) := by decide +kernel
theorem dX3_tear_0 : decode cX3_tear 0 = .ok (.aload_n 0, 1) := by decide +kernel
theorem dX3_tear_1 : decode cX3_tear 1 = .ok (.getfield 22, 3) := by decide +kernel
theorem dX3_tear_4 : decode cX3_tear 4 = .ok (.ifCond .eq 7, 3) := by decide +kernel
theorem dX3_tear_7 : decode cX3_tear 7 = .ok (.iconst 1, 1) := by decide +kernel
theorem dX3_tear_8 : decode cX3_tear 8 = .ok (.goto 4, 3) := by decide +kernel
theorem dX3_tear_11 : decode cX3_tear 11 = .ok (.iconst 0, 1) := by decide +kernel
theorem dX3_tear_12 : decode cX3_tear 12 = .ok (.istore_n 1, 1) := by decide +kernel
theorem dX3_tear_13 : decode cX3_tear 13 = .ok (.aload_n 0, 1) := by decide +kernel
theorem dX3_tear_14 : decode cX3_tear 14 = .ok (.iconst 0, 1) := by decide +kernel
theorem dX3_tear_15 : decode cX3_tear 15 = .ok (.putfield 22, 3) := by decide +kernel
theorem dX3_tear_18 : decode cX3_tear 18 = .ok (.iload_n 1, 1) := by decide +kernel
theorem dX3_tear_19 : decode cX3_tear 19 = .ok (.ireturn, 1) := by decide +kernel
theorem dX3_count_0 : decode cX3_count 0 = .ok (.iload_n 1, 1) := by decide +kernel
theorem dX3_count_1 : decode cX3_count 1 = .ok (.tableswitch 66 0 3 #[31, 39, 47, 58], 31) := by decide +kernel
theorem dX3_count_32 : decode cX3_count 32 = .ok (.aload_n 0, 1) := by decide +kernel
theorem dX3_count_33 : decode cX3_count 33 = .ok (.getfield 10, 3) := by decide +kernel
theorem dX3_count_36 : decode cX3_count 36 = .ok (.getfield 71, 3) := by decide +kernel
theorem dX3_count_39 : decode cX3_count 39 = .ok (.ireturn, 1) := by decide +kernel
theorem dX3_count_40 : decode cX3_count 40 = .ok (.aload_n 0, 1) := by decide +kernel
theorem dX3_count_41 : decode cX3_count 41 = .ok (.getfield 29, 3) := by decide +kernel
theorem dX3_count_44 : decode cX3_count 44 = .ok (.getfield 168, 3) := by decide +kernel
theorem dX3_count_47 : decode cX3_count 47 = .ok (.ireturn, 1) := by decide +kernel
theorem dX3_count_48 : decode cX3_count 48 = .ok (.aload_n 0, 1) := by decide +kernel
theorem dX3_count_49 : decode cX3_count 49 = .ok (.getfield 10, 3) := by decide +kernel
theorem dX3_count_52 : decode cX3_count 52 = .ok (.invokevirtual 142, 3) := by decide +kernel
theorem dX3_count_55 : decode cX3_count 55 = .ok (.invokestatic 223, 3) := by decide +kernel
theorem dX3_count_58 : decode cX3_count 58 = .ok (.ireturn, 1) := by decide +kernel
theorem dX3_count_59 : decode cX3_count 59 = .ok (.aload_n 0, 1) := by decide +kernel
theorem dX3_count_60 : decode cX3_count 60 = .ok (.getfield 10, 3) := by decide +kernel
theorem dX3_count_63 : decode cX3_count 63 = .ok (.invokevirtual 228, 3) := by decide +kernel
theorem dX3_count_66 : decode cX3_count 66 = .ok (.ireturn, 1) := by decide +kernel
theorem dX3_count_67 : decode cX3_count 67 = .ok (.aload_n 0, 1) := by decide +kernel
theorem dX3_count_68 : decode cX3_count 68 = .ok (.iconst 0, 1) := by decide +kernel
theorem dX3_count_69 : decode cX3_count 69 = .ok (.invokevirtual 55, 3) := by decide +kernel
theorem dX3_count_72 : decode cX3_count 72 = .ok (.ireturn, 1) := by decide +kernel
theorem dX3_status_0 : decode cX3_status 0 = .ok (.iload_n 1, 1) := by decide +kernel
theorem dX3_status_1 : decode cX3_status 1 = .ok (.iconst (-1), 1) := by decide +kernel
theorem dX3_status_2 : decode cX3_status 2 = .ok (.bipush 6, 2) := by decide +kernel
theorem dX3_status_4 : decode cX3_status 4 = .ok (.invokestatic 51, 3) := by decide +kernel
theorem dX3_status_7 : decode cX3_status 7 = .ok (.ifCond .ne 9, 3) := by decide +kernel
theorem dX3_status_10 : decode cX3_status 10 = .ok (.aload_n 0, 1) := by decide +kernel
theorem dX3_status_11 : decode cX3_status 11 = .ok (.iconst 0, 1) := by decide +kernel
theorem dX3_status_12 : decode cX3_status 12 = .ok (.invokevirtual 55, 3) := by decide +kernel
theorem dX3_status_15 : decode cX3_status 15 = .ok (.ireturn, 1) := by decide +kernel
theorem dX3_status_16 : decode cX3_status 16 = .ok (.iload_n 1, 1) := by decide +kernel
theorem dX3_status_17 : decode cX3_status 17 = .ok (.ifCond .lt 10, 3) := by decide +kernel
theorem dX3_status_20 : decode cX3_status 20 = .ok (.aload_n 0, 1) := by decide +kernel
theorem dX3_status_21 : decode cX3_status 21 = .ok (.getfield 40, 3) := by decide +kernel
theorem dX3_status_24 : decode cX3_status 24 = .ok (.iload_n 1, 1) := by decide +kernel
theorem dX3_status_25 : decode cX3_status 25 = .ok (.iaload, 1) := by decide +kernel
theorem dX3_status_26 : decode cX3_status 26 = .ok (.ireturn, 1) := by decide +kernel
theorem dX3_status_27 : decode cX3_status 27 = .ok (.iconst 0, 1) := by decide +kernel
theorem dX3_status_28 : decode cX3_status 28 = .ok (.istore_n 2, 1) := by decide +kernel
theorem dX3_status_29 : decode cX3_status 29 = .ok (.iconst 0, 1) := by decide +kernel
theorem dX3_status_30 : decode cX3_status 30 = .ok (.istore_n 3, 1) := by decide +kernel
theorem dX3_status_31 : decode cX3_status 31 = .ok (.iload_n 3, 1) := by decide +kernel
theorem dX3_status_32 : decode cX3_status 32 = .ok (.bipush 7, 2) := by decide +kernel
theorem dX3_status_34 : decode cX3_status 34 = .ok (.if_icmp .ge 18, 3) := by decide +kernel
theorem dX3_status_37 : decode cX3_status 37 = .ok (.iload_n 2, 1) := by decide +kernel
theorem dX3_status_38 : decode cX3_status 38 = .ok (.aload_n 0, 1) := by decide +kernel
theorem dX3_status_39 : decode cX3_status 39 = .ok (.getfield 40, 3) := by decide +kernel
theorem dX3_status_42 : decode cX3_status 42 = .ok (.iload_n 3, 1) := by decide +kernel
theorem dX3_status_43 : decode cX3_status 43 = .ok (.iaload, 1) := by decide +kernel
theorem dX3_status_44 : decode cX3_status 44 = .ok (.iadd, 1) := by decide +kernel
theorem dX3_status_45 : decode cX3_status 45 = .ok (.istore_n 2, 1) := by decide +kernel
theorem dX3_status_46 : decode cX3_status 46 = .ok (.iinc 3 1, 3) := by decide +kernel
theorem dX3_status_49 : decode cX3_status 49 = .ok (.goto (-18), 3) := by decide +kernel
theorem dX3_status_52 : decode cX3_status 52 = .ok (.iload_n 2, 1) := by decide +kernel
theorem dX3_status_53 : decode cX3_status 53 = .ok (.ireturn, 1) := by decide +kernel
theorem dX3_finding_0 : decode cX3_finding 0 = .ok (.aload_n 0, 1) := by decide +kernel
theorem dX3_finding_1 : decode cX3_finding 1 = .ok (.getfield 40, 3) := by decide +kernel
theorem dX3_finding_4 : decode cX3_finding 4 = .ok (.iload_n 1, 1) := by decide +kernel
theorem dX3_finding_5 : decode cX3_finding 5 = .ok (.dup2, 1) := by decide +kernel
theorem dX3_finding_6 : decode cX3_finding 6 = .ok (.iaload, 1) := by decide +kernel
theorem dX3_finding_7 : decode cX3_finding 7 = .ok (.iconst 1, 1) := by decide +kernel
theorem dX3_finding_8 : decode cX3_finding 8 = .ok (.iadd, 1) := by decide +kernel
theorem dX3_finding_9 : decode cX3_finding 9 = .ok (.iastore, 1) := by decide +kernel
theorem dX3_finding_10 : decode cX3_finding 10 = .ok (.ldc 231, 2) := by decide +kernel
theorem dX3_finding_12 : decode cX3_finding 12 = .ok (.iload_n 1, 1) := by decide +kernel
theorem dX3_finding_13 : decode cX3_finding 13 = .ok (.isub, 1) := by decide +kernel
theorem dX3_finding_14 : decode cX3_finding 14 = .ok (.ireturn, 1) := by decide +kernel
theorem dX3_put_0 : decode cX3_put 0 = .ok (.iload_n 3, 1) := by decide +kernel
theorem dX3_put_1 : decode cX3_put 1 = .ok (.iload 4, 2) := by decide +kernel
theorem dX3_put_3 : decode cX3_put 3 = .ok (.iload 5, 2) := by decide +kernel
theorem dX3_put_5 : decode cX3_put 5 = .ok (.invokestatic 51, 3) := by decide +kernel
theorem dX3_put_8 : decode cX3_put 8 = .ok (.ifCond .ne 9, 3) := by decide +kernel
theorem dX3_put_11 : decode cX3_put 11 = .ok (.aload_n 0, 1) := by decide +kernel
theorem dX3_put_12 : decode cX3_put 12 = .ok (.iconst 0, 1) := by decide +kernel
theorem dX3_put_13 : decode cX3_put 13 = .ok (.invokevirtual 55, 3) := by decide +kernel
theorem dX3_put_16 : decode cX3_put 16 = .ok (.ireturn, 1) := by decide +kernel
theorem dX3_put_17 : decode cX3_put 17 = .ok (.aload_n 1, 1) := by decide +kernel
theorem dX3_put_18 : decode cX3_put 18 = .ok (.iload_n 2, 1) := by decide +kernel
theorem dX3_put_19 : decode cX3_put 19 = .ok (.iaload, 1) := by decide +kernel
theorem dX3_put_20 : decode cX3_put 20 = .ok (.istore 6, 2) := by decide +kernel
theorem dX3_put_22 : decode cX3_put 22 = .ok (.aload_n 1, 1) := by decide +kernel
theorem dX3_put_23 : decode cX3_put 23 = .ok (.iload_n 2, 1) := by decide +kernel
theorem dX3_put_24 : decode cX3_put 24 = .ok (.iload_n 3, 1) := by decide +kernel
theorem dX3_put_25 : decode cX3_put 25 = .ok (.iastore, 1) := by decide +kernel
theorem dX3_put_26 : decode cX3_put 26 = .ok (.iload 6, 2) := by decide +kernel
theorem dX3_put_28 : decode cX3_put 28 = .ok (.ireturn, 1) := by decide +kernel
theorem dX3_isThere_0 : decode cX3_isThere 0 = .ok (.iload_n 1, 1) := by decide +kernel
theorem dX3_isThere_1 : decode cX3_isThere 1 = .ok (.iconst 0, 1) := by decide +kernel
theorem dX3_isThere_2 : decode cX3_isThere 2 = .ok (.aload_n 0, 1) := by decide +kernel
theorem dX3_isThere_3 : decode cX3_isThere 3 = .ok (.getfield 10, 3) := by decide +kernel
theorem dX3_isThere_6 : decode cX3_isThere 6 = .ok (.getfield 71, 3) := by decide +kernel
theorem dX3_isThere_9 : decode cX3_isThere 9 = .ok (.iconst 1, 1) := by decide +kernel
theorem dX3_isThere_10 : decode cX3_isThere 10 = .ok (.isub, 1) := by decide +kernel
theorem dX3_isThere_11 : decode cX3_isThere 11 = .ok (.invokestatic 51, 3) := by decide +kernel
theorem dX3_isThere_14 : decode cX3_isThere 14 = .ok (.ireturn, 1) := by decide +kernel
theorem dX3_areTwo_0 : decode cX3_areTwo 0 = .ok (.aload_n 0, 1) := by decide +kernel
theorem dX3_areTwo_1 : decode cX3_areTwo 1 = .ok (.iload_n 1, 1) := by decide +kernel
theorem dX3_areTwo_2 : decode cX3_areTwo 2 = .ok (.invokevirtual 78, 3) := by decide +kernel
theorem dX3_areTwo_5 : decode cX3_areTwo 5 = .ok (.ifCond .eq 20, 3) := by decide +kernel
theorem dX3_areTwo_8 : decode cX3_areTwo 8 = .ok (.aload_n 0, 1) := by decide +kernel
theorem dX3_areTwo_9 : decode cX3_areTwo 9 = .ok (.iload_n 2, 1) := by decide +kernel
theorem dX3_areTwo_10 : decode cX3_areTwo 10 = .ok (.invokevirtual 78, 3) := by decide +kernel
theorem dX3_areTwo_13 : decode cX3_areTwo 13 = .ok (.ifCond .eq 12, 3) := by decide +kernel
theorem dX3_areTwo_16 : decode cX3_areTwo 16 = .ok (.iload_n 1, 1) := by decide +kernel
theorem dX3_areTwo_17 : decode cX3_areTwo 17 = .ok (.iload_n 2, 1) := by decide +kernel
theorem dX3_areTwo_18 : decode cX3_areTwo 18 = .ok (.if_icmp .eq 7, 3) := by decide +kernel
theorem dX3_areTwo_21 : decode cX3_areTwo 21 = .ok (.iconst 1, 1) := by decide +kernel
theorem dX3_areTwo_22 : decode cX3_areTwo 22 = .ok (.goto 4, 3) := by decide +kernel
theorem dX3_areTwo_25 : decode cX3_areTwo 25 = .ok (.iconst 0, 1) := by decide +kernel
theorem dX3_areTwo_26 : decode cX3_areTwo 26 = .ok (.ireturn, 1) := by decide +kernel
theorem dX3_isChair_0 : decode cX3_isChair 0 = .ok (.iload_n 0, 1) := by decide +kernel
theorem dX3_isChair_1 : decode cX3_isChair 1 = .ok (.iconst 0, 1) := by decide +kernel
theorem dX3_isChair_2 : decode cX3_isChair 2 = .ok (.bipush 7, 2) := by decide +kernel
theorem dX3_isChair_4 : decode cX3_isChair 4 = .ok (.invokestatic 51, 3) := by decide +kernel
theorem dX3_isChair_7 : decode cX3_isChair 7 = .ok (.ireturn, 1) := by decide +kernel
theorem dX3_isKind_0 : decode cX3_isKind 0 = .ok (.iload_n 0, 1) := by decide +kernel
theorem dX3_isKind_1 : decode cX3_isKind 1 = .ok (.iconst 0, 1) := by decide +kernel
theorem dX3_isKind_2 : decode cX3_isKind 2 = .ok (.iconst 5, 1) := by decide +kernel
theorem dX3_isKind_3 : decode cX3_isKind 3 = .ok (.invokestatic 51, 3) := by decide +kernel
theorem dX3_isKind_6 : decode cX3_isKind 6 = .ok (.ireturn, 1) := by decide +kernel
theorem dX3_isSheet_0 : decode cX3_isSheet 0 = .ok (.iload_n 0, 1) := by decide +kernel
theorem dX3_isSheet_1 : decode cX3_isSheet 1 = .ok (.iconst 0, 1) := by decide +kernel
theorem dX3_isSheet_2 : decode cX3_isSheet 2 = .ok (.iconst 3, 1) := by decide +kernel
theorem dX3_isSheet_3 : decode cX3_isSheet 3 = .ok (.invokestatic 51, 3) := by decide +kernel
theorem dX3_isSheet_6 : decode cX3_isSheet 6 = .ok (.ireturn, 1) := by decide +kernel
theorem dX3_isWithin_0 : decode cX3_isWithin 0 = .ok (.iload_n 0, 1) := by decide +kernel
theorem dX3_isWithin_1 : decode cX3_isWithin 1 = .ok (.iload_n 1, 1) := by decide +kernel
theorem dX3_isWithin_2 : decode cX3_isWithin 2 = .ok (.if_icmp .lt 12, 3) := by decide +kernel
theorem dX3_isWithin_5 : decode cX3_isWithin 5 = .ok (.iload_n 0, 1) := by decide +kernel
theorem dX3_isWithin_6 : decode cX3_isWithin 6 = .ok (.iload_n 2, 1) := by decide +kernel
theorem dX3_isWithin_7 : decode cX3_isWithin 7 = .ok (.if_icmp .gt 7, 3) := by decide +kernel
theorem dX3_isWithin_10 : decode cX3_isWithin 10 = .ok (.iconst 1, 1) := by decide +kernel
theorem dX3_isWithin_11 : decode cX3_isWithin 11 = .ok (.goto 4, 3) := by decide +kernel
theorem dX3_isWithin_14 : decode cX3_isWithin 14 = .ok (.iconst 0, 1) := by decide +kernel
theorem dX3_isWithin_15 : decode cX3_isWithin 15 = .ok (.ireturn, 1) := by decide +kernel
theorem dX3_isOfKind_0 : decode cX3_isOfKind 0 = .ok (.iload_n 0, 1) := by decide +kernel
theorem dX3_isOfKind_1 : decode cX3_isOfKind 1 = .ok (.istore_n 2, 1) := by decide +kernel
theorem dX3_isOfKind_2 : decode cX3_isOfKind 2 = .ok (.iconst 0, 1) := by decide +kernel
theorem dX3_isOfKind_3 : decode cX3_isOfKind 3 = .ok (.istore_n 3, 1) := by decide +kernel
theorem dX3_isOfKind_4 : decode cX3_isOfKind 4 = .ok (.iload_n 3, 1) := by decide +kernel
theorem dX3_isOfKind_5 : decode cX3_isOfKind 5 = .ok (.bipush 6, 2) := by decide +kernel
theorem dX3_isOfKind_7 : decode cX3_isOfKind 7 = .ok (.if_icmp .ge 32, 3) := by decide +kernel
theorem dX3_isOfKind_10 : decode cX3_isOfKind 10 = .ok (.iload_n 2, 1) := by decide +kernel
theorem dX3_isOfKind_11 : decode cX3_isOfKind 11 = .ok (.ifCond .lt 28, 3) := by decide +kernel
theorem dX3_isOfKind_14 : decode cX3_isOfKind 14 = .ok (.iload_n 2, 1) := by decide +kernel
theorem dX3_isOfKind_15 : decode cX3_isOfKind 15 = .ok (.bipush 6, 2) := by decide +kernel
theorem dX3_isOfKind_17 : decode cX3_isOfKind 17 = .ok (.if_icmp .ge 22, 3) := by decide +kernel
theorem dX3_isOfKind_20 : decode cX3_isOfKind 20 = .ok (.iload_n 2, 1) := by decide +kernel
theorem dX3_isOfKind_21 : decode cX3_isOfKind 21 = .ok (.iload_n 1, 1) := by decide +kernel
theorem dX3_isOfKind_22 : decode cX3_isOfKind 22 = .ok (.if_icmp .ne 5, 3) := by decide +kernel
theorem dX3_isOfKind_25 : decode cX3_isOfKind 25 = .ok (.iconst 1, 1) := by decide +kernel
theorem dX3_isOfKind_26 : decode cX3_isOfKind 26 = .ok (.ireturn, 1) := by decide +kernel
theorem dX3_isOfKind_27 : decode cX3_isOfKind 27 = .ok (.getstatic 232, 3) := by decide +kernel
theorem dX3_isOfKind_30 : decode cX3_isOfKind 30 = .ok (.iload_n 2, 1) := by decide +kernel
theorem dX3_isOfKind_31 : decode cX3_isOfKind 31 = .ok (.iaload, 1) := by decide +kernel
theorem dX3_isOfKind_32 : decode cX3_isOfKind 32 = .ok (.istore_n 2, 1) := by decide +kernel
theorem dX3_isOfKind_33 : decode cX3_isOfKind 33 = .ok (.iinc 3 1, 3) := by decide +kernel
theorem dX3_isOfKind_36 : decode cX3_isOfKind 36 = .ok (.goto (-32), 3) := by decide +kernel
theorem dX3_isOfKind_39 : decode cX3_isOfKind 39 = .ok (.iconst 0, 1) := by decide +kernel
theorem dX3_isOfKind_40 : decode cX3_isOfKind 40 = .ok (.ireturn, 1) := by decide +kernel
theorem dX3_mostPeace_0 : decode cX3_mostPeace 0 = .ok (.iload_n 1, 1) := by decide +kernel
theorem dX3_mostPeace_1 : decode cX3_mostPeace 1 = .ok (.iload_n 2, 1) := by decide +kernel
theorem dX3_mostPeace_2 : decode cX3_mostPeace 2 = .ok (.iconst 1, 1) := by decide +kernel
theorem dX3_mostPeace_3 : decode cX3_mostPeace 3 = .ok (.isub, 1) := by decide +kernel
theorem dX3_mostPeace_4 : decode cX3_mostPeace 4 = .ok (.if_icmp .ge 9, 3) := by decide +kernel
theorem dX3_mostPeace_7 : decode cX3_mostPeace 7 = .ok (.iload_n 1, 1) := by decide +kernel
theorem dX3_mostPeace_8 : decode cX3_mostPeace 8 = .ok (.bipush 6, 2) := by decide +kernel
theorem dX3_mostPeace_10 : decode cX3_mostPeace 10 = .ok (.if_icmp .lt 11, 3) := by decide +kernel
theorem dX3_mostPeace_13 : decode cX3_mostPeace 13 = .ok (.aload_n 0, 1) := by decide +kernel
theorem dX3_mostPeace_14 : decode cX3_mostPeace 14 = .ok (.getfield 16, 3) := by decide +kernel
theorem dX3_mostPeace_17 : decode cX3_mostPeace 17 = .ok (.invokevirtual 146, 3) := by decide +kernel
theorem dX3_mostPeace_20 : decode cX3_mostPeace 20 = .ok (.ireturn, 1) := by decide +kernel
theorem dX3_mostPeace_21 : decode cX3_mostPeace 21 = .ok (.aload_n 0, 1) := by decide +kernel
theorem dX3_mostPeace_22 : decode cX3_mostPeace 22 = .ok (.iload_n 1, 1) := by decide +kernel
theorem dX3_mostPeace_23 : decode cX3_mostPeace 23 = .ok (.iconst 1, 1) := by decide +kernel
theorem dX3_mostPeace_24 : decode cX3_mostPeace 24 = .ok (.iadd, 1) := by decide +kernel
theorem dX3_mostPeace_25 : decode cX3_mostPeace 25 = .ok (.iload_n 2, 1) := by decide +kernel
theorem dX3_mostPeace_26 : decode cX3_mostPeace 26 = .ok (.invokevirtual 159, 3) := by decide +kernel
theorem dX3_mostPeace_29 : decode cX3_mostPeace 29 = .ok (.istore_n 3, 1) := by decide +kernel
theorem dX3_mostPeace_30 : decode cX3_mostPeace 30 = .ok (.iload_n 1, 1) := by decide +kernel
theorem dX3_mostPeace_31 : decode cX3_mostPeace 31 = .ok (.iconst 1, 1) := by decide +kernel
theorem dX3_mostPeace_32 : decode cX3_mostPeace 32 = .ok (.iadd, 1) := by decide +kernel
theorem dX3_mostPeace_33 : decode cX3_mostPeace 33 = .ok (.istore 4, 2) := by decide +kernel
theorem dX3_mostPeace_35 : decode cX3_mostPeace 35 = .ok (.iload 4, 2) := by decide +kernel
theorem dX3_mostPeace_37 : decode cX3_mostPeace 37 = .ok (.iload_n 2, 1) := by decide +kernel
theorem dX3_mostPeace_38 : decode cX3_mostPeace 38 = .ok (.if_icmp .ge 62, 3) := by decide +kernel
theorem dX3_mostPeace_41 : decode cX3_mostPeace 41 = .ok (.aload_n 0, 1) := by decide +kernel
theorem dX3_mostPeace_42 : decode cX3_mostPeace 42 = .ok (.getfield 16, 3) := by decide +kernel
theorem dX3_mostPeace_45 : decode cX3_mostPeace 45 = .ok (.aload_n 0, 1) := by decide +kernel
theorem dX3_mostPeace_46 : decode cX3_mostPeace 46 = .ok (.getfield 44, 3) := by decide +kernel
theorem dX3_mostPeace_49 : decode cX3_mostPeace 49 = .ok (.iload_n 1, 1) := by decide +kernel
theorem dX3_mostPeace_50 : decode cX3_mostPeace 50 = .ok (.iaload, 1) := by decide +kernel
theorem dX3_mostPeace_51 : decode cX3_mostPeace 51 = .ok (.aload_n 0, 1) := by decide +kernel
theorem dX3_mostPeace_52 : decode cX3_mostPeace 52 = .ok (.getfield 44, 3) := by decide +kernel
theorem dX3_mostPeace_55 : decode cX3_mostPeace 55 = .ok (.iload 4, 2) := by decide +kernel
theorem dX3_mostPeace_57 : decode cX3_mostPeace 57 = .ok (.iaload, 1) := by decide +kernel
theorem dX3_mostPeace_58 : decode cX3_mostPeace 58 = .ok (.invokevirtual 124, 3) := by decide +kernel
theorem dX3_mostPeace_61 : decode cX3_mostPeace 61 = .ok (.iload_n 3, 1) := by decide +kernel
theorem dX3_mostPeace_62 : decode cX3_mostPeace 62 = .ok (.aload_n 0, 1) := by decide +kernel
theorem dX3_mostPeace_63 : decode cX3_mostPeace 63 = .ok (.iload_n 1, 1) := by decide +kernel
theorem dX3_mostPeace_64 : decode cX3_mostPeace 64 = .ok (.iconst 1, 1) := by decide +kernel
theorem dX3_mostPeace_65 : decode cX3_mostPeace 65 = .ok (.iadd, 1) := by decide +kernel
theorem dX3_mostPeace_66 : decode cX3_mostPeace 66 = .ok (.iload_n 2, 1) := by decide +kernel
theorem dX3_mostPeace_67 : decode cX3_mostPeace 67 = .ok (.invokevirtual 159, 3) := by decide +kernel
theorem dX3_mostPeace_70 : decode cX3_mostPeace 70 = .ok (.invokestatic 235, 3) := by decide +kernel
theorem dX3_mostPeace_73 : decode cX3_mostPeace 73 = .ok (.istore_n 3, 1) := by decide +kernel
theorem dX3_mostPeace_74 : decode cX3_mostPeace 74 = .ok (.aload_n 0, 1) := by decide +kernel
theorem dX3_mostPeace_75 : decode cX3_mostPeace 75 = .ok (.getfield 16, 3) := by decide +kernel
theorem dX3_mostPeace_78 : decode cX3_mostPeace 78 = .ok (.aload_n 0, 1) := by decide +kernel
theorem dX3_mostPeace_79 : decode cX3_mostPeace 79 = .ok (.getfield 44, 3) := by decide +kernel
theorem dX3_mostPeace_82 : decode cX3_mostPeace 82 = .ok (.iload_n 1, 1) := by decide +kernel
theorem dX3_mostPeace_83 : decode cX3_mostPeace 83 = .ok (.iaload, 1) := by decide +kernel
theorem dX3_mostPeace_84 : decode cX3_mostPeace 84 = .ok (.aload_n 0, 1) := by decide +kernel
theorem dX3_mostPeace_85 : decode cX3_mostPeace 85 = .ok (.getfield 44, 3) := by decide +kernel
theorem dX3_mostPeace_88 : decode cX3_mostPeace 88 = .ok (.iload 4, 2) := by decide +kernel
theorem dX3_mostPeace_90 : decode cX3_mostPeace 90 = .ok (.iaload, 1) := by decide +kernel
theorem dX3_mostPeace_91 : decode cX3_mostPeace 91 = .ok (.invokevirtual 124, 3) := by decide +kernel
theorem dX3_mostPeace_94 : decode cX3_mostPeace 94 = .ok (.iinc 4 1, 3) := by decide +kernel
theorem dX3_mostPeace_97 : decode cX3_mostPeace 97 = .ok (.goto (-62), 3) := by decide +kernel
theorem dX3_mostPeace_100 : decode cX3_mostPeace 100 = .ok (.iload_n 3, 1) := by decide +kernel
theorem dX3_mostPeace_101 : decode cX3_mostPeace 101 = .ok (.ireturn, 1) := by decide +kernel
theorem dX3_goesAsTold_0 : decode cX3_goesAsTold 0 = .ok (.iconst 0, 1) := by decide +kernel
theorem dX3_goesAsTold_1 : decode cX3_goesAsTold 1 = .ok (.istore_n 3, 1) := by decide +kernel
theorem dX3_goesAsTold_2 : decode cX3_goesAsTold 2 = .ok (.iload_n 3, 1) := by decide +kernel
theorem dX3_goesAsTold_3 : decode cX3_goesAsTold 3 = .ok (.aload_n 1, 1) := by decide +kernel
theorem dX3_goesAsTold_4 : decode cX3_goesAsTold 4 = .ok (.getfield 194, 3) := by decide +kernel
theorem dX3_goesAsTold_7 : decode cX3_goesAsTold 7 = .ok (.if_icmp .ge 39, 3) := by decide +kernel
theorem dX3_goesAsTold_10 : decode cX3_goesAsTold 10 = .ok (.aload_n 1, 1) := by decide +kernel
theorem dX3_goesAsTold_11 : decode cX3_goesAsTold 11 = .ok (.getfield 197, 3) := by decide +kernel
theorem dX3_goesAsTold_14 : decode cX3_goesAsTold 14 = .ok (.iload_n 3, 1) := by decide +kernel
theorem dX3_goesAsTold_15 : decode cX3_goesAsTold 15 = .ok (.laload, 1) := by decide +kernel
theorem dX3_goesAsTold_16 : decode cX3_goesAsTold 16 = .ok (.aload_n 0, 1) := by decide +kernel
theorem dX3_goesAsTold_17 : decode cX3_goesAsTold 17 = .ok (.getfield 16, 3) := by decide +kernel
theorem dX3_goesAsTold_20 : decode cX3_goesAsTold 20 = .ok (.getfield 96, 3) := by decide +kernel
theorem dX3_goesAsTold_23 : decode cX3_goesAsTold 23 = .ok (.iload_n 2, 1) := by decide +kernel
theorem dX3_goesAsTold_24 : decode cX3_goesAsTold 24 = .ok (.iaload, 1) := by decide +kernel
theorem dX3_goesAsTold_25 : decode cX3_goesAsTold 25 = .ok (.i2l, 1) := by decide +kernel
theorem dX3_goesAsTold_26 : decode cX3_goesAsTold 26 = .ok (.lcmp, 1) := by decide +kernel
theorem dX3_goesAsTold_27 : decode cX3_goesAsTold 27 = .ok (.ifCond .eq 5, 3) := by decide +kernel
theorem dX3_goesAsTold_30 : decode cX3_goesAsTold 30 = .ok (.iconst 0, 1) := by decide +kernel
theorem dX3_goesAsTold_31 : decode cX3_goesAsTold 31 = .ok (.ireturn, 1) := by decide +kernel
theorem dX3_goesAsTold_32 : decode cX3_goesAsTold 32 = .ok (.aload_n 0, 1) := by decide +kernel
theorem dX3_goesAsTold_33 : decode cX3_goesAsTold 33 = .ok (.getfield 16, 3) := by decide +kernel
theorem dX3_goesAsTold_36 : decode cX3_goesAsTold 36 = .ok (.invokevirtual 156, 3) := by decide +kernel
theorem dX3_goesAsTold_39 : decode cX3_goesAsTold 39 = .ok (.pop, 1) := by decide +kernel
theorem dX3_goesAsTold_40 : decode cX3_goesAsTold 40 = .ok (.iinc 3 1, 3) := by decide +kernel
theorem dX3_goesAsTold_43 : decode cX3_goesAsTold 43 = .ok (.goto (-41), 3) := by decide +kernel
theorem dX3_goesAsTold_46 : decode cX3_goesAsTold 46 = .ok (.iconst 1, 1) := by decide +kernel
theorem dX3_goesAsTold_47 : decode cX3_goesAsTold 47 = .ok (.ireturn, 1) := by decide +kernel
theorem dJ6_bitCount_0f7a4_0 : decode cJ6_bitCount_0f7a4 0 = .ok (.iload_n 0, 1) := by decide +kernel
theorem dJ6_bitCount_0f7a4_1 : decode cJ6_bitCount_0f7a4 1 = .ok (.iload_n 0, 1) := by decide +kernel
theorem dJ6_bitCount_0f7a4_2 : decode cJ6_bitCount_0f7a4 2 = .ok (.iconst 1, 1) := by decide +kernel
theorem dJ6_bitCount_0f7a4_3 : decode cJ6_bitCount_0f7a4 3 = .ok (.iushr, 1) := by decide +kernel
theorem dJ6_bitCount_0f7a4_4 : decode cJ6_bitCount_0f7a4 4 = .ok (.ldc_w 265, 3) := by decide +kernel
theorem dJ6_bitCount_0f7a4_7 : decode cJ6_bitCount_0f7a4 7 = .ok (.iand, 1) := by decide +kernel
theorem dJ6_bitCount_0f7a4_8 : decode cJ6_bitCount_0f7a4 8 = .ok (.isub, 1) := by decide +kernel
theorem dJ6_bitCount_0f7a4_9 : decode cJ6_bitCount_0f7a4 9 = .ok (.istore_n 0, 1) := by decide +kernel
theorem dJ6_bitCount_0f7a4_10 : decode cJ6_bitCount_0f7a4 10 = .ok (.iload_n 0, 1) := by decide +kernel
theorem dJ6_bitCount_0f7a4_11 : decode cJ6_bitCount_0f7a4 11 = .ok (.ldc_w 266, 3) := by decide +kernel
theorem dJ6_bitCount_0f7a4_14 : decode cJ6_bitCount_0f7a4 14 = .ok (.iand, 1) := by decide +kernel
theorem dJ6_bitCount_0f7a4_15 : decode cJ6_bitCount_0f7a4 15 = .ok (.iload_n 0, 1) := by decide +kernel
theorem dJ6_bitCount_0f7a4_16 : decode cJ6_bitCount_0f7a4 16 = .ok (.iconst 2, 1) := by decide +kernel
theorem dJ6_bitCount_0f7a4_17 : decode cJ6_bitCount_0f7a4 17 = .ok (.iushr, 1) := by decide +kernel
theorem dJ6_bitCount_0f7a4_18 : decode cJ6_bitCount_0f7a4 18 = .ok (.ldc_w 266, 3) := by decide +kernel
theorem dJ6_bitCount_0f7a4_21 : decode cJ6_bitCount_0f7a4 21 = .ok (.iand, 1) := by decide +kernel
theorem dJ6_bitCount_0f7a4_22 : decode cJ6_bitCount_0f7a4 22 = .ok (.iadd, 1) := by decide +kernel
theorem dJ6_bitCount_0f7a4_23 : decode cJ6_bitCount_0f7a4 23 = .ok (.istore_n 0, 1) := by decide +kernel
theorem dJ6_bitCount_0f7a4_24 : decode cJ6_bitCount_0f7a4 24 = .ok (.iload_n 0, 1) := by decide +kernel
theorem dJ6_bitCount_0f7a4_25 : decode cJ6_bitCount_0f7a4 25 = .ok (.iload_n 0, 1) := by decide +kernel
theorem dJ6_bitCount_0f7a4_26 : decode cJ6_bitCount_0f7a4 26 = .ok (.iconst 4, 1) := by decide +kernel
theorem dJ6_bitCount_0f7a4_27 : decode cJ6_bitCount_0f7a4 27 = .ok (.iushr, 1) := by decide +kernel
theorem dJ6_bitCount_0f7a4_28 : decode cJ6_bitCount_0f7a4 28 = .ok (.iadd, 1) := by decide +kernel
theorem dJ6_bitCount_0f7a4_29 : decode cJ6_bitCount_0f7a4 29 = .ok (.ldc_w 267, 3) := by decide +kernel
theorem dJ6_bitCount_0f7a4_32 : decode cJ6_bitCount_0f7a4 32 = .ok (.iand, 1) := by decide +kernel
theorem dJ6_bitCount_0f7a4_33 : decode cJ6_bitCount_0f7a4 33 = .ok (.istore_n 0, 1) := by decide +kernel
theorem dJ6_bitCount_0f7a4_34 : decode cJ6_bitCount_0f7a4 34 = .ok (.iload_n 0, 1) := by decide +kernel
theorem dJ6_bitCount_0f7a4_35 : decode cJ6_bitCount_0f7a4 35 = .ok (.iload_n 0, 1) := by decide +kernel
theorem dJ6_bitCount_0f7a4_36 : decode cJ6_bitCount_0f7a4 36 = .ok (.bipush 8, 2) := by decide +kernel
theorem dJ6_bitCount_0f7a4_38 : decode cJ6_bitCount_0f7a4 38 = .ok (.iushr, 1) := by decide +kernel
theorem dJ6_bitCount_0f7a4_39 : decode cJ6_bitCount_0f7a4 39 = .ok (.iadd, 1) := by decide +kernel
theorem dJ6_bitCount_0f7a4_40 : decode cJ6_bitCount_0f7a4 40 = .ok (.istore_n 0, 1) := by decide +kernel
theorem dJ6_bitCount_0f7a4_41 : decode cJ6_bitCount_0f7a4 41 = .ok (.iload_n 0, 1) := by decide +kernel
theorem dJ6_bitCount_0f7a4_42 : decode cJ6_bitCount_0f7a4 42 = .ok (.iload_n 0, 1) := by decide +kernel
theorem dJ6_bitCount_0f7a4_43 : decode cJ6_bitCount_0f7a4 43 = .ok (.bipush 16, 2) := by decide +kernel
theorem dJ6_bitCount_0f7a4_45 : decode cJ6_bitCount_0f7a4 45 = .ok (.iushr, 1) := by decide +kernel
theorem dJ6_bitCount_0f7a4_46 : decode cJ6_bitCount_0f7a4 46 = .ok (.iadd, 1) := by decide +kernel
theorem dJ6_bitCount_0f7a4_47 : decode cJ6_bitCount_0f7a4 47 = .ok (.istore_n 0, 1) := by decide +kernel
theorem dJ6_bitCount_0f7a4_48 : decode cJ6_bitCount_0f7a4 48 = .ok (.iload_n 0, 1) := by decide +kernel
theorem dJ6_bitCount_0f7a4_49 : decode cJ6_bitCount_0f7a4 49 = .ok (.bipush 63, 2) := by decide +kernel
theorem dJ6_bitCount_0f7a4_51 : decode cJ6_bitCount_0f7a4 51 = .ok (.iand, 1) := by decide +kernel
theorem dJ6_bitCount_0f7a4_52 : decode cJ6_bitCount_0f7a4 52 = .ok (.ireturn, 1) := by decide +kernel
theorem dJ9_max_7cf53_0 : decode cJ9_max_7cf53 0 = .ok (.iload_n 0, 1) := by decide +kernel
theorem dJ9_max_7cf53_1 : decode cJ9_max_7cf53 1 = .ok (.iload_n 1, 1) := by decide +kernel
theorem dJ9_max_7cf53_2 : decode cJ9_max_7cf53 2 = .ok (.if_icmp .lt 7, 3) := by decide +kernel
theorem dJ9_max_7cf53_5 : decode cJ9_max_7cf53 5 = .ok (.iload_n 0, 1) := by decide +kernel
theorem dJ9_max_7cf53_6 : decode cJ9_max_7cf53 6 = .ok (.goto 4, 3) := by decide +kernel
theorem dJ9_max_7cf53_9 : decode cJ9_max_7cf53 9 = .ok (.iload_n 1, 1) := by decide +kernel
theorem dJ9_max_7cf53_10 : decode cJ9_max_7cf53 10 = .ok (.ireturn, 1) := by decide +kernel
theorem dJ9_min_7cf53_0 : decode cJ9_min_7cf53 0 = .ok (.iload_n 0, 1) := by decide +kernel
theorem dJ9_min_7cf53_1 : decode cJ9_min_7cf53 1 = .ok (.iload_n 1, 1) := by decide +kernel
theorem dJ9_min_7cf53_2 : decode cJ9_min_7cf53 2 = .ok (.if_icmp .gt 7, 3) := by decide +kernel
theorem dJ9_min_7cf53_5 : decode cJ9_min_7cf53 5 = .ok (.iload_n 0, 1) := by decide +kernel
theorem dJ9_min_7cf53_6 : decode cJ9_min_7cf53 6 = .ok (.goto 4, 3) := by decide +kernel
theorem dJ9_min_7cf53_9 : decode cJ9_min_7cf53 9 = .ok (.iload_n 1, 1) := by decide +kernel
theorem dJ9_min_7cf53_10 : decode cJ9_min_7cf53 10 = .ok (.ireturn, 1) := by decide +kernel
theorem dJ0_length_8abf5_0 : decode cJ0_length_8abf5 0 = .ok (.aload_n 0, 1) := by decide +kernel
theorem dJ0_length_8abf5_1 : decode cJ0_length_8abf5 1 = .ok (.getfield 9, 3) := by decide +kernel
theorem dJ0_length_8abf5_4 : decode cJ0_length_8abf5 4 = .ok (.arraylength, 1) := by decide +kernel
theorem dJ0_length_8abf5_5 : decode cJ0_length_8abf5 5 = .ok (.aload_n 0, 1) := by decide +kernel
theorem dJ0_length_8abf5_6 : decode cJ0_length_8abf5 6 = .ok (.invokevirtual 335, 3) := by decide +kernel
theorem dJ0_length_8abf5_9 : decode cJ0_length_8abf5 9 = .ok (.ishr, 1) := by decide +kernel
theorem dJ0_length_8abf5_10 : decode cJ0_length_8abf5 10 = .ok (.ireturn, 1) := by decide +kernel
theorem dJ0_charAt_5068e_0 : decode cJ0_charAt_5068e 0 = .ok (.aload_n 0, 1) := by decide +kernel
theorem dJ0_charAt_5068e_1 : decode cJ0_charAt_5068e 1 = .ok (.invokevirtual 492, 3) := by decide +kernel
theorem dJ0_charAt_5068e_4 : decode cJ0_charAt_5068e 4 = .ok (.ifCond .eq 12, 3) := by decide +kernel
theorem dJ0_charAt_5068e_7 : decode cJ0_charAt_5068e 7 = .ok (.aload_n 0, 1) := by decide +kernel
theorem dJ0_charAt_5068e_8 : decode cJ0_charAt_5068e 8 = .ok (.getfield 9, 3) := by decide +kernel
theorem dJ0_charAt_5068e_11 : decode cJ0_charAt_5068e 11 = .ok (.iload_n 1, 1) := by decide +kernel
theorem dJ0_charAt_5068e_12 : decode cJ0_charAt_5068e 12 = .ok (.invokestatic 495, 3) := by decide +kernel
theorem dJ0_charAt_5068e_15 : decode cJ0_charAt_5068e 15 = .ok (.ireturn, 1) := by decide +kernel
theorem dJ0_charAt_5068e_16 : decode cJ0_charAt_5068e 16 = .ok (.aload_n 0, 1) := by decide +kernel
theorem dJ0_charAt_5068e_17 : decode cJ0_charAt_5068e 17 = .ok (.getfield 9, 3) := by decide +kernel
theorem dJ0_charAt_5068e_20 : decode cJ0_charAt_5068e 20 = .ok (.iload_n 1, 1) := by decide +kernel
theorem dJ0_charAt_5068e_21 : decode cJ0_charAt_5068e 21 = .ok (.invokestatic 498, 3) := by decide +kernel
theorem dJ0_charAt_5068e_24 : decode cJ0_charAt_5068e 24 = .ok (.ireturn, 1) := by decide +kernel
theorem dJ0_coder_7d493_0 : decode cJ0_coder_7d493 0 = .ok (.getstatic 38, 3) := by decide +kernel
theorem dJ0_coder_7d493_3 : decode cJ0_coder_7d493 3 = .ok (.ifCond .eq 10, 3) := by decide +kernel
theorem dJ0_coder_7d493_6 : decode cJ0_coder_7d493 6 = .ok (.aload_n 0, 1) := by decide +kernel
theorem dJ0_coder_7d493_7 : decode cJ0_coder_7d493 7 = .ok (.getfield 15, 3) := by decide +kernel
theorem dJ0_coder_7d493_10 : decode cJ0_coder_7d493 10 = .ok (.goto 4, 3) := by decide +kernel
theorem dJ0_coder_7d493_13 : decode cJ0_coder_7d493 13 = .ok (.iconst 1, 1) := by decide +kernel
theorem dJ0_coder_7d493_14 : decode cJ0_coder_7d493 14 = .ok (.ireturn, 1) := by decide +kernel
theorem dJ0_isLatin1_aae02_0 : decode cJ0_isLatin1_aae02 0 = .ok (.getstatic 38, 3) := by decide +kernel
theorem dJ0_isLatin1_aae02_3 : decode cJ0_isLatin1_aae02 3 = .ok (.ifCond .eq 14, 3) := by decide +kernel
theorem dJ0_isLatin1_aae02_6 : decode cJ0_isLatin1_aae02 6 = .ok (.aload_n 0, 1) := by decide +kernel
theorem dJ0_isLatin1_aae02_7 : decode cJ0_isLatin1_aae02 7 = .ok (.getfield 15, 3) := by decide +kernel
theorem dJ0_isLatin1_aae02_10 : decode cJ0_isLatin1_aae02 10 = .ok (.ifCond .ne 7, 3) := by decide +kernel
theorem dJ0_isLatin1_aae02_13 : decode cJ0_isLatin1_aae02 13 = .ok (.iconst 1, 1) := by decide +kernel
theorem dJ0_isLatin1_aae02_14 : decode cJ0_isLatin1_aae02 14 = .ok (.goto 4, 3) := by decide +kernel
theorem dJ0_isLatin1_aae02_17 : decode cJ0_isLatin1_aae02 17 = .ok (.iconst 0, 1) := by decide +kernel
theorem dJ0_isLatin1_aae02_18 : decode cJ0_isLatin1_aae02 18 = .ok (.ireturn, 1) := by decide +kernel
theorem dJ0_checkIndex_df160_0 : decode cJ0_checkIndex_df160 0 = .ok (.iload_n 0, 1) := by decide +kernel
theorem dJ0_checkIndex_df160_1 : decode cJ0_checkIndex_df160 1 = .ok (.iload_n 1, 1) := by decide +kernel
theorem dJ0_checkIndex_df160_2 : decode cJ0_checkIndex_df160 2 = .ok (.getstatic 1053, 3) := by decide +kernel
theorem dJ0_checkIndex_df160_5 : decode cJ0_checkIndex_df160 5 = .ok (.invokestatic 1059, 3) := by decide +kernel
theorem dJ0_checkIndex_df160_8 : decode cJ0_checkIndex_df160 8 = .ok (.pop, 1) := by decide +kernel
theorem dJ0_checkIndex_df160_9 : decode cJ0_checkIndex_df160 9 = .ok (.return_, 1) := by decide +kernel
theorem dJ1_charAt_3b067_0 : decode cJ1_charAt_3b067 0 = .ok (.iload_n 1, 1) := by decide +kernel
theorem dJ1_charAt_3b067_1 : decode cJ1_charAt_3b067 1 = .ok (.aload_n 0, 1) := by decide +kernel
theorem dJ1_charAt_3b067_2 : decode cJ1_charAt_3b067 2 = .ok (.arraylength, 1) := by decide +kernel
theorem dJ1_charAt_3b067_3 : decode cJ1_charAt_3b067 3 = .ok (.invokestatic 9, 3) := by decide +kernel
theorem dJ1_charAt_3b067_6 : decode cJ1_charAt_3b067 6 = .ok (.aload_n 0, 1) := by decide +kernel
theorem dJ1_charAt_3b067_7 : decode cJ1_charAt_3b067 7 = .ok (.iload_n 1, 1) := by decide +kernel
theorem dJ1_charAt_3b067_8 : decode cJ1_charAt_3b067 8 = .ok (.baload, 1) := by decide +kernel
theorem dJ1_charAt_3b067_9 : decode cJ1_charAt_3b067 9 = .ok (.sipush 255, 3) := by decide +kernel
theorem dJ1_charAt_3b067_12 : decode cJ1_charAt_3b067 12 = .ok (.iand, 1) := by decide +kernel
theorem dJ1_charAt_3b067_13 : decode cJ1_charAt_3b067 13 = .ok (.i2c, 1) := by decide +kernel
theorem dJ1_charAt_3b067_14 : decode cJ1_charAt_3b067 14 = .ok (.ireturn, 1) := by decide +kernel
theorem dJ2_getChar_3b067_0 : decode cJ2_getChar_3b067 0 = .ok (.getstatic 44, 3) := by decide +kernel
theorem dJ2_getChar_3b067_3 : decode cJ2_getChar_3b067 3 = .ok (.ifCond .ne 25, 3) := by decide +kernel
theorem dJ2_getChar_3b067_6 : decode cJ2_getChar_3b067 6 = .ok (.iload_n 1, 1) := by decide +kernel
theorem dJ2_getChar_3b067_7 : decode cJ2_getChar_3b067 7 = .ok (.ifCond .lt 11, 3) := by decide +kernel
theorem dJ2_getChar_3b067_10 : decode cJ2_getChar_3b067 10 = .ok (.iload_n 1, 1) := by decide +kernel
theorem dJ2_getChar_3b067_11 : decode cJ2_getChar_3b067 11 = .ok (.aload_n 0, 1) := by decide +kernel
theorem dJ2_getChar_3b067_12 : decode cJ2_getChar_3b067 12 = .ok (.invokestatic 48, 3) := by decide +kernel
theorem dJ2_getChar_3b067_15 : decode cJ2_getChar_3b067 15 = .ok (.if_icmp .lt 13, 3) := by decide +kernel
theorem dJ2_getChar_3b067_18 : decode cJ2_getChar_3b067 18 = .ok (.new 52, 3) := by decide +kernel
theorem dJ2_getChar_3b067_21 : decode cJ2_getChar_3b067 21 = .ok (.dup, 1) := by decide +kernel
theorem dJ2_getChar_3b067_22 : decode cJ2_getChar_3b067 22 = .ok (.ldc 54, 2) := by decide +kernel
theorem dJ2_getChar_3b067_24 : decode cJ2_getChar_3b067 24 = .ok (.invokespecial 56, 3) := by decide +kernel
theorem dJ2_getChar_3b067_27 : decode cJ2_getChar_3b067 27 = .ok (.athrow, 1) := by decide +kernel
theorem dJ2_getChar_3b067_28 : decode cJ2_getChar_3b067 28 = .ok (.iload_n 1, 1) := by decide +kernel
theorem dJ2_getChar_3b067_29 : decode cJ2_getChar_3b067 29 = .ok (.iconst 1, 1) := by decide +kernel
theorem dJ2_getChar_3b067_30 : decode cJ2_getChar_3b067 30 = .ok (.ishl, 1) := by decide +kernel
theorem dJ2_getChar_3b067_31 : decode cJ2_getChar_3b067 31 = .ok (.istore_n 1, 1) := by decide +kernel
theorem dJ2_getChar_3b067_32 : decode cJ2_getChar_3b067 32 = .ok (.aload_n 0, 1) := by decide +kernel
theorem dJ2_getChar_3b067_33 : decode cJ2_getChar_3b067 33 = .ok (.iload_n 1, 1) := by decide +kernel
theorem dJ2_getChar_3b067_34 : decode cJ2_getChar_3b067 34 = .ok (.iinc 1 1, 3) := by decide +kernel
theorem dJ2_getChar_3b067_37 : decode cJ2_getChar_3b067 37 = .ok (.baload, 1) := by decide +kernel
theorem dJ2_getChar_3b067_38 : decode cJ2_getChar_3b067 38 = .ok (.sipush 255, 3) := by decide +kernel
theorem dJ2_getChar_3b067_41 : decode cJ2_getChar_3b067 41 = .ok (.iand, 1) := by decide +kernel
theorem dJ2_getChar_3b067_42 : decode cJ2_getChar_3b067 42 = .ok (.getstatic 59, 3) := by decide +kernel
theorem dJ2_getChar_3b067_45 : decode cJ2_getChar_3b067 45 = .ok (.ishl, 1) := by decide +kernel
theorem dJ2_getChar_3b067_46 : decode cJ2_getChar_3b067 46 = .ok (.aload_n 0, 1) := by decide +kernel
theorem dJ2_getChar_3b067_47 : decode cJ2_getChar_3b067 47 = .ok (.iload_n 1, 1) := by decide +kernel
theorem dJ2_getChar_3b067_48 : decode cJ2_getChar_3b067 48 = .ok (.baload, 1) := by decide +kernel
theorem dJ2_getChar_3b067_49 : decode cJ2_getChar_3b067 49 = .ok (.sipush 255, 3) := by decide +kernel
theorem dJ2_getChar_3b067_52 : decode cJ2_getChar_3b067 52 = .ok (.iand, 1) := by decide +kernel
theorem dJ2_getChar_3b067_53 : decode cJ2_getChar_3b067 53 = .ok (.getstatic 63, 3) := by decide +kernel
theorem dJ2_getChar_3b067_56 : decode cJ2_getChar_3b067 56 = .ok (.ishl, 1) := by decide +kernel
theorem dJ2_getChar_3b067_57 : decode cJ2_getChar_3b067 57 = .ok (.ior, 1) := by decide +kernel
theorem dJ2_getChar_3b067_58 : decode cJ2_getChar_3b067 58 = .ok (.i2c, 1) := by decide +kernel
theorem dJ2_getChar_3b067_59 : decode cJ2_getChar_3b067 59 = .ok (.ireturn, 1) := by decide +kernel
theorem dJ2_length_9d52b_0 : decode cJ2_length_9d52b 0 = .ok (.aload_n 0, 1) := by decide +kernel
theorem dJ2_length_9d52b_1 : decode cJ2_length_9d52b 1 = .ok (.arraylength, 1) := by decide +kernel
theorem dJ2_length_9d52b_2 : decode cJ2_length_9d52b 2 = .ok (.iconst 1, 1) := by decide +kernel
theorem dJ2_length_9d52b_3 : decode cJ2_length_9d52b 3 = .ok (.ishr, 1) := by decide +kernel
theorem dJ2_length_9d52b_4 : decode cJ2_length_9d52b 4 = .ok (.ireturn, 1) := by decide +kernel
theorem dJ2_charAt_3b067_0 : decode cJ2_charAt_3b067 0 = .ok (.iload_n 1, 1) := by decide +kernel
theorem dJ2_charAt_3b067_1 : decode cJ2_charAt_3b067 1 = .ok (.aload_n 0, 1) := by decide +kernel
theorem dJ2_charAt_3b067_2 : decode cJ2_charAt_3b067 2 = .ok (.invokestatic 67, 3) := by decide +kernel
theorem dJ2_charAt_3b067_5 : decode cJ2_charAt_3b067 5 = .ok (.aload_n 0, 1) := by decide +kernel
theorem dJ2_charAt_3b067_6 : decode cJ2_charAt_3b067 6 = .ok (.iload_n 1, 1) := by decide +kernel
theorem dJ2_charAt_3b067_7 : decode cJ2_charAt_3b067 7 = .ok (.invokestatic 71, 3) := by decide +kernel
theorem dJ2_charAt_3b067_10 : decode cJ2_charAt_3b067 10 = .ok (.ireturn, 1) := by decide +kernel
theorem dJ2_checkIndex_2214a_0 : decode cJ2_checkIndex_2214a 0 = .ok (.iload_n 0, 1) := by decide +kernel
theorem dJ2_checkIndex_2214a_1 : decode cJ2_checkIndex_2214a 1 = .ok (.aload_n 1, 1) := by decide +kernel
theorem dJ2_checkIndex_2214a_2 : decode cJ2_checkIndex_2214a 2 = .ok (.invokestatic 48, 3) := by decide +kernel
theorem dJ2_checkIndex_2214a_5 : decode cJ2_checkIndex_2214a 5 = .ok (.invokestatic 414, 3) := by decide +kernel
theorem dJ2_checkIndex_2214a_8 : decode cJ2_checkIndex_2214a 8 = .ok (.return_, 1) := by decide +kernel
theorem dJ7_fill_d0a16_0 : decode cJ7_fill_d0a16 0 = .ok (.iconst 0, 1) := by decide +kernel
theorem dJ7_fill_d0a16_1 : decode cJ7_fill_d0a16 1 = .ok (.istore_n 3, 1) := by decide +kernel
theorem dJ7_fill_d0a16_2 : decode cJ7_fill_d0a16 2 = .ok (.aload_n 0, 1) := by decide +kernel
theorem dJ7_fill_d0a16_3 : decode cJ7_fill_d0a16 3 = .ok (.arraylength, 1) := by decide +kernel
theorem dJ7_fill_d0a16_4 : decode cJ7_fill_d0a16 4 = .ok (.istore 4, 2) := by decide +kernel
theorem dJ7_fill_d0a16_6 : decode cJ7_fill_d0a16 6 = .ok (.iload_n 3, 1) := by decide +kernel
theorem dJ7_fill_d0a16_7 : decode cJ7_fill_d0a16 7 = .ok (.iload 4, 2) := by decide +kernel
theorem dJ7_fill_d0a16_9 : decode cJ7_fill_d0a16 9 = .ok (.if_icmp .ge 13, 3) := by decide +kernel
theorem dJ7_fill_d0a16_12 : decode cJ7_fill_d0a16 12 = .ok (.aload_n 0, 1) := by decide +kernel
theorem dJ7_fill_d0a16_13 : decode cJ7_fill_d0a16 13 = .ok (.iload_n 3, 1) := by decide +kernel
theorem dJ7_fill_d0a16_14 : decode cJ7_fill_d0a16 14 = .ok (.lload_n 1, 1) := by decide +kernel
theorem dJ7_fill_d0a16_15 : decode cJ7_fill_d0a16 15 = .ok (.lastore, 1) := by decide +kernel
theorem dJ7_fill_d0a16_16 : decode cJ7_fill_d0a16 16 = .ok (.iinc 3 1, 3) := by decide +kernel
theorem dJ7_fill_d0a16_19 : decode cJ7_fill_d0a16 19 = .ok (.goto (-13), 3) := by decide +kernel
theorem dJ7_fill_d0a16_22 : decode cJ7_fill_d0a16 22 = .ok (.return_, 1) := by decide +kernel
theorem dJ7_fill_53178_0 : decode cJ7_fill_53178 0 = .ok (.iconst 0, 1) := by decide +kernel
theorem dJ7_fill_53178_1 : decode cJ7_fill_53178 1 = .ok (.istore_n 2, 1) := by decide +kernel
theorem dJ7_fill_53178_2 : decode cJ7_fill_53178 2 = .ok (.aload_n 0, 1) := by decide +kernel
theorem dJ7_fill_53178_3 : decode cJ7_fill_53178 3 = .ok (.arraylength, 1) := by decide +kernel
theorem dJ7_fill_53178_4 : decode cJ7_fill_53178 4 = .ok (.istore_n 3, 1) := by decide +kernel
theorem dJ7_fill_53178_5 : decode cJ7_fill_53178 5 = .ok (.iload_n 2, 1) := by decide +kernel
theorem dJ7_fill_53178_6 : decode cJ7_fill_53178 6 = .ok (.iload_n 3, 1) := by decide +kernel
theorem dJ7_fill_53178_7 : decode cJ7_fill_53178 7 = .ok (.if_icmp .ge 13, 3) := by decide +kernel
theorem dJ7_fill_53178_10 : decode cJ7_fill_53178 10 = .ok (.aload_n 0, 1) := by decide +kernel
theorem dJ7_fill_53178_11 : decode cJ7_fill_53178 11 = .ok (.iload_n 2, 1) := by decide +kernel
theorem dJ7_fill_53178_12 : decode cJ7_fill_53178 12 = .ok (.iload_n 1, 1) := by decide +kernel
theorem dJ7_fill_53178_13 : decode cJ7_fill_53178 13 = .ok (.iastore, 1) := by decide +kernel
theorem dJ7_fill_53178_14 : decode cJ7_fill_53178 14 = .ok (.iinc 2 1, 3) := by decide +kernel
theorem dJ7_fill_53178_17 : decode cJ7_fill_53178 17 = .ok (.goto (-12), 3) := by decide +kernel
theorem dJ7_fill_53178_20 : decode cJ7_fill_53178 20 = .ok (.return_, 1) := by decide +kernel
theorem dJ3_checkIndex_8e157_0 : decode cJ3_checkIndex_8e157 0 = .ok (.iload_n 0, 1) := by decide +kernel
theorem dJ3_checkIndex_8e157_1 : decode cJ3_checkIndex_8e157 1 = .ok (.ifCond .lt 8, 3) := by decide +kernel
theorem dJ3_checkIndex_8e157_4 : decode cJ3_checkIndex_8e157 4 = .ok (.iload_n 0, 1) := by decide +kernel
theorem dJ3_checkIndex_8e157_5 : decode cJ3_checkIndex_8e157 5 = .ok (.iload_n 1, 1) := by decide +kernel
theorem dJ3_checkIndex_8e157_6 : decode cJ3_checkIndex_8e157 6 = .ok (.if_icmp .lt 10, 3) := by decide +kernel
theorem dJ3_checkIndex_8e157_9 : decode cJ3_checkIndex_8e157 9 = .ok (.aload_n 2, 1) := by decide +kernel
theorem dJ3_checkIndex_8e157_10 : decode cJ3_checkIndex_8e157 10 = .ok (.iload_n 0, 1) := by decide +kernel
theorem dJ3_checkIndex_8e157_11 : decode cJ3_checkIndex_8e157 11 = .ok (.iload_n 1, 1) := by decide +kernel
theorem dJ3_checkIndex_8e157_12 : decode cJ3_checkIndex_8e157 12 = .ok (.invokestatic 95, 3) := by decide +kernel
theorem dJ3_checkIndex_8e157_15 : decode cJ3_checkIndex_8e157 15 = .ok (.athrow, 1) := by decide +kernel
theorem dJ3_checkIndex_8e157_16 : decode cJ3_checkIndex_8e157 16 = .ok (.iload_n 0, 1) := by decide +kernel
theorem dJ3_checkIndex_8e157_17 : decode cJ3_checkIndex_8e157 17 = .ok (.ireturn, 1) := by decide +kernel
end
section
theorem dX4_init_0 : decode cX4_init 0 = .ok (.aload_n 0, 1) := by decide +kernel
theorem dX4_init_1 : decode cX4_init 1 = .ok (.invokespecial 1, 3) := by decide +kernel
theorem dX4_init_4 : decode cX4_init 4 = .ok (.aload_n 0, 1) := by decide +kernel
theorem dX4_init_5 : decode cX4_init 5 = .ok (.bipush 66, 2) := by decide +kernel
theorem dX4_init_7 : decode cX4_init 7 = .ok (.newarray .int, 2) := by decide +kernel
theorem dX4_init_9 : decode cX4_init 9 = .ok (.putfield 7, 3) := by decide +kernel
theorem dX4_init_12 : decode cX4_init 12 = .ok (.aload_n 0, 1) := by decide +kernel
theorem dX4_init_13 : decode cX4_init 13 = .ok (.bipush 66, 2) := by decide +kernel
theorem dX4_init_15 : decode cX4_init 15 = .ok (.newarray .int, 2) := by decide +kernel
theorem dX4_init_17 : decode cX4_init 17 = .ok (.putfield 13, 3) := by decide +kernel
theorem dX4_init_20 : decode cX4_init 20 = .ok (.aload_n 0, 1) := by decide +kernel
theorem dX4_init_21 : decode cX4_init 21 = .ok (.bipush 66, 2) := by decide +kernel
theorem dX4_init_23 : decode cX4_init 23 = .ok (.newarray .int, 2) := by decide +kernel
theorem dX4_init_25 : decode cX4_init 25 = .ok (.putfield 16, 3) := by decide +kernel
theorem dX4_init_28 : decode cX4_init 28 = .ok (.aload_n 0, 1) := by decide +kernel
theorem dX4_init_29 : decode cX4_init 29 = .ok (.bipush 66, 2) := by decide +kernel
theorem dX4_init_31 : decode cX4_init 31 = .ok (.newarray .int, 2) := by decide +kernel
theorem dX4_init_33 : decode cX4_init 33 = .ok (.putfield 19, 3) := by decide +kernel
theorem dX4_init_36 : decode cX4_init 36 = .ok (.aload_n 0, 1) := by decide +kernel
theorem dX4_init_37 : decode cX4_init 37 = .ok (.bipush 7, 2) := by decide +kernel
theorem dX4_init_39 : decode cX4_init 39 = .ok (.newarray .int, 2) := by decide +kernel
theorem dX4_init_41 : decode cX4_init 41 = .ok (.putfield 22, 3) := by decide +kernel
theorem dX4_init_44 : decode cX4_init 44 = .ok (.aload_n 0, 1) := by decide +kernel
theorem dX4_init_45 : decode cX4_init 45 = .ok (.bipush 8, 2) := by decide +kernel
theorem dX4_init_47 : decode cX4_init 47 = .ok (.newarray .int, 2) := by decide +kernel
theorem dX4_init_49 : decode cX4_init 49 = .ok (.putfield 25, 3) := by decide +kernel
theorem dX4_init_52 : decode cX4_init 52 = .ok (.aload_n 0, 1) := by decide +kernel
theorem dX4_init_53 : decode cX4_init 53 = .ok (.bipush 120, 2) := by decide +kernel
theorem dX4_init_55 : decode cX4_init 55 = .ok (.newarray .int, 2) := by decide +kernel
theorem dX4_init_57 : decode cX4_init 57 = .ok (.putfield 28, 3) := by decide +kernel
theorem dX4_init_60 : decode cX4_init 60 = .ok (.aload_n 0, 1) := by decide +kernel
theorem dX4_init_61 : decode cX4_init 61 = .ok (.iconst 4, 1) := by decide +kernel
theorem dX4_init_62 : decode cX4_init 62 = .ok (.newarray .int, 2) := by decide +kernel
theorem dX4_init_64 : decode cX4_init 64 = .ok (.putfield 31, 3) := by decide +kernel
theorem dX4_init_67 : decode cX4_init 67 = .ok (.aload_n 0, 1) := by decide +kernel
theorem dX4_init_68 : decode cX4_init 68 = .ok (.iconst 4, 1) := by decide +kernel
theorem dX4_init_69 : decode cX4_init 69 = .ok (.newarray .int, 2) := by decide +kernel
theorem dX4_init_71 : decode cX4_init 71 = .ok (.putfield 34, 3) := by decide +kernel
theorem dX4_init_74 : decode cX4_init 74 = .ok (.aload_n 0, 1) := by decide +kernel
theorem dX4_init_75 : decode cX4_init 75 = .ok (.sipush 160, 3) := by decide +kernel
theorem dX4_init_78 : decode cX4_init 78 = .ok (.newarray .long, 2) := by decide +kernel
theorem dX4_init_80 : decode cX4_init 80 = .ok (.putfield 37, 3) := by decide +kernel
theorem dX4_init_83 : decode cX4_init 83 = .ok (.aload_n 0, 1) := by decide +kernel
theorem dX4_init_84 : decode cX4_init 84 = .ok (.bipush 40, 2) := by decide +kernel
theorem dX4_init_86 : decode cX4_init 86 = .ok (.newarray .long, 2) := by decide +kernel
theorem dX4_init_88 : decode cX4_init 88 = .ok (.putfield 41, 3) := by decide +kernel
theorem dX4_init_91 : decode cX4_init 91 = .ok (.iconst 0, 1) := by decide +kernel
theorem dX4_init_92 : decode cX4_init 92 = .ok (.istore_n 1, 1) := by decide +kernel
theorem dX4_init_93 : decode cX4_init 93 = .ok (.iload_n 1, 1) := by decide +kernel
theorem dX4_init_94 : decode cX4_init 94 = .ok (.bipush 8, 2) := by decide +kernel
theorem dX4_init_96 : decode cX4_init 96 = .ok (.if_icmp .ge 40, 3) := by decide +kernel
theorem dX4_init_99 : decode cX4_init 99 = .ok (.aload_n 0, 1) := by decide +kernel
theorem dX4_init_100 : decode cX4_init 100 = .ok (.getfield 7, 3) := by decide +kernel
theorem dX4_init_103 : decode cX4_init 103 = .ok (.iload_n 1, 1) := by decide +kernel
theorem dX4_init_104 : decode cX4_init 104 = .ok (.iconst 0, 1) := by decide +kernel
theorem dX4_init_105 : decode cX4_init 105 = .ok (.invokestatic 44, 3) := by decide +kernel
theorem dX4_init_108 : decode cX4_init 108 = .ok (.iload_n 1, 1) := by decide +kernel
theorem dX4_init_109 : decode cX4_init 109 = .ok (.ifCond .ne 8, 3) := by decide +kernel
theorem dX4_init_112 : decode cX4_init 112 = .ok (.bipush 15, 2) := by decide +kernel
theorem dX4_init_114 : decode cX4_init 114 = .ok (.goto 4, 3) := by decide +kernel
theorem dX4_init_117 : decode cX4_init 117 = .ok (.iconst 3, 1) := by decide +kernel
theorem dX4_init_118 : decode cX4_init 118 = .ok (.iastore, 1) := by decide +kernel
theorem dX4_init_119 : decode cX4_init 119 = .ok (.aload_n 0, 1) := by decide +kernel
theorem dX4_init_120 : decode cX4_init 120 = .ok (.getfield 7, 3) := by decide +kernel
theorem dX4_init_123 : decode cX4_init 123 = .ok (.iload_n 1, 1) := by decide +kernel
theorem dX4_init_124 : decode cX4_init 124 = .ok (.iconst 1, 1) := by decide +kernel
theorem dX4_init_125 : decode cX4_init 125 = .ok (.invokestatic 44, 3) := by decide +kernel
theorem dX4_init_128 : decode cX4_init 128 = .ok (.iconst 1, 1) := by decide +kernel
theorem dX4_init_129 : decode cX4_init 129 = .ok (.iastore, 1) := by decide +kernel
theorem dX4_init_130 : decode cX4_init 130 = .ok (.iinc 1 1, 3) := by decide +kernel
theorem dX4_init_133 : decode cX4_init 133 = .ok (.goto (-40), 3) := by decide +kernel
theorem dX4_init_136 : decode cX4_init 136 = .ok (.return_, 1) := by decide +kernel
theorem dX4_in_0 : decode cX4_in 0 = .ok (.lload_n 0, 1) := by decide +kernel
theorem dX4_in_1 : decode cX4_in 1 = .ok (.lload_n 2, 1) := by decide +kernel
theorem dX4_in_2 : decode cX4_in 2 = .ok (.lcmp, 1) := by decide +kernel
theorem dX4_in_3 : decode cX4_in 3 = .ok (.ifCond .lt 14, 3) := by decide +kernel
theorem dX4_in_6 : decode cX4_in 6 = .ok (.lload_n 0, 1) := by decide +kernel
theorem dX4_in_7 : decode cX4_in 7 = .ok (.lload 4, 2) := by decide +kernel
theorem dX4_in_9 : decode cX4_in 9 = .ok (.lcmp, 1) := by decide +kernel
theorem dX4_in_10 : decode cX4_in 10 = .ok (.ifCond .gt 7, 3) := by decide +kernel
theorem dX4_in_13 : decode cX4_in 13 = .ok (.iconst 1, 1) := by decide +kernel
theorem dX4_in_14 : decode cX4_in 14 = .ok (.goto 4, 3) := by decide +kernel
theorem dX4_in_17 : decode cX4_in 17 = .ok (.iconst 0, 1) := by decide +kernel
theorem dX4_in_18 : decode cX4_in 18 = .ok (.ireturn, 1) := by decide +kernel
theorem dX4_finds_0 : decode cX4_finds 0 = .ok (.aload_n 0, 1) := by decide +kernel
theorem dX4_finds_1 : decode cX4_finds 1 = .ok (.getfield 22, 3) := by decide +kernel
theorem dX4_finds_4 : decode cX4_finds 4 = .ok (.ldc 48, 2) := by decide +kernel
theorem dX4_finds_6 : decode cX4_finds 6 = .ok (.iload_n 1, 1) := by decide +kernel
theorem dX4_finds_7 : decode cX4_finds 7 = .ok (.isub, 1) := by decide +kernel
theorem dX4_finds_8 : decode cX4_finds 8 = .ok (.dup2, 1) := by decide +kernel
theorem dX4_finds_9 : decode cX4_finds 9 = .ok (.iaload, 1) := by decide +kernel
theorem dX4_finds_10 : decode cX4_finds 10 = .ok (.iconst 1, 1) := by decide +kernel
theorem dX4_finds_11 : decode cX4_finds 11 = .ok (.iadd, 1) := by decide +kernel
theorem dX4_finds_12 : decode cX4_finds 12 = .ok (.iastore, 1) := by decide +kernel
theorem dX4_finds_13 : decode cX4_finds 13 = .ok (.iload_n 1, 1) := by decide +kernel
theorem dX4_finds_14 : decode cX4_finds 14 = .ok (.ireturn, 1) := by decide +kernel
theorem dX4_saves_0 : decode cX4_saves 0 = .ok (.iconst 0, 1) := by decide +kernel
theorem dX4_saves_1 : decode cX4_saves 1 = .ok (.istore_n 1, 1) := by decide +kernel
theorem dX4_saves_2 : decode cX4_saves 2 = .ok (.iload_n 1, 1) := by decide +kernel
theorem dX4_saves_3 : decode cX4_saves 3 = .ok (.bipush 66, 2) := by decide +kernel
theorem dX4_saves_5 : decode cX4_saves 5 = .ok (.if_icmp .ge 21, 3) := by decide +kernel
theorem dX4_saves_8 : decode cX4_saves 8 = .ok (.aload_n 0, 1) := by decide +kernel
theorem dX4_saves_9 : decode cX4_saves 9 = .ok (.getfield 16, 3) := by decide +kernel
theorem dX4_saves_12 : decode cX4_saves 12 = .ok (.iload_n 1, 1) := by decide +kernel
theorem dX4_saves_13 : decode cX4_saves 13 = .ok (.aload_n 0, 1) := by decide +kernel
theorem dX4_saves_14 : decode cX4_saves 14 = .ok (.getfield 7, 3) := by decide +kernel
theorem dX4_saves_17 : decode cX4_saves 17 = .ok (.iload_n 1, 1) := by decide +kernel
theorem dX4_saves_18 : decode cX4_saves 18 = .ok (.iaload, 1) := by decide +kernel
theorem dX4_saves_19 : decode cX4_saves 19 = .ok (.iastore, 1) := by decide +kernel
theorem dX4_saves_20 : decode cX4_saves 20 = .ok (.iinc 1 1, 3) := by decide +kernel
theorem dX4_saves_23 : decode cX4_saves 23 = .ok (.goto (-21), 3) := by decide +kernel
theorem dX4_saves_26 : decode cX4_saves 26 = .ok (.return_, 1) := by decide +kernel
theorem dX4_putsBack_0 : decode cX4_putsBack 0 = .ok (.iconst 0, 1) := by decide +kernel
theorem dX4_putsBack_1 : decode cX4_putsBack 1 = .ok (.istore_n 1, 1) := by decide +kernel
theorem dX4_putsBack_2 : decode cX4_putsBack 2 = .ok (.iload_n 1, 1) := by decide +kernel
theorem dX4_putsBack_3 : decode cX4_putsBack 3 = .ok (.bipush 66, 2) := by decide +kernel
theorem dX4_putsBack_5 : decode cX4_putsBack 5 = .ok (.if_icmp .ge 21, 3) := by decide +kernel
theorem dX4_putsBack_8 : decode cX4_putsBack 8 = .ok (.aload_n 0, 1) := by decide +kernel
theorem dX4_putsBack_9 : decode cX4_putsBack 9 = .ok (.getfield 7, 3) := by decide +kernel
theorem dX4_putsBack_12 : decode cX4_putsBack 12 = .ok (.iload_n 1, 1) := by decide +kernel
theorem dX4_putsBack_13 : decode cX4_putsBack 13 = .ok (.aload_n 0, 1) := by decide +kernel
theorem dX4_putsBack_14 : decode cX4_putsBack 14 = .ok (.getfield 16, 3) := by decide +kernel
theorem dX4_putsBack_17 : decode cX4_putsBack 17 = .ok (.iload_n 1, 1) := by decide +kernel
theorem dX4_putsBack_18 : decode cX4_putsBack 18 = .ok (.iaload, 1) := by decide +kernel
theorem dX4_putsBack_19 : decode cX4_putsBack 19 = .ok (.iastore, 1) := by decide +kernel
theorem dX4_putsBack_20 : decode cX4_putsBack 20 = .ok (.iinc 1 1, 3) := by decide +kernel
theorem dX4_putsBack_23 : decode cX4_putsBack 23 = .ok (.goto (-21), 3) := by decide +kernel
theorem dX4_putsBack_26 : decode cX4_putsBack 26 = .ok (.return_, 1) := by decide +kernel
theorem dX4_laysAside_0 : decode cX4_laysAside 0 = .ok (.iconst 0, 1) := by decide +kernel
theorem dX4_laysAside_1 : decode cX4_laysAside 1 = .ok (.istore_n 1, 1) := by decide +kernel
theorem dX4_laysAside_2 : decode cX4_laysAside 2 = .ok (.iload_n 1, 1) := by decide +kernel
theorem dX4_laysAside_3 : decode cX4_laysAside 3 = .ok (.bipush 66, 2) := by decide +kernel
theorem dX4_laysAside_5 : decode cX4_laysAside 5 = .ok (.if_icmp .ge 21, 3) := by decide +kernel
theorem dX4_laysAside_8 : decode cX4_laysAside 8 = .ok (.aload_n 0, 1) := by decide +kernel
theorem dX4_laysAside_9 : decode cX4_laysAside 9 = .ok (.getfield 19, 3) := by decide +kernel
theorem dX4_laysAside_12 : decode cX4_laysAside 12 = .ok (.iload_n 1, 1) := by decide +kernel
theorem dX4_laysAside_13 : decode cX4_laysAside 13 = .ok (.aload_n 0, 1) := by decide +kernel
theorem dX4_laysAside_14 : decode cX4_laysAside 14 = .ok (.getfield 7, 3) := by decide +kernel
theorem dX4_laysAside_17 : decode cX4_laysAside 17 = .ok (.iload_n 1, 1) := by decide +kernel
theorem dX4_laysAside_18 : decode cX4_laysAside 18 = .ok (.iaload, 1) := by decide +kernel
theorem dX4_laysAside_19 : decode cX4_laysAside 19 = .ok (.iastore, 1) := by decide +kernel
theorem dX4_laysAside_20 : decode cX4_laysAside 20 = .ok (.iinc 1 1, 3) := by decide +kernel
theorem dX4_laysAside_23 : decode cX4_laysAside 23 = .ok (.goto (-21), 3) := by decide +kernel
theorem dX4_laysAside_26 : decode cX4_laysAside 26 = .ok (.return_, 1) := by decide +kernel
theorem dX4_takesBack_0 : decode cX4_takesBack 0 = .ok (.iconst 0, 1) := by decide +kernel
theorem dX4_takesBack_1 : decode cX4_takesBack 1 = .ok (.istore_n 2, 1) := by decide +kernel
theorem dX4_takesBack_2 : decode cX4_takesBack 2 = .ok (.iload_n 2, 1) := by decide +kernel
theorem dX4_takesBack_3 : decode cX4_takesBack 3 = .ok (.bipush 66, 2) := by decide +kernel
theorem dX4_takesBack_5 : decode cX4_takesBack 5 = .ok (.if_icmp .ge 21, 3) := by decide +kernel
theorem dX4_takesBack_8 : decode cX4_takesBack 8 = .ok (.aload_n 0, 1) := by decide +kernel
theorem dX4_takesBack_9 : decode cX4_takesBack 9 = .ok (.getfield 7, 3) := by decide +kernel
theorem dX4_takesBack_12 : decode cX4_takesBack 12 = .ok (.iload_n 2, 1) := by decide +kernel
theorem dX4_takesBack_13 : decode cX4_takesBack 13 = .ok (.aload_n 0, 1) := by decide +kernel
theorem dX4_takesBack_14 : decode cX4_takesBack 14 = .ok (.getfield 19, 3) := by decide +kernel
theorem dX4_takesBack_17 : decode cX4_takesBack 17 = .ok (.iload_n 2, 1) := by decide +kernel
theorem dX4_takesBack_18 : decode cX4_takesBack 18 = .ok (.iaload, 1) := by decide +kernel
theorem dX4_takesBack_19 : decode cX4_takesBack 19 = .ok (.iastore, 1) := by decide +kernel
theorem dX4_takesBack_20 : decode cX4_takesBack 20 = .ok (.iinc 2 1, 3) := by decide +kernel
theorem dX4_takesBack_23 : decode cX4_takesBack 23 = .ok (.goto (-21), 3) := by decide +kernel
theorem dX4_takesBack_26 : decode cX4_takesBack 26 = .ok (.iload_n 1, 1) := by decide +kernel
theorem dX4_takesBack_27 : decode cX4_takesBack 27 = .ok (.ireturn, 1) := by decide +kernel
theorem dX4_becomes_0 : decode cX4_becomes 0 = .ok (.aload_n 0, 1) := by decide +kernel
theorem dX4_becomes_1 : decode cX4_becomes 1 = .ok (.getfield 7, 3) := by decide +kernel
theorem dX4_becomes_4 : decode cX4_becomes 4 = .ok (.iload_n 1, 1) := by decide +kernel
theorem dX4_becomes_5 : decode cX4_becomes 5 = .ok (.iaload, 1) := by decide +kernel
theorem dX4_becomes_6 : decode cX4_becomes 6 = .ok (.istore_n 3, 1) := by decide +kernel
theorem dX4_becomes_7 : decode cX4_becomes 7 = .ok (.aload_n 0, 1) := by decide +kernel
theorem dX4_becomes_8 : decode cX4_becomes 8 = .ok (.getfield 7, 3) := by decide +kernel
theorem dX4_becomes_11 : decode cX4_becomes 11 = .ok (.iload_n 1, 1) := by decide +kernel
theorem dX4_becomes_12 : decode cX4_becomes 12 = .ok (.iload_n 2, 1) := by decide +kernel
theorem dX4_becomes_13 : decode cX4_becomes 13 = .ok (.iastore, 1) := by decide +kernel
theorem dX4_becomes_14 : decode cX4_becomes 14 = .ok (.iload_n 3, 1) := by decide +kernel
theorem dX4_becomes_15 : decode cX4_becomes 15 = .ok (.ireturn, 1) := by decide +kernel
theorem dX4_isChair_0 : decode cX4_isChair 0 = .ok (.iload_n 0, 1) := by decide +kernel
theorem dX4_isChair_1 : decode cX4_isChair 1 = .ok (.i2l, 1) := by decide +kernel
theorem dX4_isChair_2 : decode cX4_isChair 2 = .ok (.lconst 0, 1) := by decide +kernel
theorem dX4_isChair_3 : decode cX4_isChair 3 = .ok (.ldc2_w 49, 3) := by decide +kernel
theorem dX4_isChair_6 : decode cX4_isChair 6 = .ok (.invokestatic 51, 3) := by decide +kernel
theorem dX4_isChair_9 : decode cX4_isChair 9 = .ok (.ireturn, 1) := by decide +kernel
theorem dX4_isPerson_0 : decode cX4_isPerson 0 = .ok (.iload_n 1, 1) := by decide +kernel
theorem dX4_isPerson_1 : decode cX4_isPerson 1 = .ok (.i2l, 1) := by decide +kernel
theorem dX4_isPerson_2 : decode cX4_isPerson 2 = .ok (.lconst 0, 1) := by decide +kernel
theorem dX4_isPerson_3 : decode cX4_isPerson 3 = .ok (.aload_n 0, 1) := by decide +kernel
theorem dX4_isPerson_4 : decode cX4_isPerson 4 = .ok (.getfield 7, 3) := by decide +kernel
theorem dX4_isPerson_7 : decode cX4_isPerson 7 = .ok (.iconst 0, 1) := by decide +kernel
theorem dX4_isPerson_8 : decode cX4_isPerson 8 = .ok (.iaload, 1) := by decide +kernel
theorem dX4_isPerson_9 : decode cX4_isPerson 9 = .ok (.iconst 1, 1) := by decide +kernel
theorem dX4_isPerson_10 : decode cX4_isPerson 10 = .ok (.isub, 1) := by decide +kernel
theorem dX4_isPerson_11 : decode cX4_isPerson 11 = .ok (.i2l, 1) := by decide +kernel
theorem dX4_isPerson_12 : decode cX4_isPerson 12 = .ok (.invokestatic 51, 3) := by decide +kernel
theorem dX4_isPerson_15 : decode cX4_isPerson 15 = .ok (.ireturn, 1) := by decide +kernel
theorem dX4_areTwo_0 : decode cX4_areTwo 0 = .ok (.aload_n 0, 1) := by decide +kernel
theorem dX4_areTwo_1 : decode cX4_areTwo 1 = .ok (.iload_n 1, 1) := by decide +kernel
theorem dX4_areTwo_2 : decode cX4_areTwo 2 = .ok (.invokevirtual 55, 3) := by decide +kernel
theorem dX4_areTwo_5 : decode cX4_areTwo 5 = .ok (.ifCond .eq 20, 3) := by decide +kernel
theorem dX4_areTwo_8 : decode cX4_areTwo 8 = .ok (.aload_n 0, 1) := by decide +kernel
theorem dX4_areTwo_9 : decode cX4_areTwo 9 = .ok (.iload_n 2, 1) := by decide +kernel
theorem dX4_areTwo_10 : decode cX4_areTwo 10 = .ok (.invokevirtual 55, 3) := by decide +kernel
theorem dX4_areTwo_13 : decode cX4_areTwo 13 = .ok (.ifCond .eq 12, 3) := by decide +kernel
theorem dX4_areTwo_16 : decode cX4_areTwo 16 = .ok (.iload_n 1, 1) := by decide +kernel
theorem dX4_areTwo_17 : decode cX4_areTwo 17 = .ok (.iload_n 2, 1) := by decide +kernel
theorem dX4_areTwo_18 : decode cX4_areTwo 18 = .ok (.if_icmp .eq 7, 3) := by decide +kernel
theorem dX4_areTwo_21 : decode cX4_areTwo 21 = .ok (.iconst 1, 1) := by decide +kernel
theorem dX4_areTwo_22 : decode cX4_areTwo 22 = .ok (.goto 4, 3) := by decide +kernel
theorem dX4_areTwo_25 : decode cX4_areTwo 25 = .ok (.iconst 0, 1) := by decide +kernel
theorem dX4_areTwo_26 : decode cX4_areTwo 26 = .ok (.ireturn, 1) := by decide +kernel
theorem dX4_isKind_0 : decode cX4_isKind 0 = .ok (.iload_n 0, 1) := by decide +kernel
theorem dX4_isKind_1 : decode cX4_isKind 1 = .ok (.i2l, 1) := by decide +kernel
theorem dX4_isKind_2 : decode cX4_isKind 2 = .ok (.lconst 0, 1) := by decide +kernel
theorem dX4_isKind_3 : decode cX4_isKind 3 = .ok (.ldc2_w 59, 3) := by decide +kernel
theorem dX4_isKind_6 : decode cX4_isKind 6 = .ok (.invokestatic 51, 3) := by decide +kernel
theorem dX4_isKind_9 : decode cX4_isKind 9 = .ok (.ireturn, 1) := by decide +kernel
theorem dX4_chairAt_0 : decode cX4_chairAt 0 = .ok (.iconst 2, 1) := by decide +kernel
theorem dX4_chairAt_1 : decode cX4_chairAt 1 = .ok (.iconst 2, 1) := by decide +kernel
theorem dX4_chairAt_2 : decode cX4_chairAt 2 = .ok (.iload_n 0, 1) := by decide +kernel
theorem dX4_chairAt_3 : decode cX4_chairAt 3 = .ok (.imul, 1) := by decide +kernel
theorem dX4_chairAt_4 : decode cX4_chairAt 4 = .ok (.iadd, 1) := by decide +kernel
theorem dX4_chairAt_5 : decode cX4_chairAt 5 = .ok (.iload_n 1, 1) := by decide +kernel
theorem dX4_chairAt_6 : decode cX4_chairAt 6 = .ok (.iadd, 1) := by decide +kernel
theorem dX4_chairAt_7 : decode cX4_chairAt 7 = .ok (.ireturn, 1) := by decide +kernel
theorem dX4_spotOf_0 : decode cX4_spotOf 0 = .ok (.bipush 18, 2) := by decide +kernel
theorem dX4_spotOf_2 : decode cX4_spotOf 2 = .ok (.bipush 6, 2) := by decide +kernel
theorem dX4_spotOf_4 : decode cX4_spotOf 4 = .ok (.iload_n 0, 1) := by decide +kernel
theorem dX4_spotOf_5 : decode cX4_spotOf 5 = .ok (.imul, 1) := by decide +kernel
theorem dX4_spotOf_6 : decode cX4_spotOf 6 = .ok (.iadd, 1) := by decide +kernel
theorem dX4_spotOf_7 : decode cX4_spotOf 7 = .ok (.iload_n 1, 1) := by decide +kernel
theorem dX4_spotOf_8 : decode cX4_spotOf 8 = .ok (.iadd, 1) := by decide +kernel
theorem dX4_spotOf_9 : decode cX4_spotOf 9 = .ok (.ireturn, 1) := by decide +kernel
theorem dX4_its_0 : decode cX4_its 0 = .ok (.aload_n 0, 1) := by decide +kernel
theorem dX4_its_1 : decode cX4_its 1 = .ok (.getfield 7, 3) := by decide +kernel
theorem dX4_its_4 : decode cX4_its 4 = .ok (.iload_n 1, 1) := by decide +kernel
theorem dX4_its_5 : decode cX4_its 5 = .ok (.iload_n 2, 1) := by decide +kernel
theorem dX4_its_6 : decode cX4_its 6 = .ok (.invokestatic 61, 3) := by decide +kernel
theorem dX4_its_9 : decode cX4_its 9 = .ok (.iaload, 1) := by decide +kernel
theorem dX4_its_10 : decode cX4_its 10 = .ok (.ireturn, 1) := by decide +kernel
theorem dX4_ones_0 : decode cX4_ones 0 = .ok (.iconst 0, 1) := by decide +kernel
theorem dX4_ones_1 : decode cX4_ones 1 = .ok (.istore_n 1, 1) := by decide +kernel
theorem dX4_ones_2 : decode cX4_ones 2 = .ok (.iload_n 0, 1) := by decide +kernel
theorem dX4_ones_3 : decode cX4_ones 3 = .ok (.istore_n 2, 1) := by decide +kernel
theorem dX4_ones_4 : decode cX4_ones 4 = .ok (.iload_n 2, 1) := by decide +kernel
theorem dX4_ones_5 : decode cX4_ones 5 = .ok (.ifCond .eq 15, 3) := by decide +kernel
theorem dX4_ones_8 : decode cX4_ones 8 = .ok (.iinc 1 1, 3) := by decide +kernel
theorem dX4_ones_11 : decode cX4_ones 11 = .ok (.iload_n 2, 1) := by decide +kernel
theorem dX4_ones_12 : decode cX4_ones 12 = .ok (.iload_n 2, 1) := by decide +kernel
theorem dX4_ones_13 : decode cX4_ones 13 = .ok (.iconst 1, 1) := by decide +kernel
theorem dX4_ones_14 : decode cX4_ones 14 = .ok (.isub, 1) := by decide +kernel
theorem dX4_ones_15 : decode cX4_ones 15 = .ok (.iand, 1) := by decide +kernel
theorem dX4_ones_16 : decode cX4_ones 16 = .ok (.istore_n 2, 1) := by decide +kernel
theorem dX4_ones_17 : decode cX4_ones 17 = .ok (.goto (-13), 3) := by decide +kernel
theorem dX4_ones_20 : decode cX4_ones 20 = .ok (.iload_n 1, 1) := by decide +kernel
theorem dX4_ones_21 : decode cX4_ones 21 = .ok (.ireturn, 1) := by decide +kernel
theorem dX4_whoIn_0 : decode cX4_whoIn 0 = .ok (.iconst 0, 1) := by decide +kernel
theorem dX4_whoIn_1 : decode cX4_whoIn 1 = .ok (.istore_n 2, 1) := by decide +kernel
theorem dX4_whoIn_2 : decode cX4_whoIn 2 = .ok (.iload_n 2, 1) := by decide +kernel
theorem dX4_whoIn_3 : decode cX4_whoIn 3 = .ok (.aload_n 0, 1) := by decide +kernel
theorem dX4_whoIn_4 : decode cX4_whoIn 4 = .ok (.getfield 7, 3) := by decide +kernel
theorem dX4_whoIn_7 : decode cX4_whoIn 7 = .ok (.iconst 0, 1) := by decide +kernel
theorem dX4_whoIn_8 : decode cX4_whoIn 8 = .ok (.iaload, 1) := by decide +kernel
theorem dX4_whoIn_9 : decode cX4_whoIn 9 = .ok (.if_icmp .ge 21, 3) := by decide +kernel
theorem dX4_whoIn_12 : decode cX4_whoIn 12 = .ok (.aload_n 0, 1) := by decide +kernel
theorem dX4_whoIn_13 : decode cX4_whoIn 13 = .ok (.iload_n 2, 1) := by decide +kernel
theorem dX4_whoIn_14 : decode cX4_whoIn 14 = .ok (.iconst 5, 1) := by decide +kernel
theorem dX4_whoIn_15 : decode cX4_whoIn 15 = .ok (.invokevirtual 64, 3) := by decide +kernel
theorem dX4_whoIn_18 : decode cX4_whoIn 18 = .ok (.iload_n 1, 1) := by decide +kernel
theorem dX4_whoIn_19 : decode cX4_whoIn 19 = .ok (.if_icmp .ne 5, 3) := by decide +kernel
theorem dX4_whoIn_22 : decode cX4_whoIn 22 = .ok (.iload_n 2, 1) := by decide +kernel
theorem dX4_whoIn_23 : decode cX4_whoIn 23 = .ok (.ireturn, 1) := by decide +kernel
theorem dX4_whoIn_24 : decode cX4_whoIn 24 = .ok (.iinc 2 1, 3) := by decide +kernel
theorem dX4_whoIn_27 : decode cX4_whoIn 27 = .ok (.goto (-25), 3) := by decide +kernel
theorem dX4_whoIn_30 : decode cX4_whoIn 30 = .ok (.iconst (-1), 1) := by decide +kernel
theorem dX4_whoIn_31 : decode cX4_whoIn 31 = .ok (.ireturn, 1) := by decide +kernel
theorem dX4_chair_0 : decode cX4_chair 0 = .ok (.iload_n 2, 1) := by decide +kernel
theorem dX4_chair_1 : decode cX4_chair 1 = .ok (.ifCond .ne 15, 3) := by decide +kernel
theorem dX4_chair_4 : decode cX4_chair 4 = .ok (.iload_n 3, 1) := by decide +kernel
theorem dX4_chair_5 : decode cX4_chair 5 = .ok (.i2l, 1) := by decide +kernel
theorem dX4_chair_6 : decode cX4_chair 6 = .ok (.lconst 0, 1) := by decide +kernel
theorem dX4_chair_7 : decode cX4_chair 7 = .ok (.ldc2_w 67, 3) := by decide +kernel
theorem dX4_chair_10 : decode cX4_chair 10 = .ok (.invokestatic 51, 3) := by decide +kernel
theorem dX4_chair_13 : decode cX4_chair 13 = .ok (.goto 25, 3) := by decide +kernel
theorem dX4_chair_16 : decode cX4_chair 16 = .ok (.iload_n 2, 1) := by decide +kernel
theorem dX4_chair_17 : decode cX4_chair 17 = .ok (.iconst 1, 1) := by decide +kernel
theorem dX4_chair_18 : decode cX4_chair 18 = .ok (.if_icmp .ne 19, 3) := by decide +kernel
theorem dX4_chair_21 : decode cX4_chair 21 = .ok (.iload_n 3, 1) := by decide +kernel
theorem dX4_chair_22 : decode cX4_chair 22 = .ok (.i2l, 1) := by decide +kernel
theorem dX4_chair_23 : decode cX4_chair 23 = .ok (.lconst 0, 1) := by decide +kernel
theorem dX4_chair_24 : decode cX4_chair 24 = .ok (.ldc2_w 69, 3) := by decide +kernel
theorem dX4_chair_27 : decode cX4_chair 27 = .ok (.invokestatic 51, 3) := by decide +kernel
theorem dX4_chair_30 : decode cX4_chair 30 = .ok (.ifCond .eq 7, 3) := by decide +kernel
theorem dX4_chair_33 : decode cX4_chair 33 = .ok (.iconst 1, 1) := by decide +kernel
theorem dX4_chair_34 : decode cX4_chair 34 = .ok (.goto 4, 3) := by decide +kernel
theorem dX4_chair_37 : decode cX4_chair 37 = .ok (.iconst 0, 1) := by decide +kernel
theorem dX4_chair_38 : decode cX4_chair 38 = .ok (.istore 4, 2) := by decide +kernel
theorem dX4_chair_40 : decode cX4_chair 40 = .ok (.iload_n 1, 1) := by decide +kernel
theorem dX4_chair_41 : decode cX4_chair 41 = .ok (.invokestatic 71, 3) := by decide +kernel
theorem dX4_chair_44 : decode cX4_chair 44 = .ok (.ifCond .eq 21, 3) := by decide +kernel
theorem dX4_chair_47 : decode cX4_chair 47 = .ok (.iload 4, 2) := by decide +kernel
theorem dX4_chair_49 : decode cX4_chair 49 = .ok (.ifCond .eq 16, 3) := by decide +kernel
theorem dX4_chair_52 : decode cX4_chair 52 = .ok (.aload_n 0, 1) := by decide +kernel
theorem dX4_chair_53 : decode cX4_chair 53 = .ok (.iload_n 1, 1) := by decide +kernel
theorem dX4_chair_54 : decode cX4_chair 54 = .ok (.iload_n 2, 1) := by decide +kernel
theorem dX4_chair_55 : decode cX4_chair 55 = .ok (.invokestatic 44, 3) := by decide +kernel
theorem dX4_chair_58 : decode cX4_chair 58 = .ok (.iload_n 3, 1) := by decide +kernel
theorem dX4_chair_59 : decode cX4_chair 59 = .ok (.invokevirtual 74, 3) := by decide +kernel
theorem dX4_chair_62 : decode cX4_chair 62 = .ok (.goto 9, 3) := by decide +kernel
theorem dX4_chair_65 : decode cX4_chair 65 = .ok (.aload_n 0, 1) := by decide +kernel
theorem dX4_chair_66 : decode cX4_chair 66 = .ok (.ldc 48, 2) := by decide +kernel
theorem dX4_chair_68 : decode cX4_chair 68 = .ok (.invokevirtual 77, 3) := by decide +kernel
theorem dX4_chair_71 : decode cX4_chair 71 = .ok (.ireturn, 1) := by decide +kernel
theorem dX4_chairOf_0 : decode cX4_chairOf 0 = .ok (.iload_n 1, 1) := by decide +kernel
theorem dX4_chairOf_1 : decode cX4_chairOf 1 = .ok (.invokestatic 71, 3) := by decide +kernel
theorem dX4_chairOf_4 : decode cX4_chairOf 4 = .ok (.ifCond .eq 15, 3) := by decide +kernel
theorem dX4_chairOf_7 : decode cX4_chairOf 7 = .ok (.iload_n 2, 1) := by decide +kernel
theorem dX4_chairOf_8 : decode cX4_chairOf 8 = .ok (.i2l, 1) := by decide +kernel
theorem dX4_chairOf_9 : decode cX4_chairOf 9 = .ok (.lconst 0, 1) := by decide +kernel
theorem dX4_chairOf_10 : decode cX4_chairOf 10 = .ok (.ldc2_w 81, 3) := by decide +kernel
theorem dX4_chairOf_13 : decode cX4_chairOf 13 = .ok (.invokestatic 51, 3) := by decide +kernel
theorem dX4_chairOf_16 : decode cX4_chairOf 16 = .ok (.ifCond .ne 10, 3) := by decide +kernel
theorem dX4_chairOf_19 : decode cX4_chairOf 19 = .ok (.aload_n 0, 1) := by decide +kernel
theorem dX4_chairOf_20 : decode cX4_chairOf 20 = .ok (.ldc 48, 2) := by decide +kernel
theorem dX4_chairOf_22 : decode cX4_chairOf 22 = .ok (.invokevirtual 77, 3) := by decide +kernel
theorem dX4_chairOf_25 : decode cX4_chairOf 25 = .ok (.ireturn, 1) := by decide +kernel
theorem dX4_chairOf_26 : decode cX4_chairOf 26 = .ok (.iload_n 2, 1) := by decide +kernel
theorem dX4_chairOf_27 : decode cX4_chairOf 27 = .ok (.iconst 2, 1) := by decide +kernel
theorem dX4_chairOf_28 : decode cX4_chairOf 28 = .ok (.if_icmp .ne 11, 3) := by decide +kernel
theorem dX4_chairOf_31 : decode cX4_chairOf 31 = .ok (.aload_n 0, 1) := by decide +kernel
theorem dX4_chairOf_32 : decode cX4_chairOf 32 = .ok (.iload_n 1, 1) := by decide +kernel
theorem dX4_chairOf_33 : decode cX4_chairOf 33 = .ok (.invokevirtual 83, 3) := by decide +kernel
theorem dX4_chairOf_36 : decode cX4_chairOf 36 = .ok (.goto 13, 3) := by decide +kernel
theorem dX4_chairOf_39 : decode cX4_chairOf 39 = .ok (.aload_n 0, 1) := by decide +kernel
theorem dX4_chairOf_40 : decode cX4_chairOf 40 = .ok (.getfield 7, 3) := by decide +kernel
theorem dX4_chairOf_43 : decode cX4_chairOf 43 = .ok (.iload_n 1, 1) := by decide +kernel
theorem dX4_chairOf_44 : decode cX4_chairOf 44 = .ok (.iload_n 2, 1) := by decide +kernel
theorem dX4_chairOf_45 : decode cX4_chairOf 45 = .ok (.invokestatic 44, 3) := by decide +kernel
theorem dX4_chairOf_48 : decode cX4_chairOf 48 = .ok (.iaload, 1) := by decide +kernel
theorem dX4_chairOf_49 : decode cX4_chairOf 49 = .ok (.ireturn, 1) := by decide +kernel
theorem dX4_adds_0 : decode cX4_adds 0 = .ok (.aload_n 0, 1) := by decide +kernel
theorem dX4_adds_1 : decode cX4_adds 1 = .ok (.getfield 7, 3) := by decide +kernel
theorem dX4_adds_4 : decode cX4_adds 4 = .ok (.iconst 0, 1) := by decide +kernel
theorem dX4_adds_5 : decode cX4_adds 5 = .ok (.iaload, 1) := by decide +kernel
theorem dX4_adds_6 : decode cX4_adds 6 = .ok (.istore_n 2, 1) := by decide +kernel
theorem dX4_adds_7 : decode cX4_adds 7 = .ok (.aload_n 0, 1) := by decide +kernel
theorem dX4_adds_8 : decode cX4_adds 8 = .ok (.getfield 7, 3) := by decide +kernel
theorem dX4_adds_11 : decode cX4_adds 11 = .ok (.iload_n 2, 1) := by decide +kernel
theorem dX4_adds_12 : decode cX4_adds 12 = .ok (.iconst 0, 1) := by decide +kernel
theorem dX4_adds_13 : decode cX4_adds 13 = .ok (.invokestatic 61, 3) := by decide +kernel
theorem dX4_adds_16 : decode cX4_adds 16 = .ok (.iload_n 1, 1) := by decide +kernel
theorem dX4_adds_17 : decode cX4_adds 17 = .ok (.iastore, 1) := by decide +kernel
theorem dX4_adds_18 : decode cX4_adds 18 = .ok (.aload_n 0, 1) := by decide +kernel
theorem dX4_adds_19 : decode cX4_adds 19 = .ok (.getfield 7, 3) := by decide +kernel
theorem dX4_adds_22 : decode cX4_adds 22 = .ok (.iload_n 2, 1) := by decide +kernel
theorem dX4_adds_23 : decode cX4_adds 23 = .ok (.iconst 1, 1) := by decide +kernel
theorem dX4_adds_24 : decode cX4_adds 24 = .ok (.invokestatic 61, 3) := by decide +kernel
theorem dX4_adds_27 : decode cX4_adds 27 = .ok (.iconst 0, 1) := by decide +kernel
theorem dX4_adds_28 : decode cX4_adds 28 = .ok (.iastore, 1) := by decide +kernel
theorem dX4_adds_29 : decode cX4_adds 29 = .ok (.aload_n 0, 1) := by decide +kernel
theorem dX4_adds_30 : decode cX4_adds 30 = .ok (.getfield 7, 3) := by decide +kernel
theorem dX4_adds_33 : decode cX4_adds 33 = .ok (.iload_n 2, 1) := by decide +kernel
theorem dX4_adds_34 : decode cX4_adds 34 = .ok (.iconst 2, 1) := by decide +kernel
theorem dX4_adds_35 : decode cX4_adds 35 = .ok (.invokestatic 61, 3) := by decide +kernel
theorem dX4_adds_38 : decode cX4_adds 38 = .ok (.iconst (-1), 1) := by decide +kernel
theorem dX4_adds_39 : decode cX4_adds 39 = .ok (.iastore, 1) := by decide +kernel
theorem dX4_adds_40 : decode cX4_adds 40 = .ok (.aload_n 0, 1) := by decide +kernel
theorem dX4_adds_41 : decode cX4_adds 41 = .ok (.getfield 7, 3) := by decide +kernel
theorem dX4_adds_44 : decode cX4_adds 44 = .ok (.iload_n 2, 1) := by decide +kernel
theorem dX4_adds_45 : decode cX4_adds 45 = .ok (.iconst 3, 1) := by decide +kernel
theorem dX4_adds_46 : decode cX4_adds 46 = .ok (.invokestatic 61, 3) := by decide +kernel
theorem dX4_adds_49 : decode cX4_adds 49 = .ok (.iconst 0, 1) := by decide +kernel
theorem dX4_adds_50 : decode cX4_adds 50 = .ok (.iastore, 1) := by decide +kernel
theorem dX4_adds_51 : decode cX4_adds 51 = .ok (.aload_n 0, 1) := by decide +kernel
theorem dX4_adds_52 : decode cX4_adds 52 = .ok (.getfield 7, 3) := by decide +kernel
theorem dX4_adds_55 : decode cX4_adds 55 = .ok (.iload_n 2, 1) := by decide +kernel
theorem dX4_adds_56 : decode cX4_adds 56 = .ok (.iconst 4, 1) := by decide +kernel
theorem dX4_adds_57 : decode cX4_adds 57 = .ok (.invokestatic 61, 3) := by decide +kernel
theorem dX4_adds_60 : decode cX4_adds 60 = .ok (.iconst 0, 1) := by decide +kernel
theorem dX4_adds_61 : decode cX4_adds 61 = .ok (.iastore, 1) := by decide +kernel
theorem dX4_adds_62 : decode cX4_adds 62 = .ok (.aload_n 0, 1) := by decide +kernel
theorem dX4_adds_63 : decode cX4_adds 63 = .ok (.getfield 7, 3) := by decide +kernel
theorem dX4_adds_66 : decode cX4_adds 66 = .ok (.iload_n 2, 1) := by decide +kernel
theorem dX4_adds_67 : decode cX4_adds 67 = .ok (.iconst 5, 1) := by decide +kernel
theorem dX4_adds_68 : decode cX4_adds 68 = .ok (.invokestatic 61, 3) := by decide +kernel
theorem dX4_adds_71 : decode cX4_adds 71 = .ok (.iconst (-1), 1) := by decide +kernel
theorem dX4_adds_72 : decode cX4_adds 72 = .ok (.iastore, 1) := by decide +kernel
theorem dX4_adds_73 : decode cX4_adds 73 = .ok (.aload_n 0, 1) := by decide +kernel
theorem dX4_adds_74 : decode cX4_adds 74 = .ok (.getfield 7, 3) := by decide +kernel
theorem dX4_adds_77 : decode cX4_adds 77 = .ok (.iconst 0, 1) := by decide +kernel
theorem dX4_adds_78 : decode cX4_adds 78 = .ok (.dup2, 1) := by decide +kernel
theorem dX4_adds_79 : decode cX4_adds 79 = .ok (.iaload, 1) := by decide +kernel
theorem dX4_adds_80 : decode cX4_adds 80 = .ok (.iconst 1, 1) := by decide +kernel
theorem dX4_adds_81 : decode cX4_adds 81 = .ok (.iadd, 1) := by decide +kernel
theorem dX4_adds_82 : decode cX4_adds 82 = .ok (.iastore, 1) := by decide +kernel
theorem dX4_adds_83 : decode cX4_adds 83 = .ok (.iload_n 2, 1) := by decide +kernel
theorem dX4_adds_84 : decode cX4_adds 84 = .ok (.ireturn, 1) := by decide +kernel
theorem dX4_person_0 : decode cX4_person 0 = .ok (.iload_n 1, 1) := by decide +kernel
theorem dX4_person_1 : decode cX4_person 1 = .ok (.invokestatic 86, 3) := by decide +kernel
theorem dX4_person_4 : decode cX4_person 4 = .ok (.ifCond .ne 10, 3) := by decide +kernel
theorem dX4_person_7 : decode cX4_person 7 = .ok (.aload_n 0, 1) := by decide +kernel
theorem dX4_person_8 : decode cX4_person 8 = .ok (.ldc 48, 2) := by decide +kernel
theorem dX4_person_10 : decode cX4_person 10 = .ok (.invokevirtual 77, 3) := by decide +kernel
theorem dX4_person_13 : decode cX4_person 13 = .ok (.ireturn, 1) := by decide +kernel
theorem dX4_person_14 : decode cX4_person 14 = .ok (.aload_n 0, 1) := by decide +kernel
theorem dX4_person_15 : decode cX4_person 15 = .ok (.getfield 7, 3) := by decide +kernel
theorem dX4_person_18 : decode cX4_person 18 = .ok (.iconst 0, 1) := by decide +kernel
theorem dX4_person_19 : decode cX4_person 19 = .ok (.iaload, 1) := by decide +kernel
theorem dX4_person_20 : decode cX4_person 20 = .ok (.bipush 8, 2) := by decide +kernel
theorem dX4_person_22 : decode cX4_person 22 = .ok (.if_icmp .ne 12, 3) := by decide +kernel
theorem dX4_person_25 : decode cX4_person 25 = .ok (.aload_n 0, 1) := by decide +kernel
theorem dX4_person_26 : decode cX4_person 26 = .ok (.ldc 89, 2) := by decide +kernel
theorem dX4_person_28 : decode cX4_person 28 = .ok (.invokevirtual 77, 3) := by decide +kernel
theorem dX4_person_31 : decode cX4_person 31 = .ok (.goto 8, 3) := by decide +kernel
theorem dX4_person_34 : decode cX4_person 34 = .ok (.aload_n 0, 1) := by decide +kernel
theorem dX4_person_35 : decode cX4_person 35 = .ok (.iload_n 1, 1) := by decide +kernel
theorem dX4_person_36 : decode cX4_person 36 = .ok (.invokevirtual 90, 3) := by decide +kernel
theorem dX4_person_39 : decode cX4_person 39 = .ok (.ireturn, 1) := by decide +kernel
theorem dX4_givesUp_0 : decode cX4_givesUp 0 = .ok (.aload_n 0, 1) := by decide +kernel
theorem dX4_givesUp_1 : decode cX4_givesUp 1 = .ok (.iload_n 1, 1) := by decide +kernel
theorem dX4_givesUp_2 : decode cX4_givesUp 2 = .ok (.iconst 0, 1) := by decide +kernel
theorem dX4_givesUp_3 : decode cX4_givesUp 3 = .ok (.invokevirtual 64, 3) := by decide +kernel
theorem dX4_givesUp_6 : decode cX4_givesUp 6 = .ok (.tableswitch 52 1 5 #[34, 52, 47, 49, 47], 34) := by decide +kernel
theorem dX4_givesUp_40 : decode cX4_givesUp 40 = .ok (.bipush 8, 2) := by decide +kernel
theorem dX4_givesUp_42 : decode cX4_givesUp 42 = .ok (.aload_n 0, 1) := by decide +kernel
theorem dX4_givesUp_43 : decode cX4_givesUp 43 = .ok (.iload_n 1, 1) := by decide +kernel
theorem dX4_givesUp_44 : decode cX4_givesUp 44 = .ok (.iconst 1, 1) := by decide +kernel
theorem dX4_givesUp_45 : decode cX4_givesUp 45 = .ok (.invokevirtual 64, 3) := by decide +kernel
theorem dX4_givesUp_48 : decode cX4_givesUp 48 = .ok (.bipush 10, 2) := by decide +kernel
theorem dX4_givesUp_50 : decode cX4_givesUp 50 = .ok (.idiv, 1) := by decide +kernel
theorem dX4_givesUp_51 : decode cX4_givesUp 51 = .ok (.iadd, 1) := by decide +kernel
theorem dX4_givesUp_52 : decode cX4_givesUp 52 = .ok (.ireturn, 1) := by decide +kernel
theorem dX4_givesUp_53 : decode cX4_givesUp 53 = .ok (.iconst 4, 1) := by decide +kernel
theorem dX4_givesUp_54 : decode cX4_givesUp 54 = .ok (.ireturn, 1) := by decide +kernel
theorem dX4_givesUp_55 : decode cX4_givesUp 55 = .ok (.bipush 99, 2) := by decide +kernel
theorem dX4_givesUp_57 : decode cX4_givesUp 57 = .ok (.ireturn, 1) := by decide +kernel
theorem dX4_givesUp_58 : decode cX4_givesUp 58 = .ok (.bipush 8, 2) := by decide +kernel
theorem dX4_givesUp_60 : decode cX4_givesUp 60 = .ok (.ireturn, 1) := by decide +kernel
theorem dX4_of_0 : decode cX4_of 0 = .ok (.aload_n 0, 1) := by decide +kernel
theorem dX4_of_1 : decode cX4_of 1 = .ok (.iload_n 1, 1) := by decide +kernel
theorem dX4_of_2 : decode cX4_of 2 = .ok (.invokevirtual 55, 3) := by decide +kernel
theorem dX4_of_5 : decode cX4_of 5 = .ok (.ifCond .eq 15, 3) := by decide +kernel
theorem dX4_of_8 : decode cX4_of 8 = .ok (.iload_n 2, 1) := by decide +kernel
theorem dX4_of_9 : decode cX4_of 9 = .ok (.i2l, 1) := by decide +kernel
theorem dX4_of_10 : decode cX4_of 10 = .ok (.lconst 0, 1) := by decide +kernel
theorem dX4_of_11 : decode cX4_of 11 = .ok (.ldc2_w 93, 3) := by decide +kernel
theorem dX4_of_14 : decode cX4_of 14 = .ok (.invokestatic 51, 3) := by decide +kernel
theorem dX4_of_17 : decode cX4_of 17 = .ok (.ifCond .ne 10, 3) := by decide +kernel
theorem dX4_of_20 : decode cX4_of 20 = .ok (.aload_n 0, 1) := by decide +kernel
theorem dX4_of_21 : decode cX4_of 21 = .ok (.ldc 48, 2) := by decide +kernel
theorem dX4_of_23 : decode cX4_of 23 = .ok (.invokevirtual 77, 3) := by decide +kernel
theorem dX4_of_26 : decode cX4_of 26 = .ok (.ireturn, 1) := by decide +kernel
theorem dX4_of_27 : decode cX4_of 27 = .ok (.iload_n 2, 1) := by decide +kernel
theorem dX4_of_28 : decode cX4_of 28 = .ok (.iconst 5, 1) := by decide +kernel
theorem dX4_of_29 : decode cX4_of 29 = .ok (.if_icmp .gt 12, 3) := by decide +kernel
theorem dX4_of_32 : decode cX4_of 32 = .ok (.aload_n 0, 1) := by decide +kernel
theorem dX4_of_33 : decode cX4_of 33 = .ok (.iload_n 1, 1) := by decide +kernel
theorem dX4_of_34 : decode cX4_of 34 = .ok (.iload_n 2, 1) := by decide +kernel
theorem dX4_of_35 : decode cX4_of 35 = .ok (.invokevirtual 64, 3) := by decide +kernel
theorem dX4_of_38 : decode cX4_of 38 = .ok (.goto 8, 3) := by decide +kernel
theorem dX4_of_41 : decode cX4_of 41 = .ok (.aload_n 0, 1) := by decide +kernel
theorem dX4_of_42 : decode cX4_of 42 = .ok (.iload_n 1, 1) := by decide +kernel
theorem dX4_of_43 : decode cX4_of 43 = .ok (.invokevirtual 95, 3) := by decide +kernel
theorem dX4_of_46 : decode cX4_of 46 = .ok (.ireturn, 1) := by decide +kernel
theorem dX4_isPart_0 : decode cX4_isPart 0 = .ok (.iload_n 0, 1) := by decide +kernel
theorem dX4_isPart_1 : decode cX4_isPart 1 = .ok (.lookupswitch 49 #[(1, 27), (2, 37)], 27) := by decide +kernel
theorem dX4_isPart_28 : decode cX4_isPart 28 = .ok (.iload_n 1, 1) := by decide +kernel
theorem dX4_isPart_29 : decode cX4_isPart 29 = .ok (.i2l, 1) := by decide +kernel
theorem dX4_isPart_30 : decode cX4_isPart 30 = .ok (.lconst 0, 1) := by decide +kernel
theorem dX4_isPart_31 : decode cX4_isPart 31 = .ok (.ldc2_w 98, 3) := by decide +kernel
theorem dX4_isPart_34 : decode cX4_isPart 34 = .ok (.invokestatic 51, 3) := by decide +kernel
theorem dX4_isPart_37 : decode cX4_isPart 37 = .ok (.ireturn, 1) := by decide +kernel
theorem dX4_isPart_38 : decode cX4_isPart 38 = .ok (.iload_n 1, 1) := by decide +kernel
theorem dX4_isPart_39 : decode cX4_isPart 39 = .ok (.i2l, 1) := by decide +kernel
theorem dX4_isPart_40 : decode cX4_isPart 40 = .ok (.ldc2_w 100, 3) := by decide +kernel
theorem dX4_isPart_43 : decode cX4_isPart 43 = .ok (.ldc2_w 49, 3) := by decide +kernel
theorem dX4_isPart_46 : decode cX4_isPart 46 = .ok (.invokestatic 51, 3) := by decide +kernel
theorem dX4_isPart_49 : decode cX4_isPart 49 = .ok (.ireturn, 1) := by decide +kernel
theorem dX4_isPart_50 : decode cX4_isPart 50 = .ok (.iload_n 0, 1) := by decide +kernel
theorem dX4_isPart_51 : decode cX4_isPart 51 = .ok (.iconst 4, 1) := by decide +kernel
theorem dX4_isPart_52 : decode cX4_isPart 52 = .ok (.if_icmp .ne 19, 3) := by decide +kernel
theorem dX4_isPart_55 : decode cX4_isPart 55 = .ok (.iload_n 1, 1) := by decide +kernel
theorem dX4_isPart_56 : decode cX4_isPart 56 = .ok (.i2l, 1) := by decide +kernel
theorem dX4_isPart_57 : decode cX4_isPart 57 = .ok (.lconst 0, 1) := by decide +kernel
theorem dX4_isPart_58 : decode cX4_isPart 58 = .ok (.ldc2_w 102, 3) := by decide +kernel
theorem dX4_isPart_61 : decode cX4_isPart 61 = .ok (.invokestatic 51, 3) := by decide +kernel
theorem dX4_isPart_64 : decode cX4_isPart 64 = .ok (.ifCond .eq 7, 3) := by decide +kernel
theorem dX4_isPart_67 : decode cX4_isPart 67 = .ok (.iconst 1, 1) := by decide +kernel
theorem dX4_isPart_68 : decode cX4_isPart 68 = .ok (.goto 4, 3) := by decide +kernel
theorem dX4_isPart_71 : decode cX4_isPart 71 = .ok (.iconst 0, 1) := by decide +kernel
theorem dX4_isPart_72 : decode cX4_isPart 72 = .ok (.ireturn, 1) := by decide +kernel
theorem dX4_set_0 : decode cX4_set 0 = .ok (.aload_n 0, 1) := by decide +kernel
theorem dX4_set_1 : decode cX4_set 1 = .ok (.iload_n 1, 1) := by decide +kernel
theorem dX4_set_2 : decode cX4_set 2 = .ok (.invokevirtual 55, 3) := by decide +kernel
theorem dX4_set_5 : decode cX4_set 5 = .ok (.ifCond .eq 24, 3) := by decide +kernel
theorem dX4_set_8 : decode cX4_set 8 = .ok (.iload_n 2, 1) := by decide +kernel
theorem dX4_set_9 : decode cX4_set 9 = .ok (.iload_n 3, 1) := by decide +kernel
theorem dX4_set_10 : decode cX4_set 10 = .ok (.invokestatic 104, 3) := by decide +kernel
theorem dX4_set_13 : decode cX4_set 13 = .ok (.ifCond .eq 16, 3) := by decide +kernel
theorem dX4_set_16 : decode cX4_set 16 = .ok (.aload_n 0, 1) := by decide +kernel
theorem dX4_set_17 : decode cX4_set 17 = .ok (.iload_n 1, 1) := by decide +kernel
theorem dX4_set_18 : decode cX4_set 18 = .ok (.iload_n 2, 1) := by decide +kernel
theorem dX4_set_19 : decode cX4_set 19 = .ok (.invokestatic 61, 3) := by decide +kernel
theorem dX4_set_22 : decode cX4_set 22 = .ok (.iload_n 3, 1) := by decide +kernel
theorem dX4_set_23 : decode cX4_set 23 = .ok (.invokevirtual 74, 3) := by decide +kernel
theorem dX4_set_26 : decode cX4_set 26 = .ok (.goto 9, 3) := by decide +kernel
theorem dX4_set_29 : decode cX4_set 29 = .ok (.aload_n 0, 1) := by decide +kernel
theorem dX4_set_30 : decode cX4_set 30 = .ok (.ldc 48, 2) := by decide +kernel
theorem dX4_set_32 : decode cX4_set 32 = .ok (.invokevirtual 77, 3) := by decide +kernel
theorem dX4_set_35 : decode cX4_set 35 = .ok (.ireturn, 1) := by decide +kernel
theorem dX4_turn_0 : decode cX4_turn 0 = .ok (.aload_n 0, 1) := by decide +kernel
theorem dX4_turn_1 : decode cX4_turn 1 = .ok (.iload_n 1, 1) := by decide +kernel
theorem dX4_turn_2 : decode cX4_turn 2 = .ok (.invokevirtual 55, 3) := by decide +kernel
theorem dX4_turn_5 : decode cX4_turn 5 = .ok (.ifCond .eq 23, 3) := by decide +kernel
theorem dX4_turn_8 : decode cX4_turn 8 = .ok (.iload_n 2, 1) := by decide +kernel
theorem dX4_turn_9 : decode cX4_turn 9 = .ok (.invokestatic 86, 3) := by decide +kernel
theorem dX4_turn_12 : decode cX4_turn 12 = .ok (.ifCond .eq 16, 3) := by decide +kernel
theorem dX4_turn_15 : decode cX4_turn 15 = .ok (.aload_n 0, 1) := by decide +kernel
theorem dX4_turn_16 : decode cX4_turn 16 = .ok (.iload_n 1, 1) := by decide +kernel
theorem dX4_turn_17 : decode cX4_turn 17 = .ok (.iconst 0, 1) := by decide +kernel
theorem dX4_turn_18 : decode cX4_turn 18 = .ok (.invokestatic 61, 3) := by decide +kernel
theorem dX4_turn_21 : decode cX4_turn 21 = .ok (.iload_n 2, 1) := by decide +kernel
theorem dX4_turn_22 : decode cX4_turn 22 = .ok (.invokevirtual 74, 3) := by decide +kernel
theorem dX4_turn_25 : decode cX4_turn 25 = .ok (.goto 9, 3) := by decide +kernel
theorem dX4_turn_28 : decode cX4_turn 28 = .ok (.aload_n 0, 1) := by decide +kernel
theorem dX4_turn_29 : decode cX4_turn 29 = .ok (.ldc 48, 2) := by decide +kernel
theorem dX4_turn_31 : decode cX4_turn 31 = .ok (.invokevirtual 77, 3) := by decide +kernel
theorem dX4_turn_34 : decode cX4_turn 34 = .ok (.ireturn, 1) := by decide +kernel
theorem dX4_isUnder_0 : decode cX4_isUnder 0 = .ok (.iload_n 1, 1) := by decide +kernel
theorem dX4_isUnder_1 : decode cX4_isUnder 1 = .ok (.ifCond .eq 28, 3) := by decide +kernel
theorem dX4_isUnder_4 : decode cX4_isUnder 4 = .ok (.iload_n 0, 1) := by decide +kernel
theorem dX4_isUnder_5 : decode cX4_isUnder 5 = .ok (.iload_n 1, 1) := by decide +kernel
theorem dX4_isUnder_6 : decode cX4_isUnder 6 = .ok (.if_icmp .eq 23, 3) := by decide +kernel
theorem dX4_isUnder_9 : decode cX4_isUnder 9 = .ok (.iload_n 0, 1) := by decide +kernel
theorem dX4_isUnder_10 : decode cX4_isUnder 10 = .ok (.iconst 4, 1) := by decide +kernel
theorem dX4_isUnder_11 : decode cX4_isUnder 11 = .ok (.if_icmp .ne 8, 3) := by decide +kernel
theorem dX4_isUnder_14 : decode cX4_isUnder 14 = .ok (.iload_n 1, 1) := by decide +kernel
theorem dX4_isUnder_15 : decode cX4_isUnder 15 = .ok (.iconst 1, 1) := by decide +kernel
theorem dX4_isUnder_16 : decode cX4_isUnder 16 = .ok (.if_icmp .eq 13, 3) := by decide +kernel
theorem dX4_isUnder_19 : decode cX4_isUnder 19 = .ok (.iload_n 0, 1) := by decide +kernel
theorem dX4_isUnder_20 : decode cX4_isUnder 20 = .ok (.iconst 5, 1) := by decide +kernel
theorem dX4_isUnder_21 : decode cX4_isUnder 21 = .ok (.if_icmp .ne 12, 3) := by decide +kernel
theorem dX4_isUnder_24 : decode cX4_isUnder 24 = .ok (.iload_n 1, 1) := by decide +kernel
theorem dX4_isUnder_25 : decode cX4_isUnder 25 = .ok (.iconst 3, 1) := by decide +kernel
theorem dX4_isUnder_26 : decode cX4_isUnder 26 = .ok (.if_icmp .ne 7, 3) := by decide +kernel
theorem dX4_isUnder_29 : decode cX4_isUnder 29 = .ok (.iconst 1, 1) := by decide +kernel
theorem dX4_isUnder_30 : decode cX4_isUnder 30 = .ok (.goto 4, 3) := by decide +kernel
theorem dX4_isUnder_33 : decode cX4_isUnder 33 = .ok (.iconst 0, 1) := by decide +kernel
theorem dX4_isUnder_34 : decode cX4_isUnder 34 = .ok (.ireturn, 1) := by decide +kernel
theorem dX4_as_0 : decode cX4_as 0 = .ok (.aload_n 0, 1) := by decide +kernel
theorem dX4_as_1 : decode cX4_as 1 = .ok (.iload_n 1, 1) := by decide +kernel
theorem dX4_as_2 : decode cX4_as 2 = .ok (.invokevirtual 55, 3) := by decide +kernel
theorem dX4_as_5 : decode cX4_as 5 = .ok (.ifCond .eq 10, 3) := by decide +kernel
theorem dX4_as_8 : decode cX4_as 8 = .ok (.iload_n 2, 1) := by decide +kernel
theorem dX4_as_9 : decode cX4_as 9 = .ok (.invokestatic 86, 3) := by decide +kernel
theorem dX4_as_12 : decode cX4_as 12 = .ok (.ifCond .ne 10, 3) := by decide +kernel
theorem dX4_as_15 : decode cX4_as 15 = .ok (.aload_n 0, 1) := by decide +kernel
theorem dX4_as_16 : decode cX4_as 16 = .ok (.ldc 48, 2) := by decide +kernel
theorem dX4_as_18 : decode cX4_as 18 = .ok (.invokevirtual 77, 3) := by decide +kernel
theorem dX4_as_21 : decode cX4_as 21 = .ok (.ireturn, 1) := by decide +kernel
theorem dX4_as_22 : decode cX4_as 22 = .ok (.aload_n 0, 1) := by decide +kernel
theorem dX4_as_23 : decode cX4_as 23 = .ok (.iload_n 1, 1) := by decide +kernel
theorem dX4_as_24 : decode cX4_as 24 = .ok (.iconst 0, 1) := by decide +kernel
theorem dX4_as_25 : decode cX4_as 25 = .ok (.invokevirtual 64, 3) := by decide +kernel
theorem dX4_as_28 : decode cX4_as 28 = .ok (.iload_n 2, 1) := by decide +kernel
theorem dX4_as_29 : decode cX4_as 29 = .ok (.invokestatic 108, 3) := by decide +kernel
theorem dX4_as_32 : decode cX4_as 32 = .ok (.ifCond .eq 12, 3) := by decide +kernel
theorem dX4_as_35 : decode cX4_as 35 = .ok (.aload_n 0, 1) := by decide +kernel
theorem dX4_as_36 : decode cX4_as 36 = .ok (.iload_n 1, 1) := by decide +kernel
theorem dX4_as_37 : decode cX4_as 37 = .ok (.iconst 1, 1) := by decide +kernel
theorem dX4_as_38 : decode cX4_as 38 = .ok (.invokevirtual 64, 3) := by decide +kernel
theorem dX4_as_41 : decode cX4_as 41 = .ok (.goto 9, 3) := by decide +kernel
theorem dX4_as_44 : decode cX4_as 44 = .ok (.aload_n 0, 1) := by decide +kernel
theorem dX4_as_45 : decode cX4_as 45 = .ok (.ldc 111, 2) := by decide +kernel
theorem dX4_as_47 : decode cX4_as 47 = .ok (.invokevirtual 77, 3) := by decide +kernel
theorem dX4_as_50 : decode cX4_as 50 = .ok (.ireturn, 1) := by decide +kernel
theorem dX4_isQuarrel_0 : decode cX4_isQuarrel 0 = .ok (.aload_n 0, 1) := by decide +kernel
theorem dX4_isQuarrel_1 : decode cX4_isQuarrel 1 = .ok (.iload_n 1, 1) := by decide +kernel
theorem dX4_isQuarrel_2 : decode cX4_isQuarrel 2 = .ok (.iconst 3, 1) := by decide +kernel
theorem dX4_isQuarrel_3 : decode cX4_isQuarrel 3 = .ok (.invokevirtual 64, 3) := by decide +kernel
theorem dX4_isQuarrel_6 : decode cX4_isQuarrel 6 = .ok (.iload_n 2, 1) := by decide +kernel
theorem dX4_isQuarrel_7 : decode cX4_isQuarrel 7 = .ok (.ishr, 1) := by decide +kernel
theorem dX4_isQuarrel_8 : decode cX4_isQuarrel 8 = .ok (.iconst 1, 1) := by decide +kernel
theorem dX4_isQuarrel_9 : decode cX4_isQuarrel 9 = .ok (.iand, 1) := by decide +kernel
theorem dX4_isQuarrel_10 : decode cX4_isQuarrel 10 = .ok (.iconst 1, 1) := by decide +kernel
theorem dX4_isQuarrel_11 : decode cX4_isQuarrel 11 = .ok (.if_icmp .ne 7, 3) := by decide +kernel
theorem dX4_isQuarrel_14 : decode cX4_isQuarrel 14 = .ok (.iconst 1, 1) := by decide +kernel
theorem dX4_isQuarrel_15 : decode cX4_isQuarrel 15 = .ok (.goto 4, 3) := by decide +kernel
theorem dX4_isQuarrel_18 : decode cX4_isQuarrel 18 = .ok (.iconst 0, 1) := by decide +kernel
theorem dX4_isQuarrel_19 : decode cX4_isQuarrel 19 = .ok (.ireturn, 1) := by decide +kernel
theorem dX4_quarrels_0 : decode cX4_quarrels 0 = .ok (.iload_n 1, 1) := by decide +kernel
theorem dX4_quarrels_1 : decode cX4_quarrels 1 = .ok (.iconst 3, 1) := by decide +kernel
theorem dX4_quarrels_2 : decode cX4_quarrels 2 = .ok (.invokestatic 61, 3) := by decide +kernel
theorem dX4_quarrels_5 : decode cX4_quarrels 5 = .ok (.istore 4, 2) := by decide +kernel
theorem dX4_quarrels_7 : decode cX4_quarrels 7 = .ok (.iload_n 2, 1) := by decide +kernel
theorem dX4_quarrels_8 : decode cX4_quarrels 8 = .ok (.iconst 3, 1) := by decide +kernel
theorem dX4_quarrels_9 : decode cX4_quarrels 9 = .ok (.invokestatic 61, 3) := by decide +kernel
theorem dX4_quarrels_12 : decode cX4_quarrels 12 = .ok (.istore 5, 2) := by decide +kernel
theorem dX4_quarrels_14 : decode cX4_quarrels 14 = .ok (.aload_n 0, 1) := by decide +kernel
theorem dX4_quarrels_15 : decode cX4_quarrels 15 = .ok (.getfield 7, 3) := by decide +kernel
theorem dX4_quarrels_18 : decode cX4_quarrels 18 = .ok (.iload 4, 2) := by decide +kernel
theorem dX4_quarrels_20 : decode cX4_quarrels 20 = .ok (.iload_n 3, 1) := by decide +kernel
theorem dX4_quarrels_21 : decode cX4_quarrels 21 = .ok (.ifCond .eq 17, 3) := by decide +kernel
theorem dX4_quarrels_24 : decode cX4_quarrels 24 = .ok (.aload_n 0, 1) := by decide +kernel
theorem dX4_quarrels_25 : decode cX4_quarrels 25 = .ok (.getfield 7, 3) := by decide +kernel
theorem dX4_quarrels_28 : decode cX4_quarrels 28 = .ok (.iload 4, 2) := by decide +kernel
theorem dX4_quarrels_30 : decode cX4_quarrels 30 = .ok (.iaload, 1) := by decide +kernel
theorem dX4_quarrels_31 : decode cX4_quarrels 31 = .ok (.iconst 1, 1) := by decide +kernel
theorem dX4_quarrels_32 : decode cX4_quarrels 32 = .ok (.iload_n 2, 1) := by decide +kernel
theorem dX4_quarrels_33 : decode cX4_quarrels 33 = .ok (.ishl, 1) := by decide +kernel
theorem dX4_quarrels_34 : decode cX4_quarrels 34 = .ok (.ior, 1) := by decide +kernel
theorem dX4_quarrels_35 : decode cX4_quarrels 35 = .ok (.goto 16, 3) := by decide +kernel
theorem dX4_quarrels_38 : decode cX4_quarrels 38 = .ok (.aload_n 0, 1) := by decide +kernel
theorem dX4_quarrels_39 : decode cX4_quarrels 39 = .ok (.getfield 7, 3) := by decide +kernel
theorem dX4_quarrels_42 : decode cX4_quarrels 42 = .ok (.iload 4, 2) := by decide +kernel
theorem dX4_quarrels_44 : decode cX4_quarrels 44 = .ok (.iaload, 1) := by decide +kernel
theorem dX4_quarrels_45 : decode cX4_quarrels 45 = .ok (.iconst 1, 1) := by decide +kernel
theorem dX4_quarrels_46 : decode cX4_quarrels 46 = .ok (.iload_n 2, 1) := by decide +kernel
theorem dX4_quarrels_47 : decode cX4_quarrels 47 = .ok (.ishl, 1) := by decide +kernel
theorem dX4_quarrels_48 : decode cX4_quarrels 48 = .ok (.iconst (-1), 1) := by decide +kernel
theorem dX4_quarrels_49 : decode cX4_quarrels 49 = .ok (.ixor, 1) := by decide +kernel
theorem dX4_quarrels_50 : decode cX4_quarrels 50 = .ok (.iand, 1) := by decide +kernel
theorem dX4_quarrels_51 : decode cX4_quarrels 51 = .ok (.iastore, 1) := by decide +kernel
theorem dX4_quarrels_52 : decode cX4_quarrels 52 = .ok (.aload_n 0, 1) := by decide +kernel
theorem dX4_quarrels_53 : decode cX4_quarrels 53 = .ok (.getfield 7, 3) := by decide +kernel
theorem dX4_quarrels_56 : decode cX4_quarrels 56 = .ok (.iload 5, 2) := by decide +kernel
theorem dX4_quarrels_58 : decode cX4_quarrels 58 = .ok (.iload_n 3, 1) := by decide +kernel
theorem dX4_quarrels_59 : decode cX4_quarrels 59 = .ok (.ifCond .eq 17, 3) := by decide +kernel
theorem dX4_quarrels_62 : decode cX4_quarrels 62 = .ok (.aload_n 0, 1) := by decide +kernel
theorem dX4_quarrels_63 : decode cX4_quarrels 63 = .ok (.getfield 7, 3) := by decide +kernel
theorem dX4_quarrels_66 : decode cX4_quarrels 66 = .ok (.iload 5, 2) := by decide +kernel
theorem dX4_quarrels_68 : decode cX4_quarrels 68 = .ok (.iaload, 1) := by decide +kernel
theorem dX4_quarrels_69 : decode cX4_quarrels 69 = .ok (.iconst 1, 1) := by decide +kernel
theorem dX4_quarrels_70 : decode cX4_quarrels 70 = .ok (.iload_n 1, 1) := by decide +kernel
theorem dX4_quarrels_71 : decode cX4_quarrels 71 = .ok (.ishl, 1) := by decide +kernel
theorem dX4_quarrels_72 : decode cX4_quarrels 72 = .ok (.ior, 1) := by decide +kernel
theorem dX4_quarrels_73 : decode cX4_quarrels 73 = .ok (.goto 16, 3) := by decide +kernel
theorem dX4_quarrels_76 : decode cX4_quarrels 76 = .ok (.aload_n 0, 1) := by decide +kernel
theorem dX4_quarrels_77 : decode cX4_quarrels 77 = .ok (.getfield 7, 3) := by decide +kernel
theorem dX4_quarrels_80 : decode cX4_quarrels 80 = .ok (.iload 5, 2) := by decide +kernel
theorem dX4_quarrels_82 : decode cX4_quarrels 82 = .ok (.iaload, 1) := by decide +kernel
theorem dX4_quarrels_83 : decode cX4_quarrels 83 = .ok (.iconst 1, 1) := by decide +kernel
theorem dX4_quarrels_84 : decode cX4_quarrels 84 = .ok (.iload_n 1, 1) := by decide +kernel
theorem dX4_quarrels_85 : decode cX4_quarrels 85 = .ok (.ishl, 1) := by decide +kernel
theorem dX4_quarrels_86 : decode cX4_quarrels 86 = .ok (.iconst (-1), 1) := by decide +kernel
theorem dX4_quarrels_87 : decode cX4_quarrels 87 = .ok (.ixor, 1) := by decide +kernel
theorem dX4_quarrels_88 : decode cX4_quarrels 88 = .ok (.iand, 1) := by decide +kernel
theorem dX4_quarrels_89 : decode cX4_quarrels 89 = .ok (.iastore, 1) := by decide +kernel
theorem dX4_quarrels_90 : decode cX4_quarrels 90 = .ok (.return_, 1) := by decide +kernel
theorem dX4_quarrel_0 : decode cX4_quarrel 0 = .ok (.aload_n 0, 1) := by decide +kernel
theorem dX4_quarrel_1 : decode cX4_quarrel 1 = .ok (.iload_n 1, 1) := by decide +kernel
theorem dX4_quarrel_2 : decode cX4_quarrel 2 = .ok (.iload_n 2, 1) := by decide +kernel
theorem dX4_quarrel_3 : decode cX4_quarrel 3 = .ok (.invokevirtual 112, 3) := by decide +kernel
theorem dX4_quarrel_6 : decode cX4_quarrel 6 = .ok (.ifCond .eq 13, 3) := by decide +kernel
theorem dX4_quarrel_9 : decode cX4_quarrel 9 = .ok (.iload_n 3, 1) := by decide +kernel
theorem dX4_quarrel_10 : decode cX4_quarrel 10 = .ok (.i2l, 1) := by decide +kernel
theorem dX4_quarrel_11 : decode cX4_quarrel 11 = .ok (.lconst 0, 1) := by decide +kernel
theorem dX4_quarrel_12 : decode cX4_quarrel 12 = .ok (.lconst 1, 1) := by decide +kernel
theorem dX4_quarrel_13 : decode cX4_quarrel 13 = .ok (.invokestatic 51, 3) := by decide +kernel
theorem dX4_quarrel_16 : decode cX4_quarrel 16 = .ok (.ifCond .ne 10, 3) := by decide +kernel
theorem dX4_quarrel_19 : decode cX4_quarrel 19 = .ok (.aload_n 0, 1) := by decide +kernel
theorem dX4_quarrel_20 : decode cX4_quarrel 20 = .ok (.ldc 48, 2) := by decide +kernel
theorem dX4_quarrel_22 : decode cX4_quarrel 22 = .ok (.invokevirtual 77, 3) := by decide +kernel
theorem dX4_quarrel_25 : decode cX4_quarrel 25 = .ok (.ireturn, 1) := by decide +kernel
theorem dX4_quarrel_26 : decode cX4_quarrel 26 = .ok (.aload_n 0, 1) := by decide +kernel
theorem dX4_quarrel_27 : decode cX4_quarrel 27 = .ok (.iload_n 1, 1) := by decide +kernel
theorem dX4_quarrel_28 : decode cX4_quarrel 28 = .ok (.iload_n 2, 1) := by decide +kernel
theorem dX4_quarrel_29 : decode cX4_quarrel 29 = .ok (.invokevirtual 115, 3) := by decide +kernel
theorem dX4_quarrel_32 : decode cX4_quarrel 32 = .ok (.ifCond .eq 7, 3) := by decide +kernel
theorem dX4_quarrel_35 : decode cX4_quarrel 35 = .ok (.iconst 1, 1) := by decide +kernel
theorem dX4_quarrel_36 : decode cX4_quarrel 36 = .ok (.goto 4, 3) := by decide +kernel
theorem dX4_quarrel_39 : decode cX4_quarrel 39 = .ok (.iconst 0, 1) := by decide +kernel
theorem dX4_quarrel_40 : decode cX4_quarrel 40 = .ok (.istore 4, 2) := by decide +kernel
theorem dX4_quarrel_42 : decode cX4_quarrel 42 = .ok (.aload_n 0, 1) := by decide +kernel
theorem dX4_quarrel_43 : decode cX4_quarrel 43 = .ok (.iload_n 1, 1) := by decide +kernel
theorem dX4_quarrel_44 : decode cX4_quarrel 44 = .ok (.iload_n 2, 1) := by decide +kernel
theorem dX4_quarrel_45 : decode cX4_quarrel 45 = .ok (.iload_n 3, 1) := by decide +kernel
theorem dX4_quarrel_46 : decode cX4_quarrel 46 = .ok (.iconst 1, 1) := by decide +kernel
theorem dX4_quarrel_47 : decode cX4_quarrel 47 = .ok (.if_icmp .ne 7, 3) := by decide +kernel
theorem dX4_quarrel_50 : decode cX4_quarrel 50 = .ok (.iconst 1, 1) := by decide +kernel
theorem dX4_quarrel_51 : decode cX4_quarrel 51 = .ok (.goto 4, 3) := by decide +kernel
theorem dX4_quarrel_54 : decode cX4_quarrel 54 = .ok (.iconst 0, 1) := by decide +kernel
theorem dX4_quarrel_55 : decode cX4_quarrel 55 = .ok (.invokevirtual 118, 3) := by decide +kernel
theorem dX4_quarrel_58 : decode cX4_quarrel 58 = .ok (.iload 4, 2) := by decide +kernel
theorem dX4_quarrel_60 : decode cX4_quarrel 60 = .ok (.ireturn, 1) := by decide +kernel
theorem dX4_sit_0 : decode cX4_sit 0 = .ok (.aload_n 0, 1) := by decide +kernel
theorem dX4_sit_1 : decode cX4_sit 1 = .ok (.iload_n 1, 1) := by decide +kernel
theorem dX4_sit_2 : decode cX4_sit 2 = .ok (.invokevirtual 55, 3) := by decide +kernel
theorem dX4_sit_5 : decode cX4_sit 5 = .ok (.ifCond .eq 17, 3) := by decide +kernel
theorem dX4_sit_8 : decode cX4_sit 8 = .ok (.iload_n 2, 1) := by decide +kernel
theorem dX4_sit_9 : decode cX4_sit 9 = .ok (.i2l, 1) := by decide +kernel
theorem dX4_sit_10 : decode cX4_sit 10 = .ok (.ldc2_w 100, 3) := by decide +kernel
theorem dX4_sit_13 : decode cX4_sit 13 = .ok (.ldc2_w 49, 3) := by decide +kernel
theorem dX4_sit_16 : decode cX4_sit 16 = .ok (.invokestatic 51, 3) := by decide +kernel
theorem dX4_sit_19 : decode cX4_sit 19 = .ok (.ifCond .ne 10, 3) := by decide +kernel
theorem dX4_sit_22 : decode cX4_sit 22 = .ok (.aload_n 0, 1) := by decide +kernel
theorem dX4_sit_23 : decode cX4_sit 23 = .ok (.ldc 48, 2) := by decide +kernel
theorem dX4_sit_25 : decode cX4_sit 25 = .ok (.invokevirtual 77, 3) := by decide +kernel
theorem dX4_sit_28 : decode cX4_sit 28 = .ok (.ireturn, 1) := by decide +kernel
theorem dX4_sit_29 : decode cX4_sit 29 = .ok (.iload_n 2, 1) := by decide +kernel
theorem dX4_sit_30 : decode cX4_sit 30 = .ok (.iconst (-1), 1) := by decide +kernel
theorem dX4_sit_31 : decode cX4_sit 31 = .ok (.if_icmp .ne 7, 3) := by decide +kernel
theorem dX4_sit_34 : decode cX4_sit 34 = .ok (.iconst (-1), 1) := by decide +kernel
theorem dX4_sit_35 : decode cX4_sit 35 = .ok (.goto 8, 3) := by decide +kernel
theorem dX4_sit_38 : decode cX4_sit 38 = .ok (.aload_n 0, 1) := by decide +kernel
theorem dX4_sit_39 : decode cX4_sit 39 = .ok (.iload_n 2, 1) := by decide +kernel
theorem dX4_sit_40 : decode cX4_sit 40 = .ok (.invokevirtual 83, 3) := by decide +kernel
theorem dX4_sit_43 : decode cX4_sit 43 = .ok (.istore_n 3, 1) := by decide +kernel
theorem dX4_sit_44 : decode cX4_sit 44 = .ok (.iload_n 3, 1) := by decide +kernel
theorem dX4_sit_45 : decode cX4_sit 45 = .ok (.iconst (-1), 1) := by decide +kernel
theorem dX4_sit_46 : decode cX4_sit 46 = .ok (.if_icmp .eq 17, 3) := by decide +kernel
theorem dX4_sit_49 : decode cX4_sit 49 = .ok (.iload_n 3, 1) := by decide +kernel
theorem dX4_sit_50 : decode cX4_sit 50 = .ok (.iload_n 1, 1) := by decide +kernel
theorem dX4_sit_51 : decode cX4_sit 51 = .ok (.if_icmp .eq 12, 3) := by decide +kernel
theorem dX4_sit_54 : decode cX4_sit 54 = .ok (.aload_n 0, 1) := by decide +kernel
theorem dX4_sit_55 : decode cX4_sit 55 = .ok (.ldc 122, 2) := by decide +kernel
theorem dX4_sit_57 : decode cX4_sit 57 = .ok (.invokevirtual 77, 3) := by decide +kernel
theorem dX4_sit_60 : decode cX4_sit 60 = .ok (.goto 13, 3) := by decide +kernel
theorem dX4_sit_63 : decode cX4_sit 63 = .ok (.aload_n 0, 1) := by decide +kernel
theorem dX4_sit_64 : decode cX4_sit 64 = .ok (.iload_n 1, 1) := by decide +kernel
theorem dX4_sit_65 : decode cX4_sit 65 = .ok (.iconst 5, 1) := by decide +kernel
theorem dX4_sit_66 : decode cX4_sit 66 = .ok (.invokestatic 61, 3) := by decide +kernel
theorem dX4_sit_69 : decode cX4_sit 69 = .ok (.iload_n 2, 1) := by decide +kernel
theorem dX4_sit_70 : decode cX4_sit 70 = .ok (.invokevirtual 74, 3) := by decide +kernel
theorem dX4_sit_73 : decode cX4_sit 73 = .ok (.ireturn, 1) := by decide +kernel
theorem dX4_changes_0 : decode cX4_changes 0 = .ok (.aload_n 0, 1) := by decide +kernel
theorem dX4_changes_1 : decode cX4_changes 1 = .ok (.iload_n 1, 1) := by decide +kernel
theorem dX4_changes_2 : decode cX4_changes 2 = .ok (.iconst 5, 1) := by decide +kernel
theorem dX4_changes_3 : decode cX4_changes 3 = .ok (.invokestatic 61, 3) := by decide +kernel
theorem dX4_changes_6 : decode cX4_changes 6 = .ok (.aload_n 0, 1) := by decide +kernel
theorem dX4_changes_7 : decode cX4_changes 7 = .ok (.iload_n 2, 1) := by decide +kernel
theorem dX4_changes_8 : decode cX4_changes 8 = .ok (.iconst 5, 1) := by decide +kernel
theorem dX4_changes_9 : decode cX4_changes 9 = .ok (.invokevirtual 64, 3) := by decide +kernel
theorem dX4_changes_12 : decode cX4_changes 12 = .ok (.invokevirtual 74, 3) := by decide +kernel
theorem dX4_changes_15 : decode cX4_changes 15 = .ok (.istore_n 3, 1) := by decide +kernel
theorem dX4_changes_16 : decode cX4_changes 16 = .ok (.aload_n 0, 1) := by decide +kernel
theorem dX4_changes_17 : decode cX4_changes 17 = .ok (.getfield 7, 3) := by decide +kernel
theorem dX4_changes_20 : decode cX4_changes 20 = .ok (.iload_n 2, 1) := by decide +kernel
theorem dX4_changes_21 : decode cX4_changes 21 = .ok (.iconst 5, 1) := by decide +kernel
theorem dX4_changes_22 : decode cX4_changes 22 = .ok (.invokestatic 61, 3) := by decide +kernel
theorem dX4_changes_25 : decode cX4_changes 25 = .ok (.iload_n 3, 1) := by decide +kernel
theorem dX4_changes_26 : decode cX4_changes 26 = .ok (.iastore, 1) := by decide +kernel
theorem dX4_changes_27 : decode cX4_changes 27 = .ok (.return_, 1) := by decide +kernel
theorem dX4_change_0 : decode cX4_change 0 = .ok (.aload_n 0, 1) := by decide +kernel
theorem dX4_change_1 : decode cX4_change 1 = .ok (.iload_n 1, 1) := by decide +kernel
theorem dX4_change_2 : decode cX4_change 2 = .ok (.iload_n 2, 1) := by decide +kernel
theorem dX4_change_3 : decode cX4_change 3 = .ok (.invokevirtual 112, 3) := by decide +kernel
theorem dX4_change_6 : decode cX4_change 6 = .ok (.ifCond .ne 10, 3) := by decide +kernel
theorem dX4_change_9 : decode cX4_change 9 = .ok (.aload_n 0, 1) := by decide +kernel
theorem dX4_change_10 : decode cX4_change 10 = .ok (.ldc 48, 2) := by decide +kernel
theorem dX4_change_12 : decode cX4_change 12 = .ok (.invokevirtual 77, 3) := by decide +kernel
theorem dX4_change_15 : decode cX4_change 15 = .ok (.ireturn, 1) := by decide +kernel
theorem dX4_change_16 : decode cX4_change 16 = .ok (.aload_n 0, 1) := by decide +kernel
theorem dX4_change_17 : decode cX4_change 17 = .ok (.iload_n 1, 1) := by decide +kernel
theorem dX4_change_18 : decode cX4_change 18 = .ok (.iload_n 2, 1) := by decide +kernel
theorem dX4_change_19 : decode cX4_change 19 = .ok (.invokevirtual 123, 3) := by decide +kernel
theorem dX4_change_22 : decode cX4_change 22 = .ok (.iconst 1, 1) := by decide +kernel
theorem dX4_change_23 : decode cX4_change 23 = .ok (.ireturn, 1) := by decide +kernel
theorem dX4_hourNow_0 : decode cX4_hourNow 0 = .ok (.aload_n 0, 1) := by decide +kernel
theorem dX4_hourNow_1 : decode cX4_hourNow 1 = .ok (.getfield 7, 3) := by decide +kernel
theorem dX4_hourNow_4 : decode cX4_hourNow 4 = .ok (.iconst 1, 1) := by decide +kernel
theorem dX4_hourNow_5 : decode cX4_hourNow 5 = .ok (.iaload, 1) := by decide +kernel
theorem dX4_hourNow_6 : decode cX4_hourNow 6 = .ok (.bipush 24, 2) := by decide +kernel
theorem dX4_hourNow_8 : decode cX4_hourNow 8 = .ok (.irem, 1) := by decide +kernel
theorem dX4_hourNow_9 : decode cX4_hourNow 9 = .ok (.ireturn, 1) := by decide +kernel
theorem dX4_isSunny_0 : decode cX4_isSunny 0 = .ok (.aload_n 0, 1) := by decide +kernel
theorem dX4_isSunny_1 : decode cX4_isSunny 1 = .ok (.invokevirtual 127, 3) := by decide +kernel
theorem dX4_isSunny_4 : decode cX4_isSunny 4 = .ok (.bipush 10, 2) := by decide +kernel
theorem dX4_isSunny_6 : decode cX4_isSunny 6 = .ok (.if_icmp .lt 16, 3) := by decide +kernel
theorem dX4_isSunny_9 : decode cX4_isSunny 9 = .ok (.aload_n 0, 1) := by decide +kernel
theorem dX4_isSunny_10 : decode cX4_isSunny 10 = .ok (.invokevirtual 127, 3) := by decide +kernel
theorem dX4_isSunny_13 : decode cX4_isSunny 13 = .ok (.bipush 14, 2) := by decide +kernel
theorem dX4_isSunny_15 : decode cX4_isSunny 15 = .ok (.if_icmp .gt 7, 3) := by decide +kernel
theorem dX4_isSunny_18 : decode cX4_isSunny 18 = .ok (.iconst 1, 1) := by decide +kernel
theorem dX4_isSunny_19 : decode cX4_isSunny 19 = .ok (.goto 4, 3) := by decide +kernel
theorem dX4_isSunny_22 : decode cX4_isSunny 22 = .ok (.iconst 0, 1) := by decide +kernel
theorem dX4_isSunny_23 : decode cX4_isSunny 23 = .ok (.ireturn, 1) := by decide +kernel
theorem dX4_likes_0 : decode cX4_likes 0 = .ok (.aload_n 0, 1) := by decide +kernel
theorem dX4_likes_1 : decode cX4_likes 1 = .ok (.getfield 7, 3) := by decide +kernel
theorem dX4_likes_4 : decode cX4_likes 4 = .ok (.iload_n 2, 1) := by decide +kernel
theorem dX4_likes_5 : decode cX4_likes 5 = .ok (.iconst 0, 1) := by decide +kernel
theorem dX4_likes_6 : decode cX4_likes 6 = .ok (.invokestatic 44, 3) := by decide +kernel
theorem dX4_likes_9 : decode cX4_likes 9 = .ok (.iaload, 1) := by decide +kernel
theorem dX4_likes_10 : decode cX4_likes 10 = .ok (.istore_n 3, 1) := by decide +kernel
theorem dX4_likes_11 : decode cX4_likes 11 = .ok (.aload_n 0, 1) := by decide +kernel
theorem dX4_likes_12 : decode cX4_likes 12 = .ok (.getfield 7, 3) := by decide +kernel
theorem dX4_likes_15 : decode cX4_likes 15 = .ok (.iload_n 2, 1) := by decide +kernel
theorem dX4_likes_16 : decode cX4_likes 16 = .ok (.iconst 1, 1) := by decide +kernel
theorem dX4_likes_17 : decode cX4_likes 17 = .ok (.invokestatic 44, 3) := by decide +kernel
theorem dX4_likes_20 : decode cX4_likes 20 = .ok (.iaload, 1) := by decide +kernel
theorem dX4_likes_21 : decode cX4_likes 21 = .ok (.istore 4, 2) := by decide +kernel
theorem dX4_likes_23 : decode cX4_likes 23 = .ok (.aload_n 0, 1) := by decide +kernel
theorem dX4_likes_24 : decode cX4_likes 24 = .ok (.invokevirtual 131, 3) := by decide +kernel
theorem dX4_likes_27 : decode cX4_likes 27 = .ok (.ifCond .eq 18, 3) := by decide +kernel
theorem dX4_likes_30 : decode cX4_likes 30 = .ok (.iload_n 3, 1) := by decide +kernel
theorem dX4_likes_31 : decode cX4_likes 31 = .ok (.bipush 10, 2) := by decide +kernel
theorem dX4_likes_33 : decode cX4_likes 33 = .ok (.if_icmp .le 12, 3) := by decide +kernel
theorem dX4_likes_36 : decode cX4_likes 36 = .ok (.iload_n 3, 1) := by decide +kernel
theorem dX4_likes_37 : decode cX4_likes 37 = .ok (.iload 4, 2) := by decide +kernel
theorem dX4_likes_39 : decode cX4_likes 39 = .ok (.isub, 1) := by decide +kernel
theorem dX4_likes_40 : decode cX4_likes 40 = .ok (.iconst 4, 1) := by decide +kernel
theorem dX4_likes_41 : decode cX4_likes 41 = .ok (.isub, 1) := by decide +kernel
theorem dX4_likes_42 : decode cX4_likes 42 = .ok (.goto 7, 3) := by decide +kernel
theorem dX4_likes_45 : decode cX4_likes 45 = .ok (.iload_n 3, 1) := by decide +kernel
theorem dX4_likes_46 : decode cX4_likes 46 = .ok (.iload 4, 2) := by decide +kernel
theorem dX4_likes_48 : decode cX4_likes 48 = .ok (.isub, 1) := by decide +kernel
theorem dX4_likes_49 : decode cX4_likes 49 = .ok (.istore 5, 2) := by decide +kernel
theorem dX4_likes_51 : decode cX4_likes 51 = .ok (.iload_n 3, 1) := by decide +kernel
theorem dX4_likes_52 : decode cX4_likes 52 = .ok (.iconst 2, 1) := by decide +kernel
theorem dX4_likes_53 : decode cX4_likes 53 = .ok (.idiv, 1) := by decide +kernel
theorem dX4_likes_54 : decode cX4_likes 54 = .ok (.iconst 2, 1) := by decide +kernel
theorem dX4_likes_55 : decode cX4_likes 55 = .ok (.iload 4, 2) := by decide +kernel
theorem dX4_likes_57 : decode cX4_likes 57 = .ok (.imul, 1) := by decide +kernel
theorem dX4_likes_58 : decode cX4_likes 58 = .ok (.isub, 1) := by decide +kernel
theorem dX4_likes_59 : decode cX4_likes 59 = .ok (.istore 6, 2) := by decide +kernel
theorem dX4_likes_61 : decode cX4_likes 61 = .ok (.aload_n 0, 1) := by decide +kernel
theorem dX4_likes_62 : decode cX4_likes 62 = .ok (.iload_n 1, 1) := by decide +kernel
theorem dX4_likes_63 : decode cX4_likes 63 = .ok (.iconst 2, 1) := by decide +kernel
theorem dX4_likes_64 : decode cX4_likes 64 = .ok (.invokevirtual 64, 3) := by decide +kernel
theorem dX4_likes_67 : decode cX4_likes 67 = .ok (.iload_n 2, 1) := by decide +kernel
theorem dX4_likes_68 : decode cX4_likes 68 = .ok (.if_icmp .ne 7, 3) := by decide +kernel
theorem dX4_likes_71 : decode cX4_likes 71 = .ok (.iconst 1, 1) := by decide +kernel
theorem dX4_likes_72 : decode cX4_likes 72 = .ok (.goto 4, 3) := by decide +kernel
theorem dX4_likes_75 : decode cX4_likes 75 = .ok (.iconst 0, 1) := by decide +kernel
theorem dX4_likes_76 : decode cX4_likes 76 = .ok (.istore 7, 2) := by decide +kernel
theorem dX4_likes_78 : decode cX4_likes 78 = .ok (.iload 7, 2) := by decide +kernel
theorem dX4_likes_80 : decode cX4_likes 80 = .ok (.ifCond .eq 17, 3) := by decide +kernel
theorem dX4_likes_83 : decode cX4_likes 83 = .ok (.iload 5, 2) := by decide +kernel
theorem dX4_likes_85 : decode cX4_likes 85 = .ok (.aload_n 0, 1) := by decide +kernel
theorem dX4_likes_86 : decode cX4_likes 86 = .ok (.iload_n 1, 1) := by decide +kernel
theorem dX4_likes_87 : decode cX4_likes 87 = .ok (.iconst 1, 1) := by decide +kernel
theorem dX4_likes_88 : decode cX4_likes 88 = .ok (.invokevirtual 64, 3) := by decide +kernel
theorem dX4_likes_91 : decode cX4_likes 91 = .ok (.iconst 4, 1) := by decide +kernel
theorem dX4_likes_92 : decode cX4_likes 92 = .ok (.idiv, 1) := by decide +kernel
theorem dX4_likes_93 : decode cX4_likes 93 = .ok (.iadd, 1) := by decide +kernel
theorem dX4_likes_94 : decode cX4_likes 94 = .ok (.goto 5, 3) := by decide +kernel
theorem dX4_likes_97 : decode cX4_likes 97 = .ok (.iload 5, 2) := by decide +kernel
theorem dX4_likes_99 : decode cX4_likes 99 = .ok (.istore 8, 2) := by decide +kernel
theorem dX4_likes_101 : decode cX4_likes 101 = .ok (.aload_n 0, 1) := by decide +kernel
theorem dX4_likes_102 : decode cX4_likes 102 = .ok (.iload_n 1, 1) := by decide +kernel
theorem dX4_likes_103 : decode cX4_likes 103 = .ok (.iconst 0, 1) := by decide +kernel
theorem dX4_likes_104 : decode cX4_likes 104 = .ok (.invokevirtual 64, 3) := by decide +kernel
theorem dX4_likes_107 : decode cX4_likes 107 = .ok (.tableswitch 77 1 5 #[33, 36, 41, 44, 60], 33) := by decide +kernel
theorem dX4_likes_140 : decode cX4_likes 140 = .ok (.iload 8, 2) := by decide +kernel
theorem dX4_likes_142 : decode cX4_likes 142 = .ok (.ireturn, 1) := by decide +kernel
theorem dX4_likes_143 : decode cX4_likes 143 = .ok (.iload 5, 2) := by decide +kernel
theorem dX4_likes_145 : decode cX4_likes 145 = .ok (.iconst 3, 1) := by decide +kernel
theorem dX4_likes_146 : decode cX4_likes 146 = .ok (.iadd, 1) := by decide +kernel
theorem dX4_likes_147 : decode cX4_likes 147 = .ok (.ireturn, 1) := by decide +kernel
theorem dX4_likes_148 : decode cX4_likes 148 = .ok (.iload 6, 2) := by decide +kernel
theorem dX4_likes_150 : decode cX4_likes 150 = .ok (.ireturn, 1) := by decide +kernel
theorem dX4_likes_151 : decode cX4_likes 151 = .ok (.iload 7, 2) := by decide +kernel
theorem dX4_likes_153 : decode cX4_likes 153 = .ok (.ifCond .eq 11, 3) := by decide +kernel
theorem dX4_likes_156 : decode cX4_likes 156 = .ok (.iload 8, 2) := by decide +kernel
theorem dX4_likes_158 : decode cX4_likes 158 = .ok (.bipush 10, 2) := by decide +kernel
theorem dX4_likes_160 : decode cX4_likes 160 = .ok (.iadd, 1) := by decide +kernel
theorem dX4_likes_161 : decode cX4_likes 161 = .ok (.goto 5, 3) := by decide +kernel
theorem dX4_likes_164 : decode cX4_likes 164 = .ok (.iload 8, 2) := by decide +kernel
theorem dX4_likes_166 : decode cX4_likes 166 = .ok (.ireturn, 1) := by decide +kernel
theorem dX4_likes_167 : decode cX4_likes 167 = .ok (.iload_n 2, 1) := by decide +kernel
theorem dX4_likes_168 : decode cX4_likes 168 = .ok (.bipush 7, 2) := by decide +kernel
theorem dX4_likes_170 : decode cX4_likes 170 = .ok (.if_icmp .ne 11, 3) := by decide +kernel
theorem dX4_likes_173 : decode cX4_likes 173 = .ok (.iload 6, 2) := by decide +kernel
theorem dX4_likes_175 : decode cX4_likes 175 = .ok (.bipush 6, 2) := by decide +kernel
theorem dX4_likes_177 : decode cX4_likes 177 = .ok (.iadd, 1) := by decide +kernel
theorem dX4_likes_178 : decode cX4_likes 178 = .ok (.goto 5, 3) := by decide +kernel
theorem dX4_likes_181 : decode cX4_likes 181 = .ok (.iload 6, 2) := by decide +kernel
theorem dX4_likes_183 : decode cX4_likes 183 = .ok (.ireturn, 1) := by decide +kernel
theorem dX4_likes_184 : decode cX4_likes 184 = .ok (.iload 5, 2) := by decide +kernel
theorem dX4_likes_186 : decode cX4_likes 186 = .ok (.ireturn, 1) := by decide +kernel
theorem dX4_minds_0 : decode cX4_minds 0 = .ok (.aload_n 0, 1) := by decide +kernel
theorem dX4_minds_1 : decode cX4_minds 1 = .ok (.iload_n 1, 1) := by decide +kernel
theorem dX4_minds_2 : decode cX4_minds 2 = .ok (.iload_n 2, 1) := by decide +kernel
theorem dX4_minds_3 : decode cX4_minds 3 = .ok (.invokevirtual 115, 3) := by decide +kernel
theorem dX4_minds_6 : decode cX4_minds 6 = .ok (.ifCond .eq 8, 3) := by decide +kernel
theorem dX4_minds_9 : decode cX4_minds 9 = .ok (.bipush (-6), 2) := by decide +kernel
theorem dX4_minds_11 : decode cX4_minds 11 = .ok (.goto 4, 3) := by decide +kernel
theorem dX4_minds_14 : decode cX4_minds 14 = .ok (.iconst 1, 1) := by decide +kernel
theorem dX4_minds_15 : decode cX4_minds 15 = .ok (.istore_n 3, 1) := by decide +kernel
theorem dX4_minds_16 : decode cX4_minds 16 = .ok (.aload_n 0, 1) := by decide +kernel
theorem dX4_minds_17 : decode cX4_minds 17 = .ok (.iload_n 1, 1) := by decide +kernel
theorem dX4_minds_18 : decode cX4_minds 18 = .ok (.iconst 0, 1) := by decide +kernel
theorem dX4_minds_19 : decode cX4_minds 19 = .ok (.invokevirtual 64, 3) := by decide +kernel
theorem dX4_minds_22 : decode cX4_minds 22 = .ok (.tableswitch 56 2 5 #[30, 34, 36, 40], 30) := by decide +kernel
theorem dX4_minds_52 : decode cX4_minds 52 = .ok (.iconst 2, 1) := by decide +kernel
theorem dX4_minds_53 : decode cX4_minds 53 = .ok (.iload_n 3, 1) := by decide +kernel
theorem dX4_minds_54 : decode cX4_minds 54 = .ok (.imul, 1) := by decide +kernel
theorem dX4_minds_55 : decode cX4_minds 55 = .ok (.ireturn, 1) := by decide +kernel
theorem dX4_minds_56 : decode cX4_minds 56 = .ok (.iconst 0, 1) := by decide +kernel
theorem dX4_minds_57 : decode cX4_minds 57 = .ok (.ireturn, 1) := by decide +kernel
theorem dX4_minds_58 : decode cX4_minds 58 = .ok (.iload_n 3, 1) := by decide +kernel
theorem dX4_minds_59 : decode cX4_minds 59 = .ok (.iconst 2, 1) := by decide +kernel
theorem dX4_minds_60 : decode cX4_minds 60 = .ok (.isub, 1) := by decide +kernel
theorem dX4_minds_61 : decode cX4_minds 61 = .ok (.ireturn, 1) := by decide +kernel
theorem dX4_minds_62 : decode cX4_minds 62 = .ok (.aload_n 0, 1) := by decide +kernel
theorem dX4_minds_63 : decode cX4_minds 63 = .ok (.iload_n 2, 1) := by decide +kernel
theorem dX4_minds_64 : decode cX4_minds 64 = .ok (.iconst 0, 1) := by decide +kernel
theorem dX4_minds_65 : decode cX4_minds 65 = .ok (.invokevirtual 64, 3) := by decide +kernel
theorem dX4_minds_68 : decode cX4_minds 68 = .ok (.iconst 2, 1) := by decide +kernel
theorem dX4_minds_69 : decode cX4_minds 69 = .ok (.if_icmp .ne 7, 3) := by decide +kernel
theorem dX4_minds_72 : decode cX4_minds 72 = .ok (.iconst (-1), 1) := by decide +kernel
theorem dX4_minds_73 : decode cX4_minds 73 = .ok (.goto 4, 3) := by decide +kernel
theorem dX4_minds_76 : decode cX4_minds 76 = .ok (.iconst 0, 1) := by decide +kernel
theorem dX4_minds_77 : decode cX4_minds 77 = .ok (.ireturn, 1) := by decide +kernel
theorem dX4_minds_78 : decode cX4_minds 78 = .ok (.iload_n 3, 1) := by decide +kernel
theorem dX4_minds_79 : decode cX4_minds 79 = .ok (.ireturn, 1) := by decide +kernel
theorem dX4_sits_0 : decode cX4_sits 0 = .ok (.aload_n 0, 1) := by decide +kernel
theorem dX4_sits_1 : decode cX4_sits 1 = .ok (.iload_n 1, 1) := by decide +kernel
theorem dX4_sits_2 : decode cX4_sits 2 = .ok (.iload_n 2, 1) := by decide +kernel
theorem dX4_sits_3 : decode cX4_sits 3 = .ok (.invokevirtual 135, 3) := by decide +kernel
theorem dX4_sits_6 : decode cX4_sits 6 = .ok (.istore_n 3, 1) := by decide +kernel
theorem dX4_sits_7 : decode cX4_sits 7 = .ok (.iconst 0, 1) := by decide +kernel
theorem dX4_sits_8 : decode cX4_sits 8 = .ok (.istore 4, 2) := by decide +kernel
theorem dX4_sits_10 : decode cX4_sits 10 = .ok (.iload 4, 2) := by decide +kernel
theorem dX4_sits_12 : decode cX4_sits 12 = .ok (.aload_n 0, 1) := by decide +kernel
theorem dX4_sits_13 : decode cX4_sits 13 = .ok (.getfield 7, 3) := by decide +kernel
theorem dX4_sits_16 : decode cX4_sits 16 = .ok (.iconst 0, 1) := by decide +kernel
theorem dX4_sits_17 : decode cX4_sits 17 = .ok (.iaload, 1) := by decide +kernel
theorem dX4_sits_18 : decode cX4_sits 18 = .ok (.if_icmp .ge 75, 3) := by decide +kernel
theorem dX4_sits_21 : decode cX4_sits 21 = .ok (.aload_n 0, 1) := by decide +kernel
theorem dX4_sits_22 : decode cX4_sits 22 = .ok (.iload 4, 2) := by decide +kernel
theorem dX4_sits_24 : decode cX4_sits 24 = .ok (.iconst 5, 1) := by decide +kernel
theorem dX4_sits_25 : decode cX4_sits 25 = .ok (.invokevirtual 64, 3) := by decide +kernel
theorem dX4_sits_28 : decode cX4_sits 28 = .ok (.iload_n 2, 1) := by decide +kernel
theorem dX4_sits_29 : decode cX4_sits 29 = .ok (.isub, 1) := by decide +kernel
theorem dX4_sits_30 : decode cX4_sits 30 = .ok (.istore 5, 2) := by decide +kernel
theorem dX4_sits_32 : decode cX4_sits 32 = .ok (.aload_n 0, 1) := by decide +kernel
theorem dX4_sits_33 : decode cX4_sits 33 = .ok (.iload 4, 2) := by decide +kernel
theorem dX4_sits_35 : decode cX4_sits 35 = .ok (.iconst 5, 1) := by decide +kernel
theorem dX4_sits_36 : decode cX4_sits 36 = .ok (.invokevirtual 64, 3) := by decide +kernel
theorem dX4_sits_39 : decode cX4_sits 39 = .ok (.iconst (-1), 1) := by decide +kernel
theorem dX4_sits_40 : decode cX4_sits 40 = .ok (.if_icmp .eq 19, 3) := by decide +kernel
theorem dX4_sits_43 : decode cX4_sits 43 = .ok (.iload 5, 2) := by decide +kernel
theorem dX4_sits_45 : decode cX4_sits 45 = .ok (.iconst 1, 1) := by decide +kernel
theorem dX4_sits_46 : decode cX4_sits 46 = .ok (.if_icmp .eq 9, 3) := by decide +kernel
theorem dX4_sits_49 : decode cX4_sits 49 = .ok (.iload 5, 2) := by decide +kernel
theorem dX4_sits_51 : decode cX4_sits 51 = .ok (.iconst (-1), 1) := by decide +kernel
theorem dX4_sits_52 : decode cX4_sits 52 = .ok (.if_icmp .ne 7, 3) := by decide +kernel
theorem dX4_sits_55 : decode cX4_sits 55 = .ok (.iconst 1, 1) := by decide +kernel
theorem dX4_sits_56 : decode cX4_sits 56 = .ok (.goto 4, 3) := by decide +kernel
theorem dX4_sits_59 : decode cX4_sits 59 = .ok (.iconst 0, 1) := by decide +kernel
theorem dX4_sits_60 : decode cX4_sits 60 = .ok (.istore 6, 2) := by decide +kernel
theorem dX4_sits_62 : decode cX4_sits 62 = .ok (.iload_n 3, 1) := by decide +kernel
theorem dX4_sits_63 : decode cX4_sits 63 = .ok (.iload 4, 2) := by decide +kernel
theorem dX4_sits_65 : decode cX4_sits 65 = .ok (.iload_n 1, 1) := by decide +kernel
theorem dX4_sits_66 : decode cX4_sits 66 = .ok (.if_icmp .eq 18, 3) := by decide +kernel
theorem dX4_sits_69 : decode cX4_sits 69 = .ok (.iload 6, 2) := by decide +kernel
theorem dX4_sits_71 : decode cX4_sits 71 = .ok (.ifCond .eq 13, 3) := by decide +kernel
theorem dX4_sits_74 : decode cX4_sits 74 = .ok (.aload_n 0, 1) := by decide +kernel
theorem dX4_sits_75 : decode cX4_sits 75 = .ok (.iload_n 1, 1) := by decide +kernel
theorem dX4_sits_76 : decode cX4_sits 76 = .ok (.iload 4, 2) := by decide +kernel
theorem dX4_sits_78 : decode cX4_sits 78 = .ok (.invokevirtual 138, 3) := by decide +kernel
theorem dX4_sits_81 : decode cX4_sits 81 = .ok (.goto 4, 3) := by decide +kernel
theorem dX4_sits_84 : decode cX4_sits 84 = .ok (.iconst 0, 1) := by decide +kernel
theorem dX4_sits_85 : decode cX4_sits 85 = .ok (.iadd, 1) := by decide +kernel
theorem dX4_sits_86 : decode cX4_sits 86 = .ok (.istore_n 3, 1) := by decide +kernel
theorem dX4_sits_87 : decode cX4_sits 87 = .ok (.iinc 4 1, 3) := by decide +kernel
theorem dX4_sits_90 : decode cX4_sits 90 = .ok (.goto (-80), 3) := by decide +kernel
theorem dX4_sits_93 : decode cX4_sits 93 = .ok (.iload_n 3, 1) := by decide +kernel
theorem dX4_sits_94 : decode cX4_sits 94 = .ok (.ireturn, 1) := by decide +kernel
theorem dX4_well_0 : decode cX4_well 0 = .ok (.aload_n 0, 1) := by decide +kernel
theorem dX4_well_1 : decode cX4_well 1 = .ok (.iload_n 1, 1) := by decide +kernel
theorem dX4_well_2 : decode cX4_well 2 = .ok (.invokevirtual 55, 3) := by decide +kernel
theorem dX4_well_5 : decode cX4_well 5 = .ok (.ifCond .eq 23, 3) := by decide +kernel
theorem dX4_well_8 : decode cX4_well 8 = .ok (.iload_n 2, 1) := by decide +kernel
theorem dX4_well_9 : decode cX4_well 9 = .ok (.invokestatic 71, 3) := by decide +kernel
theorem dX4_well_12 : decode cX4_well 12 = .ok (.ifCond .eq 16, 3) := by decide +kernel
theorem dX4_well_15 : decode cX4_well 15 = .ok (.sipush 1000, 3) := by decide +kernel
theorem dX4_well_18 : decode cX4_well 18 = .ok (.aload_n 0, 1) := by decide +kernel
theorem dX4_well_19 : decode cX4_well 19 = .ok (.iload_n 1, 1) := by decide +kernel
theorem dX4_well_20 : decode cX4_well 20 = .ok (.iload_n 2, 1) := by decide +kernel
theorem dX4_well_21 : decode cX4_well 21 = .ok (.invokevirtual 141, 3) := by decide +kernel
theorem dX4_well_24 : decode cX4_well 24 = .ok (.iadd, 1) := by decide +kernel
theorem dX4_well_25 : decode cX4_well 25 = .ok (.goto 9, 3) := by decide +kernel
theorem dX4_well_28 : decode cX4_well 28 = .ok (.aload_n 0, 1) := by decide +kernel
theorem dX4_well_29 : decode cX4_well 29 = .ok (.ldc 48, 2) := by decide +kernel
theorem dX4_well_31 : decode cX4_well 31 = .ok (.invokevirtual 77, 3) := by decide +kernel
theorem dX4_well_34 : decode cX4_well 34 = .ok (.ireturn, 1) := by decide +kernel
theorem dX4_bestEmpty_0 : decode cX4_bestEmpty 0 = .ok (.iconst (-1), 1) := by decide +kernel
theorem dX4_bestEmpty_1 : decode cX4_bestEmpty 1 = .ok (.istore_n 2, 1) := by decide +kernel
theorem dX4_bestEmpty_2 : decode cX4_bestEmpty 2 = .ok (.iconst 0, 1) := by decide +kernel
theorem dX4_bestEmpty_3 : decode cX4_bestEmpty 3 = .ok (.istore_n 3, 1) := by decide +kernel
theorem dX4_bestEmpty_4 : decode cX4_bestEmpty 4 = .ok (.iconst 0, 1) := by decide +kernel
theorem dX4_bestEmpty_5 : decode cX4_bestEmpty 5 = .ok (.istore 4, 2) := by decide +kernel
theorem dX4_bestEmpty_7 : decode cX4_bestEmpty 7 = .ok (.iload 4, 2) := by decide +kernel
theorem dX4_bestEmpty_9 : decode cX4_bestEmpty 9 = .ok (.bipush 8, 2) := by decide +kernel
theorem dX4_bestEmpty_11 : decode cX4_bestEmpty 11 = .ok (.if_icmp .ge 70, 3) := by decide +kernel
theorem dX4_bestEmpty_14 : decode cX4_bestEmpty 14 = .ok (.aload_n 0, 1) := by decide +kernel
theorem dX4_bestEmpty_15 : decode cX4_bestEmpty 15 = .ok (.iload 4, 2) := by decide +kernel
theorem dX4_bestEmpty_17 : decode cX4_bestEmpty 17 = .ok (.invokevirtual 83, 3) := by decide +kernel
theorem dX4_bestEmpty_20 : decode cX4_bestEmpty 20 = .ok (.iconst (-1), 1) := by decide +kernel
theorem dX4_bestEmpty_21 : decode cX4_bestEmpty 21 = .ok (.if_icmp .ne 54, 3) := by decide +kernel
theorem dX4_bestEmpty_24 : decode cX4_bestEmpty 24 = .ok (.aload_n 0, 1) := by decide +kernel
theorem dX4_bestEmpty_25 : decode cX4_bestEmpty 25 = .ok (.iload_n 1, 1) := by decide +kernel
theorem dX4_bestEmpty_26 : decode cX4_bestEmpty 26 = .ok (.iload 4, 2) := by decide +kernel
theorem dX4_bestEmpty_28 : decode cX4_bestEmpty 28 = .ok (.invokevirtual 141, 3) := by decide +kernel
theorem dX4_bestEmpty_31 : decode cX4_bestEmpty 31 = .ok (.istore 5, 2) := by decide +kernel
theorem dX4_bestEmpty_33 : decode cX4_bestEmpty 33 = .ok (.iload_n 2, 1) := by decide +kernel
theorem dX4_bestEmpty_34 : decode cX4_bestEmpty 34 = .ok (.iconst (-1), 1) := by decide +kernel
theorem dX4_bestEmpty_35 : decode cX4_bestEmpty 35 = .ok (.if_icmp .eq 9, 3) := by decide +kernel
theorem dX4_bestEmpty_38 : decode cX4_bestEmpty 38 = .ok (.iload 5, 2) := by decide +kernel
theorem dX4_bestEmpty_40 : decode cX4_bestEmpty 40 = .ok (.iload_n 3, 1) := by decide +kernel
theorem dX4_bestEmpty_41 : decode cX4_bestEmpty 41 = .ok (.if_icmp .le 7, 3) := by decide +kernel
theorem dX4_bestEmpty_44 : decode cX4_bestEmpty 44 = .ok (.iconst 1, 1) := by decide +kernel
theorem dX4_bestEmpty_45 : decode cX4_bestEmpty 45 = .ok (.goto 4, 3) := by decide +kernel
theorem dX4_bestEmpty_48 : decode cX4_bestEmpty 48 = .ok (.iconst 0, 1) := by decide +kernel
theorem dX4_bestEmpty_49 : decode cX4_bestEmpty 49 = .ok (.istore 6, 2) := by decide +kernel
theorem dX4_bestEmpty_51 : decode cX4_bestEmpty 51 = .ok (.iload 6, 2) := by decide +kernel
theorem dX4_bestEmpty_53 : decode cX4_bestEmpty 53 = .ok (.ifCond .eq 8, 3) := by decide +kernel
theorem dX4_bestEmpty_56 : decode cX4_bestEmpty 56 = .ok (.iload 4, 2) := by decide +kernel
theorem dX4_bestEmpty_58 : decode cX4_bestEmpty 58 = .ok (.goto 4, 3) := by decide +kernel
theorem dX4_bestEmpty_61 : decode cX4_bestEmpty 61 = .ok (.iload_n 2, 1) := by decide +kernel
theorem dX4_bestEmpty_62 : decode cX4_bestEmpty 62 = .ok (.istore_n 2, 1) := by decide +kernel
theorem dX4_bestEmpty_63 : decode cX4_bestEmpty 63 = .ok (.iload 6, 2) := by decide +kernel
theorem dX4_bestEmpty_65 : decode cX4_bestEmpty 65 = .ok (.ifCond .eq 8, 3) := by decide +kernel
theorem dX4_bestEmpty_68 : decode cX4_bestEmpty 68 = .ok (.iload 5, 2) := by decide +kernel
theorem dX4_bestEmpty_70 : decode cX4_bestEmpty 70 = .ok (.goto 4, 3) := by decide +kernel
theorem dX4_bestEmpty_73 : decode cX4_bestEmpty 73 = .ok (.iload_n 3, 1) := by decide +kernel
theorem dX4_bestEmpty_74 : decode cX4_bestEmpty 74 = .ok (.istore_n 3, 1) := by decide +kernel
theorem dX4_bestEmpty_75 : decode cX4_bestEmpty 75 = .ok (.iinc 4 1, 3) := by decide +kernel
theorem dX4_bestEmpty_78 : decode cX4_bestEmpty 78 = .ok (.goto (-71), 3) := by decide +kernel
theorem dX4_bestEmpty_81 : decode cX4_bestEmpty 81 = .ok (.iload_n 2, 1) := by decide +kernel
theorem dX4_bestEmpty_82 : decode cX4_bestEmpty 82 = .ok (.ireturn, 1) := by decide +kernel
theorem dX4_moves_0 : decode cX4_moves 0 = .ok (.aload_n 0, 1) := by decide +kernel
theorem dX4_moves_1 : decode cX4_moves 1 = .ok (.iload_n 1, 1) := by decide +kernel
theorem dX4_moves_2 : decode cX4_moves 2 = .ok (.iconst 5, 1) := by decide +kernel
theorem dX4_moves_3 : decode cX4_moves 3 = .ok (.invokevirtual 64, 3) := by decide +kernel
theorem dX4_moves_6 : decode cX4_moves 6 = .ok (.istore_n 2, 1) := by decide +kernel
theorem dX4_moves_7 : decode cX4_moves 7 = .ok (.aload_n 0, 1) := by decide +kernel
theorem dX4_moves_8 : decode cX4_moves 8 = .ok (.iload_n 1, 1) := by decide +kernel
theorem dX4_moves_9 : decode cX4_moves 9 = .ok (.invokevirtual 144, 3) := by decide +kernel
theorem dX4_moves_12 : decode cX4_moves 12 = .ok (.istore_n 3, 1) := by decide +kernel
theorem dX4_moves_13 : decode cX4_moves 13 = .ok (.iload_n 3, 1) := by decide +kernel
theorem dX4_moves_14 : decode cX4_moves 14 = .ok (.iconst (-1), 1) := by decide +kernel
theorem dX4_moves_15 : decode cX4_moves 15 = .ok (.if_icmp .eq 36, 3) := by decide +kernel
theorem dX4_moves_18 : decode cX4_moves 18 = .ok (.iload_n 2, 1) := by decide +kernel
theorem dX4_moves_19 : decode cX4_moves 19 = .ok (.iconst (-1), 1) := by decide +kernel
theorem dX4_moves_20 : decode cX4_moves 20 = .ok (.if_icmp .eq 18, 3) := by decide +kernel
theorem dX4_moves_23 : decode cX4_moves 23 = .ok (.aload_n 0, 1) := by decide +kernel
theorem dX4_moves_24 : decode cX4_moves 24 = .ok (.iload_n 1, 1) := by decide +kernel
theorem dX4_moves_25 : decode cX4_moves 25 = .ok (.iload_n 3, 1) := by decide +kernel
theorem dX4_moves_26 : decode cX4_moves 26 = .ok (.invokevirtual 141, 3) := by decide +kernel
theorem dX4_moves_29 : decode cX4_moves 29 = .ok (.aload_n 0, 1) := by decide +kernel
theorem dX4_moves_30 : decode cX4_moves 30 = .ok (.iload_n 1, 1) := by decide +kernel
theorem dX4_moves_31 : decode cX4_moves 31 = .ok (.iload_n 2, 1) := by decide +kernel
theorem dX4_moves_32 : decode cX4_moves 32 = .ok (.invokevirtual 141, 3) := by decide +kernel
theorem dX4_moves_35 : decode cX4_moves 35 = .ok (.if_icmp .le 16, 3) := by decide +kernel
theorem dX4_moves_38 : decode cX4_moves 38 = .ok (.aload_n 0, 1) := by decide +kernel
theorem dX4_moves_39 : decode cX4_moves 39 = .ok (.getfield 7, 3) := by decide +kernel
theorem dX4_moves_42 : decode cX4_moves 42 = .ok (.iload_n 1, 1) := by decide +kernel
theorem dX4_moves_43 : decode cX4_moves 43 = .ok (.iconst 5, 1) := by decide +kernel
theorem dX4_moves_44 : decode cX4_moves 44 = .ok (.invokestatic 61, 3) := by decide +kernel
theorem dX4_moves_47 : decode cX4_moves 47 = .ok (.iload_n 3, 1) := by decide +kernel
theorem dX4_moves_48 : decode cX4_moves 48 = .ok (.iastore, 1) := by decide +kernel
theorem dX4_moves_49 : decode cX4_moves 49 = .ok (.iconst 1, 1) := by decide +kernel
theorem dX4_moves_50 : decode cX4_moves 50 = .ok (.ireturn, 1) := by decide +kernel
theorem dX4_moves_51 : decode cX4_moves 51 = .ok (.aload_n 0, 1) := by decide +kernel
theorem dX4_moves_52 : decode cX4_moves 52 = .ok (.iload_n 1, 1) := by decide +kernel
theorem dX4_moves_53 : decode cX4_moves 53 = .ok (.iconst 2, 1) := by decide +kernel
theorem dX4_moves_54 : decode cX4_moves 54 = .ok (.invokevirtual 64, 3) := by decide +kernel
theorem dX4_moves_57 : decode cX4_moves 57 = .ok (.istore 4, 2) := by decide +kernel
theorem dX4_moves_59 : decode cX4_moves 59 = .ok (.iload 4, 2) := by decide +kernel
theorem dX4_moves_61 : decode cX4_moves 61 = .ok (.iconst (-1), 1) := by decide +kernel
theorem dX4_moves_62 : decode cX4_moves 62 = .ok (.if_icmp .ne 7, 3) := by decide +kernel
theorem dX4_moves_65 : decode cX4_moves 65 = .ok (.iconst (-1), 1) := by decide +kernel
theorem dX4_moves_66 : decode cX4_moves 66 = .ok (.goto 9, 3) := by decide +kernel
theorem dX4_moves_69 : decode cX4_moves 69 = .ok (.aload_n 0, 1) := by decide +kernel
theorem dX4_moves_70 : decode cX4_moves 70 = .ok (.iload 4, 2) := by decide +kernel
theorem dX4_moves_72 : decode cX4_moves 72 = .ok (.invokevirtual 83, 3) := by decide +kernel
theorem dX4_moves_75 : decode cX4_moves 75 = .ok (.istore 5, 2) := by decide +kernel
theorem dX4_moves_77 : decode cX4_moves 77 = .ok (.iload 5, 2) := by decide +kernel
theorem dX4_moves_79 : decode cX4_moves 79 = .ok (.iconst (-1), 1) := by decide +kernel
theorem dX4_moves_80 : decode cX4_moves 80 = .ok (.if_icmp .eq 34, 3) := by decide +kernel
theorem dX4_moves_83 : decode cX4_moves 83 = .ok (.iload 5, 2) := by decide +kernel
theorem dX4_moves_85 : decode cX4_moves 85 = .ok (.iload_n 1, 1) := by decide +kernel
theorem dX4_moves_86 : decode cX4_moves 86 = .ok (.if_icmp .eq 28, 3) := by decide +kernel
theorem dX4_moves_89 : decode cX4_moves 89 = .ok (.aload_n 0, 1) := by decide +kernel
theorem dX4_moves_90 : decode cX4_moves 90 = .ok (.iload_n 1, 1) := by decide +kernel
theorem dX4_moves_91 : decode cX4_moves 91 = .ok (.iload 4, 2) := by decide +kernel
theorem dX4_moves_93 : decode cX4_moves 93 = .ok (.invokevirtual 141, 3) := by decide +kernel
theorem dX4_moves_96 : decode cX4_moves 96 = .ok (.aload_n 0, 1) := by decide +kernel
theorem dX4_moves_97 : decode cX4_moves 97 = .ok (.iload 5, 2) := by decide +kernel
theorem dX4_moves_99 : decode cX4_moves 99 = .ok (.iload 4, 2) := by decide +kernel
theorem dX4_moves_101 : decode cX4_moves 101 = .ok (.invokevirtual 141, 3) := by decide +kernel
theorem dX4_moves_104 : decode cX4_moves 104 = .ok (.isub, 1) := by decide +kernel
theorem dX4_moves_105 : decode cX4_moves 105 = .ok (.aload_n 0, 1) := by decide +kernel
theorem dX4_moves_106 : decode cX4_moves 106 = .ok (.iload 5, 2) := by decide +kernel
theorem dX4_moves_108 : decode cX4_moves 108 = .ok (.invokevirtual 95, 3) := by decide +kernel
theorem dX4_moves_111 : decode cX4_moves 111 = .ok (.if_icmp .ge 5, 3) := by decide +kernel
theorem dX4_moves_114 : decode cX4_moves 114 = .ok (.iconst 0, 1) := by decide +kernel
theorem dX4_moves_115 : decode cX4_moves 115 = .ok (.ireturn, 1) := by decide +kernel
theorem dX4_moves_116 : decode cX4_moves 116 = .ok (.aload_n 0, 1) := by decide +kernel
theorem dX4_moves_117 : decode cX4_moves 117 = .ok (.iload_n 1, 1) := by decide +kernel
theorem dX4_moves_118 : decode cX4_moves 118 = .ok (.iload 5, 2) := by decide +kernel
theorem dX4_moves_120 : decode cX4_moves 120 = .ok (.invokevirtual 123, 3) := by decide +kernel
theorem dX4_moves_123 : decode cX4_moves 123 = .ok (.iconst 1, 1) := by decide +kernel
theorem dX4_moves_124 : decode cX4_moves 124 = .ok (.ireturn, 1) := by decide +kernel
theorem dX4_hour_0 : decode cX4_hour 0 = .ok (.iconst 0, 1) := by decide +kernel
theorem dX4_hour_1 : decode cX4_hour 1 = .ok (.istore_n 1, 1) := by decide +kernel
theorem dX4_hour_2 : decode cX4_hour 2 = .ok (.iconst 0, 1) := by decide +kernel
theorem dX4_hour_3 : decode cX4_hour 3 = .ok (.istore_n 2, 1) := by decide +kernel
theorem dX4_hour_4 : decode cX4_hour 4 = .ok (.iload_n 2, 1) := by decide +kernel
theorem dX4_hour_5 : decode cX4_hour 5 = .ok (.aload_n 0, 1) := by decide +kernel
theorem dX4_hour_6 : decode cX4_hour 6 = .ok (.getfield 7, 3) := by decide +kernel
theorem dX4_hour_9 : decode cX4_hour 9 = .ok (.iconst 0, 1) := by decide +kernel
theorem dX4_hour_10 : decode cX4_hour 10 = .ok (.iaload, 1) := by decide +kernel
theorem dX4_hour_11 : decode cX4_hour 11 = .ok (.if_icmp .ge 17, 3) := by decide +kernel
theorem dX4_hour_14 : decode cX4_hour 14 = .ok (.iload_n 1, 1) := by decide +kernel
theorem dX4_hour_15 : decode cX4_hour 15 = .ok (.aload_n 0, 1) := by decide +kernel
theorem dX4_hour_16 : decode cX4_hour 16 = .ok (.iload_n 2, 1) := by decide +kernel
theorem dX4_hour_17 : decode cX4_hour 17 = .ok (.invokevirtual 147, 3) := by decide +kernel
theorem dX4_hour_20 : decode cX4_hour 20 = .ok (.iadd, 1) := by decide +kernel
theorem dX4_hour_21 : decode cX4_hour 21 = .ok (.istore_n 1, 1) := by decide +kernel
theorem dX4_hour_22 : decode cX4_hour 22 = .ok (.iinc 2 1, 3) := by decide +kernel
theorem dX4_hour_25 : decode cX4_hour 25 = .ok (.goto (-21), 3) := by decide +kernel
theorem dX4_hour_28 : decode cX4_hour 28 = .ok (.aload_n 0, 1) := by decide +kernel
theorem dX4_hour_29 : decode cX4_hour 29 = .ok (.getfield 7, 3) := by decide +kernel
theorem dX4_hour_32 : decode cX4_hour 32 = .ok (.iconst 1, 1) := by decide +kernel
theorem dX4_hour_33 : decode cX4_hour 33 = .ok (.dup2, 1) := by decide +kernel
theorem dX4_hour_34 : decode cX4_hour 34 = .ok (.iaload, 1) := by decide +kernel
theorem dX4_hour_35 : decode cX4_hour 35 = .ok (.iconst 1, 1) := by decide +kernel
theorem dX4_hour_36 : decode cX4_hour 36 = .ok (.iadd, 1) := by decide +kernel
theorem dX4_hour_37 : decode cX4_hour 37 = .ok (.iastore, 1) := by decide +kernel
theorem dX4_hour_38 : decode cX4_hour 38 = .ok (.aload_n 0, 1) := by decide +kernel
theorem dX4_hour_39 : decode cX4_hour 39 = .ok (.bipush 7, 2) := by decide +kernel
theorem dX4_hour_41 : decode cX4_hour 41 = .ok (.invokevirtual 83, 3) := by decide +kernel
theorem dX4_hour_44 : decode cX4_hour 44 = .ok (.istore_n 2, 1) := by decide +kernel
theorem dX4_hour_45 : decode cX4_hour 45 = .ok (.iload_n 2, 1) := by decide +kernel
theorem dX4_hour_46 : decode cX4_hour 46 = .ok (.iconst (-1), 1) := by decide +kernel
theorem dX4_hour_47 : decode cX4_hour 47 = .ok (.if_icmp .eq 29, 3) := by decide +kernel
theorem dX4_hour_50 : decode cX4_hour 50 = .ok (.aload_n 0, 1) := by decide +kernel
theorem dX4_hour_51 : decode cX4_hour 51 = .ok (.iload_n 2, 1) := by decide +kernel
theorem dX4_hour_52 : decode cX4_hour 52 = .ok (.iconst 4, 1) := by decide +kernel
theorem dX4_hour_53 : decode cX4_hour 53 = .ok (.invokevirtual 64, 3) := by decide +kernel
theorem dX4_hour_56 : decode cX4_hour 56 = .ok (.sipush 9999, 3) := by decide +kernel
theorem dX4_hour_59 : decode cX4_hour 59 = .ok (.if_icmp .ge 17, 3) := by decide +kernel
theorem dX4_hour_62 : decode cX4_hour 62 = .ok (.aload_n 0, 1) := by decide +kernel
theorem dX4_hour_63 : decode cX4_hour 63 = .ok (.getfield 7, 3) := by decide +kernel
theorem dX4_hour_66 : decode cX4_hour 66 = .ok (.iload_n 2, 1) := by decide +kernel
theorem dX4_hour_67 : decode cX4_hour 67 = .ok (.iconst 4, 1) := by decide +kernel
theorem dX4_hour_68 : decode cX4_hour 68 = .ok (.invokestatic 61, 3) := by decide +kernel
theorem dX4_hour_71 : decode cX4_hour 71 = .ok (.dup2, 1) := by decide +kernel
theorem dX4_hour_72 : decode cX4_hour 72 = .ok (.iaload, 1) := by decide +kernel
theorem dX4_hour_73 : decode cX4_hour 73 = .ok (.iconst 1, 1) := by decide +kernel
theorem dX4_hour_74 : decode cX4_hour 74 = .ok (.iadd, 1) := by decide +kernel
theorem dX4_hour_75 : decode cX4_hour 75 = .ok (.iastore, 1) := by decide +kernel
theorem dX4_hour_76 : decode cX4_hour 76 = .ok (.iload_n 1, 1) := by decide +kernel
theorem dX4_hour_77 : decode cX4_hour 77 = .ok (.ireturn, 1) := by decide +kernel
theorem dX4_hoursGo_0 : decode cX4_hoursGo 0 = .ok (.iconst 0, 1) := by decide +kernel
theorem dX4_hoursGo_1 : decode cX4_hoursGo 1 = .ok (.istore_n 2, 1) := by decide +kernel
theorem dX4_hoursGo_2 : decode cX4_hoursGo 2 = .ok (.iconst 0, 1) := by decide +kernel
theorem dX4_hoursGo_3 : decode cX4_hoursGo 3 = .ok (.istore_n 3, 1) := by decide +kernel
theorem dX4_hoursGo_4 : decode cX4_hoursGo 4 = .ok (.iload_n 3, 1) := by decide +kernel
theorem dX4_hoursGo_5 : decode cX4_hoursGo 5 = .ok (.iload_n 1, 1) := by decide +kernel
theorem dX4_hoursGo_6 : decode cX4_hoursGo 6 = .ok (.if_icmp .ge 14, 3) := by decide +kernel
theorem dX4_hoursGo_9 : decode cX4_hoursGo 9 = .ok (.aload_n 0, 1) := by decide +kernel
theorem dX4_hoursGo_10 : decode cX4_hoursGo 10 = .ok (.invokevirtual 150, 3) := by decide +kernel
theorem dX4_hoursGo_13 : decode cX4_hoursGo 13 = .ok (.istore_n 2, 1) := by decide +kernel
theorem dX4_hoursGo_14 : decode cX4_hoursGo 14 = .ok (.iinc 3 1, 3) := by decide +kernel
theorem dX4_hoursGo_17 : decode cX4_hoursGo 17 = .ok (.goto (-13), 3) := by decide +kernel
theorem dX4_hoursGo_20 : decode cX4_hoursGo 20 = .ok (.iload_n 2, 1) := by decide +kernel
theorem dX4_hoursGo_21 : decode cX4_hoursGo 21 = .ok (.ireturn, 1) := by decide +kernel
theorem dX4_hours_0 : decode cX4_hours 0 = .ok (.iload_n 1, 1) := by decide +kernel
theorem dX4_hours_1 : decode cX4_hours 1 = .ok (.i2l, 1) := by decide +kernel
theorem dX4_hours_2 : decode cX4_hours 2 = .ok (.lconst 1, 1) := by decide +kernel
theorem dX4_hours_3 : decode cX4_hours 3 = .ok (.ldc2_w 153, 3) := by decide +kernel
theorem dX4_hours_6 : decode cX4_hours 6 = .ok (.invokestatic 51, 3) := by decide +kernel
theorem dX4_hours_9 : decode cX4_hours 9 = .ok (.ifCond .ne 10, 3) := by decide +kernel
theorem dX4_hours_12 : decode cX4_hours 12 = .ok (.aload_n 0, 1) := by decide +kernel
theorem dX4_hours_13 : decode cX4_hours 13 = .ok (.ldc 48, 2) := by decide +kernel
theorem dX4_hours_15 : decode cX4_hours 15 = .ok (.invokevirtual 77, 3) := by decide +kernel
theorem dX4_hours_18 : decode cX4_hours 18 = .ok (.ireturn, 1) := by decide +kernel
theorem dX4_hours_19 : decode cX4_hours 19 = .ok (.aload_n 0, 1) := by decide +kernel
theorem dX4_hours_20 : decode cX4_hours 20 = .ok (.getfield 7, 3) := by decide +kernel
theorem dX4_hours_23 : decode cX4_hours 23 = .ok (.iconst 1, 1) := by decide +kernel
theorem dX4_hours_24 : decode cX4_hours 24 = .ok (.iaload, 1) := by decide +kernel
theorem dX4_hours_25 : decode cX4_hours 25 = .ok (.iload_n 1, 1) := by decide +kernel
theorem dX4_hours_26 : decode cX4_hours 26 = .ok (.iadd, 1) := by decide +kernel
theorem dX4_hours_27 : decode cX4_hours 27 = .ok (.ldc 155, 2) := by decide +kernel
theorem dX4_hours_29 : decode cX4_hours 29 = .ok (.if_icmp .le 12, 3) := by decide +kernel
theorem dX4_hours_32 : decode cX4_hours 32 = .ok (.aload_n 0, 1) := by decide +kernel
theorem dX4_hours_33 : decode cX4_hours 33 = .ok (.ldc 122, 2) := by decide +kernel
theorem dX4_hours_35 : decode cX4_hours 35 = .ok (.invokevirtual 77, 3) := by decide +kernel
theorem dX4_hours_38 : decode cX4_hours 38 = .ok (.goto 8, 3) := by decide +kernel
theorem dX4_hours_41 : decode cX4_hours 41 = .ok (.aload_n 0, 1) := by decide +kernel
theorem dX4_hours_42 : decode cX4_hours 42 = .ok (.iload_n 1, 1) := by decide +kernel
theorem dX4_hours_43 : decode cX4_hours 43 = .ok (.invokevirtual 156, 3) := by decide +kernel
theorem dX4_hours_46 : decode cX4_hours 46 = .ok (.ireturn, 1) := by decide +kernel
theorem dX4_sitting_0 : decode cX4_sitting 0 = .ok (.iconst 0, 1) := by decide +kernel
theorem dX4_sitting_1 : decode cX4_sitting 1 = .ok (.istore_n 1, 1) := by decide +kernel
theorem dX4_sitting_2 : decode cX4_sitting 2 = .ok (.iconst 0, 1) := by decide +kernel
theorem dX4_sitting_3 : decode cX4_sitting 3 = .ok (.istore_n 2, 1) := by decide +kernel
theorem dX4_sitting_4 : decode cX4_sitting 4 = .ok (.iload_n 2, 1) := by decide +kernel
theorem dX4_sitting_5 : decode cX4_sitting 5 = .ok (.aload_n 0, 1) := by decide +kernel
theorem dX4_sitting_6 : decode cX4_sitting 6 = .ok (.getfield 7, 3) := by decide +kernel
theorem dX4_sitting_9 : decode cX4_sitting 9 = .ok (.iconst 0, 1) := by decide +kernel
theorem dX4_sitting_10 : decode cX4_sitting 10 = .ok (.iaload, 1) := by decide +kernel
theorem dX4_sitting_11 : decode cX4_sitting 11 = .ok (.if_icmp .ge 29, 3) := by decide +kernel
theorem dX4_sitting_14 : decode cX4_sitting 14 = .ok (.iload_n 1, 1) := by decide +kernel
theorem dX4_sitting_15 : decode cX4_sitting 15 = .ok (.aload_n 0, 1) := by decide +kernel
theorem dX4_sitting_16 : decode cX4_sitting 16 = .ok (.iload_n 2, 1) := by decide +kernel
theorem dX4_sitting_17 : decode cX4_sitting 17 = .ok (.iconst 5, 1) := by decide +kernel
theorem dX4_sitting_18 : decode cX4_sitting 18 = .ok (.invokevirtual 64, 3) := by decide +kernel
theorem dX4_sitting_21 : decode cX4_sitting 21 = .ok (.iconst (-1), 1) := by decide +kernel
theorem dX4_sitting_22 : decode cX4_sitting 22 = .ok (.if_icmp .eq 9, 3) := by decide +kernel
theorem dX4_sitting_25 : decode cX4_sitting 25 = .ok (.iconst 1, 1) := by decide +kernel
theorem dX4_sitting_26 : decode cX4_sitting 26 = .ok (.iload_n 2, 1) := by decide +kernel
theorem dX4_sitting_27 : decode cX4_sitting 27 = .ok (.ishl, 1) := by decide +kernel
theorem dX4_sitting_28 : decode cX4_sitting 28 = .ok (.goto 4, 3) := by decide +kernel
theorem dX4_sitting_31 : decode cX4_sitting 31 = .ok (.iconst 0, 1) := by decide +kernel
theorem dX4_sitting_32 : decode cX4_sitting 32 = .ok (.ior, 1) := by decide +kernel
theorem dX4_sitting_33 : decode cX4_sitting 33 = .ok (.istore_n 1, 1) := by decide +kernel
theorem dX4_sitting_34 : decode cX4_sitting 34 = .ok (.iinc 2 1, 3) := by decide +kernel
theorem dX4_sitting_37 : decode cX4_sitting 37 = .ok (.goto (-33), 3) := by decide +kernel
theorem dX4_sitting_40 : decode cX4_sitting 40 = .ok (.iload_n 1, 1) := by decide +kernel
theorem dX4_sitting_41 : decode cX4_sitting 41 = .ok (.ireturn, 1) := by decide +kernel
theorem dX4_emptyOnes_0 : decode cX4_emptyOnes 0 = .ok (.iconst 0, 1) := by decide +kernel
theorem dX4_emptyOnes_1 : decode cX4_emptyOnes 1 = .ok (.istore_n 1, 1) := by decide +kernel
theorem dX4_emptyOnes_2 : decode cX4_emptyOnes 2 = .ok (.iconst 0, 1) := by decide +kernel
theorem dX4_emptyOnes_3 : decode cX4_emptyOnes 3 = .ok (.istore_n 2, 1) := by decide +kernel
theorem dX4_emptyOnes_4 : decode cX4_emptyOnes 4 = .ok (.iload_n 2, 1) := by decide +kernel
theorem dX4_emptyOnes_5 : decode cX4_emptyOnes 5 = .ok (.bipush 8, 2) := by decide +kernel
theorem dX4_emptyOnes_7 : decode cX4_emptyOnes 7 = .ok (.if_icmp .ge 28, 3) := by decide +kernel
theorem dX4_emptyOnes_10 : decode cX4_emptyOnes 10 = .ok (.iload_n 1, 1) := by decide +kernel
theorem dX4_emptyOnes_11 : decode cX4_emptyOnes 11 = .ok (.aload_n 0, 1) := by decide +kernel
theorem dX4_emptyOnes_12 : decode cX4_emptyOnes 12 = .ok (.iload_n 2, 1) := by decide +kernel
theorem dX4_emptyOnes_13 : decode cX4_emptyOnes 13 = .ok (.invokevirtual 83, 3) := by decide +kernel
theorem dX4_emptyOnes_16 : decode cX4_emptyOnes 16 = .ok (.iconst (-1), 1) := by decide +kernel
theorem dX4_emptyOnes_17 : decode cX4_emptyOnes 17 = .ok (.if_icmp .ne 9, 3) := by decide +kernel
theorem dX4_emptyOnes_20 : decode cX4_emptyOnes 20 = .ok (.iconst 1, 1) := by decide +kernel
theorem dX4_emptyOnes_21 : decode cX4_emptyOnes 21 = .ok (.iload_n 2, 1) := by decide +kernel
theorem dX4_emptyOnes_22 : decode cX4_emptyOnes 22 = .ok (.ishl, 1) := by decide +kernel
theorem dX4_emptyOnes_23 : decode cX4_emptyOnes 23 = .ok (.goto 4, 3) := by decide +kernel
theorem dX4_emptyOnes_26 : decode cX4_emptyOnes 26 = .ok (.iconst 0, 1) := by decide +kernel
theorem dX4_emptyOnes_27 : decode cX4_emptyOnes 27 = .ok (.ior, 1) := by decide +kernel
theorem dX4_emptyOnes_28 : decode cX4_emptyOnes 28 = .ok (.istore_n 1, 1) := by decide +kernel
theorem dX4_emptyOnes_29 : decode cX4_emptyOnes 29 = .ok (.iinc 2 1, 3) := by decide +kernel
theorem dX4_emptyOnes_32 : decode cX4_emptyOnes 32 = .ok (.goto (-28), 3) := by decide +kernel
theorem dX4_emptyOnes_35 : decode cX4_emptyOnes 35 = .ok (.iload_n 1, 1) := by decide +kernel
theorem dX4_emptyOnes_36 : decode cX4_emptyOnes 36 = .ok (.ireturn, 1) := by decide +kernel
theorem dX4_peaceNow_0 : decode cX4_peaceNow 0 = .ok (.iconst 0, 1) := by decide +kernel
theorem dX4_peaceNow_1 : decode cX4_peaceNow 1 = .ok (.istore_n 1, 1) := by decide +kernel
theorem dX4_peaceNow_2 : decode cX4_peaceNow 2 = .ok (.iconst 0, 1) := by decide +kernel
theorem dX4_peaceNow_3 : decode cX4_peaceNow 3 = .ok (.istore_n 2, 1) := by decide +kernel
theorem dX4_peaceNow_4 : decode cX4_peaceNow 4 = .ok (.iload_n 2, 1) := by decide +kernel
theorem dX4_peaceNow_5 : decode cX4_peaceNow 5 = .ok (.aload_n 0, 1) := by decide +kernel
theorem dX4_peaceNow_6 : decode cX4_peaceNow 6 = .ok (.getfield 7, 3) := by decide +kernel
theorem dX4_peaceNow_9 : decode cX4_peaceNow 9 = .ok (.iconst 0, 1) := by decide +kernel
theorem dX4_peaceNow_10 : decode cX4_peaceNow 10 = .ok (.iaload, 1) := by decide +kernel
theorem dX4_peaceNow_11 : decode cX4_peaceNow 11 = .ok (.if_icmp .ge 37, 3) := by decide +kernel
theorem dX4_peaceNow_14 : decode cX4_peaceNow 14 = .ok (.iload_n 1, 1) := by decide +kernel
theorem dX4_peaceNow_15 : decode cX4_peaceNow 15 = .ok (.aload_n 0, 1) := by decide +kernel
theorem dX4_peaceNow_16 : decode cX4_peaceNow 16 = .ok (.iload_n 2, 1) := by decide +kernel
theorem dX4_peaceNow_17 : decode cX4_peaceNow 17 = .ok (.iconst 5, 1) := by decide +kernel
theorem dX4_peaceNow_18 : decode cX4_peaceNow 18 = .ok (.invokevirtual 64, 3) := by decide +kernel
theorem dX4_peaceNow_21 : decode cX4_peaceNow 21 = .ok (.iconst (-1), 1) := by decide +kernel
theorem dX4_peaceNow_22 : decode cX4_peaceNow 22 = .ok (.if_icmp .eq 17, 3) := by decide +kernel
theorem dX4_peaceNow_25 : decode cX4_peaceNow 25 = .ok (.aload_n 0, 1) := by decide +kernel
theorem dX4_peaceNow_26 : decode cX4_peaceNow 26 = .ok (.iload_n 2, 1) := by decide +kernel
theorem dX4_peaceNow_27 : decode cX4_peaceNow 27 = .ok (.aload_n 0, 1) := by decide +kernel
theorem dX4_peaceNow_28 : decode cX4_peaceNow 28 = .ok (.iload_n 2, 1) := by decide +kernel
theorem dX4_peaceNow_29 : decode cX4_peaceNow 29 = .ok (.iconst 5, 1) := by decide +kernel
theorem dX4_peaceNow_30 : decode cX4_peaceNow 30 = .ok (.invokevirtual 64, 3) := by decide +kernel
theorem dX4_peaceNow_33 : decode cX4_peaceNow 33 = .ok (.invokevirtual 141, 3) := by decide +kernel
theorem dX4_peaceNow_36 : decode cX4_peaceNow 36 = .ok (.goto 4, 3) := by decide +kernel
theorem dX4_peaceNow_39 : decode cX4_peaceNow 39 = .ok (.iconst 0, 1) := by decide +kernel
theorem dX4_peaceNow_40 : decode cX4_peaceNow 40 = .ok (.iadd, 1) := by decide +kernel
theorem dX4_peaceNow_41 : decode cX4_peaceNow 41 = .ok (.istore_n 1, 1) := by decide +kernel
theorem dX4_peaceNow_42 : decode cX4_peaceNow 42 = .ok (.iinc 2 1, 3) := by decide +kernel
theorem dX4_peaceNow_45 : decode cX4_peaceNow 45 = .ok (.goto (-41), 3) := by decide +kernel
theorem dX4_peaceNow_48 : decode cX4_peaceNow 48 = .ok (.iload_n 1, 1) := by decide +kernel
theorem dX4_peaceNow_49 : decode cX4_peaceNow 49 = .ok (.ireturn, 1) := by decide +kernel
theorem dX4_now_0 : decode cX4_now 0 = .ok (.iload_n 1, 1) := by decide +kernel
theorem dX4_now_1 : decode cX4_now 1 = .ok (.tableswitch 83 0 5 #[39, 46, 51, 64, 69, 78], 39) := by decide +kernel
theorem dX4_now_40 : decode cX4_now 40 = .ok (.aload_n 0, 1) := by decide +kernel
theorem dX4_now_41 : decode cX4_now 41 = .ok (.getfield 7, 3) := by decide +kernel
theorem dX4_now_44 : decode cX4_now 44 = .ok (.iconst 1, 1) := by decide +kernel
theorem dX4_now_45 : decode cX4_now 45 = .ok (.iaload, 1) := by decide +kernel
theorem dX4_now_46 : decode cX4_now 46 = .ok (.ireturn, 1) := by decide +kernel
theorem dX4_now_47 : decode cX4_now 47 = .ok (.aload_n 0, 1) := by decide +kernel
theorem dX4_now_48 : decode cX4_now 48 = .ok (.invokevirtual 127, 3) := by decide +kernel
theorem dX4_now_51 : decode cX4_now 51 = .ok (.ireturn, 1) := by decide +kernel
theorem dX4_now_52 : decode cX4_now 52 = .ok (.aload_n 0, 1) := by decide +kernel
theorem dX4_now_53 : decode cX4_now 53 = .ok (.invokevirtual 131, 3) := by decide +kernel
theorem dX4_now_56 : decode cX4_now 56 = .ok (.ifCond .eq 7, 3) := by decide +kernel
theorem dX4_now_59 : decode cX4_now 59 = .ok (.iconst 1, 1) := by decide +kernel
theorem dX4_now_60 : decode cX4_now 60 = .ok (.goto 4, 3) := by decide +kernel
theorem dX4_now_63 : decode cX4_now 63 = .ok (.iconst 0, 1) := by decide +kernel
theorem dX4_now_64 : decode cX4_now 64 = .ok (.ireturn, 1) := by decide +kernel
theorem dX4_now_65 : decode cX4_now 65 = .ok (.aload_n 0, 1) := by decide +kernel
theorem dX4_now_66 : decode cX4_now 66 = .ok (.invokevirtual 159, 3) := by decide +kernel
theorem dX4_now_69 : decode cX4_now 69 = .ok (.ireturn, 1) := by decide +kernel
theorem dX4_now_70 : decode cX4_now 70 = .ok (.sipush 10000, 3) := by decide +kernel
theorem dX4_now_73 : decode cX4_now 73 = .ok (.aload_n 0, 1) := by decide +kernel
theorem dX4_now_74 : decode cX4_now 74 = .ok (.invokevirtual 162, 3) := by decide +kernel
theorem dX4_now_77 : decode cX4_now 77 = .ok (.iadd, 1) := by decide +kernel
theorem dX4_now_78 : decode cX4_now 78 = .ok (.ireturn, 1) := by decide +kernel
theorem dX4_now_79 : decode cX4_now 79 = .ok (.aload_n 0, 1) := by decide +kernel
theorem dX4_now_80 : decode cX4_now 80 = .ok (.invokevirtual 165, 3) := by decide +kernel
theorem dX4_now_83 : decode cX4_now 83 = .ok (.ireturn, 1) := by decide +kernel
theorem dX4_now_84 : decode cX4_now 84 = .ok (.aload_n 0, 1) := by decide +kernel
theorem dX4_now_85 : decode cX4_now 85 = .ok (.ldc 48, 2) := by decide +kernel
theorem dX4_now_87 : decode cX4_now 87 = .ok (.invokevirtual 77, 3) := by decide +kernel
theorem dX4_now_90 : decode cX4_now 90 = .ok (.ireturn, 1) := by decide +kernel
theorem dX4_on_0 : decode cX4_on 0 = .ok (.aload_n 0, 1) := by decide +kernel
theorem dX4_on_1 : decode cX4_on 1 = .ok (.iload_n 1, 1) := by decide +kernel
theorem dX4_on_2 : decode cX4_on 2 = .ok (.invokevirtual 55, 3) := by decide +kernel
theorem dX4_on_5 : decode cX4_on 5 = .ok (.ifCond .eq 25, 3) := by decide +kernel
theorem dX4_on_8 : decode cX4_on 8 = .ok (.iload_n 2, 1) := by decide +kernel
theorem dX4_on_9 : decode cX4_on 9 = .ok (.i2l, 1) := by decide +kernel
theorem dX4_on_10 : decode cX4_on 10 = .ok (.lconst 0, 1) := by decide +kernel
theorem dX4_on_11 : decode cX4_on 11 = .ok (.ldc2_w 153, 3) := by decide +kernel
theorem dX4_on_14 : decode cX4_on 14 = .ok (.invokestatic 51, 3) := by decide +kernel
theorem dX4_on_17 : decode cX4_on 17 = .ok (.ifCond .eq 13, 3) := by decide +kernel
theorem dX4_on_20 : decode cX4_on 20 = .ok (.iload_n 3, 1) := by decide +kernel
theorem dX4_on_21 : decode cX4_on 21 = .ok (.i2l, 1) := by decide +kernel
theorem dX4_on_22 : decode cX4_on 22 = .ok (.lconst 0, 1) := by decide +kernel
theorem dX4_on_23 : decode cX4_on 23 = .ok (.lconst 1, 1) := by decide +kernel
theorem dX4_on_24 : decode cX4_on 24 = .ok (.invokestatic 51, 3) := by decide +kernel
theorem dX4_on_27 : decode cX4_on 27 = .ok (.ifCond .ne 10, 3) := by decide +kernel
theorem dX4_on_30 : decode cX4_on 30 = .ok (.aload_n 0, 1) := by decide +kernel
theorem dX4_on_31 : decode cX4_on 31 = .ok (.ldc 48, 2) := by decide +kernel
theorem dX4_on_33 : decode cX4_on 33 = .ok (.invokevirtual 77, 3) := by decide +kernel
theorem dX4_on_36 : decode cX4_on 36 = .ok (.ireturn, 1) := by decide +kernel
theorem dX4_on_37 : decode cX4_on 37 = .ok (.aload_n 0, 1) := by decide +kernel
theorem dX4_on_38 : decode cX4_on 38 = .ok (.invokevirtual 168, 3) := by decide +kernel
theorem dX4_on_41 : decode cX4_on 41 = .ok (.aload_n 0, 1) := by decide +kernel
theorem dX4_on_42 : decode cX4_on 42 = .ok (.iload_n 2, 1) := by decide +kernel
theorem dX4_on_43 : decode cX4_on 43 = .ok (.invokevirtual 156, 3) := by decide +kernel
theorem dX4_on_46 : decode cX4_on 46 = .ok (.istore 4, 2) := by decide +kernel
theorem dX4_on_48 : decode cX4_on 48 = .ok (.aload_n 0, 1) := by decide +kernel
theorem dX4_on_49 : decode cX4_on 49 = .ok (.aload_n 0, 1) := by decide +kernel
theorem dX4_on_50 : decode cX4_on 50 = .ok (.iload_n 1, 1) := by decide +kernel
theorem dX4_on_51 : decode cX4_on 51 = .ok (.iload_n 3, 1) := by decide +kernel
theorem dX4_on_52 : decode cX4_on 52 = .ok (.ifCond .ne 7, 3) := by decide +kernel
theorem dX4_on_55 : decode cX4_on 55 = .ok (.iconst 5, 1) := by decide +kernel
theorem dX4_on_56 : decode cX4_on 56 = .ok (.goto 4, 3) := by decide +kernel
theorem dX4_on_59 : decode cX4_on 59 = .ok (.iconst 4, 1) := by decide +kernel
theorem dX4_on_60 : decode cX4_on 60 = .ok (.invokevirtual 64, 3) := by decide +kernel
theorem dX4_on_63 : decode cX4_on 63 = .ok (.invokevirtual 171, 3) := by decide +kernel
theorem dX4_on_66 : decode cX4_on 66 = .ok (.ireturn, 1) := by decide +kernel
theorem dX4_peaceIn_0 : decode cX4_peaceIn 0 = .ok (.aload_n 0, 1) := by decide +kernel
theorem dX4_peaceIn_1 : decode cX4_peaceIn 1 = .ok (.invokevirtual 168, 3) := by decide +kernel
theorem dX4_peaceIn_4 : decode cX4_peaceIn 4 = .ok (.aload_n 0, 1) := by decide +kernel
theorem dX4_peaceIn_5 : decode cX4_peaceIn 5 = .ok (.iload_n 1, 1) := by decide +kernel
theorem dX4_peaceIn_6 : decode cX4_peaceIn 6 = .ok (.invokevirtual 156, 3) := by decide +kernel
theorem dX4_peaceIn_9 : decode cX4_peaceIn 9 = .ok (.istore_n 2, 1) := by decide +kernel
theorem dX4_peaceIn_10 : decode cX4_peaceIn 10 = .ok (.aload_n 0, 1) := by decide +kernel
theorem dX4_peaceIn_11 : decode cX4_peaceIn 11 = .ok (.aload_n 0, 1) := by decide +kernel
theorem dX4_peaceIn_12 : decode cX4_peaceIn 12 = .ok (.invokevirtual 162, 3) := by decide +kernel
theorem dX4_peaceIn_15 : decode cX4_peaceIn 15 = .ok (.invokevirtual 171, 3) := by decide +kernel
theorem dX4_peaceIn_18 : decode cX4_peaceIn 18 = .ok (.ireturn, 1) := by decide +kernel
theorem dX4_peace_0 : decode cX4_peace 0 = .ok (.iload_n 1, 1) := by decide +kernel
theorem dX4_peace_1 : decode cX4_peace 1 = .ok (.i2l, 1) := by decide +kernel
theorem dX4_peace_2 : decode cX4_peace 2 = .ok (.lconst 0, 1) := by decide +kernel
theorem dX4_peace_3 : decode cX4_peace 3 = .ok (.ldc2_w 153, 3) := by decide +kernel
theorem dX4_peace_6 : decode cX4_peace 6 = .ok (.invokestatic 51, 3) := by decide +kernel
theorem dX4_peace_9 : decode cX4_peace 9 = .ok (.ifCond .eq 15, 3) := by decide +kernel
theorem dX4_peace_12 : decode cX4_peace 12 = .ok (.sipush 10000, 3) := by decide +kernel
theorem dX4_peace_15 : decode cX4_peace 15 = .ok (.aload_n 0, 1) := by decide +kernel
theorem dX4_peace_16 : decode cX4_peace 16 = .ok (.iload_n 1, 1) := by decide +kernel
theorem dX4_peace_17 : decode cX4_peace 17 = .ok (.invokevirtual 174, 3) := by decide +kernel
theorem dX4_peace_20 : decode cX4_peace 20 = .ok (.iadd, 1) := by decide +kernel
theorem dX4_peace_21 : decode cX4_peace 21 = .ok (.goto 9, 3) := by decide +kernel
theorem dX4_peace_24 : decode cX4_peace 24 = .ok (.aload_n 0, 1) := by decide +kernel
theorem dX4_peace_25 : decode cX4_peace 25 = .ok (.ldc 48, 2) := by decide +kernel
theorem dX4_peace_27 : decode cX4_peace 27 = .ok (.invokevirtual 77, 3) := by decide +kernel
theorem dX4_peace_30 : decode cX4_peace 30 = .ok (.ireturn, 1) := by decide +kernel
theorem dX4_settles_0 : decode cX4_settles 0 = .ok (.aload_n 0, 1) := by decide +kernel
theorem dX4_settles_1 : decode cX4_settles 1 = .ok (.invokevirtual 168, 3) := by decide +kernel
theorem dX4_settles_4 : decode cX4_settles 4 = .ok (.iconst 0, 1) := by decide +kernel
theorem dX4_settles_5 : decode cX4_settles 5 = .ok (.istore_n 1, 1) := by decide +kernel
theorem dX4_settles_6 : decode cX4_settles 6 = .ok (.iload_n 1, 1) := by decide +kernel
theorem dX4_settles_7 : decode cX4_settles 7 = .ok (.bipush 60, 2) := by decide +kernel
theorem dX4_settles_9 : decode cX4_settles 9 = .ok (.if_icmp .gt 16, 3) := by decide +kernel
theorem dX4_settles_12 : decode cX4_settles 12 = .ok (.aload_n 0, 1) := by decide +kernel
theorem dX4_settles_13 : decode cX4_settles 13 = .ok (.invokevirtual 150, 3) := by decide +kernel
theorem dX4_settles_16 : decode cX4_settles 16 = .ok (.ifCond .le 9, 3) := by decide +kernel
theorem dX4_settles_19 : decode cX4_settles 19 = .ok (.iinc 1 1, 3) := by decide +kernel
theorem dX4_settles_22 : decode cX4_settles 22 = .ok (.goto (-16), 3) := by decide +kernel
theorem dX4_settles_25 : decode cX4_settles 25 = .ok (.aload_n 0, 1) := by decide +kernel
theorem dX4_settles_26 : decode cX4_settles 26 = .ok (.iload_n 1, 1) := by decide +kernel
theorem dX4_settles_27 : decode cX4_settles 27 = .ok (.invokevirtual 171, 3) := by decide +kernel
theorem dX4_settles_30 : decode cX4_settles 30 = .ok (.istore_n 2, 1) := by decide +kernel
theorem dX4_settles_31 : decode cX4_settles 31 = .ok (.iload_n 2, 1) := by decide +kernel
theorem dX4_settles_32 : decode cX4_settles 32 = .ok (.bipush 60, 2) := by decide +kernel
theorem dX4_settles_34 : decode cX4_settles 34 = .ok (.if_icmp .le 12, 3) := by decide +kernel
theorem dX4_settles_37 : decode cX4_settles 37 = .ok (.aload_n 0, 1) := by decide +kernel
theorem dX4_settles_38 : decode cX4_settles 38 = .ok (.ldc 177, 2) := by decide +kernel
theorem dX4_settles_40 : decode cX4_settles 40 = .ok (.invokevirtual 77, 3) := by decide +kernel
theorem dX4_settles_43 : decode cX4_settles 43 = .ok (.goto 4, 3) := by decide +kernel
theorem dX4_settles_46 : decode cX4_settles 46 = .ok (.iload_n 2, 1) := by decide +kernel
theorem dX4_settles_47 : decode cX4_settles 47 = .ok (.ireturn, 1) := by decide +kernel
theorem dX4_gets_0 : decode cX4_gets 0 = .ok (.aload_n 0, 1) := by decide +kernel
theorem dX4_gets_1 : decode cX4_gets 1 = .ok (.iload_n 1, 1) := by decide +kernel
theorem dX4_gets_2 : decode cX4_gets 2 = .ok (.invokevirtual 55, 3) := by decide +kernel
theorem dX4_gets_5 : decode cX4_gets 5 = .ok (.ifCond .eq 10, 3) := by decide +kernel
theorem dX4_gets_8 : decode cX4_gets 8 = .ok (.iload_n 2, 1) := by decide +kernel
theorem dX4_gets_9 : decode cX4_gets 9 = .ok (.invokestatic 71, 3) := by decide +kernel
theorem dX4_gets_12 : decode cX4_gets 12 = .ok (.ifCond .ne 10, 3) := by decide +kernel
theorem dX4_gets_15 : decode cX4_gets 15 = .ok (.aload_n 0, 1) := by decide +kernel
theorem dX4_gets_16 : decode cX4_gets 16 = .ok (.ldc 48, 2) := by decide +kernel
theorem dX4_gets_18 : decode cX4_gets 18 = .ok (.invokevirtual 77, 3) := by decide +kernel
theorem dX4_gets_21 : decode cX4_gets 21 = .ok (.ireturn, 1) := by decide +kernel
theorem dX4_gets_22 : decode cX4_gets 22 = .ok (.aload_n 0, 1) := by decide +kernel
theorem dX4_gets_23 : decode cX4_gets 23 = .ok (.invokevirtual 168, 3) := by decide +kernel
theorem dX4_gets_26 : decode cX4_gets 26 = .ok (.iconst 0, 1) := by decide +kernel
theorem dX4_gets_27 : decode cX4_gets 27 = .ok (.istore_n 3, 1) := by decide +kernel
theorem dX4_gets_28 : decode cX4_gets 28 = .ok (.iload_n 3, 1) := by decide +kernel
theorem dX4_gets_29 : decode cX4_gets 29 = .ok (.bipush 60, 2) := by decide +kernel
theorem dX4_gets_31 : decode cX4_gets 31 = .ok (.if_icmp .gt 25, 3) := by decide +kernel
theorem dX4_gets_34 : decode cX4_gets 34 = .ok (.aload_n 0, 1) := by decide +kernel
theorem dX4_gets_35 : decode cX4_gets 35 = .ok (.iload_n 1, 1) := by decide +kernel
theorem dX4_gets_36 : decode cX4_gets 36 = .ok (.iconst 5, 1) := by decide +kernel
theorem dX4_gets_37 : decode cX4_gets 37 = .ok (.invokevirtual 64, 3) := by decide +kernel
theorem dX4_gets_40 : decode cX4_gets 40 = .ok (.iload_n 2, 1) := by decide +kernel
theorem dX4_gets_41 : decode cX4_gets 41 = .ok (.if_icmp .eq 15, 3) := by decide +kernel
theorem dX4_gets_44 : decode cX4_gets 44 = .ok (.aload_n 0, 1) := by decide +kernel
theorem dX4_gets_45 : decode cX4_gets 45 = .ok (.invokevirtual 150, 3) := by decide +kernel
theorem dX4_gets_48 : decode cX4_gets 48 = .ok (.istore 4, 2) := by decide +kernel
theorem dX4_gets_50 : decode cX4_gets 50 = .ok (.iinc 3 1, 3) := by decide +kernel
theorem dX4_gets_53 : decode cX4_gets 53 = .ok (.goto (-25), 3) := by decide +kernel
theorem dX4_gets_56 : decode cX4_gets 56 = .ok (.aload_n 0, 1) := by decide +kernel
theorem dX4_gets_57 : decode cX4_gets 57 = .ok (.iload_n 3, 1) := by decide +kernel
theorem dX4_gets_58 : decode cX4_gets 58 = .ok (.invokevirtual 171, 3) := by decide +kernel
theorem dX4_gets_61 : decode cX4_gets 61 = .ok (.istore 4, 2) := by decide +kernel
theorem dX4_gets_63 : decode cX4_gets 63 = .ok (.iload 4, 2) := by decide +kernel
theorem dX4_gets_65 : decode cX4_gets 65 = .ok (.bipush 60, 2) := by decide +kernel
theorem dX4_gets_67 : decode cX4_gets 67 = .ok (.if_icmp .le 12, 3) := by decide +kernel
theorem dX4_gets_70 : decode cX4_gets 70 = .ok (.aload_n 0, 1) := by decide +kernel
theorem dX4_gets_71 : decode cX4_gets 71 = .ok (.ldc 177, 2) := by decide +kernel
theorem dX4_gets_73 : decode cX4_gets 73 = .ok (.invokevirtual 77, 3) := by decide +kernel
theorem dX4_gets_76 : decode cX4_gets 76 = .ok (.goto 5, 3) := by decide +kernel
theorem dX4_gets_79 : decode cX4_gets 79 = .ok (.iload 4, 2) := by decide +kernel
theorem dX4_gets_81 : decode cX4_gets 81 = .ok (.ireturn, 1) := by decide +kernel
theorem dX4_places_0 : decode cX4_places 0 = .ok (.iload_n 2, 1) := by decide +kernel
theorem dX4_places_1 : decode cX4_places 1 = .ok (.ifCond .ne 29, 3) := by decide +kernel
theorem dX4_places_4 : decode cX4_places 4 = .ok (.aload_n 0, 1) := by decide +kernel
theorem dX4_places_5 : decode cX4_places 5 = .ok (.invokevirtual 162, 3) := by decide +kernel
theorem dX4_places_8 : decode cX4_places 8 = .ok (.istore_n 3, 1) := by decide +kernel
theorem dX4_places_9 : decode cX4_places 9 = .ok (.aload_n 0, 1) := by decide +kernel
theorem dX4_places_10 : decode cX4_places 10 = .ok (.iload_n 3, 1) := by decide +kernel
theorem dX4_places_11 : decode cX4_places 11 = .ok (.aload_n 0, 1) := by decide +kernel
theorem dX4_places_12 : decode cX4_places 12 = .ok (.getfield 178, 3) := by decide +kernel
theorem dX4_places_15 : decode cX4_places 15 = .ok (.if_icmp .le 7, 3) := by decide +kernel
theorem dX4_places_18 : decode cX4_places 18 = .ok (.iload_n 3, 1) := by decide +kernel
theorem dX4_places_19 : decode cX4_places 19 = .ok (.goto 7, 3) := by decide +kernel
theorem dX4_places_22 : decode cX4_places 22 = .ok (.aload_n 0, 1) := by decide +kernel
theorem dX4_places_23 : decode cX4_places 23 = .ok (.getfield 178, 3) := by decide +kernel
theorem dX4_places_26 : decode cX4_places 26 = .ok (.putfield 178, 3) := by decide +kernel
theorem dX4_places_29 : decode cX4_places 29 = .ok (.return_, 1) := by decide +kernel
theorem dX4_places_30 : decode cX4_places 30 = .ok (.iconst 0, 1) := by decide +kernel
theorem dX4_places_31 : decode cX4_places 31 = .ok (.istore_n 3, 1) := by decide +kernel
theorem dX4_places_32 : decode cX4_places 32 = .ok (.iload_n 3, 1) := by decide +kernel
theorem dX4_places_33 : decode cX4_places 33 = .ok (.aload_n 0, 1) := by decide +kernel
theorem dX4_places_34 : decode cX4_places 34 = .ok (.getfield 7, 3) := by decide +kernel
theorem dX4_places_37 : decode cX4_places 37 = .ok (.iconst 0, 1) := by decide +kernel
theorem dX4_places_38 : decode cX4_places 38 = .ok (.iaload, 1) := by decide +kernel
theorem dX4_places_39 : decode cX4_places 39 = .ok (.if_icmp .ge 48, 3) := by decide +kernel
theorem dX4_places_42 : decode cX4_places 42 = .ok (.iload_n 2, 1) := by decide +kernel
theorem dX4_places_43 : decode cX4_places 43 = .ok (.iload_n 3, 1) := by decide +kernel
theorem dX4_places_44 : decode cX4_places 44 = .ok (.ishr, 1) := by decide +kernel
theorem dX4_places_45 : decode cX4_places 45 = .ok (.iconst 1, 1) := by decide +kernel
theorem dX4_places_46 : decode cX4_places 46 = .ok (.iand, 1) := by decide +kernel
theorem dX4_places_47 : decode cX4_places 47 = .ok (.iconst 1, 1) := by decide +kernel
theorem dX4_places_48 : decode cX4_places 48 = .ok (.if_icmp .ne 33, 3) := by decide +kernel
theorem dX4_places_51 : decode cX4_places 51 = .ok (.aload_n 0, 1) := by decide +kernel
theorem dX4_places_52 : decode cX4_places 52 = .ok (.getfield 7, 3) := by decide +kernel
theorem dX4_places_55 : decode cX4_places 55 = .ok (.iload_n 3, 1) := by decide +kernel
theorem dX4_places_56 : decode cX4_places 56 = .ok (.iconst 5, 1) := by decide +kernel
theorem dX4_places_57 : decode cX4_places 57 = .ok (.invokestatic 61, 3) := by decide +kernel
theorem dX4_places_60 : decode cX4_places 60 = .ok (.aload_n 0, 1) := by decide +kernel
theorem dX4_places_61 : decode cX4_places 61 = .ok (.getfield 25, 3) := by decide +kernel
theorem dX4_places_64 : decode cX4_places 64 = .ok (.iload_n 1, 1) := by decide +kernel
theorem dX4_places_65 : decode cX4_places 65 = .ok (.iaload, 1) := by decide +kernel
theorem dX4_places_66 : decode cX4_places 66 = .ok (.iastore, 1) := by decide +kernel
theorem dX4_places_67 : decode cX4_places 67 = .ok (.aload_n 0, 1) := by decide +kernel
theorem dX4_places_68 : decode cX4_places 68 = .ok (.iload_n 1, 1) := by decide +kernel
theorem dX4_places_69 : decode cX4_places 69 = .ok (.iconst 1, 1) := by decide +kernel
theorem dX4_places_70 : decode cX4_places 70 = .ok (.iadd, 1) := by decide +kernel
theorem dX4_places_71 : decode cX4_places 71 = .ok (.iload_n 2, 1) := by decide +kernel
theorem dX4_places_72 : decode cX4_places 72 = .ok (.iconst 1, 1) := by decide +kernel
theorem dX4_places_73 : decode cX4_places 73 = .ok (.iload_n 3, 1) := by decide +kernel
theorem dX4_places_74 : decode cX4_places 74 = .ok (.ishl, 1) := by decide +kernel
theorem dX4_places_75 : decode cX4_places 75 = .ok (.iconst (-1), 1) := by decide +kernel
theorem dX4_places_76 : decode cX4_places 76 = .ok (.ixor, 1) := by decide +kernel
theorem dX4_places_77 : decode cX4_places 77 = .ok (.iand, 1) := by decide +kernel
theorem dX4_places_78 : decode cX4_places 78 = .ok (.invokevirtual 182, 3) := by decide +kernel
theorem dX4_places_81 : decode cX4_places 81 = .ok (.iinc 3 1, 3) := by decide +kernel
theorem dX4_places_84 : decode cX4_places 84 = .ok (.goto (-52), 3) := by decide +kernel
theorem dX4_places_87 : decode cX4_places 87 = .ok (.return_, 1) := by decide +kernel
theorem dX4_best_0 : decode cX4_best 0 = .ok (.aload_n 0, 1) := by decide +kernel
theorem dX4_best_1 : decode cX4_best 1 = .ok (.invokevirtual 159, 3) := by decide +kernel
theorem dX4_best_4 : decode cX4_best 4 = .ok (.istore_n 1, 1) := by decide +kernel
theorem dX4_best_5 : decode cX4_best 5 = .ok (.iload_n 1, 1) := by decide +kernel
theorem dX4_best_6 : decode cX4_best 6 = .ok (.invokestatic 185, 3) := by decide +kernel
theorem dX4_best_9 : decode cX4_best 9 = .ok (.bipush 6, 2) := by decide +kernel
theorem dX4_best_11 : decode cX4_best 11 = .ok (.if_icmp .le 10, 3) := by decide +kernel
theorem dX4_best_14 : decode cX4_best 14 = .ok (.aload_n 0, 1) := by decide +kernel
theorem dX4_best_15 : decode cX4_best 15 = .ok (.ldc 188, 2) := by decide +kernel
theorem dX4_best_17 : decode cX4_best 17 = .ok (.invokevirtual 77, 3) := by decide +kernel
theorem dX4_best_20 : decode cX4_best 20 = .ok (.ireturn, 1) := by decide +kernel
theorem dX4_best_21 : decode cX4_best 21 = .ok (.aload_n 0, 1) := by decide +kernel
theorem dX4_best_22 : decode cX4_best 22 = .ok (.iconst 0, 1) := by decide +kernel
theorem dX4_best_23 : decode cX4_best 23 = .ok (.putfield 189, 3) := by decide +kernel
theorem dX4_best_26 : decode cX4_best 26 = .ok (.iconst 0, 1) := by decide +kernel
theorem dX4_best_27 : decode cX4_best 27 = .ok (.istore_n 2, 1) := by decide +kernel
theorem dX4_best_28 : decode cX4_best 28 = .ok (.iload_n 2, 1) := by decide +kernel
theorem dX4_best_29 : decode cX4_best 29 = .ok (.bipush 8, 2) := by decide +kernel
theorem dX4_best_31 : decode cX4_best 31 = .ok (.if_icmp .ge 38, 3) := by decide +kernel
theorem dX4_best_34 : decode cX4_best 34 = .ok (.aload_n 0, 1) := by decide +kernel
theorem dX4_best_35 : decode cX4_best 35 = .ok (.iload_n 2, 1) := by decide +kernel
theorem dX4_best_36 : decode cX4_best 36 = .ok (.invokevirtual 83, 3) := by decide +kernel
theorem dX4_best_39 : decode cX4_best 39 = .ok (.iconst (-1), 1) := by decide +kernel
theorem dX4_best_40 : decode cX4_best 40 = .ok (.if_icmp .eq 23, 3) := by decide +kernel
theorem dX4_best_43 : decode cX4_best 43 = .ok (.aload_n 0, 1) := by decide +kernel
theorem dX4_best_44 : decode cX4_best 44 = .ok (.getfield 25, 3) := by decide +kernel
theorem dX4_best_47 : decode cX4_best 47 = .ok (.aload_n 0, 1) := by decide +kernel
theorem dX4_best_48 : decode cX4_best 48 = .ok (.getfield 189, 3) := by decide +kernel
theorem dX4_best_51 : decode cX4_best 51 = .ok (.iload_n 2, 1) := by decide +kernel
theorem dX4_best_52 : decode cX4_best 52 = .ok (.iastore, 1) := by decide +kernel
theorem dX4_best_53 : decode cX4_best 53 = .ok (.aload_n 0, 1) := by decide +kernel
theorem dX4_best_54 : decode cX4_best 54 = .ok (.dup, 1) := by decide +kernel
theorem dX4_best_55 : decode cX4_best 55 = .ok (.getfield 189, 3) := by decide +kernel
theorem dX4_best_58 : decode cX4_best 58 = .ok (.iconst 1, 1) := by decide +kernel
theorem dX4_best_59 : decode cX4_best 59 = .ok (.iadd, 1) := by decide +kernel
theorem dX4_best_60 : decode cX4_best 60 = .ok (.putfield 189, 3) := by decide +kernel
theorem dX4_best_63 : decode cX4_best 63 = .ok (.iinc 2 1, 3) := by decide +kernel
theorem dX4_best_66 : decode cX4_best 66 = .ok (.goto (-38), 3) := by decide +kernel
theorem dX4_best_69 : decode cX4_best 69 = .ok (.aload_n 0, 1) := by decide +kernel
theorem dX4_best_70 : decode cX4_best 70 = .ok (.sipush (-10000), 3) := by decide +kernel
theorem dX4_best_73 : decode cX4_best 73 = .ok (.putfield 178, 3) := by decide +kernel
theorem dX4_best_76 : decode cX4_best 76 = .ok (.aload_n 0, 1) := by decide +kernel
theorem dX4_best_77 : decode cX4_best 77 = .ok (.invokevirtual 168, 3) := by decide +kernel
theorem dX4_best_80 : decode cX4_best 80 = .ok (.aload_n 0, 1) := by decide +kernel
theorem dX4_best_81 : decode cX4_best 81 = .ok (.iconst 0, 1) := by decide +kernel
theorem dX4_best_82 : decode cX4_best 82 = .ok (.iload_n 1, 1) := by decide +kernel
theorem dX4_best_83 : decode cX4_best 83 = .ok (.invokevirtual 182, 3) := by decide +kernel
theorem dX4_best_86 : decode cX4_best 86 = .ok (.aload_n 0, 1) := by decide +kernel
theorem dX4_best_87 : decode cX4_best 87 = .ok (.sipush 10000, 3) := by decide +kernel
theorem dX4_best_90 : decode cX4_best 90 = .ok (.aload_n 0, 1) := by decide +kernel
theorem dX4_best_91 : decode cX4_best 91 = .ok (.getfield 178, 3) := by decide +kernel
theorem dX4_best_94 : decode cX4_best 94 = .ok (.iadd, 1) := by decide +kernel
theorem dX4_best_95 : decode cX4_best 95 = .ok (.invokevirtual 171, 3) := by decide +kernel
theorem dX4_best_98 : decode cX4_best 98 = .ok (.ireturn, 1) := by decide +kernel
theorem dX4_isSoon_0 : decode cX4_isSoon 0 = .ok (.iload_n 0, 1) := by decide +kernel
theorem dX4_isSoon_1 : decode cX4_isSoon 1 = .ok (.i2l, 1) := by decide +kernel
theorem dX4_isSoon_2 : decode cX4_isSoon 2 = .ok (.lconst 0, 1) := by decide +kernel
theorem dX4_isSoon_3 : decode cX4_isSoon 3 = .ok (.ldc2_w 192, 3) := by decide +kernel
theorem dX4_isSoon_6 : decode cX4_isSoon 6 = .ok (.invokestatic 51, 3) := by decide +kernel
theorem dX4_isSoon_9 : decode cX4_isSoon 9 = .ok (.ireturn, 1) := by decide +kernel
theorem dX4_mend_0 : decode cX4_mend 0 = .ok (.iload_n 1, 1) := by decide +kernel
theorem dX4_mend_1 : decode cX4_mend 1 = .ok (.invokestatic 194, 3) := by decide +kernel
theorem dX4_mend_4 : decode cX4_mend 4 = .ok (.ifCond .ne 10, 3) := by decide +kernel
theorem dX4_mend_7 : decode cX4_mend 7 = .ok (.aload_n 0, 1) := by decide +kernel
theorem dX4_mend_8 : decode cX4_mend 8 = .ok (.ldc 48, 2) := by decide +kernel
theorem dX4_mend_10 : decode cX4_mend 10 = .ok (.invokevirtual 77, 3) := by decide +kernel
theorem dX4_mend_13 : decode cX4_mend 13 = .ok (.ireturn, 1) := by decide +kernel
theorem dX4_mend_14 : decode cX4_mend 14 = .ok (.iconst (-1), 1) := by decide +kernel
theorem dX4_mend_15 : decode cX4_mend 15 = .ok (.istore_n 2, 1) := by decide +kernel
theorem dX4_mend_16 : decode cX4_mend 16 = .ok (.aload_n 0, 1) := by decide +kernel
theorem dX4_mend_17 : decode cX4_mend 17 = .ok (.iload_n 1, 1) := by decide +kernel
theorem dX4_mend_18 : decode cX4_mend 18 = .ok (.invokevirtual 174, 3) := by decide +kernel
theorem dX4_mend_21 : decode cX4_mend 21 = .ok (.istore_n 3, 1) := by decide +kernel
theorem dX4_mend_22 : decode cX4_mend 22 = .ok (.iconst 0, 1) := by decide +kernel
theorem dX4_mend_23 : decode cX4_mend 23 = .ok (.istore 4, 2) := by decide +kernel
theorem dX4_mend_25 : decode cX4_mend 25 = .ok (.iload 4, 2) := by decide +kernel
theorem dX4_mend_27 : decode cX4_mend 27 = .ok (.aload_n 0, 1) := by decide +kernel
theorem dX4_mend_28 : decode cX4_mend 28 = .ok (.getfield 7, 3) := by decide +kernel
theorem dX4_mend_31 : decode cX4_mend 31 = .ok (.iconst 0, 1) := by decide +kernel
theorem dX4_mend_32 : decode cX4_mend 32 = .ok (.iaload, 1) := by decide +kernel
theorem dX4_mend_33 : decode cX4_mend 33 = .ok (.if_icmp .ge 100, 3) := by decide +kernel
theorem dX4_mend_36 : decode cX4_mend 36 = .ok (.iload 4, 2) := by decide +kernel
theorem dX4_mend_38 : decode cX4_mend 38 = .ok (.iconst 1, 1) := by decide +kernel
theorem dX4_mend_39 : decode cX4_mend 39 = .ok (.iadd, 1) := by decide +kernel
theorem dX4_mend_40 : decode cX4_mend 40 = .ok (.istore 5, 2) := by decide +kernel
theorem dX4_mend_42 : decode cX4_mend 42 = .ok (.iload 5, 2) := by decide +kernel
theorem dX4_mend_44 : decode cX4_mend 44 = .ok (.aload_n 0, 1) := by decide +kernel
theorem dX4_mend_45 : decode cX4_mend 45 = .ok (.getfield 7, 3) := by decide +kernel
theorem dX4_mend_48 : decode cX4_mend 48 = .ok (.iconst 0, 1) := by decide +kernel
theorem dX4_mend_49 : decode cX4_mend 49 = .ok (.iaload, 1) := by decide +kernel
theorem dX4_mend_50 : decode cX4_mend 50 = .ok (.if_icmp .ge 77, 3) := by decide +kernel
theorem dX4_mend_53 : decode cX4_mend 53 = .ok (.aload_n 0, 1) := by decide +kernel
theorem dX4_mend_54 : decode cX4_mend 54 = .ok (.iload 4, 2) := by decide +kernel
theorem dX4_mend_56 : decode cX4_mend 56 = .ok (.iload 5, 2) := by decide +kernel
theorem dX4_mend_58 : decode cX4_mend 58 = .ok (.invokevirtual 115, 3) := by decide +kernel
theorem dX4_mend_61 : decode cX4_mend 61 = .ok (.ifCond .eq 60, 3) := by decide +kernel
theorem dX4_mend_64 : decode cX4_mend 64 = .ok (.aload_n 0, 1) := by decide +kernel
theorem dX4_mend_65 : decode cX4_mend 65 = .ok (.iload 4, 2) := by decide +kernel
theorem dX4_mend_67 : decode cX4_mend 67 = .ok (.iload 5, 2) := by decide +kernel
theorem dX4_mend_69 : decode cX4_mend 69 = .ok (.iconst 0, 1) := by decide +kernel
theorem dX4_mend_70 : decode cX4_mend 70 = .ok (.invokevirtual 118, 3) := by decide +kernel
theorem dX4_mend_73 : decode cX4_mend 73 = .ok (.aload_n 0, 1) := by decide +kernel
theorem dX4_mend_74 : decode cX4_mend 74 = .ok (.iload_n 1, 1) := by decide +kernel
theorem dX4_mend_75 : decode cX4_mend 75 = .ok (.invokevirtual 174, 3) := by decide +kernel
theorem dX4_mend_78 : decode cX4_mend 78 = .ok (.istore 6, 2) := by decide +kernel
theorem dX4_mend_80 : decode cX4_mend 80 = .ok (.aload_n 0, 1) := by decide +kernel
theorem dX4_mend_81 : decode cX4_mend 81 = .ok (.iload 4, 2) := by decide +kernel
theorem dX4_mend_83 : decode cX4_mend 83 = .ok (.iload 5, 2) := by decide +kernel
theorem dX4_mend_85 : decode cX4_mend 85 = .ok (.iconst 1, 1) := by decide +kernel
theorem dX4_mend_86 : decode cX4_mend 86 = .ok (.invokevirtual 118, 3) := by decide +kernel
theorem dX4_mend_89 : decode cX4_mend 89 = .ok (.iload 6, 2) := by decide +kernel
theorem dX4_mend_91 : decode cX4_mend 91 = .ok (.iload_n 3, 1) := by decide +kernel
theorem dX4_mend_92 : decode cX4_mend 92 = .ok (.if_icmp .le 14, 3) := by decide +kernel
theorem dX4_mend_95 : decode cX4_mend 95 = .ok (.bipush 10, 2) := by decide +kernel
theorem dX4_mend_97 : decode cX4_mend 97 = .ok (.iload 4, 2) := by decide +kernel
theorem dX4_mend_99 : decode cX4_mend 99 = .ok (.imul, 1) := by decide +kernel
theorem dX4_mend_100 : decode cX4_mend 100 = .ok (.iload 5, 2) := by decide +kernel
theorem dX4_mend_102 : decode cX4_mend 102 = .ok (.iadd, 1) := by decide +kernel
theorem dX4_mend_103 : decode cX4_mend 103 = .ok (.goto 4, 3) := by decide +kernel
theorem dX4_mend_106 : decode cX4_mend 106 = .ok (.iload_n 2, 1) := by decide +kernel
theorem dX4_mend_107 : decode cX4_mend 107 = .ok (.istore_n 2, 1) := by decide +kernel
theorem dX4_mend_108 : decode cX4_mend 108 = .ok (.iload 6, 2) := by decide +kernel
theorem dX4_mend_110 : decode cX4_mend 110 = .ok (.iload_n 3, 1) := by decide +kernel
theorem dX4_mend_111 : decode cX4_mend 111 = .ok (.if_icmp .le 8, 3) := by decide +kernel
theorem dX4_mend_114 : decode cX4_mend 114 = .ok (.iload 6, 2) := by decide +kernel
theorem dX4_mend_116 : decode cX4_mend 116 = .ok (.goto 4, 3) := by decide +kernel
theorem dX4_mend_119 : decode cX4_mend 119 = .ok (.iload_n 3, 1) := by decide +kernel
theorem dX4_mend_120 : decode cX4_mend 120 = .ok (.istore_n 3, 1) := by decide +kernel
theorem dX4_mend_121 : decode cX4_mend 121 = .ok (.iinc 5 1, 3) := by decide +kernel
theorem dX4_mend_124 : decode cX4_mend 124 = .ok (.goto (-82), 3) := by decide +kernel
theorem dX4_mend_127 : decode cX4_mend 127 = .ok (.iinc 4 1, 3) := by decide +kernel
theorem dX4_mend_130 : decode cX4_mend 130 = .ok (.goto (-105), 3) := by decide +kernel
theorem dX4_mend_133 : decode cX4_mend 133 = .ok (.iload_n 2, 1) := by decide +kernel
theorem dX4_mend_134 : decode cX4_mend 134 = .ok (.ifCond .ge 12, 3) := by decide +kernel
theorem dX4_mend_137 : decode cX4_mend 137 = .ok (.aload_n 0, 1) := by decide +kernel
theorem dX4_mend_138 : decode cX4_mend 138 = .ok (.ldc 177, 2) := by decide +kernel
theorem dX4_mend_140 : decode cX4_mend 140 = .ok (.invokevirtual 77, 3) := by decide +kernel
theorem dX4_mend_143 : decode cX4_mend 143 = .ok (.goto 4, 3) := by decide +kernel
theorem dX4_mend_146 : decode cX4_mend 146 = .ok (.iload_n 2, 1) := by decide +kernel
theorem dX4_mend_147 : decode cX4_mend 147 = .ok (.ireturn, 1) := by decide +kernel
theorem dX4_wellIn_0 : decode cX4_wellIn 0 = .ok (.aload_n 0, 1) := by decide +kernel
theorem dX4_wellIn_1 : decode cX4_wellIn 1 = .ok (.invokevirtual 168, 3) := by decide +kernel
theorem dX4_wellIn_4 : decode cX4_wellIn 4 = .ok (.aload_n 0, 1) := by decide +kernel
theorem dX4_wellIn_5 : decode cX4_wellIn 5 = .ok (.iload_n 2, 1) := by decide +kernel
theorem dX4_wellIn_6 : decode cX4_wellIn 6 = .ok (.invokevirtual 156, 3) := by decide +kernel
theorem dX4_wellIn_9 : decode cX4_wellIn 9 = .ok (.istore_n 3, 1) := by decide +kernel
theorem dX4_wellIn_10 : decode cX4_wellIn 10 = .ok (.aload_n 0, 1) := by decide +kernel
theorem dX4_wellIn_11 : decode cX4_wellIn 11 = .ok (.aload_n 0, 1) := by decide +kernel
theorem dX4_wellIn_12 : decode cX4_wellIn 12 = .ok (.iload_n 1, 1) := by decide +kernel
theorem dX4_wellIn_13 : decode cX4_wellIn 13 = .ok (.iconst 5, 1) := by decide +kernel
theorem dX4_wellIn_14 : decode cX4_wellIn 14 = .ok (.invokevirtual 64, 3) := by decide +kernel
theorem dX4_wellIn_17 : decode cX4_wellIn 17 = .ok (.iconst (-1), 1) := by decide +kernel
theorem dX4_wellIn_18 : decode cX4_wellIn 18 = .ok (.if_icmp .ne 9, 3) := by decide +kernel
theorem dX4_wellIn_21 : decode cX4_wellIn 21 = .ok (.sipush (-1000), 3) := by decide +kernel
theorem dX4_wellIn_24 : decode cX4_wellIn 24 = .ok (.goto 14, 3) := by decide +kernel
theorem dX4_wellIn_27 : decode cX4_wellIn 27 = .ok (.aload_n 0, 1) := by decide +kernel
theorem dX4_wellIn_28 : decode cX4_wellIn 28 = .ok (.iload_n 1, 1) := by decide +kernel
theorem dX4_wellIn_29 : decode cX4_wellIn 29 = .ok (.aload_n 0, 1) := by decide +kernel
theorem dX4_wellIn_30 : decode cX4_wellIn 30 = .ok (.iload_n 1, 1) := by decide +kernel
theorem dX4_wellIn_31 : decode cX4_wellIn 31 = .ok (.iconst 5, 1) := by decide +kernel
theorem dX4_wellIn_32 : decode cX4_wellIn 32 = .ok (.invokevirtual 64, 3) := by decide +kernel
theorem dX4_wellIn_35 : decode cX4_wellIn 35 = .ok (.invokevirtual 141, 3) := by decide +kernel
theorem dX4_wellIn_38 : decode cX4_wellIn 38 = .ok (.invokevirtual 171, 3) := by decide +kernel
theorem dX4_wellIn_41 : decode cX4_wellIn 41 = .ok (.ireturn, 1) := by decide +kernel
theorem dX4_bestBy_0 : decode cX4_bestBy 0 = .ok (.aload_n 0, 1) := by decide +kernel
theorem dX4_bestBy_1 : decode cX4_bestBy 1 = .ok (.getfield 7, 3) := by decide +kernel
theorem dX4_bestBy_4 : decode cX4_bestBy 4 = .ok (.iload_n 1, 1) := by decide +kernel
theorem dX4_bestBy_5 : decode cX4_bestBy 5 = .ok (.iaload, 1) := by decide +kernel
theorem dX4_bestBy_6 : decode cX4_bestBy 6 = .ok (.istore 6, 2) := by decide +kernel
theorem dX4_bestBy_8 : decode cX4_bestBy 8 = .ok (.iload_n 2, 1) := by decide +kernel
theorem dX4_bestBy_9 : decode cX4_bestBy 9 = .ok (.istore 7, 2) := by decide +kernel
theorem dX4_bestBy_11 : decode cX4_bestBy 11 = .ok (.sipush (-10000), 3) := by decide +kernel
theorem dX4_bestBy_14 : decode cX4_bestBy 14 = .ok (.istore 8, 2) := by decide +kernel
theorem dX4_bestBy_16 : decode cX4_bestBy 16 = .ok (.iload_n 2, 1) := by decide +kernel
theorem dX4_bestBy_17 : decode cX4_bestBy 17 = .ok (.istore 9, 2) := by decide +kernel
theorem dX4_bestBy_19 : decode cX4_bestBy 19 = .ok (.iload 9, 2) := by decide +kernel
theorem dX4_bestBy_21 : decode cX4_bestBy 21 = .ok (.iload_n 3, 1) := by decide +kernel
theorem dX4_bestBy_22 : decode cX4_bestBy 22 = .ok (.if_icmp .gt 59, 3) := by decide +kernel
theorem dX4_bestBy_25 : decode cX4_bestBy 25 = .ok (.aload_n 0, 1) := by decide +kernel
theorem dX4_bestBy_26 : decode cX4_bestBy 26 = .ok (.getfield 7, 3) := by decide +kernel
theorem dX4_bestBy_29 : decode cX4_bestBy 29 = .ok (.iload_n 1, 1) := by decide +kernel
theorem dX4_bestBy_30 : decode cX4_bestBy 30 = .ok (.iload 9, 2) := by decide +kernel
theorem dX4_bestBy_32 : decode cX4_bestBy 32 = .ok (.iastore, 1) := by decide +kernel
theorem dX4_bestBy_33 : decode cX4_bestBy 33 = .ok (.aload_n 0, 1) := by decide +kernel
theorem dX4_bestBy_34 : decode cX4_bestBy 34 = .ok (.iload 4, 2) := by decide +kernel
theorem dX4_bestBy_36 : decode cX4_bestBy 36 = .ok (.iload 5, 2) := by decide +kernel
theorem dX4_bestBy_38 : decode cX4_bestBy 38 = .ok (.invokevirtual 197, 3) := by decide +kernel
theorem dX4_bestBy_41 : decode cX4_bestBy 41 = .ok (.istore 10, 2) := by decide +kernel
theorem dX4_bestBy_43 : decode cX4_bestBy 43 = .ok (.iload 10, 2) := by decide +kernel
theorem dX4_bestBy_45 : decode cX4_bestBy 45 = .ok (.iload 8, 2) := by decide +kernel
theorem dX4_bestBy_47 : decode cX4_bestBy 47 = .ok (.if_icmp .le 8, 3) := by decide +kernel
theorem dX4_bestBy_50 : decode cX4_bestBy 50 = .ok (.iload 9, 2) := by decide +kernel
theorem dX4_bestBy_52 : decode cX4_bestBy 52 = .ok (.goto 5, 3) := by decide +kernel
theorem dX4_bestBy_55 : decode cX4_bestBy 55 = .ok (.iload 7, 2) := by decide +kernel
theorem dX4_bestBy_57 : decode cX4_bestBy 57 = .ok (.istore 7, 2) := by decide +kernel
theorem dX4_bestBy_59 : decode cX4_bestBy 59 = .ok (.iload 10, 2) := by decide +kernel
theorem dX4_bestBy_61 : decode cX4_bestBy 61 = .ok (.iload 8, 2) := by decide +kernel
theorem dX4_bestBy_63 : decode cX4_bestBy 63 = .ok (.if_icmp .le 8, 3) := by decide +kernel
theorem dX4_bestBy_66 : decode cX4_bestBy 66 = .ok (.iload 10, 2) := by decide +kernel
theorem dX4_bestBy_68 : decode cX4_bestBy 68 = .ok (.goto 5, 3) := by decide +kernel
theorem dX4_bestBy_71 : decode cX4_bestBy 71 = .ok (.iload 8, 2) := by decide +kernel
theorem dX4_bestBy_73 : decode cX4_bestBy 73 = .ok (.istore 8, 2) := by decide +kernel
theorem dX4_bestBy_75 : decode cX4_bestBy 75 = .ok (.iinc 9 1, 3) := by decide +kernel
theorem dX4_bestBy_78 : decode cX4_bestBy 78 = .ok (.goto (-59), 3) := by decide +kernel
theorem dX4_bestBy_81 : decode cX4_bestBy 81 = .ok (.aload_n 0, 1) := by decide +kernel
theorem dX4_bestBy_82 : decode cX4_bestBy 82 = .ok (.getfield 7, 3) := by decide +kernel
theorem dX4_bestBy_85 : decode cX4_bestBy 85 = .ok (.iload_n 1, 1) := by decide +kernel
theorem dX4_bestBy_86 : decode cX4_bestBy 86 = .ok (.iload 6, 2) := by decide +kernel
theorem dX4_bestBy_88 : decode cX4_bestBy 88 = .ok (.iastore, 1) := by decide +kernel
theorem dX4_bestBy_89 : decode cX4_bestBy 89 = .ok (.iload 7, 2) := by decide +kernel
theorem dX4_bestBy_91 : decode cX4_bestBy 91 = .ok (.ireturn, 1) := by decide +kernel
theorem dX4_kind_0 : decode cX4_kind 0 = .ok (.aload_n 0, 1) := by decide +kernel
theorem dX4_kind_1 : decode cX4_kind 1 = .ok (.iload_n 1, 1) := by decide +kernel
theorem dX4_kind_2 : decode cX4_kind 2 = .ok (.invokevirtual 55, 3) := by decide +kernel
theorem dX4_kind_5 : decode cX4_kind 5 = .ok (.ifCond .eq 26, 3) := by decide +kernel
theorem dX4_kind_8 : decode cX4_kind 8 = .ok (.iload_n 2, 1) := by decide +kernel
theorem dX4_kind_9 : decode cX4_kind 9 = .ok (.invokestatic 194, 3) := by decide +kernel
theorem dX4_kind_12 : decode cX4_kind 12 = .ok (.ifCond .eq 19, 3) := by decide +kernel
theorem dX4_kind_15 : decode cX4_kind 15 = .ok (.aload_n 0, 1) := by decide +kernel
theorem dX4_kind_16 : decode cX4_kind 16 = .ok (.iload_n 1, 1) := by decide +kernel
theorem dX4_kind_17 : decode cX4_kind 17 = .ok (.iconst 0, 1) := by decide +kernel
theorem dX4_kind_18 : decode cX4_kind 18 = .ok (.invokestatic 61, 3) := by decide +kernel
theorem dX4_kind_21 : decode cX4_kind 21 = .ok (.iconst 0, 1) := by decide +kernel
theorem dX4_kind_22 : decode cX4_kind 22 = .ok (.iconst 5, 1) := by decide +kernel
theorem dX4_kind_23 : decode cX4_kind 23 = .ok (.iload_n 1, 1) := by decide +kernel
theorem dX4_kind_24 : decode cX4_kind 24 = .ok (.iload_n 2, 1) := by decide +kernel
theorem dX4_kind_25 : decode cX4_kind 25 = .ok (.invokevirtual 200, 3) := by decide +kernel
theorem dX4_kind_28 : decode cX4_kind 28 = .ok (.goto 9, 3) := by decide +kernel
theorem dX4_kind_31 : decode cX4_kind 31 = .ok (.aload_n 0, 1) := by decide +kernel
theorem dX4_kind_32 : decode cX4_kind 32 = .ok (.ldc 48, 2) := by decide +kernel
theorem dX4_kind_34 : decode cX4_kind 34 = .ok (.invokevirtual 77, 3) := by decide +kernel
theorem dX4_kind_37 : decode cX4_kind 37 = .ok (.ireturn, 1) := by decide +kernel
theorem dX4_claim_0 : decode cX4_claim 0 = .ok (.aload_n 0, 1) := by decide +kernel
theorem dX4_claim_1 : decode cX4_claim 1 = .ok (.iload_n 1, 1) := by decide +kernel
theorem dX4_claim_2 : decode cX4_claim 2 = .ok (.invokevirtual 55, 3) := by decide +kernel
theorem dX4_claim_5 : decode cX4_claim 5 = .ok (.ifCond .eq 29, 3) := by decide +kernel
theorem dX4_claim_8 : decode cX4_claim 8 = .ok (.iload_n 2, 1) := by decide +kernel
theorem dX4_claim_9 : decode cX4_claim 9 = .ok (.invokestatic 194, 3) := by decide +kernel
theorem dX4_claim_12 : decode cX4_claim 12 = .ok (.ifCond .eq 22, 3) := by decide +kernel
theorem dX4_claim_15 : decode cX4_claim 15 = .ok (.iconst 1, 1) := by decide +kernel
theorem dX4_claim_16 : decode cX4_claim 16 = .ok (.aload_n 0, 1) := by decide +kernel
theorem dX4_claim_17 : decode cX4_claim 17 = .ok (.iload_n 1, 1) := by decide +kernel
theorem dX4_claim_18 : decode cX4_claim 18 = .ok (.iconst 2, 1) := by decide +kernel
theorem dX4_claim_19 : decode cX4_claim 19 = .ok (.invokestatic 61, 3) := by decide +kernel
theorem dX4_claim_22 : decode cX4_claim 22 = .ok (.iconst (-1), 1) := by decide +kernel
theorem dX4_claim_23 : decode cX4_claim 23 = .ok (.bipush 7, 2) := by decide +kernel
theorem dX4_claim_25 : decode cX4_claim 25 = .ok (.iload_n 1, 1) := by decide +kernel
theorem dX4_claim_26 : decode cX4_claim 26 = .ok (.iload_n 2, 1) := by decide +kernel
theorem dX4_claim_27 : decode cX4_claim 27 = .ok (.invokevirtual 200, 3) := by decide +kernel
theorem dX4_claim_30 : decode cX4_claim 30 = .ok (.iadd, 1) := by decide +kernel
theorem dX4_claim_31 : decode cX4_claim 31 = .ok (.goto 9, 3) := by decide +kernel
theorem dX4_claim_34 : decode cX4_claim 34 = .ok (.aload_n 0, 1) := by decide +kernel
theorem dX4_claim_35 : decode cX4_claim 35 = .ok (.ldc 48, 2) := by decide +kernel
theorem dX4_claim_37 : decode cX4_claim 37 = .ok (.invokevirtual 77, 3) := by decide +kernel
theorem dX4_claim_40 : decode cX4_claim 40 = .ok (.ireturn, 1) := by decide +kernel
theorem dX4_years_0 : decode cX4_years 0 = .ok (.aload_n 0, 1) := by decide +kernel
theorem dX4_years_1 : decode cX4_years 1 = .ok (.iload_n 1, 1) := by decide +kernel
theorem dX4_years_2 : decode cX4_years 2 = .ok (.invokevirtual 55, 3) := by decide +kernel
theorem dX4_years_5 : decode cX4_years 5 = .ok (.ifCond .eq 22, 3) := by decide +kernel
theorem dX4_years_8 : decode cX4_years 8 = .ok (.iload_n 2, 1) := by decide +kernel
theorem dX4_years_9 : decode cX4_years 9 = .ok (.invokestatic 71, 3) := by decide +kernel
theorem dX4_years_12 : decode cX4_years 12 = .ok (.ifCond .eq 15, 3) := by decide +kernel
theorem dX4_years_15 : decode cX4_years 15 = .ok (.iload_n 3, 1) := by decide +kernel
theorem dX4_years_16 : decode cX4_years 16 = .ok (.i2l, 1) := by decide +kernel
theorem dX4_years_17 : decode cX4_years 17 = .ok (.lconst 1, 1) := by decide +kernel
theorem dX4_years_18 : decode cX4_years 18 = .ok (.ldc2_w 192, 3) := by decide +kernel
theorem dX4_years_21 : decode cX4_years 21 = .ok (.invokestatic 51, 3) := by decide +kernel
theorem dX4_years_24 : decode cX4_years 24 = .ok (.ifCond .ne 10, 3) := by decide +kernel
theorem dX4_years_27 : decode cX4_years 27 = .ok (.aload_n 0, 1) := by decide +kernel
theorem dX4_years_28 : decode cX4_years 28 = .ok (.ldc 48, 2) := by decide +kernel
theorem dX4_years_30 : decode cX4_years 30 = .ok (.invokevirtual 77, 3) := by decide +kernel
theorem dX4_years_33 : decode cX4_years 33 = .ok (.ireturn, 1) := by decide +kernel
theorem dX4_years_34 : decode cX4_years 34 = .ok (.iconst (-1), 1) := by decide +kernel
theorem dX4_years_35 : decode cX4_years 35 = .ok (.istore 4, 2) := by decide +kernel
theorem dX4_years_37 : decode cX4_years 37 = .ok (.aload_n 0, 1) := by decide +kernel
theorem dX4_years_38 : decode cX4_years 38 = .ok (.invokevirtual 168, 3) := by decide +kernel
theorem dX4_years_41 : decode cX4_years 41 = .ok (.iconst 0, 1) := by decide +kernel
theorem dX4_years_42 : decode cX4_years 42 = .ok (.istore 5, 2) := by decide +kernel
theorem dX4_years_44 : decode cX4_years 44 = .ok (.iload 5, 2) := by decide +kernel
theorem dX4_years_46 : decode cX4_years 46 = .ok (.bipush 99, 2) := by decide +kernel
theorem dX4_years_48 : decode cX4_years 48 = .ok (.if_icmp .gt 55, 3) := by decide +kernel
theorem dX4_years_51 : decode cX4_years 51 = .ok (.iload 4, 2) := by decide +kernel
theorem dX4_years_53 : decode cX4_years 53 = .ok (.ifCond .ge 50, 3) := by decide +kernel
theorem dX4_years_56 : decode cX4_years 56 = .ok (.aload_n 0, 1) := by decide +kernel
theorem dX4_years_57 : decode cX4_years 57 = .ok (.getfield 7, 3) := by decide +kernel
theorem dX4_years_60 : decode cX4_years 60 = .ok (.iload_n 1, 1) := by decide +kernel
theorem dX4_years_61 : decode cX4_years 61 = .ok (.iconst 1, 1) := by decide +kernel
theorem dX4_years_62 : decode cX4_years 62 = .ok (.invokestatic 61, 3) := by decide +kernel
theorem dX4_years_65 : decode cX4_years 65 = .ok (.iload 5, 2) := by decide +kernel
theorem dX4_years_67 : decode cX4_years 67 = .ok (.iastore, 1) := by decide +kernel
theorem dX4_years_68 : decode cX4_years 68 = .ok (.aload_n 0, 1) := by decide +kernel
theorem dX4_years_69 : decode cX4_years 69 = .ok (.iload_n 3, 1) := by decide +kernel
theorem dX4_years_70 : decode cX4_years 70 = .ok (.invokevirtual 156, 3) := by decide +kernel
theorem dX4_years_73 : decode cX4_years 73 = .ok (.istore 6, 2) := by decide +kernel
theorem dX4_years_75 : decode cX4_years 75 = .ok (.aload_n 0, 1) := by decide +kernel
theorem dX4_years_76 : decode cX4_years 76 = .ok (.aload_n 0, 1) := by decide +kernel
theorem dX4_years_77 : decode cX4_years 77 = .ok (.iload_n 1, 1) := by decide +kernel
theorem dX4_years_78 : decode cX4_years 78 = .ok (.iconst 5, 1) := by decide +kernel
theorem dX4_years_79 : decode cX4_years 79 = .ok (.invokevirtual 64, 3) := by decide +kernel
theorem dX4_years_82 : decode cX4_years 82 = .ok (.iload_n 2, 1) := by decide +kernel
theorem dX4_years_83 : decode cX4_years 83 = .ok (.if_icmp .ne 8, 3) := by decide +kernel
theorem dX4_years_86 : decode cX4_years 86 = .ok (.iload 5, 2) := by decide +kernel
theorem dX4_years_88 : decode cX4_years 88 = .ok (.goto 4, 3) := by decide +kernel
theorem dX4_years_91 : decode cX4_years 91 = .ok (.iconst (-1), 1) := by decide +kernel
theorem dX4_years_92 : decode cX4_years 92 = .ok (.invokevirtual 171, 3) := by decide +kernel
theorem dX4_years_95 : decode cX4_years 95 = .ok (.istore 4, 2) := by decide +kernel
theorem dX4_years_97 : decode cX4_years 97 = .ok (.iinc 5 1, 3) := by decide +kernel
theorem dX4_years_100 : decode cX4_years 100 = .ok (.goto (-56), 3) := by decide +kernel
theorem dX4_years_103 : decode cX4_years 103 = .ok (.iload 4, 2) := by decide +kernel
theorem dX4_years_105 : decode cX4_years 105 = .ok (.ifCond .ge 12, 3) := by decide +kernel
theorem dX4_years_108 : decode cX4_years 108 = .ok (.aload_n 0, 1) := by decide +kernel
theorem dX4_years_109 : decode cX4_years 109 = .ok (.ldc 177, 2) := by decide +kernel
theorem dX4_years_111 : decode cX4_years 111 = .ok (.invokevirtual 77, 3) := by decide +kernel
theorem dX4_years_114 : decode cX4_years 114 = .ok (.goto 5, 3) := by decide +kernel
theorem dX4_years_117 : decode cX4_years 117 = .ok (.iload 4, 2) := by decide +kernel
theorem dX4_years_119 : decode cX4_years 119 = .ok (.ireturn, 1) := by decide +kernel
theorem dX4_always_0 : decode cX4_always 0 = .ok (.iload_n 1, 1) := by decide +kernel
theorem dX4_always_1 : decode cX4_always 1 = .ok (.i2l, 1) := by decide +kernel
theorem dX4_always_2 : decode cX4_always 2 = .ok (.lconst 0, 1) := by decide +kernel
theorem dX4_always_3 : decode cX4_always 3 = .ok (.ldc2_w 153, 3) := by decide +kernel
theorem dX4_always_6 : decode cX4_always 6 = .ok (.invokestatic 51, 3) := by decide +kernel
theorem dX4_always_9 : decode cX4_always 9 = .ok (.ifCond .ne 10, 3) := by decide +kernel
theorem dX4_always_12 : decode cX4_always 12 = .ok (.aload_n 0, 1) := by decide +kernel
theorem dX4_always_13 : decode cX4_always 13 = .ok (.ldc 48, 2) := by decide +kernel
theorem dX4_always_15 : decode cX4_always 15 = .ok (.invokevirtual 77, 3) := by decide +kernel
theorem dX4_always_18 : decode cX4_always 18 = .ok (.ireturn, 1) := by decide +kernel
theorem dX4_always_19 : decode cX4_always 19 = .ok (.aload_n 0, 1) := by decide +kernel
theorem dX4_always_20 : decode cX4_always 20 = .ok (.invokevirtual 168, 3) := by decide +kernel
theorem dX4_always_23 : decode cX4_always 23 = .ok (.aload_n 0, 1) := by decide +kernel
theorem dX4_always_24 : decode cX4_always 24 = .ok (.iload_n 1, 1) := by decide +kernel
theorem dX4_always_25 : decode cX4_always 25 = .ok (.invokevirtual 156, 3) := by decide +kernel
theorem dX4_always_28 : decode cX4_always 28 = .ok (.istore_n 2, 1) := by decide +kernel
theorem dX4_always_29 : decode cX4_always 29 = .ok (.iconst (-1), 1) := by decide +kernel
theorem dX4_always_30 : decode cX4_always 30 = .ok (.istore_n 3, 1) := by decide +kernel
theorem dX4_always_31 : decode cX4_always 31 = .ok (.iconst 0, 1) := by decide +kernel
theorem dX4_always_32 : decode cX4_always 32 = .ok (.istore 4, 2) := by decide +kernel
theorem dX4_always_34 : decode cX4_always 34 = .ok (.iload 4, 2) := by decide +kernel
theorem dX4_always_36 : decode cX4_always 36 = .ok (.aload_n 0, 1) := by decide +kernel
theorem dX4_always_37 : decode cX4_always 37 = .ok (.getfield 7, 3) := by decide +kernel
theorem dX4_always_40 : decode cX4_always 40 = .ok (.iconst 0, 1) := by decide +kernel
theorem dX4_always_41 : decode cX4_always 41 = .ok (.iaload, 1) := by decide +kernel
theorem dX4_always_42 : decode cX4_always 42 = .ok (.if_icmp .ge 36, 3) := by decide +kernel
theorem dX4_always_45 : decode cX4_always 45 = .ok (.iload_n 3, 1) := by decide +kernel
theorem dX4_always_46 : decode cX4_always 46 = .ok (.ifCond .lt 19, 3) := by decide +kernel
theorem dX4_always_49 : decode cX4_always 49 = .ok (.aload_n 0, 1) := by decide +kernel
theorem dX4_always_50 : decode cX4_always 50 = .ok (.iload 4, 2) := by decide +kernel
theorem dX4_always_52 : decode cX4_always 52 = .ok (.iconst 4, 1) := by decide +kernel
theorem dX4_always_53 : decode cX4_always 53 = .ok (.invokevirtual 64, 3) := by decide +kernel
theorem dX4_always_56 : decode cX4_always 56 = .ok (.aload_n 0, 1) := by decide +kernel
theorem dX4_always_57 : decode cX4_always 57 = .ok (.iload_n 3, 1) := by decide +kernel
theorem dX4_always_58 : decode cX4_always 58 = .ok (.iconst 4, 1) := by decide +kernel
theorem dX4_always_59 : decode cX4_always 59 = .ok (.invokevirtual 64, 3) := by decide +kernel
theorem dX4_always_62 : decode cX4_always 62 = .ok (.if_icmp .le 8, 3) := by decide +kernel
theorem dX4_always_65 : decode cX4_always 65 = .ok (.iload 4, 2) := by decide +kernel
theorem dX4_always_67 : decode cX4_always 67 = .ok (.goto 4, 3) := by decide +kernel
theorem dX4_always_70 : decode cX4_always 70 = .ok (.iload_n 3, 1) := by decide +kernel
theorem dX4_always_71 : decode cX4_always 71 = .ok (.istore_n 3, 1) := by decide +kernel
theorem dX4_always_72 : decode cX4_always 72 = .ok (.iinc 4 1, 3) := by decide +kernel
theorem dX4_always_75 : decode cX4_always 75 = .ok (.goto (-41), 3) := by decide +kernel
theorem dX4_always_78 : decode cX4_always 78 = .ok (.aload_n 0, 1) := by decide +kernel
theorem dX4_always_79 : decode cX4_always 79 = .ok (.iload_n 3, 1) := by decide +kernel
theorem dX4_always_80 : decode cX4_always 80 = .ok (.invokevirtual 171, 3) := by decide +kernel
theorem dX4_always_83 : decode cX4_always 83 = .ok (.istore 4, 2) := by decide +kernel
theorem dX4_always_85 : decode cX4_always 85 = .ok (.iload 4, 2) := by decide +kernel
theorem dX4_always_87 : decode cX4_always 87 = .ok (.ifCond .ge 12, 3) := by decide +kernel
theorem dX4_always_90 : decode cX4_always 90 = .ok (.aload_n 0, 1) := by decide +kernel
theorem dX4_always_91 : decode cX4_always 91 = .ok (.ldc 177, 2) := by decide +kernel
theorem dX4_always_93 : decode cX4_always 93 = .ok (.invokevirtual 77, 3) := by decide +kernel
theorem dX4_always_96 : decode cX4_always 96 = .ok (.goto 5, 3) := by decide +kernel
theorem dX4_always_99 : decode cX4_always 99 = .ok (.iload 4, 2) := by decide +kernel
theorem dX4_always_101 : decode cX4_always 101 = .ok (.ireturn, 1) := by decide +kernel
theorem dX4_beside_0 : decode cX4_beside 0 = .ok (.aload_n 0, 1) := by decide +kernel
theorem dX4_beside_1 : decode cX4_beside 1 = .ok (.iload_n 1, 1) := by decide +kernel
theorem dX4_beside_2 : decode cX4_beside 2 = .ok (.invokevirtual 55, 3) := by decide +kernel
theorem dX4_beside_5 : decode cX4_beside 5 = .ok (.ifCond .ne 10, 3) := by decide +kernel
theorem dX4_beside_8 : decode cX4_beside 8 = .ok (.aload_n 0, 1) := by decide +kernel
theorem dX4_beside_9 : decode cX4_beside 9 = .ok (.ldc 48, 2) := by decide +kernel
theorem dX4_beside_11 : decode cX4_beside 11 = .ok (.invokevirtual 77, 3) := by decide +kernel
theorem dX4_beside_14 : decode cX4_beside 14 = .ok (.ireturn, 1) := by decide +kernel
theorem dX4_beside_15 : decode cX4_beside 15 = .ok (.iconst (-1), 1) := by decide +kernel
theorem dX4_beside_16 : decode cX4_beside 16 = .ok (.istore_n 2, 1) := by decide +kernel
theorem dX4_beside_17 : decode cX4_beside 17 = .ok (.iconst 0, 1) := by decide +kernel
theorem dX4_beside_18 : decode cX4_beside 18 = .ok (.istore_n 3, 1) := by decide +kernel
theorem dX4_beside_19 : decode cX4_beside 19 = .ok (.iconst 0, 1) := by decide +kernel
theorem dX4_beside_20 : decode cX4_beside 20 = .ok (.istore 4, 2) := by decide +kernel
theorem dX4_beside_22 : decode cX4_beside 22 = .ok (.iload 4, 2) := by decide +kernel
theorem dX4_beside_24 : decode cX4_beside 24 = .ok (.aload_n 0, 1) := by decide +kernel
theorem dX4_beside_25 : decode cX4_beside 25 = .ok (.getfield 7, 3) := by decide +kernel
theorem dX4_beside_28 : decode cX4_beside 28 = .ok (.iconst 0, 1) := by decide +kernel
theorem dX4_beside_29 : decode cX4_beside 29 = .ok (.iaload, 1) := by decide +kernel
theorem dX4_beside_30 : decode cX4_beside 30 = .ok (.if_icmp .ge 140, 3) := by decide +kernel
theorem dX4_beside_33 : decode cX4_beside 33 = .ok (.aload_n 0, 1) := by decide +kernel
theorem dX4_beside_34 : decode cX4_beside 34 = .ok (.iload 4, 2) := by decide +kernel
theorem dX4_beside_36 : decode cX4_beside 36 = .ok (.iconst 5, 1) := by decide +kernel
theorem dX4_beside_37 : decode cX4_beside 37 = .ok (.invokevirtual 64, 3) := by decide +kernel
theorem dX4_beside_40 : decode cX4_beside 40 = .ok (.iconst 1, 1) := by decide +kernel
theorem dX4_beside_41 : decode cX4_beside 41 = .ok (.isub, 1) := by decide +kernel
theorem dX4_beside_42 : decode cX4_beside 42 = .ok (.istore 5, 2) := by decide +kernel
theorem dX4_beside_44 : decode cX4_beside 44 = .ok (.iload 5, 2) := by decide +kernel
theorem dX4_beside_46 : decode cX4_beside 46 = .ok (.aload_n 0, 1) := by decide +kernel
theorem dX4_beside_47 : decode cX4_beside 47 = .ok (.iload 4, 2) := by decide +kernel
theorem dX4_beside_49 : decode cX4_beside 49 = .ok (.iconst 5, 1) := by decide +kernel
theorem dX4_beside_50 : decode cX4_beside 50 = .ok (.invokevirtual 64, 3) := by decide +kernel
theorem dX4_beside_53 : decode cX4_beside 53 = .ok (.iconst 1, 1) := by decide +kernel
theorem dX4_beside_54 : decode cX4_beside 54 = .ok (.iadd, 1) := by decide +kernel
theorem dX4_beside_55 : decode cX4_beside 55 = .ok (.if_icmp .gt 109, 3) := by decide +kernel
theorem dX4_beside_58 : decode cX4_beside 58 = .ok (.iload 4, 2) := by decide +kernel
theorem dX4_beside_60 : decode cX4_beside 60 = .ok (.iload_n 1, 1) := by decide +kernel
theorem dX4_beside_61 : decode cX4_beside 61 = .ok (.if_icmp .eq 103, 3) := by decide +kernel
theorem dX4_beside_64 : decode cX4_beside 64 = .ok (.aload_n 0, 1) := by decide +kernel
theorem dX4_beside_65 : decode cX4_beside 65 = .ok (.iload 4, 2) := by decide +kernel
theorem dX4_beside_67 : decode cX4_beside 67 = .ok (.iconst 5, 1) := by decide +kernel
theorem dX4_beside_68 : decode cX4_beside 68 = .ok (.invokevirtual 64, 3) := by decide +kernel
theorem dX4_beside_71 : decode cX4_beside 71 = .ok (.iconst (-1), 1) := by decide +kernel
theorem dX4_beside_72 : decode cX4_beside 72 = .ok (.if_icmp .eq 92, 3) := by decide +kernel
theorem dX4_beside_75 : decode cX4_beside 75 = .ok (.iload 5, 2) := by decide +kernel
theorem dX4_beside_77 : decode cX4_beside 77 = .ok (.invokestatic 71, 3) := by decide +kernel
theorem dX4_beside_80 : decode cX4_beside 80 = .ok (.ifCond .eq 12, 3) := by decide +kernel
theorem dX4_beside_83 : decode cX4_beside 83 = .ok (.aload_n 0, 1) := by decide +kernel
theorem dX4_beside_84 : decode cX4_beside 84 = .ok (.iload 5, 2) := by decide +kernel
theorem dX4_beside_86 : decode cX4_beside 86 = .ok (.invokevirtual 83, 3) := by decide +kernel
theorem dX4_beside_89 : decode cX4_beside 89 = .ok (.goto 5, 3) := by decide +kernel
theorem dX4_beside_92 : decode cX4_beside 92 = .ok (.iload 4, 2) := by decide +kernel
theorem dX4_beside_94 : decode cX4_beside 94 = .ok (.istore 6, 2) := by decide +kernel
theorem dX4_beside_96 : decode cX4_beside 96 = .ok (.iload 6, 2) := by decide +kernel
theorem dX4_beside_98 : decode cX4_beside 98 = .ok (.iconst (-1), 1) := by decide +kernel
theorem dX4_beside_99 : decode cX4_beside 99 = .ok (.if_icmp .eq 9, 3) := by decide +kernel
theorem dX4_beside_102 : decode cX4_beside 102 = .ok (.iload 6, 2) := by decide +kernel
theorem dX4_beside_104 : decode cX4_beside 104 = .ok (.iload_n 1, 1) := by decide +kernel
theorem dX4_beside_105 : decode cX4_beside 105 = .ok (.if_icmp .ne 53, 3) := by decide +kernel
theorem dX4_beside_108 : decode cX4_beside 108 = .ok (.aload_n 0, 1) := by decide +kernel
theorem dX4_beside_109 : decode cX4_beside 109 = .ok (.iload_n 1, 1) := by decide +kernel
theorem dX4_beside_110 : decode cX4_beside 110 = .ok (.iload 5, 2) := by decide +kernel
theorem dX4_beside_112 : decode cX4_beside 112 = .ok (.invokevirtual 141, 3) := by decide +kernel
theorem dX4_beside_115 : decode cX4_beside 115 = .ok (.istore 7, 2) := by decide +kernel
theorem dX4_beside_117 : decode cX4_beside 117 = .ok (.iload_n 2, 1) := by decide +kernel
theorem dX4_beside_118 : decode cX4_beside 118 = .ok (.ifCond .lt 9, 3) := by decide +kernel
theorem dX4_beside_121 : decode cX4_beside 121 = .ok (.iload 7, 2) := by decide +kernel
theorem dX4_beside_123 : decode cX4_beside 123 = .ok (.iload_n 3, 1) := by decide +kernel
theorem dX4_beside_124 : decode cX4_beside 124 = .ok (.if_icmp .le 7, 3) := by decide +kernel
theorem dX4_beside_127 : decode cX4_beside 127 = .ok (.iconst 1, 1) := by decide +kernel
theorem dX4_beside_128 : decode cX4_beside 128 = .ok (.goto 4, 3) := by decide +kernel
theorem dX4_beside_131 : decode cX4_beside 131 = .ok (.iconst 0, 1) := by decide +kernel
theorem dX4_beside_132 : decode cX4_beside 132 = .ok (.istore 8, 2) := by decide +kernel
theorem dX4_beside_134 : decode cX4_beside 134 = .ok (.iload 8, 2) := by decide +kernel
theorem dX4_beside_136 : decode cX4_beside 136 = .ok (.ifCond .eq 8, 3) := by decide +kernel
theorem dX4_beside_139 : decode cX4_beside 139 = .ok (.iload 4, 2) := by decide +kernel
theorem dX4_beside_141 : decode cX4_beside 141 = .ok (.goto 4, 3) := by decide +kernel
theorem dX4_beside_144 : decode cX4_beside 144 = .ok (.iload_n 2, 1) := by decide +kernel
theorem dX4_beside_145 : decode cX4_beside 145 = .ok (.istore_n 2, 1) := by decide +kernel
theorem dX4_beside_146 : decode cX4_beside 146 = .ok (.iload 8, 2) := by decide +kernel
theorem dX4_beside_148 : decode cX4_beside 148 = .ok (.ifCond .eq 8, 3) := by decide +kernel
theorem dX4_beside_151 : decode cX4_beside 151 = .ok (.iload 7, 2) := by decide +kernel
theorem dX4_beside_153 : decode cX4_beside 153 = .ok (.goto 4, 3) := by decide +kernel
theorem dX4_beside_156 : decode cX4_beside 156 = .ok (.iload_n 3, 1) := by decide +kernel
theorem dX4_beside_157 : decode cX4_beside 157 = .ok (.istore_n 3, 1) := by decide +kernel
theorem dX4_beside_158 : decode cX4_beside 158 = .ok (.iinc 5 2, 3) := by decide +kernel
theorem dX4_beside_161 : decode cX4_beside 161 = .ok (.goto (-117), 3) := by decide +kernel
theorem dX4_beside_164 : decode cX4_beside 164 = .ok (.iinc 4 1, 3) := by decide +kernel
theorem dX4_beside_167 : decode cX4_beside 167 = .ok (.goto (-145), 3) := by decide +kernel
theorem dX4_beside_170 : decode cX4_beside 170 = .ok (.iload_n 2, 1) := by decide +kernel
theorem dX4_beside_171 : decode cX4_beside 171 = .ok (.ifCond .ge 12, 3) := by decide +kernel
theorem dX4_beside_174 : decode cX4_beside 174 = .ok (.aload_n 0, 1) := by decide +kernel
theorem dX4_beside_175 : decode cX4_beside 175 = .ok (.ldc 177, 2) := by decide +kernel
theorem dX4_beside_177 : decode cX4_beside 177 = .ok (.invokevirtual 77, 3) := by decide +kernel
theorem dX4_beside_180 : decode cX4_beside 180 = .ok (.goto 4, 3) := by decide +kernel
theorem dX4_beside_183 : decode cX4_beside 183 = .ok (.iload_n 2, 1) := by decide +kernel
theorem dX4_beside_184 : decode cX4_beside 184 = .ok (.ireturn, 1) := by decide +kernel
theorem dX4_feed_0 : decode cX4_feed 0 = .ok (.iload_n 2, 1) := by decide +kernel
theorem dX4_feed_1 : decode cX4_feed 1 = .ok (.i2l, 1) := by decide +kernel
theorem dX4_feed_2 : decode cX4_feed 2 = .ok (.lconst 1, 1) := by decide +kernel
theorem dX4_feed_3 : decode cX4_feed 3 = .ok (.ldc2_w 204, 3) := by decide +kernel
theorem dX4_feed_6 : decode cX4_feed 6 = .ok (.invokestatic 51, 3) := by decide +kernel
theorem dX4_feed_9 : decode cX4_feed 9 = .ok (.ifCond .ne 10, 3) := by decide +kernel
theorem dX4_feed_12 : decode cX4_feed 12 = .ok (.aload_n 0, 1) := by decide +kernel
theorem dX4_feed_13 : decode cX4_feed 13 = .ok (.ldc 48, 2) := by decide +kernel
theorem dX4_feed_15 : decode cX4_feed 15 = .ok (.invokevirtual 77, 3) := by decide +kernel
theorem dX4_feed_18 : decode cX4_feed 18 = .ok (.ireturn, 1) := by decide +kernel
theorem dX4_feed_19 : decode cX4_feed 19 = .ok (.aload_n 0, 1) := by decide +kernel
theorem dX4_feed_20 : decode cX4_feed 20 = .ok (.getfield 206, 3) := by decide +kernel
theorem dX4_feed_23 : decode cX4_feed 23 = .ok (.iload_n 2, 1) := by decide +kernel
theorem dX4_feed_24 : decode cX4_feed 24 = .ok (.iadd, 1) := by decide +kernel
theorem dX4_feed_25 : decode cX4_feed 25 = .ok (.bipush 120, 2) := by decide +kernel
theorem dX4_feed_27 : decode cX4_feed 27 = .ok (.if_icmp .le 10, 3) := by decide +kernel
theorem dX4_feed_30 : decode cX4_feed 30 = .ok (.aload_n 0, 1) := by decide +kernel
theorem dX4_feed_31 : decode cX4_feed 31 = .ok (.ldc 89, 2) := by decide +kernel
theorem dX4_feed_33 : decode cX4_feed 33 = .ok (.invokevirtual 77, 3) := by decide +kernel
theorem dX4_feed_36 : decode cX4_feed 36 = .ok (.ireturn, 1) := by decide +kernel
theorem dX4_feed_37 : decode cX4_feed 37 = .ok (.iload_n 2, 1) := by decide +kernel
theorem dX4_feed_38 : decode cX4_feed 38 = .ok (.iconst 1, 1) := by decide +kernel
theorem dX4_feed_39 : decode cX4_feed 39 = .ok (.isub, 1) := by decide +kernel
theorem dX4_feed_40 : decode cX4_feed 40 = .ok (.istore_n 3, 1) := by decide +kernel
theorem dX4_feed_41 : decode cX4_feed 41 = .ok (.iload_n 3, 1) := by decide +kernel
theorem dX4_feed_42 : decode cX4_feed 42 = .ok (.ifCond .lt 38, 3) := by decide +kernel
theorem dX4_feed_45 : decode cX4_feed 45 = .ok (.aload_n 0, 1) := by decide +kernel
theorem dX4_feed_46 : decode cX4_feed 46 = .ok (.getfield 28, 3) := by decide +kernel
theorem dX4_feed_49 : decode cX4_feed 49 = .ok (.aload_n 0, 1) := by decide +kernel
theorem dX4_feed_50 : decode cX4_feed 50 = .ok (.getfield 206, 3) := by decide +kernel
theorem dX4_feed_53 : decode cX4_feed 53 = .ok (.iload_n 1, 1) := by decide +kernel
theorem dX4_feed_54 : decode cX4_feed 54 = .ok (.bipush 8, 2) := by decide +kernel
theorem dX4_feed_56 : decode cX4_feed 56 = .ok (.iload_n 3, 1) := by decide +kernel
theorem dX4_feed_57 : decode cX4_feed 57 = .ok (.imul, 1) := by decide +kernel
theorem dX4_feed_58 : decode cX4_feed 58 = .ok (.ishr, 1) := by decide +kernel
theorem dX4_feed_59 : decode cX4_feed 59 = .ok (.sipush 255, 3) := by decide +kernel
theorem dX4_feed_62 : decode cX4_feed 62 = .ok (.iand, 1) := by decide +kernel
theorem dX4_feed_63 : decode cX4_feed 63 = .ok (.iastore, 1) := by decide +kernel
theorem dX4_feed_64 : decode cX4_feed 64 = .ok (.aload_n 0, 1) := by decide +kernel
theorem dX4_feed_65 : decode cX4_feed 65 = .ok (.dup, 1) := by decide +kernel
theorem dX4_feed_66 : decode cX4_feed 66 = .ok (.getfield 206, 3) := by decide +kernel
theorem dX4_feed_69 : decode cX4_feed 69 = .ok (.iconst 1, 1) := by decide +kernel
theorem dX4_feed_70 : decode cX4_feed 70 = .ok (.iadd, 1) := by decide +kernel
theorem dX4_feed_71 : decode cX4_feed 71 = .ok (.putfield 206, 3) := by decide +kernel
theorem dX4_feed_74 : decode cX4_feed 74 = .ok (.iinc 3 (-1), 3) := by decide +kernel
theorem dX4_feed_77 : decode cX4_feed 77 = .ok (.goto (-36), 3) := by decide +kernel
theorem dX4_feed_80 : decode cX4_feed 80 = .ok (.aload_n 0, 1) := by decide +kernel
theorem dX4_feed_81 : decode cX4_feed 81 = .ok (.getfield 206, 3) := by decide +kernel
theorem dX4_feed_84 : decode cX4_feed 84 = .ok (.ireturn, 1) := by decide +kernel
theorem dX4_wipe_0 : decode cX4_wipe 0 = .ok (.aload_n 0, 1) := by decide +kernel
theorem dX4_wipe_1 : decode cX4_wipe 1 = .ok (.getfield 206, 3) := by decide +kernel
theorem dX4_wipe_4 : decode cX4_wipe 4 = .ok (.istore_n 1, 1) := by decide +kernel
theorem dX4_wipe_5 : decode cX4_wipe 5 = .ok (.aload_n 0, 1) := by decide +kernel
theorem dX4_wipe_6 : decode cX4_wipe 6 = .ok (.iconst 0, 1) := by decide +kernel
theorem dX4_wipe_7 : decode cX4_wipe 7 = .ok (.putfield 206, 3) := by decide +kernel
theorem dX4_wipe_10 : decode cX4_wipe 10 = .ok (.iload_n 1, 1) := by decide +kernel
theorem dX4_wipe_11 : decode cX4_wipe 11 = .ok (.ireturn, 1) := by decide +kernel
theorem dX4_byteAt_0 : decode cX4_byteAt 0 = .ok (.iload_n 1, 1) := by decide +kernel
theorem dX4_byteAt_1 : decode cX4_byteAt 1 = .ok (.aload_n 0, 1) := by decide +kernel
theorem dX4_byteAt_2 : decode cX4_byteAt 2 = .ok (.getfield 206, 3) := by decide +kernel
theorem dX4_byteAt_5 : decode cX4_byteAt 5 = .ok (.if_icmp .ge 12, 3) := by decide +kernel
theorem dX4_byteAt_8 : decode cX4_byteAt 8 = .ok (.aload_n 0, 1) := by decide +kernel
theorem dX4_byteAt_9 : decode cX4_byteAt 9 = .ok (.getfield 28, 3) := by decide +kernel
theorem dX4_byteAt_12 : decode cX4_byteAt 12 = .ok (.iload_n 1, 1) := by decide +kernel
theorem dX4_byteAt_13 : decode cX4_byteAt 13 = .ok (.iaload, 1) := by decide +kernel
theorem dX4_byteAt_14 : decode cX4_byteAt 14 = .ok (.goto 4, 3) := by decide +kernel
theorem dX4_byteAt_17 : decode cX4_byteAt 17 = .ok (.iconst (-1), 1) := by decide +kernel
theorem dX4_byteAt_18 : decode cX4_byteAt 18 = .ok (.ireturn, 1) := by decide +kernel
theorem dX4_isLetter_0 : decode cX4_isLetter 0 = .ok (.iload_n 0, 1) := by decide +kernel
theorem dX4_isLetter_1 : decode cX4_isLetter 1 = .ok (.i2l, 1) := by decide +kernel
theorem dX4_isLetter_2 : decode cX4_isLetter 2 = .ok (.ldc2_w 209, 3) := by decide +kernel
theorem dX4_isLetter_5 : decode cX4_isLetter 5 = .ok (.ldc2_w 211, 3) := by decide +kernel
theorem dX4_isLetter_8 : decode cX4_isLetter 8 = .ok (.invokestatic 51, 3) := by decide +kernel
theorem dX4_isLetter_11 : decode cX4_isLetter 11 = .ok (.ireturn, 1) := by decide +kernel
theorem dX4_isDigit_0 : decode cX4_isDigit 0 = .ok (.iload_n 0, 1) := by decide +kernel
theorem dX4_isDigit_1 : decode cX4_isDigit 1 = .ok (.i2l, 1) := by decide +kernel
theorem dX4_isDigit_2 : decode cX4_isDigit 2 = .ok (.ldc2_w 213, 3) := by decide +kernel
theorem dX4_isDigit_5 : decode cX4_isDigit 5 = .ok (.ldc2_w 215, 3) := by decide +kernel
theorem dX4_isDigit_8 : decode cX4_isDigit 8 = .ok (.invokestatic 51, 3) := by decide +kernel
theorem dX4_isDigit_11 : decode cX4_isDigit 11 = .ok (.ireturn, 1) := by decide +kernel
theorem dX4_token_0 : decode cX4_token 0 = .ok (.aload_n 0, 1) := by decide +kernel
theorem dX4_token_1 : decode cX4_token 1 = .ok (.aload_n 0, 1) := by decide +kernel
theorem dX4_token_2 : decode cX4_token 2 = .ok (.getfield 217, 3) := by decide +kernel
theorem dX4_token_5 : decode cX4_token 5 = .ok (.putfield 220, 3) := by decide +kernel
theorem dX4_token_8 : decode cX4_token 8 = .ok (.aload_n 0, 1) := by decide +kernel
theorem dX4_token_9 : decode cX4_token 9 = .ok (.aload_n 0, 1) := by decide +kernel
theorem dX4_token_10 : decode cX4_token 10 = .ok (.getfield 220, 3) := by decide +kernel
theorem dX4_token_13 : decode cX4_token 13 = .ok (.invokevirtual 223, 3) := by decide +kernel
theorem dX4_token_16 : decode cX4_token 16 = .ok (.bipush 32, 2) := by decide +kernel
theorem dX4_token_18 : decode cX4_token 18 = .ok (.if_icmp .ne 16, 3) := by decide +kernel
theorem dX4_token_21 : decode cX4_token 21 = .ok (.aload_n 0, 1) := by decide +kernel
theorem dX4_token_22 : decode cX4_token 22 = .ok (.dup, 1) := by decide +kernel
theorem dX4_token_23 : decode cX4_token 23 = .ok (.getfield 220, 3) := by decide +kernel
theorem dX4_token_26 : decode cX4_token 26 = .ok (.iconst 1, 1) := by decide +kernel
theorem dX4_token_27 : decode cX4_token 27 = .ok (.iadd, 1) := by decide +kernel
theorem dX4_token_28 : decode cX4_token 28 = .ok (.putfield 220, 3) := by decide +kernel
theorem dX4_token_31 : decode cX4_token 31 = .ok (.goto (-23), 3) := by decide +kernel
theorem dX4_token_34 : decode cX4_token 34 = .ok (.aload_n 0, 1) := by decide +kernel
theorem dX4_token_35 : decode cX4_token 35 = .ok (.aload_n 0, 1) := by decide +kernel
theorem dX4_token_36 : decode cX4_token 36 = .ok (.getfield 220, 3) := by decide +kernel
theorem dX4_token_39 : decode cX4_token 39 = .ok (.invokevirtual 223, 3) := by decide +kernel
theorem dX4_token_42 : decode cX4_token 42 = .ok (.invokestatic 226, 3) := by decide +kernel
theorem dX4_token_45 : decode cX4_token 45 = .ok (.istore_n 1, 1) := by decide +kernel
theorem dX4_token_46 : decode cX4_token 46 = .ok (.aload_n 0, 1) := by decide +kernel
theorem dX4_token_47 : decode cX4_token 47 = .ok (.aload_n 0, 1) := by decide +kernel
theorem dX4_token_48 : decode cX4_token 48 = .ok (.getfield 220, 3) := by decide +kernel
theorem dX4_token_51 : decode cX4_token 51 = .ok (.invokevirtual 223, 3) := by decide +kernel
theorem dX4_token_54 : decode cX4_token 54 = .ok (.invokestatic 229, 3) := by decide +kernel
theorem dX4_token_57 : decode cX4_token 57 = .ok (.istore_n 2, 1) := by decide +kernel
theorem dX4_token_58 : decode cX4_token 58 = .ok (.aload_n 0, 1) := by decide +kernel
theorem dX4_token_59 : decode cX4_token 59 = .ok (.aload_n 0, 1) := by decide +kernel
theorem dX4_token_60 : decode cX4_token 60 = .ok (.getfield 220, 3) := by decide +kernel
theorem dX4_token_63 : decode cX4_token 63 = .ok (.aload_n 0, 1) := by decide +kernel
theorem dX4_token_64 : decode cX4_token 64 = .ok (.getfield 206, 3) := by decide +kernel
theorem dX4_token_67 : decode cX4_token 67 = .ok (.if_icmp .ge 12, 3) := by decide +kernel
theorem dX4_token_70 : decode cX4_token 70 = .ok (.aload_n 0, 1) := by decide +kernel
theorem dX4_token_71 : decode cX4_token 71 = .ok (.getfield 220, 3) := by decide +kernel
theorem dX4_token_74 : decode cX4_token 74 = .ok (.iconst 1, 1) := by decide +kernel
theorem dX4_token_75 : decode cX4_token 75 = .ok (.iadd, 1) := by decide +kernel
theorem dX4_token_76 : decode cX4_token 76 = .ok (.goto 7, 3) := by decide +kernel
theorem dX4_token_79 : decode cX4_token 79 = .ok (.aload_n 0, 1) := by decide +kernel
theorem dX4_token_80 : decode cX4_token 80 = .ok (.getfield 220, 3) := by decide +kernel
theorem dX4_token_83 : decode cX4_token 83 = .ok (.putfield 217, 3) := by decide +kernel
theorem dX4_token_86 : decode cX4_token 86 = .ok (.iload_n 1, 1) := by decide +kernel
theorem dX4_token_87 : decode cX4_token 87 = .ok (.ifCond .eq 17, 3) := by decide +kernel
theorem dX4_token_90 : decode cX4_token 90 = .ok (.aload_n 0, 1) := by decide +kernel
theorem dX4_token_91 : decode cX4_token 91 = .ok (.aload_n 0, 1) := by decide +kernel
theorem dX4_token_92 : decode cX4_token 92 = .ok (.getfield 217, 3) := by decide +kernel
theorem dX4_token_95 : decode cX4_token 95 = .ok (.invokevirtual 223, 3) := by decide +kernel
theorem dX4_token_98 : decode cX4_token 98 = .ok (.invokestatic 226, 3) := by decide +kernel
theorem dX4_token_101 : decode cX4_token 101 = .ok (.ifCond .ne 21, 3) := by decide +kernel
theorem dX4_token_104 : decode cX4_token 104 = .ok (.iload_n 2, 1) := by decide +kernel
theorem dX4_token_105 : decode cX4_token 105 = .ok (.ifCond .eq 30, 3) := by decide +kernel
theorem dX4_token_108 : decode cX4_token 108 = .ok (.aload_n 0, 1) := by decide +kernel
theorem dX4_token_109 : decode cX4_token 109 = .ok (.aload_n 0, 1) := by decide +kernel
theorem dX4_token_110 : decode cX4_token 110 = .ok (.getfield 217, 3) := by decide +kernel
theorem dX4_token_113 : decode cX4_token 113 = .ok (.invokevirtual 223, 3) := by decide +kernel
theorem dX4_token_116 : decode cX4_token 116 = .ok (.invokestatic 229, 3) := by decide +kernel
theorem dX4_token_119 : decode cX4_token 119 = .ok (.ifCond .eq 16, 3) := by decide +kernel
theorem dX4_token_122 : decode cX4_token 122 = .ok (.aload_n 0, 1) := by decide +kernel
theorem dX4_token_123 : decode cX4_token 123 = .ok (.dup, 1) := by decide +kernel
theorem dX4_token_124 : decode cX4_token 124 = .ok (.getfield 217, 3) := by decide +kernel
theorem dX4_token_127 : decode cX4_token 127 = .ok (.iconst 1, 1) := by decide +kernel
theorem dX4_token_128 : decode cX4_token 128 = .ok (.iadd, 1) := by decide +kernel
theorem dX4_token_129 : decode cX4_token 129 = .ok (.putfield 217, 3) := by decide +kernel
theorem dX4_token_132 : decode cX4_token 132 = .ok (.goto (-46), 3) := by decide +kernel
theorem dX4_token_135 : decode cX4_token 135 = .ok (.return_, 1) := by decide +kernel
theorem dX4_must_0 : decode cX4_must 0 = .ok (.aload_n 0, 1) := by decide +kernel
theorem dX4_must_1 : decode cX4_must 1 = .ok (.aload_n 0, 1) := by decide +kernel
theorem dX4_must_2 : decode cX4_must 2 = .ok (.getfield 232, 3) := by decide +kernel
theorem dX4_must_5 : decode cX4_must 5 = .ok (.ifCond .ne 7, 3) := by decide +kernel
theorem dX4_must_8 : decode cX4_must 8 = .ok (.iload_n 1, 1) := by decide +kernel
theorem dX4_must_9 : decode cX4_must 9 = .ok (.ifCond .ne 7, 3) := by decide +kernel
theorem dX4_must_12 : decode cX4_must 12 = .ok (.iconst 1, 1) := by decide +kernel
theorem dX4_must_13 : decode cX4_must 13 = .ok (.goto 4, 3) := by decide +kernel
theorem dX4_must_16 : decode cX4_must 16 = .ok (.iconst 0, 1) := by decide +kernel
theorem dX4_must_17 : decode cX4_must 17 = .ok (.putfield 232, 3) := by decide +kernel
theorem dX4_must_20 : decode cX4_must 20 = .ok (.aload_n 0, 1) := by decide +kernel
theorem dX4_must_21 : decode cX4_must 21 = .ok (.getfield 232, 3) := by decide +kernel
theorem dX4_must_24 : decode cX4_must 24 = .ok (.ifCond .ne 7, 3) := by decide +kernel
theorem dX4_must_27 : decode cX4_must 27 = .ok (.aload_n 0, 1) := by decide +kernel
theorem dX4_must_28 : decode cX4_must 28 = .ok (.invokevirtual 236, 3) := by decide +kernel
theorem dX4_must_31 : decode cX4_must 31 = .ok (.return_, 1) := by decide +kernel
theorem dX4_word_0 : decode cX4_word 0 = .ok (.lconst 0, 1) := by decide +kernel
theorem dX4_word_1 : decode cX4_word 1 = .ok (.lstore_n 1, 1) := by decide +kernel
theorem dX4_word_2 : decode cX4_word 2 = .ok (.aload_n 0, 1) := by decide +kernel
theorem dX4_word_3 : decode cX4_word 3 = .ok (.getfield 220, 3) := by decide +kernel
theorem dX4_word_6 : decode cX4_word 6 = .ok (.istore_n 3, 1) := by decide +kernel
theorem dX4_word_7 : decode cX4_word 7 = .ok (.iload_n 3, 1) := by decide +kernel
theorem dX4_word_8 : decode cX4_word 8 = .ok (.aload_n 0, 1) := by decide +kernel
theorem dX4_word_9 : decode cX4_word 9 = .ok (.getfield 217, 3) := by decide +kernel
theorem dX4_word_12 : decode cX4_word 12 = .ok (.if_icmp .ge 38, 3) := by decide +kernel
theorem dX4_word_15 : decode cX4_word 15 = .ok (.lload_n 1, 1) := by decide +kernel
theorem dX4_word_16 : decode cX4_word 16 = .ok (.ldc2_w 239, 3) := by decide +kernel
theorem dX4_word_19 : decode cX4_word 19 = .ok (.lcmp, 1) := by decide +kernel
theorem dX4_word_20 : decode cX4_word 20 = .ok (.ifCond .le 7, 3) := by decide +kernel
theorem dX4_word_23 : decode cX4_word 23 = .ok (.lload_n 1, 1) := by decide +kernel
theorem dX4_word_24 : decode cX4_word 24 = .ok (.goto 19, 3) := by decide +kernel
theorem dX4_word_27 : decode cX4_word 27 = .ok (.ldc2_w 241, 3) := by decide +kernel
theorem dX4_word_30 : decode cX4_word 30 = .ok (.lload_n 1, 1) := by decide +kernel
theorem dX4_word_31 : decode cX4_word 31 = .ok (.lmul, 1) := by decide +kernel
theorem dX4_word_32 : decode cX4_word 32 = .ok (.aload_n 0, 1) := by decide +kernel
theorem dX4_word_33 : decode cX4_word 33 = .ok (.getfield 28, 3) := by decide +kernel
theorem dX4_word_36 : decode cX4_word 36 = .ok (.iload_n 3, 1) := by decide +kernel
theorem dX4_word_37 : decode cX4_word 37 = .ok (.iaload, 1) := by decide +kernel
theorem dX4_word_38 : decode cX4_word 38 = .ok (.bipush 96, 2) := by decide +kernel
theorem dX4_word_40 : decode cX4_word 40 = .ok (.isub, 1) := by decide +kernel
theorem dX4_word_41 : decode cX4_word 41 = .ok (.i2l, 1) := by decide +kernel
theorem dX4_word_42 : decode cX4_word 42 = .ok (.ladd, 1) := by decide +kernel
theorem dX4_word_43 : decode cX4_word 43 = .ok (.lstore_n 1, 1) := by decide +kernel
theorem dX4_word_44 : decode cX4_word 44 = .ok (.iinc 3 1, 3) := by decide +kernel
theorem dX4_word_47 : decode cX4_word 47 = .ok (.goto (-40), 3) := by decide +kernel
theorem dX4_word_50 : decode cX4_word 50 = .ok (.aload_n 0, 1) := by decide +kernel
theorem dX4_word_51 : decode cX4_word 51 = .ok (.getfield 232, 3) := by decide +kernel
theorem dX4_word_54 : decode cX4_word 54 = .ok (.ifCond .ne 17, 3) := by decide +kernel
theorem dX4_word_57 : decode cX4_word 57 = .ok (.aload_n 0, 1) := by decide +kernel
theorem dX4_word_58 : decode cX4_word 58 = .ok (.aload_n 0, 1) := by decide +kernel
theorem dX4_word_59 : decode cX4_word 59 = .ok (.getfield 220, 3) := by decide +kernel
theorem dX4_word_62 : decode cX4_word 62 = .ok (.invokevirtual 223, 3) := by decide +kernel
theorem dX4_word_65 : decode cX4_word 65 = .ok (.invokestatic 226, 3) := by decide +kernel
theorem dX4_word_68 : decode cX4_word 68 = .ok (.ifCond .ne 7, 3) := by decide +kernel
theorem dX4_word_71 : decode cX4_word 71 = .ok (.lconst 0, 1) := by decide +kernel
theorem dX4_word_72 : decode cX4_word 72 = .ok (.goto 4, 3) := by decide +kernel
theorem dX4_word_75 : decode cX4_word 75 = .ok (.lload_n 1, 1) := by decide +kernel
theorem dX4_word_76 : decode cX4_word 76 = .ok (.lreturn, 1) := by decide +kernel
theorem dX4_number_0 : decode cX4_number 0 = .ok (.aload_n 0, 1) := by decide +kernel
theorem dX4_number_1 : decode cX4_number 1 = .ok (.getfield 232, 3) := by decide +kernel
theorem dX4_number_4 : decode cX4_number 4 = .ok (.ifCond .eq 4, 3) := by decide +kernel
theorem dX4_number_7 : decode cX4_number 7 = .ok (.return_, 1) := by decide +kernel
theorem dX4_number_8 : decode cX4_number 8 = .ok (.aload_n 0, 1) := by decide +kernel
theorem dX4_number_9 : decode cX4_number 9 = .ok (.aload_n 0, 1) := by decide +kernel
theorem dX4_number_10 : decode cX4_number 10 = .ok (.getfield 220, 3) := by decide +kernel
theorem dX4_number_13 : decode cX4_number 13 = .ok (.invokevirtual 223, 3) := by decide +kernel
theorem dX4_number_16 : decode cX4_number 16 = .ok (.invokestatic 229, 3) := by decide +kernel
theorem dX4_number_19 : decode cX4_number 19 = .ok (.istore_n 3, 1) := by decide +kernel
theorem dX4_number_20 : decode cX4_number 20 = .ok (.iconst 0, 1) := by decide +kernel
theorem dX4_number_21 : decode cX4_number 21 = .ok (.istore 4, 2) := by decide +kernel
theorem dX4_number_23 : decode cX4_number 23 = .ok (.aload_n 0, 1) := by decide +kernel
theorem dX4_number_24 : decode cX4_number 24 = .ok (.getfield 220, 3) := by decide +kernel
theorem dX4_number_27 : decode cX4_number 27 = .ok (.istore 5, 2) := by decide +kernel
theorem dX4_number_29 : decode cX4_number 29 = .ok (.iload 5, 2) := by decide +kernel
theorem dX4_number_31 : decode cX4_number 31 = .ok (.aload_n 0, 1) := by decide +kernel
theorem dX4_number_32 : decode cX4_number 32 = .ok (.getfield 217, 3) := by decide +kernel
theorem dX4_number_35 : decode cX4_number 35 = .ok (.if_icmp .ge 44, 3) := by decide +kernel
theorem dX4_number_38 : decode cX4_number 38 = .ok (.iload_n 3, 1) := by decide +kernel
theorem dX4_number_39 : decode cX4_number 39 = .ok (.ifCond .eq 40, 3) := by decide +kernel
theorem dX4_number_42 : decode cX4_number 42 = .ok (.iload 4, 2) := by decide +kernel
theorem dX4_number_44 : decode cX4_number 44 = .ok (.sipush 999, 3) := by decide +kernel
theorem dX4_number_47 : decode cX4_number 47 = .ok (.if_icmp .le 8, 3) := by decide +kernel
theorem dX4_number_50 : decode cX4_number 50 = .ok (.iload 4, 2) := by decide +kernel
theorem dX4_number_52 : decode cX4_number 52 = .ok (.goto 19, 3) := by decide +kernel
theorem dX4_number_55 : decode cX4_number 55 = .ok (.bipush 10, 2) := by decide +kernel
theorem dX4_number_57 : decode cX4_number 57 = .ok (.iload 4, 2) := by decide +kernel
theorem dX4_number_59 : decode cX4_number 59 = .ok (.imul, 1) := by decide +kernel
theorem dX4_number_60 : decode cX4_number 60 = .ok (.aload_n 0, 1) := by decide +kernel
theorem dX4_number_61 : decode cX4_number 61 = .ok (.getfield 28, 3) := by decide +kernel
theorem dX4_number_64 : decode cX4_number 64 = .ok (.iload 5, 2) := by decide +kernel
theorem dX4_number_66 : decode cX4_number 66 = .ok (.iaload, 1) := by decide +kernel
theorem dX4_number_67 : decode cX4_number 67 = .ok (.iadd, 1) := by decide +kernel
theorem dX4_number_68 : decode cX4_number 68 = .ok (.bipush 48, 2) := by decide +kernel
theorem dX4_number_70 : decode cX4_number 70 = .ok (.isub, 1) := by decide +kernel
theorem dX4_number_71 : decode cX4_number 71 = .ok (.istore 4, 2) := by decide +kernel
theorem dX4_number_73 : decode cX4_number 73 = .ok (.iinc 5 1, 3) := by decide +kernel
theorem dX4_number_76 : decode cX4_number 76 = .ok (.goto (-47), 3) := by decide +kernel
theorem dX4_number_79 : decode cX4_number 79 = .ok (.aload_n 0, 1) := by decide +kernel
theorem dX4_number_80 : decode cX4_number 80 = .ok (.iload 4, 2) := by decide +kernel
theorem dX4_number_82 : decode cX4_number 82 = .ok (.putfield 243, 3) := by decide +kernel
theorem dX4_number_85 : decode cX4_number 85 = .ok (.aload_n 0, 1) := by decide +kernel
theorem dX4_number_86 : decode cX4_number 86 = .ok (.iload_n 3, 1) := by decide +kernel
theorem dX4_number_87 : decode cX4_number 87 = .ok (.ifCond .eq 20, 3) := by decide +kernel
theorem dX4_number_90 : decode cX4_number 90 = .ok (.iload 4, 2) := by decide +kernel
theorem dX4_number_92 : decode cX4_number 92 = .ok (.i2l, 1) := by decide +kernel
theorem dX4_number_93 : decode cX4_number 93 = .ok (.iload_n 1, 1) := by decide +kernel
theorem dX4_number_94 : decode cX4_number 94 = .ok (.i2l, 1) := by decide +kernel
theorem dX4_number_95 : decode cX4_number 95 = .ok (.iload_n 2, 1) := by decide +kernel
theorem dX4_number_96 : decode cX4_number 96 = .ok (.i2l, 1) := by decide +kernel
theorem dX4_number_97 : decode cX4_number 97 = .ok (.invokestatic 51, 3) := by decide +kernel
theorem dX4_number_100 : decode cX4_number 100 = .ok (.ifCond .eq 7, 3) := by decide +kernel
theorem dX4_number_103 : decode cX4_number 103 = .ok (.iconst 1, 1) := by decide +kernel
theorem dX4_number_104 : decode cX4_number 104 = .ok (.goto 4, 3) := by decide +kernel
theorem dX4_number_107 : decode cX4_number 107 = .ok (.iconst 0, 1) := by decide +kernel
theorem dX4_number_108 : decode cX4_number 108 = .ok (.invokevirtual 246, 3) := by decide +kernel
theorem dX4_number_111 : decode cX4_number 111 = .ok (.return_, 1) := by decide +kernel
theorem dX4_kindHere_0 : decode cX4_kindHere 0 = .ok (.aload_n 0, 1) := by decide +kernel
theorem dX4_kindHere_1 : decode cX4_kindHere 1 = .ok (.invokevirtual 250, 3) := by decide +kernel
theorem dX4_kindHere_4 : decode cX4_kindHere 4 = .ok (.lstore_n 1, 1) := by decide +kernel
theorem dX4_kindHere_5 : decode cX4_kindHere 5 = .ok (.lload_n 1, 1) := by decide +kernel
theorem dX4_kindHere_6 : decode cX4_kindHere 6 = .ok (.ldc2_w 254, 3) := by decide +kernel
theorem dX4_kindHere_9 : decode cX4_kindHere 9 = .ok (.lcmp, 1) := by decide +kernel
theorem dX4_kindHere_10 : decode cX4_kindHere 10 = .ok (.ifCond .ne 7, 3) := by decide +kernel
theorem dX4_kindHere_13 : decode cX4_kindHere 13 = .ok (.iconst 0, 1) := by decide +kernel
theorem dX4_kindHere_14 : decode cX4_kindHere 14 = .ok (.goto 64, 3) := by decide +kernel
theorem dX4_kindHere_17 : decode cX4_kindHere 17 = .ok (.lload_n 1, 1) := by decide +kernel
theorem dX4_kindHere_18 : decode cX4_kindHere 18 = .ok (.ldc2_w 256, 3) := by decide +kernel
theorem dX4_kindHere_21 : decode cX4_kindHere 21 = .ok (.lcmp, 1) := by decide +kernel
theorem dX4_kindHere_22 : decode cX4_kindHere 22 = .ok (.ifCond .ne 7, 3) := by decide +kernel
theorem dX4_kindHere_25 : decode cX4_kindHere 25 = .ok (.iconst 1, 1) := by decide +kernel
theorem dX4_kindHere_26 : decode cX4_kindHere 26 = .ok (.goto 52, 3) := by decide +kernel
theorem dX4_kindHere_29 : decode cX4_kindHere 29 = .ok (.lload_n 1, 1) := by decide +kernel
theorem dX4_kindHere_30 : decode cX4_kindHere 30 = .ok (.ldc2_w 258, 3) := by decide +kernel
theorem dX4_kindHere_33 : decode cX4_kindHere 33 = .ok (.lcmp, 1) := by decide +kernel
theorem dX4_kindHere_34 : decode cX4_kindHere 34 = .ok (.ifCond .ne 7, 3) := by decide +kernel
theorem dX4_kindHere_37 : decode cX4_kindHere 37 = .ok (.iconst 2, 1) := by decide +kernel
theorem dX4_kindHere_38 : decode cX4_kindHere 38 = .ok (.goto 40, 3) := by decide +kernel
theorem dX4_kindHere_41 : decode cX4_kindHere 41 = .ok (.lload_n 1, 1) := by decide +kernel
theorem dX4_kindHere_42 : decode cX4_kindHere 42 = .ok (.ldc2_w 260, 3) := by decide +kernel
theorem dX4_kindHere_45 : decode cX4_kindHere 45 = .ok (.lcmp, 1) := by decide +kernel
theorem dX4_kindHere_46 : decode cX4_kindHere 46 = .ok (.ifCond .ne 7, 3) := by decide +kernel
theorem dX4_kindHere_49 : decode cX4_kindHere 49 = .ok (.iconst 3, 1) := by decide +kernel
theorem dX4_kindHere_50 : decode cX4_kindHere 50 = .ok (.goto 28, 3) := by decide +kernel
theorem dX4_kindHere_53 : decode cX4_kindHere 53 = .ok (.lload_n 1, 1) := by decide +kernel
theorem dX4_kindHere_54 : decode cX4_kindHere 54 = .ok (.ldc2_w 262, 3) := by decide +kernel
theorem dX4_kindHere_57 : decode cX4_kindHere 57 = .ok (.lcmp, 1) := by decide +kernel
theorem dX4_kindHere_58 : decode cX4_kindHere 58 = .ok (.ifCond .ne 7, 3) := by decide +kernel
theorem dX4_kindHere_61 : decode cX4_kindHere 61 = .ok (.iconst 4, 1) := by decide +kernel
theorem dX4_kindHere_62 : decode cX4_kindHere 62 = .ok (.goto 16, 3) := by decide +kernel
theorem dX4_kindHere_65 : decode cX4_kindHere 65 = .ok (.lload_n 1, 1) := by decide +kernel
theorem dX4_kindHere_66 : decode cX4_kindHere 66 = .ok (.ldc2_w 264, 3) := by decide +kernel
theorem dX4_kindHere_69 : decode cX4_kindHere 69 = .ok (.lcmp, 1) := by decide +kernel
theorem dX4_kindHere_70 : decode cX4_kindHere 70 = .ok (.ifCond .ne 7, 3) := by decide +kernel
theorem dX4_kindHere_73 : decode cX4_kindHere 73 = .ok (.iconst 5, 1) := by decide +kernel
theorem dX4_kindHere_74 : decode cX4_kindHere 74 = .ok (.goto 4, 3) := by decide +kernel
theorem dX4_kindHere_77 : decode cX4_kindHere 77 = .ok (.iconst (-1), 1) := by decide +kernel
theorem dX4_kindHere_78 : decode cX4_kindHere 78 = .ok (.ireturn, 1) := by decide +kernel
theorem dX4_partItem_0 : decode cX4_partItem 0 = .ok (.aload_n 0, 1) := by decide +kernel
theorem dX4_partItem_1 : decode cX4_partItem 1 = .ok (.invokevirtual 250, 3) := by decide +kernel
theorem dX4_partItem_4 : decode cX4_partItem 4 = .ok (.lload_n 1, 1) := by decide +kernel
theorem dX4_partItem_5 : decode cX4_partItem 5 = .ok (.lcmp, 1) := by decide +kernel
theorem dX4_partItem_6 : decode cX4_partItem 6 = .ok (.ifCond .ne 41, 3) := by decide +kernel
theorem dX4_partItem_9 : decode cX4_partItem 9 = .ok (.aload_n 0, 1) := by decide +kernel
theorem dX4_partItem_10 : decode cX4_partItem 10 = .ok (.iconst 1, 1) := by decide +kernel
theorem dX4_partItem_11 : decode cX4_partItem 11 = .ok (.invokevirtual 246, 3) := by decide +kernel
theorem dX4_partItem_14 : decode cX4_partItem 14 = .ok (.aload_n 0, 1) := by decide +kernel
theorem dX4_partItem_15 : decode cX4_partItem 15 = .ok (.iconst 0, 1) := by decide +kernel
theorem dX4_partItem_16 : decode cX4_partItem 16 = .ok (.iload 4, 2) := by decide +kernel
theorem dX4_partItem_18 : decode cX4_partItem 18 = .ok (.invokevirtual 266, 3) := by decide +kernel
theorem dX4_partItem_21 : decode cX4_partItem 21 = .ok (.aload_n 0, 1) := by decide +kernel
theorem dX4_partItem_22 : decode cX4_partItem 22 = .ok (.getfield 7, 3) := by decide +kernel
theorem dX4_partItem_25 : decode cX4_partItem 25 = .ok (.iload_n 3, 1) := by decide +kernel
theorem dX4_partItem_26 : decode cX4_partItem 26 = .ok (.aload_n 0, 1) := by decide +kernel
theorem dX4_partItem_27 : decode cX4_partItem 27 = .ok (.getfield 232, 3) := by decide +kernel
theorem dX4_partItem_30 : decode cX4_partItem 30 = .ok (.ifCond .eq 12, 3) := by decide +kernel
theorem dX4_partItem_33 : decode cX4_partItem 33 = .ok (.aload_n 0, 1) := by decide +kernel
theorem dX4_partItem_34 : decode cX4_partItem 34 = .ok (.getfield 7, 3) := by decide +kernel
theorem dX4_partItem_37 : decode cX4_partItem 37 = .ok (.iload_n 3, 1) := by decide +kernel
theorem dX4_partItem_38 : decode cX4_partItem 38 = .ok (.iaload, 1) := by decide +kernel
theorem dX4_partItem_39 : decode cX4_partItem 39 = .ok (.goto 7, 3) := by decide +kernel
theorem dX4_partItem_42 : decode cX4_partItem 42 = .ok (.aload_n 0, 1) := by decide +kernel
theorem dX4_partItem_43 : decode cX4_partItem 43 = .ok (.getfield 243, 3) := by decide +kernel
theorem dX4_partItem_46 : decode cX4_partItem 46 = .ok (.iastore, 1) := by decide +kernel
theorem dX4_partItem_47 : decode cX4_partItem 47 = .ok (.return_, 1) := by decide +kernel
theorem dX4_peeked_0 : decode cX4_peeked 0 = .ok (.aload_n 0, 1) := by decide +kernel
theorem dX4_peeked_1 : decode cX4_peeked 1 = .ok (.getfield 232, 3) := by decide +kernel
theorem dX4_peeked_4 : decode cX4_peeked 4 = .ok (.ifCond .ne 17, 3) := by decide +kernel
theorem dX4_peeked_7 : decode cX4_peeked 7 = .ok (.aload_n 0, 1) := by decide +kernel
theorem dX4_peeked_8 : decode cX4_peeked 8 = .ok (.aload_n 0, 1) := by decide +kernel
theorem dX4_peeked_9 : decode cX4_peeked 9 = .ok (.getfield 220, 3) := by decide +kernel
theorem dX4_peeked_12 : decode cX4_peeked 12 = .ok (.invokevirtual 223, 3) := by decide +kernel
theorem dX4_peeked_15 : decode cX4_peeked 15 = .ok (.invokestatic 229, 3) := by decide +kernel
theorem dX4_peeked_18 : decode cX4_peeked 18 = .ok (.ifCond .ne 5, 3) := by decide +kernel
theorem dX4_peeked_21 : decode cX4_peeked 21 = .ok (.iconst (-1), 1) := by decide +kernel
theorem dX4_peeked_22 : decode cX4_peeked 22 = .ok (.ireturn, 1) := by decide +kernel
theorem dX4_peeked_23 : decode cX4_peeked 23 = .ok (.iconst 0, 1) := by decide +kernel
theorem dX4_peeked_24 : decode cX4_peeked 24 = .ok (.istore_n 1, 1) := by decide +kernel
theorem dX4_peeked_25 : decode cX4_peeked 25 = .ok (.aload_n 0, 1) := by decide +kernel
theorem dX4_peeked_26 : decode cX4_peeked 26 = .ok (.getfield 220, 3) := by decide +kernel
theorem dX4_peeked_29 : decode cX4_peeked 29 = .ok (.istore_n 2, 1) := by decide +kernel
theorem dX4_peeked_30 : decode cX4_peeked 30 = .ok (.iload_n 2, 1) := by decide +kernel
theorem dX4_peeked_31 : decode cX4_peeked 31 = .ok (.aload_n 0, 1) := by decide +kernel
theorem dX4_peeked_32 : decode cX4_peeked 32 = .ok (.getfield 217, 3) := by decide +kernel
theorem dX4_peeked_35 : decode cX4_peeked 35 = .ok (.if_icmp .ge 36, 3) := by decide +kernel
theorem dX4_peeked_38 : decode cX4_peeked 38 = .ok (.iload_n 1, 1) := by decide +kernel
theorem dX4_peeked_39 : decode cX4_peeked 39 = .ok (.bipush 99, 2) := by decide +kernel
theorem dX4_peeked_41 : decode cX4_peeked 41 = .ok (.if_icmp .le 9, 3) := by decide +kernel
theorem dX4_peeked_44 : decode cX4_peeked 44 = .ok (.sipush 1000, 3) := by decide +kernel
theorem dX4_peeked_47 : decode cX4_peeked 47 = .ok (.goto 17, 3) := by decide +kernel
theorem dX4_peeked_50 : decode cX4_peeked 50 = .ok (.bipush 10, 2) := by decide +kernel
theorem dX4_peeked_52 : decode cX4_peeked 52 = .ok (.iload_n 1, 1) := by decide +kernel
theorem dX4_peeked_53 : decode cX4_peeked 53 = .ok (.imul, 1) := by decide +kernel
theorem dX4_peeked_54 : decode cX4_peeked 54 = .ok (.aload_n 0, 1) := by decide +kernel
theorem dX4_peeked_55 : decode cX4_peeked 55 = .ok (.getfield 28, 3) := by decide +kernel
theorem dX4_peeked_58 : decode cX4_peeked 58 = .ok (.iload_n 2, 1) := by decide +kernel
theorem dX4_peeked_59 : decode cX4_peeked 59 = .ok (.iaload, 1) := by decide +kernel
theorem dX4_peeked_60 : decode cX4_peeked 60 = .ok (.iadd, 1) := by decide +kernel
theorem dX4_peeked_61 : decode cX4_peeked 61 = .ok (.bipush 48, 2) := by decide +kernel
theorem dX4_peeked_63 : decode cX4_peeked 63 = .ok (.isub, 1) := by decide +kernel
theorem dX4_peeked_64 : decode cX4_peeked 64 = .ok (.istore_n 1, 1) := by decide +kernel
theorem dX4_peeked_65 : decode cX4_peeked 65 = .ok (.iinc 2 1, 3) := by decide +kernel
theorem dX4_peeked_68 : decode cX4_peeked 68 = .ok (.goto (-38), 3) := by decide +kernel
theorem dX4_peeked_71 : decode cX4_peeked 71 = .ok (.iload_n 1, 1) := by decide +kernel
theorem dX4_peeked_72 : decode cX4_peeked 72 = .ok (.ireturn, 1) := by decide +kernel
theorem dX4_personItem_0 : decode cX4_personItem 0 = .ok (.aload_n 0, 1) := by decide +kernel
theorem dX4_personItem_1 : decode cX4_personItem 1 = .ok (.aload_n 0, 1) := by decide +kernel
theorem dX4_personItem_2 : decode cX4_personItem 2 = .ok (.getfield 7, 3) := by decide +kernel
theorem dX4_personItem_5 : decode cX4_personItem 5 = .ok (.iconst 0, 1) := by decide +kernel
theorem dX4_personItem_6 : decode cX4_personItem 6 = .ok (.iaload, 1) := by decide +kernel
theorem dX4_personItem_7 : decode cX4_personItem 7 = .ok (.bipush 8, 2) := by decide +kernel
theorem dX4_personItem_9 : decode cX4_personItem 9 = .ok (.if_icmp .ge 7, 3) := by decide +kernel
theorem dX4_personItem_12 : decode cX4_personItem 12 = .ok (.iconst 1, 1) := by decide +kernel
theorem dX4_personItem_13 : decode cX4_personItem 13 = .ok (.goto 4, 3) := by decide +kernel
theorem dX4_personItem_16 : decode cX4_personItem 16 = .ok (.iconst 0, 1) := by decide +kernel
theorem dX4_personItem_17 : decode cX4_personItem 17 = .ok (.invokevirtual 246, 3) := by decide +kernel
theorem dX4_personItem_20 : decode cX4_personItem 20 = .ok (.aload_n 0, 1) := by decide +kernel
theorem dX4_personItem_21 : decode cX4_personItem 21 = .ok (.getfield 232, 3) := by decide +kernel
theorem dX4_personItem_24 : decode cX4_personItem 24 = .ok (.ifCond .eq 4, 3) := by decide +kernel
theorem dX4_personItem_27 : decode cX4_personItem 27 = .ok (.return_, 1) := by decide +kernel
theorem dX4_personItem_28 : decode cX4_personItem 28 = .ok (.aload_n 0, 1) := by decide +kernel
theorem dX4_personItem_29 : decode cX4_personItem 29 = .ok (.iload_n 1, 1) := by decide +kernel
theorem dX4_personItem_30 : decode cX4_personItem 30 = .ok (.invokevirtual 90, 3) := by decide +kernel
theorem dX4_personItem_33 : decode cX4_personItem 33 = .ok (.istore_n 2, 1) := by decide +kernel
theorem dX4_personItem_34 : decode cX4_personItem 34 = .ok (.aload_n 0, 1) := by decide +kernel
theorem dX4_personItem_35 : decode cX4_personItem 35 = .ok (.ldc2_w 269, 3) := by decide +kernel
theorem dX4_personItem_38 : decode cX4_personItem 38 = .ok (.iload_n 2, 1) := by decide +kernel
theorem dX4_personItem_39 : decode cX4_personItem 39 = .ok (.iconst 1, 1) := by decide +kernel
theorem dX4_personItem_40 : decode cX4_personItem 40 = .ok (.invokestatic 61, 3) := by decide +kernel
theorem dX4_personItem_43 : decode cX4_personItem 43 = .ok (.bipush 99, 2) := by decide +kernel
theorem dX4_personItem_45 : decode cX4_personItem 45 = .ok (.invokevirtual 271, 3) := by decide +kernel
theorem dX4_personItem_48 : decode cX4_personItem 48 = .ok (.aload_n 0, 1) := by decide +kernel
theorem dX4_personItem_49 : decode cX4_personItem 49 = .ok (.ldc2_w 275, 3) := by decide +kernel
theorem dX4_personItem_52 : decode cX4_personItem 52 = .ok (.iload_n 2, 1) := by decide +kernel
theorem dX4_personItem_53 : decode cX4_personItem 53 = .ok (.iconst 2, 1) := by decide +kernel
theorem dX4_personItem_54 : decode cX4_personItem 54 = .ok (.invokestatic 61, 3) := by decide +kernel
theorem dX4_personItem_57 : decode cX4_personItem 57 = .ok (.bipush 7, 2) := by decide +kernel
theorem dX4_personItem_59 : decode cX4_personItem 59 = .ok (.invokevirtual 271, 3) := by decide +kernel
theorem dX4_personItem_62 : decode cX4_personItem 62 = .ok (.aload_n 0, 1) := by decide +kernel
theorem dX4_personItem_63 : decode cX4_personItem 63 = .ok (.getfield 232, 3) := by decide +kernel
theorem dX4_personItem_66 : decode cX4_personItem 66 = .ok (.ifCond .ne 71, 3) := by decide +kernel
theorem dX4_personItem_69 : decode cX4_personItem 69 = .ok (.aload_n 0, 1) := by decide +kernel
theorem dX4_personItem_70 : decode cX4_personItem 70 = .ok (.invokevirtual 250, 3) := by decide +kernel
theorem dX4_personItem_73 : decode cX4_personItem 73 = .ok (.ldc2_w 277, 3) := by decide +kernel
theorem dX4_personItem_76 : decode cX4_personItem 76 = .ok (.lcmp, 1) := by decide +kernel
theorem dX4_personItem_77 : decode cX4_personItem 77 = .ok (.ifCond .ne 60, 3) := by decide +kernel
theorem dX4_personItem_80 : decode cX4_personItem 80 = .ok (.aload_n 0, 1) := by decide +kernel
theorem dX4_personItem_81 : decode cX4_personItem 81 = .ok (.iconst 1, 1) := by decide +kernel
theorem dX4_personItem_82 : decode cX4_personItem 82 = .ok (.invokevirtual 246, 3) := by decide +kernel
theorem dX4_personItem_85 : decode cX4_personItem 85 = .ok (.aload_n 0, 1) := by decide +kernel
theorem dX4_personItem_86 : decode cX4_personItem 86 = .ok (.invokevirtual 279, 3) := by decide +kernel
theorem dX4_personItem_89 : decode cX4_personItem 89 = .ok (.istore_n 3, 1) := by decide +kernel
theorem dX4_personItem_90 : decode cX4_personItem 90 = .ok (.aload_n 0, 1) := by decide +kernel
theorem dX4_personItem_91 : decode cX4_personItem 91 = .ok (.iload_n 3, 1) := by decide +kernel
theorem dX4_personItem_92 : decode cX4_personItem 92 = .ok (.invokestatic 71, 3) := by decide +kernel
theorem dX4_personItem_95 : decode cX4_personItem 95 = .ok (.ifCond .eq 16, 3) := by decide +kernel
theorem dX4_personItem_98 : decode cX4_personItem 98 = .ok (.aload_n 0, 1) := by decide +kernel
theorem dX4_personItem_99 : decode cX4_personItem 99 = .ok (.iload_n 3, 1) := by decide +kernel
theorem dX4_personItem_100 : decode cX4_personItem 100 = .ok (.invokevirtual 83, 3) := by decide +kernel
theorem dX4_personItem_103 : decode cX4_personItem 103 = .ok (.iconst (-1), 1) := by decide +kernel
theorem dX4_personItem_104 : decode cX4_personItem 104 = .ok (.if_icmp .ne 7, 3) := by decide +kernel
theorem dX4_personItem_107 : decode cX4_personItem 107 = .ok (.iconst 1, 1) := by decide +kernel
theorem dX4_personItem_108 : decode cX4_personItem 108 = .ok (.goto 4, 3) := by decide +kernel
theorem dX4_personItem_111 : decode cX4_personItem 111 = .ok (.iconst 0, 1) := by decide +kernel
theorem dX4_personItem_112 : decode cX4_personItem 112 = .ok (.invokevirtual 246, 3) := by decide +kernel
theorem dX4_personItem_115 : decode cX4_personItem 115 = .ok (.aload_n 0, 1) := by decide +kernel
theorem dX4_personItem_116 : decode cX4_personItem 116 = .ok (.getfield 7, 3) := by decide +kernel
theorem dX4_personItem_119 : decode cX4_personItem 119 = .ok (.iload_n 2, 1) := by decide +kernel
theorem dX4_personItem_120 : decode cX4_personItem 120 = .ok (.iconst 5, 1) := by decide +kernel
theorem dX4_personItem_121 : decode cX4_personItem 121 = .ok (.invokestatic 61, 3) := by decide +kernel
theorem dX4_personItem_124 : decode cX4_personItem 124 = .ok (.aload_n 0, 1) := by decide +kernel
theorem dX4_personItem_125 : decode cX4_personItem 125 = .ok (.getfield 232, 3) := by decide +kernel
theorem dX4_personItem_128 : decode cX4_personItem 128 = .ok (.ifCond .eq 7, 3) := by decide +kernel
theorem dX4_personItem_131 : decode cX4_personItem 131 = .ok (.iconst (-1), 1) := by decide +kernel
theorem dX4_personItem_132 : decode cX4_personItem 132 = .ok (.goto 4, 3) := by decide +kernel
theorem dX4_personItem_135 : decode cX4_personItem 135 = .ok (.iload_n 3, 1) := by decide +kernel
theorem dX4_personItem_136 : decode cX4_personItem 136 = .ok (.iastore, 1) := by decide +kernel
theorem dX4_personItem_137 : decode cX4_personItem 137 = .ok (.return_, 1) := by decide +kernel
theorem dX4_chairItem_0 : decode cX4_chairItem 0 = .ok (.aload_n 0, 1) := by decide +kernel
theorem dX4_chairItem_1 : decode cX4_chairItem 1 = .ok (.iconst 1, 1) := by decide +kernel
theorem dX4_chairItem_2 : decode cX4_chairItem 2 = .ok (.invokevirtual 246, 3) := by decide +kernel
theorem dX4_chairItem_5 : decode cX4_chairItem 5 = .ok (.aload_n 0, 1) := by decide +kernel
theorem dX4_chairItem_6 : decode cX4_chairItem 6 = .ok (.iconst 0, 1) := by decide +kernel
theorem dX4_chairItem_7 : decode cX4_chairItem 7 = .ok (.bipush 7, 2) := by decide +kernel
theorem dX4_chairItem_9 : decode cX4_chairItem 9 = .ok (.invokevirtual 266, 3) := by decide +kernel
theorem dX4_chairItem_12 : decode cX4_chairItem 12 = .ok (.aload_n 0, 1) := by decide +kernel
theorem dX4_chairItem_13 : decode cX4_chairItem 13 = .ok (.getfield 232, 3) := by decide +kernel
theorem dX4_chairItem_16 : decode cX4_chairItem 16 = .ok (.ifCond .eq 7, 3) := by decide +kernel
theorem dX4_chairItem_19 : decode cX4_chairItem 19 = .ok (.iconst 0, 1) := by decide +kernel
theorem dX4_chairItem_20 : decode cX4_chairItem 20 = .ok (.goto 7, 3) := by decide +kernel
theorem dX4_chairItem_23 : decode cX4_chairItem 23 = .ok (.aload_n 0, 1) := by decide +kernel
theorem dX4_chairItem_24 : decode cX4_chairItem 24 = .ok (.getfield 243, 3) := by decide +kernel
theorem dX4_chairItem_27 : decode cX4_chairItem 27 = .ok (.istore_n 1, 1) := by decide +kernel
theorem dX4_chairItem_28 : decode cX4_chairItem 28 = .ok (.aload_n 0, 1) := by decide +kernel
theorem dX4_chairItem_29 : decode cX4_chairItem 29 = .ok (.ldc2_w 282, 3) := by decide +kernel
theorem dX4_chairItem_32 : decode cX4_chairItem 32 = .ok (.iload_n 1, 1) := by decide +kernel
theorem dX4_chairItem_33 : decode cX4_chairItem 33 = .ok (.iconst 0, 1) := by decide +kernel
theorem dX4_chairItem_34 : decode cX4_chairItem 34 = .ok (.invokestatic 44, 3) := by decide +kernel
theorem dX4_chairItem_37 : decode cX4_chairItem 37 = .ok (.bipush 20, 2) := by decide +kernel
theorem dX4_chairItem_39 : decode cX4_chairItem 39 = .ok (.invokevirtual 271, 3) := by decide +kernel
theorem dX4_chairItem_42 : decode cX4_chairItem 42 = .ok (.aload_n 0, 1) := by decide +kernel
theorem dX4_chairItem_43 : decode cX4_chairItem 43 = .ok (.ldc2_w 284, 3) := by decide +kernel
theorem dX4_chairItem_46 : decode cX4_chairItem 46 = .ok (.iload_n 1, 1) := by decide +kernel
theorem dX4_chairItem_47 : decode cX4_chairItem 47 = .ok (.iconst 1, 1) := by decide +kernel
theorem dX4_chairItem_48 : decode cX4_chairItem 48 = .ok (.invokestatic 44, 3) := by decide +kernel
theorem dX4_chairItem_51 : decode cX4_chairItem 51 = .ok (.bipush 9, 2) := by decide +kernel
theorem dX4_chairItem_53 : decode cX4_chairItem 53 = .ok (.invokevirtual 271, 3) := by decide +kernel
theorem dX4_chairItem_56 : decode cX4_chairItem 56 = .ok (.return_, 1) := by decide +kernel
theorem dX4_item_0 : decode cX4_item 0 = .ok (.aload_n 0, 1) := by decide +kernel
theorem dX4_item_1 : decode cX4_item 1 = .ok (.invokevirtual 286, 3) := by decide +kernel
theorem dX4_item_4 : decode cX4_item 4 = .ok (.istore_n 1, 1) := by decide +kernel
theorem dX4_item_5 : decode cX4_item 5 = .ok (.aload_n 0, 1) := by decide +kernel
theorem dX4_item_6 : decode cX4_item 6 = .ok (.invokevirtual 250, 3) := by decide +kernel
theorem dX4_item_9 : decode cX4_item 9 = .ok (.lstore_n 2, 1) := by decide +kernel
theorem dX4_item_10 : decode cX4_item 10 = .ok (.iload_n 1, 1) := by decide +kernel
theorem dX4_item_11 : decode cX4_item 11 = .ok (.ifCond .lt 11, 3) := by decide +kernel
theorem dX4_item_14 : decode cX4_item 14 = .ok (.aload_n 0, 1) := by decide +kernel
theorem dX4_item_15 : decode cX4_item 15 = .ok (.iload_n 1, 1) := by decide +kernel
theorem dX4_item_16 : decode cX4_item 16 = .ok (.invokevirtual 289, 3) := by decide +kernel
theorem dX4_item_19 : decode cX4_item 19 = .ok (.goto 119, 3) := by decide +kernel
theorem dX4_item_22 : decode cX4_item 22 = .ok (.lload_n 2, 1) := by decide +kernel
theorem dX4_item_23 : decode cX4_item 23 = .ok (.ldc2_w 293, 3) := by decide +kernel
theorem dX4_item_26 : decode cX4_item 26 = .ok (.lcmp, 1) := by decide +kernel
theorem dX4_item_27 : decode cX4_item 27 = .ok (.ifCond .ne 10, 3) := by decide +kernel
theorem dX4_item_30 : decode cX4_item 30 = .ok (.aload_n 0, 1) := by decide +kernel
theorem dX4_item_31 : decode cX4_item 31 = .ok (.invokevirtual 295, 3) := by decide +kernel
theorem dX4_item_34 : decode cX4_item 34 = .ok (.goto 104, 3) := by decide +kernel
theorem dX4_item_37 : decode cX4_item 37 = .ok (.lload_n 2, 1) := by decide +kernel
theorem dX4_item_38 : decode cX4_item 38 = .ok (.ldc2_w 298, 3) := by decide +kernel
theorem dX4_item_41 : decode cX4_item 41 = .ok (.lcmp, 1) := by decide +kernel
theorem dX4_item_42 : decode cX4_item 42 = .ok (.ifCond .ne 7, 3) := by decide +kernel
theorem dX4_item_45 : decode cX4_item 45 = .ok (.iconst 1, 1) := by decide +kernel
theorem dX4_item_46 : decode cX4_item 46 = .ok (.goto 4, 3) := by decide +kernel
theorem dX4_item_49 : decode cX4_item 49 = .ok (.iconst 0, 1) := by decide +kernel
theorem dX4_item_50 : decode cX4_item 50 = .ok (.istore 4, 2) := by decide +kernel
theorem dX4_item_52 : decode cX4_item 52 = .ok (.aload_n 0, 1) := by decide +kernel
theorem dX4_item_53 : decode cX4_item 53 = .ok (.iload 4, 2) := by decide +kernel
theorem dX4_item_55 : decode cX4_item 55 = .ok (.ifCond .ne 11, 3) := by decide +kernel
theorem dX4_item_58 : decode cX4_item 58 = .ok (.lload_n 2, 1) := by decide +kernel
theorem dX4_item_59 : decode cX4_item 59 = .ok (.ldc2_w 300, 3) := by decide +kernel
theorem dX4_item_62 : decode cX4_item 62 = .ok (.lcmp, 1) := by decide +kernel
theorem dX4_item_63 : decode cX4_item 63 = .ok (.ifCond .ne 7, 3) := by decide +kernel
theorem dX4_item_66 : decode cX4_item 66 = .ok (.iconst 1, 1) := by decide +kernel
theorem dX4_item_67 : decode cX4_item 67 = .ok (.goto 4, 3) := by decide +kernel
theorem dX4_item_70 : decode cX4_item 70 = .ok (.iconst 0, 1) := by decide +kernel
theorem dX4_item_71 : decode cX4_item 71 = .ok (.invokevirtual 246, 3) := by decide +kernel
theorem dX4_item_74 : decode cX4_item 74 = .ok (.aload_n 0, 1) := by decide +kernel
theorem dX4_item_75 : decode cX4_item 75 = .ok (.invokevirtual 279, 3) := by decide +kernel
theorem dX4_item_78 : decode cX4_item 78 = .ok (.istore 5, 2) := by decide +kernel
theorem dX4_item_80 : decode cX4_item 80 = .ok (.aload_n 0, 1) := by decide +kernel
theorem dX4_item_81 : decode cX4_item 81 = .ok (.aload_n 0, 1) := by decide +kernel
theorem dX4_item_82 : decode cX4_item 82 = .ok (.iload 5, 2) := by decide +kernel
theorem dX4_item_84 : decode cX4_item 84 = .ok (.invokevirtual 55, 3) := by decide +kernel
theorem dX4_item_87 : decode cX4_item 87 = .ok (.invokevirtual 246, 3) := by decide +kernel
theorem dX4_item_90 : decode cX4_item 90 = .ok (.aload_n 0, 1) := by decide +kernel
theorem dX4_item_91 : decode cX4_item 91 = .ok (.invokevirtual 279, 3) := by decide +kernel
theorem dX4_item_94 : decode cX4_item 94 = .ok (.istore 6, 2) := by decide +kernel
theorem dX4_item_96 : decode cX4_item 96 = .ok (.aload_n 0, 1) := by decide +kernel
theorem dX4_item_97 : decode cX4_item 97 = .ok (.aload_n 0, 1) := by decide +kernel
theorem dX4_item_98 : decode cX4_item 98 = .ok (.iload 6, 2) := by decide +kernel
theorem dX4_item_100 : decode cX4_item 100 = .ok (.invokevirtual 55, 3) := by decide +kernel
theorem dX4_item_103 : decode cX4_item 103 = .ok (.ifCond .eq 14, 3) := by decide +kernel
theorem dX4_item_106 : decode cX4_item 106 = .ok (.iload 5, 2) := by decide +kernel
theorem dX4_item_108 : decode cX4_item 108 = .ok (.iload 6, 2) := by decide +kernel
theorem dX4_item_110 : decode cX4_item 110 = .ok (.if_icmp .eq 7, 3) := by decide +kernel
theorem dX4_item_113 : decode cX4_item 113 = .ok (.iconst 1, 1) := by decide +kernel
theorem dX4_item_114 : decode cX4_item 114 = .ok (.goto 4, 3) := by decide +kernel
theorem dX4_item_117 : decode cX4_item 117 = .ok (.iconst 0, 1) := by decide +kernel
theorem dX4_item_118 : decode cX4_item 118 = .ok (.invokevirtual 246, 3) := by decide +kernel
theorem dX4_item_121 : decode cX4_item 121 = .ok (.aload_n 0, 1) := by decide +kernel
theorem dX4_item_122 : decode cX4_item 122 = .ok (.getfield 232, 3) := by decide +kernel
theorem dX4_item_125 : decode cX4_item 125 = .ok (.ifCond .ne 13, 3) := by decide +kernel
theorem dX4_item_128 : decode cX4_item 128 = .ok (.aload_n 0, 1) := by decide +kernel
theorem dX4_item_129 : decode cX4_item 129 = .ok (.iload 5, 2) := by decide +kernel
theorem dX4_item_131 : decode cX4_item 131 = .ok (.iload 6, 2) := by decide +kernel
theorem dX4_item_133 : decode cX4_item 133 = .ok (.iload 4, 2) := by decide +kernel
theorem dX4_item_135 : decode cX4_item 135 = .ok (.invokevirtual 118, 3) := by decide +kernel
theorem dX4_item_138 : decode cX4_item 138 = .ok (.return_, 1) := by decide +kernel
theorem dX4_room_0 : decode cX4_room 0 = .ok (.aload_n 0, 1) := by decide +kernel
theorem dX4_room_1 : decode cX4_room 1 = .ok (.invokevirtual 302, 3) := by decide +kernel
theorem dX4_room_4 : decode cX4_room 4 = .ok (.aload_n 0, 1) := by decide +kernel
theorem dX4_room_5 : decode cX4_room 5 = .ok (.iconst 0, 1) := by decide +kernel
theorem dX4_room_6 : decode cX4_room 6 = .ok (.putfield 232, 3) := by decide +kernel
theorem dX4_room_9 : decode cX4_room 9 = .ok (.aload_n 0, 1) := by decide +kernel
theorem dX4_room_10 : decode cX4_room 10 = .ok (.iconst 0, 1) := by decide +kernel
theorem dX4_room_11 : decode cX4_room 11 = .ok (.putfield 217, 3) := by decide +kernel
theorem dX4_room_14 : decode cX4_room 14 = .ok (.aload_n 0, 1) := by decide +kernel
theorem dX4_room_15 : decode cX4_room 15 = .ok (.invokevirtual 236, 3) := by decide +kernel
theorem dX4_room_18 : decode cX4_room 18 = .ok (.iconst 1, 1) := by decide +kernel
theorem dX4_room_19 : decode cX4_room 19 = .ok (.istore_n 1, 1) := by decide +kernel
theorem dX4_room_20 : decode cX4_room 20 = .ok (.aload_n 0, 1) := by decide +kernel
theorem dX4_room_21 : decode cX4_room 21 = .ok (.invokevirtual 305, 3) := by decide +kernel
theorem dX4_room_24 : decode cX4_room 24 = .ok (.aload_n 0, 1) := by decide +kernel
theorem dX4_room_25 : decode cX4_room 25 = .ok (.getfield 232, 3) := by decide +kernel
theorem dX4_room_28 : decode cX4_room 28 = .ok (.ifCond .ne 31, 3) := by decide +kernel
theorem dX4_room_31 : decode cX4_room 31 = .ok (.aload_n 0, 1) := by decide +kernel
theorem dX4_room_32 : decode cX4_room 32 = .ok (.aload_n 0, 1) := by decide +kernel
theorem dX4_room_33 : decode cX4_room 33 = .ok (.getfield 220, 3) := by decide +kernel
theorem dX4_room_36 : decode cX4_room 36 = .ok (.invokevirtual 223, 3) := by decide +kernel
theorem dX4_room_39 : decode cX4_room 39 = .ok (.bipush 59, 2) := by decide +kernel
theorem dX4_room_41 : decode cX4_room 41 = .ok (.if_icmp .ne 18, 3) := by decide +kernel
theorem dX4_room_44 : decode cX4_room 44 = .ok (.aload_n 0, 1) := by decide +kernel
theorem dX4_room_45 : decode cX4_room 45 = .ok (.iconst 1, 1) := by decide +kernel
theorem dX4_room_46 : decode cX4_room 46 = .ok (.invokevirtual 246, 3) := by decide +kernel
theorem dX4_room_49 : decode cX4_room 49 = .ok (.aload_n 0, 1) := by decide +kernel
theorem dX4_room_50 : decode cX4_room 50 = .ok (.invokevirtual 305, 3) := by decide +kernel
theorem dX4_room_53 : decode cX4_room 53 = .ok (.iinc 1 1, 3) := by decide +kernel
theorem dX4_room_56 : decode cX4_room 56 = .ok (.goto (-32), 3) := by decide +kernel
theorem dX4_room_59 : decode cX4_room 59 = .ok (.aload_n 0, 1) := by decide +kernel
theorem dX4_room_60 : decode cX4_room 60 = .ok (.aload_n 0, 1) := by decide +kernel
theorem dX4_room_61 : decode cX4_room 61 = .ok (.getfield 232, 3) := by decide +kernel
theorem dX4_room_64 : decode cX4_room 64 = .ok (.ifCond .ne 14, 3) := by decide +kernel
theorem dX4_room_67 : decode cX4_room 67 = .ok (.aload_n 0, 1) := by decide +kernel
theorem dX4_room_68 : decode cX4_room 68 = .ok (.getfield 220, 3) := by decide +kernel
theorem dX4_room_71 : decode cX4_room 71 = .ok (.aload_n 0, 1) := by decide +kernel
theorem dX4_room_72 : decode cX4_room 72 = .ok (.getfield 206, 3) := by decide +kernel
theorem dX4_room_75 : decode cX4_room 75 = .ok (.if_icmp .ge 7, 3) := by decide +kernel
theorem dX4_room_78 : decode cX4_room 78 = .ok (.iconst 1, 1) := by decide +kernel
theorem dX4_room_79 : decode cX4_room 79 = .ok (.goto 4, 3) := by decide +kernel
theorem dX4_room_82 : decode cX4_room 82 = .ok (.iconst 0, 1) := by decide +kernel
theorem dX4_room_83 : decode cX4_room 83 = .ok (.putfield 232, 3) := by decide +kernel
theorem dX4_room_86 : decode cX4_room 86 = .ok (.aload_n 0, 1) := by decide +kernel
theorem dX4_room_87 : decode cX4_room 87 = .ok (.getfield 232, 3) := by decide +kernel
theorem dX4_room_90 : decode cX4_room 90 = .ok (.ifCond .eq 7, 3) := by decide +kernel
theorem dX4_room_93 : decode cX4_room 93 = .ok (.aload_n 0, 1) := by decide +kernel
theorem dX4_room_94 : decode cX4_room 94 = .ok (.invokevirtual 308, 3) := by decide +kernel
theorem dX4_room_97 : decode cX4_room 97 = .ok (.aload_n 0, 1) := by decide +kernel
theorem dX4_room_98 : decode cX4_room 98 = .ok (.iconst 0, 1) := by decide +kernel
theorem dX4_room_99 : decode cX4_room 99 = .ok (.putfield 206, 3) := by decide +kernel
theorem dX4_room_102 : decode cX4_room 102 = .ok (.aload_n 0, 1) := by decide +kernel
theorem dX4_room_103 : decode cX4_room 103 = .ok (.getfield 232, 3) := by decide +kernel
theorem dX4_room_106 : decode cX4_room 106 = .ok (.ifCond .eq 12, 3) := by decide +kernel
theorem dX4_room_109 : decode cX4_room 109 = .ok (.iconst (-1), 1) := by decide +kernel
theorem dX4_room_110 : decode cX4_room 110 = .ok (.aload_n 0, 1) := by decide +kernel
theorem dX4_room_111 : decode cX4_room 111 = .ok (.getfield 220, 3) := by decide +kernel
theorem dX4_room_114 : decode cX4_room 114 = .ok (.isub, 1) := by decide +kernel
theorem dX4_room_115 : decode cX4_room 115 = .ok (.goto 4, 3) := by decide +kernel
theorem dX4_room_118 : decode cX4_room 118 = .ok (.iload_n 1, 1) := by decide +kernel
theorem dX4_room_119 : decode cX4_room 119 = .ok (.ireturn, 1) := by decide +kernel
theorem dX4_isOne_0 : decode cX4_isOne 0 = .ok (.iload_n 0, 1) := by decide +kernel
theorem dX4_isOne_1 : decode cX4_isOne 1 = .ok (.i2l, 1) := by decide +kernel
theorem dX4_isOne_2 : decode cX4_isOne 2 = .ok (.lconst 0, 1) := by decide +kernel
theorem dX4_isOne_3 : decode cX4_isOne 3 = .ok (.ldc2_w 311, 3) := by decide +kernel
theorem dX4_isOne_6 : decode cX4_isOne 6 = .ok (.invokestatic 51, 3) := by decide +kernel
theorem dX4_isOne_9 : decode cX4_isOne 9 = .ok (.ireturn, 1) := by decide +kernel
theorem dX4_sheet_0 : decode cX4_sheet 0 = .ok (.iload_n 1, 1) := by decide +kernel
theorem dX4_sheet_1 : decode cX4_sheet 1 = .ok (.invokestatic 313, 3) := by decide +kernel
theorem dX4_sheet_4 : decode cX4_sheet 4 = .ok (.ifCond .eq 25, 3) := by decide +kernel
theorem dX4_sheet_7 : decode cX4_sheet 7 = .ok (.iload_n 2, 1) := by decide +kernel
theorem dX4_sheet_8 : decode cX4_sheet 8 = .ok (.ifCond .eq 28, 3) := by decide +kernel
theorem dX4_sheet_11 : decode cX4_sheet 11 = .ok (.iload_n 2, 1) := by decide +kernel
theorem dX4_sheet_12 : decode cX4_sheet 12 = .ok (.bipush 8, 2) := by decide +kernel
theorem dX4_sheet_14 : decode cX4_sheet 14 = .ok (.if_icmp .eq 22, 3) := by decide +kernel
theorem dX4_sheet_17 : decode cX4_sheet 17 = .ok (.iload_n 2, 1) := by decide +kernel
theorem dX4_sheet_18 : decode cX4_sheet 18 = .ok (.bipush 16, 2) := by decide +kernel
theorem dX4_sheet_20 : decode cX4_sheet 20 = .ok (.if_icmp .eq 16, 3) := by decide +kernel
theorem dX4_sheet_23 : decode cX4_sheet 23 = .ok (.iload_n 2, 1) := by decide +kernel
theorem dX4_sheet_24 : decode cX4_sheet 24 = .ok (.bipush 64, 2) := by decide +kernel
theorem dX4_sheet_26 : decode cX4_sheet 26 = .ok (.if_icmp .eq 10, 3) := by decide +kernel
theorem dX4_sheet_29 : decode cX4_sheet 29 = .ok (.aload_n 0, 1) := by decide +kernel
theorem dX4_sheet_30 : decode cX4_sheet 30 = .ok (.ldc 48, 2) := by decide +kernel
theorem dX4_sheet_32 : decode cX4_sheet 32 = .ok (.invokevirtual 77, 3) := by decide +kernel
theorem dX4_sheet_35 : decode cX4_sheet 35 = .ok (.ireturn, 1) := by decide +kernel
theorem dX4_sheet_36 : decode cX4_sheet 36 = .ok (.iload_n 3, 1) := by decide +kernel
theorem dX4_sheet_37 : decode cX4_sheet 37 = .ok (.ifCond .ge 10, 3) := by decide +kernel
theorem dX4_sheet_40 : decode cX4_sheet 40 = .ok (.aload_n 0, 1) := by decide +kernel
theorem dX4_sheet_41 : decode cX4_sheet 41 = .ok (.ldc 188, 2) := by decide +kernel
theorem dX4_sheet_43 : decode cX4_sheet 43 = .ok (.invokevirtual 77, 3) := by decide +kernel
theorem dX4_sheet_46 : decode cX4_sheet 46 = .ok (.ireturn, 1) := by decide +kernel
theorem dX4_sheet_47 : decode cX4_sheet 47 = .ok (.iload_n 3, 1) := by decide +kernel
theorem dX4_sheet_48 : decode cX4_sheet 48 = .ok (.bipush 40, 2) := by decide +kernel
theorem dX4_sheet_50 : decode cX4_sheet 50 = .ok (.if_icmp .le 10, 3) := by decide +kernel
theorem dX4_sheet_53 : decode cX4_sheet 53 = .ok (.aload_n 0, 1) := by decide +kernel
theorem dX4_sheet_54 : decode cX4_sheet 54 = .ok (.ldc 48, 2) := by decide +kernel
theorem dX4_sheet_56 : decode cX4_sheet 56 = .ok (.invokevirtual 77, 3) := by decide +kernel
theorem dX4_sheet_59 : decode cX4_sheet 59 = .ok (.ireturn, 1) := by decide +kernel
theorem dX4_sheet_60 : decode cX4_sheet 60 = .ok (.aload_n 0, 1) := by decide +kernel
theorem dX4_sheet_61 : decode cX4_sheet 61 = .ok (.getfield 31, 3) := by decide +kernel
theorem dX4_sheet_64 : decode cX4_sheet 64 = .ok (.iload_n 1, 1) := by decide +kernel
theorem dX4_sheet_65 : decode cX4_sheet 65 = .ok (.iload_n 2, 1) := by decide +kernel
theorem dX4_sheet_66 : decode cX4_sheet 66 = .ok (.iastore, 1) := by decide +kernel
theorem dX4_sheet_67 : decode cX4_sheet 67 = .ok (.aload_n 0, 1) := by decide +kernel
theorem dX4_sheet_68 : decode cX4_sheet 68 = .ok (.getfield 34, 3) := by decide +kernel
theorem dX4_sheet_71 : decode cX4_sheet 71 = .ok (.iload_n 1, 1) := by decide +kernel
theorem dX4_sheet_72 : decode cX4_sheet 72 = .ok (.iload_n 2, 1) := by decide +kernel
theorem dX4_sheet_73 : decode cX4_sheet 73 = .ok (.ifCond .ne 7, 3) := by decide +kernel
theorem dX4_sheet_76 : decode cX4_sheet 76 = .ok (.iconst 0, 1) := by decide +kernel
theorem dX4_sheet_77 : decode cX4_sheet 77 = .ok (.goto 4, 3) := by decide +kernel
theorem dX4_sheet_80 : decode cX4_sheet 80 = .ok (.iload_n 3, 1) := by decide +kernel
theorem dX4_sheet_81 : decode cX4_sheet 81 = .ok (.iastore, 1) := by decide +kernel
theorem dX4_sheet_82 : decode cX4_sheet 82 = .ok (.iconst 0, 1) := by decide +kernel
theorem dX4_sheet_83 : decode cX4_sheet 83 = .ok (.istore 4, 2) := by decide +kernel
theorem dX4_sheet_85 : decode cX4_sheet 85 = .ok (.iload 4, 2) := by decide +kernel
theorem dX4_sheet_87 : decode cX4_sheet 87 = .ok (.bipush 40, 2) := by decide +kernel
theorem dX4_sheet_89 : decode cX4_sheet 89 = .ok (.if_icmp .ge 22, 3) := by decide +kernel
theorem dX4_sheet_92 : decode cX4_sheet 92 = .ok (.aload_n 0, 1) := by decide +kernel
theorem dX4_sheet_93 : decode cX4_sheet 93 = .ok (.getfield 37, 3) := by decide +kernel
theorem dX4_sheet_96 : decode cX4_sheet 96 = .ok (.bipush 40, 2) := by decide +kernel
theorem dX4_sheet_98 : decode cX4_sheet 98 = .ok (.iload_n 1, 1) := by decide +kernel
theorem dX4_sheet_99 : decode cX4_sheet 99 = .ok (.imul, 1) := by decide +kernel
theorem dX4_sheet_100 : decode cX4_sheet 100 = .ok (.iload 4, 2) := by decide +kernel
theorem dX4_sheet_102 : decode cX4_sheet 102 = .ok (.iadd, 1) := by decide +kernel
theorem dX4_sheet_103 : decode cX4_sheet 103 = .ok (.lconst 0, 1) := by decide +kernel
theorem dX4_sheet_104 : decode cX4_sheet 104 = .ok (.lastore, 1) := by decide +kernel
theorem dX4_sheet_105 : decode cX4_sheet 105 = .ok (.iinc 4 1, 3) := by decide +kernel
theorem dX4_sheet_108 : decode cX4_sheet 108 = .ok (.goto (-23), 3) := by decide +kernel
theorem dX4_sheet_111 : decode cX4_sheet 111 = .ok (.aload_n 0, 1) := by decide +kernel
theorem dX4_sheet_112 : decode cX4_sheet 112 = .ok (.getfield 34, 3) := by decide +kernel
theorem dX4_sheet_115 : decode cX4_sheet 115 = .ok (.iload_n 1, 1) := by decide +kernel
theorem dX4_sheet_116 : decode cX4_sheet 116 = .ok (.iaload, 1) := by decide +kernel
theorem dX4_sheet_117 : decode cX4_sheet 117 = .ok (.ireturn, 1) := by decide +kernel
theorem dX4_narrowed_0 : decode cX4_narrowed 0 = .ok (.iload_n 0, 1) := by decide +kernel
theorem dX4_narrowed_1 : decode cX4_narrowed 1 = .ok (.bipush 8, 2) := by decide +kernel
theorem dX4_narrowed_3 : decode cX4_narrowed 3 = .ok (.if_icmp .ne 10, 3) := by decide +kernel
theorem dX4_narrowed_6 : decode cX4_narrowed 6 = .ok (.lload_n 1, 1) := by decide +kernel
theorem dX4_narrowed_7 : decode cX4_narrowed 7 = .ok (.l2i, 1) := by decide +kernel
theorem dX4_narrowed_8 : decode cX4_narrowed 8 = .ok (.i2b, 1) := by decide +kernel
theorem dX4_narrowed_9 : decode cX4_narrowed 9 = .ok (.i2l, 1) := by decide +kernel
theorem dX4_narrowed_10 : decode cX4_narrowed 10 = .ok (.goto 17, 3) := by decide +kernel
theorem dX4_narrowed_13 : decode cX4_narrowed 13 = .ok (.iload_n 0, 1) := by decide +kernel
theorem dX4_narrowed_14 : decode cX4_narrowed 14 = .ok (.bipush 16, 2) := by decide +kernel
theorem dX4_narrowed_16 : decode cX4_narrowed 16 = .ok (.if_icmp .ne 10, 3) := by decide +kernel
theorem dX4_narrowed_19 : decode cX4_narrowed 19 = .ok (.lload_n 1, 1) := by decide +kernel
theorem dX4_narrowed_20 : decode cX4_narrowed 20 = .ok (.l2i, 1) := by decide +kernel
theorem dX4_narrowed_21 : decode cX4_narrowed 21 = .ok (.i2s, 1) := by decide +kernel
theorem dX4_narrowed_22 : decode cX4_narrowed 22 = .ok (.i2l, 1) := by decide +kernel
theorem dX4_narrowed_23 : decode cX4_narrowed 23 = .ok (.goto 4, 3) := by decide +kernel
theorem dX4_narrowed_26 : decode cX4_narrowed 26 = .ok (.lload_n 1, 1) := by decide +kernel
theorem dX4_narrowed_27 : decode cX4_narrowed 27 = .ok (.lreturn, 1) := by decide +kernel
theorem dX4_wrongSheet_0 : decode cX4_wrongSheet 0 = .ok (.iload_n 1, 1) := by decide +kernel
theorem dX4_wrongSheet_1 : decode cX4_wrongSheet 1 = .ok (.invokestatic 313, 3) := by decide +kernel
theorem dX4_wrongSheet_4 : decode cX4_wrongSheet 4 = .ok (.ifCond .ne 8, 3) := by decide +kernel
theorem dX4_wrongSheet_7 : decode cX4_wrongSheet 7 = .ok (.ldc 48, 2) := by decide +kernel
theorem dX4_wrongSheet_9 : decode cX4_wrongSheet 9 = .ok (.goto 19, 3) := by decide +kernel
theorem dX4_wrongSheet_12 : decode cX4_wrongSheet 12 = .ok (.aload_n 0, 1) := by decide +kernel
theorem dX4_wrongSheet_13 : decode cX4_wrongSheet 13 = .ok (.getfield 31, 3) := by decide +kernel
theorem dX4_wrongSheet_16 : decode cX4_wrongSheet 16 = .ok (.iload_n 1, 1) := by decide +kernel
theorem dX4_wrongSheet_17 : decode cX4_wrongSheet 17 = .ok (.iaload, 1) := by decide +kernel
theorem dX4_wrongSheet_18 : decode cX4_wrongSheet 18 = .ok (.ifCond .ne 9, 3) := by decide +kernel
theorem dX4_wrongSheet_21 : decode cX4_wrongSheet 21 = .ok (.ldc_w 316, 3) := by decide +kernel
theorem dX4_wrongSheet_24 : decode cX4_wrongSheet 24 = .ok (.goto 4, 3) := by decide +kernel
theorem dX4_wrongSheet_27 : decode cX4_wrongSheet 27 = .ok (.iconst 0, 1) := by decide +kernel
theorem dX4_wrongSheet_28 : decode cX4_wrongSheet 28 = .ok (.ireturn, 1) := by decide +kernel
theorem dX4_write_0 : decode cX4_write 0 = .ok (.aload_n 0, 1) := by decide +kernel
theorem dX4_write_1 : decode cX4_write 1 = .ok (.iload_n 1, 1) := by decide +kernel
theorem dX4_write_2 : decode cX4_write 2 = .ok (.invokevirtual 317, 3) := by decide +kernel
theorem dX4_write_5 : decode cX4_write 5 = .ok (.istore 5, 2) := by decide +kernel
theorem dX4_write_7 : decode cX4_write 7 = .ok (.iload 5, 2) := by decide +kernel
theorem dX4_write_9 : decode cX4_write 9 = .ok (.ifCond .eq 11, 3) := by decide +kernel
theorem dX4_write_12 : decode cX4_write 12 = .ok (.aload_n 0, 1) := by decide +kernel
theorem dX4_write_13 : decode cX4_write 13 = .ok (.iload 5, 2) := by decide +kernel
theorem dX4_write_15 : decode cX4_write 15 = .ok (.invokevirtual 77, 3) := by decide +kernel
theorem dX4_write_18 : decode cX4_write 18 = .ok (.i2l, 1) := by decide +kernel
theorem dX4_write_19 : decode cX4_write 19 = .ok (.lreturn, 1) := by decide +kernel
theorem dX4_write_20 : decode cX4_write 20 = .ok (.iload_n 2, 1) := by decide +kernel
theorem dX4_write_21 : decode cX4_write 21 = .ok (.i2l, 1) := by decide +kernel
theorem dX4_write_22 : decode cX4_write 22 = .ok (.lconst 0, 1) := by decide +kernel
theorem dX4_write_23 : decode cX4_write 23 = .ok (.aload_n 0, 1) := by decide +kernel
theorem dX4_write_24 : decode cX4_write 24 = .ok (.getfield 34, 3) := by decide +kernel
theorem dX4_write_27 : decode cX4_write 27 = .ok (.iload_n 1, 1) := by decide +kernel
theorem dX4_write_28 : decode cX4_write 28 = .ok (.iaload, 1) := by decide +kernel
theorem dX4_write_29 : decode cX4_write 29 = .ok (.iconst 1, 1) := by decide +kernel
theorem dX4_write_30 : decode cX4_write 30 = .ok (.isub, 1) := by decide +kernel
theorem dX4_write_31 : decode cX4_write 31 = .ok (.i2l, 1) := by decide +kernel
theorem dX4_write_32 : decode cX4_write 32 = .ok (.invokestatic 51, 3) := by decide +kernel
theorem dX4_write_35 : decode cX4_write 35 = .ok (.ifCond .ne 11, 3) := by decide +kernel
theorem dX4_write_38 : decode cX4_write 38 = .ok (.aload_n 0, 1) := by decide +kernel
theorem dX4_write_39 : decode cX4_write 39 = .ok (.ldc 48, 2) := by decide +kernel
theorem dX4_write_41 : decode cX4_write 41 = .ok (.invokevirtual 77, 3) := by decide +kernel
theorem dX4_write_44 : decode cX4_write 44 = .ok (.i2l, 1) := by decide +kernel
theorem dX4_write_45 : decode cX4_write 45 = .ok (.lreturn, 1) := by decide +kernel
theorem dX4_write_46 : decode cX4_write 46 = .ok (.aload_n 0, 1) := by decide +kernel
theorem dX4_write_47 : decode cX4_write 47 = .ok (.getfield 37, 3) := by decide +kernel
theorem dX4_write_50 : decode cX4_write 50 = .ok (.bipush 40, 2) := by decide +kernel
theorem dX4_write_52 : decode cX4_write 52 = .ok (.iload_n 1, 1) := by decide +kernel
theorem dX4_write_53 : decode cX4_write 53 = .ok (.imul, 1) := by decide +kernel
theorem dX4_write_54 : decode cX4_write 54 = .ok (.iload_n 2, 1) := by decide +kernel
theorem dX4_write_55 : decode cX4_write 55 = .ok (.iadd, 1) := by decide +kernel
theorem dX4_write_56 : decode cX4_write 56 = .ok (.laload, 1) := by decide +kernel
theorem dX4_write_57 : decode cX4_write 57 = .ok (.lstore 6, 2) := by decide +kernel
theorem dX4_write_59 : decode cX4_write 59 = .ok (.aload_n 0, 1) := by decide +kernel
theorem dX4_write_60 : decode cX4_write 60 = .ok (.getfield 37, 3) := by decide +kernel
theorem dX4_write_63 : decode cX4_write 63 = .ok (.bipush 40, 2) := by decide +kernel
theorem dX4_write_65 : decode cX4_write 65 = .ok (.iload_n 1, 1) := by decide +kernel
theorem dX4_write_66 : decode cX4_write 66 = .ok (.imul, 1) := by decide +kernel
theorem dX4_write_67 : decode cX4_write 67 = .ok (.iload_n 2, 1) := by decide +kernel
theorem dX4_write_68 : decode cX4_write 68 = .ok (.iadd, 1) := by decide +kernel
theorem dX4_write_69 : decode cX4_write 69 = .ok (.aload_n 0, 1) := by decide +kernel
theorem dX4_write_70 : decode cX4_write 70 = .ok (.getfield 31, 3) := by decide +kernel
theorem dX4_write_73 : decode cX4_write 73 = .ok (.iload_n 1, 1) := by decide +kernel
theorem dX4_write_74 : decode cX4_write 74 = .ok (.iaload, 1) := by decide +kernel
theorem dX4_write_75 : decode cX4_write 75 = .ok (.lload_n 3, 1) := by decide +kernel
theorem dX4_write_76 : decode cX4_write 76 = .ok (.invokestatic 320, 3) := by decide +kernel
theorem dX4_write_79 : decode cX4_write 79 = .ok (.lastore, 1) := by decide +kernel
theorem dX4_write_80 : decode cX4_write 80 = .ok (.lload 6, 2) := by decide +kernel
theorem dX4_write_82 : decode cX4_write 82 = .ok (.lreturn, 1) := by decide +kernel
theorem dX4_copy_0 : decode cX4_copy 0 = .ok (.iload_n 1, 1) := by decide +kernel
theorem dX4_copy_1 : decode cX4_copy 1 = .ok (.invokestatic 313, 3) := by decide +kernel
theorem dX4_copy_4 : decode cX4_copy 4 = .ok (.ifCond .eq 10, 3) := by decide +kernel
theorem dX4_copy_7 : decode cX4_copy 7 = .ok (.iload_n 3, 1) := by decide +kernel
theorem dX4_copy_8 : decode cX4_copy 8 = .ok (.invokestatic 313, 3) := by decide +kernel
theorem dX4_copy_11 : decode cX4_copy 11 = .ok (.ifCond .ne 10, 3) := by decide +kernel
theorem dX4_copy_14 : decode cX4_copy 14 = .ok (.aload_n 0, 1) := by decide +kernel
theorem dX4_copy_15 : decode cX4_copy 15 = .ok (.ldc 48, 2) := by decide +kernel
theorem dX4_copy_17 : decode cX4_copy 17 = .ok (.invokevirtual 77, 3) := by decide +kernel
theorem dX4_copy_20 : decode cX4_copy 20 = .ok (.ireturn, 1) := by decide +kernel
theorem dX4_copy_21 : decode cX4_copy 21 = .ok (.aload_n 0, 1) := by decide +kernel
theorem dX4_copy_22 : decode cX4_copy 22 = .ok (.getfield 31, 3) := by decide +kernel
theorem dX4_copy_25 : decode cX4_copy 25 = .ok (.iload_n 1, 1) := by decide +kernel
theorem dX4_copy_26 : decode cX4_copy 26 = .ok (.iaload, 1) := by decide +kernel
theorem dX4_copy_27 : decode cX4_copy 27 = .ok (.ifCond .eq 12, 3) := by decide +kernel
theorem dX4_copy_30 : decode cX4_copy 30 = .ok (.aload_n 0, 1) := by decide +kernel
theorem dX4_copy_31 : decode cX4_copy 31 = .ok (.getfield 31, 3) := by decide +kernel
theorem dX4_copy_34 : decode cX4_copy 34 = .ok (.iload_n 3, 1) := by decide +kernel
theorem dX4_copy_35 : decode cX4_copy 35 = .ok (.iaload, 1) := by decide +kernel
theorem dX4_copy_36 : decode cX4_copy 36 = .ok (.ifCond .ne 11, 3) := by decide +kernel
theorem dX4_copy_39 : decode cX4_copy 39 = .ok (.aload_n 0, 1) := by decide +kernel
theorem dX4_copy_40 : decode cX4_copy 40 = .ok (.ldc_w 316, 3) := by decide +kernel
theorem dX4_copy_43 : decode cX4_copy 43 = .ok (.invokevirtual 77, 3) := by decide +kernel
theorem dX4_copy_46 : decode cX4_copy 46 = .ok (.ireturn, 1) := by decide +kernel
theorem dX4_copy_47 : decode cX4_copy 47 = .ok (.aload_n 0, 1) := by decide +kernel
theorem dX4_copy_48 : decode cX4_copy 48 = .ok (.getfield 31, 3) := by decide +kernel
theorem dX4_copy_51 : decode cX4_copy 51 = .ok (.iload_n 1, 1) := by decide +kernel
theorem dX4_copy_52 : decode cX4_copy 52 = .ok (.iaload, 1) := by decide +kernel
theorem dX4_copy_53 : decode cX4_copy 53 = .ok (.aload_n 0, 1) := by decide +kernel
theorem dX4_copy_54 : decode cX4_copy 54 = .ok (.getfield 31, 3) := by decide +kernel
theorem dX4_copy_57 : decode cX4_copy 57 = .ok (.iload_n 3, 1) := by decide +kernel
theorem dX4_copy_58 : decode cX4_copy 58 = .ok (.iaload, 1) := by decide +kernel
theorem dX4_copy_59 : decode cX4_copy 59 = .ok (.if_icmp .eq 10, 3) := by decide +kernel
theorem dX4_copy_62 : decode cX4_copy 62 = .ok (.aload_n 0, 1) := by decide +kernel
theorem dX4_copy_63 : decode cX4_copy 63 = .ok (.ldc 111, 2) := by decide +kernel
theorem dX4_copy_65 : decode cX4_copy 65 = .ok (.invokevirtual 77, 3) := by decide +kernel
theorem dX4_copy_68 : decode cX4_copy 68 = .ok (.ireturn, 1) := by decide +kernel
theorem dX4_copy_69 : decode cX4_copy 69 = .ok (.iload_n 2, 1) := by decide +kernel
theorem dX4_copy_70 : decode cX4_copy 70 = .ok (.ifCond .lt 40, 3) := by decide +kernel
theorem dX4_copy_73 : decode cX4_copy 73 = .ok (.iload 4, 2) := by decide +kernel
theorem dX4_copy_75 : decode cX4_copy 75 = .ok (.ifCond .lt 35, 3) := by decide +kernel
theorem dX4_copy_78 : decode cX4_copy 78 = .ok (.iload 5, 2) := by decide +kernel
theorem dX4_copy_80 : decode cX4_copy 80 = .ok (.ifCond .lt 30, 3) := by decide +kernel
theorem dX4_copy_83 : decode cX4_copy 83 = .ok (.iload 5, 2) := by decide +kernel
theorem dX4_copy_85 : decode cX4_copy 85 = .ok (.aload_n 0, 1) := by decide +kernel
theorem dX4_copy_86 : decode cX4_copy 86 = .ok (.getfield 34, 3) := by decide +kernel
theorem dX4_copy_89 : decode cX4_copy 89 = .ok (.iload_n 1, 1) := by decide +kernel
theorem dX4_copy_90 : decode cX4_copy 90 = .ok (.iaload, 1) := by decide +kernel
theorem dX4_copy_91 : decode cX4_copy 91 = .ok (.iload_n 2, 1) := by decide +kernel
theorem dX4_copy_92 : decode cX4_copy 92 = .ok (.isub, 1) := by decide +kernel
theorem dX4_copy_93 : decode cX4_copy 93 = .ok (.if_icmp .gt 17, 3) := by decide +kernel
theorem dX4_copy_96 : decode cX4_copy 96 = .ok (.iload 5, 2) := by decide +kernel
theorem dX4_copy_98 : decode cX4_copy 98 = .ok (.aload_n 0, 1) := by decide +kernel
theorem dX4_copy_99 : decode cX4_copy 99 = .ok (.getfield 34, 3) := by decide +kernel
theorem dX4_copy_102 : decode cX4_copy 102 = .ok (.iload_n 3, 1) := by decide +kernel
theorem dX4_copy_103 : decode cX4_copy 103 = .ok (.iaload, 1) := by decide +kernel
theorem dX4_copy_104 : decode cX4_copy 104 = .ok (.iload 4, 2) := by decide +kernel
theorem dX4_copy_106 : decode cX4_copy 106 = .ok (.isub, 1) := by decide +kernel
theorem dX4_copy_107 : decode cX4_copy 107 = .ok (.if_icmp .le 10, 3) := by decide +kernel
theorem dX4_copy_110 : decode cX4_copy 110 = .ok (.aload_n 0, 1) := by decide +kernel
theorem dX4_copy_111 : decode cX4_copy 111 = .ok (.ldc 48, 2) := by decide +kernel
theorem dX4_copy_113 : decode cX4_copy 113 = .ok (.invokevirtual 77, 3) := by decide +kernel
theorem dX4_copy_116 : decode cX4_copy 116 = .ok (.ireturn, 1) := by decide +kernel
theorem dX4_copy_117 : decode cX4_copy 117 = .ok (.iconst 0, 1) := by decide +kernel
theorem dX4_copy_118 : decode cX4_copy 118 = .ok (.istore 6, 2) := by decide +kernel
theorem dX4_copy_120 : decode cX4_copy 120 = .ok (.iload 6, 2) := by decide +kernel
theorem dX4_copy_122 : decode cX4_copy 122 = .ok (.iload 5, 2) := by decide +kernel
theorem dX4_copy_124 : decode cX4_copy 124 = .ok (.if_icmp .ge 30, 3) := by decide +kernel
theorem dX4_copy_127 : decode cX4_copy 127 = .ok (.aload_n 0, 1) := by decide +kernel
theorem dX4_copy_128 : decode cX4_copy 128 = .ok (.getfield 41, 3) := by decide +kernel
theorem dX4_copy_131 : decode cX4_copy 131 = .ok (.iload 6, 2) := by decide +kernel
theorem dX4_copy_133 : decode cX4_copy 133 = .ok (.aload_n 0, 1) := by decide +kernel
theorem dX4_copy_134 : decode cX4_copy 134 = .ok (.getfield 37, 3) := by decide +kernel
theorem dX4_copy_137 : decode cX4_copy 137 = .ok (.bipush 40, 2) := by decide +kernel
theorem dX4_copy_139 : decode cX4_copy 139 = .ok (.iload_n 1, 1) := by decide +kernel
theorem dX4_copy_140 : decode cX4_copy 140 = .ok (.imul, 1) := by decide +kernel
theorem dX4_copy_141 : decode cX4_copy 141 = .ok (.iload_n 2, 1) := by decide +kernel
theorem dX4_copy_142 : decode cX4_copy 142 = .ok (.iadd, 1) := by decide +kernel
theorem dX4_copy_143 : decode cX4_copy 143 = .ok (.iload 6, 2) := by decide +kernel
theorem dX4_copy_145 : decode cX4_copy 145 = .ok (.iadd, 1) := by decide +kernel
theorem dX4_copy_146 : decode cX4_copy 146 = .ok (.laload, 1) := by decide +kernel
theorem dX4_copy_147 : decode cX4_copy 147 = .ok (.lastore, 1) := by decide +kernel
theorem dX4_copy_148 : decode cX4_copy 148 = .ok (.iinc 6 1, 3) := by decide +kernel
theorem dX4_copy_151 : decode cX4_copy 151 = .ok (.goto (-31), 3) := by decide +kernel
theorem dX4_copy_154 : decode cX4_copy 154 = .ok (.iconst 0, 1) := by decide +kernel
theorem dX4_copy_155 : decode cX4_copy 155 = .ok (.istore 6, 2) := by decide +kernel
theorem dX4_copy_157 : decode cX4_copy 157 = .ok (.iload 6, 2) := by decide +kernel
theorem dX4_copy_159 : decode cX4_copy 159 = .ok (.iload 5, 2) := by decide +kernel
theorem dX4_copy_161 : decode cX4_copy 161 = .ok (.if_icmp .ge 31, 3) := by decide +kernel
theorem dX4_copy_164 : decode cX4_copy 164 = .ok (.aload_n 0, 1) := by decide +kernel
theorem dX4_copy_165 : decode cX4_copy 165 = .ok (.getfield 37, 3) := by decide +kernel
theorem dX4_copy_168 : decode cX4_copy 168 = .ok (.bipush 40, 2) := by decide +kernel
theorem dX4_copy_170 : decode cX4_copy 170 = .ok (.iload_n 3, 1) := by decide +kernel
theorem dX4_copy_171 : decode cX4_copy 171 = .ok (.imul, 1) := by decide +kernel
theorem dX4_copy_172 : decode cX4_copy 172 = .ok (.iload 4, 2) := by decide +kernel
theorem dX4_copy_174 : decode cX4_copy 174 = .ok (.iadd, 1) := by decide +kernel
theorem dX4_copy_175 : decode cX4_copy 175 = .ok (.iload 6, 2) := by decide +kernel
theorem dX4_copy_177 : decode cX4_copy 177 = .ok (.iadd, 1) := by decide +kernel
theorem dX4_copy_178 : decode cX4_copy 178 = .ok (.aload_n 0, 1) := by decide +kernel
theorem dX4_copy_179 : decode cX4_copy 179 = .ok (.getfield 41, 3) := by decide +kernel
theorem dX4_copy_182 : decode cX4_copy 182 = .ok (.iload 6, 2) := by decide +kernel
theorem dX4_copy_184 : decode cX4_copy 184 = .ok (.laload, 1) := by decide +kernel
theorem dX4_copy_185 : decode cX4_copy 185 = .ok (.lastore, 1) := by decide +kernel
theorem dX4_copy_186 : decode cX4_copy 186 = .ok (.iinc 6 1, 3) := by decide +kernel
theorem dX4_copy_189 : decode cX4_copy 189 = .ok (.goto (-32), 3) := by decide +kernel
theorem dX4_copy_192 : decode cX4_copy 192 = .ok (.iload 5, 2) := by decide +kernel
theorem dX4_copy_194 : decode cX4_copy 194 = .ok (.ireturn, 1) := by decide +kernel
theorem dX4_lays_0 : decode cX4_lays 0 = .ok (.aload_n 0, 1) := by decide +kernel
theorem dX4_lays_1 : decode cX4_lays 1 = .ok (.iload_n 1, 1) := by decide +kernel
theorem dX4_lays_2 : decode cX4_lays 2 = .ok (.invokevirtual 317, 3) := by decide +kernel
theorem dX4_lays_5 : decode cX4_lays 5 = .ok (.istore_n 2, 1) := by decide +kernel
theorem dX4_lays_6 : decode cX4_lays 6 = .ok (.iload_n 2, 1) := by decide +kernel
theorem dX4_lays_7 : decode cX4_lays 7 = .ok (.ifCond .eq 9, 3) := by decide +kernel
theorem dX4_lays_10 : decode cX4_lays 10 = .ok (.aload_n 0, 1) := by decide +kernel
theorem dX4_lays_11 : decode cX4_lays 11 = .ok (.iload_n 2, 1) := by decide +kernel
theorem dX4_lays_12 : decode cX4_lays 12 = .ok (.invokevirtual 77, 3) := by decide +kernel
theorem dX4_lays_15 : decode cX4_lays 15 = .ok (.ireturn, 1) := by decide +kernel
theorem dX4_lays_16 : decode cX4_lays 16 = .ok (.iconst 0, 1) := by decide +kernel
theorem dX4_lays_17 : decode cX4_lays 17 = .ok (.istore_n 3, 1) := by decide +kernel
theorem dX4_lays_18 : decode cX4_lays 18 = .ok (.iconst 0, 1) := by decide +kernel
theorem dX4_lays_19 : decode cX4_lays 19 = .ok (.istore 4, 2) := by decide +kernel
theorem dX4_lays_21 : decode cX4_lays 21 = .ok (.iload 4, 2) := by decide +kernel
theorem dX4_lays_23 : decode cX4_lays 23 = .ok (.aload_n 0, 1) := by decide +kernel
theorem dX4_lays_24 : decode cX4_lays 24 = .ok (.getfield 34, 3) := by decide +kernel
theorem dX4_lays_27 : decode cX4_lays 27 = .ok (.iload_n 1, 1) := by decide +kernel
theorem dX4_lays_28 : decode cX4_lays 28 = .ok (.iaload, 1) := by decide +kernel
theorem dX4_lays_29 : decode cX4_lays 29 = .ok (.if_icmp .ge 93, 3) := by decide +kernel
theorem dX4_lays_32 : decode cX4_lays 32 = .ok (.iload 4, 2) := by decide +kernel
theorem dX4_lays_34 : decode cX4_lays 34 = .ok (.bipush 8, 2) := by decide +kernel
theorem dX4_lays_36 : decode cX4_lays 36 = .ok (.if_icmp .ge 86, 3) := by decide +kernel
theorem dX4_lays_39 : decode cX4_lays 39 = .ok (.aload_n 0, 1) := by decide +kernel
theorem dX4_lays_40 : decode cX4_lays 40 = .ok (.getfield 37, 3) := by decide +kernel
theorem dX4_lays_43 : decode cX4_lays 43 = .ok (.bipush 40, 2) := by decide +kernel
theorem dX4_lays_45 : decode cX4_lays 45 = .ok (.iload_n 1, 1) := by decide +kernel
theorem dX4_lays_46 : decode cX4_lays 46 = .ok (.imul, 1) := by decide +kernel
theorem dX4_lays_47 : decode cX4_lays 47 = .ok (.iload 4, 2) := by decide +kernel
theorem dX4_lays_49 : decode cX4_lays 49 = .ok (.iadd, 1) := by decide +kernel
theorem dX4_lays_50 : decode cX4_lays 50 = .ok (.laload, 1) := by decide +kernel
theorem dX4_lays_51 : decode cX4_lays 51 = .ok (.lconst 0, 1) := by decide +kernel
theorem dX4_lays_52 : decode cX4_lays 52 = .ok (.ldc2_w 67, 3) := by decide +kernel
theorem dX4_lays_55 : decode cX4_lays 55 = .ok (.invokestatic 51, 3) := by decide +kernel
theorem dX4_lays_58 : decode cX4_lays 58 = .ok (.istore 5, 2) := by decide +kernel
theorem dX4_lays_60 : decode cX4_lays 60 = .ok (.aload_n 0, 1) := by decide +kernel
theorem dX4_lays_61 : decode cX4_lays 61 = .ok (.getfield 7, 3) := by decide +kernel
theorem dX4_lays_64 : decode cX4_lays 64 = .ok (.iload 4, 2) := by decide +kernel
theorem dX4_lays_66 : decode cX4_lays 66 = .ok (.iconst 0, 1) := by decide +kernel
theorem dX4_lays_67 : decode cX4_lays 67 = .ok (.invokestatic 44, 3) := by decide +kernel
theorem dX4_lays_70 : decode cX4_lays 70 = .ok (.iload 5, 2) := by decide +kernel
theorem dX4_lays_72 : decode cX4_lays 72 = .ok (.ifCond .eq 19, 3) := by decide +kernel
theorem dX4_lays_75 : decode cX4_lays 75 = .ok (.aload_n 0, 1) := by decide +kernel
theorem dX4_lays_76 : decode cX4_lays 76 = .ok (.getfield 37, 3) := by decide +kernel
theorem dX4_lays_79 : decode cX4_lays 79 = .ok (.bipush 40, 2) := by decide +kernel
theorem dX4_lays_81 : decode cX4_lays 81 = .ok (.iload_n 1, 1) := by decide +kernel
theorem dX4_lays_82 : decode cX4_lays 82 = .ok (.imul, 1) := by decide +kernel
theorem dX4_lays_83 : decode cX4_lays 83 = .ok (.iload 4, 2) := by decide +kernel
theorem dX4_lays_85 : decode cX4_lays 85 = .ok (.iadd, 1) := by decide +kernel
theorem dX4_lays_86 : decode cX4_lays 86 = .ok (.laload, 1) := by decide +kernel
theorem dX4_lays_87 : decode cX4_lays 87 = .ok (.l2i, 1) := by decide +kernel
theorem dX4_lays_88 : decode cX4_lays 88 = .ok (.goto 14, 3) := by decide +kernel
theorem dX4_lays_91 : decode cX4_lays 91 = .ok (.aload_n 0, 1) := by decide +kernel
theorem dX4_lays_92 : decode cX4_lays 92 = .ok (.getfield 7, 3) := by decide +kernel
theorem dX4_lays_95 : decode cX4_lays 95 = .ok (.iload 4, 2) := by decide +kernel
theorem dX4_lays_97 : decode cX4_lays 97 = .ok (.iconst 0, 1) := by decide +kernel
theorem dX4_lays_98 : decode cX4_lays 98 = .ok (.invokestatic 44, 3) := by decide +kernel
theorem dX4_lays_101 : decode cX4_lays 101 = .ok (.iaload, 1) := by decide +kernel
theorem dX4_lays_102 : decode cX4_lays 102 = .ok (.iastore, 1) := by decide +kernel
theorem dX4_lays_103 : decode cX4_lays 103 = .ok (.iload_n 3, 1) := by decide +kernel
theorem dX4_lays_104 : decode cX4_lays 104 = .ok (.iload 5, 2) := by decide +kernel
theorem dX4_lays_106 : decode cX4_lays 106 = .ok (.ifCond .eq 7, 3) := by decide +kernel
theorem dX4_lays_109 : decode cX4_lays 109 = .ok (.iconst 1, 1) := by decide +kernel
theorem dX4_lays_110 : decode cX4_lays 110 = .ok (.goto 4, 3) := by decide +kernel
theorem dX4_lays_113 : decode cX4_lays 113 = .ok (.iconst 0, 1) := by decide +kernel
theorem dX4_lays_114 : decode cX4_lays 114 = .ok (.iadd, 1) := by decide +kernel
theorem dX4_lays_115 : decode cX4_lays 115 = .ok (.istore_n 3, 1) := by decide +kernel
theorem dX4_lays_116 : decode cX4_lays 116 = .ok (.iinc 4 1, 3) := by decide +kernel
theorem dX4_lays_119 : decode cX4_lays 119 = .ok (.goto (-98), 3) := by decide +kernel
theorem dX4_lays_122 : decode cX4_lays 122 = .ok (.iload_n 3, 1) := by decide +kernel
theorem dX4_lays_123 : decode cX4_lays 123 = .ok (.ireturn, 1) := by decide +kernel
theorem dX4_wrongBook_0 : decode cX4_wrongBook 0 = .ok (.aload_n 0, 1) := by decide +kernel
theorem dX4_wrongBook_1 : decode cX4_wrongBook 1 = .ok (.iload_n 1, 1) := by decide +kernel
theorem dX4_wrongBook_2 : decode cX4_wrongBook 2 = .ok (.invokevirtual 317, 3) := by decide +kernel
theorem dX4_wrongBook_5 : decode cX4_wrongBook 5 = .ok (.istore_n 3, 1) := by decide +kernel
theorem dX4_wrongBook_6 : decode cX4_wrongBook 6 = .ok (.iload_n 3, 1) := by decide +kernel
theorem dX4_wrongBook_7 : decode cX4_wrongBook 7 = .ok (.ifCond .eq 7, 3) := by decide +kernel
theorem dX4_wrongBook_10 : decode cX4_wrongBook 10 = .ok (.iload_n 3, 1) := by decide +kernel
theorem dX4_wrongBook_11 : decode cX4_wrongBook 11 = .ok (.goto 17, 3) := by decide +kernel
theorem dX4_wrongBook_14 : decode cX4_wrongBook 14 = .ok (.aload_n 0, 1) := by decide +kernel
theorem dX4_wrongBook_15 : decode cX4_wrongBook 15 = .ok (.iload_n 2, 1) := by decide +kernel
theorem dX4_wrongBook_16 : decode cX4_wrongBook 16 = .ok (.invokevirtual 55, 3) := by decide +kernel
theorem dX4_wrongBook_19 : decode cX4_wrongBook 19 = .ok (.ifCond .eq 7, 3) := by decide +kernel
theorem dX4_wrongBook_22 : decode cX4_wrongBook 22 = .ok (.iconst 0, 1) := by decide +kernel
theorem dX4_wrongBook_23 : decode cX4_wrongBook 23 = .ok (.goto 5, 3) := by decide +kernel
theorem dX4_wrongBook_26 : decode cX4_wrongBook 26 = .ok (.ldc 48, 2) := by decide +kernel
theorem dX4_wrongBook_28 : decode cX4_wrongBook 28 = .ok (.ireturn, 1) := by decide +kernel
theorem dX4_book_0 : decode cX4_book 0 = .ok (.aload_n 0, 1) := by decide +kernel
theorem dX4_book_1 : decode cX4_book 1 = .ok (.iload_n 1, 1) := by decide +kernel
theorem dX4_book_2 : decode cX4_book 2 = .ok (.iload_n 2, 1) := by decide +kernel
theorem dX4_book_3 : decode cX4_book 3 = .ok (.invokevirtual 324, 3) := by decide +kernel
theorem dX4_book_6 : decode cX4_book 6 = .ok (.istore_n 3, 1) := by decide +kernel
theorem dX4_book_7 : decode cX4_book 7 = .ok (.iload_n 3, 1) := by decide +kernel
theorem dX4_book_8 : decode cX4_book 8 = .ok (.ifCond .eq 9, 3) := by decide +kernel
theorem dX4_book_11 : decode cX4_book 11 = .ok (.aload_n 0, 1) := by decide +kernel
theorem dX4_book_12 : decode cX4_book 12 = .ok (.iload_n 3, 1) := by decide +kernel
theorem dX4_book_13 : decode cX4_book 13 = .ok (.invokevirtual 77, 3) := by decide +kernel
theorem dX4_book_16 : decode cX4_book 16 = .ok (.ireturn, 1) := by decide +kernel
theorem dX4_book_17 : decode cX4_book 17 = .ok (.aload_n 0, 1) := by decide +kernel
theorem dX4_book_18 : decode cX4_book 18 = .ok (.invokevirtual 168, 3) := by decide +kernel
theorem dX4_book_21 : decode cX4_book 21 = .ok (.iconst 0, 1) := by decide +kernel
theorem dX4_book_22 : decode cX4_book 22 = .ok (.istore 4, 2) := by decide +kernel
theorem dX4_book_24 : decode cX4_book 24 = .ok (.iload 4, 2) := by decide +kernel
theorem dX4_book_26 : decode cX4_book 26 = .ok (.aload_n 0, 1) := by decide +kernel
theorem dX4_book_27 : decode cX4_book 27 = .ok (.getfield 34, 3) := by decide +kernel
theorem dX4_book_30 : decode cX4_book 30 = .ok (.iload_n 1, 1) := by decide +kernel
theorem dX4_book_31 : decode cX4_book 31 = .ok (.iaload, 1) := by decide +kernel
theorem dX4_book_32 : decode cX4_book 32 = .ok (.if_icmp .ge 43, 3) := by decide +kernel
theorem dX4_book_35 : decode cX4_book 35 = .ok (.aload_n 0, 1) := by decide +kernel
theorem dX4_book_36 : decode cX4_book 36 = .ok (.getfield 37, 3) := by decide +kernel
theorem dX4_book_39 : decode cX4_book 39 = .ok (.bipush 40, 2) := by decide +kernel
theorem dX4_book_41 : decode cX4_book 41 = .ok (.iload_n 1, 1) := by decide +kernel
theorem dX4_book_42 : decode cX4_book 42 = .ok (.imul, 1) := by decide +kernel
theorem dX4_book_43 : decode cX4_book 43 = .ok (.iload 4, 2) := by decide +kernel
theorem dX4_book_45 : decode cX4_book 45 = .ok (.iadd, 1) := by decide +kernel
theorem dX4_book_46 : decode cX4_book 46 = .ok (.aload_n 0, 1) := by decide +kernel
theorem dX4_book_47 : decode cX4_book 47 = .ok (.getfield 31, 3) := by decide +kernel
theorem dX4_book_50 : decode cX4_book 50 = .ok (.iload_n 1, 1) := by decide +kernel
theorem dX4_book_51 : decode cX4_book 51 = .ok (.iaload, 1) := by decide +kernel
theorem dX4_book_52 : decode cX4_book 52 = .ok (.aload_n 0, 1) := by decide +kernel
theorem dX4_book_53 : decode cX4_book 53 = .ok (.iload_n 2, 1) := by decide +kernel
theorem dX4_book_54 : decode cX4_book 54 = .ok (.iconst 5, 1) := by decide +kernel
theorem dX4_book_55 : decode cX4_book 55 = .ok (.invokevirtual 64, 3) := by decide +kernel
theorem dX4_book_58 : decode cX4_book 58 = .ok (.i2l, 1) := by decide +kernel
theorem dX4_book_59 : decode cX4_book 59 = .ok (.invokestatic 320, 3) := by decide +kernel
theorem dX4_book_62 : decode cX4_book 62 = .ok (.lastore, 1) := by decide +kernel
theorem dX4_book_63 : decode cX4_book 63 = .ok (.aload_n 0, 1) := by decide +kernel
theorem dX4_book_64 : decode cX4_book 64 = .ok (.invokevirtual 150, 3) := by decide +kernel
theorem dX4_book_67 : decode cX4_book 67 = .ok (.istore 5, 2) := by decide +kernel
theorem dX4_book_69 : decode cX4_book 69 = .ok (.iinc 4 1, 3) := by decide +kernel
theorem dX4_book_72 : decode cX4_book 72 = .ok (.goto (-48), 3) := by decide +kernel
theorem dX4_book_75 : decode cX4_book 75 = .ok (.aload_n 0, 1) := by decide +kernel
theorem dX4_book_76 : decode cX4_book 76 = .ok (.aload_n 0, 1) := by decide +kernel
theorem dX4_book_77 : decode cX4_book 77 = .ok (.getfield 34, 3) := by decide +kernel
theorem dX4_book_80 : decode cX4_book 80 = .ok (.iload_n 1, 1) := by decide +kernel
theorem dX4_book_81 : decode cX4_book 81 = .ok (.iaload, 1) := by decide +kernel
theorem dX4_book_82 : decode cX4_book 82 = .ok (.invokevirtual 171, 3) := by decide +kernel
theorem dX4_book_85 : decode cX4_book 85 = .ok (.ireturn, 1) := by decide +kernel
theorem dX4_isBook_0 : decode cX4_isBook 0 = .ok (.iconst 0, 1) := by decide +kernel
theorem dX4_isBook_1 : decode cX4_isBook 1 = .ok (.istore_n 3, 1) := by decide +kernel
theorem dX4_isBook_2 : decode cX4_isBook 2 = .ok (.iload_n 3, 1) := by decide +kernel
theorem dX4_isBook_3 : decode cX4_isBook 3 = .ok (.aload_n 0, 1) := by decide +kernel
theorem dX4_isBook_4 : decode cX4_isBook 4 = .ok (.getfield 34, 3) := by decide +kernel
theorem dX4_isBook_7 : decode cX4_isBook 7 = .ok (.iload_n 1, 1) := by decide +kernel
theorem dX4_isBook_8 : decode cX4_isBook 8 = .ok (.iaload, 1) := by decide +kernel
theorem dX4_isBook_9 : decode cX4_isBook 9 = .ok (.if_icmp .ge 39, 3) := by decide +kernel
theorem dX4_isBook_12 : decode cX4_isBook 12 = .ok (.aload_n 0, 1) := by decide +kernel
theorem dX4_isBook_13 : decode cX4_isBook 13 = .ok (.getfield 37, 3) := by decide +kernel
theorem dX4_isBook_16 : decode cX4_isBook 16 = .ok (.bipush 40, 2) := by decide +kernel
theorem dX4_isBook_18 : decode cX4_isBook 18 = .ok (.iload_n 1, 1) := by decide +kernel
theorem dX4_isBook_19 : decode cX4_isBook 19 = .ok (.imul, 1) := by decide +kernel
theorem dX4_isBook_20 : decode cX4_isBook 20 = .ok (.iload_n 3, 1) := by decide +kernel
theorem dX4_isBook_21 : decode cX4_isBook 21 = .ok (.iadd, 1) := by decide +kernel
theorem dX4_isBook_22 : decode cX4_isBook 22 = .ok (.laload, 1) := by decide +kernel
theorem dX4_isBook_23 : decode cX4_isBook 23 = .ok (.aload_n 0, 1) := by decide +kernel
theorem dX4_isBook_24 : decode cX4_isBook 24 = .ok (.iload_n 2, 1) := by decide +kernel
theorem dX4_isBook_25 : decode cX4_isBook 25 = .ok (.iconst 5, 1) := by decide +kernel
theorem dX4_isBook_26 : decode cX4_isBook 26 = .ok (.invokevirtual 64, 3) := by decide +kernel
theorem dX4_isBook_29 : decode cX4_isBook 29 = .ok (.i2l, 1) := by decide +kernel
theorem dX4_isBook_30 : decode cX4_isBook 30 = .ok (.lcmp, 1) := by decide +kernel
theorem dX4_isBook_31 : decode cX4_isBook 31 = .ok (.ifCond .eq 5, 3) := by decide +kernel
theorem dX4_isBook_34 : decode cX4_isBook 34 = .ok (.iconst 0, 1) := by decide +kernel
theorem dX4_isBook_35 : decode cX4_isBook 35 = .ok (.ireturn, 1) := by decide +kernel
theorem dX4_isBook_36 : decode cX4_isBook 36 = .ok (.aload_n 0, 1) := by decide +kernel
theorem dX4_isBook_37 : decode cX4_isBook 37 = .ok (.invokevirtual 150, 3) := by decide +kernel
theorem dX4_isBook_40 : decode cX4_isBook 40 = .ok (.istore 4, 2) := by decide +kernel
theorem dX4_isBook_42 : decode cX4_isBook 42 = .ok (.iinc 3 1, 3) := by decide +kernel
theorem dX4_isBook_45 : decode cX4_isBook 45 = .ok (.goto (-43), 3) := by decide +kernel
theorem dX4_isBook_48 : decode cX4_isBook 48 = .ok (.iconst 1, 1) := by decide +kernel
theorem dX4_isBook_49 : decode cX4_isBook 49 = .ok (.ireturn, 1) := by decide +kernel
theorem dX4_read_0 : decode cX4_read 0 = .ok (.aload_n 0, 1) := by decide +kernel
theorem dX4_read_1 : decode cX4_read 1 = .ok (.iload_n 1, 1) := by decide +kernel
theorem dX4_read_2 : decode cX4_read 2 = .ok (.iload_n 2, 1) := by decide +kernel
theorem dX4_read_3 : decode cX4_read 3 = .ok (.invokevirtual 324, 3) := by decide +kernel
theorem dX4_read_6 : decode cX4_read 6 = .ok (.istore_n 3, 1) := by decide +kernel
theorem dX4_read_7 : decode cX4_read 7 = .ok (.iload_n 3, 1) := by decide +kernel
theorem dX4_read_8 : decode cX4_read 8 = .ok (.ifCond .eq 9, 3) := by decide +kernel
theorem dX4_read_11 : decode cX4_read 11 = .ok (.aload_n 0, 1) := by decide +kernel
theorem dX4_read_12 : decode cX4_read 12 = .ok (.iload_n 3, 1) := by decide +kernel
theorem dX4_read_13 : decode cX4_read 13 = .ok (.invokevirtual 77, 3) := by decide +kernel
theorem dX4_read_16 : decode cX4_read 16 = .ok (.ireturn, 1) := by decide +kernel
theorem dX4_read_17 : decode cX4_read 17 = .ok (.aload_n 0, 1) := by decide +kernel
theorem dX4_read_18 : decode cX4_read 18 = .ok (.invokevirtual 168, 3) := by decide +kernel
theorem dX4_read_21 : decode cX4_read 21 = .ok (.iconst 0, 1) := by decide +kernel
theorem dX4_read_22 : decode cX4_read 22 = .ok (.istore 4, 2) := by decide +kernel
theorem dX4_read_24 : decode cX4_read 24 = .ok (.iconst 0, 1) := by decide +kernel
theorem dX4_read_25 : decode cX4_read 25 = .ok (.istore 5, 2) := by decide +kernel
theorem dX4_read_27 : decode cX4_read 27 = .ok (.iload 5, 2) := by decide +kernel
theorem dX4_read_29 : decode cX4_read 29 = .ok (.bipush 54, 2) := by decide +kernel
theorem dX4_read_31 : decode cX4_read 31 = .ok (.if_icmp .ge 64, 3) := by decide +kernel
theorem dX4_read_34 : decode cX4_read 34 = .ok (.aload_n 0, 1) := by decide +kernel
theorem dX4_read_35 : decode cX4_read 35 = .ok (.getfield 7, 3) := by decide +kernel
theorem dX4_read_38 : decode cX4_read 38 = .ok (.iload_n 2, 1) := by decide +kernel
theorem dX4_read_39 : decode cX4_read 39 = .ok (.iconst 0, 1) := by decide +kernel
theorem dX4_read_40 : decode cX4_read 40 = .ok (.invokestatic 61, 3) := by decide +kernel
theorem dX4_read_43 : decode cX4_read 43 = .ok (.iload 5, 2) := by decide +kernel
theorem dX4_read_45 : decode cX4_read 45 = .ok (.bipush 9, 2) := by decide +kernel
theorem dX4_read_47 : decode cX4_read 47 = .ok (.idiv, 1) := by decide +kernel
theorem dX4_read_48 : decode cX4_read 48 = .ok (.iastore, 1) := by decide +kernel
theorem dX4_read_49 : decode cX4_read 49 = .ok (.aload_n 0, 1) := by decide +kernel
theorem dX4_read_50 : decode cX4_read 50 = .ok (.getfield 7, 3) := by decide +kernel
theorem dX4_read_53 : decode cX4_read 53 = .ok (.iload_n 2, 1) := by decide +kernel
theorem dX4_read_54 : decode cX4_read 54 = .ok (.iconst 2, 1) := by decide +kernel
theorem dX4_read_55 : decode cX4_read 55 = .ok (.invokestatic 61, 3) := by decide +kernel
theorem dX4_read_58 : decode cX4_read 58 = .ok (.iload 5, 2) := by decide +kernel
theorem dX4_read_60 : decode cX4_read 60 = .ok (.bipush 9, 2) := by decide +kernel
theorem dX4_read_62 : decode cX4_read 62 = .ok (.irem, 1) := by decide +kernel
theorem dX4_read_63 : decode cX4_read 63 = .ok (.iconst 1, 1) := by decide +kernel
theorem dX4_read_64 : decode cX4_read 64 = .ok (.isub, 1) := by decide +kernel
theorem dX4_read_65 : decode cX4_read 65 = .ok (.iastore, 1) := by decide +kernel
theorem dX4_read_66 : decode cX4_read 66 = .ok (.aload_n 0, 1) := by decide +kernel
theorem dX4_read_67 : decode cX4_read 67 = .ok (.iload 4, 2) := by decide +kernel
theorem dX4_read_69 : decode cX4_read 69 = .ok (.aload_n 0, 1) := by decide +kernel
theorem dX4_read_70 : decode cX4_read 70 = .ok (.iload_n 1, 1) := by decide +kernel
theorem dX4_read_71 : decode cX4_read 71 = .ok (.iload_n 2, 1) := by decide +kernel
theorem dX4_read_72 : decode cX4_read 72 = .ok (.invokevirtual 327, 3) := by decide +kernel
theorem dX4_read_75 : decode cX4_read 75 = .ok (.ifCond .eq 7, 3) := by decide +kernel
theorem dX4_read_78 : decode cX4_read 78 = .ok (.iconst 1, 1) := by decide +kernel
theorem dX4_read_79 : decode cX4_read 79 = .ok (.goto 4, 3) := by decide +kernel
theorem dX4_read_82 : decode cX4_read 82 = .ok (.iconst 0, 1) := by decide +kernel
theorem dX4_read_83 : decode cX4_read 83 = .ok (.iadd, 1) := by decide +kernel
theorem dX4_read_84 : decode cX4_read 84 = .ok (.invokevirtual 171, 3) := by decide +kernel
theorem dX4_read_87 : decode cX4_read 87 = .ok (.istore 4, 2) := by decide +kernel
theorem dX4_read_89 : decode cX4_read 89 = .ok (.iinc 5 1, 3) := by decide +kernel
theorem dX4_read_92 : decode cX4_read 92 = .ok (.goto (-65), 3) := by decide +kernel
theorem dX4_read_95 : decode cX4_read 95 = .ok (.iload 4, 2) := by decide +kernel
theorem dX4_read_97 : decode cX4_read 97 = .ok (.ireturn, 1) := by decide +kernel
theorem dX4_image_0 : decode cX4_image 0 = .ok (.iconst 0, 1) := by decide +kernel
theorem dX4_image_1 : decode cX4_image 1 = .ok (.istore_n 1, 1) := by decide +kernel
theorem dX4_image_2 : decode cX4_image 2 = .ok (.iload_n 1, 1) := by decide +kernel
theorem dX4_image_3 : decode cX4_image 3 = .ok (.bipush 66, 2) := by decide +kernel
theorem dX4_image_5 : decode cX4_image 5 = .ok (.if_icmp .ge 21, 3) := by decide +kernel
theorem dX4_image_8 : decode cX4_image 8 = .ok (.aload_n 0, 1) := by decide +kernel
theorem dX4_image_9 : decode cX4_image 9 = .ok (.getfield 13, 3) := by decide +kernel
theorem dX4_image_12 : decode cX4_image 12 = .ok (.iload_n 1, 1) := by decide +kernel
theorem dX4_image_13 : decode cX4_image 13 = .ok (.aload_n 0, 1) := by decide +kernel
theorem dX4_image_14 : decode cX4_image 14 = .ok (.getfield 7, 3) := by decide +kernel
theorem dX4_image_17 : decode cX4_image 17 = .ok (.iload_n 1, 1) := by decide +kernel
theorem dX4_image_18 : decode cX4_image 18 = .ok (.iaload, 1) := by decide +kernel
theorem dX4_image_19 : decode cX4_image 19 = .ok (.iastore, 1) := by decide +kernel
theorem dX4_image_20 : decode cX4_image 20 = .ok (.iinc 1 1, 3) := by decide +kernel
theorem dX4_image_23 : decode cX4_image 23 = .ok (.goto (-21), 3) := by decide +kernel
theorem dX4_image_26 : decode cX4_image 26 = .ok (.aload_n 0, 1) := by decide +kernel
theorem dX4_image_27 : decode cX4_image 27 = .ok (.iconst 1, 1) := by decide +kernel
theorem dX4_image_28 : decode cX4_image 28 = .ok (.putfield 330, 3) := by decide +kernel
theorem dX4_image_31 : decode cX4_image 31 = .ok (.iconst 1, 1) := by decide +kernel
theorem dX4_image_32 : decode cX4_image 32 = .ok (.ireturn, 1) := by decide +kernel
theorem dX4_undo_0 : decode cX4_undo 0 = .ok (.aload_n 0, 1) := by decide +kernel
theorem dX4_undo_1 : decode cX4_undo 1 = .ok (.getfield 330, 3) := by decide +kernel
theorem dX4_undo_4 : decode cX4_undo 4 = .ok (.ifCond .ne 10, 3) := by decide +kernel
theorem dX4_undo_7 : decode cX4_undo 7 = .ok (.aload_n 0, 1) := by decide +kernel
theorem dX4_undo_8 : decode cX4_undo 8 = .ok (.ldc 177, 2) := by decide +kernel
theorem dX4_undo_10 : decode cX4_undo 10 = .ok (.invokevirtual 77, 3) := by decide +kernel
theorem dX4_undo_13 : decode cX4_undo 13 = .ok (.ireturn, 1) := by decide +kernel
theorem dX4_undo_14 : decode cX4_undo 14 = .ok (.iconst 0, 1) := by decide +kernel
theorem dX4_undo_15 : decode cX4_undo 15 = .ok (.istore_n 1, 1) := by decide +kernel
theorem dX4_undo_16 : decode cX4_undo 16 = .ok (.iload_n 1, 1) := by decide +kernel
theorem dX4_undo_17 : decode cX4_undo 17 = .ok (.bipush 66, 2) := by decide +kernel
theorem dX4_undo_19 : decode cX4_undo 19 = .ok (.if_icmp .ge 21, 3) := by decide +kernel
theorem dX4_undo_22 : decode cX4_undo 22 = .ok (.aload_n 0, 1) := by decide +kernel
theorem dX4_undo_23 : decode cX4_undo 23 = .ok (.getfield 7, 3) := by decide +kernel
theorem dX4_undo_26 : decode cX4_undo 26 = .ok (.iload_n 1, 1) := by decide +kernel
theorem dX4_undo_27 : decode cX4_undo 27 = .ok (.aload_n 0, 1) := by decide +kernel
theorem dX4_undo_28 : decode cX4_undo 28 = .ok (.getfield 13, 3) := by decide +kernel
theorem dX4_undo_31 : decode cX4_undo 31 = .ok (.iload_n 1, 1) := by decide +kernel
theorem dX4_undo_32 : decode cX4_undo 32 = .ok (.iaload, 1) := by decide +kernel
theorem dX4_undo_33 : decode cX4_undo 33 = .ok (.iastore, 1) := by decide +kernel
theorem dX4_undo_34 : decode cX4_undo 34 = .ok (.iinc 1 1, 3) := by decide +kernel
theorem dX4_undo_37 : decode cX4_undo 37 = .ok (.goto (-21), 3) := by decide +kernel
theorem dX4_undo_40 : decode cX4_undo 40 = .ok (.aload_n 0, 1) := by decide +kernel
theorem dX4_undo_41 : decode cX4_undo 41 = .ok (.getfield 7, 3) := by decide +kernel
theorem dX4_undo_44 : decode cX4_undo 44 = .ok (.iconst 0, 1) := by decide +kernel
theorem dX4_undo_45 : decode cX4_undo 45 = .ok (.iaload, 1) := by decide +kernel
theorem dX4_undo_46 : decode cX4_undo 46 = .ok (.ireturn, 1) := by decide +kernel
theorem dX4_tear_0 : decode cX4_tear 0 = .ok (.aload_n 0, 1) := by decide +kernel
theorem dX4_tear_1 : decode cX4_tear 1 = .ok (.getfield 330, 3) := by decide +kernel
theorem dX4_tear_4 : decode cX4_tear 4 = .ok (.ifCond .eq 7, 3) := by decide +kernel
theorem dX4_tear_7 : decode cX4_tear 7 = .ok (.iconst 1, 1) := by decide +kernel
theorem dX4_tear_8 : decode cX4_tear 8 = .ok (.goto 4, 3) := by decide +kernel
theorem dX4_tear_11 : decode cX4_tear 11 = .ok (.iconst 0, 1) := by decide +kernel
theorem dX4_tear_12 : decode cX4_tear 12 = .ok (.istore_n 1, 1) := by decide +kernel
theorem dX4_tear_13 : decode cX4_tear 13 = .ok (.aload_n 0, 1) := by decide +kernel
theorem dX4_tear_14 : decode cX4_tear 14 = .ok (.iconst 0, 1) := by decide +kernel
theorem dX4_tear_15 : decode cX4_tear 15 = .ok (.putfield 330, 3) := by decide +kernel
theorem dX4_tear_18 : decode cX4_tear 18 = .ok (.iload_n 1, 1) := by decide +kernel
theorem dX4_tear_19 : decode cX4_tear 19 = .ok (.ireturn, 1) := by decide +kernel
theorem dX4_pairs_0 : decode cX4_pairs 0 = .ok (.iconst 0, 1) := by decide +kernel
theorem dX4_pairs_1 : decode cX4_pairs 1 = .ok (.istore_n 1, 1) := by decide +kernel
theorem dX4_pairs_2 : decode cX4_pairs 2 = .ok (.iconst 0, 1) := by decide +kernel
theorem dX4_pairs_3 : decode cX4_pairs 3 = .ok (.istore_n 2, 1) := by decide +kernel
theorem dX4_pairs_4 : decode cX4_pairs 4 = .ok (.iload_n 2, 1) := by decide +kernel
theorem dX4_pairs_5 : decode cX4_pairs 5 = .ok (.aload_n 0, 1) := by decide +kernel
theorem dX4_pairs_6 : decode cX4_pairs 6 = .ok (.getfield 7, 3) := by decide +kernel
theorem dX4_pairs_9 : decode cX4_pairs 9 = .ok (.iconst 0, 1) := by decide +kernel
theorem dX4_pairs_10 : decode cX4_pairs 10 = .ok (.iaload, 1) := by decide +kernel
theorem dX4_pairs_11 : decode cX4_pairs 11 = .ok (.if_icmp .ge 21, 3) := by decide +kernel
theorem dX4_pairs_14 : decode cX4_pairs 14 = .ok (.iload_n 1, 1) := by decide +kernel
theorem dX4_pairs_15 : decode cX4_pairs 15 = .ok (.aload_n 0, 1) := by decide +kernel
theorem dX4_pairs_16 : decode cX4_pairs 16 = .ok (.iload_n 2, 1) := by decide +kernel
theorem dX4_pairs_17 : decode cX4_pairs 17 = .ok (.iconst 3, 1) := by decide +kernel
theorem dX4_pairs_18 : decode cX4_pairs 18 = .ok (.invokevirtual 64, 3) := by decide +kernel
theorem dX4_pairs_21 : decode cX4_pairs 21 = .ok (.invokestatic 185, 3) := by decide +kernel
theorem dX4_pairs_24 : decode cX4_pairs 24 = .ok (.iadd, 1) := by decide +kernel
theorem dX4_pairs_25 : decode cX4_pairs 25 = .ok (.istore_n 1, 1) := by decide +kernel
theorem dX4_pairs_26 : decode cX4_pairs 26 = .ok (.iinc 2 1, 3) := by decide +kernel
theorem dX4_pairs_29 : decode cX4_pairs 29 = .ok (.goto (-25), 3) := by decide +kernel
theorem dX4_pairs_32 : decode cX4_pairs 32 = .ok (.iload_n 1, 1) := by decide +kernel
theorem dX4_pairs_33 : decode cX4_pairs 33 = .ok (.iconst 2, 1) := by decide +kernel
theorem dX4_pairs_34 : decode cX4_pairs 34 = .ok (.idiv, 1) := by decide +kernel
theorem dX4_pairs_35 : decode cX4_pairs 35 = .ok (.ireturn, 1) := by decide +kernel
theorem dX4_count_0 : decode cX4_count 0 = .ok (.iload_n 1, 1) := by decide +kernel
theorem dX4_count_1 : decode cX4_count 1 = .ok (.tableswitch 56 0 3 #[31, 38, 43, 51], 31) := by decide +kernel
theorem dX4_count_32 : decode cX4_count 32 = .ok (.aload_n 0, 1) := by decide +kernel
theorem dX4_count_33 : decode cX4_count 33 = .ok (.getfield 7, 3) := by decide +kernel
theorem dX4_count_36 : decode cX4_count 36 = .ok (.iconst 0, 1) := by decide +kernel
theorem dX4_count_37 : decode cX4_count 37 = .ok (.iaload, 1) := by decide +kernel
theorem dX4_count_38 : decode cX4_count 38 = .ok (.ireturn, 1) := by decide +kernel
theorem dX4_count_39 : decode cX4_count 39 = .ok (.aload_n 0, 1) := by decide +kernel
theorem dX4_count_40 : decode cX4_count 40 = .ok (.getfield 206, 3) := by decide +kernel
theorem dX4_count_43 : decode cX4_count 43 = .ok (.ireturn, 1) := by decide +kernel
theorem dX4_count_44 : decode cX4_count 44 = .ok (.aload_n 0, 1) := by decide +kernel
theorem dX4_count_45 : decode cX4_count 45 = .ok (.invokevirtual 159, 3) := by decide +kernel
theorem dX4_count_48 : decode cX4_count 48 = .ok (.invokestatic 185, 3) := by decide +kernel
theorem dX4_count_51 : decode cX4_count 51 = .ok (.ireturn, 1) := by decide +kernel
theorem dX4_count_52 : decode cX4_count 52 = .ok (.aload_n 0, 1) := by decide +kernel
theorem dX4_count_53 : decode cX4_count 53 = .ok (.invokevirtual 333, 3) := by decide +kernel
theorem dX4_count_56 : decode cX4_count 56 = .ok (.ireturn, 1) := by decide +kernel
theorem dX4_count_57 : decode cX4_count 57 = .ok (.aload_n 0, 1) := by decide +kernel
theorem dX4_count_58 : decode cX4_count 58 = .ok (.ldc 48, 2) := by decide +kernel
theorem dX4_count_60 : decode cX4_count 60 = .ok (.invokevirtual 77, 3) := by decide +kernel
theorem dX4_count_63 : decode cX4_count 63 = .ok (.ireturn, 1) := by decide +kernel
theorem dX4_status_0 : decode cX4_status 0 = .ok (.iload_n 1, 1) := by decide +kernel
theorem dX4_status_1 : decode cX4_status 1 = .ok (.i2l, 1) := by decide +kernel
theorem dX4_status_2 : decode cX4_status 2 = .ok (.ldc2_w 100, 3) := by decide +kernel
theorem dX4_status_5 : decode cX4_status 5 = .ok (.ldc2_w 93, 3) := by decide +kernel
theorem dX4_status_8 : decode cX4_status 8 = .ok (.invokestatic 51, 3) := by decide +kernel
theorem dX4_status_11 : decode cX4_status 11 = .ok (.ifCond .ne 10, 3) := by decide +kernel
theorem dX4_status_14 : decode cX4_status 14 = .ok (.aload_n 0, 1) := by decide +kernel
theorem dX4_status_15 : decode cX4_status 15 = .ok (.ldc 48, 2) := by decide +kernel
theorem dX4_status_17 : decode cX4_status 17 = .ok (.invokevirtual 77, 3) := by decide +kernel
theorem dX4_status_20 : decode cX4_status 20 = .ok (.ireturn, 1) := by decide +kernel
theorem dX4_status_21 : decode cX4_status 21 = .ok (.iconst 0, 1) := by decide +kernel
theorem dX4_status_22 : decode cX4_status 22 = .ok (.istore_n 2, 1) := by decide +kernel
theorem dX4_status_23 : decode cX4_status 23 = .ok (.iconst 0, 1) := by decide +kernel
theorem dX4_status_24 : decode cX4_status 24 = .ok (.istore_n 3, 1) := by decide +kernel
theorem dX4_status_25 : decode cX4_status 25 = .ok (.iload_n 3, 1) := by decide +kernel
theorem dX4_status_26 : decode cX4_status 26 = .ok (.bipush 7, 2) := by decide +kernel
theorem dX4_status_28 : decode cX4_status 28 = .ok (.if_icmp .ge 31, 3) := by decide +kernel
theorem dX4_status_31 : decode cX4_status 31 = .ok (.iload_n 2, 1) := by decide +kernel
theorem dX4_status_32 : decode cX4_status 32 = .ok (.iload_n 1, 1) := by decide +kernel
theorem dX4_status_33 : decode cX4_status 33 = .ok (.ifCond .lt 8, 3) := by decide +kernel
theorem dX4_status_36 : decode cX4_status 36 = .ok (.iload_n 3, 1) := by decide +kernel
theorem dX4_status_37 : decode cX4_status 37 = .ok (.iload_n 1, 1) := by decide +kernel
theorem dX4_status_38 : decode cX4_status 38 = .ok (.if_icmp .ne 12, 3) := by decide +kernel
theorem dX4_status_41 : decode cX4_status 41 = .ok (.aload_n 0, 1) := by decide +kernel
theorem dX4_status_42 : decode cX4_status 42 = .ok (.getfield 22, 3) := by decide +kernel
theorem dX4_status_45 : decode cX4_status 45 = .ok (.iload_n 3, 1) := by decide +kernel
theorem dX4_status_46 : decode cX4_status 46 = .ok (.iaload, 1) := by decide +kernel
theorem dX4_status_47 : decode cX4_status 47 = .ok (.goto 4, 3) := by decide +kernel
theorem dX4_status_50 : decode cX4_status 50 = .ok (.iconst 0, 1) := by decide +kernel
theorem dX4_status_51 : decode cX4_status 51 = .ok (.iadd, 1) := by decide +kernel
theorem dX4_status_52 : decode cX4_status 52 = .ok (.istore_n 2, 1) := by decide +kernel
theorem dX4_status_53 : decode cX4_status 53 = .ok (.iinc 3 1, 3) := by decide +kernel
theorem dX4_status_56 : decode cX4_status 56 = .ok (.goto (-31), 3) := by decide +kernel
theorem dX4_status_59 : decode cX4_status 59 = .ok (.iload_n 2, 1) := by decide +kernel
theorem dX4_status_60 : decode cX4_status 60 = .ok (.ireturn, 1) := by decide +kernel
end
section
theorem wr_app {a b : List Cond} (h : ∀ w ∈ a, goodWord w = true) (h2 : ∀ w ∈ b, goodWord w = true) : ∀ w ∈ a ++ b, goodWord w = true := fun w hw => (List.mem_append.mp hw).elim (h w) (h2 w)
def WT : List Cond := wsL_law ++ wsJ00
theorem wg_1 : ∀ w ∈ wsL_law_r1, goodWord w = true := List.all_eq_true.mp (by decide +kernel)
theorem wg_2 : ∀ w ∈ wsL_law_r2, goodWord w = true := List.all_eq_true.mp (by decide +kernel)
theorem wg_3 : ∀ w ∈ wsL_law_r3, goodWord w = true := List.all_eq_true.mp (by decide +kernel)
theorem wg_4 : ∀ w ∈ wsL_law_r4, goodWord w = true := List.all_eq_true.mp (by decide +kernel)
theorem wg_5 : ∀ w ∈ wsL_law_r5, goodWord w = true := List.all_eq_true.mp (by decide +kernel)
theorem wg_6 : ∀ w ∈ wsL_law_r6, goodWord w = true := List.all_eq_true.mp (by decide +kernel)
theorem wg_7 : ∀ w ∈ wsL_law_r7, goodWord w = true := List.all_eq_true.mp (by decide +kernel)
theorem wg_8 : ∀ w ∈ wsL_law_r8, goodWord w = true := List.all_eq_true.mp (by decide +kernel)
theorem wg_9 : ∀ w ∈ wsL_law_r9, goodWord w = true := List.all_eq_true.mp (by decide +kernel)
theorem wg_10 : ∀ w ∈ wsL_law_r10, goodWord w = true := List.all_eq_true.mp (by decide +kernel)
theorem wg_11 : ∀ w ∈ wsL_law_r11, goodWord w = true := List.all_eq_true.mp (by decide +kernel)
theorem wg_12 : ∀ w ∈ wsL_law_r12, goodWord w = true := List.all_eq_true.mp (by decide +kernel)
theorem wg_13 : ∀ w ∈ wsL_law_r13, goodWord w = true := List.all_eq_true.mp (by decide +kernel)
theorem wg_14 : ∀ w ∈ wsL_law_r14, goodWord w = true := List.all_eq_true.mp (by decide +kernel)
theorem wg_15 : ∀ w ∈ wsL_law_r15, goodWord w = true := List.all_eq_true.mp (by decide +kernel)
theorem wg_16 : ∀ w ∈ wsL_law_r16, goodWord w = true := List.all_eq_true.mp (by decide +kernel)
theorem wg_17 : ∀ w ∈ wsL_law_r17, goodWord w = true := List.all_eq_true.mp (by decide +kernel)
theorem wg_18 : ∀ w ∈ wsL_law_r18, goodWord w = true := List.all_eq_true.mp (by decide +kernel)
theorem wg_19 : ∀ w ∈ wsL_law_r19, goodWord w = true := List.all_eq_true.mp (by decide +kernel)
theorem wg_20 : ∀ w ∈ wsL_law_r20, goodWord w = true := List.all_eq_true.mp (by decide +kernel)
theorem wg_21 : ∀ w ∈ wsL_law_r21, goodWord w = true := List.all_eq_true.mp (by decide +kernel)
theorem wg_22 : ∀ w ∈ wsL_law_r22, goodWord w = true := List.all_eq_true.mp (by decide +kernel)
theorem wg_23 : ∀ w ∈ wsL_law_r23, goodWord w = true := List.all_eq_true.mp (by decide +kernel)
theorem wg_24 : ∀ w ∈ wsL_law_r24, goodWord w = true := List.all_eq_true.mp (by decide +kernel)
theorem wg_25 : ∀ w ∈ wsL_law_r25, goodWord w = true := List.all_eq_true.mp (by decide +kernel)
theorem wg_26 : ∀ w ∈ wsL_law_r26, goodWord w = true := List.all_eq_true.mp (by decide +kernel)
theorem wg_27 : ∀ w ∈ wsL_law_r27, goodWord w = true := List.all_eq_true.mp (by decide +kernel)
theorem wg_28 : ∀ w ∈ wsL_law_r28, goodWord w = true := List.all_eq_true.mp (by decide +kernel)
theorem wg_29 : ∀ w ∈ wsL_law_r29, goodWord w = true := List.all_eq_true.mp (by decide +kernel)
theorem wg_30 : ∀ w ∈ wsL_law_r30, goodWord w = true := List.all_eq_true.mp (by decide +kernel)
theorem wg_31 : ∀ w ∈ wsL_law_r31, goodWord w = true := List.all_eq_true.mp (by decide +kernel)
theorem wg_32 : ∀ w ∈ wsL_law_r32, goodWord w = true := List.all_eq_true.mp (by decide +kernel)
theorem wg_33 : ∀ w ∈ wsL_law_r33, goodWord w = true := List.all_eq_true.mp (by decide +kernel)
theorem wg_34 : ∀ w ∈ wsL_law_r34, goodWord w = true := List.all_eq_true.mp (by decide +kernel)
theorem wg_35 : ∀ w ∈ wsL_law_r35, goodWord w = true := List.all_eq_true.mp (by decide +kernel)
theorem wg_36 : ∀ w ∈ wsL_law_r36, goodWord w = true := List.all_eq_true.mp (by decide +kernel)
theorem wg_37 : ∀ w ∈ wsL_law_r37, goodWord w = true := List.all_eq_true.mp (by decide +kernel)
theorem wg_38 : ∀ w ∈ wsL_law_r38, goodWord w = true := List.all_eq_true.mp (by decide +kernel)
theorem wg_39 : ∀ w ∈ wsL_law_r39, goodWord w = true := List.all_eq_true.mp (by decide +kernel)
theorem wg_40 : ∀ w ∈ wsL_law_r40, goodWord w = true := List.all_eq_true.mp (by decide +kernel)
theorem wg_X3 : ∀ w ∈ wsX30, goodWord w = true := List.all_eq_true.mp (by decide +kernel)
theorem wg_X4 : ∀ w ∈ wsX40, goodWord w = true := List.all_eq_true.mp (by decide +kernel)
theorem wg_X0 : ∀ w ∈ wsX00, goodWord w = true := List.all_eq_true.mp (by decide +kernel)
theorem wg_X2 : ∀ w ∈ wsX20, goodWord w = true := List.all_eq_true.mp (by decide +kernel)
theorem wg_X1 : ∀ w ∈ wsX10, goodWord w = true := List.all_eq_true.mp (by decide +kernel)
theorem wg_J0 : ∀ w ∈ wsJ00, goodWord w = true := List.all_eq_true.mp (by decide +kernel)
theorem WT_good : ∀ w ∈ WT, goodWord w = true := wr_app (wr_app (wr_app (wr_app (wr_app (wr_app (wr_app (wr_app wg_1 (wr_app wg_2 (wr_app wg_3 (wr_app wg_4 (wr_app wg_5 (wr_app wg_6 (wr_app wg_7 (wr_app wg_8 (wr_app wg_9 (wr_app wg_10 (wr_app wg_11 (wr_app wg_12 (wr_app wg_13 (wr_app wg_14 (wr_app wg_15 (wr_app wg_16 (wr_app wg_17 (wr_app wg_18 (wr_app wg_19 (wr_app wg_20 (wr_app wg_21 (wr_app wg_22 (wr_app wg_23 (wr_app wg_24 (wr_app wg_25 (wr_app wg_26 (wr_app wg_27 (wr_app wg_28 (wr_app wg_29 (wr_app wg_30 (wr_app wg_31 (wr_app wg_32 (wr_app wg_33 (wr_app wg_34 (wr_app wg_35 (wr_app wg_36 (wr_app wg_37 (wr_app wg_38 (wr_app wg_39 wg_40))))))))))))))))))))))))))))))))))))))) wg_X3) wg_X4) wg_X0) wg_X2) wg_X1) (fun _ h => absurd h List.not_mem_nil)) wg_J0
theorem wm_law : ∀ w ∈ wsL_law, w ∈ WT := fun _ h => List.mem_append_left _ h
theorem wm_J0 : ∀ w ∈ wsJ00, w ∈ WT := fun _ h => List.mem_append_right _ h
theorem wm_r {w : Cond} (h : w ∈ (wsL_law_r1 ++ (wsL_law_r2 ++ (wsL_law_r3 ++ (wsL_law_r4 ++ (wsL_law_r5 ++ (wsL_law_r6 ++ (wsL_law_r7 ++ (wsL_law_r8 ++ (wsL_law_r9 ++ (wsL_law_r10 ++ (wsL_law_r11 ++ (wsL_law_r12 ++ (wsL_law_r13 ++ (wsL_law_r14 ++ (wsL_law_r15 ++ (wsL_law_r16 ++ (wsL_law_r17 ++ (wsL_law_r18 ++ (wsL_law_r19 ++ (wsL_law_r20 ++ (wsL_law_r21 ++ (wsL_law_r22 ++ (wsL_law_r23 ++ (wsL_law_r24 ++ (wsL_law_r25 ++ (wsL_law_r26 ++ (wsL_law_r27 ++ (wsL_law_r28 ++ (wsL_law_r29 ++ (wsL_law_r30 ++ (wsL_law_r31 ++ (wsL_law_r32 ++ (wsL_law_r33 ++ (wsL_law_r34 ++ (wsL_law_r35 ++ (wsL_law_r36 ++ (wsL_law_r37 ++ (wsL_law_r38 ++ (wsL_law_r39 ++ (wsL_law_r40))))))))))))))))))))))))))))))))))))))))) : w ∈ WT := wm_law _ (List.mem_append_left _ (List.mem_append_left _ (List.mem_append_left _ (List.mem_append_left _ (List.mem_append_left _ (List.mem_append_left _ h))))))
theorem wm_1 : ∀ w ∈ wsL_law_r1, w ∈ WT := fun _ h => wm_r (List.mem_append_left _ h)
theorem wm_2 : ∀ w ∈ wsL_law_r2, w ∈ WT := fun _ h => wm_r (List.mem_append_right _ (List.mem_append_left _ h))
theorem wm_3 : ∀ w ∈ wsL_law_r3, w ∈ WT := fun _ h => wm_r (List.mem_append_right _ (List.mem_append_right _ (List.mem_append_left _ h)))
theorem wm_4 : ∀ w ∈ wsL_law_r4, w ∈ WT := fun _ h => wm_r (List.mem_append_right _ (List.mem_append_right _ (List.mem_append_right _ (List.mem_append_left _ h))))
theorem wm_5 : ∀ w ∈ wsL_law_r5, w ∈ WT := fun _ h => wm_r (List.mem_append_right _ (List.mem_append_right _ (List.mem_append_right _ (List.mem_append_right _ (List.mem_append_left _ h)))))
theorem wm_6 : ∀ w ∈ wsL_law_r6, w ∈ WT := fun _ h => wm_r (List.mem_append_right _ (List.mem_append_right _ (List.mem_append_right _ (List.mem_append_right _ (List.mem_append_right _ (List.mem_append_left _ h))))))
theorem wm_7 : ∀ w ∈ wsL_law_r7, w ∈ WT := fun _ h => wm_r (List.mem_append_right _ (List.mem_append_right _ (List.mem_append_right _ (List.mem_append_right _ (List.mem_append_right _ (List.mem_append_right _ (List.mem_append_left _ h)))))))
theorem wm_8 : ∀ w ∈ wsL_law_r8, w ∈ WT := fun _ h => wm_r (List.mem_append_right _ (List.mem_append_right _ (List.mem_append_right _ (List.mem_append_right _ (List.mem_append_right _ (List.mem_append_right _ (List.mem_append_right _ (List.mem_append_left _ h))))))))
theorem wm_9 : ∀ w ∈ wsL_law_r9, w ∈ WT := fun _ h => wm_r (List.mem_append_right _ (List.mem_append_right _ (List.mem_append_right _ (List.mem_append_right _ (List.mem_append_right _ (List.mem_append_right _ (List.mem_append_right _ (List.mem_append_right _ (List.mem_append_left _ h)))))))))
theorem wm_10 : ∀ w ∈ wsL_law_r10, w ∈ WT := fun _ h => wm_r (List.mem_append_right _ (List.mem_append_right _ (List.mem_append_right _ (List.mem_append_right _ (List.mem_append_right _ (List.mem_append_right _ (List.mem_append_right _ (List.mem_append_right _ (List.mem_append_right _ (List.mem_append_left _ h))))))))))
theorem wm_11 : ∀ w ∈ wsL_law_r11, w ∈ WT := fun _ h => wm_r (List.mem_append_right _ (List.mem_append_right _ (List.mem_append_right _ (List.mem_append_right _ (List.mem_append_right _ (List.mem_append_right _ (List.mem_append_right _ (List.mem_append_right _ (List.mem_append_right _ (List.mem_append_right _ (List.mem_append_left _ h)))))))))))
theorem wm_12 : ∀ w ∈ wsL_law_r12, w ∈ WT := fun _ h => wm_r (List.mem_append_right _ (List.mem_append_right _ (List.mem_append_right _ (List.mem_append_right _ (List.mem_append_right _ (List.mem_append_right _ (List.mem_append_right _ (List.mem_append_right _ (List.mem_append_right _ (List.mem_append_right _ (List.mem_append_right _ (List.mem_append_left _ h))))))))))))
theorem wm_13 : ∀ w ∈ wsL_law_r13, w ∈ WT := fun _ h => wm_r (List.mem_append_right _ (List.mem_append_right _ (List.mem_append_right _ (List.mem_append_right _ (List.mem_append_right _ (List.mem_append_right _ (List.mem_append_right _ (List.mem_append_right _ (List.mem_append_right _ (List.mem_append_right _ (List.mem_append_right _ (List.mem_append_right _ (List.mem_append_left _ h)))))))))))))
theorem wm_14 : ∀ w ∈ wsL_law_r14, w ∈ WT := fun _ h => wm_r (List.mem_append_right _ (List.mem_append_right _ (List.mem_append_right _ (List.mem_append_right _ (List.mem_append_right _ (List.mem_append_right _ (List.mem_append_right _ (List.mem_append_right _ (List.mem_append_right _ (List.mem_append_right _ (List.mem_append_right _ (List.mem_append_right _ (List.mem_append_right _ (List.mem_append_left _ h))))))))))))))
theorem wm_15 : ∀ w ∈ wsL_law_r15, w ∈ WT := fun _ h => wm_r (List.mem_append_right _ (List.mem_append_right _ (List.mem_append_right _ (List.mem_append_right _ (List.mem_append_right _ (List.mem_append_right _ (List.mem_append_right _ (List.mem_append_right _ (List.mem_append_right _ (List.mem_append_right _ (List.mem_append_right _ (List.mem_append_right _ (List.mem_append_right _ (List.mem_append_right _ (List.mem_append_left _ h)))))))))))))))
theorem wm_16 : ∀ w ∈ wsL_law_r16, w ∈ WT := fun _ h => wm_r (List.mem_append_right _ (List.mem_append_right _ (List.mem_append_right _ (List.mem_append_right _ (List.mem_append_right _ (List.mem_append_right _ (List.mem_append_right _ (List.mem_append_right _ (List.mem_append_right _ (List.mem_append_right _ (List.mem_append_right _ (List.mem_append_right _ (List.mem_append_right _ (List.mem_append_right _ (List.mem_append_right _ (List.mem_append_left _ h))))))))))))))))
theorem wm_17 : ∀ w ∈ wsL_law_r17, w ∈ WT := fun _ h => wm_r (List.mem_append_right _ (List.mem_append_right _ (List.mem_append_right _ (List.mem_append_right _ (List.mem_append_right _ (List.mem_append_right _ (List.mem_append_right _ (List.mem_append_right _ (List.mem_append_right _ (List.mem_append_right _ (List.mem_append_right _ (List.mem_append_right _ (List.mem_append_right _ (List.mem_append_right _ (List.mem_append_right _ (List.mem_append_right _ (List.mem_append_left _ h)))))))))))))))))
theorem wm_18 : ∀ w ∈ wsL_law_r18, w ∈ WT := fun _ h => wm_r (List.mem_append_right _ (List.mem_append_right _ (List.mem_append_right _ (List.mem_append_right _ (List.mem_append_right _ (List.mem_append_right _ (List.mem_append_right _ (List.mem_append_right _ (List.mem_append_right _ (List.mem_append_right _ (List.mem_append_right _ (List.mem_append_right _ (List.mem_append_right _ (List.mem_append_right _ (List.mem_append_right _ (List.mem_append_right _ (List.mem_append_right _ (List.mem_append_left _ h))))))))))))))))))
theorem wm_19 : ∀ w ∈ wsL_law_r19, w ∈ WT := fun _ h => wm_r (List.mem_append_right _ (List.mem_append_right _ (List.mem_append_right _ (List.mem_append_right _ (List.mem_append_right _ (List.mem_append_right _ (List.mem_append_right _ (List.mem_append_right _ (List.mem_append_right _ (List.mem_append_right _ (List.mem_append_right _ (List.mem_append_right _ (List.mem_append_right _ (List.mem_append_right _ (List.mem_append_right _ (List.mem_append_right _ (List.mem_append_right _ (List.mem_append_right _ (List.mem_append_left _ h)))))))))))))))))))
theorem wm_20 : ∀ w ∈ wsL_law_r20, w ∈ WT := fun _ h => wm_r (List.mem_append_right _ (List.mem_append_right _ (List.mem_append_right _ (List.mem_append_right _ (List.mem_append_right _ (List.mem_append_right _ (List.mem_append_right _ (List.mem_append_right _ (List.mem_append_right _ (List.mem_append_right _ (List.mem_append_right _ (List.mem_append_right _ (List.mem_append_right _ (List.mem_append_right _ (List.mem_append_right _ (List.mem_append_right _ (List.mem_append_right _ (List.mem_append_right _ (List.mem_append_right _ (List.mem_append_left _ h))))))))))))))))))))
theorem wm_21 : ∀ w ∈ wsL_law_r21, w ∈ WT := fun _ h => wm_r (List.mem_append_right _ (List.mem_append_right _ (List.mem_append_right _ (List.mem_append_right _ (List.mem_append_right _ (List.mem_append_right _ (List.mem_append_right _ (List.mem_append_right _ (List.mem_append_right _ (List.mem_append_right _ (List.mem_append_right _ (List.mem_append_right _ (List.mem_append_right _ (List.mem_append_right _ (List.mem_append_right _ (List.mem_append_right _ (List.mem_append_right _ (List.mem_append_right _ (List.mem_append_right _ (List.mem_append_right _ (List.mem_append_left _ h)))))))))))))))))))))
theorem wm_22 : ∀ w ∈ wsL_law_r22, w ∈ WT := fun _ h => wm_r (List.mem_append_right _ (List.mem_append_right _ (List.mem_append_right _ (List.mem_append_right _ (List.mem_append_right _ (List.mem_append_right _ (List.mem_append_right _ (List.mem_append_right _ (List.mem_append_right _ (List.mem_append_right _ (List.mem_append_right _ (List.mem_append_right _ (List.mem_append_right _ (List.mem_append_right _ (List.mem_append_right _ (List.mem_append_right _ (List.mem_append_right _ (List.mem_append_right _ (List.mem_append_right _ (List.mem_append_right _ (List.mem_append_right _ (List.mem_append_left _ h))))))))))))))))))))))
theorem wm_23 : ∀ w ∈ wsL_law_r23, w ∈ WT := fun _ h => wm_r (List.mem_append_right _ (List.mem_append_right _ (List.mem_append_right _ (List.mem_append_right _ (List.mem_append_right _ (List.mem_append_right _ (List.mem_append_right _ (List.mem_append_right _ (List.mem_append_right _ (List.mem_append_right _ (List.mem_append_right _ (List.mem_append_right _ (List.mem_append_right _ (List.mem_append_right _ (List.mem_append_right _ (List.mem_append_right _ (List.mem_append_right _ (List.mem_append_right _ (List.mem_append_right _ (List.mem_append_right _ (List.mem_append_right _ (List.mem_append_right _ (List.mem_append_left _ h)))))))))))))))))))))))
theorem wm_24 : ∀ w ∈ wsL_law_r24, w ∈ WT := fun _ h => wm_r (List.mem_append_right _ (List.mem_append_right _ (List.mem_append_right _ (List.mem_append_right _ (List.mem_append_right _ (List.mem_append_right _ (List.mem_append_right _ (List.mem_append_right _ (List.mem_append_right _ (List.mem_append_right _ (List.mem_append_right _ (List.mem_append_right _ (List.mem_append_right _ (List.mem_append_right _ (List.mem_append_right _ (List.mem_append_right _ (List.mem_append_right _ (List.mem_append_right _ (List.mem_append_right _ (List.mem_append_right _ (List.mem_append_right _ (List.mem_append_right _ (List.mem_append_right _ (List.mem_append_left _ h))))))))))))))))))))))))
theorem wm_25 : ∀ w ∈ wsL_law_r25, w ∈ WT := fun _ h => wm_r (List.mem_append_right _ (List.mem_append_right _ (List.mem_append_right _ (List.mem_append_right _ (List.mem_append_right _ (List.mem_append_right _ (List.mem_append_right _ (List.mem_append_right _ (List.mem_append_right _ (List.mem_append_right _ (List.mem_append_right _ (List.mem_append_right _ (List.mem_append_right _ (List.mem_append_right _ (List.mem_append_right _ (List.mem_append_right _ (List.mem_append_right _ (List.mem_append_right _ (List.mem_append_right _ (List.mem_append_right _ (List.mem_append_right _ (List.mem_append_right _ (List.mem_append_right _ (List.mem_append_right _ (List.mem_append_left _ h)))))))))))))))))))))))))
theorem wm_26 : ∀ w ∈ wsL_law_r26, w ∈ WT := fun _ h => wm_r (List.mem_append_right _ (List.mem_append_right _ (List.mem_append_right _ (List.mem_append_right _ (List.mem_append_right _ (List.mem_append_right _ (List.mem_append_right _ (List.mem_append_right _ (List.mem_append_right _ (List.mem_append_right _ (List.mem_append_right _ (List.mem_append_right _ (List.mem_append_right _ (List.mem_append_right _ (List.mem_append_right _ (List.mem_append_right _ (List.mem_append_right _ (List.mem_append_right _ (List.mem_append_right _ (List.mem_append_right _ (List.mem_append_right _ (List.mem_append_right _ (List.mem_append_right _ (List.mem_append_right _ (List.mem_append_right _ (List.mem_append_left _ h))))))))))))))))))))))))))
theorem wm_27 : ∀ w ∈ wsL_law_r27, w ∈ WT := fun _ h => wm_r (List.mem_append_right _ (List.mem_append_right _ (List.mem_append_right _ (List.mem_append_right _ (List.mem_append_right _ (List.mem_append_right _ (List.mem_append_right _ (List.mem_append_right _ (List.mem_append_right _ (List.mem_append_right _ (List.mem_append_right _ (List.mem_append_right _ (List.mem_append_right _ (List.mem_append_right _ (List.mem_append_right _ (List.mem_append_right _ (List.mem_append_right _ (List.mem_append_right _ (List.mem_append_right _ (List.mem_append_right _ (List.mem_append_right _ (List.mem_append_right _ (List.mem_append_right _ (List.mem_append_right _ (List.mem_append_right _ (List.mem_append_right _ (List.mem_append_left _ h)))))))))))))))))))))))))))
theorem wm_28 : ∀ w ∈ wsL_law_r28, w ∈ WT := fun _ h => wm_r (List.mem_append_right _ (List.mem_append_right _ (List.mem_append_right _ (List.mem_append_right _ (List.mem_append_right _ (List.mem_append_right _ (List.mem_append_right _ (List.mem_append_right _ (List.mem_append_right _ (List.mem_append_right _ (List.mem_append_right _ (List.mem_append_right _ (List.mem_append_right _ (List.mem_append_right _ (List.mem_append_right _ (List.mem_append_right _ (List.mem_append_right _ (List.mem_append_right _ (List.mem_append_right _ (List.mem_append_right _ (List.mem_append_right _ (List.mem_append_right _ (List.mem_append_right _ (List.mem_append_right _ (List.mem_append_right _ (List.mem_append_right _ (List.mem_append_right _ (List.mem_append_left _ h))))))))))))))))))))))))))))
theorem wm_29 : ∀ w ∈ wsL_law_r29, w ∈ WT := fun _ h => wm_r (List.mem_append_right _ (List.mem_append_right _ (List.mem_append_right _ (List.mem_append_right _ (List.mem_append_right _ (List.mem_append_right _ (List.mem_append_right _ (List.mem_append_right _ (List.mem_append_right _ (List.mem_append_right _ (List.mem_append_right _ (List.mem_append_right _ (List.mem_append_right _ (List.mem_append_right _ (List.mem_append_right _ (List.mem_append_right _ (List.mem_append_right _ (List.mem_append_right _ (List.mem_append_right _ (List.mem_append_right _ (List.mem_append_right _ (List.mem_append_right _ (List.mem_append_right _ (List.mem_append_right _ (List.mem_append_right _ (List.mem_append_right _ (List.mem_append_right _ (List.mem_append_right _ (List.mem_append_left _ h)))))))))))))))))))))))))))))
theorem wm_30 : ∀ w ∈ wsL_law_r30, w ∈ WT := fun _ h => wm_r (List.mem_append_right _ (List.mem_append_right _ (List.mem_append_right _ (List.mem_append_right _ (List.mem_append_right _ (List.mem_append_right _ (List.mem_append_right _ (List.mem_append_right _ (List.mem_append_right _ (List.mem_append_right _ (List.mem_append_right _ (List.mem_append_right _ (List.mem_append_right _ (List.mem_append_right _ (List.mem_append_right _ (List.mem_append_right _ (List.mem_append_right _ (List.mem_append_right _ (List.mem_append_right _ (List.mem_append_right _ (List.mem_append_right _ (List.mem_append_right _ (List.mem_append_right _ (List.mem_append_right _ (List.mem_append_right _ (List.mem_append_right _ (List.mem_append_right _ (List.mem_append_right _ (List.mem_append_right _ (List.mem_append_left _ h))))))))))))))))))))))))))))))
theorem wm_31 : ∀ w ∈ wsL_law_r31, w ∈ WT := fun _ h => wm_r (List.mem_append_right _ (List.mem_append_right _ (List.mem_append_right _ (List.mem_append_right _ (List.mem_append_right _ (List.mem_append_right _ (List.mem_append_right _ (List.mem_append_right _ (List.mem_append_right _ (List.mem_append_right _ (List.mem_append_right _ (List.mem_append_right _ (List.mem_append_right _ (List.mem_append_right _ (List.mem_append_right _ (List.mem_append_right _ (List.mem_append_right _ (List.mem_append_right _ (List.mem_append_right _ (List.mem_append_right _ (List.mem_append_right _ (List.mem_append_right _ (List.mem_append_right _ (List.mem_append_right _ (List.mem_append_right _ (List.mem_append_right _ (List.mem_append_right _ (List.mem_append_right _ (List.mem_append_right _ (List.mem_append_right _ (List.mem_append_left _ h)))))))))))))))))))))))))))))))
theorem wm_32 : ∀ w ∈ wsL_law_r32, w ∈ WT := fun _ h => wm_r (List.mem_append_right _ (List.mem_append_right _ (List.mem_append_right _ (List.mem_append_right _ (List.mem_append_right _ (List.mem_append_right _ (List.mem_append_right _ (List.mem_append_right _ (List.mem_append_right _ (List.mem_append_right _ (List.mem_append_right _ (List.mem_append_right _ (List.mem_append_right _ (List.mem_append_right _ (List.mem_append_right _ (List.mem_append_right _ (List.mem_append_right _ (List.mem_append_right _ (List.mem_append_right _ (List.mem_append_right _ (List.mem_append_right _ (List.mem_append_right _ (List.mem_append_right _ (List.mem_append_right _ (List.mem_append_right _ (List.mem_append_right _ (List.mem_append_right _ (List.mem_append_right _ (List.mem_append_right _ (List.mem_append_right _ (List.mem_append_right _ (List.mem_append_left _ h))))))))))))))))))))))))))))))))
theorem wm_33 : ∀ w ∈ wsL_law_r33, w ∈ WT := fun _ h => wm_r (List.mem_append_right _ (List.mem_append_right _ (List.mem_append_right _ (List.mem_append_right _ (List.mem_append_right _ (List.mem_append_right _ (List.mem_append_right _ (List.mem_append_right _ (List.mem_append_right _ (List.mem_append_right _ (List.mem_append_right _ (List.mem_append_right _ (List.mem_append_right _ (List.mem_append_right _ (List.mem_append_right _ (List.mem_append_right _ (List.mem_append_right _ (List.mem_append_right _ (List.mem_append_right _ (List.mem_append_right _ (List.mem_append_right _ (List.mem_append_right _ (List.mem_append_right _ (List.mem_append_right _ (List.mem_append_right _ (List.mem_append_right _ (List.mem_append_right _ (List.mem_append_right _ (List.mem_append_right _ (List.mem_append_right _ (List.mem_append_right _ (List.mem_append_right _ (List.mem_append_left _ h)))))))))))))))))))))))))))))))))
theorem wm_34 : ∀ w ∈ wsL_law_r34, w ∈ WT := fun _ h => wm_r (List.mem_append_right _ (List.mem_append_right _ (List.mem_append_right _ (List.mem_append_right _ (List.mem_append_right _ (List.mem_append_right _ (List.mem_append_right _ (List.mem_append_right _ (List.mem_append_right _ (List.mem_append_right _ (List.mem_append_right _ (List.mem_append_right _ (List.mem_append_right _ (List.mem_append_right _ (List.mem_append_right _ (List.mem_append_right _ (List.mem_append_right _ (List.mem_append_right _ (List.mem_append_right _ (List.mem_append_right _ (List.mem_append_right _ (List.mem_append_right _ (List.mem_append_right _ (List.mem_append_right _ (List.mem_append_right _ (List.mem_append_right _ (List.mem_append_right _ (List.mem_append_right _ (List.mem_append_right _ (List.mem_append_right _ (List.mem_append_right _ (List.mem_append_right _ (List.mem_append_right _ (List.mem_append_left _ h))))))))))))))))))))))))))))))))))
theorem wm_35 : ∀ w ∈ wsL_law_r35, w ∈ WT := fun _ h => wm_r (List.mem_append_right _ (List.mem_append_right _ (List.mem_append_right _ (List.mem_append_right _ (List.mem_append_right _ (List.mem_append_right _ (List.mem_append_right _ (List.mem_append_right _ (List.mem_append_right _ (List.mem_append_right _ (List.mem_append_right _ (List.mem_append_right _ (List.mem_append_right _ (List.mem_append_right _ (List.mem_append_right _ (List.mem_append_right _ (List.mem_append_right _ (List.mem_append_right _ (List.mem_append_right _ (List.mem_append_right _ (List.mem_append_right _ (List.mem_append_right _ (List.mem_append_right _ (List.mem_append_right _ (List.mem_append_right _ (List.mem_append_right _ (List.mem_append_right _ (List.mem_append_right _ (List.mem_append_right _ (List.mem_append_right _ (List.mem_append_right _ (List.mem_append_right _ (List.mem_append_right _ (List.mem_append_right _ (List.mem_append_left _ h)))))))))))))))))))))))))))))))))))
theorem wm_36 : ∀ w ∈ wsL_law_r36, w ∈ WT := fun _ h => wm_r (List.mem_append_right _ (List.mem_append_right _ (List.mem_append_right _ (List.mem_append_right _ (List.mem_append_right _ (List.mem_append_right _ (List.mem_append_right _ (List.mem_append_right _ (List.mem_append_right _ (List.mem_append_right _ (List.mem_append_right _ (List.mem_append_right _ (List.mem_append_right _ (List.mem_append_right _ (List.mem_append_right _ (List.mem_append_right _ (List.mem_append_right _ (List.mem_append_right _ (List.mem_append_right _ (List.mem_append_right _ (List.mem_append_right _ (List.mem_append_right _ (List.mem_append_right _ (List.mem_append_right _ (List.mem_append_right _ (List.mem_append_right _ (List.mem_append_right _ (List.mem_append_right _ (List.mem_append_right _ (List.mem_append_right _ (List.mem_append_right _ (List.mem_append_right _ (List.mem_append_right _ (List.mem_append_right _ (List.mem_append_right _ (List.mem_append_left _ h))))))))))))))))))))))))))))))))))))
theorem wm_37 : ∀ w ∈ wsL_law_r37, w ∈ WT := fun _ h => wm_r (List.mem_append_right _ (List.mem_append_right _ (List.mem_append_right _ (List.mem_append_right _ (List.mem_append_right _ (List.mem_append_right _ (List.mem_append_right _ (List.mem_append_right _ (List.mem_append_right _ (List.mem_append_right _ (List.mem_append_right _ (List.mem_append_right _ (List.mem_append_right _ (List.mem_append_right _ (List.mem_append_right _ (List.mem_append_right _ (List.mem_append_right _ (List.mem_append_right _ (List.mem_append_right _ (List.mem_append_right _ (List.mem_append_right _ (List.mem_append_right _ (List.mem_append_right _ (List.mem_append_right _ (List.mem_append_right _ (List.mem_append_right _ (List.mem_append_right _ (List.mem_append_right _ (List.mem_append_right _ (List.mem_append_right _ (List.mem_append_right _ (List.mem_append_right _ (List.mem_append_right _ (List.mem_append_right _ (List.mem_append_right _ (List.mem_append_right _ (List.mem_append_left _ h)))))))))))))))))))))))))))))))))))))
theorem wm_38 : ∀ w ∈ wsL_law_r38, w ∈ WT := fun _ h => wm_r (List.mem_append_right _ (List.mem_append_right _ (List.mem_append_right _ (List.mem_append_right _ (List.mem_append_right _ (List.mem_append_right _ (List.mem_append_right _ (List.mem_append_right _ (List.mem_append_right _ (List.mem_append_right _ (List.mem_append_right _ (List.mem_append_right _ (List.mem_append_right _ (List.mem_append_right _ (List.mem_append_right _ (List.mem_append_right _ (List.mem_append_right _ (List.mem_append_right _ (List.mem_append_right _ (List.mem_append_right _ (List.mem_append_right _ (List.mem_append_right _ (List.mem_append_right _ (List.mem_append_right _ (List.mem_append_right _ (List.mem_append_right _ (List.mem_append_right _ (List.mem_append_right _ (List.mem_append_right _ (List.mem_append_right _ (List.mem_append_right _ (List.mem_append_right _ (List.mem_append_right _ (List.mem_append_right _ (List.mem_append_right _ (List.mem_append_right _ (List.mem_append_right _ (List.mem_append_left _ h))))))))))))))))))))))))))))))))))))))
theorem wm_39 : ∀ w ∈ wsL_law_r39, w ∈ WT := fun _ h => wm_r (List.mem_append_right _ (List.mem_append_right _ (List.mem_append_right _ (List.mem_append_right _ (List.mem_append_right _ (List.mem_append_right _ (List.mem_append_right _ (List.mem_append_right _ (List.mem_append_right _ (List.mem_append_right _ (List.mem_append_right _ (List.mem_append_right _ (List.mem_append_right _ (List.mem_append_right _ (List.mem_append_right _ (List.mem_append_right _ (List.mem_append_right _ (List.mem_append_right _ (List.mem_append_right _ (List.mem_append_right _ (List.mem_append_right _ (List.mem_append_right _ (List.mem_append_right _ (List.mem_append_right _ (List.mem_append_right _ (List.mem_append_right _ (List.mem_append_right _ (List.mem_append_right _ (List.mem_append_right _ (List.mem_append_right _ (List.mem_append_right _ (List.mem_append_right _ (List.mem_append_right _ (List.mem_append_right _ (List.mem_append_right _ (List.mem_append_right _ (List.mem_append_right _ (List.mem_append_right _ (List.mem_append_left _ h)))))))))))))))))))))))))))))))))))))))
theorem wm_40 : ∀ w ∈ wsL_law_r40, w ∈ WT := fun _ h => wm_r (List.mem_append_right _ (List.mem_append_right _ (List.mem_append_right _ (List.mem_append_right _ (List.mem_append_right _ (List.mem_append_right _ (List.mem_append_right _ (List.mem_append_right _ (List.mem_append_right _ (List.mem_append_right _ (List.mem_append_right _ (List.mem_append_right _ (List.mem_append_right _ (List.mem_append_right _ (List.mem_append_right _ (List.mem_append_right _ (List.mem_append_right _ (List.mem_append_right _ (List.mem_append_right _ (List.mem_append_right _ (List.mem_append_right _ (List.mem_append_right _ (List.mem_append_right _ (List.mem_append_right _ (List.mem_append_right _ (List.mem_append_right _ (List.mem_append_right _ (List.mem_append_right _ (List.mem_append_right _ (List.mem_append_right _ (List.mem_append_right _ (List.mem_append_right _ (List.mem_append_right _ (List.mem_append_right _ (List.mem_append_right _ (List.mem_append_right _ (List.mem_append_right _ (List.mem_append_right _ (List.mem_append_right _ (h))))))))))))))))))))))))))))))))))))))))
theorem wm_X0 : ∀ w ∈ wsX00, w ∈ WT := fun w h => wm_law w (inlX0 w h)
theorem wm_X1 : ∀ w ∈ wsX10, w ∈ WT := fun w h => wm_law w (inlX1 w h)
theorem wm_X2 : ∀ w ∈ wsX20, w ∈ WT := fun w h => wm_law w (inlX2 w h)
theorem wm_X3 : ∀ w ∈ wsX30, w ∈ WT := fun w h => wm_law w (inlX3 w h)
theorem wm_X4 : ∀ w ∈ wsX40, w ∈ WT := fun w h => wm_law w (inlX4 w h)
theorem q_1_0 : Cond.classLink RL 7 RX3 ∈ WT := wm_1 _ (List.mem_of_getElem? (i := 0) rfl)
theorem q_1_1 : Cond.instantiable RX3 8 ∈ WT := wm_1 _ (List.mem_of_getElem? (i := 1) rfl)
theorem q_1_2 : Cond.initialized RX3 ∈ WT := wm_1 _ (List.mem_of_getElem? (i := 2) rfl)
theorem q_1_3 : Cond.classLink RL 10 RX4 ∈ WT := wm_1 _ (List.mem_of_getElem? (i := 3) rfl)
theorem q_1_4 : Cond.instantiable RX4 19 ∈ WT := wm_1 _ (List.mem_of_getElem? (i := 4) rfl)
theorem q_1_5 : Cond.initialized RX4 ∈ WT := wm_1 _ (List.mem_of_getElem? (i := 5) rfl)
theorem q_1_6 : Cond.constantLong RL 129 (4294967295) ∈ WT := wm_1 _ (List.mem_of_getElem? (i := 6) rfl)
theorem q_1_7 : Cond.methodLink RL 9 yX3_init ∈ WT := wm_1 _ (List.mem_of_getElem? (i := 7) rfl)
theorem q_1_8 : Cond.instanceMethod yX3_init ∈ WT := wm_1 _ (List.mem_of_getElem? (i := 8) rfl)
theorem q_1_9 : Cond.code yX3_init cX3_init 2 none ∈ WT := wm_1 _ (List.mem_of_getElem? (i := 9) rfl)
theorem q_1_10 : Cond.methodLink RX3 1 objectInit ∈ WT := wm_1 _ (List.mem_of_getElem? (i := 10) rfl)
theorem q_1_11 : Cond.instanceMethod objectInit ∈ WT := wm_1 _ (List.mem_of_getElem? (i := 11) rfl)
theorem q_1_12 : Cond.code objectInit ⟨#[0xb1]⟩ 1 none ∈ WT := wm_1 _ (List.mem_of_getElem? (i := 12) rfl)
theorem q_1_13 : Cond.classLink RX3 7 RX0 ∈ WT := wm_1 _ (List.mem_of_getElem? (i := 13) rfl)
theorem q_1_14 : Cond.instantiable RX0 11 ∈ WT := wm_1 _ (List.mem_of_getElem? (i := 14) rfl)
theorem q_1_15 : Cond.initialized RX0 ∈ WT := wm_1 _ (List.mem_of_getElem? (i := 15) rfl)
theorem q_1_16 : Cond.fieldLink RX3 10 "WindowChairs" "here" "LWindowChairs$Room;" ∈ WT := wm_1 _ (List.mem_of_getElem? (i := 16) rfl)
theorem q_1_17 : Cond.fieldLink RX3 16 "WindowChairs" "ahead" "LWindowChairs$Room;" ∈ WT := wm_1 _ (List.mem_of_getElem? (i := 17) rfl)
theorem q_1_18 : Cond.fieldLink RX3 19 "WindowChairs" "kept" "LWindowChairs$Room;" ∈ WT := wm_1 _ (List.mem_of_getElem? (i := 18) rfl)
theorem q_1_19 : Cond.fieldLink RX3 22 "WindowChairs" "isKept" "Z" ∈ WT := wm_1 _ (List.mem_of_getElem? (i := 19) rfl)
theorem q_1_20 : Cond.classLink RX3 26 RX2 ∈ WT := wm_1 _ (List.mem_of_getElem? (i := 20) rfl)
theorem q_1_21 : Cond.instantiable RX2 7 ∈ WT := wm_1 _ (List.mem_of_getElem? (i := 21) rfl)
theorem q_1_22 : Cond.initialized RX2 ∈ WT := wm_1 _ (List.mem_of_getElem? (i := 22) rfl)
theorem q_1_23 : Cond.fieldLink RX3 29 "WindowChairs" "text" "LWindowChairs$Text;" ∈ WT := wm_1 _ (List.mem_of_getElem? (i := 23) rfl)
theorem q_2_0 : Cond.classLink RX3 33 RX1 ∈ WT := wm_2 _ (List.mem_of_getElem? (i := 0) rfl)
theorem q_2_1 : Cond.fieldLink RX3 35 "WindowChairs" "sheets" "[LWindowChairs$Sheet;" ∈ WT := wm_2 _ (List.mem_of_getElem? (i := 1) rfl)
theorem q_2_2 : Cond.instantiable RX1 3 ∈ WT := wm_2 _ (List.mem_of_getElem? (i := 2) rfl)
theorem q_2_3 : Cond.initialized RX1 ∈ WT := wm_2 _ (List.mem_of_getElem? (i := 3) rfl)
theorem q_2_4 : Cond.arrayClass .int ∈ WT := wm_2 _ (List.mem_of_getElem? (i := 4) rfl)
theorem q_2_5 : Cond.fieldLink RX3 40 "WindowChairs" "findings" "[I" ∈ WT := wm_2 _ (List.mem_of_getElem? (i := 5) rfl)
theorem q_2_6 : Cond.fieldLink RX3 44 "WindowChairs" "sitting" "[I" ∈ WT := wm_2 _ (List.mem_of_getElem? (i := 6) rfl)
theorem q_2_7 : Cond.methodLink RX3 9 yX0_init ∈ WT := wm_2 _ (List.mem_of_getElem? (i := 7) rfl)
theorem q_2_8 : Cond.instanceMethod yX0_init ∈ WT := wm_2 _ (List.mem_of_getElem? (i := 8) rfl)
theorem q_2_9 : Cond.code yX0_init cX0_init 1 none ∈ WT := wm_2 _ (List.mem_of_getElem? (i := 9) rfl)
theorem q_2_10 : Cond.methodLink RX0 3 objectInit ∈ WT := wm_2 _ (List.mem_of_getElem? (i := 10) rfl)
theorem q_2_11 : Cond.fieldLink RX0 9 "WindowChairs$Room" "views" "[I" ∈ WT := wm_2 _ (List.mem_of_getElem? (i := 11) rfl)
theorem q_2_12 : Cond.fieldLink RX0 21 "WindowChairs$Room" "draughts" "[I" ∈ WT := wm_2 _ (List.mem_of_getElem? (i := 12) rfl)
theorem q_2_13 : Cond.fieldLink RX0 24 "WindowChairs$Room" "sitters" "[I" ∈ WT := wm_2 _ (List.mem_of_getElem? (i := 13) rfl)
theorem q_2_14 : Cond.fieldLink RX0 27 "WindowChairs$Room" "kinds" "[I" ∈ WT := wm_2 _ (List.mem_of_getElem? (i := 14) rfl)
theorem q_2_15 : Cond.fieldLink RX0 30 "WindowChairs$Room" "ages" "[I" ∈ WT := wm_2 _ (List.mem_of_getElem? (i := 15) rfl)
theorem q_2_16 : Cond.fieldLink RX0 33 "WindowChairs$Room" "claims" "[I" ∈ WT := wm_2 _ (List.mem_of_getElem? (i := 16) rfl)
theorem q_2_17 : Cond.fieldLink RX0 36 "WindowChairs$Room" "quarrels" "[I" ∈ WT := wm_2 _ (List.mem_of_getElem? (i := 17) rfl)
theorem q_2_18 : Cond.fieldLink RX0 39 "WindowChairs$Room" "gaps" "[I" ∈ WT := wm_2 _ (List.mem_of_getElem? (i := 18) rfl)
theorem q_2_19 : Cond.fieldLink RX0 42 "WindowChairs$Room" "seats" "[I" ∈ WT := wm_2 _ (List.mem_of_getElem? (i := 19) rfl)
theorem q_2_20 : Cond.methodLink RX0 15 yJ7_fill_53178 ∈ WT := wm_2 _ (List.mem_of_getElem? (i := 20) rfl)
theorem q_2_21 : Cond.static yJ7_fill_53178 ∈ WT := wm_2 _ (List.mem_of_getElem? (i := 21) rfl)
theorem q_2_22 : Cond.initialized RJ7 ∈ WT := wm_2 _ (List.mem_of_getElem? (i := 22) rfl)
theorem q_2_23 : Cond.code yJ7_fill_53178 cJ7_fill_53178 4 none ∈ WT := wm_2 _ (List.mem_of_getElem? (i := 23) rfl)
theorem q_3_0 : Cond.methodLink RX3 28 yX2_init ∈ WT := wm_3 _ (List.mem_of_getElem? (i := 0) rfl)
theorem q_3_1 : Cond.instanceMethod yX2_init ∈ WT := wm_3 _ (List.mem_of_getElem? (i := 1) rfl)
theorem q_3_2 : Cond.code yX2_init cX2_init 1 none ∈ WT := wm_3 _ (List.mem_of_getElem? (i := 2) rfl)
theorem q_3_3 : Cond.methodLink RX2 3 objectInit ∈ WT := wm_3 _ (List.mem_of_getElem? (i := 3) rfl)
theorem q_3_4 : Cond.fieldLink RX2 9 "WindowChairs$Text" "bytes" "[I" ∈ WT := wm_3 _ (List.mem_of_getElem? (i := 4) rfl)
theorem q_3_5 : Cond.methodLink RX3 39 yX1_init ∈ WT := wm_3 _ (List.mem_of_getElem? (i := 5) rfl)
theorem q_3_6 : Cond.instanceMethod yX1_init ∈ WT := wm_3 _ (List.mem_of_getElem? (i := 6) rfl)
theorem q_3_7 : Cond.code yX1_init cX1_init 1 none ∈ WT := wm_3 _ (List.mem_of_getElem? (i := 7) rfl)
theorem q_3_8 : Cond.methodLink RX1 3 objectInit ∈ WT := wm_3 _ (List.mem_of_getElem? (i := 8) rfl)
theorem q_3_9 : Cond.arrayClass .long ∈ WT := wm_3 _ (List.mem_of_getElem? (i := 9) rfl)
theorem q_3_10 : Cond.fieldLink RX1 9 "WindowChairs$Sheet" "numbers" "[J" ∈ WT := wm_3 _ (List.mem_of_getElem? (i := 10) rfl)
theorem q_3_11 : Cond.methodLink RL 12 yX4_init ∈ WT := wm_3 _ (List.mem_of_getElem? (i := 11) rfl)
theorem q_3_12 : Cond.instanceMethod yX4_init ∈ WT := wm_3 _ (List.mem_of_getElem? (i := 12) rfl)
theorem q_3_13 : Cond.code yX4_init cX4_init 2 none ∈ WT := wm_3 _ (List.mem_of_getElem? (i := 13) rfl)
theorem q_3_14 : Cond.methodLink RX4 1 objectInit ∈ WT := wm_3 _ (List.mem_of_getElem? (i := 14) rfl)
theorem q_3_15 : Cond.fieldLink RX4 7 "WindowChairsModel" "s" "[I" ∈ WT := wm_3 _ (List.mem_of_getElem? (i := 15) rfl)
theorem q_3_16 : Cond.fieldLink RX4 13 "WindowChairsModel" "keptS" "[I" ∈ WT := wm_3 _ (List.mem_of_getElem? (i := 16) rfl)
theorem q_3_17 : Cond.fieldLink RX4 16 "WindowChairsModel" "other" "[I" ∈ WT := wm_3 _ (List.mem_of_getElem? (i := 17) rfl)
theorem q_3_18 : Cond.fieldLink RX4 19 "WindowChairsModel" "aside" "[I" ∈ WT := wm_3 _ (List.mem_of_getElem? (i := 18) rfl)
theorem q_3_19 : Cond.fieldLink RX4 22 "WindowChairsModel" "statuses" "[I" ∈ WT := wm_3 _ (List.mem_of_getElem? (i := 19) rfl)
theorem q_3_20 : Cond.fieldLink RX4 25 "WindowChairsModel" "taken" "[I" ∈ WT := wm_3 _ (List.mem_of_getElem? (i := 20) rfl)
theorem q_3_21 : Cond.fieldLink RX4 28 "WindowChairsModel" "tape" "[I" ∈ WT := wm_3 _ (List.mem_of_getElem? (i := 21) rfl)
theorem q_3_22 : Cond.fieldLink RX4 31 "WindowChairsModel" "bitsOf" "[I" ∈ WT := wm_3 _ (List.mem_of_getElem? (i := 22) rfl)
theorem q_3_23 : Cond.fieldLink RX4 34 "WindowChairsModel" "sizeOf" "[I" ∈ WT := wm_3 _ (List.mem_of_getElem? (i := 23) rfl)
theorem q_4_0 : Cond.fieldLink RX4 37 "WindowChairsModel" "numbers" "[J" ∈ WT := wm_4 _ (List.mem_of_getElem? (i := 0) rfl)
theorem q_4_1 : Cond.fieldLink RX4 41 "WindowChairsModel" "moved" "[J" ∈ WT := wm_4 _ (List.mem_of_getElem? (i := 1) rfl)
theorem q_4_2 : Cond.methodLink RX4 44 yX4_chairAt ∈ WT := wm_4 _ (List.mem_of_getElem? (i := 2) rfl)
theorem q_4_3 : Cond.static yX4_chairAt ∈ WT := wm_4 _ (List.mem_of_getElem? (i := 3) rfl)
theorem q_4_4 : Cond.code yX4_chairAt cX4_chairAt 2 (some .int) ∈ WT := wm_4 _ (List.mem_of_getElem? (i := 4) rfl)
theorem q_4_5 : Cond.methodLink RL 13 yX3_chair ∈ WT := wm_4 _ (List.mem_of_getElem? (i := 5) rfl)
theorem q_4_6 : Cond.instanceMethod yX3_chair ∈ WT := wm_4 _ (List.mem_of_getElem? (i := 6) rfl)
theorem q_4_7 : Cond.selects RX3 yX3_chair yX3_chair ∈ WT := wm_4 _ (List.mem_of_getElem? (i := 7) rfl)
theorem q_4_8 : Cond.code yX3_chair cX3_chair 6 (some .int) ∈ WT := wm_4 _ (List.mem_of_getElem? (i := 8) rfl)
theorem q_4_9 : Cond.fieldLink RX3 59 "WindowChairs$Room" "views" "[I" ∈ WT := wm_4 _ (List.mem_of_getElem? (i := 9) rfl)
theorem q_4_10 : Cond.fieldLink RX3 62 "WindowChairs$Room" "draughts" "[I" ∈ WT := wm_4 _ (List.mem_of_getElem? (i := 10) rfl)
theorem q_4_11 : Cond.methodLink RX3 47 yX3_isChair ∈ WT := wm_4 _ (List.mem_of_getElem? (i := 11) rfl)
theorem q_4_12 : Cond.static yX3_isChair ∈ WT := wm_4 _ (List.mem_of_getElem? (i := 12) rfl)
theorem q_4_13 : Cond.code yX3_isChair cX3_isChair 1 (some .boolean) ∈ WT := wm_4 _ (List.mem_of_getElem? (i := 13) rfl)
theorem q_4_14 : Cond.methodLink RX3 51 yX3_isWithin ∈ WT := wm_4 _ (List.mem_of_getElem? (i := 14) rfl)
theorem q_4_15 : Cond.static yX3_isWithin ∈ WT := wm_4 _ (List.mem_of_getElem? (i := 15) rfl)
theorem q_4_16 : Cond.code yX3_isWithin cX3_isWithin 3 (some .boolean) ∈ WT := wm_4 _ (List.mem_of_getElem? (i := 16) rfl)
theorem q_4_17 : Cond.methodLink RX3 55 yX3_finding ∈ WT := wm_4 _ (List.mem_of_getElem? (i := 17) rfl)
theorem q_4_18 : Cond.instanceMethod yX3_finding ∈ WT := wm_4 _ (List.mem_of_getElem? (i := 18) rfl)
theorem q_4_19 : Cond.selects RX3 yX3_finding yX3_finding ∈ WT := wm_4 _ (List.mem_of_getElem? (i := 19) rfl)
theorem q_4_20 : Cond.code yX3_finding cX3_finding 2 (some .int) ∈ WT := wm_4 _ (List.mem_of_getElem? (i := 20) rfl)
theorem q_4_21 : Cond.constant RX3 231 (-1000000001) ∈ WT := wm_4 _ (List.mem_of_getElem? (i := 21) rfl)
theorem q_4_22 : Cond.methodLink RL 17 yX4_chair ∈ WT := wm_4 _ (List.mem_of_getElem? (i := 22) rfl)
theorem q_4_23 : Cond.instanceMethod yX4_chair ∈ WT := wm_4 _ (List.mem_of_getElem? (i := 23) rfl)
theorem q_5_0 : Cond.selects RX4 yX4_chair yX4_chair ∈ WT := wm_5 _ (List.mem_of_getElem? (i := 0) rfl)
theorem q_5_1 : Cond.code yX4_chair cX4_chair 5 (some .int) ∈ WT := wm_5 _ (List.mem_of_getElem? (i := 1) rfl)
theorem q_5_2 : Cond.constantLong RX4 67 (20) ∈ WT := wm_5 _ (List.mem_of_getElem? (i := 2) rfl)
theorem q_5_3 : Cond.constantLong RX4 69 (9) ∈ WT := wm_5 _ (List.mem_of_getElem? (i := 3) rfl)
theorem q_5_4 : Cond.constant RX4 48 (-1000000001) ∈ WT := wm_5 _ (List.mem_of_getElem? (i := 4) rfl)
theorem q_5_5 : Cond.methodLink RX4 51 yX4_in ∈ WT := wm_5 _ (List.mem_of_getElem? (i := 5) rfl)
theorem q_5_6 : Cond.static yX4_in ∈ WT := wm_5 _ (List.mem_of_getElem? (i := 6) rfl)
theorem q_5_7 : Cond.code yX4_in cX4_in 6 (some .boolean) ∈ WT := wm_5 _ (List.mem_of_getElem? (i := 7) rfl)
theorem q_5_8 : Cond.methodLink RX4 71 yX4_isChair ∈ WT := wm_5 _ (List.mem_of_getElem? (i := 8) rfl)
theorem q_5_9 : Cond.static yX4_isChair ∈ WT := wm_5 _ (List.mem_of_getElem? (i := 9) rfl)
theorem q_5_10 : Cond.code yX4_isChair cX4_isChair 1 (some .boolean) ∈ WT := wm_5 _ (List.mem_of_getElem? (i := 10) rfl)
theorem q_5_11 : Cond.constantLong RX4 49 (7) ∈ WT := wm_5 _ (List.mem_of_getElem? (i := 11) rfl)
theorem q_5_12 : Cond.methodLink RX4 74 yX4_becomes ∈ WT := wm_5 _ (List.mem_of_getElem? (i := 12) rfl)
theorem q_5_13 : Cond.instanceMethod yX4_becomes ∈ WT := wm_5 _ (List.mem_of_getElem? (i := 13) rfl)
theorem q_5_14 : Cond.selects RX4 yX4_becomes yX4_becomes ∈ WT := wm_5 _ (List.mem_of_getElem? (i := 14) rfl)
theorem q_5_15 : Cond.code yX4_becomes cX4_becomes 4 (some .int) ∈ WT := wm_5 _ (List.mem_of_getElem? (i := 15) rfl)
theorem q_5_16 : Cond.methodLink RX4 77 yX4_finds ∈ WT := wm_5 _ (List.mem_of_getElem? (i := 16) rfl)
theorem q_5_17 : Cond.instanceMethod yX4_finds ∈ WT := wm_5 _ (List.mem_of_getElem? (i := 17) rfl)
theorem q_5_18 : Cond.selects RX4 yX4_finds yX4_finds ∈ WT := wm_5 _ (List.mem_of_getElem? (i := 18) rfl)
theorem q_5_19 : Cond.code yX4_finds cX4_finds 2 (some .int) ∈ WT := wm_5 _ (List.mem_of_getElem? (i := 19) rfl)
theorem q_5_20 : Cond.methodLink RL 18 yX3_chairOf ∈ WT := wm_5 _ (List.mem_of_getElem? (i := 20) rfl)
theorem q_5_21 : Cond.instanceMethod yX3_chairOf ∈ WT := wm_5 _ (List.mem_of_getElem? (i := 21) rfl)
theorem q_5_22 : Cond.selects RX3 yX3_chairOf yX3_chairOf ∈ WT := wm_5 _ (List.mem_of_getElem? (i := 22) rfl)
theorem q_5_23 : Cond.code yX3_chairOf cX3_chairOf 3 (some .int) ∈ WT := wm_5 _ (List.mem_of_getElem? (i := 23) rfl)
theorem q_6_0 : Cond.fieldLink RX3 65 "WindowChairs$Room" "sitters" "[I" ∈ WT := wm_6 _ (List.mem_of_getElem? (i := 0) rfl)
theorem q_6_1 : Cond.methodLink RL 22 yX4_chairOf ∈ WT := wm_6 _ (List.mem_of_getElem? (i := 1) rfl)
theorem q_6_2 : Cond.instanceMethod yX4_chairOf ∈ WT := wm_6 _ (List.mem_of_getElem? (i := 2) rfl)
theorem q_6_3 : Cond.selects RX4 yX4_chairOf yX4_chairOf ∈ WT := wm_6 _ (List.mem_of_getElem? (i := 3) rfl)
theorem q_6_4 : Cond.code yX4_chairOf cX4_chairOf 3 (some .int) ∈ WT := wm_6 _ (List.mem_of_getElem? (i := 4) rfl)
theorem q_6_5 : Cond.constantLong RX4 81 (2) ∈ WT := wm_6 _ (List.mem_of_getElem? (i := 5) rfl)
theorem q_6_6 : Cond.methodLink RX4 83 yX4_whoIn ∈ WT := wm_6 _ (List.mem_of_getElem? (i := 6) rfl)
theorem q_6_7 : Cond.instanceMethod yX4_whoIn ∈ WT := wm_6 _ (List.mem_of_getElem? (i := 7) rfl)
theorem q_6_8 : Cond.selects RX4 yX4_whoIn yX4_whoIn ∈ WT := wm_6 _ (List.mem_of_getElem? (i := 8) rfl)
theorem q_6_9 : Cond.code yX4_whoIn cX4_whoIn 3 (some .int) ∈ WT := wm_6 _ (List.mem_of_getElem? (i := 9) rfl)
theorem q_6_10 : Cond.methodLink RX4 64 yX4_its ∈ WT := wm_6 _ (List.mem_of_getElem? (i := 10) rfl)
theorem q_6_11 : Cond.instanceMethod yX4_its ∈ WT := wm_6 _ (List.mem_of_getElem? (i := 11) rfl)
theorem q_6_12 : Cond.selects RX4 yX4_its yX4_its ∈ WT := wm_6 _ (List.mem_of_getElem? (i := 12) rfl)
theorem q_6_13 : Cond.code yX4_its cX4_its 3 (some .int) ∈ WT := wm_6 _ (List.mem_of_getElem? (i := 13) rfl)
theorem q_6_14 : Cond.methodLink RX4 61 yX4_spotOf ∈ WT := wm_6 _ (List.mem_of_getElem? (i := 14) rfl)
theorem q_6_15 : Cond.static yX4_spotOf ∈ WT := wm_6 _ (List.mem_of_getElem? (i := 15) rfl)
theorem q_6_16 : Cond.code yX4_spotOf cX4_spotOf 2 (some .int) ∈ WT := wm_6 _ (List.mem_of_getElem? (i := 16) rfl)
theorem q_6_17 : Cond.methodLink RL 23 yX3_person ∈ WT := wm_6 _ (List.mem_of_getElem? (i := 17) rfl)
theorem q_6_18 : Cond.instanceMethod yX3_person ∈ WT := wm_6 _ (List.mem_of_getElem? (i := 18) rfl)
theorem q_6_19 : Cond.selects RX3 yX3_person yX3_person ∈ WT := wm_6 _ (List.mem_of_getElem? (i := 19) rfl)
theorem q_6_20 : Cond.code yX3_person cX3_person 2 (some .int) ∈ WT := wm_6 _ (List.mem_of_getElem? (i := 20) rfl)
theorem q_6_21 : Cond.fieldLink RX3 71 "WindowChairs$Room" "people" "I" ∈ WT := wm_6 _ (List.mem_of_getElem? (i := 21) rfl)
theorem q_6_22 : Cond.methodLink RX3 68 yX3_isKind ∈ WT := wm_6 _ (List.mem_of_getElem? (i := 22) rfl)
theorem q_6_23 : Cond.static yX3_isKind ∈ WT := wm_6 _ (List.mem_of_getElem? (i := 23) rfl)
theorem q_7_0 : Cond.code yX3_isKind cX3_isKind 1 (some .boolean) ∈ WT := wm_7 _ (List.mem_of_getElem? (i := 0) rfl)
theorem q_7_1 : Cond.methodLink RX3 75 yX0_enter ∈ WT := wm_7 _ (List.mem_of_getElem? (i := 1) rfl)
theorem q_7_2 : Cond.instanceMethod yX0_enter ∈ WT := wm_7 _ (List.mem_of_getElem? (i := 2) rfl)
theorem q_7_3 : Cond.selects RX0 yX0_enter yX0_enter ∈ WT := wm_7 _ (List.mem_of_getElem? (i := 3) rfl)
theorem q_7_4 : Cond.code yX0_enter cX0_enter 3 (some .int) ∈ WT := wm_7 _ (List.mem_of_getElem? (i := 4) rfl)
theorem q_7_5 : Cond.fieldLink RX0 51 "WindowChairs$Room" "people" "I" ∈ WT := wm_7 _ (List.mem_of_getElem? (i := 5) rfl)
theorem q_7_6 : Cond.methodLink RL 27 yX4_person ∈ WT := wm_7 _ (List.mem_of_getElem? (i := 6) rfl)
theorem q_7_7 : Cond.instanceMethod yX4_person ∈ WT := wm_7 _ (List.mem_of_getElem? (i := 7) rfl)
theorem q_7_8 : Cond.selects RX4 yX4_person yX4_person ∈ WT := wm_7 _ (List.mem_of_getElem? (i := 8) rfl)
theorem q_7_9 : Cond.code yX4_person cX4_person 2 (some .int) ∈ WT := wm_7 _ (List.mem_of_getElem? (i := 9) rfl)
theorem q_7_10 : Cond.constant RX4 89 (-1000000002) ∈ WT := wm_7 _ (List.mem_of_getElem? (i := 10) rfl)
theorem q_7_11 : Cond.methodLink RX4 86 yX4_isKind ∈ WT := wm_7 _ (List.mem_of_getElem? (i := 11) rfl)
theorem q_7_12 : Cond.static yX4_isKind ∈ WT := wm_7 _ (List.mem_of_getElem? (i := 12) rfl)
theorem q_7_13 : Cond.code yX4_isKind cX4_isKind 1 (some .boolean) ∈ WT := wm_7 _ (List.mem_of_getElem? (i := 13) rfl)
theorem q_7_14 : Cond.constantLong RX4 59 (5) ∈ WT := wm_7 _ (List.mem_of_getElem? (i := 14) rfl)
theorem q_7_15 : Cond.methodLink RX4 90 yX4_adds ∈ WT := wm_7 _ (List.mem_of_getElem? (i := 15) rfl)
theorem q_7_16 : Cond.instanceMethod yX4_adds ∈ WT := wm_7 _ (List.mem_of_getElem? (i := 16) rfl)
theorem q_7_17 : Cond.selects RX4 yX4_adds yX4_adds ∈ WT := wm_7 _ (List.mem_of_getElem? (i := 17) rfl)
theorem q_7_18 : Cond.code yX4_adds cX4_adds 3 (some .int) ∈ WT := wm_7 _ (List.mem_of_getElem? (i := 18) rfl)
theorem q_7_19 : Cond.methodLink RL 28 yX3_of ∈ WT := wm_7 _ (List.mem_of_getElem? (i := 19) rfl)
theorem q_7_20 : Cond.instanceMethod yX3_of ∈ WT := wm_7 _ (List.mem_of_getElem? (i := 20) rfl)
theorem q_7_21 : Cond.selects RX3 yX3_of yX3_of ∈ WT := wm_7 _ (List.mem_of_getElem? (i := 21) rfl)
theorem q_7_22 : Cond.code yX3_of cX3_of 3 (some .int) ∈ WT := wm_7 _ (List.mem_of_getElem? (i := 22) rfl)
theorem q_7_23 : Cond.fieldLink RX3 81 "WindowChairs$Room" "kinds" "[I" ∈ WT := wm_7 _ (List.mem_of_getElem? (i := 23) rfl)
theorem q_8_0 : Cond.fieldLink RX3 84 "WindowChairs$Room" "ages" "[I" ∈ WT := wm_8 _ (List.mem_of_getElem? (i := 0) rfl)
theorem q_8_1 : Cond.fieldLink RX3 87 "WindowChairs$Room" "claims" "[I" ∈ WT := wm_8 _ (List.mem_of_getElem? (i := 1) rfl)
theorem q_8_2 : Cond.fieldLink RX3 90 "WindowChairs$Room" "quarrels" "[I" ∈ WT := wm_8 _ (List.mem_of_getElem? (i := 2) rfl)
theorem q_8_3 : Cond.fieldLink RX3 93 "WindowChairs$Room" "gaps" "[I" ∈ WT := wm_8 _ (List.mem_of_getElem? (i := 3) rfl)
theorem q_8_4 : Cond.fieldLink RX3 96 "WindowChairs$Room" "seats" "[I" ∈ WT := wm_8 _ (List.mem_of_getElem? (i := 4) rfl)
theorem q_8_5 : Cond.methodLink RX3 78 yX3_isThere ∈ WT := wm_8 _ (List.mem_of_getElem? (i := 5) rfl)
theorem q_8_6 : Cond.instanceMethod yX3_isThere ∈ WT := wm_8 _ (List.mem_of_getElem? (i := 6) rfl)
theorem q_8_7 : Cond.selects RX3 yX3_isThere yX3_isThere ∈ WT := wm_8 _ (List.mem_of_getElem? (i := 7) rfl)
theorem q_8_8 : Cond.code yX3_isThere cX3_isThere 2 (some .boolean) ∈ WT := wm_8 _ (List.mem_of_getElem? (i := 8) rfl)
theorem q_8_9 : Cond.methodLink RX3 99 yX0_givesUp ∈ WT := wm_8 _ (List.mem_of_getElem? (i := 9) rfl)
theorem q_8_10 : Cond.instanceMethod yX0_givesUp ∈ WT := wm_8 _ (List.mem_of_getElem? (i := 10) rfl)
theorem q_8_11 : Cond.selects RX0 yX0_givesUp yX0_givesUp ∈ WT := wm_8 _ (List.mem_of_getElem? (i := 11) rfl)
theorem q_8_12 : Cond.code yX0_givesUp cX0_givesUp 2 (some .int) ∈ WT := wm_8 _ (List.mem_of_getElem? (i := 12) rfl)
theorem q_8_13 : Cond.methodLink RL 31 yX4_of ∈ WT := wm_8 _ (List.mem_of_getElem? (i := 13) rfl)
theorem q_8_14 : Cond.instanceMethod yX4_of ∈ WT := wm_8 _ (List.mem_of_getElem? (i := 14) rfl)
theorem q_8_15 : Cond.selects RX4 yX4_of yX4_of ∈ WT := wm_8 _ (List.mem_of_getElem? (i := 15) rfl)
theorem q_8_16 : Cond.code yX4_of cX4_of 3 (some .int) ∈ WT := wm_8 _ (List.mem_of_getElem? (i := 16) rfl)
theorem q_8_17 : Cond.constantLong RX4 93 (6) ∈ WT := wm_8 _ (List.mem_of_getElem? (i := 17) rfl)
theorem q_8_18 : Cond.methodLink RX4 55 yX4_isPerson ∈ WT := wm_8 _ (List.mem_of_getElem? (i := 18) rfl)
theorem q_8_19 : Cond.instanceMethod yX4_isPerson ∈ WT := wm_8 _ (List.mem_of_getElem? (i := 19) rfl)
theorem q_8_20 : Cond.selects RX4 yX4_isPerson yX4_isPerson ∈ WT := wm_8 _ (List.mem_of_getElem? (i := 20) rfl)
theorem q_8_21 : Cond.code yX4_isPerson cX4_isPerson 2 (some .boolean) ∈ WT := wm_8 _ (List.mem_of_getElem? (i := 21) rfl)
theorem q_8_22 : Cond.methodLink RX4 95 yX4_givesUp ∈ WT := wm_8 _ (List.mem_of_getElem? (i := 22) rfl)
theorem q_8_23 : Cond.instanceMethod yX4_givesUp ∈ WT := wm_8 _ (List.mem_of_getElem? (i := 23) rfl)
theorem q_9_0 : Cond.selects RX4 yX4_givesUp yX4_givesUp ∈ WT := wm_9 _ (List.mem_of_getElem? (i := 0) rfl)
theorem q_9_1 : Cond.code yX4_givesUp cX4_givesUp 2 (some .int) ∈ WT := wm_9 _ (List.mem_of_getElem? (i := 1) rfl)
theorem q_9_2 : Cond.methodLink RL 32 yX3_set ∈ WT := wm_9 _ (List.mem_of_getElem? (i := 2) rfl)
theorem q_9_3 : Cond.instanceMethod yX3_set ∈ WT := wm_9 _ (List.mem_of_getElem? (i := 3) rfl)
theorem q_9_4 : Cond.selects RX3 yX3_set yX3_set ∈ WT := wm_9 _ (List.mem_of_getElem? (i := 4) rfl)
theorem q_9_5 : Cond.code yX3_set cX3_set 4 (some .int) ∈ WT := wm_9 _ (List.mem_of_getElem? (i := 5) rfl)
theorem q_9_6 : Cond.methodLink RX3 102 yX3_put ∈ WT := wm_9 _ (List.mem_of_getElem? (i := 6) rfl)
theorem q_9_7 : Cond.instanceMethod yX3_put ∈ WT := wm_9 _ (List.mem_of_getElem? (i := 7) rfl)
theorem q_9_8 : Cond.selects RX3 yX3_put yX3_put ∈ WT := wm_9 _ (List.mem_of_getElem? (i := 8) rfl)
theorem q_9_9 : Cond.code yX3_put cX3_put 7 (some .int) ∈ WT := wm_9 _ (List.mem_of_getElem? (i := 9) rfl)
theorem q_9_10 : Cond.methodLink RL 35 yX4_set ∈ WT := wm_9 _ (List.mem_of_getElem? (i := 10) rfl)
theorem q_9_11 : Cond.instanceMethod yX4_set ∈ WT := wm_9 _ (List.mem_of_getElem? (i := 11) rfl)
theorem q_9_12 : Cond.selects RX4 yX4_set yX4_set ∈ WT := wm_9 _ (List.mem_of_getElem? (i := 12) rfl)
theorem q_9_13 : Cond.code yX4_set cX4_set 4 (some .int) ∈ WT := wm_9 _ (List.mem_of_getElem? (i := 13) rfl)
theorem q_9_14 : Cond.methodLink RX4 104 yX4_isPart ∈ WT := wm_9 _ (List.mem_of_getElem? (i := 14) rfl)
theorem q_9_15 : Cond.static yX4_isPart ∈ WT := wm_9 _ (List.mem_of_getElem? (i := 15) rfl)
theorem q_9_16 : Cond.code yX4_isPart cX4_isPart 2 (some .boolean) ∈ WT := wm_9 _ (List.mem_of_getElem? (i := 16) rfl)
theorem q_9_17 : Cond.constantLong RX4 98 (99) ∈ WT := wm_9 _ (List.mem_of_getElem? (i := 17) rfl)
theorem q_9_18 : Cond.constantLong RX4 100 (-1) ∈ WT := wm_9 _ (List.mem_of_getElem? (i := 18) rfl)
theorem q_9_19 : Cond.constantLong RX4 102 (9999) ∈ WT := wm_9 _ (List.mem_of_getElem? (i := 19) rfl)
theorem q_9_20 : Cond.methodLink RL 36 yX3_turn ∈ WT := wm_9 _ (List.mem_of_getElem? (i := 20) rfl)
theorem q_9_21 : Cond.instanceMethod yX3_turn ∈ WT := wm_9 _ (List.mem_of_getElem? (i := 21) rfl)
theorem q_9_22 : Cond.selects RX3 yX3_turn yX3_turn ∈ WT := wm_9 _ (List.mem_of_getElem? (i := 22) rfl)
theorem q_9_23 : Cond.code yX3_turn cX3_turn 3 (some .int) ∈ WT := wm_9 _ (List.mem_of_getElem? (i := 23) rfl)
theorem q_10_0 : Cond.methodLink RL 39 yX4_turn ∈ WT := wm_10 _ (List.mem_of_getElem? (i := 0) rfl)
theorem q_10_1 : Cond.instanceMethod yX4_turn ∈ WT := wm_10 _ (List.mem_of_getElem? (i := 1) rfl)
theorem q_10_2 : Cond.selects RX4 yX4_turn yX4_turn ∈ WT := wm_10 _ (List.mem_of_getElem? (i := 2) rfl)
theorem q_10_3 : Cond.code yX4_turn cX4_turn 3 (some .int) ∈ WT := wm_10 _ (List.mem_of_getElem? (i := 3) rfl)
theorem q_10_4 : Cond.methodLink RL 40 yX3_as ∈ WT := wm_10 _ (List.mem_of_getElem? (i := 4) rfl)
theorem q_10_5 : Cond.instanceMethod yX3_as ∈ WT := wm_10 _ (List.mem_of_getElem? (i := 5) rfl)
theorem q_10_6 : Cond.selects RX3 yX3_as yX3_as ∈ WT := wm_10 _ (List.mem_of_getElem? (i := 6) rfl)
theorem q_10_7 : Cond.code yX3_as cX3_as 3 (some .int) ∈ WT := wm_10 _ (List.mem_of_getElem? (i := 7) rfl)
theorem q_10_8 : Cond.methodLink RX3 106 yX3_isOfKind ∈ WT := wm_10 _ (List.mem_of_getElem? (i := 8) rfl)
theorem q_10_9 : Cond.static yX3_isOfKind ∈ WT := wm_10 _ (List.mem_of_getElem? (i := 9) rfl)
theorem q_10_10 : Cond.code yX3_isOfKind cX3_isOfKind 4 (some .boolean) ∈ WT := wm_10 _ (List.mem_of_getElem? (i := 10) rfl)
theorem q_10_11 : Cond.fieldLink RX3 232 "WindowChairs" "KIND_ABOVE" "[I" ∈ WT := wm_10 _ (List.mem_of_getElem? (i := 11) rfl)
theorem q_10_12 : Cond.methodLink RL 43 yX4_as ∈ WT := wm_10 _ (List.mem_of_getElem? (i := 12) rfl)
theorem q_10_13 : Cond.instanceMethod yX4_as ∈ WT := wm_10 _ (List.mem_of_getElem? (i := 13) rfl)
theorem q_10_14 : Cond.selects RX4 yX4_as yX4_as ∈ WT := wm_10 _ (List.mem_of_getElem? (i := 14) rfl)
theorem q_10_15 : Cond.code yX4_as cX4_as 3 (some .int) ∈ WT := wm_10 _ (List.mem_of_getElem? (i := 15) rfl)
theorem q_10_16 : Cond.constant RX4 111 (-1000000003) ∈ WT := wm_10 _ (List.mem_of_getElem? (i := 16) rfl)
theorem q_10_17 : Cond.methodLink RX4 108 yX4_isUnder ∈ WT := wm_10 _ (List.mem_of_getElem? (i := 17) rfl)
theorem q_10_18 : Cond.static yX4_isUnder ∈ WT := wm_10 _ (List.mem_of_getElem? (i := 18) rfl)
theorem q_10_19 : Cond.code yX4_isUnder cX4_isUnder 2 (some .boolean) ∈ WT := wm_10 _ (List.mem_of_getElem? (i := 19) rfl)
theorem q_10_20 : Cond.methodLink RL 44 yX3_quarrel ∈ WT := wm_10 _ (List.mem_of_getElem? (i := 20) rfl)
theorem q_10_21 : Cond.instanceMethod yX3_quarrel ∈ WT := wm_10 _ (List.mem_of_getElem? (i := 21) rfl)
theorem q_10_22 : Cond.selects RX3 yX3_quarrel yX3_quarrel ∈ WT := wm_10 _ (List.mem_of_getElem? (i := 22) rfl)
theorem q_10_23 : Cond.code yX3_quarrel cX3_quarrel 5 (some .int) ∈ WT := wm_10 _ (List.mem_of_getElem? (i := 23) rfl)
theorem q_11_0 : Cond.methodLink RX3 110 yX3_areTwo ∈ WT := wm_11 _ (List.mem_of_getElem? (i := 0) rfl)
theorem q_11_1 : Cond.instanceMethod yX3_areTwo ∈ WT := wm_11 _ (List.mem_of_getElem? (i := 1) rfl)
theorem q_11_2 : Cond.selects RX3 yX3_areTwo yX3_areTwo ∈ WT := wm_11 _ (List.mem_of_getElem? (i := 2) rfl)
theorem q_11_3 : Cond.code yX3_areTwo cX3_areTwo 3 (some .boolean) ∈ WT := wm_11 _ (List.mem_of_getElem? (i := 3) rfl)
theorem q_11_4 : Cond.methodLink RX3 113 yX0_areAtOdds ∈ WT := wm_11 _ (List.mem_of_getElem? (i := 4) rfl)
theorem q_11_5 : Cond.instanceMethod yX0_areAtOdds ∈ WT := wm_11 _ (List.mem_of_getElem? (i := 5) rfl)
theorem q_11_6 : Cond.selects RX0 yX0_areAtOdds yX0_areAtOdds ∈ WT := wm_11 _ (List.mem_of_getElem? (i := 6) rfl)
theorem q_11_7 : Cond.code yX0_areAtOdds cX0_areAtOdds 3 (some .boolean) ∈ WT := wm_11 _ (List.mem_of_getElem? (i := 7) rfl)
theorem q_11_8 : Cond.methodLink RX3 116 yX0_putAtOdds ∈ WT := wm_11 _ (List.mem_of_getElem? (i := 8) rfl)
theorem q_11_9 : Cond.instanceMethod yX0_putAtOdds ∈ WT := wm_11 _ (List.mem_of_getElem? (i := 9) rfl)
theorem q_11_10 : Cond.selects RX0 yX0_putAtOdds yX0_putAtOdds ∈ WT := wm_11 _ (List.mem_of_getElem? (i := 10) rfl)
theorem q_11_11 : Cond.code yX0_putAtOdds cX0_putAtOdds 4 none ∈ WT := wm_11 _ (List.mem_of_getElem? (i := 11) rfl)
theorem q_11_12 : Cond.methodLink RL 47 yX4_quarrel ∈ WT := wm_11 _ (List.mem_of_getElem? (i := 12) rfl)
theorem q_11_13 : Cond.instanceMethod yX4_quarrel ∈ WT := wm_11 _ (List.mem_of_getElem? (i := 13) rfl)
theorem q_11_14 : Cond.selects RX4 yX4_quarrel yX4_quarrel ∈ WT := wm_11 _ (List.mem_of_getElem? (i := 14) rfl)
theorem q_11_15 : Cond.code yX4_quarrel cX4_quarrel 5 (some .int) ∈ WT := wm_11 _ (List.mem_of_getElem? (i := 15) rfl)
theorem q_11_16 : Cond.methodLink RX4 112 yX4_areTwo ∈ WT := wm_11 _ (List.mem_of_getElem? (i := 16) rfl)
theorem q_11_17 : Cond.instanceMethod yX4_areTwo ∈ WT := wm_11 _ (List.mem_of_getElem? (i := 17) rfl)
theorem q_11_18 : Cond.selects RX4 yX4_areTwo yX4_areTwo ∈ WT := wm_11 _ (List.mem_of_getElem? (i := 18) rfl)
theorem q_11_19 : Cond.code yX4_areTwo cX4_areTwo 3 (some .boolean) ∈ WT := wm_11 _ (List.mem_of_getElem? (i := 19) rfl)
theorem q_11_20 : Cond.methodLink RX4 115 yX4_isQuarrel ∈ WT := wm_11 _ (List.mem_of_getElem? (i := 20) rfl)
theorem q_11_21 : Cond.instanceMethod yX4_isQuarrel ∈ WT := wm_11 _ (List.mem_of_getElem? (i := 21) rfl)
theorem q_11_22 : Cond.selects RX4 yX4_isQuarrel yX4_isQuarrel ∈ WT := wm_11 _ (List.mem_of_getElem? (i := 22) rfl)
theorem q_11_23 : Cond.code yX4_isQuarrel cX4_isQuarrel 3 (some .boolean) ∈ WT := wm_11 _ (List.mem_of_getElem? (i := 23) rfl)
theorem q_12_0 : Cond.methodLink RX4 118 yX4_quarrels ∈ WT := wm_12 _ (List.mem_of_getElem? (i := 0) rfl)
theorem q_12_1 : Cond.instanceMethod yX4_quarrels ∈ WT := wm_12 _ (List.mem_of_getElem? (i := 1) rfl)
theorem q_12_2 : Cond.selects RX4 yX4_quarrels yX4_quarrels ∈ WT := wm_12 _ (List.mem_of_getElem? (i := 2) rfl)
theorem q_12_3 : Cond.code yX4_quarrels cX4_quarrels 6 none ∈ WT := wm_12 _ (List.mem_of_getElem? (i := 3) rfl)
theorem q_12_4 : Cond.methodLink RL 48 yX3_sit ∈ WT := wm_12 _ (List.mem_of_getElem? (i := 4) rfl)
theorem q_12_5 : Cond.instanceMethod yX3_sit ∈ WT := wm_12 _ (List.mem_of_getElem? (i := 5) rfl)
theorem q_12_6 : Cond.selects RX3 yX3_sit yX3_sit ∈ WT := wm_12 _ (List.mem_of_getElem? (i := 6) rfl)
theorem q_12_7 : Cond.code yX3_sit cX3_sit 4 (some .int) ∈ WT := wm_12 _ (List.mem_of_getElem? (i := 7) rfl)
theorem q_12_8 : Cond.methodLink RX3 120 yX0_seat ∈ WT := wm_12 _ (List.mem_of_getElem? (i := 8) rfl)
theorem q_12_9 : Cond.instanceMethod yX0_seat ∈ WT := wm_12 _ (List.mem_of_getElem? (i := 9) rfl)
theorem q_12_10 : Cond.selects RX0 yX0_seat yX0_seat ∈ WT := wm_12 _ (List.mem_of_getElem? (i := 10) rfl)
theorem q_12_11 : Cond.code yX0_seat cX0_seat 3 none ∈ WT := wm_12 _ (List.mem_of_getElem? (i := 11) rfl)
theorem q_12_12 : Cond.methodLink RL 51 yX4_sit ∈ WT := wm_12 _ (List.mem_of_getElem? (i := 12) rfl)
theorem q_12_13 : Cond.instanceMethod yX4_sit ∈ WT := wm_12 _ (List.mem_of_getElem? (i := 13) rfl)
theorem q_12_14 : Cond.selects RX4 yX4_sit yX4_sit ∈ WT := wm_12 _ (List.mem_of_getElem? (i := 14) rfl)
theorem q_12_15 : Cond.code yX4_sit cX4_sit 4 (some .int) ∈ WT := wm_12 _ (List.mem_of_getElem? (i := 15) rfl)
theorem q_12_16 : Cond.constant RX4 122 (-1000000005) ∈ WT := wm_12 _ (List.mem_of_getElem? (i := 16) rfl)
theorem q_12_17 : Cond.methodLink RL 52 yX3_change ∈ WT := wm_12 _ (List.mem_of_getElem? (i := 17) rfl)
theorem q_12_18 : Cond.instanceMethod yX3_change ∈ WT := wm_12 _ (List.mem_of_getElem? (i := 18) rfl)
theorem q_12_19 : Cond.selects RX3 yX3_change yX3_change ∈ WT := wm_12 _ (List.mem_of_getElem? (i := 19) rfl)
theorem q_12_20 : Cond.code yX3_change cX3_change 3 (some .int) ∈ WT := wm_12 _ (List.mem_of_getElem? (i := 20) rfl)
theorem q_12_21 : Cond.methodLink RX3 124 yX0_swap ∈ WT := wm_12 _ (List.mem_of_getElem? (i := 21) rfl)
theorem q_12_22 : Cond.instanceMethod yX0_swap ∈ WT := wm_12 _ (List.mem_of_getElem? (i := 22) rfl)
theorem q_12_23 : Cond.selects RX0 yX0_swap yX0_swap ∈ WT := wm_12 _ (List.mem_of_getElem? (i := 23) rfl)
theorem q_13_0 : Cond.code yX0_swap cX0_swap 5 none ∈ WT := wm_13 _ (List.mem_of_getElem? (i := 0) rfl)
theorem q_13_1 : Cond.methodLink RL 55 yX4_change ∈ WT := wm_13 _ (List.mem_of_getElem? (i := 1) rfl)
theorem q_13_2 : Cond.instanceMethod yX4_change ∈ WT := wm_13 _ (List.mem_of_getElem? (i := 2) rfl)
theorem q_13_3 : Cond.selects RX4 yX4_change yX4_change ∈ WT := wm_13 _ (List.mem_of_getElem? (i := 3) rfl)
theorem q_13_4 : Cond.code yX4_change cX4_change 3 (some .int) ∈ WT := wm_13 _ (List.mem_of_getElem? (i := 4) rfl)
theorem q_13_5 : Cond.methodLink RX4 123 yX4_changes ∈ WT := wm_13 _ (List.mem_of_getElem? (i := 5) rfl)
theorem q_13_6 : Cond.instanceMethod yX4_changes ∈ WT := wm_13 _ (List.mem_of_getElem? (i := 6) rfl)
theorem q_13_7 : Cond.selects RX4 yX4_changes yX4_changes ∈ WT := wm_13 _ (List.mem_of_getElem? (i := 7) rfl)
theorem q_13_8 : Cond.code yX4_changes cX4_changes 4 none ∈ WT := wm_13 _ (List.mem_of_getElem? (i := 8) rfl)
theorem q_13_9 : Cond.methodLink RL 56 yX3_well ∈ WT := wm_13 _ (List.mem_of_getElem? (i := 9) rfl)
theorem q_13_10 : Cond.instanceMethod yX3_well ∈ WT := wm_13 _ (List.mem_of_getElem? (i := 10) rfl)
theorem q_13_11 : Cond.selects RX3 yX3_well yX3_well ∈ WT := wm_13 _ (List.mem_of_getElem? (i := 11) rfl)
theorem q_13_12 : Cond.code yX3_well cX3_well 3 (some .int) ∈ WT := wm_13 _ (List.mem_of_getElem? (i := 12) rfl)
theorem q_13_13 : Cond.methodLink RX3 127 yX0_howWell ∈ WT := wm_13 _ (List.mem_of_getElem? (i := 13) rfl)
theorem q_13_14 : Cond.instanceMethod yX0_howWell ∈ WT := wm_13 _ (List.mem_of_getElem? (i := 14) rfl)
theorem q_13_15 : Cond.selects RX0 yX0_howWell yX0_howWell ∈ WT := wm_13 _ (List.mem_of_getElem? (i := 15) rfl)
theorem q_13_16 : Cond.code yX0_howWell cX0_howWell 4 (some .int) ∈ WT := wm_13 _ (List.mem_of_getElem? (i := 16) rfl)
theorem q_13_17 : Cond.methodLink RX0 79 yX0_likes ∈ WT := wm_13 _ (List.mem_of_getElem? (i := 17) rfl)
theorem q_13_18 : Cond.instanceMethod yX0_likes ∈ WT := wm_13 _ (List.mem_of_getElem? (i := 18) rfl)
theorem q_13_19 : Cond.selects RX0 yX0_likes yX0_likes ∈ WT := wm_13 _ (List.mem_of_getElem? (i := 19) rfl)
theorem q_13_20 : Cond.code yX0_likes cX0_likes 5 (some .int) ∈ WT := wm_13 _ (List.mem_of_getElem? (i := 20) rfl)
theorem q_13_21 : Cond.methodLink RX0 68 yX0_hasSun ∈ WT := wm_13 _ (List.mem_of_getElem? (i := 21) rfl)
theorem q_13_22 : Cond.instanceMethod yX0_hasSun ∈ WT := wm_13 _ (List.mem_of_getElem? (i := 22) rfl)
theorem q_13_23 : Cond.selects RX0 yX0_hasSun yX0_hasSun ∈ WT := wm_13 _ (List.mem_of_getElem? (i := 23) rfl)
theorem q_14_0 : Cond.code yX0_hasSun cX0_hasSun 2 (some .boolean) ∈ WT := wm_14 _ (List.mem_of_getElem? (i := 0) rfl)
theorem q_14_1 : Cond.fieldLink RX0 55 "WindowChairs$Room" "hour" "I" ∈ WT := wm_14 _ (List.mem_of_getElem? (i := 1) rfl)
theorem q_14_2 : Cond.methodLink RX0 83 yX0_minds ∈ WT := wm_14 _ (List.mem_of_getElem? (i := 2) rfl)
theorem q_14_3 : Cond.instanceMethod yX0_minds ∈ WT := wm_14 _ (List.mem_of_getElem? (i := 3) rfl)
theorem q_14_4 : Cond.selects RX0 yX0_minds yX0_minds ∈ WT := wm_14 _ (List.mem_of_getElem? (i := 4) rfl)
theorem q_14_5 : Cond.code yX0_minds cX0_minds 4 (some .int) ∈ WT := wm_14 _ (List.mem_of_getElem? (i := 5) rfl)
theorem q_14_6 : Cond.methodLink RX0 72 yX0_areAtOdds ∈ WT := wm_14 _ (List.mem_of_getElem? (i := 6) rfl)
theorem q_14_7 : Cond.methodLink RL 59 yX4_well ∈ WT := wm_14 _ (List.mem_of_getElem? (i := 7) rfl)
theorem q_14_8 : Cond.instanceMethod yX4_well ∈ WT := wm_14 _ (List.mem_of_getElem? (i := 8) rfl)
theorem q_14_9 : Cond.selects RX4 yX4_well yX4_well ∈ WT := wm_14 _ (List.mem_of_getElem? (i := 9) rfl)
theorem q_14_10 : Cond.code yX4_well cX4_well 3 (some .int) ∈ WT := wm_14 _ (List.mem_of_getElem? (i := 10) rfl)
theorem q_14_11 : Cond.methodLink RX4 141 yX4_sits ∈ WT := wm_14 _ (List.mem_of_getElem? (i := 11) rfl)
theorem q_14_12 : Cond.instanceMethod yX4_sits ∈ WT := wm_14 _ (List.mem_of_getElem? (i := 12) rfl)
theorem q_14_13 : Cond.selects RX4 yX4_sits yX4_sits ∈ WT := wm_14 _ (List.mem_of_getElem? (i := 13) rfl)
theorem q_14_14 : Cond.code yX4_sits cX4_sits 7 (some .int) ∈ WT := wm_14 _ (List.mem_of_getElem? (i := 14) rfl)
theorem q_14_15 : Cond.methodLink RX4 135 yX4_likes ∈ WT := wm_14 _ (List.mem_of_getElem? (i := 15) rfl)
theorem q_14_16 : Cond.instanceMethod yX4_likes ∈ WT := wm_14 _ (List.mem_of_getElem? (i := 16) rfl)
theorem q_14_17 : Cond.selects RX4 yX4_likes yX4_likes ∈ WT := wm_14 _ (List.mem_of_getElem? (i := 17) rfl)
theorem q_14_18 : Cond.code yX4_likes cX4_likes 9 (some .int) ∈ WT := wm_14 _ (List.mem_of_getElem? (i := 18) rfl)
theorem q_14_19 : Cond.methodLink RX4 131 yX4_isSunny ∈ WT := wm_14 _ (List.mem_of_getElem? (i := 19) rfl)
theorem q_14_20 : Cond.instanceMethod yX4_isSunny ∈ WT := wm_14 _ (List.mem_of_getElem? (i := 20) rfl)
theorem q_14_21 : Cond.selects RX4 yX4_isSunny yX4_isSunny ∈ WT := wm_14 _ (List.mem_of_getElem? (i := 21) rfl)
theorem q_14_22 : Cond.code yX4_isSunny cX4_isSunny 1 (some .boolean) ∈ WT := wm_14 _ (List.mem_of_getElem? (i := 22) rfl)
theorem q_14_23 : Cond.methodLink RX4 127 yX4_hourNow ∈ WT := wm_14 _ (List.mem_of_getElem? (i := 23) rfl)
theorem q_15_0 : Cond.instanceMethod yX4_hourNow ∈ WT := wm_15 _ (List.mem_of_getElem? (i := 0) rfl)
theorem q_15_1 : Cond.selects RX4 yX4_hourNow yX4_hourNow ∈ WT := wm_15 _ (List.mem_of_getElem? (i := 1) rfl)
theorem q_15_2 : Cond.code yX4_hourNow cX4_hourNow 1 (some .int) ∈ WT := wm_15 _ (List.mem_of_getElem? (i := 2) rfl)
theorem q_15_3 : Cond.methodLink RX4 138 yX4_minds ∈ WT := wm_15 _ (List.mem_of_getElem? (i := 3) rfl)
theorem q_15_4 : Cond.instanceMethod yX4_minds ∈ WT := wm_15 _ (List.mem_of_getElem? (i := 4) rfl)
theorem q_15_5 : Cond.selects RX4 yX4_minds yX4_minds ∈ WT := wm_15 _ (List.mem_of_getElem? (i := 5) rfl)
theorem q_15_6 : Cond.code yX4_minds cX4_minds 4 (some .int) ∈ WT := wm_15 _ (List.mem_of_getElem? (i := 6) rfl)
theorem q_15_7 : Cond.methodLink RL 60 yX3_hours ∈ WT := wm_15 _ (List.mem_of_getElem? (i := 7) rfl)
theorem q_15_8 : Cond.instanceMethod yX3_hours ∈ WT := wm_15 _ (List.mem_of_getElem? (i := 8) rfl)
theorem q_15_9 : Cond.selects RX3 yX3_hours yX3_hours ∈ WT := wm_15 _ (List.mem_of_getElem? (i := 9) rfl)
theorem q_15_10 : Cond.code yX3_hours cX3_hours 2 (some .int) ∈ WT := wm_15 _ (List.mem_of_getElem? (i := 10) rfl)
theorem q_15_11 : Cond.fieldLink RX3 131 "WindowChairs$Room" "hour" "I" ∈ WT := wm_15 _ (List.mem_of_getElem? (i := 11) rfl)
theorem q_15_12 : Cond.constant RX3 134 (99999) ∈ WT := wm_15 _ (List.mem_of_getElem? (i := 12) rfl)
theorem q_15_13 : Cond.methodLink RX3 135 yX0_pass ∈ WT := wm_15 _ (List.mem_of_getElem? (i := 13) rfl)
theorem q_15_14 : Cond.instanceMethod yX0_pass ∈ WT := wm_15 _ (List.mem_of_getElem? (i := 14) rfl)
theorem q_15_15 : Cond.selects RX0 yX0_pass yX0_pass ∈ WT := wm_15 _ (List.mem_of_getElem? (i := 15) rfl)
theorem q_15_16 : Cond.code yX0_pass cX0_pass 4 (some .int) ∈ WT := wm_15 _ (List.mem_of_getElem? (i := 16) rfl)
theorem q_15_17 : Cond.methodLink RX0 89 yX0_passOne ∈ WT := wm_15 _ (List.mem_of_getElem? (i := 17) rfl)
theorem q_15_18 : Cond.instanceMethod yX0_passOne ∈ WT := wm_15 _ (List.mem_of_getElem? (i := 18) rfl)
theorem q_15_19 : Cond.selects RX0 yX0_passOne yX0_passOne ∈ WT := wm_15 _ (List.mem_of_getElem? (i := 19) rfl)
theorem q_15_20 : Cond.code yX0_passOne cX0_passOne 3 (some .int) ∈ WT := wm_15 _ (List.mem_of_getElem? (i := 20) rfl)
theorem q_15_21 : Cond.methodLink RX0 93 yX0_movesToEmpty ∈ WT := wm_15 _ (List.mem_of_getElem? (i := 21) rfl)
theorem q_15_22 : Cond.instanceMethod yX0_movesToEmpty ∈ WT := wm_15 _ (List.mem_of_getElem? (i := 22) rfl)
theorem q_15_23 : Cond.selects RX0 yX0_movesToEmpty yX0_movesToEmpty ∈ WT := wm_15 _ (List.mem_of_getElem? (i := 23) rfl)
theorem q_16_0 : Cond.code yX0_movesToEmpty cX0_movesToEmpty 6 (some .boolean) ∈ WT := wm_16 _ (List.mem_of_getElem? (i := 0) rfl)
theorem q_16_1 : Cond.methodLink RX0 86 yX0_howWell ∈ WT := wm_16 _ (List.mem_of_getElem? (i := 1) rfl)
theorem q_16_2 : Cond.methodLink RX0 99 yX0_seat ∈ WT := wm_16 _ (List.mem_of_getElem? (i := 2) rfl)
theorem q_16_3 : Cond.methodLink RX0 96 yX0_takesItsClaim ∈ WT := wm_16 _ (List.mem_of_getElem? (i := 3) rfl)
theorem q_16_4 : Cond.instanceMethod yX0_takesItsClaim ∈ WT := wm_16 _ (List.mem_of_getElem? (i := 4) rfl)
theorem q_16_5 : Cond.selects RX0 yX0_takesItsClaim yX0_takesItsClaim ∈ WT := wm_16 _ (List.mem_of_getElem? (i := 5) rfl)
theorem q_16_6 : Cond.code yX0_takesItsClaim cX0_takesItsClaim 4 (some .boolean) ∈ WT := wm_16 _ (List.mem_of_getElem? (i := 6) rfl)
theorem q_16_7 : Cond.methodLink RX0 103 yX0_givesUp ∈ WT := wm_16 _ (List.mem_of_getElem? (i := 7) rfl)
theorem q_16_8 : Cond.methodLink RX0 106 yX0_swap ∈ WT := wm_16 _ (List.mem_of_getElem? (i := 8) rfl)
theorem q_16_9 : Cond.methodLink RL 63 yX4_hours ∈ WT := wm_16 _ (List.mem_of_getElem? (i := 9) rfl)
theorem q_16_10 : Cond.instanceMethod yX4_hours ∈ WT := wm_16 _ (List.mem_of_getElem? (i := 10) rfl)
theorem q_16_11 : Cond.selects RX4 yX4_hours yX4_hours ∈ WT := wm_16 _ (List.mem_of_getElem? (i := 11) rfl)
theorem q_16_12 : Cond.code yX4_hours cX4_hours 2 (some .int) ∈ WT := wm_16 _ (List.mem_of_getElem? (i := 12) rfl)
theorem q_16_13 : Cond.constantLong RX4 153 (60) ∈ WT := wm_16 _ (List.mem_of_getElem? (i := 13) rfl)
theorem q_16_14 : Cond.constant RX4 155 (99999) ∈ WT := wm_16 _ (List.mem_of_getElem? (i := 14) rfl)
theorem q_16_15 : Cond.methodLink RX4 156 yX4_hoursGo ∈ WT := wm_16 _ (List.mem_of_getElem? (i := 15) rfl)
theorem q_16_16 : Cond.instanceMethod yX4_hoursGo ∈ WT := wm_16 _ (List.mem_of_getElem? (i := 16) rfl)
theorem q_16_17 : Cond.selects RX4 yX4_hoursGo yX4_hoursGo ∈ WT := wm_16 _ (List.mem_of_getElem? (i := 17) rfl)
theorem q_16_18 : Cond.code yX4_hoursGo cX4_hoursGo 4 (some .int) ∈ WT := wm_16 _ (List.mem_of_getElem? (i := 18) rfl)
theorem q_16_19 : Cond.methodLink RX4 150 yX4_hour ∈ WT := wm_16 _ (List.mem_of_getElem? (i := 19) rfl)
theorem q_16_20 : Cond.instanceMethod yX4_hour ∈ WT := wm_16 _ (List.mem_of_getElem? (i := 20) rfl)
theorem q_16_21 : Cond.selects RX4 yX4_hour yX4_hour ∈ WT := wm_16 _ (List.mem_of_getElem? (i := 21) rfl)
theorem q_16_22 : Cond.code yX4_hour cX4_hour 3 (some .int) ∈ WT := wm_16 _ (List.mem_of_getElem? (i := 22) rfl)
theorem q_16_23 : Cond.methodLink RX4 147 yX4_moves ∈ WT := wm_16 _ (List.mem_of_getElem? (i := 23) rfl)
theorem q_17_0 : Cond.instanceMethod yX4_moves ∈ WT := wm_17 _ (List.mem_of_getElem? (i := 0) rfl)
theorem q_17_1 : Cond.selects RX4 yX4_moves yX4_moves ∈ WT := wm_17 _ (List.mem_of_getElem? (i := 1) rfl)
theorem q_17_2 : Cond.code yX4_moves cX4_moves 6 (some .int) ∈ WT := wm_17 _ (List.mem_of_getElem? (i := 2) rfl)
theorem q_17_3 : Cond.methodLink RX4 144 yX4_bestEmpty ∈ WT := wm_17 _ (List.mem_of_getElem? (i := 3) rfl)
theorem q_17_4 : Cond.instanceMethod yX4_bestEmpty ∈ WT := wm_17 _ (List.mem_of_getElem? (i := 4) rfl)
theorem q_17_5 : Cond.selects RX4 yX4_bestEmpty yX4_bestEmpty ∈ WT := wm_17 _ (List.mem_of_getElem? (i := 5) rfl)
theorem q_17_6 : Cond.code yX4_bestEmpty cX4_bestEmpty 7 (some .int) ∈ WT := wm_17 _ (List.mem_of_getElem? (i := 6) rfl)
theorem q_17_7 : Cond.methodLink RL 64 yX3_now ∈ WT := wm_17 _ (List.mem_of_getElem? (i := 7) rfl)
theorem q_17_8 : Cond.instanceMethod yX3_now ∈ WT := wm_17 _ (List.mem_of_getElem? (i := 8) rfl)
theorem q_17_9 : Cond.selects RX3 yX3_now yX3_now ∈ WT := wm_17 _ (List.mem_of_getElem? (i := 9) rfl)
theorem q_17_10 : Cond.code yX3_now cX3_now 2 (some .int) ∈ WT := wm_17 _ (List.mem_of_getElem? (i := 10) rfl)
theorem q_17_11 : Cond.methodLink RX3 138 yX0_hasSun ∈ WT := wm_17 _ (List.mem_of_getElem? (i := 11) rfl)
theorem q_17_12 : Cond.methodLink RX3 142 yX0_whoSits ∈ WT := wm_17 _ (List.mem_of_getElem? (i := 12) rfl)
theorem q_17_13 : Cond.instanceMethod yX0_whoSits ∈ WT := wm_17 _ (List.mem_of_getElem? (i := 13) rfl)
theorem q_17_14 : Cond.selects RX0 yX0_whoSits yX0_whoSits ∈ WT := wm_17 _ (List.mem_of_getElem? (i := 14) rfl)
theorem q_17_15 : Cond.code yX0_whoSits cX0_whoSits 3 (some .int) ∈ WT := wm_17 _ (List.mem_of_getElem? (i := 15) rfl)
theorem q_17_16 : Cond.methodLink RX3 146 yX0_together ∈ WT := wm_17 _ (List.mem_of_getElem? (i := 16) rfl)
theorem q_17_17 : Cond.instanceMethod yX0_together ∈ WT := wm_17 _ (List.mem_of_getElem? (i := 17) rfl)
theorem q_17_18 : Cond.selects RX0 yX0_together yX0_together ∈ WT := wm_17 _ (List.mem_of_getElem? (i := 18) rfl)
theorem q_17_19 : Cond.code yX0_together cX0_together 3 (some .int) ∈ WT := wm_17 _ (List.mem_of_getElem? (i := 19) rfl)
theorem q_17_20 : Cond.methodLink RX3 149 yX0_emptyChairs ∈ WT := wm_17 _ (List.mem_of_getElem? (i := 20) rfl)
theorem q_17_21 : Cond.instanceMethod yX0_emptyChairs ∈ WT := wm_17 _ (List.mem_of_getElem? (i := 21) rfl)
theorem q_17_22 : Cond.selects RX0 yX0_emptyChairs yX0_emptyChairs ∈ WT := wm_17 _ (List.mem_of_getElem? (i := 22) rfl)
theorem q_17_23 : Cond.code yX0_emptyChairs cX0_emptyChairs 3 (some .int) ∈ WT := wm_17 _ (List.mem_of_getElem? (i := 23) rfl)
theorem q_18_0 : Cond.methodLink RL 67 yX4_now ∈ WT := wm_18 _ (List.mem_of_getElem? (i := 0) rfl)
theorem q_18_1 : Cond.instanceMethod yX4_now ∈ WT := wm_18 _ (List.mem_of_getElem? (i := 1) rfl)
theorem q_18_2 : Cond.selects RX4 yX4_now yX4_now ∈ WT := wm_18 _ (List.mem_of_getElem? (i := 2) rfl)
theorem q_18_3 : Cond.code yX4_now cX4_now 2 (some .int) ∈ WT := wm_18 _ (List.mem_of_getElem? (i := 3) rfl)
theorem q_18_4 : Cond.methodLink RX4 159 yX4_sitting ∈ WT := wm_18 _ (List.mem_of_getElem? (i := 4) rfl)
theorem q_18_5 : Cond.instanceMethod yX4_sitting ∈ WT := wm_18 _ (List.mem_of_getElem? (i := 5) rfl)
theorem q_18_6 : Cond.selects RX4 yX4_sitting yX4_sitting ∈ WT := wm_18 _ (List.mem_of_getElem? (i := 6) rfl)
theorem q_18_7 : Cond.code yX4_sitting cX4_sitting 3 (some .int) ∈ WT := wm_18 _ (List.mem_of_getElem? (i := 7) rfl)
theorem q_18_8 : Cond.methodLink RX4 162 yX4_peaceNow ∈ WT := wm_18 _ (List.mem_of_getElem? (i := 8) rfl)
theorem q_18_9 : Cond.instanceMethod yX4_peaceNow ∈ WT := wm_18 _ (List.mem_of_getElem? (i := 9) rfl)
theorem q_18_10 : Cond.selects RX4 yX4_peaceNow yX4_peaceNow ∈ WT := wm_18 _ (List.mem_of_getElem? (i := 10) rfl)
theorem q_18_11 : Cond.code yX4_peaceNow cX4_peaceNow 3 (some .int) ∈ WT := wm_18 _ (List.mem_of_getElem? (i := 11) rfl)
theorem q_18_12 : Cond.methodLink RX4 165 yX4_emptyOnes ∈ WT := wm_18 _ (List.mem_of_getElem? (i := 12) rfl)
theorem q_18_13 : Cond.instanceMethod yX4_emptyOnes ∈ WT := wm_18 _ (List.mem_of_getElem? (i := 13) rfl)
theorem q_18_14 : Cond.selects RX4 yX4_emptyOnes yX4_emptyOnes ∈ WT := wm_18 _ (List.mem_of_getElem? (i := 14) rfl)
theorem q_18_15 : Cond.code yX4_emptyOnes cX4_emptyOnes 3 (some .int) ∈ WT := wm_18 _ (List.mem_of_getElem? (i := 15) rfl)
theorem q_18_16 : Cond.methodLink RL 68 yX3_on ∈ WT := wm_18 _ (List.mem_of_getElem? (i := 16) rfl)
theorem q_18_17 : Cond.instanceMethod yX3_on ∈ WT := wm_18 _ (List.mem_of_getElem? (i := 17) rfl)
theorem q_18_18 : Cond.selects RX3 yX3_on yX3_on ∈ WT := wm_18 _ (List.mem_of_getElem? (i := 18) rfl)
theorem q_18_19 : Cond.code yX3_on cX3_on 4 (some .int) ∈ WT := wm_18 _ (List.mem_of_getElem? (i := 19) rfl)
theorem q_18_20 : Cond.methodLink RX3 152 yX0_become ∈ WT := wm_18 _ (List.mem_of_getElem? (i := 20) rfl)
theorem q_18_21 : Cond.instanceMethod yX0_become ∈ WT := wm_18 _ (List.mem_of_getElem? (i := 21) rfl)
theorem q_18_22 : Cond.selects RX0 yX0_become yX0_become ∈ WT := wm_18 _ (List.mem_of_getElem? (i := 22) rfl)
theorem q_18_23 : Cond.code yX0_become cX0_become 2 none ∈ WT := wm_18 _ (List.mem_of_getElem? (i := 23) rfl)
theorem q_19_0 : Cond.methodLink RX0 45 arraycopyName ∈ WT := wm_19 _ (List.mem_of_getElem? (i := 0) rfl)
theorem q_19_1 : Cond.native arraycopyName ∈ WT := wm_19 _ (List.mem_of_getElem? (i := 1) rfl)
theorem q_19_2 : Cond.static arraycopyName ∈ WT := wm_19 _ (List.mem_of_getElem? (i := 2) rfl)
theorem q_19_3 : Cond.initialized "java/lang/System" ∈ WT := wm_19 _ (List.mem_of_getElem? (i := 3) rfl)
theorem q_19_4 : Cond.methodLink RL 71 yX4_on ∈ WT := wm_19 _ (List.mem_of_getElem? (i := 4) rfl)
theorem q_19_5 : Cond.instanceMethod yX4_on ∈ WT := wm_19 _ (List.mem_of_getElem? (i := 5) rfl)
theorem q_19_6 : Cond.selects RX4 yX4_on yX4_on ∈ WT := wm_19 _ (List.mem_of_getElem? (i := 6) rfl)
theorem q_19_7 : Cond.code yX4_on cX4_on 5 (some .int) ∈ WT := wm_19 _ (List.mem_of_getElem? (i := 7) rfl)
theorem q_19_8 : Cond.methodLink RX4 168 yX4_laysAside ∈ WT := wm_19 _ (List.mem_of_getElem? (i := 8) rfl)
theorem q_19_9 : Cond.instanceMethod yX4_laysAside ∈ WT := wm_19 _ (List.mem_of_getElem? (i := 9) rfl)
theorem q_19_10 : Cond.selects RX4 yX4_laysAside yX4_laysAside ∈ WT := wm_19 _ (List.mem_of_getElem? (i := 10) rfl)
theorem q_19_11 : Cond.code yX4_laysAside cX4_laysAside 2 none ∈ WT := wm_19 _ (List.mem_of_getElem? (i := 11) rfl)
theorem q_19_12 : Cond.methodLink RX4 171 yX4_takesBack ∈ WT := wm_19 _ (List.mem_of_getElem? (i := 12) rfl)
theorem q_19_13 : Cond.instanceMethod yX4_takesBack ∈ WT := wm_19 _ (List.mem_of_getElem? (i := 13) rfl)
theorem q_19_14 : Cond.selects RX4 yX4_takesBack yX4_takesBack ∈ WT := wm_19 _ (List.mem_of_getElem? (i := 14) rfl)
theorem q_19_15 : Cond.code yX4_takesBack cX4_takesBack 3 (some .int) ∈ WT := wm_19 _ (List.mem_of_getElem? (i := 15) rfl)
theorem q_19_16 : Cond.methodLink RL 72 yX3_peace ∈ WT := wm_19 _ (List.mem_of_getElem? (i := 16) rfl)
theorem q_19_17 : Cond.instanceMethod yX3_peace ∈ WT := wm_19 _ (List.mem_of_getElem? (i := 17) rfl)
theorem q_19_18 : Cond.selects RX3 yX3_peace yX3_peace ∈ WT := wm_19 _ (List.mem_of_getElem? (i := 18) rfl)
theorem q_19_19 : Cond.code yX3_peace cX3_peace 2 (some .int) ∈ WT := wm_19 _ (List.mem_of_getElem? (i := 19) rfl)
theorem q_19_20 : Cond.methodLink RL 75 yX4_peace ∈ WT := wm_19 _ (List.mem_of_getElem? (i := 20) rfl)
theorem q_19_21 : Cond.instanceMethod yX4_peace ∈ WT := wm_19 _ (List.mem_of_getElem? (i := 21) rfl)
theorem q_19_22 : Cond.selects RX4 yX4_peace yX4_peace ∈ WT := wm_19 _ (List.mem_of_getElem? (i := 22) rfl)
theorem q_19_23 : Cond.code yX4_peace cX4_peace 2 (some .int) ∈ WT := wm_19 _ (List.mem_of_getElem? (i := 23) rfl)
theorem q_20_0 : Cond.methodLink RX4 174 yX4_peaceIn ∈ WT := wm_20 _ (List.mem_of_getElem? (i := 0) rfl)
theorem q_20_1 : Cond.instanceMethod yX4_peaceIn ∈ WT := wm_20 _ (List.mem_of_getElem? (i := 1) rfl)
theorem q_20_2 : Cond.selects RX4 yX4_peaceIn yX4_peaceIn ∈ WT := wm_20 _ (List.mem_of_getElem? (i := 2) rfl)
theorem q_20_3 : Cond.code yX4_peaceIn cX4_peaceIn 3 (some .int) ∈ WT := wm_20 _ (List.mem_of_getElem? (i := 3) rfl)
theorem q_20_4 : Cond.methodLink RL 76 yX3_settles ∈ WT := wm_20 _ (List.mem_of_getElem? (i := 4) rfl)
theorem q_20_5 : Cond.instanceMethod yX3_settles ∈ WT := wm_20 _ (List.mem_of_getElem? (i := 5) rfl)
theorem q_20_6 : Cond.selects RX3 yX3_settles yX3_settles ∈ WT := wm_20 _ (List.mem_of_getElem? (i := 6) rfl)
theorem q_20_7 : Cond.code yX3_settles cX3_settles 2 (some .int) ∈ WT := wm_20 _ (List.mem_of_getElem? (i := 7) rfl)
theorem q_20_8 : Cond.methodLink RX3 156 yX0_passOne ∈ WT := wm_20 _ (List.mem_of_getElem? (i := 8) rfl)
theorem q_20_9 : Cond.methodLink RL 80 yX4_settles ∈ WT := wm_20 _ (List.mem_of_getElem? (i := 9) rfl)
theorem q_20_10 : Cond.instanceMethod yX4_settles ∈ WT := wm_20 _ (List.mem_of_getElem? (i := 10) rfl)
theorem q_20_11 : Cond.selects RX4 yX4_settles yX4_settles ∈ WT := wm_20 _ (List.mem_of_getElem? (i := 11) rfl)
theorem q_20_12 : Cond.code yX4_settles cX4_settles 3 (some .int) ∈ WT := wm_20 _ (List.mem_of_getElem? (i := 12) rfl)
theorem q_20_13 : Cond.constant RX4 177 (-1000000004) ∈ WT := wm_20 _ (List.mem_of_getElem? (i := 13) rfl)
theorem q_20_14 : Cond.methodLink RL 81 yX3_gets ∈ WT := wm_20 _ (List.mem_of_getElem? (i := 14) rfl)
theorem q_20_15 : Cond.instanceMethod yX3_gets ∈ WT := wm_20 _ (List.mem_of_getElem? (i := 15) rfl)
theorem q_20_16 : Cond.selects RX3 yX3_gets yX3_gets ∈ WT := wm_20 _ (List.mem_of_getElem? (i := 16) rfl)
theorem q_20_17 : Cond.code yX3_gets cX3_gets 4 (some .int) ∈ WT := wm_20 _ (List.mem_of_getElem? (i := 17) rfl)
theorem q_20_18 : Cond.methodLink RL 84 yX4_gets ∈ WT := wm_20 _ (List.mem_of_getElem? (i := 18) rfl)
theorem q_20_19 : Cond.instanceMethod yX4_gets ∈ WT := wm_20 _ (List.mem_of_getElem? (i := 19) rfl)
theorem q_20_20 : Cond.selects RX4 yX4_gets yX4_gets ∈ WT := wm_20 _ (List.mem_of_getElem? (i := 20) rfl)
theorem q_20_21 : Cond.code yX4_gets cX4_gets 5 (some .int) ∈ WT := wm_20 _ (List.mem_of_getElem? (i := 21) rfl)
theorem q_20_22 : Cond.methodLink RL 85 yX3_best ∈ WT := wm_20 _ (List.mem_of_getElem? (i := 22) rfl)
theorem q_20_23 : Cond.instanceMethod yX3_best ∈ WT := wm_20 _ (List.mem_of_getElem? (i := 23) rfl)
theorem q_21_0 : Cond.selects RX3 yX3_best yX3_best ∈ WT := wm_21 _ (List.mem_of_getElem? (i := 0) rfl)
theorem q_21_1 : Cond.code yX3_best cX3_best 3 (some .int) ∈ WT := wm_21 _ (List.mem_of_getElem? (i := 1) rfl)
theorem q_21_2 : Cond.methodLink RX3 159 yX3_mostPeace ∈ WT := wm_21 _ (List.mem_of_getElem? (i := 2) rfl)
theorem q_21_3 : Cond.instanceMethod yX3_mostPeace ∈ WT := wm_21 _ (List.mem_of_getElem? (i := 3) rfl)
theorem q_21_4 : Cond.selects RX3 yX3_mostPeace yX3_mostPeace ∈ WT := wm_21 _ (List.mem_of_getElem? (i := 4) rfl)
theorem q_21_5 : Cond.code yX3_mostPeace cX3_mostPeace 5 (some .int) ∈ WT := wm_21 _ (List.mem_of_getElem? (i := 5) rfl)
theorem q_21_6 : Cond.methodLink RX3 235 Lib.Math.max.name ∈ WT := wm_21 _ (List.mem_of_getElem? (i := 6) rfl)
theorem q_21_7 : Cond.static Lib.Math.max.name ∈ WT := wm_21 _ (List.mem_of_getElem? (i := 7) rfl)
theorem q_21_8 : Cond.initialized "java/lang/Math" ∈ WT := wm_21 _ (List.mem_of_getElem? (i := 8) rfl)
theorem q_21_9 : Cond.code Lib.Math.max.name Lib.Math.max.code 2 (some .int) ∈ WT := wm_21 _ (List.mem_of_getElem? (i := 9) rfl)
theorem q_21_10 : Cond.methodLink RL 88 yX4_best ∈ WT := wm_21 _ (List.mem_of_getElem? (i := 10) rfl)
theorem q_21_11 : Cond.instanceMethod yX4_best ∈ WT := wm_21 _ (List.mem_of_getElem? (i := 11) rfl)
theorem q_21_12 : Cond.selects RX4 yX4_best yX4_best ∈ WT := wm_21 _ (List.mem_of_getElem? (i := 12) rfl)
theorem q_21_13 : Cond.code yX4_best cX4_best 3 (some .int) ∈ WT := wm_21 _ (List.mem_of_getElem? (i := 13) rfl)
theorem q_21_14 : Cond.constant RX4 188 (-1000000007) ∈ WT := wm_21 _ (List.mem_of_getElem? (i := 14) rfl)
theorem q_21_15 : Cond.fieldLink RX4 189 "WindowChairsModel" "takenMany" "I" ∈ WT := wm_21 _ (List.mem_of_getElem? (i := 15) rfl)
theorem q_21_16 : Cond.fieldLink RX4 178 "WindowChairsModel" "mostPeace" "I" ∈ WT := wm_21 _ (List.mem_of_getElem? (i := 16) rfl)
theorem q_21_17 : Cond.methodLink RX4 185 yX4_ones ∈ WT := wm_21 _ (List.mem_of_getElem? (i := 17) rfl)
theorem q_21_18 : Cond.static yX4_ones ∈ WT := wm_21 _ (List.mem_of_getElem? (i := 18) rfl)
theorem q_21_19 : Cond.code yX4_ones cX4_ones 3 (some .int) ∈ WT := wm_21 _ (List.mem_of_getElem? (i := 19) rfl)
theorem q_21_20 : Cond.methodLink RX4 182 yX4_places ∈ WT := wm_21 _ (List.mem_of_getElem? (i := 20) rfl)
theorem q_21_21 : Cond.instanceMethod yX4_places ∈ WT := wm_21 _ (List.mem_of_getElem? (i := 21) rfl)
theorem q_21_22 : Cond.selects RX4 yX4_places yX4_places ∈ WT := wm_21 _ (List.mem_of_getElem? (i := 22) rfl)
theorem q_21_23 : Cond.code yX4_places cX4_places 4 none ∈ WT := wm_21 _ (List.mem_of_getElem? (i := 23) rfl)
theorem q_22_0 : Cond.methodLink RL 89 yX3_mend ∈ WT := wm_22 _ (List.mem_of_getElem? (i := 0) rfl)
theorem q_22_1 : Cond.instanceMethod yX3_mend ∈ WT := wm_22 _ (List.mem_of_getElem? (i := 1) rfl)
theorem q_22_2 : Cond.selects RX3 yX3_mend yX3_mend ∈ WT := wm_22 _ (List.mem_of_getElem? (i := 2) rfl)
theorem q_22_3 : Cond.code yX3_mend cX3_mend 6 (some .int) ∈ WT := wm_22 _ (List.mem_of_getElem? (i := 3) rfl)
theorem q_22_4 : Cond.methodLink RL 92 yX4_mend ∈ WT := wm_22 _ (List.mem_of_getElem? (i := 4) rfl)
theorem q_22_5 : Cond.instanceMethod yX4_mend ∈ WT := wm_22 _ (List.mem_of_getElem? (i := 5) rfl)
theorem q_22_6 : Cond.selects RX4 yX4_mend yX4_mend ∈ WT := wm_22 _ (List.mem_of_getElem? (i := 6) rfl)
theorem q_22_7 : Cond.code yX4_mend cX4_mend 7 (some .int) ∈ WT := wm_22 _ (List.mem_of_getElem? (i := 7) rfl)
theorem q_22_8 : Cond.methodLink RX4 194 yX4_isSoon ∈ WT := wm_22 _ (List.mem_of_getElem? (i := 8) rfl)
theorem q_22_9 : Cond.static yX4_isSoon ∈ WT := wm_22 _ (List.mem_of_getElem? (i := 9) rfl)
theorem q_22_10 : Cond.code yX4_isSoon cX4_isSoon 1 (some .boolean) ∈ WT := wm_22 _ (List.mem_of_getElem? (i := 10) rfl)
theorem q_22_11 : Cond.constantLong RX4 192 (30) ∈ WT := wm_22 _ (List.mem_of_getElem? (i := 11) rfl)
theorem q_22_12 : Cond.methodLink RL 93 yX3_kind ∈ WT := wm_22 _ (List.mem_of_getElem? (i := 12) rfl)
theorem q_22_13 : Cond.instanceMethod yX3_kind ∈ WT := wm_22 _ (List.mem_of_getElem? (i := 13) rfl)
theorem q_22_14 : Cond.selects RX3 yX3_kind yX3_kind ∈ WT := wm_22 _ (List.mem_of_getElem? (i := 14) rfl)
theorem q_22_15 : Cond.code yX3_kind cX3_kind 7 (some .int) ∈ WT := wm_22 _ (List.mem_of_getElem? (i := 15) rfl)
theorem q_22_16 : Cond.methodLink RX3 162 yX0_howWellNow ∈ WT := wm_22 _ (List.mem_of_getElem? (i := 16) rfl)
theorem q_22_17 : Cond.instanceMethod yX0_howWellNow ∈ WT := wm_22 _ (List.mem_of_getElem? (i := 17) rfl)
theorem q_22_18 : Cond.selects RX0 yX0_howWellNow yX0_howWellNow ∈ WT := wm_22 _ (List.mem_of_getElem? (i := 18) rfl)
theorem q_22_19 : Cond.code yX0_howWellNow cX0_howWellNow 2 (some .int) ∈ WT := wm_22 _ (List.mem_of_getElem? (i := 19) rfl)
theorem q_22_20 : Cond.methodLink RL 96 yX4_kind ∈ WT := wm_22 _ (List.mem_of_getElem? (i := 20) rfl)
theorem q_22_21 : Cond.instanceMethod yX4_kind ∈ WT := wm_22 _ (List.mem_of_getElem? (i := 21) rfl)
theorem q_22_22 : Cond.selects RX4 yX4_kind yX4_kind ∈ WT := wm_22 _ (List.mem_of_getElem? (i := 22) rfl)
theorem q_22_23 : Cond.code yX4_kind cX4_kind 3 (some .int) ∈ WT := wm_22 _ (List.mem_of_getElem? (i := 23) rfl)
theorem q_23_0 : Cond.methodLink RX4 200 yX4_bestBy ∈ WT := wm_23 _ (List.mem_of_getElem? (i := 0) rfl)
theorem q_23_1 : Cond.instanceMethod yX4_bestBy ∈ WT := wm_23 _ (List.mem_of_getElem? (i := 1) rfl)
theorem q_23_2 : Cond.selects RX4 yX4_bestBy yX4_bestBy ∈ WT := wm_23 _ (List.mem_of_getElem? (i := 2) rfl)
theorem q_23_3 : Cond.code yX4_bestBy cX4_bestBy 11 (some .int) ∈ WT := wm_23 _ (List.mem_of_getElem? (i := 3) rfl)
theorem q_23_4 : Cond.methodLink RX4 197 yX4_wellIn ∈ WT := wm_23 _ (List.mem_of_getElem? (i := 4) rfl)
theorem q_23_5 : Cond.instanceMethod yX4_wellIn ∈ WT := wm_23 _ (List.mem_of_getElem? (i := 5) rfl)
theorem q_23_6 : Cond.selects RX4 yX4_wellIn yX4_wellIn ∈ WT := wm_23 _ (List.mem_of_getElem? (i := 6) rfl)
theorem q_23_7 : Cond.code yX4_wellIn cX4_wellIn 4 (some .int) ∈ WT := wm_23 _ (List.mem_of_getElem? (i := 7) rfl)
theorem q_23_8 : Cond.methodLink RL 97 yX3_claim ∈ WT := wm_23 _ (List.mem_of_getElem? (i := 8) rfl)
theorem q_23_9 : Cond.instanceMethod yX3_claim ∈ WT := wm_23 _ (List.mem_of_getElem? (i := 9) rfl)
theorem q_23_10 : Cond.selects RX3 yX3_claim yX3_claim ∈ WT := wm_23 _ (List.mem_of_getElem? (i := 10) rfl)
theorem q_23_11 : Cond.code yX3_claim cX3_claim 7 (some .int) ∈ WT := wm_23 _ (List.mem_of_getElem? (i := 11) rfl)
theorem q_23_12 : Cond.methodLink RL 100 yX4_claim ∈ WT := wm_23 _ (List.mem_of_getElem? (i := 12) rfl)
theorem q_23_13 : Cond.instanceMethod yX4_claim ∈ WT := wm_23 _ (List.mem_of_getElem? (i := 13) rfl)
theorem q_23_14 : Cond.selects RX4 yX4_claim yX4_claim ∈ WT := wm_23 _ (List.mem_of_getElem? (i := 14) rfl)
theorem q_23_15 : Cond.code yX4_claim cX4_claim 3 (some .int) ∈ WT := wm_23 _ (List.mem_of_getElem? (i := 15) rfl)
theorem q_23_16 : Cond.methodLink RL 101 yX3_years ∈ WT := wm_23 _ (List.mem_of_getElem? (i := 16) rfl)
theorem q_23_17 : Cond.instanceMethod yX3_years ∈ WT := wm_23 _ (List.mem_of_getElem? (i := 17) rfl)
theorem q_23_18 : Cond.selects RX3 yX3_years yX3_years ∈ WT := wm_23 _ (List.mem_of_getElem? (i := 18) rfl)
theorem q_23_19 : Cond.code yX3_years cX3_years 5 (some .int) ∈ WT := wm_23 _ (List.mem_of_getElem? (i := 19) rfl)
theorem q_23_20 : Cond.methodLink RL 104 yX4_years ∈ WT := wm_23 _ (List.mem_of_getElem? (i := 20) rfl)
theorem q_23_21 : Cond.instanceMethod yX4_years ∈ WT := wm_23 _ (List.mem_of_getElem? (i := 21) rfl)
theorem q_23_22 : Cond.selects RX4 yX4_years yX4_years ∈ WT := wm_23 _ (List.mem_of_getElem? (i := 22) rfl)
theorem q_23_23 : Cond.code yX4_years cX4_years 7 (some .int) ∈ WT := wm_23 _ (List.mem_of_getElem? (i := 23) rfl)
theorem q_24_0 : Cond.methodLink RL 105 yX3_always ∈ WT := wm_24 _ (List.mem_of_getElem? (i := 0) rfl)
theorem q_24_1 : Cond.instanceMethod yX3_always ∈ WT := wm_24 _ (List.mem_of_getElem? (i := 1) rfl)
theorem q_24_2 : Cond.selects RX3 yX3_always yX3_always ∈ WT := wm_24 _ (List.mem_of_getElem? (i := 2) rfl)
theorem q_24_3 : Cond.code yX3_always cX3_always 4 (some .int) ∈ WT := wm_24 _ (List.mem_of_getElem? (i := 3) rfl)
theorem q_24_4 : Cond.methodLink RL 108 yX4_always ∈ WT := wm_24 _ (List.mem_of_getElem? (i := 4) rfl)
theorem q_24_5 : Cond.instanceMethod yX4_always ∈ WT := wm_24 _ (List.mem_of_getElem? (i := 5) rfl)
theorem q_24_6 : Cond.selects RX4 yX4_always yX4_always ∈ WT := wm_24 _ (List.mem_of_getElem? (i := 6) rfl)
theorem q_24_7 : Cond.code yX4_always cX4_always 5 (some .int) ∈ WT := wm_24 _ (List.mem_of_getElem? (i := 7) rfl)
theorem q_24_8 : Cond.methodLink RL 109 yX3_beside ∈ WT := wm_24 _ (List.mem_of_getElem? (i := 8) rfl)
theorem q_24_9 : Cond.instanceMethod yX3_beside ∈ WT := wm_24 _ (List.mem_of_getElem? (i := 9) rfl)
theorem q_24_10 : Cond.selects RX3 yX3_beside yX3_beside ∈ WT := wm_24 _ (List.mem_of_getElem? (i := 10) rfl)
theorem q_24_11 : Cond.code yX3_beside cX3_beside 6 (some .int) ∈ WT := wm_24 _ (List.mem_of_getElem? (i := 11) rfl)
theorem q_24_12 : Cond.methodLink RX3 165 yX0_isFreeFor ∈ WT := wm_24 _ (List.mem_of_getElem? (i := 12) rfl)
theorem q_24_13 : Cond.instanceMethod yX0_isFreeFor ∈ WT := wm_24 _ (List.mem_of_getElem? (i := 13) rfl)
theorem q_24_14 : Cond.selects RX0 yX0_isFreeFor yX0_isFreeFor ∈ WT := wm_24 _ (List.mem_of_getElem? (i := 14) rfl)
theorem q_24_15 : Cond.code yX0_isFreeFor cX0_isFreeFor 3 (some .boolean) ∈ WT := wm_24 _ (List.mem_of_getElem? (i := 15) rfl)
theorem q_24_16 : Cond.methodLink RL 112 yX4_beside ∈ WT := wm_24 _ (List.mem_of_getElem? (i := 16) rfl)
theorem q_24_17 : Cond.instanceMethod yX4_beside ∈ WT := wm_24 _ (List.mem_of_getElem? (i := 17) rfl)
theorem q_24_18 : Cond.selects RX4 yX4_beside yX4_beside ∈ WT := wm_24 _ (List.mem_of_getElem? (i := 18) rfl)
theorem q_24_19 : Cond.code yX4_beside cX4_beside 9 (some .int) ∈ WT := wm_24 _ (List.mem_of_getElem? (i := 19) rfl)
theorem q_24_20 : Cond.methodLink RL 113 yX3_feed ∈ WT := wm_24 _ (List.mem_of_getElem? (i := 20) rfl)
theorem q_24_21 : Cond.instanceMethod yX3_feed ∈ WT := wm_24 _ (List.mem_of_getElem? (i := 21) rfl)
theorem q_24_22 : Cond.selects RX3 yX3_feed yX3_feed ∈ WT := wm_24 _ (List.mem_of_getElem? (i := 22) rfl)
theorem q_24_23 : Cond.code yX3_feed cX3_feed 4 (some .int) ∈ WT := wm_24 _ (List.mem_of_getElem? (i := 23) rfl)
theorem q_25_0 : Cond.fieldLink RX3 168 "WindowChairs$Text" "length" "I" ∈ WT := wm_25 _ (List.mem_of_getElem? (i := 0) rfl)
theorem q_25_1 : Cond.methodLink RX3 171 yX2_append ∈ WT := wm_25 _ (List.mem_of_getElem? (i := 1) rfl)
theorem q_25_2 : Cond.instanceMethod yX2_append ∈ WT := wm_25 _ (List.mem_of_getElem? (i := 2) rfl)
theorem q_25_3 : Cond.selects RX2 yX2_append yX2_append ∈ WT := wm_25 _ (List.mem_of_getElem? (i := 3) rfl)
theorem q_25_4 : Cond.code yX2_append cX2_append 2 none ∈ WT := wm_25 _ (List.mem_of_getElem? (i := 4) rfl)
theorem q_25_5 : Cond.fieldLink RX2 15 "WindowChairs$Text" "length" "I" ∈ WT := wm_25 _ (List.mem_of_getElem? (i := 5) rfl)
theorem q_25_6 : Cond.methodLink RL 116 yX4_feed ∈ WT := wm_25 _ (List.mem_of_getElem? (i := 6) rfl)
theorem q_25_7 : Cond.instanceMethod yX4_feed ∈ WT := wm_25 _ (List.mem_of_getElem? (i := 7) rfl)
theorem q_25_8 : Cond.selects RX4 yX4_feed yX4_feed ∈ WT := wm_25 _ (List.mem_of_getElem? (i := 8) rfl)
theorem q_25_9 : Cond.code yX4_feed cX4_feed 4 (some .int) ∈ WT := wm_25 _ (List.mem_of_getElem? (i := 9) rfl)
theorem q_25_10 : Cond.constantLong RX4 204 (4) ∈ WT := wm_25 _ (List.mem_of_getElem? (i := 10) rfl)
theorem q_25_11 : Cond.fieldLink RX4 206 "WindowChairsModel" "taped" "I" ∈ WT := wm_25 _ (List.mem_of_getElem? (i := 11) rfl)
theorem q_25_12 : Cond.methodLink RL 117 yX3_wipe ∈ WT := wm_25 _ (List.mem_of_getElem? (i := 12) rfl)
theorem q_25_13 : Cond.instanceMethod yX3_wipe ∈ WT := wm_25 _ (List.mem_of_getElem? (i := 13) rfl)
theorem q_25_14 : Cond.selects RX3 yX3_wipe yX3_wipe ∈ WT := wm_25 _ (List.mem_of_getElem? (i := 14) rfl)
theorem q_25_15 : Cond.code yX3_wipe cX3_wipe 2 (some .int) ∈ WT := wm_25 _ (List.mem_of_getElem? (i := 15) rfl)
theorem q_25_16 : Cond.methodLink RL 120 yX4_wipe ∈ WT := wm_25 _ (List.mem_of_getElem? (i := 16) rfl)
theorem q_25_17 : Cond.instanceMethod yX4_wipe ∈ WT := wm_25 _ (List.mem_of_getElem? (i := 17) rfl)
theorem q_25_18 : Cond.selects RX4 yX4_wipe yX4_wipe ∈ WT := wm_25 _ (List.mem_of_getElem? (i := 18) rfl)
theorem q_25_19 : Cond.code yX4_wipe cX4_wipe 2 (some .int) ∈ WT := wm_25 _ (List.mem_of_getElem? (i := 19) rfl)
theorem q_25_20 : Cond.methodLink RL 121 yX3_room ∈ WT := wm_25 _ (List.mem_of_getElem? (i := 20) rfl)
theorem q_25_21 : Cond.instanceMethod yX3_room ∈ WT := wm_25 _ (List.mem_of_getElem? (i := 21) rfl)
theorem q_25_22 : Cond.selects RX3 yX3_room yX3_room ∈ WT := wm_25 _ (List.mem_of_getElem? (i := 22) rfl)
theorem q_25_23 : Cond.code yX3_room cX3_room 2 (some .int) ∈ WT := wm_25 _ (List.mem_of_getElem? (i := 23) rfl)
theorem q_26_0 : Cond.fieldLink RX3 179 "WindowChairs$Text" "place" "I" ∈ WT := wm_26 _ (List.mem_of_getElem? (i := 0) rfl)
theorem q_26_1 : Cond.fieldLink RX3 182 "WindowChairs$Text" "items" "I" ∈ WT := wm_26 _ (List.mem_of_getElem? (i := 1) rfl)
theorem q_26_2 : Cond.methodLink RX3 175 yX2_comesTo ∈ WT := wm_26 _ (List.mem_of_getElem? (i := 2) rfl)
theorem q_26_3 : Cond.instanceMethod yX2_comesTo ∈ WT := wm_26 _ (List.mem_of_getElem? (i := 3) rfl)
theorem q_26_4 : Cond.selects RX2 yX2_comesTo yX2_comesTo ∈ WT := wm_26 _ (List.mem_of_getElem? (i := 4) rfl)
theorem q_26_5 : Cond.code yX2_comesTo cX2_comesTo 3 (some .boolean) ∈ WT := wm_26 _ (List.mem_of_getElem? (i := 5) rfl)
theorem q_26_6 : Cond.fieldLink RX2 19 "WindowChairs$Text" "items" "I" ∈ WT := wm_26 _ (List.mem_of_getElem? (i := 6) rfl)
theorem q_26_7 : Cond.fieldLink RX2 22 "WindowChairs$Text" "end" "I" ∈ WT := wm_26 _ (List.mem_of_getElem? (i := 7) rfl)
theorem q_26_8 : Cond.fieldLink RX2 32 "WindowChairs$Text" "token" "I" ∈ WT := wm_26 _ (List.mem_of_getElem? (i := 8) rfl)
theorem q_26_9 : Cond.methodLink RX2 25 yX2_step ∈ WT := wm_26 _ (List.mem_of_getElem? (i := 9) rfl)
theorem q_26_10 : Cond.instanceMethod yX2_step ∈ WT := wm_26 _ (List.mem_of_getElem? (i := 10) rfl)
theorem q_26_11 : Cond.selects RX2 yX2_step yX2_step ∈ WT := wm_26 _ (List.mem_of_getElem? (i := 11) rfl)
theorem q_26_12 : Cond.code yX2_step cX2_step 1 none ∈ WT := wm_26 _ (List.mem_of_getElem? (i := 12) rfl)
theorem q_26_13 : Cond.fieldLink RX2 35 "WindowChairs$Text" "place" "I" ∈ WT := wm_26 _ (List.mem_of_getElem? (i := 13) rfl)
theorem q_26_14 : Cond.fieldLink RX2 42 "WindowChairs$Text" "number" "I" ∈ WT := wm_26 _ (List.mem_of_getElem? (i := 14) rfl)
theorem q_26_15 : Cond.methodLink RX2 45 Lib.Math.min.name ∈ WT := wm_26 _ (List.mem_of_getElem? (i := 15) rfl)
theorem q_26_16 : Cond.static Lib.Math.min.name ∈ WT := wm_26 _ (List.mem_of_getElem? (i := 16) rfl)
theorem q_26_17 : Cond.code Lib.Math.min.name Lib.Math.min.code 2 (some .int) ∈ WT := wm_26 _ (List.mem_of_getElem? (i := 17) rfl)
theorem q_26_18 : Cond.methodLink RX2 38 yX2_sortAt ∈ WT := wm_26 _ (List.mem_of_getElem? (i := 18) rfl)
theorem q_26_19 : Cond.instanceMethod yX2_sortAt ∈ WT := wm_26 _ (List.mem_of_getElem? (i := 19) rfl)
theorem q_26_20 : Cond.selects RX2 yX2_sortAt yX2_sortAt ∈ WT := wm_26 _ (List.mem_of_getElem? (i := 20) rfl)
theorem q_26_21 : Cond.code yX2_sortAt cX2_sortAt 3 (some .int) ∈ WT := wm_26 _ (List.mem_of_getElem? (i := 21) rfl)
theorem q_26_22 : Cond.methodLink RX2 28 yX2_takesItem ∈ WT := wm_26 _ (List.mem_of_getElem? (i := 22) rfl)
theorem q_26_23 : Cond.instanceMethod yX2_takesItem ∈ WT := wm_26 _ (List.mem_of_getElem? (i := 23) rfl)
theorem q_27_0 : Cond.selects RX2 yX2_takesItem yX2_takesItem ∈ WT := wm_27 _ (List.mem_of_getElem? (i := 0) rfl)
theorem q_27_1 : Cond.code yX2_takesItem cX2_takesItem 3 (some .boolean) ∈ WT := wm_27 _ (List.mem_of_getElem? (i := 1) rfl)
theorem q_27_2 : Cond.methodLink RX2 60 yX2_kindNamed ∈ WT := wm_27 _ (List.mem_of_getElem? (i := 2) rfl)
theorem q_27_3 : Cond.instanceMethod yX2_kindNamed ∈ WT := wm_27 _ (List.mem_of_getElem? (i := 3) rfl)
theorem q_27_4 : Cond.selects RX2 yX2_kindNamed yX2_kindNamed ∈ WT := wm_27 _ (List.mem_of_getElem? (i := 4) rfl)
theorem q_27_5 : Cond.code yX2_kindNamed cX2_kindNamed 2 (some .int) ∈ WT := wm_27 _ (List.mem_of_getElem? (i := 5) rfl)
theorem q_27_6 : Cond.methodLink RX2 88 yX2_nameOf ∈ WT := wm_27 _ (List.mem_of_getElem? (i := 6) rfl)
theorem q_27_7 : Cond.static yX2_nameOf ∈ WT := wm_27 _ (List.mem_of_getElem? (i := 7) rfl)
theorem q_27_8 : Cond.code yX2_nameOf cX2_nameOf 1 (some (.object "java/lang/String")) ∈ WT := wm_27 _ (List.mem_of_getElem? (i := 8) rfl)
theorem q_27_9 : Cond.methodLink RX2 73 yX2_isWord ∈ WT := wm_27 _ (List.mem_of_getElem? (i := 9) rfl)
theorem q_27_10 : Cond.instanceMethod yX2_isWord ∈ WT := wm_27 _ (List.mem_of_getElem? (i := 10) rfl)
theorem q_27_11 : Cond.selects RX2 yX2_isWord yX2_isWord ∈ WT := wm_27 _ (List.mem_of_getElem? (i := 11) rfl)
theorem q_27_12 : Cond.code yX2_isWord cX2_isWord 3 (some .boolean) ∈ WT := wm_27 _ (List.mem_of_getElem? (i := 12) rfl)
theorem q_27_13 : Cond.methodLink RX2 51 yJ0_length_8abf5 ∈ WT := wm_27 _ (List.mem_of_getElem? (i := 13) rfl)
theorem q_27_14 : Cond.instanceMethod yJ0_length_8abf5 ∈ WT := wm_27 _ (List.mem_of_getElem? (i := 14) rfl)
theorem q_27_15 : Cond.selects RJ0 yJ0_length_8abf5 yJ0_length_8abf5 ∈ WT := wm_27 _ (List.mem_of_getElem? (i := 15) rfl)
theorem q_27_16 : Cond.initialized RJ0 ∈ WT := wm_27 _ (List.mem_of_getElem? (i := 16) rfl)
theorem q_27_17 : Cond.code yJ0_length_8abf5 cJ0_length_8abf5 1 (some .int) ∈ WT := wm_27 _ (List.mem_of_getElem? (i := 17) rfl)
theorem q_27_18 : Cond.fieldLink RJ0 9 "java/lang/String" "value" "[B" ∈ WT := wm_27 _ (List.mem_of_getElem? (i := 18) rfl)
theorem q_27_19 : Cond.methodLink RJ0 335 yJ0_coder_7d493 ∈ WT := wm_27 _ (List.mem_of_getElem? (i := 19) rfl)
theorem q_27_20 : Cond.instanceMethod yJ0_coder_7d493 ∈ WT := wm_27 _ (List.mem_of_getElem? (i := 20) rfl)
theorem q_27_21 : Cond.selects RJ0 yJ0_coder_7d493 yJ0_coder_7d493 ∈ WT := wm_27 _ (List.mem_of_getElem? (i := 21) rfl)
theorem q_27_22 : Cond.code yJ0_coder_7d493 cJ0_coder_7d493 1 (some .byte) ∈ WT := wm_27 _ (List.mem_of_getElem? (i := 22) rfl)
theorem q_27_23 : Cond.fieldLink RJ0 38 "java/lang/String" "COMPACT_STRINGS" "Z" ∈ WT := wm_27 _ (List.mem_of_getElem? (i := 23) rfl)
theorem q_28_0 : Cond.fieldLink RJ0 15 "java/lang/String" "coder" "B" ∈ WT := wm_28 _ (List.mem_of_getElem? (i := 0) rfl)
theorem q_28_1 : Cond.methodLink RX2 56 yJ0_charAt_5068e ∈ WT := wm_28 _ (List.mem_of_getElem? (i := 1) rfl)
theorem q_28_2 : Cond.instanceMethod yJ0_charAt_5068e ∈ WT := wm_28 _ (List.mem_of_getElem? (i := 2) rfl)
theorem q_28_3 : Cond.selects RJ0 yJ0_charAt_5068e yJ0_charAt_5068e ∈ WT := wm_28 _ (List.mem_of_getElem? (i := 3) rfl)
theorem q_28_4 : Cond.code yJ0_charAt_5068e cJ0_charAt_5068e 2 (some .char) ∈ WT := wm_28 _ (List.mem_of_getElem? (i := 4) rfl)
theorem q_28_5 : Cond.methodLink RJ0 492 yJ0_isLatin1_aae02 ∈ WT := wm_28 _ (List.mem_of_getElem? (i := 5) rfl)
theorem q_28_6 : Cond.instanceMethod yJ0_isLatin1_aae02 ∈ WT := wm_28 _ (List.mem_of_getElem? (i := 6) rfl)
theorem q_28_7 : Cond.selects RJ0 yJ0_isLatin1_aae02 yJ0_isLatin1_aae02 ∈ WT := wm_28 _ (List.mem_of_getElem? (i := 7) rfl)
theorem q_28_8 : Cond.code yJ0_isLatin1_aae02 cJ0_isLatin1_aae02 1 (some .boolean) ∈ WT := wm_28 _ (List.mem_of_getElem? (i := 8) rfl)
theorem q_28_9 : Cond.methodLink RJ0 495 yJ1_charAt_3b067 ∈ WT := wm_28 _ (List.mem_of_getElem? (i := 9) rfl)
theorem q_28_10 : Cond.static yJ1_charAt_3b067 ∈ WT := wm_28 _ (List.mem_of_getElem? (i := 10) rfl)
theorem q_28_11 : Cond.initialized RJ1 ∈ WT := wm_28 _ (List.mem_of_getElem? (i := 11) rfl)
theorem q_28_12 : Cond.code yJ1_charAt_3b067 cJ1_charAt_3b067 2 (some .char) ∈ WT := wm_28 _ (List.mem_of_getElem? (i := 12) rfl)
theorem q_28_13 : Cond.methodLink RJ1 9 yJ0_checkIndex_df160 ∈ WT := wm_28 _ (List.mem_of_getElem? (i := 13) rfl)
theorem q_28_14 : Cond.static yJ0_checkIndex_df160 ∈ WT := wm_28 _ (List.mem_of_getElem? (i := 14) rfl)
theorem q_28_15 : Cond.code yJ0_checkIndex_df160 cJ0_checkIndex_df160 2 none ∈ WT := wm_28 _ (List.mem_of_getElem? (i := 15) rfl)
theorem q_28_16 : Cond.fieldLink RJ0 1053 "jdk/internal/util/Preconditions" "SIOOBE_FORMATTER" "Ljava/util/function/BiFunction;" ∈ WT := wm_28 _ (List.mem_of_getElem? (i := 16) rfl)
theorem q_28_17 : Cond.methodLink RJ0 1059 yJ3_checkIndex_8e157 ∈ WT := wm_28 _ (List.mem_of_getElem? (i := 17) rfl)
theorem q_28_18 : Cond.static yJ3_checkIndex_8e157 ∈ WT := wm_28 _ (List.mem_of_getElem? (i := 18) rfl)
theorem q_28_19 : Cond.initialized RJ3 ∈ WT := wm_28 _ (List.mem_of_getElem? (i := 19) rfl)
theorem q_28_20 : Cond.code yJ3_checkIndex_8e157 cJ3_checkIndex_8e157 3 (some .int) ∈ WT := wm_28 _ (List.mem_of_getElem? (i := 20) rfl)
theorem q_28_21 : Cond.methodLink RJ0 498 yJ2_charAt_3b067 ∈ WT := wm_28 _ (List.mem_of_getElem? (i := 21) rfl)
theorem q_28_22 : Cond.static yJ2_charAt_3b067 ∈ WT := wm_28 _ (List.mem_of_getElem? (i := 22) rfl)
theorem q_28_23 : Cond.initialized RJ2 ∈ WT := wm_28 _ (List.mem_of_getElem? (i := 23) rfl)
theorem q_29_0 : Cond.code yJ2_charAt_3b067 cJ2_charAt_3b067 2 (some .char) ∈ WT := wm_29 _ (List.mem_of_getElem? (i := 0) rfl)
theorem q_29_1 : Cond.methodLink RJ2 67 yJ2_checkIndex_2214a ∈ WT := wm_29 _ (List.mem_of_getElem? (i := 1) rfl)
theorem q_29_2 : Cond.static yJ2_checkIndex_2214a ∈ WT := wm_29 _ (List.mem_of_getElem? (i := 2) rfl)
theorem q_29_3 : Cond.code yJ2_checkIndex_2214a cJ2_checkIndex_2214a 2 none ∈ WT := wm_29 _ (List.mem_of_getElem? (i := 3) rfl)
theorem q_29_4 : Cond.methodLink RJ2 48 yJ2_length_9d52b ∈ WT := wm_29 _ (List.mem_of_getElem? (i := 4) rfl)
theorem q_29_5 : Cond.static yJ2_length_9d52b ∈ WT := wm_29 _ (List.mem_of_getElem? (i := 5) rfl)
theorem q_29_6 : Cond.code yJ2_length_9d52b cJ2_length_9d52b 1 (some .int) ∈ WT := wm_29 _ (List.mem_of_getElem? (i := 6) rfl)
theorem q_29_7 : Cond.methodLink RJ2 414 yJ0_checkIndex_df160 ∈ WT := wm_29 _ (List.mem_of_getElem? (i := 7) rfl)
theorem q_29_8 : Cond.methodLink RJ2 71 yJ2_getChar_3b067 ∈ WT := wm_29 _ (List.mem_of_getElem? (i := 8) rfl)
theorem q_29_9 : Cond.static yJ2_getChar_3b067 ∈ WT := wm_29 _ (List.mem_of_getElem? (i := 9) rfl)
theorem q_29_10 : Cond.code yJ2_getChar_3b067 cJ2_getChar_3b067 2 (some .char) ∈ WT := wm_29 _ (List.mem_of_getElem? (i := 10) rfl)
theorem q_29_11 : Cond.fieldLink RJ2 44 "java/lang/StringUTF16" "$assertionsDisabled" "Z" ∈ WT := wm_29 _ (List.mem_of_getElem? (i := 11) rfl)
theorem q_29_12 : Cond.fieldLink RJ2 59 "java/lang/StringUTF16" "HI_BYTE_SHIFT" "I" ∈ WT := wm_29 _ (List.mem_of_getElem? (i := 12) rfl)
theorem q_29_13 : Cond.fieldLink RJ2 63 "java/lang/StringUTF16" "LO_BYTE_SHIFT" "I" ∈ WT := wm_29 _ (List.mem_of_getElem? (i := 13) rfl)
theorem q_29_14 : Cond.methodLink RX2 67 yX2_takesPerson ∈ WT := wm_29 _ (List.mem_of_getElem? (i := 14) rfl)
theorem q_29_15 : Cond.instanceMethod yX2_takesPerson ∈ WT := wm_29 _ (List.mem_of_getElem? (i := 15) rfl)
theorem q_29_16 : Cond.selects RX2 yX2_takesPerson yX2_takesPerson ∈ WT := wm_29 _ (List.mem_of_getElem? (i := 16) rfl)
theorem q_29_17 : Cond.code yX2_takesPerson cX2_takesPerson 4 (some .boolean) ∈ WT := wm_29 _ (List.mem_of_getElem? (i := 17) rfl)
theorem q_29_18 : Cond.fieldLink RX2 104 "WindowChairs$Room" "people" "I" ∈ WT := wm_29 _ (List.mem_of_getElem? (i := 18) rfl)
theorem q_29_19 : Cond.fieldLink RX2 114 "WindowChairs$Room" "ages" "[I" ∈ WT := wm_29 _ (List.mem_of_getElem? (i := 19) rfl)
theorem q_29_20 : Cond.fieldLink RX2 123 "WindowChairs$Room" "claims" "[I" ∈ WT := wm_29 _ (List.mem_of_getElem? (i := 20) rfl)
theorem q_29_21 : Cond.fieldLink RX2 130 "WindowChairs$Room" "sitters" "[I" ∈ WT := wm_29 _ (List.mem_of_getElem? (i := 21) rfl)
theorem q_29_22 : Cond.methodLink RX2 109 yX0_enter ∈ WT := wm_29 _ (List.mem_of_getElem? (i := 22) rfl)
theorem q_29_23 : Cond.methodLink RX2 117 yX2_takesPerhaps ∈ WT := wm_29 _ (List.mem_of_getElem? (i := 23) rfl)
theorem q_30_0 : Cond.instanceMethod yX2_takesPerhaps ∈ WT := wm_30 _ (List.mem_of_getElem? (i := 0) rfl)
theorem q_30_1 : Cond.selects RX2 yX2_takesPerhaps yX2_takesPerhaps ∈ WT := wm_30 _ (List.mem_of_getElem? (i := 1) rfl)
theorem q_30_2 : Cond.code yX2_takesPerhaps cX2_takesPerhaps 5 (some .boolean) ∈ WT := wm_30 _ (List.mem_of_getElem? (i := 2) rfl)
theorem q_30_3 : Cond.methodLink RX2 127 yX2_isNumber ∈ WT := wm_30 _ (List.mem_of_getElem? (i := 3) rfl)
theorem q_30_4 : Cond.instanceMethod yX2_isNumber ∈ WT := wm_30 _ (List.mem_of_getElem? (i := 4) rfl)
theorem q_30_5 : Cond.selects RX2 yX2_isNumber yX2_isNumber ∈ WT := wm_30 _ (List.mem_of_getElem? (i := 5) rfl)
theorem q_30_6 : Cond.code yX2_isNumber cX2_isNumber 2 (some .boolean) ∈ WT := wm_30 _ (List.mem_of_getElem? (i := 6) rfl)
theorem q_30_7 : Cond.methodLink RX2 133 yX0_seat ∈ WT := wm_30 _ (List.mem_of_getElem? (i := 7) rfl)
theorem q_30_8 : Cond.methodLink RX2 77 yX2_takesChair ∈ WT := wm_30 _ (List.mem_of_getElem? (i := 8) rfl)
theorem q_30_9 : Cond.instanceMethod yX2_takesChair ∈ WT := wm_30 _ (List.mem_of_getElem? (i := 9) rfl)
theorem q_30_10 : Cond.selects RX2 yX2_takesChair yX2_takesChair ∈ WT := wm_30 _ (List.mem_of_getElem? (i := 10) rfl)
theorem q_30_11 : Cond.code yX2_takesChair cX2_takesChair 3 (some .boolean) ∈ WT := wm_30 _ (List.mem_of_getElem? (i := 11) rfl)
theorem q_30_12 : Cond.fieldLink RX2 139 "WindowChairs$Room" "views" "[I" ∈ WT := wm_30 _ (List.mem_of_getElem? (i := 12) rfl)
theorem q_30_13 : Cond.fieldLink RX2 144 "WindowChairs$Room" "draughts" "[I" ∈ WT := wm_30 _ (List.mem_of_getElem? (i := 13) rfl)
theorem q_30_14 : Cond.methodLink RX2 82 yX2_takesTwo ∈ WT := wm_30 _ (List.mem_of_getElem? (i := 14) rfl)
theorem q_30_15 : Cond.instanceMethod yX2_takesTwo ∈ WT := wm_30 _ (List.mem_of_getElem? (i := 15) rfl)
theorem q_30_16 : Cond.selects RX2 yX2_takesTwo yX2_takesTwo ∈ WT := wm_30 _ (List.mem_of_getElem? (i := 16) rfl)
theorem q_30_17 : Cond.code yX2_takesTwo cX2_takesTwo 4 (some .boolean) ∈ WT := wm_30 _ (List.mem_of_getElem? (i := 17) rfl)
theorem q_30_18 : Cond.methodLink RX2 147 yX0_putAtOdds ∈ WT := wm_30 _ (List.mem_of_getElem? (i := 18) rfl)
theorem q_30_19 : Cond.methodLink RL 124 yX4_room ∈ WT := wm_30 _ (List.mem_of_getElem? (i := 19) rfl)
theorem q_30_20 : Cond.instanceMethod yX4_room ∈ WT := wm_30 _ (List.mem_of_getElem? (i := 20) rfl)
theorem q_30_21 : Cond.selects RX4 yX4_room yX4_room ∈ WT := wm_30 _ (List.mem_of_getElem? (i := 21) rfl)
theorem q_30_22 : Cond.code yX4_room cX4_room 2 (some .int) ∈ WT := wm_30 _ (List.mem_of_getElem? (i := 22) rfl)
theorem q_30_23 : Cond.fieldLink RX4 232 "WindowChairsModel" "isWrong" "Z" ∈ WT := wm_30 _ (List.mem_of_getElem? (i := 23) rfl)
theorem q_31_0 : Cond.fieldLink RX4 217 "WindowChairsModel" "to" "I" ∈ WT := wm_31 _ (List.mem_of_getElem? (i := 0) rfl)
theorem q_31_1 : Cond.fieldLink RX4 220 "WindowChairsModel" "from" "I" ∈ WT := wm_31 _ (List.mem_of_getElem? (i := 1) rfl)
theorem q_31_2 : Cond.methodLink RX4 302 yX4_saves ∈ WT := wm_31 _ (List.mem_of_getElem? (i := 2) rfl)
theorem q_31_3 : Cond.instanceMethod yX4_saves ∈ WT := wm_31 _ (List.mem_of_getElem? (i := 3) rfl)
theorem q_31_4 : Cond.selects RX4 yX4_saves yX4_saves ∈ WT := wm_31 _ (List.mem_of_getElem? (i := 4) rfl)
theorem q_31_5 : Cond.code yX4_saves cX4_saves 2 none ∈ WT := wm_31 _ (List.mem_of_getElem? (i := 5) rfl)
theorem q_31_6 : Cond.methodLink RX4 236 yX4_token ∈ WT := wm_31 _ (List.mem_of_getElem? (i := 6) rfl)
theorem q_31_7 : Cond.instanceMethod yX4_token ∈ WT := wm_31 _ (List.mem_of_getElem? (i := 7) rfl)
theorem q_31_8 : Cond.selects RX4 yX4_token yX4_token ∈ WT := wm_31 _ (List.mem_of_getElem? (i := 8) rfl)
theorem q_31_9 : Cond.code yX4_token cX4_token 3 none ∈ WT := wm_31 _ (List.mem_of_getElem? (i := 9) rfl)
theorem q_31_10 : Cond.methodLink RX4 223 yX4_byteAt ∈ WT := wm_31 _ (List.mem_of_getElem? (i := 10) rfl)
theorem q_31_11 : Cond.instanceMethod yX4_byteAt ∈ WT := wm_31 _ (List.mem_of_getElem? (i := 11) rfl)
theorem q_31_12 : Cond.selects RX4 yX4_byteAt yX4_byteAt ∈ WT := wm_31 _ (List.mem_of_getElem? (i := 12) rfl)
theorem q_31_13 : Cond.code yX4_byteAt cX4_byteAt 2 (some .int) ∈ WT := wm_31 _ (List.mem_of_getElem? (i := 13) rfl)
theorem q_31_14 : Cond.methodLink RX4 226 yX4_isLetter ∈ WT := wm_31 _ (List.mem_of_getElem? (i := 14) rfl)
theorem q_31_15 : Cond.static yX4_isLetter ∈ WT := wm_31 _ (List.mem_of_getElem? (i := 15) rfl)
theorem q_31_16 : Cond.code yX4_isLetter cX4_isLetter 1 (some .boolean) ∈ WT := wm_31 _ (List.mem_of_getElem? (i := 16) rfl)
theorem q_31_17 : Cond.constantLong RX4 209 (97) ∈ WT := wm_31 _ (List.mem_of_getElem? (i := 17) rfl)
theorem q_31_18 : Cond.constantLong RX4 211 (122) ∈ WT := wm_31 _ (List.mem_of_getElem? (i := 18) rfl)
theorem q_31_19 : Cond.methodLink RX4 229 yX4_isDigit ∈ WT := wm_31 _ (List.mem_of_getElem? (i := 19) rfl)
theorem q_31_20 : Cond.static yX4_isDigit ∈ WT := wm_31 _ (List.mem_of_getElem? (i := 20) rfl)
theorem q_31_21 : Cond.code yX4_isDigit cX4_isDigit 1 (some .boolean) ∈ WT := wm_31 _ (List.mem_of_getElem? (i := 21) rfl)
theorem q_31_22 : Cond.constantLong RX4 213 (48) ∈ WT := wm_31 _ (List.mem_of_getElem? (i := 22) rfl)
theorem q_31_23 : Cond.constantLong RX4 215 (57) ∈ WT := wm_31 _ (List.mem_of_getElem? (i := 23) rfl)
theorem q_32_0 : Cond.methodLink RX4 305 yX4_item ∈ WT := wm_32 _ (List.mem_of_getElem? (i := 0) rfl)
theorem q_32_1 : Cond.instanceMethod yX4_item ∈ WT := wm_32 _ (List.mem_of_getElem? (i := 1) rfl)
theorem q_32_2 : Cond.selects RX4 yX4_item yX4_item ∈ WT := wm_32 _ (List.mem_of_getElem? (i := 2) rfl)
theorem q_32_3 : Cond.code yX4_item cX4_item 7 none ∈ WT := wm_32 _ (List.mem_of_getElem? (i := 3) rfl)
theorem q_32_4 : Cond.constantLong RX4 293 (3409202) ∈ WT := wm_32 _ (List.mem_of_getElem? (i := 4) rfl)
theorem q_32_5 : Cond.constantLong RX4 298 (18959911084) ∈ WT := wm_32 _ (List.mem_of_getElem? (i := 5) rfl)
theorem q_32_6 : Cond.constantLong RX4 300 (16942181) ∈ WT := wm_32 _ (List.mem_of_getElem? (i := 6) rfl)
theorem q_32_7 : Cond.methodLink RX4 286 yX4_kindHere ∈ WT := wm_32 _ (List.mem_of_getElem? (i := 7) rfl)
theorem q_32_8 : Cond.instanceMethod yX4_kindHere ∈ WT := wm_32 _ (List.mem_of_getElem? (i := 8) rfl)
theorem q_32_9 : Cond.selects RX4 yX4_kindHere yX4_kindHere ∈ WT := wm_32 _ (List.mem_of_getElem? (i := 9) rfl)
theorem q_32_10 : Cond.code yX4_kindHere cX4_kindHere 3 (some .int) ∈ WT := wm_32 _ (List.mem_of_getElem? (i := 10) rfl)
theorem q_32_11 : Cond.constantLong RX4 254 (8033908) ∈ WT := wm_32 _ (List.mem_of_getElem? (i := 11) rfl)
theorem q_32_12 : Cond.constantLong RX4 256 (15748) ∈ WT := wm_32 _ (List.mem_of_getElem? (i := 12) rfl)
theorem q_32_13 : Cond.constantLong RX4 258 (672541874) ∈ WT := wm_32 _ (List.mem_of_getElem? (i := 13) rfl)
theorem q_32_14 : Cond.constantLong RX4 260 (136230) ∈ WT := wm_32 _ (List.mem_of_getElem? (i := 14) rfl)
theorem q_32_15 : Cond.constantLong RX4 262 (18519214) ∈ WT := wm_32 _ (List.mem_of_getElem? (i := 15) rfl)
theorem q_32_16 : Cond.constantLong RX4 264 (20809171122) ∈ WT := wm_32 _ (List.mem_of_getElem? (i := 16) rfl)
theorem q_32_17 : Cond.methodLink RX4 250 yX4_word ∈ WT := wm_32 _ (List.mem_of_getElem? (i := 17) rfl)
theorem q_32_18 : Cond.instanceMethod yX4_word ∈ WT := wm_32 _ (List.mem_of_getElem? (i := 18) rfl)
theorem q_32_19 : Cond.selects RX4 yX4_word yX4_word ∈ WT := wm_32 _ (List.mem_of_getElem? (i := 19) rfl)
theorem q_32_20 : Cond.code yX4_word cX4_word 4 (some .long) ∈ WT := wm_32 _ (List.mem_of_getElem? (i := 20) rfl)
theorem q_32_21 : Cond.constantLong RX4 239 (36028797018963967) ∈ WT := wm_32 _ (List.mem_of_getElem? (i := 21) rfl)
theorem q_32_22 : Cond.constantLong RX4 241 (32) ∈ WT := wm_32 _ (List.mem_of_getElem? (i := 22) rfl)
theorem q_32_23 : Cond.methodLink RX4 289 yX4_personItem ∈ WT := wm_32 _ (List.mem_of_getElem? (i := 23) rfl)
theorem q_33_0 : Cond.instanceMethod yX4_personItem ∈ WT := wm_33 _ (List.mem_of_getElem? (i := 0) rfl)
theorem q_33_1 : Cond.selects RX4 yX4_personItem yX4_personItem ∈ WT := wm_33 _ (List.mem_of_getElem? (i := 1) rfl)
theorem q_33_2 : Cond.code yX4_personItem cX4_personItem 4 none ∈ WT := wm_33 _ (List.mem_of_getElem? (i := 2) rfl)
theorem q_33_3 : Cond.constantLong RX4 269 (26379859) ∈ WT := wm_33 _ (List.mem_of_getElem? (i := 3) rfl)
theorem q_33_4 : Cond.constantLong RX4 275 (113288627) ∈ WT := wm_33 _ (List.mem_of_getElem? (i := 4) rfl)
theorem q_33_5 : Cond.constantLong RX4 277 (302) ∈ WT := wm_33 _ (List.mem_of_getElem? (i := 5) rfl)
theorem q_33_6 : Cond.methodLink RX4 246 yX4_must ∈ WT := wm_33 _ (List.mem_of_getElem? (i := 6) rfl)
theorem q_33_7 : Cond.instanceMethod yX4_must ∈ WT := wm_33 _ (List.mem_of_getElem? (i := 7) rfl)
theorem q_33_8 : Cond.selects RX4 yX4_must yX4_must ∈ WT := wm_33 _ (List.mem_of_getElem? (i := 8) rfl)
theorem q_33_9 : Cond.code yX4_must cX4_must 2 none ∈ WT := wm_33 _ (List.mem_of_getElem? (i := 9) rfl)
theorem q_33_10 : Cond.methodLink RX4 271 yX4_partItem ∈ WT := wm_33 _ (List.mem_of_getElem? (i := 10) rfl)
theorem q_33_11 : Cond.instanceMethod yX4_partItem ∈ WT := wm_33 _ (List.mem_of_getElem? (i := 11) rfl)
theorem q_33_12 : Cond.selects RX4 yX4_partItem yX4_partItem ∈ WT := wm_33 _ (List.mem_of_getElem? (i := 12) rfl)
theorem q_33_13 : Cond.code yX4_partItem cX4_partItem 5 none ∈ WT := wm_33 _ (List.mem_of_getElem? (i := 13) rfl)
theorem q_33_14 : Cond.fieldLink RX4 243 "WindowChairsModel" "value" "I" ∈ WT := wm_33 _ (List.mem_of_getElem? (i := 14) rfl)
theorem q_33_15 : Cond.methodLink RX4 266 yX4_number ∈ WT := wm_33 _ (List.mem_of_getElem? (i := 15) rfl)
theorem q_33_16 : Cond.instanceMethod yX4_number ∈ WT := wm_33 _ (List.mem_of_getElem? (i := 16) rfl)
theorem q_33_17 : Cond.selects RX4 yX4_number yX4_number ∈ WT := wm_33 _ (List.mem_of_getElem? (i := 17) rfl)
theorem q_33_18 : Cond.code yX4_number cX4_number 6 none ∈ WT := wm_33 _ (List.mem_of_getElem? (i := 18) rfl)
theorem q_33_19 : Cond.methodLink RX4 279 yX4_peeked ∈ WT := wm_33 _ (List.mem_of_getElem? (i := 19) rfl)
theorem q_33_20 : Cond.instanceMethod yX4_peeked ∈ WT := wm_33 _ (List.mem_of_getElem? (i := 20) rfl)
theorem q_33_21 : Cond.selects RX4 yX4_peeked yX4_peeked ∈ WT := wm_33 _ (List.mem_of_getElem? (i := 21) rfl)
theorem q_33_22 : Cond.code yX4_peeked cX4_peeked 3 (some .int) ∈ WT := wm_33 _ (List.mem_of_getElem? (i := 22) rfl)
theorem q_33_23 : Cond.methodLink RX4 295 yX4_chairItem ∈ WT := wm_33 _ (List.mem_of_getElem? (i := 23) rfl)
theorem q_34_0 : Cond.instanceMethod yX4_chairItem ∈ WT := wm_34 _ (List.mem_of_getElem? (i := 0) rfl)
theorem q_34_1 : Cond.selects RX4 yX4_chairItem yX4_chairItem ∈ WT := wm_34 _ (List.mem_of_getElem? (i := 1) rfl)
theorem q_34_2 : Cond.code yX4_chairItem cX4_chairItem 2 none ∈ WT := wm_34 _ (List.mem_of_getElem? (i := 2) rfl)
theorem q_34_3 : Cond.constantLong RX4 282 (730295) ∈ WT := wm_34 _ (List.mem_of_getElem? (i := 3) rfl)
theorem q_34_4 : Cond.constantLong RX4 284 (4900691220) ∈ WT := wm_34 _ (List.mem_of_getElem? (i := 4) rfl)
theorem q_34_5 : Cond.methodLink RX4 308 yX4_putsBack ∈ WT := wm_34 _ (List.mem_of_getElem? (i := 5) rfl)
theorem q_34_6 : Cond.instanceMethod yX4_putsBack ∈ WT := wm_34 _ (List.mem_of_getElem? (i := 6) rfl)
theorem q_34_7 : Cond.selects RX4 yX4_putsBack yX4_putsBack ∈ WT := wm_34 _ (List.mem_of_getElem? (i := 7) rfl)
theorem q_34_8 : Cond.code yX4_putsBack cX4_putsBack 2 none ∈ WT := wm_34 _ (List.mem_of_getElem? (i := 8) rfl)
theorem q_34_9 : Cond.methodLink RL 125 yX3_sheet ∈ WT := wm_34 _ (List.mem_of_getElem? (i := 9) rfl)
theorem q_34_10 : Cond.instanceMethod yX3_sheet ∈ WT := wm_34 _ (List.mem_of_getElem? (i := 10) rfl)
theorem q_34_11 : Cond.selects RX3 yX3_sheet yX3_sheet ∈ WT := wm_34 _ (List.mem_of_getElem? (i := 11) rfl)
theorem q_34_12 : Cond.code yX3_sheet cX3_sheet 4 (some .int) ∈ WT := wm_34 _ (List.mem_of_getElem? (i := 12) rfl)
theorem q_34_13 : Cond.methodLink RX3 185 yX3_isSheet ∈ WT := wm_34 _ (List.mem_of_getElem? (i := 13) rfl)
theorem q_34_14 : Cond.static yX3_isSheet ∈ WT := wm_34 _ (List.mem_of_getElem? (i := 14) rfl)
theorem q_34_15 : Cond.code yX3_isSheet cX3_isSheet 1 (some .boolean) ∈ WT := wm_34 _ (List.mem_of_getElem? (i := 15) rfl)
theorem q_34_16 : Cond.methodLink RX3 188 yX1_renew ∈ WT := wm_34 _ (List.mem_of_getElem? (i := 16) rfl)
theorem q_34_17 : Cond.instanceMethod yX1_renew ∈ WT := wm_34 _ (List.mem_of_getElem? (i := 17) rfl)
theorem q_34_18 : Cond.selects RX1 yX1_renew yX1_renew ∈ WT := wm_34 _ (List.mem_of_getElem? (i := 18) rfl)
theorem q_34_19 : Cond.code yX1_renew cX1_renew 3 (some .int) ∈ WT := wm_34 _ (List.mem_of_getElem? (i := 19) rfl)
theorem q_34_20 : Cond.fieldLink RX1 15 "WindowChairs$Sheet" "bits" "I" ∈ WT := wm_34 _ (List.mem_of_getElem? (i := 20) rfl)
theorem q_34_21 : Cond.fieldLink RX1 25 "WindowChairs$Sheet" "size" "I" ∈ WT := wm_34 _ (List.mem_of_getElem? (i := 21) rfl)
theorem q_34_22 : Cond.methodLink RX1 19 yJ7_fill_d0a16 ∈ WT := wm_34 _ (List.mem_of_getElem? (i := 22) rfl)
theorem q_34_23 : Cond.static yJ7_fill_d0a16 ∈ WT := wm_34 _ (List.mem_of_getElem? (i := 23) rfl)
theorem q_35_0 : Cond.code yJ7_fill_d0a16 cJ7_fill_d0a16 5 none ∈ WT := wm_35 _ (List.mem_of_getElem? (i := 0) rfl)
theorem q_35_1 : Cond.methodLink RL 128 yX4_sheet ∈ WT := wm_35 _ (List.mem_of_getElem? (i := 1) rfl)
theorem q_35_2 : Cond.instanceMethod yX4_sheet ∈ WT := wm_35 _ (List.mem_of_getElem? (i := 2) rfl)
theorem q_35_3 : Cond.selects RX4 yX4_sheet yX4_sheet ∈ WT := wm_35 _ (List.mem_of_getElem? (i := 3) rfl)
theorem q_35_4 : Cond.code yX4_sheet cX4_sheet 5 (some .int) ∈ WT := wm_35 _ (List.mem_of_getElem? (i := 4) rfl)
theorem q_35_5 : Cond.methodLink RX4 313 yX4_isOne ∈ WT := wm_35 _ (List.mem_of_getElem? (i := 5) rfl)
theorem q_35_6 : Cond.static yX4_isOne ∈ WT := wm_35 _ (List.mem_of_getElem? (i := 6) rfl)
theorem q_35_7 : Cond.code yX4_isOne cX4_isOne 1 (some .boolean) ∈ WT := wm_35 _ (List.mem_of_getElem? (i := 7) rfl)
theorem q_35_8 : Cond.constantLong RX4 311 (3) ∈ WT := wm_35 _ (List.mem_of_getElem? (i := 8) rfl)
theorem q_35_9 : Cond.methodLink RL 131 yX3_write ∈ WT := wm_35 _ (List.mem_of_getElem? (i := 9) rfl)
theorem q_35_10 : Cond.instanceMethod yX3_write ∈ WT := wm_35 _ (List.mem_of_getElem? (i := 10) rfl)
theorem q_35_11 : Cond.selects RX3 yX3_write yX3_write ∈ WT := wm_35 _ (List.mem_of_getElem? (i := 11) rfl)
theorem q_35_12 : Cond.code yX3_write cX3_write 8 (some .long) ∈ WT := wm_35 _ (List.mem_of_getElem? (i := 12) rfl)
theorem q_35_13 : Cond.fieldLink RX3 194 "WindowChairs$Sheet" "size" "I" ∈ WT := wm_35 _ (List.mem_of_getElem? (i := 13) rfl)
theorem q_35_14 : Cond.fieldLink RX3 197 "WindowChairs$Sheet" "numbers" "[J" ∈ WT := wm_35 _ (List.mem_of_getElem? (i := 14) rfl)
theorem q_35_15 : Cond.methodLink RX3 191 yX1_isMissing ∈ WT := wm_35 _ (List.mem_of_getElem? (i := 15) rfl)
theorem q_35_16 : Cond.instanceMethod yX1_isMissing ∈ WT := wm_35 _ (List.mem_of_getElem? (i := 16) rfl)
theorem q_35_17 : Cond.selects RX1 yX1_isMissing yX1_isMissing ∈ WT := wm_35 _ (List.mem_of_getElem? (i := 17) rfl)
theorem q_35_18 : Cond.code yX1_isMissing cX1_isMissing 1 (some .boolean) ∈ WT := wm_35 _ (List.mem_of_getElem? (i := 18) rfl)
theorem q_35_19 : Cond.methodLink RX3 201 yX1_cut ∈ WT := wm_35 _ (List.mem_of_getElem? (i := 19) rfl)
theorem q_35_20 : Cond.instanceMethod yX1_cut ∈ WT := wm_35 _ (List.mem_of_getElem? (i := 20) rfl)
theorem q_35_21 : Cond.selects RX1 yX1_cut yX1_cut ∈ WT := wm_35 _ (List.mem_of_getElem? (i := 21) rfl)
theorem q_35_22 : Cond.code yX1_cut cX1_cut 3 (some .long) ∈ WT := wm_35 _ (List.mem_of_getElem? (i := 22) rfl)
theorem q_35_23 : Cond.methodLink RL 135 yX4_write ∈ WT := wm_35 _ (List.mem_of_getElem? (i := 23) rfl)
theorem q_36_0 : Cond.instanceMethod yX4_write ∈ WT := wm_36 _ (List.mem_of_getElem? (i := 0) rfl)
theorem q_36_1 : Cond.selects RX4 yX4_write yX4_write ∈ WT := wm_36 _ (List.mem_of_getElem? (i := 1) rfl)
theorem q_36_2 : Cond.code yX4_write cX4_write 8 (some .long) ∈ WT := wm_36 _ (List.mem_of_getElem? (i := 2) rfl)
theorem q_36_3 : Cond.methodLink RX4 317 yX4_wrongSheet ∈ WT := wm_36 _ (List.mem_of_getElem? (i := 3) rfl)
theorem q_36_4 : Cond.instanceMethod yX4_wrongSheet ∈ WT := wm_36 _ (List.mem_of_getElem? (i := 4) rfl)
theorem q_36_5 : Cond.selects RX4 yX4_wrongSheet yX4_wrongSheet ∈ WT := wm_36 _ (List.mem_of_getElem? (i := 5) rfl)
theorem q_36_6 : Cond.code yX4_wrongSheet cX4_wrongSheet 2 (some .int) ∈ WT := wm_36 _ (List.mem_of_getElem? (i := 6) rfl)
theorem q_36_7 : Cond.constant RX4 316 (-1000000006) ∈ WT := wm_36 _ (List.mem_of_getElem? (i := 7) rfl)
theorem q_36_8 : Cond.methodLink RX4 320 yX4_narrowed ∈ WT := wm_36 _ (List.mem_of_getElem? (i := 8) rfl)
theorem q_36_9 : Cond.static yX4_narrowed ∈ WT := wm_36 _ (List.mem_of_getElem? (i := 9) rfl)
theorem q_36_10 : Cond.code yX4_narrowed cX4_narrowed 3 (some .long) ∈ WT := wm_36 _ (List.mem_of_getElem? (i := 10) rfl)
theorem q_36_11 : Cond.methodLink RL 136 yX3_copy ∈ WT := wm_36 _ (List.mem_of_getElem? (i := 11) rfl)
theorem q_36_12 : Cond.instanceMethod yX3_copy ∈ WT := wm_36 _ (List.mem_of_getElem? (i := 12) rfl)
theorem q_36_13 : Cond.selects RX3 yX3_copy yX3_copy ∈ WT := wm_36 _ (List.mem_of_getElem? (i := 13) rfl)
theorem q_36_14 : Cond.code yX3_copy cX3_copy 8 (some .int) ∈ WT := wm_36 _ (List.mem_of_getElem? (i := 14) rfl)
theorem q_36_15 : Cond.fieldLink RX3 205 "WindowChairs$Sheet" "bits" "I" ∈ WT := wm_36 _ (List.mem_of_getElem? (i := 15) rfl)
theorem q_36_16 : Cond.methodLink RX3 211 arraycopyName ∈ WT := wm_36 _ (List.mem_of_getElem? (i := 16) rfl)
theorem q_36_17 : Cond.methodLink RX3 208 yX1_has ∈ WT := wm_36 _ (List.mem_of_getElem? (i := 17) rfl)
theorem q_36_18 : Cond.instanceMethod yX1_has ∈ WT := wm_36 _ (List.mem_of_getElem? (i := 18) rfl)
theorem q_36_19 : Cond.selects RX1 yX1_has yX1_has ∈ WT := wm_36 _ (List.mem_of_getElem? (i := 19) rfl)
theorem q_36_20 : Cond.code yX1_has cX1_has 3 (some .boolean) ∈ WT := wm_36 _ (List.mem_of_getElem? (i := 20) rfl)
theorem q_36_21 : Cond.methodLink RL 140 yX4_copy ∈ WT := wm_36 _ (List.mem_of_getElem? (i := 21) rfl)
theorem q_36_22 : Cond.instanceMethod yX4_copy ∈ WT := wm_36 _ (List.mem_of_getElem? (i := 22) rfl)
theorem q_36_23 : Cond.selects RX4 yX4_copy yX4_copy ∈ WT := wm_36 _ (List.mem_of_getElem? (i := 23) rfl)
theorem q_37_0 : Cond.code yX4_copy cX4_copy 7 (some .int) ∈ WT := wm_37 _ (List.mem_of_getElem? (i := 0) rfl)
theorem q_37_1 : Cond.methodLink RL 141 yX3_lays ∈ WT := wm_37 _ (List.mem_of_getElem? (i := 1) rfl)
theorem q_37_2 : Cond.instanceMethod yX3_lays ∈ WT := wm_37 _ (List.mem_of_getElem? (i := 2) rfl)
theorem q_37_3 : Cond.selects RX3 yX3_lays yX3_lays ∈ WT := wm_37 _ (List.mem_of_getElem? (i := 3) rfl)
theorem q_37_4 : Cond.code yX3_lays cX3_lays 7 (some .int) ∈ WT := wm_37 _ (List.mem_of_getElem? (i := 4) rfl)
theorem q_37_5 : Cond.constantLong RX3 217 (20) ∈ WT := wm_37 _ (List.mem_of_getElem? (i := 5) rfl)
theorem q_37_6 : Cond.methodLink RL 144 yX4_lays ∈ WT := wm_37 _ (List.mem_of_getElem? (i := 6) rfl)
theorem q_37_7 : Cond.instanceMethod yX4_lays ∈ WT := wm_37 _ (List.mem_of_getElem? (i := 7) rfl)
theorem q_37_8 : Cond.selects RX4 yX4_lays yX4_lays ∈ WT := wm_37 _ (List.mem_of_getElem? (i := 8) rfl)
theorem q_37_9 : Cond.code yX4_lays cX4_lays 6 (some .int) ∈ WT := wm_37 _ (List.mem_of_getElem? (i := 9) rfl)
theorem q_37_10 : Cond.methodLink RL 145 yX3_book ∈ WT := wm_37 _ (List.mem_of_getElem? (i := 10) rfl)
theorem q_37_11 : Cond.instanceMethod yX3_book ∈ WT := wm_37 _ (List.mem_of_getElem? (i := 11) rfl)
theorem q_37_12 : Cond.selects RX3 yX3_book yX3_book ∈ WT := wm_37 _ (List.mem_of_getElem? (i := 12) rfl)
theorem q_37_13 : Cond.code yX3_book cX3_book 5 (some .int) ∈ WT := wm_37 _ (List.mem_of_getElem? (i := 13) rfl)
theorem q_37_14 : Cond.methodLink RL 148 yX4_book ∈ WT := wm_37 _ (List.mem_of_getElem? (i := 14) rfl)
theorem q_37_15 : Cond.instanceMethod yX4_book ∈ WT := wm_37 _ (List.mem_of_getElem? (i := 15) rfl)
theorem q_37_16 : Cond.selects RX4 yX4_book yX4_book ∈ WT := wm_37 _ (List.mem_of_getElem? (i := 16) rfl)
theorem q_37_17 : Cond.code yX4_book cX4_book 6 (some .int) ∈ WT := wm_37 _ (List.mem_of_getElem? (i := 17) rfl)
theorem q_37_18 : Cond.methodLink RX4 324 yX4_wrongBook ∈ WT := wm_37 _ (List.mem_of_getElem? (i := 18) rfl)
theorem q_37_19 : Cond.instanceMethod yX4_wrongBook ∈ WT := wm_37 _ (List.mem_of_getElem? (i := 19) rfl)
theorem q_37_20 : Cond.selects RX4 yX4_wrongBook yX4_wrongBook ∈ WT := wm_37 _ (List.mem_of_getElem? (i := 20) rfl)
theorem q_37_21 : Cond.code yX4_wrongBook cX4_wrongBook 4 (some .int) ∈ WT := wm_37 _ (List.mem_of_getElem? (i := 21) rfl)
theorem q_37_22 : Cond.methodLink RL 149 yX3_read ∈ WT := wm_37 _ (List.mem_of_getElem? (i := 22) rfl)
theorem q_37_23 : Cond.instanceMethod yX3_read ∈ WT := wm_37 _ (List.mem_of_getElem? (i := 23) rfl)
theorem q_38_0 : Cond.selects RX3 yX3_read yX3_read ∈ WT := wm_38 _ (List.mem_of_getElem? (i := 0) rfl)
theorem q_38_1 : Cond.code yX3_read cX3_read 7 (some .int) ∈ WT := wm_38 _ (List.mem_of_getElem? (i := 1) rfl)
theorem q_38_2 : Cond.methodLink RX3 219 yX3_goesAsTold ∈ WT := wm_38 _ (List.mem_of_getElem? (i := 2) rfl)
theorem q_38_3 : Cond.instanceMethod yX3_goesAsTold ∈ WT := wm_38 _ (List.mem_of_getElem? (i := 3) rfl)
theorem q_38_4 : Cond.selects RX3 yX3_goesAsTold yX3_goesAsTold ∈ WT := wm_38 _ (List.mem_of_getElem? (i := 4) rfl)
theorem q_38_5 : Cond.code yX3_goesAsTold cX3_goesAsTold 4 (some .boolean) ∈ WT := wm_38 _ (List.mem_of_getElem? (i := 5) rfl)
theorem q_38_6 : Cond.methodLink RL 152 yX4_read ∈ WT := wm_38 _ (List.mem_of_getElem? (i := 6) rfl)
theorem q_38_7 : Cond.instanceMethod yX4_read ∈ WT := wm_38 _ (List.mem_of_getElem? (i := 7) rfl)
theorem q_38_8 : Cond.selects RX4 yX4_read yX4_read ∈ WT := wm_38 _ (List.mem_of_getElem? (i := 8) rfl)
theorem q_38_9 : Cond.code yX4_read cX4_read 6 (some .int) ∈ WT := wm_38 _ (List.mem_of_getElem? (i := 9) rfl)
theorem q_38_10 : Cond.methodLink RX4 327 yX4_isBook ∈ WT := wm_38 _ (List.mem_of_getElem? (i := 10) rfl)
theorem q_38_11 : Cond.instanceMethod yX4_isBook ∈ WT := wm_38 _ (List.mem_of_getElem? (i := 11) rfl)
theorem q_38_12 : Cond.selects RX4 yX4_isBook yX4_isBook ∈ WT := wm_38 _ (List.mem_of_getElem? (i := 12) rfl)
theorem q_38_13 : Cond.code yX4_isBook cX4_isBook 5 (some .boolean) ∈ WT := wm_38 _ (List.mem_of_getElem? (i := 13) rfl)
theorem q_38_14 : Cond.methodLink RL 153 yX3_image ∈ WT := wm_38 _ (List.mem_of_getElem? (i := 14) rfl)
theorem q_38_15 : Cond.instanceMethod yX3_image ∈ WT := wm_38 _ (List.mem_of_getElem? (i := 15) rfl)
theorem q_38_16 : Cond.selects RX3 yX3_image yX3_image ∈ WT := wm_38 _ (List.mem_of_getElem? (i := 16) rfl)
theorem q_38_17 : Cond.code yX3_image cX3_image 1 (some .int) ∈ WT := wm_38 _ (List.mem_of_getElem? (i := 17) rfl)
theorem q_38_18 : Cond.methodLink RL 156 yX4_image ∈ WT := wm_38 _ (List.mem_of_getElem? (i := 18) rfl)
theorem q_38_19 : Cond.instanceMethod yX4_image ∈ WT := wm_38 _ (List.mem_of_getElem? (i := 19) rfl)
theorem q_38_20 : Cond.selects RX4 yX4_image yX4_image ∈ WT := wm_38 _ (List.mem_of_getElem? (i := 20) rfl)
theorem q_38_21 : Cond.code yX4_image cX4_image 2 (some .int) ∈ WT := wm_38 _ (List.mem_of_getElem? (i := 21) rfl)
theorem q_38_22 : Cond.fieldLink RX4 330 "WindowChairsModel" "isKept" "Z" ∈ WT := wm_38 _ (List.mem_of_getElem? (i := 22) rfl)
theorem q_38_23 : Cond.methodLink RL 157 yX3_undo ∈ WT := wm_38 _ (List.mem_of_getElem? (i := 23) rfl)
theorem q_39_0 : Cond.instanceMethod yX3_undo ∈ WT := wm_39 _ (List.mem_of_getElem? (i := 0) rfl)
theorem q_39_1 : Cond.selects RX3 yX3_undo yX3_undo ∈ WT := wm_39 _ (List.mem_of_getElem? (i := 1) rfl)
theorem q_39_2 : Cond.code yX3_undo cX3_undo 1 (some .int) ∈ WT := wm_39 _ (List.mem_of_getElem? (i := 2) rfl)
theorem q_39_3 : Cond.methodLink RL 160 yX4_undo ∈ WT := wm_39 _ (List.mem_of_getElem? (i := 3) rfl)
theorem q_39_4 : Cond.instanceMethod yX4_undo ∈ WT := wm_39 _ (List.mem_of_getElem? (i := 4) rfl)
theorem q_39_5 : Cond.selects RX4 yX4_undo yX4_undo ∈ WT := wm_39 _ (List.mem_of_getElem? (i := 5) rfl)
theorem q_39_6 : Cond.code yX4_undo cX4_undo 2 (some .int) ∈ WT := wm_39 _ (List.mem_of_getElem? (i := 6) rfl)
theorem q_39_7 : Cond.methodLink RL 161 yX3_tear ∈ WT := wm_39 _ (List.mem_of_getElem? (i := 7) rfl)
theorem q_39_8 : Cond.instanceMethod yX3_tear ∈ WT := wm_39 _ (List.mem_of_getElem? (i := 8) rfl)
theorem q_39_9 : Cond.selects RX3 yX3_tear yX3_tear ∈ WT := wm_39 _ (List.mem_of_getElem? (i := 9) rfl)
theorem q_39_10 : Cond.code yX3_tear cX3_tear 2 (some .int) ∈ WT := wm_39 _ (List.mem_of_getElem? (i := 10) rfl)
theorem q_39_11 : Cond.methodLink RL 164 yX4_tear ∈ WT := wm_39 _ (List.mem_of_getElem? (i := 11) rfl)
theorem q_39_12 : Cond.instanceMethod yX4_tear ∈ WT := wm_39 _ (List.mem_of_getElem? (i := 12) rfl)
theorem q_39_13 : Cond.selects RX4 yX4_tear yX4_tear ∈ WT := wm_39 _ (List.mem_of_getElem? (i := 13) rfl)
theorem q_39_14 : Cond.code yX4_tear cX4_tear 2 (some .int) ∈ WT := wm_39 _ (List.mem_of_getElem? (i := 14) rfl)
theorem q_39_15 : Cond.methodLink RL 165 yX3_count ∈ WT := wm_39 _ (List.mem_of_getElem? (i := 15) rfl)
theorem q_39_16 : Cond.instanceMethod yX3_count ∈ WT := wm_39 _ (List.mem_of_getElem? (i := 16) rfl)
theorem q_39_17 : Cond.selects RX3 yX3_count yX3_count ∈ WT := wm_39 _ (List.mem_of_getElem? (i := 17) rfl)
theorem q_39_18 : Cond.code yX3_count cX3_count 2 (some .int) ∈ WT := wm_39 _ (List.mem_of_getElem? (i := 18) rfl)
theorem q_39_19 : Cond.methodLink RX3 223 yJ6_bitCount_0f7a4 ∈ WT := wm_39 _ (List.mem_of_getElem? (i := 19) rfl)
theorem q_39_20 : Cond.static yJ6_bitCount_0f7a4 ∈ WT := wm_39 _ (List.mem_of_getElem? (i := 20) rfl)
theorem q_39_21 : Cond.initialized RJ6 ∈ WT := wm_39 _ (List.mem_of_getElem? (i := 21) rfl)
theorem q_39_22 : Cond.code yJ6_bitCount_0f7a4 cJ6_bitCount_0f7a4 1 (some .int) ∈ WT := wm_39 _ (List.mem_of_getElem? (i := 22) rfl)
theorem q_39_23 : Cond.constant RJ6 265 (1431655765) ∈ WT := wm_39 _ (List.mem_of_getElem? (i := 23) rfl)
theorem q_40_0 : Cond.constant RJ6 266 (858993459) ∈ WT := wm_40 _ (List.mem_of_getElem? (i := 0) rfl)
theorem q_40_1 : Cond.constant RJ6 267 (252645135) ∈ WT := wm_40 _ (List.mem_of_getElem? (i := 1) rfl)
theorem q_40_2 : Cond.methodLink RX3 228 yX0_pairsAtOdds ∈ WT := wm_40 _ (List.mem_of_getElem? (i := 2) rfl)
theorem q_40_3 : Cond.instanceMethod yX0_pairsAtOdds ∈ WT := wm_40 _ (List.mem_of_getElem? (i := 3) rfl)
theorem q_40_4 : Cond.selects RX0 yX0_pairsAtOdds yX0_pairsAtOdds ∈ WT := wm_40 _ (List.mem_of_getElem? (i := 4) rfl)
theorem q_40_5 : Cond.code yX0_pairsAtOdds cX0_pairsAtOdds 3 (some .int) ∈ WT := wm_40 _ (List.mem_of_getElem? (i := 5) rfl)
theorem q_40_6 : Cond.methodLink RX0 58 yJ6_bitCount_0f7a4 ∈ WT := wm_40 _ (List.mem_of_getElem? (i := 6) rfl)
theorem q_40_7 : Cond.methodLink RL 168 yX4_count ∈ WT := wm_40 _ (List.mem_of_getElem? (i := 7) rfl)
theorem q_40_8 : Cond.instanceMethod yX4_count ∈ WT := wm_40 _ (List.mem_of_getElem? (i := 8) rfl)
theorem q_40_9 : Cond.selects RX4 yX4_count yX4_count ∈ WT := wm_40 _ (List.mem_of_getElem? (i := 9) rfl)
theorem q_40_10 : Cond.code yX4_count cX4_count 2 (some .int) ∈ WT := wm_40 _ (List.mem_of_getElem? (i := 10) rfl)
theorem q_40_11 : Cond.methodLink RX4 333 yX4_pairs ∈ WT := wm_40 _ (List.mem_of_getElem? (i := 11) rfl)
theorem q_40_12 : Cond.instanceMethod yX4_pairs ∈ WT := wm_40 _ (List.mem_of_getElem? (i := 12) rfl)
theorem q_40_13 : Cond.selects RX4 yX4_pairs yX4_pairs ∈ WT := wm_40 _ (List.mem_of_getElem? (i := 13) rfl)
theorem q_40_14 : Cond.code yX4_pairs cX4_pairs 3 (some .int) ∈ WT := wm_40 _ (List.mem_of_getElem? (i := 14) rfl)
theorem q_40_15 : Cond.methodLink RL 169 yX3_status ∈ WT := wm_40 _ (List.mem_of_getElem? (i := 15) rfl)
theorem q_40_16 : Cond.instanceMethod yX3_status ∈ WT := wm_40 _ (List.mem_of_getElem? (i := 16) rfl)
theorem q_40_17 : Cond.selects RX3 yX3_status yX3_status ∈ WT := wm_40 _ (List.mem_of_getElem? (i := 17) rfl)
theorem q_40_18 : Cond.code yX3_status cX3_status 4 (some .int) ∈ WT := wm_40 _ (List.mem_of_getElem? (i := 18) rfl)
theorem q_40_19 : Cond.methodLink RL 172 yX4_status ∈ WT := wm_40 _ (List.mem_of_getElem? (i := 19) rfl)
theorem q_40_20 : Cond.instanceMethod yX4_status ∈ WT := wm_40 _ (List.mem_of_getElem? (i := 20) rfl)
theorem q_40_21 : Cond.selects RX4 yX4_status yX4_status ∈ WT := wm_40 _ (List.mem_of_getElem? (i := 21) rfl)
theorem q_40_22 : Cond.code yX4_status cX4_status 4 (some .int) ∈ WT := wm_40 _ (List.mem_of_getElem? (i := 22) rfl)
end
section
-- pure words: states, naming, checks
abbrev StT : Type := (Nat → Nat → Int32) × (Nat → Nat → Int64) × (Nat → Int32)
def setA (st : StT) (k : Nat) (f : Nat → Int32) : StT := (fun j => if j = k then f else st.1 j, st.2)
def setL (st : StT) (k : Nat) (f : Nat → Int64) : StT := (st.1, fun j => if j = k then f else st.2.1 j, st.2.2)
def setF (st : StT) (k : Nat) (v : Int32) : StT := (st.1, st.2.1, fun j => if j = k then v else st.2.2 j)
def gset (G : Nat → StT) (k : Nat) (st : StT) : Nat → StT := fun j => if j = k then st else G j
def nm {α β : Type} (e : α) (k : α → β) : β := k e
def ck {α : Type} (i : Int32) (n : Nat) (A : Option α) : Option α := if i < 0 ∨ n ≤ i.toNatClampNeg then none else A
def ckb {α : Type} (x : Int32) (A : Option α) : Option α := if x = 0 ∨ x = 1 then A else none
theorem of_ck {α : Type} {i : Int32} {n : Nat} {A : Option α} {r : α} (h : ck i n A = some r) : vp_in i n ∧ A = some r := by
  unfold ck at h
  by_cases hc : i < 0 ∨ n ≤ i.toNatClampNeg
  · rw [if_pos hc] at h; cases h
  · rw [if_neg hc] at h; exact ⟨hc, h⟩
theorem of_ckb {α : Type} {x : Int32} {A : Option α} {r : α} (h : ckb x A = some r) : (x = 0 ∨ x = 1) ∧ A = some r := by
  unfold ckb at h
  by_cases hc : x = 0 ∨ x = 1
  · rw [if_pos hc] at h; exact ⟨hc, h⟩
  · rw [if_neg hc] at h; cases h
theorem of_bind {α β : Type} {x : Option β} {f : β → Option α} {r : α} (h : Option.bind x f = some r) : ∃ b, x = some b ∧ f b = some r := by
  cases x with
  | none => cases h
  | some b => exact ⟨b, rfl, h⟩
theorem nb_of {x : Int32} (h : x = 0 ∨ x = 1) : narrow .boolean (.int x) = .int x := by
  rcases h with rfl | rfl <;> decide
theorem fb_of {x : Int32} (h : x = 0 ∨ x = 1) : fits .boolean (.int x) = true := by
  rcases h with rfl | rfl <;> decide
-- the fixed things of a run: D, int[], long[], Sheet[], KIND_ABOVE's row, the String constants and their bytes
abbrev GT : Type := va_G × ClassId × ClassId × ClassId × Nat × (Nat → Nat) × (Nat → Nat)
abbrev gT (g : GT) : List (ClassId × FieldType) := [(g.2.1, .int), (g.2.2.1, .long), (g.2.2.2.1, .object "WindowChairs$Sheet")]
def kaF (j : Nat) : Int32 := match j with
  | 0 => -1
  | 1 => 0
  | 2 => 0
  | 3 => 0
  | 4 => 1
  | _ => 3
def sx_i : List Nat := [102, 92, 94, 96, 98, 100, 112, 121, 125, 71, 137, 142, 80, 86]
def sx_t : List String := ["guest", "old", "talker", "deaf", "queen", "sleeper", "years", "claims", "in", "chair", "view", "draught", "quarrel", "peace"]
def sx_b : List (List Int32) := [[103, 117, 101, 115, 116], [111, 108, 100], [116, 97, 108, 107, 101, 114], [100, 101, 97, 102], [113, 117, 101, 101, 110], [115, 108, 101, 101, 112, 101, 114], [121, 101, 97, 114, 115], [99, 108, 97, 105, 109, 115], [105, 110], [99, 104, 97, 105, 114], [118, 105, 101, 119], [100, 114, 97, 117, 103, 104, 116], [113, 117, 97, 114, 114, 101, 108], [112, 101, 97, 99, 101]]
def sx_n : List Nat := [5, 3, 6, 4, 5, 7, 5, 6, 2, 5, 4, 7, 7, 5]
def Ev (g : GT) (A : Nat → Prop) (U : State) (H : Heap) : Prop :=
  va_Z "WindowChairs" "KIND_ABOVE" "[I" (.ref g.2.2.2.2.1) A U H ∧ va_T .int g.2.2.2.2.1 6 (fun j => .int (kaF j)) A U H ∧
  (va_Nw (.methodLinkNest RX0 76 yX3_isOfKind "WindowChairs") U ∧ va_Nw (.methodLinkNest RX0 64 yX3_isChair "WindowChairs") U ∧ va_Nw (.methodLinkNest RX2 63 yX3_isKind "WindowChairs") U) ∧
  vk_S 14 sx_n sx_b g.2.2.2.2.2.1 g.2.2.2.2.2.2 A U H ∧ (∀ i, i < 14 → vk_R RX2 (sx_i.getD i 0) (sx_t.getD i "") (g.2.2.2.2.2.1 i) U) ∧
  va_Z "java/lang/String" "COMPACT_STRINGS" "Z" (.int 1) A U H ∧ va_Zq "jdk/internal/util/Preconditions" "SIOOBE_FORMATTER" "Ljava/util/function/BiFunction;" A U H
theorem Ev.warm {g : GT} {A : Nat → Prop} {s U : State} {H : Heap} (hW : s.WarmedH U.vm) (h : Ev g A s H) : Ev g A U H := by
  obtain ⟨h1, h2, ⟨h3, h4, h5⟩, h6, h7, h8, h9⟩ := h
  exact ⟨va_Z.moved hW.alike h1, va_T.moved hW.alike h2, ⟨va_Nw.warmM hW h3, va_Nw.warmM hW h4, va_Nw.warmM hW h5⟩, vk_S.moved hW.alike h6, fun i hi => vk_R.warm hW (h7 i hi), va_Z.moved hW.alike h8, va_Zq.moved hW.alike h9⟩
theorem Ev.same {g : GT} {A : Nat → Prop} {u U : State} {H : Heap} (hv : U.vm = u.vm) (h : Ev g A u H) : Ev g A U H := by
  obtain ⟨h1, h2, ⟨h3, h4, h5⟩, h6, h7, h8, h9⟩ := h
  have al : u.vm.Alike U.vm := by rw [hv]; exact Vm.Alike.refl u.vm
  exact ⟨va_Z.moved al h1, va_T.moved al h2, ⟨va_Nw.same rfl hv.symm h3, va_Nw.same rfl hv.symm h4, va_Nw.same rfl hv.symm h5⟩, vk_S.moved al h6, fun i hi => vk_R.same hv (h7 i hi), va_Z.moved al h8, va_Zq.moved al h9⟩
theorem Ev.kept {g : GT} {A : Nat → Prop} {U : State} {H H1 : Heap} (h : Ev g A U H) (hq : ∀ a : Nat, a < H.size → ¬ A a → H1[a]? = H[a]?) : Ev g A U H1 := by
  obtain ⟨h1, h2, h3, h6, h7, h8, h9⟩ := h
  exact ⟨h1.kept hq, h2.kept hq, h3, h6.kept hq, h7, h8.kept hq, h9.kept hq⟩
theorem Ev.narrow {g : GT} {A B : Nat → Prop} {U : State} {H : Heap} (h : Ev g A U H) (hAB : ∀ q, B q → A q) : Ev g B U H := by
  obtain ⟨h1, h2, h3, h6, h7, h8, h9⟩ := h
  exact ⟨h1.narrow hAB, h2.narrow hAB, h3, h6.narrow hAB, h7, h8.narrow hAB, h9.narrow hAB⟩
-- worlds by order: a permutation changes nothing
theorem P_perm {D : va_G} {cl : List vw_C} {a b : va_W} {H : Heap} (h : a.Perm b) (hP : va_P D cl a H) : va_P D cl b H := by
  intro k q hq
  obtain ⟨i, hi⟩ := List.getElem?_of_mem (h.mem_iff.mpr (List.mem_of_getElem? hq))
  exact hP i q hi
theorem D_iff {A : Nat → Prop} {ws : va_W} : va_D A ws ↔ (ws.map (fun q => q.1)).Nodup ∧ ∀ q ∈ ws, A q.1 := by
  constructor
  · intro h
    refine ⟨?_, fun q hq => ?_⟩
    · refine List.pairwise_iff_getElem.mpr (fun i j hi hj hij e => ?_)
      have hi' : i < ws.length := by simpa using hi
      have hj' : j < ws.length := by simpa using hj
      have := h.1 i j ws[i] ws[j] (List.getElem?_eq_getElem hi') (List.getElem?_eq_getElem hj') (by simpa using e)
      omega
    · obtain ⟨i, hi⟩ := List.getElem?_of_mem hq
      exact h.2 i q hi
  · intro h
    refine ⟨fun i j p q hp hq e => ?_, fun k q hq => h.2 q (List.mem_of_getElem? hq)⟩
    obtain ⟨hi, rfl⟩ := List.getElem?_eq_some_iff.mp hp
    obtain ⟨hj, rfl⟩ := List.getElem?_eq_some_iff.mp hq
    have hn := List.pairwise_iff_getElem.mp h.1
    rcases Nat.lt_trichotomy i j with hl | hl | hl
    · exact absurd (by rw [List.getElem_map, List.getElem_map]; exact e) (hn i j (by simpa using hi) (by simpa using hj) hl)
    · exact hl
    · exact absurd (by rw [List.getElem_map, List.getElem_map]; exact e.symm) (hn j i (by simpa using hj) (by simpa using hi) hl)
theorem D_perm {A : Nat → Prop} {a b : va_W} (h : a.Perm b) (hD : va_D A a) : va_D A b := by
  rw [D_iff] at hD ⊢
  exact ⟨(h.map (fun q => q.1)).nodup_iff.mp hD.1, fun q hq => hD.2 q (h.mem_iff.mpr hq)⟩
theorem A_perm {A : Nat → Prop} {ws wr wc : va_W} {H0 H : Heap} {locs : List Loc} (hsp : ws.Perm (wr ++ wc)) (hD : va_D A ws) (hS : va_S A H0 H locs) (hA : ∀ q, H0.size ≤ q → A q) : ∀ q, va_A wc H.size q → A q := by
  intro q h
  rcases h with ⟨k, e, h⟩ | h
  · exact (D_iff.mp hD).2 (q, e) (hsp.mem_iff.mpr (List.mem_append_right _ (List.mem_of_getElem? h)))
  · exact hA q (Nat.le_trans hS.1 h)
theorem J_perm {A : Nat → Prop} {D : va_G} {cl : List vw_C} {ws wr wc w1 : va_W} {H0 H H1 : Heap} {locs : List Loc} (hsp : ws.Perm (wr ++ wc)) (hP : va_P D cl ws H) (hD : va_D A ws) (hS : va_S A H0 H locs) (hA : ∀ q, H0.size ≤ q → A q) (hk : ∀ q : Nat, q < H.size → ¬ va_A wc H.size q → H1[q]? = H[q]?) (hP1 : va_P D cl w1 H1) (hD1 : va_D (va_A wc H.size) w1) : va_P D cl (wr ++ w1) H1 ∧ va_D A (wr ++ w1) := by
  have hF := A_perm hsp hD hS hA
  have hP' := P_perm hsp hP
  have hD' := D_iff.mp (D_perm hsp hD)
  have ap : ∀ q ∈ wr, q.1 < H.size ∧ ¬ va_A wc H.size q.1 := by
    intro q hq
    obtain ⟨i, hi⟩ := List.getElem?_of_mem (List.mem_append_left wc hq)
    refine ⟨(hP' i q hi).lt, fun h => ?_⟩
    rcases h with ⟨k, e, h⟩ | h
    · have h3 := hD'.1
      rw [List.map_append, List.nodup_append] at h3
      exact h3.2.2 q.1 (List.mem_map.mpr ⟨q, hq, rfl⟩) q.1 (List.mem_map.mpr ⟨(q.1, e), List.mem_of_getElem? h, rfl⟩) rfl
    · exact absurd (hP' i q hi).lt (by omega)
  refine ⟨va_P.app (fun k q hq => ?_) hP1, D_iff.mpr ⟨?_, fun q hq => ?_⟩⟩
  · have hm := List.mem_of_getElem? hq
    obtain ⟨i, hi⟩ := List.getElem?_of_mem (List.mem_append_left wc hm)
    exact (hP' i q hi).kept (hk q.1 (ap q hm).1 (ap q hm).2)
  · rw [List.map_append, List.nodup_append]
    refine ⟨((List.nodup_append.mp (by rw [← List.map_append]; exact hD'.1)).1), (D_iff.mp hD1).1, fun a ha b hb e => ?_⟩
    obtain ⟨q, hq, rfl⟩ := List.mem_map.mp ha
    obtain ⟨q2, hq2, rfl⟩ := List.mem_map.mp hb
    exact (ap q hq).2 (by rw [e]; exact (D_iff.mp hD1).2 q2 hq2)
  · rcases List.mem_append.mp hq with h | h
    · exact hD'.2 q (List.mem_append_left _ h)
    · exact hF q.1 ((D_iff.mp hD1).2 q h)
-- the words that a method needs: its code, and all words
abbrev wd (y : MethodName) (cc : ByteArray) (n : Nat) (rt : Option FieldType) : List Cond := .code y cc n rt :: WT
abbrev rmh (h : Nat) : Room := { frames := h, cells := 0, slots := 0, locals := 40 * h }
/-- a contract: from the cells ws, with these arguments, the method answers o and leaves the cells w2; nothing else changes, nothing is made -/
def CtPre (g : GT) (av : List Value) (ws : va_W) (sz : Nat) : Array Value → State → Prop :=
  va_Pc av (fun U => U.heap.size = sz ∧ va_P g.1 vwCl ws U.heap ∧ va_K g.1 vwCl (gT g) U ∧ va_D (fun _ => True) ws ∧ Ev g (va_A ws sz) U U.heap)
def CtPost (g : GT) (ws w2 : va_W) (sz : Nat) (o : Option Value) : Array Value → State → Outcome → State → Prop :=
  fun _ st oc t => (oc = .returned o ∧ va_P g.1 vwCl w2 t.heap ∧ va_D (va_A ws sz) w2) ∧ va_F (va_A ws sz) st t
def Ct (g : GT) (l : Launch) (y : MethodName) (wds : List Cond) (rm : Room) (av : List Value) (ws w2 : va_W) (o : Option Value) : Prop :=
  ∀ sz, Met l y wds rm (CtPre g av ws sz) (CtPost g ws w2 sz o) 0 0 (va_A ws sz)
abbrev KT : Type := Program × Launch × Env × Room × State × MethodId × Array Value × List Frame × Method × Code × (State → Prop) × (Nat → Prop)
abbrev kp (K : KT) : Program := K.1
abbrev kl (K : KT) : Launch := K.2.1
abbrev ke (K : KT) : Env := K.2.2.1
abbrev kR (K : KT) : Room := K.2.2.2.1
abbrev ks (K : KT) : State := K.2.2.2.2.1
abbrev km (K : KT) : MethodId := K.2.2.2.2.2.1
abbrev ka (K : KT) : Array Value := K.2.2.2.2.2.2.1
abbrev kb (K : KT) : List Frame := K.2.2.2.2.2.2.2.1
abbrev kt (K : KT) : Method := K.2.2.2.2.2.2.2.2.1
abbrev kc (K : KT) : Code := K.2.2.2.2.2.2.2.2.2.1
abbrev kQ (K : KT) : State → Prop := K.2.2.2.2.2.2.2.2.2.2.1
abbrev kA (K : KT) : Nat → Prop := K.2.2.2.2.2.2.2.2.2.2.2
def WA (g : GT) (K : KT) (nL n1 n2 pc : Nat) (lv : List (Nat × Value)) (stk : List Value) (ws : va_W) : Prop :=
  ∀ (H : Heap) (locs : List Loc) (ls : Array Slot), va_P g.1 vwCl ws H → va_D (kA K) ws → va_S (kA K) (ks K).heap H locs → lv_has ls nL lv → W (kp K) (kl K) (ke K) (kR K) (ks K) (km K) (ka K) (kb K) (kt K) (kc K) H locs n1 n2 (kQ K) (F0 (km K) pc ls stk)
def Fx (g : GT) (K : KT) (rm : Room) (cc : ByteArray) (nL : Nat) (rt : Option FieldType) (own : String) : Prop :=
  (kp K).tables.exec = Jvm.exec ∧ (kc K).code = cc ∧ (kt K).sig.returnType = rt ∧ (kc K).maxLocals = nL ∧ (ks K).vm.findClass own = some (km K).cls ∧ (∀ w ∈ WT, w.before (ka K) (ks K) = true) ∧ (kt K).locks = false ∧ va_K g.1 vwCl (gT g) (ks K) ∧ (∀ q, (ks K).heap.size ≤ q → kA K q) ∧ Ev g (kA K) (ks K) (ks K).heap ∧ kR K = rm
/-- what an answer needs: the run is over with o and the cells w2 -/
def Fn (g : GT) (K : KT) (w2 : va_W) (o : Option Value) : Prop :=
  ∃ (ws : va_W), kA K = va_A ws (ks K).heap.size ∧ kQ K = MQ (kb K) (CtPost g ws w2 (ks K).heap.size o) (ka K) (ks K) 0 0 (kA K)
theorem Ct.of {g : GT} {l : Launch} {y : MethodName} {cc : ByteArray} {nL : Nat} {rt : Option FieldType} {rm : Room} {av : List Value} {ws w2 : va_W} {o : Option Value} {lv : List (Nat × Value)} (hy : plainName y.cls = true) (hn : (lg_sl av).length ≤ nL) (hlv : lv_args 0 av = lv)
    (body : ∀ K : KT, kl K = l → Fx g K rm cc nL rt y.cls → Fn g K w2 o → WA g K nL 0 0 0 lv [] ws) : Ct g l y (wd y cc nL rt) rm av ws w2 o := by
  intro sz
  refine Met.ofW (cc := cc) (maxL := nL) (ret := rt) hy rfl ?_
  intro p e s m args below meth c s₁ B hml hv
  obtain ⟨rfl, hsz, hP, hK, hD0, hE⟩ := hv
  have hts := atoms_spec (ws := wd y cc nL rt) B.pre
  subst hsz
  have hD := hD0.self (sz := s.heap.size)
  have hl := lv_entry av (n := nL) hn
  rw [lg_entry_eq]
  rw [hlv] at hl
  exact body (p, l, e, rm, s, m, av.toArray, below, meth, c, MQ below (CtPost g ws w2 s.heap.size o) av.toArray s 0 0 (va_A ws s.heap.size), va_A ws s.heap.size) rfl
    ⟨B.exec, B.bytes, B.returns, hml, findClass_of_methodNamed B.named, fun w h => hts w (List.mem_cons_of_mem _ h), B.notSynchronized, hK, fun q h => Or.inr h, hE, rfl⟩ ⟨ws, rfl, rfl⟩ s.heap [] _ hP hD va_S.rf hl
section
variable {g : GT} {K : KT} {rm : Room} {cc : ByteArray} {nL n1 n2 pc : Nat} {rt : Option FieldType} {own : String} {lv : List (Nat × Value)} {st : List Value} {ws : va_W}
theorem wa_iconst (fx : Fx g K rm cc nL rt own) {n : Int} (v : Int32) (d : decode cc pc = .ok (.iconst n, 1)) (hv : Int32.ofInt n = v) (k : WA g K nL n1 n2 (pc + 1) lv (.int v :: st) ws) : WA g K nL n1 n2 pc lv (st) ws := fun H locs ls hP hD hS hl => lv_iconst fx.1 fx.2.1 d hv (k H locs ls hP hD hS hl)
theorem wa_bipush (fx : Fx g K rm cc nL rt own) {n : Int} (v : Int32) (d : decode cc pc = .ok (.bipush n, 2)) (hv : (Int8.ofInt n).toInt32 = v) (k : WA g K nL n1 n2 (pc + 2) lv (.int v :: st) ws) : WA g K nL n1 n2 pc lv (st) ws := fun H locs ls hP hD hS hl => lv_bipush fx.1 fx.2.1 d hv (k H locs ls hP hD hS hl)
theorem wa_sipush (fx : Fx g K rm cc nL rt own) {n : Int} (v : Int32) (d : decode cc pc = .ok (.sipush n, 3)) (hv : (Int16.ofInt n).toInt32 = v) (k : WA g K nL n1 n2 (pc + 3) lv (.int v :: st) ws) : WA g K nL n1 n2 pc lv (st) ws := fun H locs ls hP hD hS hl => lv_sipush fx.1 fx.2.1 d hv (k H locs ls hP hD hS hl)
theorem wa_lconst (fx : Fx g K rm cc nL rt own) {n : Fin 2} (v : Int64) (d : decode cc pc = .ok (.lconst n, 1)) (hv : Int64.ofNat (n : Nat) = v) (k : WA g K nL n1 n2 (pc + 1) lv (.long v :: st) ws) : WA g K nL n1 n2 pc lv (st) ws := fun H locs ls hP hD hS hl => lv_lconst fx.1 fx.2.1 d hv (k H locs ls hP hD hS hl)
theorem wa_iload_n (fx : Fx g K rm cc nL rt own) {i : Fin 4} (j : Nat) {x : Int32} (d : decode cc pc = .ok (.iload_n i, 1)) (hj : lv[j]? = some ((i : Nat), .int x)) (k : WA g K nL n1 n2 (pc + 1) lv (.int x :: st) ws) : WA g K nL n1 n2 pc lv st ws := fun H locs ls hP hD hS hl => lv_iload_n fx.1 fx.2.1 d rfl (lv_at hl j hj) (k H locs ls hP hD hS hl)
theorem wa_iload (fx : Fx g K rm cc nL rt own) {i : Nat} (j : Nat) {x : Int32} (d : decode cc pc = .ok (.iload i, 2)) (hj : lv[j]? = some (i, .int x)) (k : WA g K nL n1 n2 (pc + 2) lv (.int x :: st) ws) : WA g K nL n1 n2 pc lv st ws := fun H locs ls hP hD hS hl => lv_iload fx.1 fx.2.1 d (lv_at hl j hj) (k H locs ls hP hD hS hl)
theorem wa_lload_n (fx : Fx g K rm cc nL rt own) {i : Fin 4} (j : Nat) {x : Int64} (d : decode cc pc = .ok (.lload_n i, 1)) (hj : lv[j]? = some ((i : Nat), .long x)) (k : WA g K nL n1 n2 (pc + 1) lv (.long x :: st) ws) : WA g K nL n1 n2 pc lv st ws := fun H locs ls hP hD hS hl => lv_lload_n fx.1 fx.2.1 d rfl (lv_at hl j hj) (k H locs ls hP hD hS hl)
theorem wa_lload (fx : Fx g K rm cc nL rt own) {i : Nat} (j : Nat) {x : Int64} (d : decode cc pc = .ok (.lload i, 2)) (hj : lv[j]? = some (i, .long x)) (k : WA g K nL n1 n2 (pc + 2) lv (.long x :: st) ws) : WA g K nL n1 n2 pc lv st ws := fun H locs ls hP hD hS hl => lv_lload fx.1 fx.2.1 d (lv_at hl j hj) (k H locs ls hP hD hS hl)
theorem wa_aload_n (fx : Fx g K rm cc nL rt own) {i : Fin 4} (j : Nat) {x : Nat} (d : decode cc pc = .ok (.aload_n i, 1)) (hj : lv[j]? = some ((i : Nat), .ref x)) (k : WA g K nL n1 n2 (pc + 1) lv (.ref x :: st) ws) : WA g K nL n1 n2 pc lv st ws := fun H locs ls hP hD hS hl => lv_aload_n fx.1 fx.2.1 d rfl (lv_at hl j hj) (k H locs ls hP hD hS hl)
theorem wa_aload (fx : Fx g K rm cc nL rt own) {i : Nat} (j : Nat) {x : Nat} (d : decode cc pc = .ok (.aload i, 2)) (hj : lv[j]? = some (i, .ref x)) (k : WA g K nL n1 n2 (pc + 2) lv (.ref x :: st) ws) : WA g K nL n1 n2 pc lv st ws := fun H locs ls hP hD hS hl => lv_aload fx.1 fx.2.1 d (lv_at hl j hj) (k H locs ls hP hD hS hl)
theorem wa_istore_n (fx : Fx g K rm cc nL rt own) {k0 : Fin 4} {i : Nat} {x : Int32} (lv2 : List (Nat × Value)) (d : decode cc pc = .ok (.istore_n k0, 1)) (hi : (k0 : Nat) = i) (hn : i < nL) (hl2 : (i, Value.int x) :: lv.filter (fun q => !(q.1 == i) && !(q.1 + 1 == i && q.2.category == 2)) = lv2) (k : WA g K nL n1 n2 (pc + 1) lv2 st ws) : WA g K nL n1 n2 pc lv (.int x :: st) ws := fun H locs ls hP hD hS hl => lv_istore_n fx.1 fx.2.1 d hi hl hn hl2 (fun ls hl => k H locs ls hP hD hS hl)
theorem wa_istore_nN (fx : Fx g K rm cc nL rt own) {k0 : Fin 4} {i : Nat} {x : Int32} (lv2 : Int32 → List (Nat × Value)) (d : decode cc pc = .ok (.istore_n k0, 1)) (hi : (k0 : Nat) = i) (hn : i < nL) (hl2 : ∀ x : Int32, (i, Value.int x) :: lv.filter (fun q => !(q.1 == i) && !(q.1 + 1 == i && q.2.category == 2)) = lv2 x) {ρ : Type} {kk : Int32 → ρ} {r : ρ} (h : nm x kk = r) (k : ∀ y : Int32, kk y = r → WA g K nL n1 n2 (pc + 1) (lv2 y) st ws) : WA g K nL n1 n2 pc lv (.int x :: st) ws := fun H locs ls hP hD hS hl => lv_istore_n fx.1 fx.2.1 d hi hl hn (hl2 x) (fun ls hl => k x h H locs ls hP hD hS hl)
theorem wa_istore (fx : Fx g K rm cc nL rt own) {i : Nat} {x : Int32} (lv2 : List (Nat × Value)) (d : decode cc pc = .ok (.istore i, 2))  (hn : i < nL) (hl2 : (i, Value.int x) :: lv.filter (fun q => !(q.1 == i) && !(q.1 + 1 == i && q.2.category == 2)) = lv2) (k : WA g K nL n1 n2 (pc + 2) lv2 st ws) : WA g K nL n1 n2 pc lv (.int x :: st) ws := fun H locs ls hP hD hS hl => lv_istore fx.1 fx.2.1 d  hl hn hl2 (fun ls hl => k H locs ls hP hD hS hl)
theorem wa_istoreN (fx : Fx g K rm cc nL rt own) {i : Nat} {x : Int32} (lv2 : Int32 → List (Nat × Value)) (d : decode cc pc = .ok (.istore i, 2))  (hn : i < nL) (hl2 : ∀ x : Int32, (i, Value.int x) :: lv.filter (fun q => !(q.1 == i) && !(q.1 + 1 == i && q.2.category == 2)) = lv2 x) {ρ : Type} {kk : Int32 → ρ} {r : ρ} (h : nm x kk = r) (k : ∀ y : Int32, kk y = r → WA g K nL n1 n2 (pc + 2) (lv2 y) st ws) : WA g K nL n1 n2 pc lv (.int x :: st) ws := fun H locs ls hP hD hS hl => lv_istore fx.1 fx.2.1 d  hl hn (hl2 x) (fun ls hl => k x h H locs ls hP hD hS hl)
theorem wa_lstore_n (fx : Fx g K rm cc nL rt own) {k0 : Fin 4} {i : Nat} {x : Int64} (lv2 : List (Nat × Value)) (d : decode cc pc = .ok (.lstore_n k0, 1)) (hi : (k0 : Nat) = i) (hn : i + 1 < nL) (hl2 : (i, Value.long x) :: lv.filter (fun q => !(q.1 == i) && (!(q.1 == i + 1) && !(q.1 + 1 == i && q.2.category == 2))) = lv2) (k : WA g K nL n1 n2 (pc + 1) lv2 st ws) : WA g K nL n1 n2 pc lv (.long x :: st) ws := fun H locs ls hP hD hS hl => lv_lstore_n fx.1 fx.2.1 d hi hl hn hl2 (fun ls hl => k H locs ls hP hD hS hl)
theorem wa_lstore_nN (fx : Fx g K rm cc nL rt own) {k0 : Fin 4} {i : Nat} {x : Int64} (lv2 : Int64 → List (Nat × Value)) (d : decode cc pc = .ok (.lstore_n k0, 1)) (hi : (k0 : Nat) = i) (hn : i + 1 < nL) (hl2 : ∀ x : Int64, (i, Value.long x) :: lv.filter (fun q => !(q.1 == i) && (!(q.1 == i + 1) && !(q.1 + 1 == i && q.2.category == 2))) = lv2 x) {ρ : Type} {kk : Int64 → ρ} {r : ρ} (h : nm x kk = r) (k : ∀ y : Int64, kk y = r → WA g K nL n1 n2 (pc + 1) (lv2 y) st ws) : WA g K nL n1 n2 pc lv (.long x :: st) ws := fun H locs ls hP hD hS hl => lv_lstore_n fx.1 fx.2.1 d hi hl hn (hl2 x) (fun ls hl => k x h H locs ls hP hD hS hl)
theorem wa_lstore (fx : Fx g K rm cc nL rt own) {i : Nat} {x : Int64} (lv2 : List (Nat × Value)) (d : decode cc pc = .ok (.lstore i, 2))  (hn : i + 1 < nL) (hl2 : (i, Value.long x) :: lv.filter (fun q => !(q.1 == i) && (!(q.1 == i + 1) && !(q.1 + 1 == i && q.2.category == 2))) = lv2) (k : WA g K nL n1 n2 (pc + 2) lv2 st ws) : WA g K nL n1 n2 pc lv (.long x :: st) ws := fun H locs ls hP hD hS hl => lv_lstore fx.1 fx.2.1 d  hl hn hl2 (fun ls hl => k H locs ls hP hD hS hl)
theorem wa_lstoreN (fx : Fx g K rm cc nL rt own) {i : Nat} {x : Int64} (lv2 : Int64 → List (Nat × Value)) (d : decode cc pc = .ok (.lstore i, 2))  (hn : i + 1 < nL) (hl2 : ∀ x : Int64, (i, Value.long x) :: lv.filter (fun q => !(q.1 == i) && (!(q.1 == i + 1) && !(q.1 + 1 == i && q.2.category == 2))) = lv2 x) {ρ : Type} {kk : Int64 → ρ} {r : ρ} (h : nm x kk = r) (k : ∀ y : Int64, kk y = r → WA g K nL n1 n2 (pc + 2) (lv2 y) st ws) : WA g K nL n1 n2 pc lv (.long x :: st) ws := fun H locs ls hP hD hS hl => lv_lstore fx.1 fx.2.1 d  hl hn (hl2 x) (fun ls hl => k x h H locs ls hP hD hS hl)
theorem wa_astore_n (fx : Fx g K rm cc nL rt own) {k0 : Fin 4} {i : Nat} {x : Nat} (lv2 : List (Nat × Value)) (d : decode cc pc = .ok (.astore_n k0, 1)) (hi : (k0 : Nat) = i) (hn : i < nL) (hl2 : (i, Value.ref x) :: lv.filter (fun q => !(q.1 == i) && !(q.1 + 1 == i && q.2.category == 2)) = lv2) (k : WA g K nL n1 n2 (pc + 1) lv2 st ws) : WA g K nL n1 n2 pc lv (.ref x :: st) ws := fun H locs ls hP hD hS hl => lv_astore_n fx.1 fx.2.1 d hi hl hn hl2 (fun ls hl => k H locs ls hP hD hS hl)
theorem wa_astore (fx : Fx g K rm cc nL rt own) {i : Nat} {x : Nat} (lv2 : List (Nat × Value)) (d : decode cc pc = .ok (.astore i, 2))  (hn : i < nL) (hl2 : (i, Value.ref x) :: lv.filter (fun q => !(q.1 == i) && !(q.1 + 1 == i && q.2.category == 2)) = lv2) (k : WA g K nL n1 n2 (pc + 2) lv2 st ws) : WA g K nL n1 n2 pc lv (.ref x :: st) ws := fun H locs ls hP hD hS hl => lv_astore fx.1 fx.2.1 d  hl hn hl2 (fun ls hl => k H locs ls hP hD hS hl)
theorem wa_iinc (fx : Fx g K rm cc nL rt own) {i : Nat} (j : Nat) {n : Int} {x v : Int32} (lv2 : Int32 → List (Nat × Value)) (d : decode cc pc = .ok (.iinc i n, 3)) (hj : lv[j]? = some (i, .int x)) (hv : x + Int32.ofInt n = v) (hn : i < nL) (hl2 : ∀ v : Int32, (i, Value.int v) :: lv.filter (fun q => !(q.1 == i) && !(q.1 + 1 == i && q.2.category == 2)) = lv2 v) {ρ : Type} {kk : Int32 → ρ} {r : ρ} (h : nm v kk = r) (k : ∀ y : Int32, kk y = r → WA g K nL n1 n2 (pc + 3) (lv2 y) st ws) : WA g K nL n1 n2 pc lv st ws := fun H locs ls hP hD hS hl => lv_iinc fx.1 fx.2.1 d hl hj hv hn (hl2 v) (fun ls hl => k v h H locs ls hP hD hS hl)
theorem wa_iadd (fx : Fx g K rm cc nL rt own) {x y : Int32} (d : decode cc pc = .ok (.iadd, 1))  (k : WA g K nL n1 n2 (pc + 1) lv (.int (x + y) :: st) ws) : WA g K nL n1 n2 pc lv (.int y :: .int x :: st) ws := fun H locs ls hP hD hS hl => lv_iadd fx.1 fx.2.1 d  (k H locs ls hP hD hS hl)
theorem wa_isub (fx : Fx g K rm cc nL rt own) {x y : Int32} (d : decode cc pc = .ok (.isub, 1))  (k : WA g K nL n1 n2 (pc + 1) lv (.int (x - y) :: st) ws) : WA g K nL n1 n2 pc lv (.int y :: .int x :: st) ws := fun H locs ls hP hD hS hl => lv_isub fx.1 fx.2.1 d  (k H locs ls hP hD hS hl)
theorem wa_imul (fx : Fx g K rm cc nL rt own) {x y : Int32} (d : decode cc pc = .ok (.imul, 1))  (k : WA g K nL n1 n2 (pc + 1) lv (.int (x * y) :: st) ws) : WA g K nL n1 n2 pc lv (.int y :: .int x :: st) ws := fun H locs ls hP hD hS hl => lv_imul fx.1 fx.2.1 d  (k H locs ls hP hD hS hl)
theorem wa_iand (fx : Fx g K rm cc nL rt own) {x y : Int32} (d : decode cc pc = .ok (.iand, 1))  (k : WA g K nL n1 n2 (pc + 1) lv (.int (x &&& y) :: st) ws) : WA g K nL n1 n2 pc lv (.int y :: .int x :: st) ws := fun H locs ls hP hD hS hl => lv_iand fx.1 fx.2.1 d  (k H locs ls hP hD hS hl)
theorem wa_ior (fx : Fx g K rm cc nL rt own) {x y : Int32} (d : decode cc pc = .ok (.ior, 1))  (k : WA g K nL n1 n2 (pc + 1) lv (.int (x ||| y) :: st) ws) : WA g K nL n1 n2 pc lv (.int y :: .int x :: st) ws := fun H locs ls hP hD hS hl => lv_ior fx.1 fx.2.1 d  (k H locs ls hP hD hS hl)
theorem wa_ixor (fx : Fx g K rm cc nL rt own) {x y : Int32} (d : decode cc pc = .ok (.ixor, 1))  (k : WA g K nL n1 n2 (pc + 1) lv (.int (x ^^^ y) :: st) ws) : WA g K nL n1 n2 pc lv (.int y :: .int x :: st) ws := fun H locs ls hP hD hS hl => lv_ixor fx.1 fx.2.1 d  (k H locs ls hP hD hS hl)
theorem wa_ishl (fx : Fx g K rm cc nL rt own) {x y : Int32} (d : decode cc pc = .ok (.ishl, 1))  (k : WA g K nL n1 n2 (pc + 1) lv (.int (x <<< (y &&& 31)) :: st) ws) : WA g K nL n1 n2 pc lv (.int y :: .int x :: st) ws := fun H locs ls hP hD hS hl => lv_ishl fx.1 fx.2.1 d  (k H locs ls hP hD hS hl)
theorem wa_ishr (fx : Fx g K rm cc nL rt own) {x y : Int32} (d : decode cc pc = .ok (.ishr, 1))  (k : WA g K nL n1 n2 (pc + 1) lv (.int (x >>> (y &&& 31)) :: st) ws) : WA g K nL n1 n2 pc lv (.int y :: .int x :: st) ws := fun H locs ls hP hD hS hl => lv_ishr fx.1 fx.2.1 d  (k H locs ls hP hD hS hl)
theorem wa_idiv (fx : Fx g K rm cc nL rt own) {x y : Int32} (d : decode cc pc = .ok (.idiv, 1)) (hne : ¬ y = 0) (k : WA g K nL n1 n2 (pc + 1) lv (.int (x / y) :: st) ws) : WA g K nL n1 n2 pc lv (.int y :: .int x :: st) ws := fun H locs ls hP hD hS hl => lv_idiv fx.1 fx.2.1 d hne (k H locs ls hP hD hS hl)
theorem wa_irem (fx : Fx g K rm cc nL rt own) {x y : Int32} (d : decode cc pc = .ok (.irem, 1)) (hne : ¬ y = 0) (k : WA g K nL n1 n2 (pc + 1) lv (.int (x - x / y * y) :: st) ws) : WA g K nL n1 n2 pc lv (.int y :: .int x :: st) ws := fun H locs ls hP hD hS hl => lv_irem fx.1 fx.2.1 d hne (k H locs ls hP hD hS hl)
theorem wa_ladd (fx : Fx g K rm cc nL rt own) {x y : Int64} (d : decode cc pc = .ok (.ladd, 1))  (k : WA g K nL n1 n2 (pc + 1) lv (.long (x + y) :: st) ws) : WA g K nL n1 n2 pc lv (.long y :: .long x :: st) ws := fun H locs ls hP hD hS hl => lv_ladd fx.1 fx.2.1 d  (k H locs ls hP hD hS hl)
theorem wa_lmul (fx : Fx g K rm cc nL rt own) {x y : Int64} (d : decode cc pc = .ok (.lmul, 1))  (k : WA g K nL n1 n2 (pc + 1) lv (.long (x * y) :: st) ws) : WA g K nL n1 n2 pc lv (.long y :: .long x :: st) ws := fun H locs ls hP hD hS hl => lv_lmul fx.1 fx.2.1 d  (k H locs ls hP hD hS hl)
theorem wa_land (fx : Fx g K rm cc nL rt own) {x y : Int64} (d : decode cc pc = .ok (.land, 1))  (k : WA g K nL n1 n2 (pc + 1) lv (.long (x &&& y) :: st) ws) : WA g K nL n1 n2 pc lv (.long y :: .long x :: st) ws := fun H locs ls hP hD hS hl => lv_land fx.1 fx.2.1 d  (k H locs ls hP hD hS hl)
theorem wa_lor (fx : Fx g K rm cc nL rt own) {x y : Int64} (d : decode cc pc = .ok (.lor, 1))  (k : WA g K nL n1 n2 (pc + 1) lv (.long (x ||| y) :: st) ws) : WA g K nL n1 n2 pc lv (.long y :: .long x :: st) ws := fun H locs ls hP hD hS hl => lv_lor fx.1 fx.2.1 d  (k H locs ls hP hD hS hl)
theorem wa_i2l (fx : Fx g K rm cc nL rt own) {x : Int32} (d : decode cc pc = .ok (.i2l, 1))  (k : WA g K nL n1 n2 (pc + 1) lv (.long x.toInt64 :: st) ws) : WA g K nL n1 n2 pc lv (.int x :: st) ws := fun H locs ls hP hD hS hl => lv_i2l fx.1 fx.2.1 d rfl (k H locs ls hP hD hS hl)
theorem wa_l2i (fx : Fx g K rm cc nL rt own) {x : Int64} (d : decode cc pc = .ok (.l2i, 1))  (k : WA g K nL n1 n2 (pc + 1) lv (.int x.toInt32 :: st) ws) : WA g K nL n1 n2 pc lv (.long x :: st) ws := fun H locs ls hP hD hS hl => lv_l2i fx.1 fx.2.1 d rfl (k H locs ls hP hD hS hl)
theorem wa_i2b (fx : Fx g K rm cc nL rt own) {x : Int32} (d : decode cc pc = .ok (.i2b, 1))  (k : WA g K nL n1 n2 (pc + 1) lv (.int x.toInt8.toInt32 :: st) ws) : WA g K nL n1 n2 pc lv (.int x :: st) ws := fun H locs ls hP hD hS hl => lv_i2b fx.1 fx.2.1 d rfl (k H locs ls hP hD hS hl)
theorem wa_i2s (fx : Fx g K rm cc nL rt own) {x : Int32} (d : decode cc pc = .ok (.i2s, 1))  (k : WA g K nL n1 n2 (pc + 1) lv (.int x.toInt16.toInt32 :: st) ws) : WA g K nL n1 n2 pc lv (.int x :: st) ws := fun H locs ls hP hD hS hl => lv_i2s fx.1 fx.2.1 d rfl (k H locs ls hP hD hS hl)
theorem wa_i2c (fx : Fx g K rm cc nL rt own) {x : Int32} (d : decode cc pc = .ok (.i2c, 1))  (k : WA g K nL n1 n2 (pc + 1) lv (.int (x.toUInt32 % 65536).toInt32 :: st) ws) : WA g K nL n1 n2 pc lv (.int x :: st) ws := fun H locs ls hP hD hS hl => lv_i2c fx.1 fx.2.1 d rfl (k H locs ls hP hD hS hl)
theorem wa_iushr (fx : Fx g K rm cc nL rt own) {x y : Int32} (d : decode cc pc = .ok (.iushr, 1))  (k : WA g K nL n1 n2 (pc + 1) lv (.int (x.toUInt32 >>> (y.toUInt32 &&& Int32.toUInt32 31)).toInt32 :: st) ws) : WA g K nL n1 n2 pc lv (.int y :: .int x :: st) ws := fun H locs ls hP hD hS hl => lv_iushr fx.1 fx.2.1 d rfl (k H locs ls hP hD hS hl)
theorem wa_lshl (fx : Fx g K rm cc nL rt own) {x : Int64} {y : Int32} (d : decode cc pc = .ok (.lshl, 1))  (k : WA g K nL n1 n2 (pc + 1) lv (.long (x <<< (y.toInt64 &&& 63)) :: st) ws) : WA g K nL n1 n2 pc lv (.int y :: .long x :: st) ws := fun H locs ls hP hD hS hl => lv_lshl fx.1 fx.2.1 d rfl (k H locs ls hP hD hS hl)
theorem wa_lcmp (fx : Fx g K rm cc nL rt own) {x y : Int64} (d : decode cc pc = .ok (.lcmp, 1))  (k : WA g K nL n1 n2 (pc + 1) lv (.int (lg_cmp x y) :: st) ws) : WA g K nL n1 n2 pc lv (.long y :: .long x :: st) ws := fun H locs ls hP hD hS hl => W.lcmp fx.1 fx.2.1 d  (k H locs ls hP hD hS hl)
theorem wa_dup (fx : Fx g K rm cc nL rt own) {va : Value} (d : decode cc pc = .ok (.dup, 1)) (hva : va.category = 1) (k : WA g K nL n1 n2 (pc + 1) lv (va :: va :: st) ws) : WA g K nL n1 n2 pc lv (va :: st) ws := fun H locs ls hP hD hS hl => lv_dup fx.1 fx.2.1 d hva (k H locs ls hP hD hS hl)
theorem wa_pop (fx : Fx g K rm cc nL rt own) {va : Value} (d : decode cc pc = .ok (.pop, 1)) (hva : va.category = 1) (k : WA g K nL n1 n2 (pc + 1) lv (st) ws) : WA g K nL n1 n2 pc lv (va :: st) ws := fun H locs ls hP hD hS hl => lv_pop fx.1 fx.2.1 d hva (k H locs ls hP hD hS hl)
theorem wa_dup2 (fx : Fx g K rm cc nL rt own) {va vb : Value} (d : decode cc pc = .ok (.dup2, 1)) (hva : va.category = 1) (hvb : vb.category = 1) (k : WA g K nL n1 n2 (pc + 1) lv (va :: vb :: va :: vb :: st) ws) : WA g K nL n1 n2 pc lv (va :: vb :: st) ws := fun H locs ls hP hD hS hl => lv_dup2_11 fx.1 fx.2.1 d hva hvb (k H locs ls hP hD hS hl)
theorem wa_ldc (fx : Fx g K rm cc nL rt own) {index : Nat} {v : Int32} (hw : Cond.constant own index v ∈ WT) (d : decode cc pc = .ok (.ldc index, 2)) (k : WA g K nL n1 n2 (pc + 2) lv (.int v :: st) ws) : WA g K nL n1 n2 pc lv st ws := fun H locs ls hP hD hS hl => lv_ldc fx.1 fx.2.1 fx.2.2.2.2.1 (fx.2.2.2.2.2.1 _ hw) d (k H locs ls hP hD hS hl)
theorem wa_ldcw (fx : Fx g K rm cc nL rt own) {index : Nat} {v : Int32} (hw : Cond.constant own index v ∈ WT) (d : decode cc pc = .ok (.ldc_w index, 3)) (k : WA g K nL n1 n2 (pc + 3) lv (.int v :: st) ws) : WA g K nL n1 n2 pc lv st ws := fun H locs ls hP hD hS hl => lv_ldcw fx.1 fx.2.1 fx.2.2.2.2.1 (fx.2.2.2.2.2.1 _ hw) d (k H locs ls hP hD hS hl)
theorem wa_ldc2 (fx : Fx g K rm cc nL rt own) {index : Nat} {v : Int64} (hw : Cond.constantLong own index v ∈ WT) (d : decode cc pc = .ok (.ldc2_w index, 3)) (k : WA g K nL n1 n2 (pc + 3) lv (.long v :: st) ws) : WA g K nL n1 n2 pc lv st ws := fun H locs ls hP hD hS hl => lv_ldc2 fx.1 fx.2.1 fx.2.2.2.2.1 (fx.2.2.2.2.2.1 _ hw) d (k H locs ls hP hD hS hl)
theorem wa_goto (fx : Fx g K rm cc nL rt own) {off : Int} (tgt : Nat) (d : decode cc pc = .ok (.goto off, 3)) (ht : (pc : Int) + off = (tgt : Int)) (k : WA g K nL n1 n2 tgt lv st ws) : WA g K nL n1 n2 pc lv st ws := fun H locs ls hP hD hS hl => lv_goto fx.1 fx.2.1 d ht (k H locs ls hP hD hS hl)
theorem wa_if_eq (fx : Fx g K rm cc nL rt own) {x : Int32} {off : Int} (tgt : Nat) (d : decode cc pc = .ok (.ifCond .eq off, 3)) (ht : (pc : Int) + off = (tgt : Int)) {ρ : Type} {A B r : ρ} (h : (if x = 0 then A else B) = r) (kt : A = r → WA g K nL n1 n2 tgt lv st ws) (kf : B = r → WA g K nL n1 n2 (pc + 3) lv st ws) : WA g K nL n1 n2 pc lv (.int x :: st) ws := fun H locs ls hP hD hS hl => lv_if_eq fx.1 fx.2.1 d ht (fun c => kt ((if_pos c).symm.trans h) H locs ls hP hD hS hl) (fun c => kf ((if_neg c).symm.trans h) H locs ls hP hD hS hl)
theorem wa_icmp_eq (fx : Fx g K rm cc nL rt own) {x y : Int32} {off : Int} (tgt : Nat) (d : decode cc pc = .ok (.if_icmp .eq off, 3)) (ht : (pc : Int) + off = (tgt : Int)) {ρ : Type} {A B r : ρ} (h : (if x = y then A else B) = r) (kt : A = r → WA g K nL n1 n2 tgt lv st ws) (kf : B = r → WA g K nL n1 n2 (pc + 3) lv st ws) : WA g K nL n1 n2 pc lv (.int y :: .int x :: st) ws := fun H locs ls hP hD hS hl => lv_icmp_eq fx.1 fx.2.1 d ht (fun c => kt ((if_pos c).symm.trans h) H locs ls hP hD hS hl) (fun c => kf ((if_neg c).symm.trans h) H locs ls hP hD hS hl)
theorem wa_if_ne (fx : Fx g K rm cc nL rt own) {x : Int32} {off : Int} (tgt : Nat) (d : decode cc pc = .ok (.ifCond .ne off, 3)) (ht : (pc : Int) + off = (tgt : Int)) {ρ : Type} {A B r : ρ} (h : (if x = 0 then A else B) = r) (kf : A = r → WA g K nL n1 n2 (pc + 3) lv st ws) (kt : B = r → WA g K nL n1 n2 tgt lv st ws) : WA g K nL n1 n2 pc lv (.int x :: st) ws := fun H locs ls hP hD hS hl => lv_if_ne fx.1 fx.2.1 d ht (fun c => kt ((if_neg c).symm.trans h) H locs ls hP hD hS hl) (fun c => kf ((if_pos c).symm.trans h) H locs ls hP hD hS hl)
theorem wa_icmp_ne (fx : Fx g K rm cc nL rt own) {x y : Int32} {off : Int} (tgt : Nat) (d : decode cc pc = .ok (.if_icmp .ne off, 3)) (ht : (pc : Int) + off = (tgt : Int)) {ρ : Type} {A B r : ρ} (h : (if x = y then A else B) = r) (kf : A = r → WA g K nL n1 n2 (pc + 3) lv st ws) (kt : B = r → WA g K nL n1 n2 tgt lv st ws) : WA g K nL n1 n2 pc lv (.int y :: .int x :: st) ws := fun H locs ls hP hD hS hl => lv_icmp_ne fx.1 fx.2.1 d ht (fun c => kt ((if_neg c).symm.trans h) H locs ls hP hD hS hl) (fun c => kf ((if_pos c).symm.trans h) H locs ls hP hD hS hl)
theorem wa_if_lt (fx : Fx g K rm cc nL rt own) {x : Int32} {off : Int} (tgt : Nat) (d : decode cc pc = .ok (.ifCond .lt off, 3)) (ht : (pc : Int) + off = (tgt : Int)) {ρ : Type} {A B r : ρ} (h : (if x < 0 then A else B) = r) (kt : A = r → WA g K nL n1 n2 tgt lv st ws) (kf : B = r → WA g K nL n1 n2 (pc + 3) lv st ws) : WA g K nL n1 n2 pc lv (.int x :: st) ws := fun H locs ls hP hD hS hl => lv_if_lt fx.1 fx.2.1 d ht (fun c => kt ((if_pos c).symm.trans h) H locs ls hP hD hS hl) (fun c => kf ((if_neg c).symm.trans h) H locs ls hP hD hS hl)
theorem wa_icmp_lt (fx : Fx g K rm cc nL rt own) {x y : Int32} {off : Int} (tgt : Nat) (d : decode cc pc = .ok (.if_icmp .lt off, 3)) (ht : (pc : Int) + off = (tgt : Int)) {ρ : Type} {A B r : ρ} (h : (if x < y then A else B) = r) (kt : A = r → WA g K nL n1 n2 tgt lv st ws) (kf : B = r → WA g K nL n1 n2 (pc + 3) lv st ws) : WA g K nL n1 n2 pc lv (.int y :: .int x :: st) ws := fun H locs ls hP hD hS hl => lv_icmp_lt fx.1 fx.2.1 d ht (fun c => kt ((if_pos c).symm.trans h) H locs ls hP hD hS hl) (fun c => kf ((if_neg c).symm.trans h) H locs ls hP hD hS hl)
theorem wa_if_ge (fx : Fx g K rm cc nL rt own) {x : Int32} {off : Int} (tgt : Nat) (d : decode cc pc = .ok (.ifCond .ge off, 3)) (ht : (pc : Int) + off = (tgt : Int)) {ρ : Type} {A B r : ρ} (h : (if 0 ≤ x then A else B) = r) (kt : A = r → WA g K nL n1 n2 tgt lv st ws) (kf : B = r → WA g K nL n1 n2 (pc + 3) lv st ws) : WA g K nL n1 n2 pc lv (.int x :: st) ws := fun H locs ls hP hD hS hl => lv_if_ge fx.1 fx.2.1 d ht (fun c => kt ((if_pos c).symm.trans h) H locs ls hP hD hS hl) (fun c => kf ((if_neg c).symm.trans h) H locs ls hP hD hS hl)
theorem wa_icmp_ge (fx : Fx g K rm cc nL rt own) {x y : Int32} {off : Int} (tgt : Nat) (d : decode cc pc = .ok (.if_icmp .ge off, 3)) (ht : (pc : Int) + off = (tgt : Int)) {ρ : Type} {A B r : ρ} (h : (if y ≤ x then A else B) = r) (kt : A = r → WA g K nL n1 n2 tgt lv st ws) (kf : B = r → WA g K nL n1 n2 (pc + 3) lv st ws) : WA g K nL n1 n2 pc lv (.int y :: .int x :: st) ws := fun H locs ls hP hD hS hl => lv_icmp_ge fx.1 fx.2.1 d ht (fun c => kt ((if_pos c).symm.trans h) H locs ls hP hD hS hl) (fun c => kf ((if_neg c).symm.trans h) H locs ls hP hD hS hl)
theorem wa_if_gt (fx : Fx g K rm cc nL rt own) {x : Int32} {off : Int} (tgt : Nat) (d : decode cc pc = .ok (.ifCond .gt off, 3)) (ht : (pc : Int) + off = (tgt : Int)) {ρ : Type} {A B r : ρ} (h : (if 0 < x then A else B) = r) (kt : A = r → WA g K nL n1 n2 tgt lv st ws) (kf : B = r → WA g K nL n1 n2 (pc + 3) lv st ws) : WA g K nL n1 n2 pc lv (.int x :: st) ws := fun H locs ls hP hD hS hl => lv_if_gt fx.1 fx.2.1 d ht (fun c => kt ((if_pos c).symm.trans h) H locs ls hP hD hS hl) (fun c => kf ((if_neg c).symm.trans h) H locs ls hP hD hS hl)
theorem wa_icmp_gt (fx : Fx g K rm cc nL rt own) {x y : Int32} {off : Int} (tgt : Nat) (d : decode cc pc = .ok (.if_icmp .gt off, 3)) (ht : (pc : Int) + off = (tgt : Int)) {ρ : Type} {A B r : ρ} (h : (if y < x then A else B) = r) (kt : A = r → WA g K nL n1 n2 tgt lv st ws) (kf : B = r → WA g K nL n1 n2 (pc + 3) lv st ws) : WA g K nL n1 n2 pc lv (.int y :: .int x :: st) ws := fun H locs ls hP hD hS hl => lv_icmp_gt fx.1 fx.2.1 d ht (fun c => kt ((if_pos c).symm.trans h) H locs ls hP hD hS hl) (fun c => kf ((if_neg c).symm.trans h) H locs ls hP hD hS hl)
theorem wa_if_le (fx : Fx g K rm cc nL rt own) {x : Int32} {off : Int} (tgt : Nat) (d : decode cc pc = .ok (.ifCond .le off, 3)) (ht : (pc : Int) + off = (tgt : Int)) {ρ : Type} {A B r : ρ} (h : (if x ≤ 0 then A else B) = r) (kt : A = r → WA g K nL n1 n2 tgt lv st ws) (kf : B = r → WA g K nL n1 n2 (pc + 3) lv st ws) : WA g K nL n1 n2 pc lv (.int x :: st) ws := fun H locs ls hP hD hS hl => lv_if_le fx.1 fx.2.1 d ht (fun c => kt ((if_pos c).symm.trans h) H locs ls hP hD hS hl) (fun c => kf ((if_neg c).symm.trans h) H locs ls hP hD hS hl)
theorem wa_icmp_le (fx : Fx g K rm cc nL rt own) {x y : Int32} {off : Int} (tgt : Nat) (d : decode cc pc = .ok (.if_icmp .le off, 3)) (ht : (pc : Int) + off = (tgt : Int)) {ρ : Type} {A B r : ρ} (h : (if x ≤ y then A else B) = r) (kt : A = r → WA g K nL n1 n2 tgt lv st ws) (kf : B = r → WA g K nL n1 n2 (pc + 3) lv st ws) : WA g K nL n1 n2 pc lv (.int y :: .int x :: st) ws := fun H locs ls hP hD hS hl => lv_icmp_le fx.1 fx.2.1 d ht (fun c => kt ((if_pos c).symm.trans h) H locs ls hP hD hS hl) (fun c => kf ((if_neg c).symm.trans h) H locs ls hP hD hS hl)
/-- a switch: the pure row goes through the cases one by one -/
def swt {ρ : Type} (x : Int32) (cs : List (Int32 × ρ)) (dflt : ρ) : ρ := match cs with
  | [] => dflt
  | c :: r => if x = c.1 then c.2 else swt x r dflt
theorem wa_table (fx : Fx g K rm cc nL rt own) {x : Int32} {dflt lo hi : Int} {offs : Array Int} {len : Nat} (d : decode cc pc = .ok (.tableswitch dflt lo hi offs, len)) (tg : Int → Nat) (htg : ∀ z : Int, lo ≤ z → z ≤ hi → ∃ off, offs[(z - lo).toNat]? = some off ∧ (pc : Int) + off = (tg z : Int)) (td : Nat) (htd : (pc : Int) + dflt = (td : Int))
    (kin : ∀ z : Int, lo ≤ z → z ≤ hi → x.toInt = z → WA g K nL n1 n2 (tg z) lv st ws) (kout : (x.toInt < lo ∨ hi < x.toInt) → WA g K nL n1 n2 td lv st ws) : WA g K nL n1 n2 pc lv (.int x :: st) ws := by
  intro H locs ls hP hD hS hl
  by_cases h1 : x.toInt < lo
  · exact lv_tableOut fx.1 fx.2.1 d (Or.inl h1) htd (kout (Or.inl h1) H locs ls hP hD hS hl)
  · by_cases h2 : hi < x.toInt
    · exact lv_tableOut fx.1 fx.2.1 d (Or.inr h2) htd (kout (Or.inr h2) H locs ls hP hD hS hl)
    · obtain ⟨off, ho, ht⟩ := htg x.toInt (by omega) (by omega)
      exact lv_tableIn fx.1 fx.2.1 d h1 h2 ho ht (kin x.toInt (by omega) (by omega) rfl H locs ls hP hD hS hl)
theorem wa_lookup (fx : Fx g K rm cc nL rt own) {x : Int32} {dflt : Int} {ps : Array (Int × Int)} {len : Nat} (d : decode cc pc = .ok (.lookupswitch dflt ps, len)) (hp : (ps.toList.zip (ps.toList.drop 1)).all (fun (a, next) => a.1 < next.1) = true) {off : Int} (tgt : Nat) (ho : Op.lookupswitch.offset ps.toList dflt x.toInt = off) (ht : (pc : Int) + off = (tgt : Int)) (k : WA g K nL n1 n2 tgt lv st ws) : WA g K nL n1 n2 pc lv (.int x :: st) ws := fun H locs ls hP hD hS hl => lv_lookup fx.1 fx.2.1 d hp ho ht (k H locs ls hP hD hS hl)
theorem wa_sub {lv2 : List (Nat × Value)} (js : List Nat) (hj : lv_pick lv js = lv2) (k : WA g K nL n1 n2 pc lv2 st ws) : WA g K nL n1 n2 pc lv st ws := fun H locs ls hP hD hS hl => k H locs ls hP hD hS (lv_sub hl js hj)
theorem wa_eqi {x y : Int32} (e : x = y) (k : WA g K nL n1 n2 pc lv (.int y :: st) ws) : WA g K nL n1 n2 pc lv (.int x :: st) ws := e ▸ k

theorem wa_get (fx : Fx g K rm cc nL rt own) {ref C : String} {T : u_T} {N ci index a : Nat} (hin : ∀ w ∈ u_ws C T N, w ∈ WT) (q0 : Nat) {fs : List Value} (he : ws[q0]? = some (a, .inr (ci, fs))) (hc : vwCl[ci]? = some (C, T, N)) (k0 : Nat) (hk : k0 < N) (hlw : Cond.fieldLink own index ref (T k0).2.1 (T k0).2.2.1 ∈ WT) (hsame : (T k0).1 = ref) {v : Value} (hv : fs[k0]? = some v) (d : decode cc pc = .ok (.getfield index, 3)) (k : WA g K nL n1 n2 (pc + 3) lv (v :: st) ws) : WA g K nL n1 n2 pc lv (.ref a :: st) ws :=
  fun H locs ls hP hD hS hl => va_get (ci := ci) (C := C) (T := T) (N := N) fx.1 fx.2.1 fx.2.2.2.2.2.1 hin fx.2.2.2.2.1 fx.2.2.2.2.2.2.2.1 hP q0 he hc k0 hk (fx.2.2.2.2.2.1 _ hlw) (fun _ h9 => by rw [← hsame]; exact h9) hv d (k H locs ls hP hD hS hl)
theorem wa_put {σ : Type} (wf : σ → va_W) (fx : Fx g K rm cc nL rt own) {ref C : String} {T : u_T} {N ci index a : Nat} (hin : ∀ w ∈ u_ws C T N, w ∈ WT) (ty0 : Nat → FieldType) (hty : ∀ k, k < N → parseFieldDescriptor (T k).2.2.1 = some (ty0 k)) (hnm : ∀ a, a < N → ∀ b, b < N → a ≠ b → (T a).2.1 ≠ (T b).2.1) (q0 : Nat) {fs : List Value} (he : ws[q0]? = some (a, .inr (ci, fs))) (hc : vwCl[ci]? = some (C, T, N)) (k0 : Nat) (hk : k0 < N) (hlw : Cond.fieldLink own index ref (T k0).2.1 (T k0).2.2.1 ∈ WT) (hsame : (T k0).1 = ref) (hfin : (T k0).2.2.2 = false) {v : Value} (hn : narrow (ty0 k0) v = v) (hfit : fits (ty0 k0) v = true) (hl0 : k0 < fs.length)
    (d : decode cc pc = .ok (.putfield index, 3)) {ρ : Type} {s2 : σ} {kk : σ → ρ} {r : ρ} (h : nm s2 kk = r) (e : ws.set q0 (a, .inr (ci, fs.set k0 v)) = wf s2) (k : ∀ y, kk y = r → WA g K nL n1 n2 (pc + 3) lv st (wf y)) : WA g K nL n1 n2 pc lv (v :: .ref a :: st) ws :=
  fun H locs ls hP hD hS hl => va_put (ci := ci) (v := v) (ty := ty0 k0) (C := C) (T := T) (N := N) fx.1 fx.2.1 fx.2.2.2.2.2.1 hin ty0 hty hnm fx.2.2.2.2.1 fx.2.2.2.2.2.2.2.1 hP hD hS q0 he hc k0 hk (fx.2.2.2.2.2.1 _ hlw) (fun _ h9 => by rw [← hsame]; exact h9) hfin (hty k0 hk) hn hfit hl0 d (fun H1 locs1 hP hD hS => k s2 h H1 locs1 ls (by rw [← e]; exact hP) (by rw [← e]; exact hD) hS hl)
theorem wa_iald (fx : Fx g K rm cc nL rt own) (q0 : Nat) {n a : Nat} {f : Nat → Int32} (ha : ws[q0]? = some (a, .inl (g.2.1, n, .inl f))) {i : Int32} (d : decode cc pc = .ok (.iaload, 1)) {ρ : Type} {A : Option ρ} {r : ρ} (h : ck i n A = some r) (k : A = some r → WA g K nL n1 n2 (pc + 1) lv (.int (f i.toNatClampNeg) :: st) ws) : WA g K nL n1 n2 pc lv (.int i :: .ref a :: st) ws :=
  fun H locs ls hP hD hS hl => va_iald fx.1 fx.2.1 fx.2.2.2.2.2.2.2.1 hP q0 0 ha rfl (of_ck h).1 d (k (of_ck h).2 H locs ls hP hD hS hl)
theorem wa_lald (fx : Fx g K rm cc nL rt own) (q0 : Nat) {n a : Nat} {f : Nat → Int64} (ha : ws[q0]? = some (a, .inl (g.2.2.1, n, .inr (.inl f)))) {i : Int32} (d : decode cc pc = .ok (.laload, 1)) {ρ : Type} {A : Option ρ} {r : ρ} (h : ck i n A = some r) (k : A = some r → WA g K nL n1 n2 (pc + 1) lv (.long (f i.toNatClampNeg) :: st) ws) : WA g K nL n1 n2 pc lv (.int i :: .ref a :: st) ws :=
  fun H locs ls hP hD hS hl => va_lald fx.1 fx.2.1 fx.2.2.2.2.2.2.2.1 hP q0 1 ha rfl (of_ck h).1 d (k (of_ck h).2 H locs ls hP hD hS hl)
theorem wa_aald (fx : Fx g K rm cc nL rt own) (q0 : Nat) {n a : Nat} {f : Nat → Option Nat} (ha : ws[q0]? = some (a, .inl (g.2.2.2.1, n, .inr (.inr (.inr (.inr f)))))) {i : Int32} (d : decode cc pc = .ok (.aaload, 1)) {ρ : Type} {A : Option ρ} {r : ρ} (h : ck i n A = some r) (k : i.toNatClampNeg < n → A = some r → WA g K nL n1 n2 (pc + 1) lv (va_rf (f i.toNatClampNeg) :: st) ws) : WA g K nL n1 n2 pc lv (.int i :: .ref a :: st) ws :=
  fun H locs ls hP hD hS hl => va_aldq fx.1 fx.2.1 fx.2.2.2.2.2.2.2.1 hP q0 2 ha rfl (of_ck h).1 d (k (Nat.not_le.mp fun q => (of_ck h).1 (Or.inr q)) (of_ck h).2 H locs ls hP hD hS hl)
theorem wa_iast {σ : Type} (wf : σ → va_W) (fx : Fx g K rm cc nL rt own) (q0 : Nat) {n a : Nat} {f : Nat → Int32} (ha : ws[q0]? = some (a, .inl (g.2.1, n, .inl f))) {i x : Int32} (d : decode cc pc = .ok (.iastore, 1)) {ρ : Type} {s2 : σ} {kk : σ → Option ρ} {r : ρ} (h : ck i n (nm s2 kk) = some r) (e : ws.set q0 (a, .inl (g.2.1, n, .inl (upd f i.toNatClampNeg x))) = wf s2) (k : ∀ y, kk y = some r → WA g K nL n1 n2 (pc + 1) lv st (wf y)) : WA g K nL n1 n2 pc lv (.int x :: .int i :: .ref a :: st) ws :=
  fun H locs ls hP hD hS hl => va_iast fx.1 fx.2.1 fx.2.2.2.2.2.2.2.1 hP hD hS q0 0 ha rfl (of_ck h).1 d (fun H1 locs1 hP hD hS => k s2 (of_ck h).2 H1 locs1 ls (by rw [← e]; exact hP) (by rw [← e]; exact hD) hS hl)
theorem wa_last {σ : Type} (wf : σ → va_W) (fx : Fx g K rm cc nL rt own) (q0 : Nat) {n a : Nat} {f : Nat → Int64} (ha : ws[q0]? = some (a, .inl (g.2.2.1, n, .inr (.inl f)))) {i : Int32} {x : Int64} (d : decode cc pc = .ok (.lastore, 1)) {ρ : Type} {s2 : σ} {kk : σ → Option ρ} {r : ρ} (h : ck i n (nm s2 kk) = some r) (e : ws.set q0 (a, .inl (g.2.2.1, n, .inr (.inl (vp_updL f i.toNatClampNeg x)))) = wf s2) (k : ∀ y, kk y = some r → WA g K nL n1 n2 (pc + 1) lv st (wf y)) : WA g K nL n1 n2 pc lv (.long x :: .int i :: .ref a :: st) ws :=
  fun H locs ls hP hD hS hl => va_last fx.1 fx.2.1 fx.2.2.2.2.2.2.2.1 hP hD hS q0 1 ha rfl (of_ck h).1 d (fun H1 locs1 hP hD hS => k s2 (of_ck h).2 H1 locs1 ls (by rw [← e]; exact hP) (by rw [← e]; exact hD) hS hl)
theorem wa_alen (fx : Fx g K rm cc nL rt own) (q0 t0 : Nat) {a : Nat} {cA : ClassId} {x : vp_A} (ha : ws[q0]? = some (a, .inl (cA, x))) {ty : FieldType} (ht : (gT g)[t0]? = some (cA, ty)) (v : Int32) (hv : Int32.ofNat x.1 = v) (d : decode cc pc = .ok (.arraylength, 1)) (k : WA g K nL n1 n2 (pc + 1) lv (.int v :: st) ws) : WA g K nL n1 n2 pc lv (.ref a :: st) ws :=
  fun H locs ls hP hD hS hl => va_alen fx.1 fx.2.1 fx.2.2.2.2.2.2.2.1 hP q0 t0 ha ht hv d (k H locs ls hP hD hS hl)
-- ends
theorem fn_i {σ : Type} (wf : σ → va_W) (fx : Fx g K rm cc nL (some .int) own) {x r : Int32} {s1 s2 : σ} (hf : Fn g K (wf s2) (some (.int r))) (hx : x = r) (hs : s1 = s2) (d : decode cc pc = .ok (.ireturn, 1)) : WA g K nL 0 0 pc lv [.int x] (wf s1) := by
  subst hx; subst hs
  intro H locs ls hP hD hS hl
  obtain ⟨w0, hA, hQ⟩ := hf
  rw [hQ]
  exact W.iret fx.1 fx.2.1 fx.2.2.1 (fun t ht hW => ⟨⟨rfl, by rw [ht]; exact hP, by rw [← hA]; exact hD⟩, by rw [← hA]; exact hS.F ht⟩) hS.2.2 d fx.2.2.2.2.2.2.1
theorem fn_z {σ : Type} (wf : σ → va_W) {ty : FieldType} (fx : Fx g K rm cc nL (some ty) own) {x r : Int32} {s1 s2 : σ} (hf : Fn g K (wf s2) (some (.int r))) (hn : narrow ty (.int x) = .int x) (hx : x = r) (hs : s1 = s2) (d : decode cc pc = .ok (.ireturn, 1)) : WA g K nL 0 0 pc lv [.int x] (wf s1) := by
  subst hx; subst hs
  intro H locs ls hP hD hS hl
  obtain ⟨w0, hA, hQ⟩ := hf
  rw [hQ]
  exact W.zret fx.1 fx.2.1 fx.2.2.1 hn (fun t ht hW => ⟨⟨rfl, by rw [ht]; exact hP, by rw [← hA]; exact hD⟩, by rw [← hA]; exact hS.F ht⟩) hS.2.2 d fx.2.2.2.2.2.2.1
theorem fn_l {σ : Type} (wf : σ → va_W) (fx : Fx g K rm cc nL (some .long) own) {x r : Int64} {s1 s2 : σ} (hf : Fn g K (wf s2) (some (.long r))) (hx : x = r) (hs : s1 = s2) (d : decode cc pc = .ok (.lreturn, 1)) : WA g K nL 0 0 pc lv [.long x] (wf s1) := by
  subst hx; subst hs
  intro H locs ls hP hD hS hl
  obtain ⟨w0, hA, hQ⟩ := hf
  rw [hQ]
  exact W.lret fx.1 fx.2.1 fx.2.2.1 (fun t ht hW => ⟨⟨rfl, by rw [ht]; exact hP, by rw [← hA]; exact hD⟩, by rw [← hA]; exact hS.F ht⟩) hS.2.2 d fx.2.2.2.2.2.2.1
theorem fn_v {σ : Type} (wf : σ → va_W) (fx : Fx g K rm cc nL none own) {s1 s2 : σ} (hf : Fn g K (wf s2) none) (hs : s1 = s2) (d : decode cc pc = .ok (.return_, 1)) : WA g K nL 0 0 pc lv [] (wf s1) := by
  subst hs
  intro H locs ls hP hD hS hl
  obtain ⟨w0, hA, hQ⟩ := hf
  rw [hQ]
  exact W.vret fx.1 fx.2.1 fx.2.2.1 (fun t ht hW => ⟨⟨rfl, by rw [ht]; exact hP, by rw [← hA]; exact hD⟩, by rw [← hA]; exact hS.F ht⟩) hS.2.2 d fx.2.2.2.2.2.2.1
end
-- calls
theorem Ct.blind {g : GT} {av : List Value} {ws : va_W} {sz : Nat} : FrameBlind (CtPre g av ws sz) := by
  intro a U f mk h
  obtain ⟨h0, h1, h2, h3, h4, h5⟩ := h
  exact ⟨h0, h1, h2, va_K.moved (u := U) (U := U.calling f mk a) (Vm.Alike.refl U.vm) h3, h4, Ev.same (u := U) rfl h5⟩
theorem Ct.pre {g : GT} {K : KT} {rm : Room} {cc : ByteArray} {nL : Nat} {rt : Option FieldType} {own : String} {ws wr wc : va_W} {H : Heap} {locs : List Loc} (fx : Fx g K rm cc nL rt own) (hsp : ws.Perm (wr ++ wc)) (hP : va_P g.1 vwCl ws H) (hD : va_D (kA K) ws) (hS : va_S (kA K) (ks K).heap H locs) (av : List Value) : ∀ U : State, U.heap = H → (ks K).WarmedH U.vm → CtPre g av wc H.size av.toArray U := by
  intro U hU hW
  refine ⟨rfl, by rw [hU], ?_, va_K.moved hW.alike fx.2.2.2.2.2.2.2.1, ?_, ?_⟩
  · rw [hU]
    intro k q hq
    obtain ⟨i, hi⟩ := List.getElem?_of_mem (List.mem_append_right wr (List.mem_of_getElem? hq))
    exact (P_perm hsp hP) i q hi
  · have h1 := D_iff.mp (D_perm hsp hD)
    refine D_iff.mpr ⟨?_, fun _ _ => trivial⟩
    have h2 := h1.1
    rw [List.map_append, List.nodup_append] at h2
    exact h2.2.1
  · rw [hU]
    exact ((fx.2.2.2.2.2.2.2.2.2.1.kept hS.2.1).narrow (A_perm hsp hD hS fx.2.2.2.2.2.2.2.2.1)).warm hW
def MV (y : MethodName) (bytes : ByteArray) (maxL : Nat) (ret : Option FieldType) (C : String) (n : Nat) : Prop :=
  Cond.instanceMethod y ∈ WT ∧ Cond.selects C y y ∈ WT ∧ Cond.initialized C ∈ WT ∧ Cond.code y bytes maxL ret ∈ WT ∧ (y.cls = C ∧ y.cls ≠ "java/lang/invoke/MethodHandle" ∧ y.cls ≠ "java/lang/invoke/VarHandle" ∧ (parseMethodDescriptor y.desc).map (fun d => d.parameters.length) = some n)
def MS (y : MethodName) (bytes : ByteArray) (maxL : Nat) (ret : Option FieldType) (n : Nat) : Prop :=
  Cond.static y ∈ WT ∧ Cond.initialized y.cls ∈ WT ∧ Cond.code y bytes maxL ret ∈ WT ∧ (y.cls ≠ "java/lang/invoke/MethodHandle" ∧ y.cls ≠ "java/lang/invoke/VarHandle" ∧ (parseMethodDescriptor y.desc).map (fun d => d.parameters.length) = some n)
theorem gd_of {w : Cond} (h : w ∈ WT) : w ∈ WT ∧ ((w.onTables && w.keeps) = true ∨ ∃ ty, w = .arrayClass ty) := ⟨h, good_of_word (WT_good w h)⟩
theorem good_wd {y : MethodName} {bytes : ByteArray} {maxL : Nat} {ret : Option FieldType} (h : Cond.code y bytes maxL ret ∈ WT) : GoodIn WT (wd y bytes maxL ret) := by
  intro w hw
  rcases List.mem_cons.mp hw with rfl | hw
  · exact gd_of h
  · exact gd_of hw
theorem good_V {y : MethodName} {bytes : ByteArray} {maxL : Nat} {ret : Option FieldType} {C own : String} {n idx : Nat} (m : MV y bytes maxL ret C n) (hl : Cond.methodLink own idx y ∈ WT) : GoodIn WT (wsV own idx C y (wd y bytes maxL ret)) := by
  intro w hw
  rcases List.mem_append.mp hw with hw | hw
  · rcases List.mem_cons.mp hw with rfl | hw
    · exact gd_of hl
    · rcases List.mem_cons.mp hw with rfl | hw
      · exact gd_of m.1
      · rcases List.mem_cons.mp hw with rfl | hw
        · exact gd_of m.2.1
        · rcases List.mem_cons.mp hw with rfl | hw
          · exact gd_of m.2.2.1
          · exact absurd hw List.not_mem_nil
  · exact good_wd m.2.2.2.1 w hw
theorem good_S {y : MethodName} {bytes : ByteArray} {maxL : Nat} {ret : Option FieldType} {own : String} {n idx : Nat} (m : MS y bytes maxL ret n) (hl : Cond.methodLink own idx y ∈ WT) : GoodIn WT (va_wsS own idx y (wd y bytes maxL ret)) := by
  intro w hw
  rcases List.mem_append.mp hw with hw | hw
  · rcases List.mem_cons.mp hw with rfl | hw
    · exact gd_of hl
    · rcases List.mem_cons.mp hw with rfl | hw
      · exact gd_of m.1
      · rcases List.mem_cons.mp hw with rfl | hw
        · exact gd_of m.2.1
        · exact absurd hw List.not_mem_nil
  · exact good_wd m.2.2.1 w hw
section
variable {g : GT} {K : KT} {rm rmc : Room} {cc bytes : ByteArray} {nL n1 n2 pc maxL n index : Nat} {rt ret : Option FieldType} {own C : String} {lv : List (Nat × Value)} {st : List Value} {ws wc wr : va_W} {y : MethodName}
/-- behind a call: the run that va_Run gives, with a contract's end -/
theorem wa_ret {β ρ : Type} {a : Array Value} {H : Heap} {locs : List Loc} {ls : Array Slot} {stk : List Value} {wcz w2 : va_W} {o : Option Value} (fx : Fx g K rm cc nL rt own) (hsp : ws.Perm (wr ++ wc)) (hsp2 : w2.Perm (wr ++ wcz)) (hP : va_P g.1 vwCl ws H) (hD : va_D (kA K) ws) (hS : va_S (kA K) (ks K).heap H locs) (hl : lv_has ls nL lv)
    (hr : va_Run (kp K) (kl K) (ke K) (kR K) (ks K) (km K) (ka K) (kb K) (kt K) (kc K) H locs n1 n2 0 0 (F0 (km K) pc ls stk) st (CtPost g wc wcz H.size o a) (va_A wc H.size)) (k : WA g K nL n1 n2 (pc + 3) lv (o.toList ++ st) w2) : W (kp K) (kl K) (ke K) (kR K) (ks K) (km K) (ka K) (kb K) (kt K) (kc K) H locs n1 n2 (kQ K) (F0 (km K) pc ls stk) := by
  intro T hT X
  obtain ⟨v, st0, t, T', L, h0, X', hL, e1, e2, ⟨⟨hv, hP1, hD1⟩, hz, hk⟩, hst⟩ := hr T hT X
  cases hv
  rw [h0] at hz hk
  rw [← e1] at hP1 hz hk
  have hF := A_perm hsp hD hS fx.2.2.2.2.2.2.2.2.1
  have hJ := J_perm hsp hP hD hS fx.2.2.2.2.2.2.2.2.1 hk hP1 hD1
  obtain ⟨t2, a1, b1⟩ := k T'.heap (locs ++ L) ls (P_perm hsp2.symm hJ.1) (D_perm hsp2.symm hJ.2)
    ⟨Nat.le_trans hS.1 hz, fun q h1 h2 => by rw [hk q (Nat.lt_of_lt_of_le h1 hS.1) (fun z => h2 (hF q z))]; exact hS.2.1 q h1 h2, fun q hq => by
      rcases List.mem_append.mp hq with h | h
      · exact hS.2.2 q h
      · exact hF _ (hL q h)⟩ hl T' rfl X'
  exact ⟨t2, hst t2 a1, b1⟩
/-- an instance method of ours, by its contract -/
theorem wa_V {β ρ : Type} (fx : Fx g K rm cc nL rt own) (mv : MV y bytes maxL ret C n) (hlk : Cond.methodLink own index y ∈ WT) (d : decode cc pc = .ok (.invokevirtual index, 3)) {b : Nat} {As : List Value} {fc : Option β} {kk : β → Option ρ} {r : ρ} (h : Option.bind fc kk = some r) {wcz w2 : β → va_W} {o : β → Option Value} {s2 : β → List Value}
    (ct : ∀ z, fc = some z → Ct g (kl K) y (wd y bytes maxL ret) rmc (.ref b :: As) wc (wcz z) (o z)) {ci q0 : Nat} {T : u_T} {N : Nat} {fs : List Value} (hc : vwCl[ci]? = some (C, T, N)) (hb : wc[q0]? = some (b, .inr (ci, fs))) (hrm : rmc.cells = 0 ∧ rmc.slots = 0 ∧ rmc.frames + 1 ≤ rm.frames ∧ 8 + (maxL + 11) + rmc.locals ≤ rm.locals) (hn1 : n1 ≤ rm.cells ∧ n2 ≤ rm.slots) (hlen : As.length = n)
    (hsp : ws.Perm (wr ++ wc)) (hsp2 : ∀ z, (w2 z).Perm (wr ++ wcz z)) {stk : List Value} (hstk : stk = As.reverse ++ .ref b :: st) (hcat : (st.map fun v => v.category).sum ≤ 8) (hs2 : ∀ z, s2 z = (o z).toList ++ st) (k : ∀ z, kk z = some r → WA g K nL n1 n2 (pc + 3) lv (s2 z) (w2 z)) : WA g K nL n1 n2 pc lv stk ws := by
  intro H locs ls hP hD hS hl
  obtain ⟨z, hz, hk⟩ := of_bind h
  have hR : kR K = rm := fx.2.2.2.2.2.2.2.2.2.2
  have hr := va_runV (rest := st) (As := As) (b := b) (C := C) (n := n) (g := F0 (km K) pc ls stk) (below := kb K) (meth := kt K) (locs := locs) (cells := n1) (slots := n2) (e := ke K) ⟨fx.1, fx.2.1, fx.2.2.2.1, fx.2.2.2.2.1, fx.2.2.2.2.2.1⟩ (ct z hz H.size) (R := kR K) (cwV n fx.2.2.2.2.2.1 (good_V mv hlk) rfl hrm.1 hrm.2.1 mv.2.2.2.2 ⟨by rw [hR]; exact hrm.2.2.1, by rw [hR]; exact hrm.2.2.2⟩)
    ⟨Ct.blind, va_recv (ci := ci) (q0 := q0) fx.2.2.2.2.2.2.2.1 (fun k q hq => by
      obtain ⟨i, hi⟩ := List.getElem?_of_mem (List.mem_append_right wr (List.mem_of_getElem? hq))
      exact (P_perm hsp hP) i q hi) hc hb, Ct.pre fx hsp hP hD hS _⟩ rfl hlen hl.1 hstk (lv_room hcat) d (by rw [hR]; exact hn1)
  exact wa_ret (β := Unit) (ρ := Unit) fx hsp (hsp2 z) hP hD hS hl hr (by rw [← hs2]; exact k z hk)
/-- a static method of ours, by its contract -/
theorem wa_S {β ρ : Type} (fx : Fx g K rm cc nL rt own) (ms : MS y bytes maxL ret n) (hlk : Cond.methodLink own index y ∈ WT) (d : decode cc pc = .ok (.invokestatic index, 3)) {As : List Value} {fc : Option β} {kk : β → Option ρ} {r : ρ} (h : Option.bind fc kk = some r) {wcz w2 : β → va_W} {o : β → Option Value} {s2 : β → List Value}
    (ct : ∀ z, fc = some z → Ct g (kl K) y (wd y bytes maxL ret) rmc As wc (wcz z) (o z)) (hrm : rmc.cells = 0 ∧ rmc.slots = 0 ∧ rmc.frames + 1 ≤ rm.frames ∧ 8 + (maxL + 11) + rmc.locals ≤ rm.locals) (hn1 : n1 ≤ rm.cells ∧ n2 ≤ rm.slots) (hlen : As.length = n)
    (hsp : ws.Perm (wr ++ wc)) (hsp2 : ∀ z, (w2 z).Perm (wr ++ wcz z)) {stk : List Value} (hstk : stk = As.reverse ++ st) (hcat : (st.map fun v => v.category).sum ≤ 8) (hs2 : ∀ z, s2 z = (o z).toList ++ st) (k : ∀ z, kk z = some r → WA g K nL n1 n2 (pc + 3) lv (s2 z) (w2 z)) : WA g K nL n1 n2 pc lv stk ws := by
  intro H locs ls hP hD hS hl
  obtain ⟨z, hz, hk⟩ := of_bind h
  have hR : kR K = rm := fx.2.2.2.2.2.2.2.2.2.2
  have hr := va_runS (rest := st) (As := As) (n := n) (g := F0 (km K) pc ls stk) (below := kb K) (meth := kt K) (locs := locs) (cells := n1) (slots := n2) (e := ke K) ⟨fx.1, fx.2.1, fx.2.2.2.1, fx.2.2.2.2.1, fx.2.2.2.2.2.1⟩ (ct z hz H.size) (R := kR K) (va_cwS n fx.2.2.2.2.2.1 (good_S ms hlk) rfl hrm.1 hrm.2.1 ms.2.2.2 ⟨by rw [hR]; exact hrm.2.2.1, by rw [hR]; exact hrm.2.2.2⟩)
    ⟨Ct.blind, Ct.pre fx hsp hP hD hS _⟩ rfl hlen hl.1 hstk (lv_room hcat) d (by rw [hR]; exact hn1)
  exact wa_ret (β := Unit) (ρ := Unit) fx hsp (hsp2 z) hP hD hS hl hr (by rw [← hs2]; exact k z hk)
/-- a private static method of a nest mate -/
theorem wa_SN {β ρ : Type} (fx : Fx g K rm cc nL rt own) (ms : MS y bytes maxL ret n) (hlk : va_Nw (.methodLinkNest own index y "WindowChairs") (ks K)) (d : decode cc pc = .ok (.invokestatic index, 3)) {As : List Value} {fc : Option β} {kk : β → Option ρ} {r : ρ} (h : Option.bind fc kk = some r) {wcz w2 : β → va_W} {o : β → Option Value} {s2 : β → List Value}
    (ct : ∀ z, fc = some z → Ct g (kl K) y (wd y bytes maxL ret) rmc As wc (wcz z) (o z)) (hrm : rmc.cells = 0 ∧ rmc.slots = 0 ∧ rmc.frames + 1 ≤ rm.frames ∧ 8 + (maxL + 11) + rmc.locals ≤ rm.locals) (hn1 : n1 ≤ rm.cells ∧ n2 ≤ rm.slots) (hlen : As.length = n)
    (hsp : ws.Perm (wr ++ wc)) (hsp2 : ∀ z, (w2 z).Perm (wr ++ wcz z)) {stk : List Value} (hstk : stk = As.reverse ++ st) (hcat : (st.map fun v => v.category).sum ≤ 8) (hs2 : ∀ z, s2 z = (o z).toList ++ st) (k : ∀ z, kk z = some r → WA g K nL n1 n2 (pc + 3) lv (s2 z) (w2 z)) : WA g K nL n1 n2 pc lv stk ws := by
  intro H locs ls hP hD hS hl
  obtain ⟨z, hz, hk⟩ := of_bind h
  have hR : kR K = rm := fx.2.2.2.2.2.2.2.2.2.2
  have hr := va_runSN (rest := st) (As := As) (n := n) (g := F0 (km K) pc ls stk) (below := kb K) (meth := kt K) (locs := locs) (cells := n1) (slots := n2) (e := ke K) (host := "WindowChairs") ⟨fx.1, fx.2.1, fx.2.2.2.1, fx.2.2.2.2.1, fx.2.2.2.2.2.1⟩ (ct z hz H.size) (R := kR K) ⟨va_cnB n fx.2.2.2.2.2.1 (good_wd ms.2.2.1) rfl hrm.1 hrm.2.1 hlk (fx.2.2.2.2.2.1 _ ms.2.1) ms.2.2.2 ⟨by rw [hR]; exact hrm.2.2.1, by rw [hR]; exact hrm.2.2.2⟩, fx.2.2.2.2.2.1 _ ms.1, trivial⟩
    ⟨Ct.blind, Ct.pre fx hsp hP hD hS _⟩ rfl hlen hl.1 hstk (lv_room hcat) d (by rw [hR]; exact hn1)
  exact wa_ret (β := Unit) (ρ := Unit) fx hsp (hsp2 z) hP hD hS hl hr (by rw [← hs2]; exact k z hk)
end
theorem rm_ok {h h2 maxL : Nat} (hh : h + 1 ≤ h2) (hm : maxL ≤ 21) : (rmh h).cells = 0 ∧ (rmh h).slots = 0 ∧ (rmh h).frames + 1 ≤ (rmh h2).frames ∧ 8 + (maxL + 11) + (rmh h).locals ≤ (rmh h2).locals := by
  refine ⟨rfl, rfl, hh, ?_⟩
  show 8 + (maxL + 11) + 40 * h ≤ 40 * h2
  omega
end
