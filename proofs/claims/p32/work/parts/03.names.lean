def RX0 : String := "OnecodeChancery$Article"
def TX0 : u_T := fun k => match k with
  | 0 => ("OnecodeChancery$Article", "number", "I", true)
  | 1 => ("OnecodeChancery$Article", "clause", "LOnecodeChancery$Clause;", false)
  | 2 => ("OnecodeChancery$Article", "state", "I", false)
  | 3 => ("OnecodeChancery$Article", "from", "I", false)
  | 4 => ("OnecodeChancery$Article", "end", "I", false)
  | _ => ("OnecodeChancery$Article", "exceptions", "I", false)
def tyX0 : Nat → FieldType := fun k => match k with
  | 0 => .int
  | 1 => .object "OnecodeChancery$Clause"
  | 2 => .int
  | 3 => .int
  | 4 => .int
  | _ => .int
theorem nmX0 : ∀ a, a < 6 → ∀ b, b < 6 → a ≠ b → (TX0 a).2.1 ≠ (TX0 b).2.1 := by decide +kernel
theorem tyX0_ok : ∀ k, k < 6 → parseFieldDescriptor (TX0 k).2.2.1 = some (tyX0 k) := by decide +kernel
abbrev cX0_init : ByteArray := prog_2_method_1_code
def yX0_init : MethodName := ⟨RX0, "<init>", "(I)V"⟩
abbrev cX0_isInForce : ByteArray := prog_2_method_2_code
def yX0_isInForce : MethodName := ⟨RX0, "isInForce", "(I)Z"⟩
def RX1 : String := "OnecodeChancery$Clause"
def TX1 : u_T := fun k => match k with
  | 0 => ("OnecodeChancery$Clause", "matter", "I", false)
  | 1 => ("OnecodeChancery$Clause", "classes", "I", false)
  | 2 => ("OnecodeChancery$Clause", "wanted", "I", false)
  | 3 => ("OnecodeChancery$Clause", "unwanted", "I", false)
  | 4 => ("OnecodeChancery$Clause", "least", "I", false)
  | 5 => ("OnecodeChancery$Clause", "greatest", "I", false)
  | 6 => ("OnecodeChancery$Clause", "outcome", "I", false)
  | 7 => ("OnecodeChancery$Clause", "exceptionTo", "I", false)
  | 8 => ("OnecodeChancery$Clause", "limits", "I", false)
  | 9 => ("OnecodeChancery$Clause", "limitSigns", "[I", true)
  | _ => ("OnecodeChancery$Clause", "limitNumbers", "[I", true)
def tyX1 : Nat → FieldType := fun k => match k with
  | 0 => .int
  | 1 => .int
  | 2 => .int
  | 3 => .int
  | 4 => .int
  | 5 => .int
  | 6 => .int
  | 7 => .int
  | 8 => .int
  | 9 => .array .int
  | _ => .array .int
theorem nmX1 : ∀ a, a < 11 → ∀ b, b < 11 → a ≠ b → (TX1 a).2.1 ≠ (TX1 b).2.1 := by decide +kernel
theorem tyX1_ok : ∀ k, k < 11 → parseFieldDescriptor (TX1 k).2.2.1 = some (tyX1 k) := by decide +kernel
abbrev cX1_init : ByteArray := prog_3_method_1_code
def yX1_init : MethodName := ⟨RX1, "<init>", "()V"⟩
abbrev cX1_addLimit : ByteArray := prog_3_method_2_code
def yX1_addLimit : MethodName := ⟨RX1, "addLimit", "(II)Z"⟩
abbrev cX1_markOf : ByteArray := prog_3_method_3_code
def yX1_markOf : MethodName := ⟨RX1, "markOf", "(I)I"⟩
abbrev cX1_isFor : ByteArray := prog_3_method_4_code
def yX1_isFor : MethodName := ⟨RX1, "isFor", "(LOnecodeChancery$Dispute;)Z"⟩
abbrev cX1_appendTo : ByteArray := prog_3_method_5_code
def yX1_appendTo : MethodName := ⟨RX1, "appendTo", "(Ljava/lang/StringBuilder;)V"⟩
abbrev cX1_appendFacts : ByteArray := prog_3_method_6_code
def yX1_appendFacts : MethodName := ⟨RX1, "appendFacts", "(Ljava/lang/StringBuilder;CI)V"⟩
def RX2 : String := "OnecodeChancery$Code"
def TX2 : u_T := fun k => match k with
  | 0 => ("OnecodeChancery$Code", "articles", "[LOnecodeChancery$Article;", true)
  | 1 => ("OnecodeChancery$Code", "customs", "LOnecodeChancery$Customs;", true)
  | 2 => ("OnecodeChancery$Code", "count", "I", false)
  | 3 => ("OnecodeChancery$Code", "generals", "I", false)
  | _ => ("OnecodeChancery$Code", "customary", "I", false)
def tyX2 : Nat → FieldType := fun k => match k with
  | 0 => .array (.object "OnecodeChancery$Article")
  | 1 => .object "OnecodeChancery$Customs"
  | 2 => .int
  | 3 => .int
  | _ => .int
theorem nmX2 : ∀ a, a < 5 → ∀ b, b < 5 → a ≠ b → (TX2 a).2.1 ≠ (TX2 b).2.1 := by decide +kernel
theorem tyX2_ok : ∀ k, k < 5 → parseFieldDescriptor (TX2 k).2.2.1 = some (tyX2 k) := by decide +kernel
abbrev cX2_init : ByteArray := prog_4_method_1_code
def yX2_init : MethodName := ⟨RX2, "<init>", "(LOnecodeChancery$Customs;)V"⟩
abbrev cX2_put : ByteArray := prog_4_method_2_code
def yX2_put : MethodName := ⟨RX2, "put", "(ILOnecodeChancery$Clause;)V"⟩
abbrev cX2_sortOut : ByteArray := prog_4_method_3_code
def yX2_sortOut : MethodName := ⟨RX2, "sortOut", "()V"⟩
abbrev cX2_countOf : ByteArray := prog_4_method_4_code
def yX2_countOf : MethodName := ⟨RX2, "countOf", "(I)I"⟩
abbrev cX2_inForce : ByteArray := prog_4_method_5_code
def yX2_inForce : MethodName := ⟨RX2, "inForce", "(I)I"⟩
abbrev cX2_told : ByteArray := prog_4_method_6_code
def yX2_told : MethodName := ⟨RX2, "told", "(ILOnecodeChancery$Dispute;I)I"⟩
abbrev cX2_toldBy : ByteArray := prog_4_method_7_code
def yX2_toldBy : MethodName := ⟨RX2, "toldBy", "(IILOnecodeChancery$Dispute;I)I"⟩
abbrev cX2_applying : ByteArray := prog_4_method_8_code
def yX2_applying : MethodName := ⟨RX2, "applying", "(ILOnecodeChancery$Dispute;)I"⟩
abbrev cX2_toldByAll : ByteArray := prog_4_method_9_code
def yX2_toldByAll : MethodName := ⟨RX2, "toldByAll", "(IIIIII)I"⟩
abbrev cX2_toldByOne : ByteArray := prog_4_method_10_code
def yX2_toldByOne : MethodName := ⟨RX2, "toldByOne", "(IIIIII)I"⟩
def RX3 : String := "OnecodeChancery$Customs"
def TX3 : u_T := fun k => match k with
  | 0 => ("OnecodeChancery$Customs", "rules", "[LOnecodeChancery$Rule;", true)
  | 1 => ("OnecodeChancery$Customs", "ties", "[I", true)
  | _ => ("OnecodeChancery$Customs", "count", "I", false)
def tyX3 : Nat → FieldType := fun k => match k with
  | 0 => .array (.object "OnecodeChancery$Rule")
  | 1 => .array .int
  | _ => .int
theorem nmX3 : ∀ a, a < 3 → ∀ b, b < 3 → a ≠ b → (TX3 a).2.1 ≠ (TX3 b).2.1 := by decide +kernel
theorem tyX3_ok : ∀ k, k < 3 → parseFieldDescriptor (TX3 k).2.2.1 = some (tyX3 k) := by decide +kernel
abbrev cX3_init : ByteArray := prog_5_method_1_code
def yX3_init : MethodName := ⟨RX3, "<init>", "()V"⟩
abbrev cX3_ofParish : ByteArray := prog_5_method_2_code
def yX3_ofParish : MethodName := ⟨RX3, "ofParish", "(ILOnecodeChancery$Dispute;I)I"⟩
abbrev cX3_byTie : ByteArray := prog_5_method_3_code
def yX3_byTie : MethodName := ⟨RX3, "byTie", "(LOnecodeChancery$Dispute;I)I"⟩
abbrev cX3_milder : ByteArray := prog_5_method_4_code
def yX3_milder : MethodName := ⟨RX3, "milder", "(II)I"⟩
def RX4 : String := "OnecodeChancery$Dispute"
def TX4 : u_T := fun k => match k with
  | 0 => ("OnecodeChancery$Dispute", "plaintiff", "I", false)
  | 1 => ("OnecodeChancery$Dispute", "defendant", "I", false)
  | 2 => ("OnecodeChancery$Dispute", "rank", "I", false)
  | 3 => ("OnecodeChancery$Dispute", "matter", "I", false)
  | 4 => ("OnecodeChancery$Dispute", "facts", "I", false)
  | 5 => ("OnecodeChancery$Dispute", "amount", "I", false)
  | 6 => ("OnecodeChancery$Dispute", "day", "I", false)
  | 7 => ("OnecodeChancery$Dispute", "judge", "I", false)
  | _ => ("OnecodeChancery$Dispute", "verdict", "I", false)
def tyX4 : Nat → FieldType := fun k => match k with
  | 0 => .int
  | 1 => .int
  | 2 => .int
  | 3 => .int
  | 4 => .int
  | 5 => .int
  | 6 => .int
  | 7 => .int
  | _ => .int
theorem nmX4 : ∀ a, a < 9 → ∀ b, b < 9 → a ≠ b → (TX4 a).2.1 ≠ (TX4 b).2.1 := by decide +kernel
theorem tyX4_ok : ∀ k, k < 9 → parseFieldDescriptor (TX4 k).2.2.1 = some (tyX4 k) := by decide +kernel
abbrev cX4_init : ByteArray := prog_6_method_1_code
def yX4_init : MethodName := ⟨RX4, "<init>", "()V"⟩
abbrev cX4_worth : ByteArray := prog_6_method_2_code
def yX4_worth : MethodName := ⟨RX4, "worth", "(I)I"⟩
abbrev cX4_isAlike : ByteArray := prog_6_method_3_code
def yX4_isAlike : MethodName := ⟨RX4, "isAlike", "(LOnecodeChancery$Dispute;)Z"⟩
def RX5 : String := "OnecodeChancery$Draft"
def TX5 : u_T := fun k => match k with
  | 0 => ("OnecodeChancery$Draft", "signs", "[I", true)
  | 1 => ("OnecodeChancery$Draft", "length", "I", false)
  | _ => ("OnecodeChancery$Draft", "place", "I", false)
def tyX5 : Nat → FieldType := fun k => match k with
  | 0 => .array .int
  | 1 => .int
  | _ => .int
theorem nmX5 : ∀ a, a < 3 → ∀ b, b < 3 → a ≠ b → (TX5 a).2.1 ≠ (TX5 b).2.1 := by decide +kernel
theorem tyX5_ok : ∀ k, k < 3 → parseFieldDescriptor (TX5 k).2.2.1 = some (tyX5 k) := by decide +kernel
abbrev cX5_init : ByteArray := prog_7_method_1_code
def yX5_init : MethodName := ⟨RX5, "<init>", "()V"⟩
abbrev cX5_readInto : ByteArray := prog_7_method_2_code
def yX5_readInto : MethodName := ⟨RX5, "readInto", "(LOnecodeChancery$Clause;I)Z"⟩
abbrev cX5_takeMatter : ByteArray := prog_7_method_3_code
def yX5_takeMatter : MethodName := ⟨RX5, "takeMatter", "(LOnecodeChancery$Clause;)Z"⟩
abbrev cX5_takeClasses : ByteArray := prog_7_method_4_code
def yX5_takeClasses : MethodName := ⟨RX5, "takeClasses", "(LOnecodeChancery$Clause;)Z"⟩
abbrev cX5_takeConditions : ByteArray := prog_7_method_5_code
def yX5_takeConditions : MethodName := ⟨RX5, "takeConditions", "(LOnecodeChancery$Clause;)Z"⟩
abbrev cX5_takeCondition : ByteArray := prog_7_method_6_code
def yX5_takeCondition : MethodName := ⟨RX5, "takeCondition", "(LOnecodeChancery$Clause;)Z"⟩
abbrev cX5_takeOutcome : ByteArray := prog_7_method_7_code
def yX5_takeOutcome : MethodName := ⟨RX5, "takeOutcome", "(LOnecodeChancery$Clause;I)Z"⟩
abbrev cX5_takeException : ByteArray := prog_7_method_8_code
def yX5_takeException : MethodName := ⟨RX5, "takeException", "(LOnecodeChancery$Clause;I)Z"⟩
abbrev cX5_nextSign : ByteArray := prog_7_method_9_code
def yX5_nextSign : MethodName := ⟨RX5, "nextSign", "()I"⟩
abbrev cX5_takeSign : ByteArray := prog_7_method_10_code
def yX5_takeSign : MethodName := ⟨RX5, "takeSign", "(I)Z"⟩
abbrev cX5_takeDigit : ByteArray := prog_7_method_11_code
def yX5_takeDigit : MethodName := ⟨RX5, "takeDigit", "(I)I"⟩
abbrev cX5_takeNumber : ByteArray := prog_7_method_12_code
def yX5_takeNumber : MethodName := ⟨RX5, "takeNumber", "(I)I"⟩
def RX6 : String := "OnecodeChancery$Faction"
def TX6 : u_T := fun k => match k with
  | 0 => ("OnecodeChancery$Faction", "moods", "[I", true)
  | 1 => ("OnecodeChancery$Faction", "seats", "[I", true)
  | 2 => ("OnecodeChancery$Faction", "taste", "I", false)
  | _ => ("OnecodeChancery$Faction", "pledged", "I", false)
def tyX6 : Nat → FieldType := fun k => match k with
  | 0 => .array .int
  | 1 => .array .int
  | 2 => .int
  | _ => .int
theorem nmX6 : ∀ a, a < 4 → ∀ b, b < 4 → a ≠ b → (TX6 a).2.1 ≠ (TX6 b).2.1 := by decide +kernel
theorem tyX6_ok : ∀ k, k < 4 → parseFieldDescriptor (TX6 k).2.2.1 = some (tyX6 k) := by decide +kernel
abbrev cX6_init : ByteArray := prog_8_method_1_code
def yX6_init : MethodName := ⟨RX6, "<init>", "()V"⟩
abbrev cX6_likes : ByteArray := prog_8_method_2_code
def yX6_likes : MethodName := ⟨RX6, "likes", "(LOnecodeChancery$Clause;)I"⟩
abbrev cX6_stance : ByteArray := prog_8_method_3_code
def yX6_stance : MethodName := ⟨RX6, "stance", "(LOnecodeChancery$Article;Z)I"⟩
def RX7 : String := "OnecodeChancery$Grid"
def TX7 : u_T := fun k => match k with
  | 0 => ("OnecodeChancery$Grid", "probe", "LOnecodeChancery$Dispute;", true)
  | 1 => ("OnecodeChancery$Grid", "counts", "[I", true)
  | 2 => ("OnecodeChancery$Grid", "marks", "[I", true)
  | 3 => ("OnecodeChancery$Grid", "markCount", "I", false)
  | _ => ("OnecodeChancery$Grid", "mark", "I", false)
def tyX7 : Nat → FieldType := fun k => match k with
  | 0 => .object "OnecodeChancery$Dispute"
  | 1 => .array .int
  | 2 => .array .int
  | 3 => .int
  | _ => .int
theorem nmX7 : ∀ a, a < 5 → ∀ b, b < 5 → a ≠ b → (TX7 a).2.1 ≠ (TX7 b).2.1 := by decide +kernel
theorem tyX7_ok : ∀ k, k < 5 → parseFieldDescriptor (TX7 k).2.2.1 = some (tyX7 k) := by decide +kernel
abbrev cX7_init : ByteArray := prog_9_method_1_code
def yX7_init : MethodName := ⟨RX7, "<init>", "()V"⟩
abbrev cX7_lay : ByteArray := prog_9_method_2_code
def yX7_lay : MethodName := ⟨RX7, "lay", "(IILOnecodeChancery$Code;)V"⟩
abbrev cX7_addMarksOf : ByteArray := prog_9_method_3_code
def yX7_addMarksOf : MethodName := ⟨RX7, "addMarksOf", "(LOnecodeChancery$Clause;)V"⟩
abbrev cX7_addMark : ByteArray := prog_9_method_4_code
def yX7_addMark : MethodName := ⟨RX7, "addMark", "(I)V"⟩
abbrev cX7_size : ByteArray := prog_9_method_5_code
def yX7_size : MethodName := ⟨RX7, "size", "()I"⟩
abbrev cX7_step : ByteArray := prog_9_method_6_code
def yX7_step : MethodName := ⟨RX7, "step", "()V"⟩
abbrev cX7_count : ByteArray := prog_9_method_7_code
def yX7_count : MethodName := ⟨RX7, "count", "(IILOnecodeChancery$Code;I)V"⟩
abbrev cX7_add : ByteArray := prog_9_method_8_code
def yX7_add : MethodName := ⟨RX7, "add", "(II)V"⟩
def RX8 : String := "OnecodeChancery$Houses"
def TX8 : u_T := fun k => match k with
  | _ => ("OnecodeChancery$Houses", "factions", "[LOnecodeChancery$Faction;", true)
def tyX8 : Nat → FieldType := fun k => match k with
  | _ => .array (.object "OnecodeChancery$Faction")
theorem nmX8 : ∀ a, a < 1 → ∀ b, b < 1 → a ≠ b → (TX8 a).2.1 ≠ (TX8 b).2.1 := by decide +kernel
theorem tyX8_ok : ∀ k, k < 1 → parseFieldDescriptor (TX8 k).2.2.1 = some (tyX8 k) := by decide +kernel
abbrev cX8_init : ByteArray := prog_10_method_1_code
def yX8_init : MethodName := ⟨RX8, "<init>", "()V"⟩
abbrev cX8_allSeats : ByteArray := prog_10_method_2_code
def yX8_allSeats : MethodName := ⟨RX8, "allSeats", "(I)I"⟩
abbrev cX8_pledgedFor : ByteArray := prog_10_method_3_code
def yX8_pledgedFor : MethodName := ⟨RX8, "pledgedFor", "(I)I"⟩
abbrev cX8_balance : ByteArray := prog_10_method_4_code
def yX8_balance : MethodName := ⟨RX8, "balance", "(ILOnecodeChancery$Article;Z)I"⟩
abbrev cX8_inFavour : ByteArray := prog_10_method_5_code
def yX8_inFavour : MethodName := ⟨RX8, "inFavour", "(LOnecodeChancery$Article;Z)I"⟩
abbrev cX8_release : ByteArray := prog_10_method_6_code
def yX8_release : MethodName := ⟨RX8, "release", "(LOnecodeChancery$Article;)V"⟩
def RX9 : String := "OnecodeChancery$Rule"
def TX9 : u_T := fun k => match k with
  | 0 => ("OnecodeChancery$Rule", "parish", "I", false)
  | 1 => ("OnecodeChancery$Rule", "matter", "I", false)
  | 2 => ("OnecodeChancery$Rule", "classes", "I", false)
  | 3 => ("OnecodeChancery$Rule", "needs", "I", false)
  | 4 => ("OnecodeChancery$Rule", "bars", "I", false)
  | 5 => ("OnecodeChancery$Rule", "share", "I", false)
  | 6 => ("OnecodeChancery$Rule", "proof", "I", false)
  | 7 => ("OnecodeChancery$Rule", "least", "I", false)
  | 8 => ("OnecodeChancery$Rule", "most", "I", false)
  | 9 => ("OnecodeChancery$Rule", "sworn", "I", false)
  | _ => ("OnecodeChancery$Rule", "strength", "I", false)
def tyX9 : Nat → FieldType := fun k => match k with
  | 0 => .int
  | 1 => .int
  | 2 => .int
  | 3 => .int
  | 4 => .int
  | 5 => .int
  | 6 => .int
  | 7 => .int
  | 8 => .int
  | 9 => .int
  | _ => .int
theorem nmX9 : ∀ a, a < 11 → ∀ b, b < 11 → a ≠ b → (TX9 a).2.1 ≠ (TX9 b).2.1 := by decide +kernel
theorem tyX9_ok : ∀ k, k < 11 → parseFieldDescriptor (TX9 k).2.2.1 = some (tyX9 k) := by decide +kernel
abbrev cX9_init : ByteArray := prog_11_method_1_code
def yX9_init : MethodName := ⟨RX9, "<init>", "()V"⟩
abbrev cX9_isFor : ByteArray := prog_11_method_2_code
def yX9_isFor : MethodName := ⟨RX9, "isFor", "(LOnecodeChancery$Dispute;I)Z"⟩
def RX10 : String := "OnecodeChancery"
def TX10 : u_T := fun k => match k with
  | 0 => ("OnecodeChancery", "day", "I", false)
  | 1 => ("OnecodeChancery", "refused", "I", false)
  | 2 => ("OnecodeChancery", "reversed", "I", false)
  | 3 => ("OnecodeChancery", "caseCount", "I", false)
  | 4 => ("OnecodeChancery", "peopleOf", "[I", true)
  | 5 => ("OnecodeChancery", "wordings", "[[I", true)
  | 6 => ("OnecodeChancery", "ways", "[I", true)
  | 7 => ("OnecodeChancery", "heldBy", "[I", true)
  | 8 => ("OnecodeChancery", "cases", "[LOnecodeChancery$Dispute;", true)
  | 9 => ("OnecodeChancery", "customs", "LOnecodeChancery$Customs;", true)
  | 10 => ("OnecodeChancery", "code", "LOnecodeChancery$Code;", true)
  | 11 => ("OnecodeChancery", "houses", "LOnecodeChancery$Houses;", true)
  | 12 => ("OnecodeChancery", "draft", "LOnecodeChancery$Draft;", true)
  | _ => ("OnecodeChancery", "table", "LOnecodeChancery$Grid;", true)
def tyX10 : Nat → FieldType := fun k => match k with
  | 0 => .int
  | 1 => .int
  | 2 => .int
  | 3 => .int
  | 4 => .array .int
  | 5 => .array (.array .int)
  | 6 => .array .int
  | 7 => .array .int
  | 8 => .array (.object "OnecodeChancery$Dispute")
  | 9 => .object "OnecodeChancery$Customs"
  | 10 => .object "OnecodeChancery$Code"
  | 11 => .object "OnecodeChancery$Houses"
  | 12 => .object "OnecodeChancery$Draft"
  | _ => .object "OnecodeChancery$Grid"
theorem nmX10 : ∀ a, a < 14 → ∀ b, b < 14 → a ≠ b → (TX10 a).2.1 ≠ (TX10 b).2.1 := by decide +kernel
theorem tyX10_ok : ∀ k, k < 14 → parseFieldDescriptor (TX10 k).2.2.1 = some (tyX10 k) := by decide +kernel
abbrev cX10_init : ByteArray := prog_1_method_1_code
def yX10_init : MethodName := ⟨RX10, "<init>", "()V"⟩
abbrev cX10_people : ByteArray := prog_1_method_2_code
def yX10_people : MethodName := ⟨RX10, "people", "(II)I"⟩
abbrev cX10_swap : ByteArray := prog_1_method_3_code
def yX10_swap : MethodName := ⟨RX10, "swap", "(III)I"⟩
abbrev cX10_tie : ByteArray := prog_1_method_4_code
def yX10_tie : MethodName := ⟨RX10, "tie", "(II)I"⟩
abbrev cX10_rule : ByteArray := prog_1_method_5_code
def yX10_rule : MethodName := ⟨RX10, "rule", "(IIIIIII)I"⟩
abbrev cX10_limit : ByteArray := prog_1_method_6_code
def yX10_limit : MethodName := ⟨RX10, "limit", "(III)I"⟩
abbrev cX10_dispute : ByteArray := prog_1_method_7_code
def yX10_dispute : MethodName := ⟨RX10, "dispute", "(IIIIIII)I"⟩
abbrev cX10_feed : ByteArray := prog_1_method_8_code
def yX10_feed : MethodName := ⟨RX10, "feed", "(I)I"⟩
abbrev cX10_write : ByteArray := prog_1_method_9_code
def yX10_write : MethodName := ⟨RX10, "write", "()I"⟩
abbrev cX10_amend : ByteArray := prog_1_method_10_code
def yX10_amend : MethodName := ⟨RX10, "amend", "(I)Z"⟩
abbrev cX10_seats : ByteArray := prog_1_method_11_code
def yX10_seats : MethodName := ⟨RX10, "seats", "(III)I"⟩
abbrev cX10_mood : ByteArray := prog_1_method_12_code
def yX10_mood : MethodName := ⟨RX10, "mood", "(III)I"⟩
abbrev cX10_taste : ByteArray := prog_1_method_13_code
def yX10_taste : MethodName := ⟨RX10, "taste", "(II)I"⟩
abbrev cX10_pledge : ByteArray := prog_1_method_14_code
def yX10_pledge : MethodName := ⟨RX10, "pledge", "(II)I"⟩
abbrev cX10_vote : ByteArray := prog_1_method_15_code
def yX10_vote : MethodName := ⟨RX10, "vote", "(I)I"⟩
abbrev cX10_repeal : ByteArray := prog_1_method_16_code
def yX10_repeal : MethodName := ⟨RX10, "repeal", "(I)I"⟩
abbrev cX10_way : ByteArray := prog_1_method_17_code
def yX10_way : MethodName := ⟨RX10, "way", "(II)I"⟩
abbrev cX10_judge : ByteArray := prog_1_method_18_code
def yX10_judge : MethodName := ⟨RX10, "judge", "(II)I"⟩
abbrev cX10_appeal : ByteArray := prog_1_method_19_code
def yX10_appeal : MethodName := ⟨RX10, "appeal", "(I)I"⟩
abbrev cX10_pass : ByteArray := prog_1_method_20_code
def yX10_pass : MethodName := ⟨RX10, "pass", "(I)I"⟩
abbrev cX10_call : ByteArray := prog_1_method_21_code
def yX10_call : MethodName := ⟨RX10, "call", "()I"⟩
abbrev cX10_means : ByteArray := prog_1_method_22_code
def yX10_means : MethodName := ⟨RX10, "means", "(II)I"⟩
abbrev cX10_ofRule : ByteArray := prog_1_method_23_code
def yX10_ofRule : MethodName := ⟨RX10, "ofRule", "(II)I"⟩
abbrev cX10_ofCase : ByteArray := prog_1_method_24_code
def yX10_ofCase : MethodName := ⟨RX10, "ofCase", "(II)I"⟩
abbrev cX10_tells : ByteArray := prog_1_method_25_code
def yX10_tells : MethodName := ⟨RX10, "tells", "(II)I"⟩
abbrev cX10_ofArticle : ByteArray := prog_1_method_26_code
def yX10_ofArticle : MethodName := ⟨RX10, "ofArticle", "(II)I"⟩
abbrev cX10_liking : ByteArray := prog_1_method_27_code
def yX10_liking : MethodName := ⟨RX10, "liking", "(II)I"⟩
abbrev cX10_ofFaction : ByteArray := prog_1_method_28_code
def yX10_ofFaction : MethodName := ⟨RX10, "ofFaction", "(II)I"⟩
abbrev cX10_grid : ByteArray := prog_1_method_29_code
def yX10_grid : MethodName := ⟨RX10, "grid", "(III)I"⟩
abbrev cX10_isDead : ByteArray := prog_1_method_30_code
def yX10_isDead : MethodName := ⟨RX10, "isDead", "(II)Z"⟩
abbrev cX10_gain : ByteArray := prog_1_method_31_code
def yX10_gain : MethodName := ⟨RX10, "gain", "(I)I"⟩
abbrev cX10_held : ByteArray := prog_1_method_32_code
def yX10_held : MethodName := ⟨RX10, "held", "(IIIII)I"⟩
abbrev cX10_uniformity : ByteArray := prog_1_method_33_code
def yX10_uniformity : MethodName := ⟨RX10, "uniformity", "()D"⟩
abbrev cX10_realm : ByteArray := prog_1_method_34_code
def yX10_realm : MethodName := ⟨RX10, "realm", "(I)I"⟩
abbrev cX10_text : ByteArray := prog_1_method_35_code
def yX10_text : MethodName := ⟨RX10, "text", "(I)Ljava/lang/String;"⟩
abbrev cX10_wouldVote : ByteArray := prog_1_method_36_code
def yX10_wouldVote : MethodName := ⟨RX10, "wouldVote", "(IIZ)I"⟩
abbrev cX10_wouldJudge : ByteArray := prog_1_method_37_code
def yX10_wouldJudge : MethodName := ⟨RX10, "wouldJudge", "(II)I"⟩
abbrev cX10_without : ByteArray := prog_1_method_38_code
def yX10_without : MethodName := ⟨RX10, "without", "(II)I"⟩
abbrev cX10_isSound : ByteArray := prog_1_method_39_code
def yX10_isSound : MethodName := ⟨RX10, "isSound", "()Z"⟩
abbrev cX10_digest : ByteArray := prog_1_method_40_code
def yX10_digest : MethodName := ⟨RX10, "digest", "()J"⟩
abbrev cX10_needNumber : ByteArray := prog_1_method_41_code
def yX10_needNumber : MethodName := ⟨RX10, "needNumber", "(II)V"⟩
abbrev cX10_needValue : ByteArray := prog_1_method_42_code
def yX10_needValue : MethodName := ⟨RX10, "needValue", "(III)V"⟩
abbrev cX10_needState : ByteArray := prog_1_method_43_code
def yX10_needState : MethodName := ⟨RX10, "needState", "(Z)V"⟩
abbrev cX10_realFacts : ByteArray := prog_1_method_44_code
def yX10_realFacts : MethodName := ⟨RX10, "realFacts", "(II)I"⟩
abbrev cX10_takeDraft : ByteArray := prog_1_method_45_code
def yX10_takeDraft : MethodName := ⟨RX10, "takeDraft", "(I)Z"⟩
abbrev cX10_byCode : ByteArray := prog_1_method_46_code
def yX10_byCode : MethodName := ⟨RX10, "byCode", "(LOnecodeChancery$Dispute;I)I"⟩
abbrev cX10_judgedBy : ByteArray := prog_1_method_47_code
def yX10_judgedBy : MethodName := ⟨RX10, "judgedBy", "(ILOnecodeChancery$Dispute;)I"⟩
abbrev cX10_stretched : ByteArray := prog_1_method_48_code
def yX10_stretched : MethodName := ⟨RX10, "stretched", "(I)I"⟩
abbrev cX10_casesOf : ByteArray := prog_1_method_49_code
def yX10_casesOf : MethodName := ⟨RX10, "casesOf", "(LOnecodeChancery$Rule;)I"⟩
abbrev cX10_verdictCount : ByteArray := prog_1_method_50_code
def yX10_verdictCount : MethodName := ⟨RX10, "verdictCount", "()I"⟩
abbrev cX10_againstCustom : ByteArray := prog_1_method_51_code
def yX10_againstCustom : MethodName := ⟨RX10, "againstCustom", "()I"⟩
abbrev cX10_askParishes : ByteArray := prog_1_method_52_code
def yX10_askParishes : MethodName := ⟨RX10, "askParishes", "(IIII)V"⟩
abbrev cX10_mostHeld : ByteArray := prog_1_method_53_code
def yX10_mostHeld : MethodName := ⟨RX10, "mostHeld", "()I"⟩
abbrev cX10_peopleWho : ByteArray := prog_1_method_54_code
def yX10_peopleWho : MethodName := ⟨RX10, "peopleWho", "(I)I"⟩
abbrev cX10_hasSoundWordings : ByteArray := prog_1_method_55_code
def yX10_hasSoundWordings : MethodName := ⟨RX10, "hasSoundWordings", "()Z"⟩
abbrev cX10_hasSoundVerdicts : ByteArray := prog_1_method_56_code
def yX10_hasSoundVerdicts : MethodName := ⟨RX10, "hasSoundVerdicts", "()Z"⟩
abbrev cX10_hasSoundPledges : ByteArray := prog_1_method_57_code
def yX10_hasSoundPledges : MethodName := ⟨RX10, "hasSoundPledges", "()Z"⟩
abbrev cX10_hasSoundArticles : ByteArray := prog_1_method_58_code
def yX10_hasSoundArticles : MethodName := ⟨RX10, "hasSoundArticles", "()Z"⟩
abbrev cX10_withRules : ByteArray := prog_1_method_59_code
def yX10_withRules : MethodName := ⟨RX10, "withRules", "(J)J"⟩
abbrev cX10_withCases : ByteArray := prog_1_method_60_code
def yX10_withCases : MethodName := ⟨RX10, "withCases", "(J)J"⟩
abbrev cX10_withArticles : ByteArray := prog_1_method_61_code
def yX10_withArticles : MethodName := ⟨RX10, "withArticles", "(J)J"⟩
abbrev cX10_withGrids : ByteArray := prog_1_method_62_code
def yX10_withGrids : MethodName := ⟨RX10, "withGrids", "(J)J"⟩
def RX11 : String := "OnecodeChanceryLaw$Out"
def TX11 : u_T := fun k => match k with
  | 0 => ("OnecodeChanceryLaw$Out", "n", "J", false)
  | _ => ("OnecodeChanceryLaw$Out", "s", "Ljava/lang/String;", false)
def tyX11 : Nat → FieldType := fun k => match k with
  | 0 => .long
  | _ => .object "java/lang/String"
theorem nmX11 : ∀ a, a < 2 → ∀ b, b < 2 → a ≠ b → (TX11 a).2.1 ≠ (TX11 b).2.1 := by decide +kernel
theorem tyX11_ok : ∀ k, k < 2 → parseFieldDescriptor (TX11 k).2.2.1 = some (tyX11 k) := by decide +kernel
abbrev cX11_init : ByteArray := prog_13_method_1_code
def yX11_init : MethodName := ⟨RX11, "<init>", "()V"⟩
def RX12 : String := "OnecodeChanceryModel$Article"
def TX12 : u_T := fun k => match k with
  | 0 => ("OnecodeChanceryModel$Article", "matter", "I", false)
  | 1 => ("OnecodeChanceryModel$Article", "classes", "I", false)
  | 2 => ("OnecodeChanceryModel$Article", "with", "I", false)
  | 3 => ("OnecodeChanceryModel$Article", "without", "I", false)
  | 4 => ("OnecodeChanceryModel$Article", "signs", "[I", true)
  | 5 => ("OnecodeChanceryModel$Article", "numbers", "[I", true)
  | 6 => ("OnecodeChanceryModel$Article", "limits", "I", false)
  | 7 => ("OnecodeChanceryModel$Article", "outcome", "I", false)
  | 8 => ("OnecodeChanceryModel$Article", "exceptionTo", "I", false)
  | 9 => ("OnecodeChanceryModel$Article", "state", "I", false)
  | 10 => ("OnecodeChanceryModel$Article", "from", "I", false)
  | _ => ("OnecodeChanceryModel$Article", "end", "I", false)
def tyX12 : Nat → FieldType := fun k => match k with
  | 0 => .int
  | 1 => .int
  | 2 => .int
  | 3 => .int
  | 4 => .array .int
  | 5 => .array .int
  | 6 => .int
  | 7 => .int
  | 8 => .int
  | 9 => .int
  | 10 => .int
  | _ => .int
theorem nmX12 : ∀ a, a < 12 → ∀ b, b < 12 → a ≠ b → (TX12 a).2.1 ≠ (TX12 b).2.1 := by decide +kernel
theorem tyX12_ok : ∀ k, k < 12 → parseFieldDescriptor (TX12 k).2.2.1 = some (tyX12 k) := by decide +kernel
abbrev cX12_init : ByteArray := prog_15_method_1_code
def yX12_init : MethodName := ⟨RX12, "<init>", "()V"⟩
abbrev cX12_applies : ByteArray := prog_15_method_2_code
def yX12_applies : MethodName := ⟨RX12, "applies", "(LOnecodeChanceryModel$Case;)Z"⟩
abbrev cX12_least : ByteArray := prog_15_method_3_code
def yX12_least : MethodName := ⟨RX12, "least", "()I"⟩
abbrev cX12_most : ByteArray := prog_15_method_4_code
def yX12_most : MethodName := ⟨RX12, "most", "()I"⟩
abbrev cX12_isInForce : ByteArray := prog_15_method_5_code
def yX12_isInForce : MethodName := ⟨RX12, "isInForce", "(I)Z"⟩
def RX13 : String := "OnecodeChanceryModel$Case"
def TX13 : u_T := fun k => match k with
  | 0 => ("OnecodeChanceryModel$Case", "plaintiff", "I", false)
  | 1 => ("OnecodeChanceryModel$Case", "defendant", "I", false)
  | 2 => ("OnecodeChanceryModel$Case", "rank", "I", false)
  | 3 => ("OnecodeChanceryModel$Case", "matter", "I", false)
  | 4 => ("OnecodeChanceryModel$Case", "facts", "I", false)
  | 5 => ("OnecodeChanceryModel$Case", "amount", "I", false)
  | 6 => ("OnecodeChanceryModel$Case", "day", "I", false)
  | 7 => ("OnecodeChanceryModel$Case", "judge", "I", false)
  | _ => ("OnecodeChanceryModel$Case", "verdict", "I", false)
def tyX13 : Nat → FieldType := fun k => match k with
  | 0 => .int
  | 1 => .int
  | 2 => .int
  | 3 => .int
  | 4 => .int
  | 5 => .int
  | 6 => .int
  | 7 => .int
  | _ => .int
theorem nmX13 : ∀ a, a < 9 → ∀ b, b < 9 → a ≠ b → (TX13 a).2.1 ≠ (TX13 b).2.1 := by decide +kernel
theorem tyX13_ok : ∀ k, k < 9 → parseFieldDescriptor (TX13 k).2.2.1 = some (tyX13 k) := by decide +kernel
abbrev cX13_init : ByteArray := prog_16_method_1_code
def yX13_init : MethodName := ⟨RX13, "<init>", "(IIIIIII)V"⟩
abbrev cX13_on : ByteArray := prog_16_method_2_code
def yX13_on : MethodName := ⟨RX13, "on", "(I)LOnecodeChanceryModel$Case;"⟩
def RX14 : String := "OnecodeChanceryModel$Rule"
def TX14 : u_T := fun k => match k with
  | 0 => ("OnecodeChanceryModel$Rule", "parish", "I", true)
  | 1 => ("OnecodeChanceryModel$Rule", "matter", "I", true)
  | 2 => ("OnecodeChanceryModel$Rule", "classes", "I", true)
  | 3 => ("OnecodeChanceryModel$Rule", "needs", "I", true)
  | 4 => ("OnecodeChanceryModel$Rule", "bars", "I", true)
  | 5 => ("OnecodeChanceryModel$Rule", "share", "I", true)
  | 6 => ("OnecodeChanceryModel$Rule", "proof", "I", true)
  | 7 => ("OnecodeChanceryModel$Rule", "sworn", "I", true)
  | 8 => ("OnecodeChanceryModel$Rule", "least", "I", false)
  | _ => ("OnecodeChanceryModel$Rule", "most", "I", false)
def tyX14 : Nat → FieldType := fun k => match k with
  | 0 => .int
  | 1 => .int
  | 2 => .int
  | 3 => .int
  | 4 => .int
  | 5 => .int
  | 6 => .int
  | 7 => .int
  | 8 => .int
  | _ => .int
theorem nmX14 : ∀ a, a < 10 → ∀ b, b < 10 → a ≠ b → (TX14 a).2.1 ≠ (TX14 b).2.1 := by decide +kernel
theorem tyX14_ok : ∀ k, k < 10 → parseFieldDescriptor (TX14 k).2.2.1 = some (tyX14 k) := by decide +kernel
abbrev cX14_init : ByteArray := prog_17_method_1_code
def yX14_init : MethodName := ⟨RX14, "<init>", "(IIIIIIII)V"⟩
abbrev cX14_strength : ByteArray := prog_17_method_2_code
def yX14_strength : MethodName := ⟨RX14, "strength", "()I"⟩
abbrev cX14_holds : ByteArray := prog_17_method_3_code
def yX14_holds : MethodName := ⟨RX14, "holds", "(LOnecodeChanceryModel$Case;)Z"⟩
def RX15 : String := "OnecodeChanceryModel"
def TX15 : u_T := fun k => match k with
  | 0 => ("OnecodeChanceryModel", "thrown", "I", false)
  | 1 => ("OnecodeChanceryModel", "day", "I", false)
  | 2 => ("OnecodeChanceryModel", "reversed", "I", false)
  | 3 => ("OnecodeChanceryModel", "refused", "I", false)
  | 4 => ("OnecodeChanceryModel", "people", "[I", true)
  | 5 => ("OnecodeChanceryModel", "wording", "[[I", true)
  | 6 => ("OnecodeChanceryModel", "ties", "[I", true)
  | 7 => ("OnecodeChanceryModel", "rules", "Ljava/util/List;", true)
  | 8 => ("OnecodeChanceryModel", "cases", "Ljava/util/List;", true)
  | 9 => ("OnecodeChanceryModel", "articles", "Ljava/util/List;", true)
  | 10 => ("OnecodeChanceryModel", "fed", "Ljava/lang/String;", false)
  | 11 => ("OnecodeChanceryModel", "seats", "[[I", true)
  | 12 => ("OnecodeChanceryModel", "moods", "[[I", true)
  | 13 => ("OnecodeChanceryModel", "tastes", "[I", true)
  | 14 => ("OnecodeChanceryModel", "pledges", "[I", true)
  | 15 => ("OnecodeChanceryModel", "ways", "[I", true)
  | 16 => ("OnecodeChanceryModel", "at", "I", false)
  | _ => ("OnecodeChanceryModel", "isBad", "Z", false)
def tyX15 : Nat → FieldType := fun k => match k with
  | 0 => .int
  | 1 => .int
  | 2 => .int
  | 3 => .int
  | 4 => .array .int
  | 5 => .array (.array .int)
  | 6 => .array .int
  | 7 => .object "java/util/List"
  | 8 => .object "java/util/List"
  | 9 => .object "java/util/List"
  | 10 => .object "java/lang/String"
  | 11 => .array (.array .int)
  | 12 => .array (.array .int)
  | 13 => .array .int
  | 14 => .array .int
  | 15 => .array .int
  | 16 => .int
  | _ => .boolean
theorem nmX15 : ∀ a, a < 18 → ∀ b, b < 18 → a ≠ b → (TX15 a).2.1 ≠ (TX15 b).2.1 := by decide +kernel
theorem tyX15_ok : ∀ k, k < 18 → parseFieldDescriptor (TX15 k).2.2.1 = some (tyX15 k) := by decide +kernel
abbrev cX15_init : ByteArray := prog_14_method_1_code
def yX15_init : MethodName := ⟨RX15, "<init>", "()V"⟩
abbrev cX15_thrown : ByteArray := prog_14_method_2_code
def yX15_thrown : MethodName := ⟨RX15, "thrown", "()I"⟩
abbrev cX15_no : ByteArray := prog_14_method_3_code
def yX15_no : MethodName := ⟨RX15, "no", "(I)I"⟩
abbrev cX15_in : ByteArray := prog_14_method_4_code
def yX15_in : MethodName := ⟨RX15, "in", "(III)Z"⟩
abbrev cX15_has : ByteArray := prog_14_method_5_code
def yX15_has : MethodName := ⟨RX15, "has", "(II)Z"⟩
abbrev cX15_size : ByteArray := prog_14_method_6_code
def yX15_size : MethodName := ⟨RX15, "size", "(I)I"⟩
abbrev cX15_custom : ByteArray := prog_14_method_7_code
def yX15_custom : MethodName := ⟨RX15, "custom", "(ILOnecodeChanceryModel$Case;)I"⟩
abbrev cX15_byTie : ByteArray := prog_14_method_8_code
def yX15_byTie : MethodName := ⟨RX15, "byTie", "(LOnecodeChanceryModel$Case;)I"⟩
abbrev cX15_and : ByteArray := prog_14_method_9_code
def yX15_and : MethodName := ⟨RX15, "and", "(II)I"⟩
abbrev cX15_isInForce : ByteArray := prog_14_method_10_code
def yX15_isInForce : MethodName := ⟨RX15, "isInForce", "(III)Z"⟩
abbrev cX15_told : ByteArray := prog_14_method_11_code
def yX15_told : MethodName := ⟨RX15, "told", "(ILOnecodeChanceryModel$Case;III)I"⟩
abbrev cX15_code : ByteArray := prog_14_method_12_code
def yX15_code : MethodName := ⟨RX15, "code", "(LOnecodeChanceryModel$Case;II)I"⟩
abbrev cX15_code_ : ByteArray := prog_14_method_13_code
def yX15_code_ : MethodName := ⟨RX15, "code", "(LOnecodeChanceryModel$Case;)I"⟩
abbrev cX15_sign : ByteArray := prog_14_method_14_code
def yX15_sign : MethodName := ⟨RX15, "sign", "()C"⟩
abbrev cX15_takes : ByteArray := prog_14_method_15_code
def yX15_takes : MethodName := ⟨RX15, "takes", "(C)Z"⟩
abbrev cX15_isDigit : ByteArray := prog_14_method_16_code
def yX15_isDigit : MethodName := ⟨RX15, "isDigit", "(C)Z"⟩
abbrev cX15_digit : ByteArray := prog_14_method_17_code
def yX15_digit : MethodName := ⟨RX15, "digit", "(I)I"⟩
abbrev cX15_number : ByteArray := prog_14_method_18_code
def yX15_number : MethodName := ⟨RX15, "number", "()I"⟩
abbrev cX15_named : ByteArray := prog_14_method_19_code
def yX15_named : MethodName := ⟨RX15, "named", "(I)I"⟩
abbrev cX15_read : ByteArray := prog_14_method_20_code
def yX15_read : MethodName := ⟨RX15, "read", "(I)LOnecodeChanceryModel$Article;"⟩
abbrev cX15_condition : ByteArray := prog_14_method_21_code
def yX15_condition : MethodName := ⟨RX15, "condition", "(LOnecodeChanceryModel$Article;)V"⟩
abbrev cX15_people : ByteArray := prog_14_method_22_code
def yX15_people : MethodName := ⟨RX15, "people", "(II)I"⟩
abbrev cX15_swap : ByteArray := prog_14_method_23_code
def yX15_swap : MethodName := ⟨RX15, "swap", "(III)I"⟩
abbrev cX15_tie : ByteArray := prog_14_method_24_code
def yX15_tie : MethodName := ⟨RX15, "tie", "(II)I"⟩
abbrev cX15_rule : ByteArray := prog_14_method_25_code
def yX15_rule : MethodName := ⟨RX15, "rule", "(IIIIIII)I"⟩
abbrev cX15_isRule : ByteArray := prog_14_method_26_code
def yX15_isRule : MethodName := ⟨RX15, "isRule", "(I)Z"⟩
abbrev cX15_limit : ByteArray := prog_14_method_27_code
def yX15_limit : MethodName := ⟨RX15, "limit", "(III)I"⟩
abbrev cX15_dispute : ByteArray := prog_14_method_28_code
def yX15_dispute : MethodName := ⟨RX15, "dispute", "(IIIIIII)I"⟩
abbrev cX15_isCase : ByteArray := prog_14_method_29_code
def yX15_isCase : MethodName := ⟨RX15, "isCase", "(I)Z"⟩
abbrev cX15_isArticle : ByteArray := prog_14_method_30_code
def yX15_isArticle : MethodName := ⟨RX15, "isArticle", "(I)Z"⟩
abbrev cX15_isBill : ByteArray := prog_14_method_31_code
def yX15_isBill : MethodName := ⟨RX15, "isBill", "(I)Z"⟩
abbrev cX15_feed : ByteArray := prog_14_method_32_code
def yX15_feed : MethodName := ⟨RX15, "feed", "(I)I"⟩
abbrev cX15_write : ByteArray := prog_14_method_33_code
def yX15_write : MethodName := ⟨RX15, "write", "()I"⟩
abbrev cX15_amend : ByteArray := prog_14_method_34_code
def yX15_amend : MethodName := ⟨RX15, "amend", "(I)Z"⟩
abbrev cX15_seats : ByteArray := prog_14_method_35_code
def yX15_seats : MethodName := ⟨RX15, "seats", "(III)I"⟩
abbrev cX15_mood : ByteArray := prog_14_method_36_code
def yX15_mood : MethodName := ⟨RX15, "mood", "(III)I"⟩
abbrev cX15_taste : ByteArray := prog_14_method_37_code
def yX15_taste : MethodName := ⟨RX15, "taste", "(II)I"⟩
abbrev cX15_pledge : ByteArray := prog_14_method_38_code
def yX15_pledge : MethodName := ⟨RX15, "pledge", "(II)I"⟩
abbrev cX15_likingNow : ByteArray := prog_14_method_39_code
def yX15_likingNow : MethodName := ⟨RX15, "likingNow", "(II)I"⟩
abbrev cX15_margin : ByteArray := prog_14_method_40_code
def yX15_margin : MethodName := ⟨RX15, "margin", "(IIZ)I"⟩
abbrev cX15_housesFor : ByteArray := prog_14_method_41_code
def yX15_housesFor : MethodName := ⟨RX15, "housesFor", "(IZ)I"⟩
abbrev cX15_vote : ByteArray := prog_14_method_42_code
def yX15_vote : MethodName := ⟨RX15, "vote", "(I)I"⟩
abbrev cX15_repeal : ByteArray := prog_14_method_43_code
def yX15_repeal : MethodName := ⟨RX15, "repeal", "(I)I"⟩
abbrev cX15_way : ByteArray := prog_14_method_44_code
def yX15_way : MethodName := ⟨RX15, "way", "(II)I"⟩
abbrev cX15_judged : ByteArray := prog_14_method_45_code
def yX15_judged : MethodName := ⟨RX15, "judged", "(LOnecodeChanceryModel$Case;I)I"⟩
abbrev cX15_judge : ByteArray := prog_14_method_46_code
def yX15_judge : MethodName := ⟨RX15, "judge", "(II)I"⟩
abbrev cX15_appeal : ByteArray := prog_14_method_47_code
def yX15_appeal : MethodName := ⟨RX15, "appeal", "(I)I"⟩
abbrev cX15_pass : ByteArray := prog_14_method_48_code
def yX15_pass : MethodName := ⟨RX15, "pass", "(I)I"⟩
abbrev cX15_call : ByteArray := prog_14_method_49_code
def yX15_call : MethodName := ⟨RX15, "call", "()I"⟩
abbrev cX15_means : ByteArray := prog_14_method_50_code
def yX15_means : MethodName := ⟨RX15, "means", "(II)I"⟩
abbrev cX15_ruleNow : ByteArray := prog_14_method_51_code
def yX15_ruleNow : MethodName := ⟨RX15, "ruleNow", "(II)I"⟩
abbrev cX15_ofRule : ByteArray := prog_14_method_52_code
def yX15_ofRule : MethodName := ⟨RX15, "ofRule", "(II)I"⟩
abbrev cX15_caseNow : ByteArray := prog_14_method_53_code
def yX15_caseNow : MethodName := ⟨RX15, "caseNow", "(II)I"⟩
abbrev cX15_ofCase : ByteArray := prog_14_method_54_code
def yX15_ofCase : MethodName := ⟨RX15, "ofCase", "(II)I"⟩
abbrev cX15_tells : ByteArray := prog_14_method_55_code
def yX15_tells : MethodName := ⟨RX15, "tells", "(II)I"⟩
abbrev cX15_articleNow : ByteArray := prog_14_method_56_code
def yX15_articleNow : MethodName := ⟨RX15, "articleNow", "(II)I"⟩
abbrev cX15_ofArticle : ByteArray := prog_14_method_57_code
def yX15_ofArticle : MethodName := ⟨RX15, "ofArticle", "(II)I"⟩
abbrev cX15_liking : ByteArray := prog_14_method_58_code
def yX15_liking : MethodName := ⟨RX15, "liking", "(II)I"⟩
abbrev cX15_factionNow : ByteArray := prog_14_method_59_code
def yX15_factionNow : MethodName := ⟨RX15, "factionNow", "(II)I"⟩
abbrev cX15_ofFaction : ByteArray := prog_14_method_60_code
def yX15_ofFaction : MethodName := ⟨RX15, "ofFaction", "(II)I"⟩
abbrev cX15_marks : ByteArray := prog_14_method_61_code
def yX15_marks : MethodName := ⟨RX15, "marks", "(I)[I"⟩
abbrev cX15_gridNow : ByteArray := prog_14_method_62_code
def yX15_gridNow : MethodName := ⟨RX15, "gridNow", "(III)[I"⟩
abbrev cX15_grid : ByteArray := prog_14_method_63_code
def yX15_grid : MethodName := ⟨RX15, "grid", "(III)I"⟩
abbrev cX15_isDead : ByteArray := prog_14_method_64_code
def yX15_isDead : MethodName := ⟨RX15, "isDead", "(II)Z"⟩
abbrev cX15_gainNow : ByteArray := prog_14_method_65_code
def yX15_gainNow : MethodName := ⟨RX15, "gainNow", "(I)I"⟩
abbrev cX15_gain : ByteArray := prog_14_method_66_code
def yX15_gain : MethodName := ⟨RX15, "gain", "(I)I"⟩
abbrev cX15_heldNow : ByteArray := prog_14_method_67_code
def yX15_heldNow : MethodName := ⟨RX15, "heldNow", "(IIIII)I"⟩
abbrev cX15_held : ByteArray := prog_14_method_68_code
def yX15_held : MethodName := ⟨RX15, "held", "(IIIII)I"⟩
abbrev cX15_uniformityNow : ByteArray := prog_14_method_69_code
def yX15_uniformityNow : MethodName := ⟨RX15, "uniformityNow", "()D"⟩
abbrev cX15_uniformity : ByteArray := prog_14_method_70_code
def yX15_uniformity : MethodName := ⟨RX15, "uniformity", "()D"⟩
abbrev cX15_realmNow : ByteArray := prog_14_method_71_code
def yX15_realmNow : MethodName := ⟨RX15, "realmNow", "(I)I"⟩
abbrev cX15_realm : ByteArray := prog_14_method_72_code
def yX15_realm : MethodName := ⟨RX15, "realm", "(I)I"⟩
abbrev cX15_text : ByteArray := prog_14_method_73_code
def yX15_text : MethodName := ⟨RX15, "text", "(I)Ljava/lang/String;"⟩
abbrev cX15_wouldVote : ByteArray := prog_14_method_74_code
def yX15_wouldVote : MethodName := ⟨RX15, "wouldVote", "(IIZ)I"⟩
abbrev cX15_wouldJudge : ByteArray := prog_14_method_75_code
def yX15_wouldJudge : MethodName := ⟨RX15, "wouldJudge", "(II)I"⟩
abbrev cX15_without : ByteArray := prog_14_method_76_code
def yX15_without : MethodName := ⟨RX15, "without", "(II)I"⟩
abbrev cX15_isSoundNow : ByteArray := prog_14_method_77_code
def yX15_isSoundNow : MethodName := ⟨RX15, "isSoundNow", "()Z"⟩
abbrev cX15_isSound : ByteArray := prog_14_method_78_code
def yX15_isSound : MethodName := ⟨RX15, "isSound", "()Z"⟩
abbrev cX15_digest : ByteArray := prog_14_method_79_code
def yX15_digest : MethodName := ⟨RX15, "digest", "()J"⟩
def RJx145de : String := "java/io/Serializable"
def TJx145de : u_T := fun k => match k with
  | _ => ("", "", "", false)
def tyJx145de : Nat → FieldType := fun k => match k with
  | _ => .int
theorem nmJx145de : ∀ a, a < 0 → ∀ b, b < 0 → a ≠ b → (TJx145de a).2.1 ≠ (TJx145de b).2.1 := by decide +kernel
theorem tyJx145de_ok : ∀ k, k < 0 → parseFieldDescriptor (TJx145de k).2.2.1 = some (tyJx145de k) := by decide +kernel
def RJ5 : String := "java/lang/AbstractStringBuilder"
def TJ5 : u_T := fun k => match k with
  | _ => ("", "", "", false)
def tyJ5 : Nat → FieldType := fun k => match k with
  | _ => .int
theorem nmJ5 : ∀ a, a < 0 → ∀ b, b < 0 → a ≠ b → (TJ5 a).2.1 ≠ (TJ5 b).2.1 := by decide +kernel
theorem tyJ5_ok : ∀ k, k < 0 → parseFieldDescriptor (TJ5 k).2.2.1 = some (tyJ5 k) := by decide +kernel
abbrev cJ5_init_d00df : ByteArray := prog_19_method_2_code
def yJ5_init_d00df : MethodName := ⟨RJ5, "<init>", "(I)V"⟩
abbrev cJ5_length_8abf5 : ByteArray := prog_19_method_6_code
def yJ5_length_8abf5 : MethodName := ⟨RJ5, "length", "()I"⟩
abbrev cJ5_ensureCapacityInternal_d00df : ByteArray := prog_19_method_9_code
def yJ5_ensureCapacityInternal_d00df : MethodName := ⟨RJ5, "ensureCapacityInternal", "(I)V"⟩
abbrev cJ5_newCapacity_0f7a4 : ByteArray := prog_19_method_10_code
def yJ5_newCapacity_0f7a4 : MethodName := ⟨RJ5, "newCapacity", "(I)I"⟩
abbrev cJ5_inflate_da8c8 : ByteArray := prog_19_method_11_code
def yJ5_inflate_da8c8 : MethodName := ⟨RJ5, "inflate", "()V"⟩
abbrev cJ5_append_cf1ce : ByteArray := prog_19_method_22_code
def yJ5_append_cf1ce : MethodName := ⟨RJ5, "append", "(Ljava/lang/String;)Ljava/lang/AbstractStringBuilder;"⟩
abbrev cJ5_appendNull_278bc : ByteArray := prog_19_method_26_code
def yJ5_appendNull_278bc : MethodName := ⟨RJ5, "appendNull", "()Ljava/lang/AbstractStringBuilder;"⟩
abbrev cJ5_append_3fe6f : ByteArray := prog_19_method_31_code
def yJ5_append_3fe6f : MethodName := ⟨RJ5, "append", "(C)Ljava/lang/AbstractStringBuilder;"⟩
abbrev cJ5_append_c97b9 : ByteArray := prog_19_method_32_code
def yJ5_append_c97b9 : MethodName := ⟨RJ5, "append", "(I)Ljava/lang/AbstractStringBuilder;"⟩
abbrev cJ5_getValue_6d5f1 : ByteArray := prog_19_method_64_code
def yJ5_getValue_6d5f1 : MethodName := ⟨RJ5, "getValue", "()[B"⟩
abbrev cJ5_isLatin1_aae02 : ByteArray := prog_19_method_68_code
def yJ5_isLatin1_aae02 : MethodName := ⟨RJ5, "isLatin1", "()Z"⟩
abbrev cJ5_inflateIfNeededFor_a7421 : ByteArray := prog_19_method_71_code
def yJ5_inflateIfNeededFor_a7421 : MethodName := ⟨RJ5, "inflateIfNeededFor", "(Ljava/lang/String;)V"⟩
abbrev cJ5_putStringAt_47b60 : ByteArray := prog_19_method_73_code
def yJ5_putStringAt_47b60 : MethodName := ⟨RJ5, "putStringAt", "(ILjava/lang/String;)V"⟩
def RJx2cfe8 : String := "java/lang/Appendable"
def TJx2cfe8 : u_T := fun k => match k with
  | _ => ("", "", "", false)
def tyJx2cfe8 : Nat → FieldType := fun k => match k with
  | _ => .int
theorem nmJx2cfe8 : ∀ a, a < 0 → ∀ b, b < 0 → a ≠ b → (TJx2cfe8 a).2.1 ≠ (TJx2cfe8 b).2.1 := by decide +kernel
theorem tyJx2cfe8_ok : ∀ k, k < 0 → parseFieldDescriptor (TJx2cfe8 k).2.2.1 = some (tyJx2cfe8 k) := by decide +kernel
def RJx9f9b0 : String := "java/lang/CharSequence"
def TJx9f9b0 : u_T := fun k => match k with
  | _ => ("", "", "", false)
def tyJx9f9b0 : Nat → FieldType := fun k => match k with
  | _ => .int
theorem nmJx9f9b0 : ∀ a, a < 0 → ∀ b, b < 0 → a ≠ b → (TJx9f9b0 a).2.1 ≠ (TJx9f9b0 b).2.1 := by decide +kernel
theorem tyJx9f9b0_ok : ∀ k, k < 0 → parseFieldDescriptor (TJx9f9b0 k).2.2.1 = some (tyJx9f9b0 k) := by decide +kernel
def RJx8e188 : String := "java/lang/Cloneable"
def TJx8e188 : u_T := fun k => match k with
  | _ => ("", "", "", false)
def tyJx8e188 : Nat → FieldType := fun k => match k with
  | _ => .int
theorem nmJx8e188 : ∀ a, a < 0 → ∀ b, b < 0 → a ≠ b → (TJx8e188 a).2.1 ≠ (TJx8e188 b).2.1 := by decide +kernel
theorem tyJx8e188_ok : ∀ k, k < 0 → parseFieldDescriptor (TJx8e188 k).2.2.1 = some (tyJx8e188 k) := by decide +kernel
def RJxb160c : String := "java/lang/Comparable"
def TJxb160c : u_T := fun k => match k with
  | _ => ("", "", "", false)
def tyJxb160c : Nat → FieldType := fun k => match k with
  | _ => .int
theorem nmJxb160c : ∀ a, a < 0 → ∀ b, b < 0 → a ≠ b → (TJxb160c a).2.1 ≠ (TJxb160c b).2.1 := by decide +kernel
theorem tyJxb160c_ok : ∀ k, k < 0 → parseFieldDescriptor (TJxb160c k).2.2.1 = some (tyJxb160c k) := by decide +kernel
def RJ6 : String := "java/lang/Integer"
def TJ6 : u_T := fun k => match k with
  | _ => ("", "", "", false)
def tyJ6 : Nat → FieldType := fun k => match k with
  | _ => .int
theorem nmJ6 : ∀ a, a < 0 → ∀ b, b < 0 → a ≠ b → (TJ6 a).2.1 ≠ (TJ6 b).2.1 := by decide +kernel
theorem tyJ6_ok : ∀ k, k < 0 → parseFieldDescriptor (TJ6 k).2.2.1 = some (tyJ6 k) := by decide +kernel
abbrev cJ6_getChars_ba4f3 : ByteArray := prog_28_method_12_code
def yJ6_getChars_ba4f3 : MethodName := ⟨RJ6, "getChars", "(II[B)I"⟩
abbrev cJ6_stringSize_0f7a4 : ByteArray := prog_28_method_13_code
def yJ6_stringSize_0f7a4 : MethodName := ⟨RJ6, "stringSize", "(I)I"⟩
abbrev cJ6_compare_7cf53 : ByteArray := prog_28_method_40_code
def yJ6_compare_7cf53 : MethodName := ⟨RJ6, "compare", "(II)I"⟩
abbrev cJ6_bitCount_0f7a4 : ByteArray := prog_28_method_49_code
def yJ6_bitCount_0f7a4 : MethodName := ⟨RJ6, "bitCount", "(I)I"⟩
def RJxab1ab : String := "java/lang/Iterable"
def TJxab1ab : u_T := fun k => match k with
  | _ => ("", "", "", false)
def tyJxab1ab : Nat → FieldType := fun k => match k with
  | _ => .int
theorem nmJxab1ab : ∀ a, a < 0 → ∀ b, b < 0 → a ≠ b → (TJxab1ab a).2.1 ≠ (TJxab1ab b).2.1 := by decide +kernel
theorem tyJxab1ab_ok : ∀ k, k < 0 → parseFieldDescriptor (TJxab1ab k).2.2.1 = some (tyJxab1ab k) := by decide +kernel
def RJ9 : String := "java/lang/Math"
def TJ9 : u_T := fun k => match k with
  | _ => ("", "", "", false)
def tyJ9 : Nat → FieldType := fun k => match k with
  | _ => .int
theorem nmJ9 : ∀ a, a < 0 → ∀ b, b < 0 → a ≠ b → (TJ9 a).2.1 ≠ (TJ9 b).2.1 := by decide +kernel
theorem tyJ9_ok : ∀ k, k < 0 → parseFieldDescriptor (TJ9 k).2.2.1 = some (tyJ9 k) := by decide +kernel
abbrev cJ9_max_7cf53 : ByteArray := prog_30_method_65_code
def yJ9_max_7cf53 : MethodName := ⟨RJ9, "max", "(II)I"⟩
abbrev cJ9_min_7cf53 : ByteArray := prog_30_method_69_code
def yJ9_min_7cf53 : MethodName := ⟨RJ9, "min", "(II)I"⟩
def RJxd2413 : String := "java/lang/Number"
def TJxd2413 : u_T := fun k => match k with
  | _ => ("", "", "", false)
def tyJxd2413 : Nat → FieldType := fun k => match k with
  | _ => .int
theorem nmJxd2413 : ∀ a, a < 0 → ∀ b, b < 0 → a ≠ b → (TJxd2413 a).2.1 ≠ (TJxd2413 b).2.1 := by decide +kernel
theorem tyJxd2413_ok : ∀ k, k < 0 → parseFieldDescriptor (TJxd2413 k).2.2.1 = some (tyJxd2413 k) := by decide +kernel
def RJ0 : String := "java/lang/String"
def TJ0 : u_T := fun k => match k with
  | 0 => ("java/lang/String", "value", "[B", true)
  | 1 => ("java/lang/String", "coder", "B", true)
  | 2 => ("java/lang/String", "hash", "I", false)
  | _ => ("java/lang/String", "hashIsZero", "Z", false)
def tyJ0 : Nat → FieldType := fun k => match k with
  | 0 => .array .byte
  | 1 => .byte
  | 2 => .int
  | _ => .boolean
theorem nmJ0 : ∀ a, a < 4 → ∀ b, b < 4 → a ≠ b → (TJ0 a).2.1 ≠ (TJ0 b).2.1 := by decide +kernel
theorem tyJ0_ok : ∀ k, k < 4 → parseFieldDescriptor (TJ0 k).2.2.1 = some (tyJ0 k) := by decide +kernel
abbrev cJ0_init_81219 : ByteArray := prog_33_method_53_code
def yJ0_init_81219 : MethodName := ⟨RJ0, "<init>", "(Ljava/lang/StringBuilder;)V"⟩
abbrev cJ0_length_8abf5 : ByteArray := prog_33_method_54_code
def yJ0_length_8abf5 : MethodName := ⟨RJ0, "length", "()I"⟩
abbrev cJ0_charAt_5068e : ByteArray := prog_33_method_56_code
def yJ0_charAt_5068e : MethodName := ⟨RJ0, "charAt", "(I)C"⟩
abbrev cJ0_getBytes_840e7 : ByteArray := prog_33_method_147_code
def yJ0_getBytes_840e7 : MethodName := ⟨RJ0, "getBytes", "([BIB)V"⟩
abbrev cJ0_init_db425 : ByteArray := prog_33_method_150_code
def yJ0_init_db425 : MethodName := ⟨RJ0, "<init>", "(Ljava/lang/AbstractStringBuilder;Ljava/lang/Void;)V"⟩
abbrev cJ0_coder_7d493 : ByteArray := prog_33_method_152_code
def yJ0_coder_7d493 : MethodName := ⟨RJ0, "coder", "()B"⟩
abbrev cJ0_isLatin1_aae02 : ByteArray := prog_33_method_154_code
def yJ0_isLatin1_aae02 : MethodName := ⟨RJ0, "isLatin1", "()Z"⟩
abbrev cJ0_checkIndex_df160 : ByteArray := prog_33_method_155_code
def yJ0_checkIndex_df160 : MethodName := ⟨RJ0, "checkIndex", "(II)V"⟩
abbrev cJ0_checkBoundsOffCount_cabcc : ByteArray := prog_33_method_157_code
def yJ0_checkBoundsOffCount_cabcc : MethodName := ⟨RJ0, "checkBoundsOffCount", "(III)I"⟩
abbrev cJ0_checkBoundsBeginEnd_23922 : ByteArray := prog_33_method_158_code
def yJ0_checkBoundsBeginEnd_23922 : MethodName := ⟨RJ0, "checkBoundsBeginEnd", "(III)V"⟩
def RJ4 : String := "java/lang/StringBuilder"
def TJ4 : u_T := fun k => match k with
  | 0 => ("java/lang/AbstractStringBuilder", "value", "[B", false)
  | 1 => ("java/lang/AbstractStringBuilder", "coder", "B", false)
  | 2 => ("java/lang/AbstractStringBuilder", "maybeLatin1", "Z", false)
  | _ => ("java/lang/AbstractStringBuilder", "count", "I", false)
def tyJ4 : Nat → FieldType := fun k => match k with
  | 0 => .array .byte
  | 1 => .byte
  | 2 => .boolean
  | _ => .int
theorem nmJ4 : ∀ a, a < 4 → ∀ b, b < 4 → a ≠ b → (TJ4 a).2.1 ≠ (TJ4 b).2.1 := by decide +kernel
theorem tyJ4_ok : ∀ k, k < 4 → parseFieldDescriptor (TJ4 k).2.2.1 = some (tyJ4 k) := by decide +kernel
abbrev cJ4_init_da8c8 : ByteArray := prog_34_method_1_code
def yJ4_init_da8c8 : MethodName := ⟨RJ4, "<init>", "()V"⟩
abbrev cJ4_append_15ec4 : ByteArray := prog_34_method_7_code
def yJ4_append_15ec4 : MethodName := ⟨RJ4, "append", "(Ljava/lang/String;)Ljava/lang/StringBuilder;"⟩
abbrev cJ4_append_cf468 : ByteArray := prog_34_method_14_code
def yJ4_append_cf468 : MethodName := ⟨RJ4, "append", "(C)Ljava/lang/StringBuilder;"⟩
abbrev cJ4_append_bf812 : ByteArray := prog_34_method_15_code
def yJ4_append_bf812 : MethodName := ⟨RJ4, "append", "(I)Ljava/lang/StringBuilder;"⟩
abbrev cJ4_toString_0e30d : ByteArray := prog_34_method_42_code
def yJ4_toString_0e30d : MethodName := ⟨RJ4, "toString", "()Ljava/lang/String;"⟩
abbrev cJ4_length_8abf5 : ByteArray := prog_34_method_93_code
def yJ4_length_8abf5 : MethodName := ⟨RJ4, "length", "()I"⟩
def RJ1 : String := "java/lang/StringLatin1"
def TJ1 : u_T := fun k => match k with
  | _ => ("", "", "", false)
def tyJ1 : Nat → FieldType := fun k => match k with
  | _ => .int
theorem nmJ1 : ∀ a, a < 0 → ∀ b, b < 0 → a ≠ b → (TJ1 a).2.1 ≠ (TJ1 b).2.1 := by decide +kernel
theorem tyJ1_ok : ∀ k, k < 0 → parseFieldDescriptor (TJ1 k).2.2.1 = some (tyJ1 k) := by decide +kernel
abbrev cJ1_charAt_3b067 : ByteArray := prog_35_method_2_code
def yJ1_charAt_3b067 : MethodName := ⟨RJ1, "charAt", "([BI)C"⟩
abbrev cJ1_canEncode_fc78d : ByteArray := prog_35_method_3_code
def yJ1_canEncode_fc78d : MethodName := ⟨RJ1, "canEncode", "(C)Z"⟩
abbrev cJ1_inflate_0e8fd : ByteArray := prog_35_method_50_code
def yJ1_inflate_0e8fd : MethodName := ⟨RJ1, "inflate", "([BI[BII)V"⟩
def RJ2 : String := "java/lang/StringUTF16"
def TJ2 : u_T := fun k => match k with
  | _ => ("", "", "", false)
def tyJ2 : Nat → FieldType := fun k => match k with
  | _ => .int
theorem nmJ2 : ∀ a, a < 0 → ∀ b, b < 0 → a ≠ b → (TJ2 a).2.1 ≠ (TJ2 b).2.1 := by decide +kernel
theorem tyJ2_ok : ∀ k, k < 0 → parseFieldDescriptor (TJ2 k).2.2.1 = some (tyJ2 k) := by decide +kernel
abbrev cJ2_newBytesFor_77867 : ByteArray := prog_36_method_2_code
def yJ2_newBytesFor_77867 : MethodName := ⟨RJ2, "newBytesFor", "(I)[B"⟩
abbrev cJ2_newBytesLength_0f7a4 : ByteArray := prog_36_method_3_code
def yJ2_newBytesLength_0f7a4 : MethodName := ⟨RJ2, "newBytesLength", "(I)I"⟩
abbrev cJ2_putChar_b72d1 : ByteArray := prog_36_method_4_code
def yJ2_putChar_b72d1 : MethodName := ⟨RJ2, "putChar", "([BII)V"⟩
abbrev cJ2_getChar_3b067 : ByteArray := prog_36_method_5_code
def yJ2_getChar_3b067 : MethodName := ⟨RJ2, "getChar", "([BI)C"⟩
abbrev cJ2_length_9d52b : ByteArray := prog_36_method_6_code
def yJ2_length_9d52b : MethodName := ⟨RJ2, "length", "([B)I"⟩
abbrev cJ2_coderFromArrayLen_85cad : ByteArray := prog_36_method_15_code
def yJ2_coderFromArrayLen_85cad : MethodName := ⟨RJ2, "coderFromArrayLen", "([BI)B"⟩
abbrev cJ2_compress_39247 : ByteArray := prog_36_method_17_code
def yJ2_compress_39247 : MethodName := ⟨RJ2, "compress", "([BII)[B"⟩
abbrev cJ2_compress_5af95 : ByteArray := prog_36_method_22_code
def yJ2_compress_5af95 : MethodName := ⟨RJ2, "compress", "([BI[BII)I"⟩
abbrev cJ2_putCharSB_b72d1 : ByteArray := prog_36_method_71_code
def yJ2_putCharSB_b72d1 : MethodName := ⟨RJ2, "putCharSB", "([BII)V"⟩
abbrev cJ2_getChars_46870 : ByteArray := prog_36_method_77_code
def yJ2_getChars_46870 : MethodName := ⟨RJ2, "getChars", "(III[B)I"⟩
abbrev cJ2_putCharsAt_cd4e5 : ByteArray := prog_36_method_81_code
def yJ2_putCharsAt_cd4e5 : MethodName := ⟨RJ2, "putCharsAt", "([BICCCC)I"⟩
abbrev cJ2_charAt_3b067 : ByteArray := prog_36_method_83_code
def yJ2_charAt_3b067 : MethodName := ⟨RJ2, "charAt", "([BI)C"⟩
abbrev cJ2_inflate_0e8fd : ByteArray := prog_36_method_86_code
def yJ2_inflate_0e8fd : MethodName := ⟨RJ2, "inflate", "([BI[BII)V"⟩
abbrev cJ2_getChars_ba4f3 : ByteArray := prog_36_method_89_code
def yJ2_getChars_ba4f3 : MethodName := ⟨RJ2, "getChars", "(II[B)I"⟩
abbrev cJ2_checkIndex_2214a : ByteArray := prog_36_method_91_code
def yJ2_checkIndex_2214a : MethodName := ⟨RJ2, "checkIndex", "(I[B)V"⟩
abbrev cJ2_checkBoundsBeginEnd_d044e : ByteArray := prog_36_method_93_code
def yJ2_checkBoundsBeginEnd_d044e : MethodName := ⟨RJ2, "checkBoundsBeginEnd", "(II[B)V"⟩
abbrev cJ2_checkBoundsOffCount_d044e : ByteArray := prog_36_method_94_code
def yJ2_checkBoundsOffCount_d044e : MethodName := ⟨RJ2, "checkBoundsOffCount", "(II[B)V"⟩
def RJ10 : String := "java/lang/System"
def TJ10 : u_T := fun k => match k with
  | _ => ("", "", "", false)
def tyJ10 : Nat → FieldType := fun k => match k with
  | _ => .int
theorem nmJ10 : ∀ a, a < 0 → ∀ b, b < 0 → a ≠ b → (TJ10 a).2.1 ≠ (TJ10 b).2.1 := by decide +kernel
theorem tyJ10_ok : ∀ k, k < 0 → parseFieldDescriptor (TJ10 k).2.2.1 = some (tyJ10 k) := by decide +kernel
def RJxfd54e : String := "java/lang/constant/Constable"
def TJxfd54e : u_T := fun k => match k with
  | _ => ("", "", "", false)
def tyJxfd54e : Nat → FieldType := fun k => match k with
  | _ => .int
theorem nmJxfd54e : ∀ a, a < 0 → ∀ b, b < 0 → a ≠ b → (TJxfd54e a).2.1 ≠ (TJxfd54e b).2.1 := by decide +kernel
theorem tyJxfd54e_ok : ∀ k, k < 0 → parseFieldDescriptor (TJxfd54e k).2.2.1 = some (tyJxfd54e k) := by decide +kernel
def RJx3cf43 : String := "java/lang/constant/ConstantDesc"
def TJx3cf43 : u_T := fun k => match k with
  | _ => ("", "", "", false)
def tyJx3cf43 : Nat → FieldType := fun k => match k with
  | _ => .int
theorem nmJx3cf43 : ∀ a, a < 0 → ∀ b, b < 0 → a ≠ b → (TJx3cf43 a).2.1 ≠ (TJx3cf43 b).2.1 := by decide +kernel
theorem tyJx3cf43_ok : ∀ k, k < 0 → parseFieldDescriptor (TJx3cf43 k).2.2.1 = some (tyJx3cf43 k) := by decide +kernel
def RJxa1e45 : String := "java/util/AbstractCollection"
def TJxa1e45 : u_T := fun k => match k with
  | _ => ("", "", "", false)
def tyJxa1e45 : Nat → FieldType := fun k => match k with
  | _ => .int
theorem nmJxa1e45 : ∀ a, a < 0 → ∀ b, b < 0 → a ≠ b → (TJxa1e45 a).2.1 ≠ (TJxa1e45 b).2.1 := by decide +kernel
theorem tyJxa1e45_ok : ∀ k, k < 0 → parseFieldDescriptor (TJxa1e45 k).2.2.1 = some (tyJxa1e45 k) := by decide +kernel
abbrev cJxa1e45_init_da8c8 : ByteArray := prog_41_method_1_code
def yJxa1e45_init_da8c8 : MethodName := ⟨RJxa1e45, "<init>", "()V"⟩
def RJxc12de : String := "java/util/AbstractList"
def TJxc12de : u_T := fun k => match k with
  | _ => ("", "", "", false)
def tyJxc12de : Nat → FieldType := fun k => match k with
  | _ => .int
theorem nmJxc12de : ∀ a, a < 0 → ∀ b, b < 0 → a ≠ b → (TJxc12de a).2.1 ≠ (TJxc12de b).2.1 := by decide +kernel
theorem tyJxc12de_ok : ∀ k, k < 0 → parseFieldDescriptor (TJxc12de k).2.2.1 = some (tyJxc12de k) := by decide +kernel
abbrev cJxc12de_init_da8c8 : ByteArray := prog_42_method_1_code
def yJxc12de_init_da8c8 : MethodName := ⟨RJxc12de, "<init>", "()V"⟩
def RJx4a65c : String := "java/util/ArrayList"
def TJx4a65c : u_T := fun k => match k with
  | 0 => ("java/util/AbstractList", "modCount", "I", false)
  | 1 => ("java/util/ArrayList", "elementData", "[Ljava/lang/Object;", false)
  | _ => ("java/util/ArrayList", "size", "I", false)
def tyJx4a65c : Nat → FieldType := fun k => match k with
  | 0 => .int
  | 1 => .array (.object "java/lang/Object")
  | _ => .int
theorem nmJx4a65c : ∀ a, a < 3 → ∀ b, b < 3 → a ≠ b → (TJx4a65c a).2.1 ≠ (TJx4a65c b).2.1 := by decide +kernel
theorem tyJx4a65c_ok : ∀ k, k < 3 → parseFieldDescriptor (TJx4a65c k).2.2.1 = some (tyJx4a65c k) := by decide +kernel
abbrev cJx4a65c_init_da8c8 : ByteArray := prog_43_method_2_code
def yJx4a65c_init_da8c8 : MethodName := ⟨RJx4a65c, "<init>", "()V"⟩
abbrev cJx4a65c_grow_92f84 : ByteArray := prog_43_method_6_code
def yJx4a65c_grow_92f84 : MethodName := ⟨RJx4a65c, "grow", "(I)[Ljava/lang/Object;"⟩
abbrev cJx4a65c_grow_d5877 : ByteArray := prog_43_method_7_code
def yJx4a65c_grow_d5877 : MethodName := ⟨RJx4a65c, "grow", "()[Ljava/lang/Object;"⟩
abbrev cJx4a65c_size_8abf5 : ByteArray := prog_43_method_8_code
def yJx4a65c_size_8abf5 : MethodName := ⟨RJx4a65c, "size", "()I"⟩
abbrev cJx4a65c_elementData_915e3 : ByteArray := prog_43_method_18_code
def yJx4a65c_elementData_915e3 : MethodName := ⟨RJx4a65c, "elementData", "(I)Ljava/lang/Object;"⟩
abbrev cJx4a65c_get_915e3 : ByteArray := prog_43_method_20_code
def yJx4a65c_get_915e3 : MethodName := ⟨RJx4a65c, "get", "(I)Ljava/lang/Object;"⟩
abbrev cJx4a65c_set_bcc79 : ByteArray := prog_43_method_23_code
def yJx4a65c_set_bcc79 : MethodName := ⟨RJx4a65c, "set", "(ILjava/lang/Object;)Ljava/lang/Object;"⟩
abbrev cJx4a65c_add_72be8 : ByteArray := prog_43_method_24_code
def yJx4a65c_add_72be8 : MethodName := ⟨RJx4a65c, "add", "(Ljava/lang/Object;[Ljava/lang/Object;I)V"⟩
abbrev cJx4a65c_add_9ea2d : ByteArray := prog_43_method_25_code
def yJx4a65c_add_9ea2d : MethodName := ⟨RJx4a65c, "add", "(Ljava/lang/Object;)Z"⟩
def RJ7 : String := "java/util/Arrays"
def TJ7 : u_T := fun k => match k with
  | _ => ("", "", "", false)
def tyJ7 : Nat → FieldType := fun k => match k with
  | _ => .int
theorem nmJ7 : ∀ a, a < 0 → ∀ b, b < 0 → a ≠ b → (TJ7 a).2.1 ≠ (TJ7 b).2.1 := by decide +kernel
theorem tyJ7_ok : ∀ k, k < 0 → parseFieldDescriptor (TJ7 k).2.2.1 = some (tyJ7 k) := by decide +kernel
abbrev cJ7_copyOf_1904c : ByteArray := prog_44_method_119_code
def yJ7_copyOf_1904c : MethodName := ⟨RJ7, "copyOf", "([Ljava/lang/Object;I)[Ljava/lang/Object;"⟩
abbrev cJ7_copyOf_6403c : ByteArray := prog_44_method_120_code
def yJ7_copyOf_6403c : MethodName := ⟨RJ7, "copyOf", "([Ljava/lang/Object;ILjava/lang/Class;)[Ljava/lang/Object;"⟩
abbrev cJ7_copyOf_9075b : ByteArray := prog_44_method_121_code
def yJ7_copyOf_9075b : MethodName := ⟨RJ7, "copyOf", "([BI)[B"⟩
abbrev cJ7_checkLength_df160 : ByteArray := prog_44_method_131_code
def yJ7_checkLength_df160 : MethodName := ⟨RJ7, "checkLength", "(II)V"⟩
abbrev cJ7_copyOfRange_39247 : ByteArray := prog_44_method_132_code
def yJ7_copyOfRange_39247 : MethodName := ⟨RJ7, "copyOfRange", "([BII)[B"⟩
abbrev cJ7_copyOfRangeByte_39247 : ByteArray := prog_44_method_133_code
def yJ7_copyOfRangeByte_39247 : MethodName := ⟨RJ7, "copyOfRangeByte", "([BII)[B"⟩
def RJx5ef63 : String := "java/util/Collection"
def TJx5ef63 : u_T := fun k => match k with
  | _ => ("", "", "", false)
def tyJx5ef63 : Nat → FieldType := fun k => match k with
  | _ => .int
theorem nmJx5ef63 : ∀ a, a < 0 → ∀ b, b < 0 → a ≠ b → (TJx5ef63 a).2.1 ≠ (TJx5ef63 b).2.1 := by decide +kernel
theorem tyJx5ef63_ok : ∀ k, k < 0 → parseFieldDescriptor (TJx5ef63 k).2.2.1 = some (tyJx5ef63 k) := by decide +kernel
def RJxbd725 : String := "java/util/List"
def TJxbd725 : u_T := fun k => match k with
  | _ => ("", "", "", false)
def tyJxbd725 : Nat → FieldType := fun k => match k with
  | _ => .int
theorem nmJxbd725 : ∀ a, a < 0 → ∀ b, b < 0 → a ≠ b → (TJxbd725 a).2.1 ≠ (TJxbd725 b).2.1 := by decide +kernel
theorem tyJxbd725_ok : ∀ k, k < 0 → parseFieldDescriptor (TJxbd725 k).2.2.1 = some (tyJxbd725 k) := by decide +kernel
def RJ15 : String := "java/util/Objects"
def TJ15 : u_T := fun k => match k with
  | _ => ("", "", "", false)
def tyJ15 : Nat → FieldType := fun k => match k with
  | _ => .int
theorem nmJ15 : ∀ a, a < 0 → ∀ b, b < 0 → a ≠ b → (TJ15 a).2.1 ≠ (TJ15 b).2.1 := by decide +kernel
theorem tyJ15_ok : ∀ k, k < 0 → parseFieldDescriptor (TJ15 k).2.2.1 = some (tyJ15 k) := by decide +kernel
abbrev cJ15_checkIndex_7cf53 : ByteArray := prog_47_method_17_code
def yJ15_checkIndex_7cf53 : MethodName := ⟨RJ15, "checkIndex", "(II)I"⟩
def RJxf0a74 : String := "java/util/RandomAccess"
def TJxf0a74 : u_T := fun k => match k with
  | _ => ("", "", "", false)
def tyJxf0a74 : Nat → FieldType := fun k => match k with
  | _ => .int
theorem nmJxf0a74 : ∀ a, a < 0 → ∀ b, b < 0 → a ≠ b → (TJxf0a74 a).2.1 ≠ (TJxf0a74 b).2.1 := by decide +kernel
theorem tyJxf0a74_ok : ∀ k, k < 0 → parseFieldDescriptor (TJxf0a74 k).2.2.1 = some (tyJxf0a74 k) := by decide +kernel
def RJxa66e6 : String := "java/util/SequencedCollection"
def TJxa66e6 : u_T := fun k => match k with
  | _ => ("", "", "", false)
def tyJxa66e6 : Nat → FieldType := fun k => match k with
  | _ => .int
theorem nmJxa66e6 : ∀ a, a < 0 → ∀ b, b < 0 → a ≠ b → (TJxa66e6 a).2.1 ≠ (TJxa66e6 b).2.1 := by decide +kernel
theorem tyJxa66e6_ok : ∀ k, k < 0 → parseFieldDescriptor (TJxa66e6 k).2.2.1 = some (tyJxa66e6 k) := by decide +kernel
def RJ8 : String := "jdk/internal/util/ArraysSupport"
def TJ8 : u_T := fun k => match k with
  | _ => ("", "", "", false)
def tyJ8 : Nat → FieldType := fun k => match k with
  | _ => .int
theorem nmJ8 : ∀ a, a < 0 → ∀ b, b < 0 → a ≠ b → (TJ8 a).2.1 ≠ (TJ8 b).2.1 := by decide +kernel
theorem tyJ8_ok : ∀ k, k < 0 → parseFieldDescriptor (TJ8 k).2.2.1 = some (tyJ8 k) := by decide +kernel
abbrev cJ8_newLength_cabcc : ByteArray := prog_50_method_27_code
def yJ8_newLength_cabcc : MethodName := ⟨RJ8, "newLength", "(III)I"⟩
abbrev cJ8_hugeLength_7cf53 : ByteArray := prog_50_method_28_code
def yJ8_hugeLength_7cf53 : MethodName := ⟨RJ8, "hugeLength", "(II)I"⟩
def RJ3 : String := "jdk/internal/util/Preconditions"
def TJ3 : u_T := fun k => match k with
  | _ => ("", "", "", false)
def tyJ3 : Nat → FieldType := fun k => match k with
  | _ => .int
theorem nmJ3 : ∀ a, a < 0 → ∀ b, b < 0 → a ≠ b → (TJ3 a).2.1 ≠ (TJ3 b).2.1 := by decide +kernel
theorem tyJ3_ok : ∀ k, k < 0 → parseFieldDescriptor (TJ3 k).2.2.1 = some (tyJ3 k) := by decide +kernel
abbrev cJ3_checkIndex_8e157 : ByteArray := prog_51_method_11_code
def yJ3_checkIndex_8e157 : MethodName := ⟨RJ3, "checkIndex", "(IILjava/util/function/BiFunction;)I"⟩
abbrev cJ3_checkFromToIndex_8c36e : ByteArray := prog_51_method_12_code
def yJ3_checkFromToIndex_8c36e : MethodName := ⟨RJ3, "checkFromToIndex", "(IIILjava/util/function/BiFunction;)I"⟩
abbrev cJ3_checkFromIndexSize_8c36e : ByteArray := prog_51_method_13_code
def yJ3_checkFromIndexSize_8c36e : MethodName := ⟨RJ3, "checkFromIndexSize", "(IIILjava/util/function/BiFunction;)I"⟩
def RL : String := "OnecodeChanceryLaw"
abbrev cL_people : ByteArray := method_2_code
def yL_people : MethodName := ⟨RL, "people", "(LOnecodeChancery;IILOnecodeChanceryLaw$Out;)I"⟩
abbrev cL_swap : ByteArray := method_3_code
def yL_swap : MethodName := ⟨RL, "swap", "(LOnecodeChancery;IIILOnecodeChanceryLaw$Out;)I"⟩
abbrev cL_tie : ByteArray := method_4_code
def yL_tie : MethodName := ⟨RL, "tie", "(LOnecodeChancery;IILOnecodeChanceryLaw$Out;)I"⟩
abbrev cL_rule : ByteArray := method_5_code
def yL_rule : MethodName := ⟨RL, "rule", "(LOnecodeChancery;IIIIIIILOnecodeChanceryLaw$Out;)I"⟩
abbrev cL_limit : ByteArray := method_6_code
def yL_limit : MethodName := ⟨RL, "limit", "(LOnecodeChancery;IIILOnecodeChanceryLaw$Out;)I"⟩
abbrev cL_dispute : ByteArray := method_7_code
def yL_dispute : MethodName := ⟨RL, "dispute", "(LOnecodeChancery;IIIIIIILOnecodeChanceryLaw$Out;)I"⟩
abbrev cL_feed : ByteArray := method_8_code
def yL_feed : MethodName := ⟨RL, "feed", "(LOnecodeChancery;ILOnecodeChanceryLaw$Out;)I"⟩
abbrev cL_write : ByteArray := method_9_code
def yL_write : MethodName := ⟨RL, "write", "(LOnecodeChancery;LOnecodeChanceryLaw$Out;)I"⟩
abbrev cL_amend : ByteArray := method_10_code
def yL_amend : MethodName := ⟨RL, "amend", "(LOnecodeChancery;ILOnecodeChanceryLaw$Out;)I"⟩
abbrev cL_seats : ByteArray := method_11_code
def yL_seats : MethodName := ⟨RL, "seats", "(LOnecodeChancery;IIILOnecodeChanceryLaw$Out;)I"⟩
abbrev cL_mood : ByteArray := method_12_code
def yL_mood : MethodName := ⟨RL, "mood", "(LOnecodeChancery;IIILOnecodeChanceryLaw$Out;)I"⟩
abbrev cL_taste : ByteArray := method_13_code
def yL_taste : MethodName := ⟨RL, "taste", "(LOnecodeChancery;IILOnecodeChanceryLaw$Out;)I"⟩
abbrev cL_pledge : ByteArray := method_14_code
def yL_pledge : MethodName := ⟨RL, "pledge", "(LOnecodeChancery;IILOnecodeChanceryLaw$Out;)I"⟩
abbrev cL_vote : ByteArray := method_15_code
def yL_vote : MethodName := ⟨RL, "vote", "(LOnecodeChancery;ILOnecodeChanceryLaw$Out;)I"⟩
abbrev cL_repeal : ByteArray := method_16_code
def yL_repeal : MethodName := ⟨RL, "repeal", "(LOnecodeChancery;ILOnecodeChanceryLaw$Out;)I"⟩
abbrev cL_way : ByteArray := method_17_code
def yL_way : MethodName := ⟨RL, "way", "(LOnecodeChancery;IILOnecodeChanceryLaw$Out;)I"⟩
abbrev cL_judge : ByteArray := method_18_code
def yL_judge : MethodName := ⟨RL, "judge", "(LOnecodeChancery;IILOnecodeChanceryLaw$Out;)I"⟩
abbrev cL_appeal : ByteArray := method_19_code
def yL_appeal : MethodName := ⟨RL, "appeal", "(LOnecodeChancery;ILOnecodeChanceryLaw$Out;)I"⟩
abbrev cL_pass : ByteArray := method_20_code
def yL_pass : MethodName := ⟨RL, "pass", "(LOnecodeChancery;ILOnecodeChanceryLaw$Out;)I"⟩
abbrev cL_means : ByteArray := method_21_code
def yL_means : MethodName := ⟨RL, "means", "(LOnecodeChancery;IILOnecodeChanceryLaw$Out;)I"⟩
abbrev cL_ofRule : ByteArray := method_22_code
def yL_ofRule : MethodName := ⟨RL, "ofRule", "(LOnecodeChancery;IILOnecodeChanceryLaw$Out;)I"⟩
abbrev cL_ofCase : ByteArray := method_23_code
def yL_ofCase : MethodName := ⟨RL, "ofCase", "(LOnecodeChancery;IILOnecodeChanceryLaw$Out;)I"⟩
abbrev cL_tells : ByteArray := method_24_code
def yL_tells : MethodName := ⟨RL, "tells", "(LOnecodeChancery;IILOnecodeChanceryLaw$Out;)I"⟩
abbrev cL_ofArticle : ByteArray := method_25_code
def yL_ofArticle : MethodName := ⟨RL, "ofArticle", "(LOnecodeChancery;IILOnecodeChanceryLaw$Out;)I"⟩
abbrev cL_liking : ByteArray := method_26_code
def yL_liking : MethodName := ⟨RL, "liking", "(LOnecodeChancery;IILOnecodeChanceryLaw$Out;)I"⟩
abbrev cL_ofFaction : ByteArray := method_27_code
def yL_ofFaction : MethodName := ⟨RL, "ofFaction", "(LOnecodeChancery;IILOnecodeChanceryLaw$Out;)I"⟩
abbrev cL_grid : ByteArray := method_28_code
def yL_grid : MethodName := ⟨RL, "grid", "(LOnecodeChancery;IIILOnecodeChanceryLaw$Out;)I"⟩
abbrev cL_isDead : ByteArray := method_29_code
def yL_isDead : MethodName := ⟨RL, "isDead", "(LOnecodeChancery;IILOnecodeChanceryLaw$Out;)I"⟩
abbrev cL_gain : ByteArray := method_30_code
def yL_gain : MethodName := ⟨RL, "gain", "(LOnecodeChancery;ILOnecodeChanceryLaw$Out;)I"⟩
abbrev cL_held : ByteArray := method_31_code
def yL_held : MethodName := ⟨RL, "held", "(LOnecodeChancery;IIIIILOnecodeChanceryLaw$Out;)I"⟩
abbrev cL_realm : ByteArray := method_32_code
def yL_realm : MethodName := ⟨RL, "realm", "(LOnecodeChancery;ILOnecodeChanceryLaw$Out;)I"⟩
abbrev cL_text : ByteArray := method_33_code
def yL_text : MethodName := ⟨RL, "text", "(LOnecodeChancery;ILOnecodeChanceryLaw$Out;)I"⟩
abbrev cL_wouldVote : ByteArray := method_34_code
def yL_wouldVote : MethodName := ⟨RL, "wouldVote", "(LOnecodeChancery;IIZLOnecodeChanceryLaw$Out;)I"⟩
abbrev cL_wouldJudge : ByteArray := method_35_code
def yL_wouldJudge : MethodName := ⟨RL, "wouldJudge", "(LOnecodeChancery;IILOnecodeChanceryLaw$Out;)I"⟩
abbrev cL_without : ByteArray := method_36_code
def yL_without : MethodName := ⟨RL, "without", "(LOnecodeChancery;IILOnecodeChanceryLaw$Out;)I"⟩
abbrev cL_law : ByteArray := code
def yL_law : MethodName := ⟨RL, "law", "([I)Z"⟩
abbrev vwCl : List vw_C := [(RJ0, TJ0, 4), (RJ4, TJ4, 4), (RJx4a65c, TJx4a65c, 3), (RX0, TX0, 6), (RX1, TX1, 11), (RX2, TX2, 5), (RX3, TX3, 3), (RX4, TX4, 9), (RX5, TX5, 3), (RX6, TX6, 4), (RX7, TX7, 5), (RX8, TX8, 1), (RX9, TX9, 11), (RX10, TX10, 14), (RX11, TX11, 2), (RX12, TX12, 12), (RX13, TX13, 9), (RX14, TX14, 10), (RX15, TX15, 18)]
