def RX0 : String := "NeedNotJoin$Echelon"
def TX0 : u_T := fun k => match k with
  | 0 => ("NeedNotJoin$Echelon", "prime", "I", false)
  | 1 => ("NeedNotJoin$Echelon", "width", "I", false)
  | 2 => ("NeedNotJoin$Echelon", "rank", "I", false)
  | 3 => ("NeedNotJoin$Echelon", "rows", "[[I", true)
  | 4 => ("NeedNotJoin$Echelon", "isLed", "[Z", true)
  | _ => ("NeedNotJoin$Echelon", "next", "[I", true)
def tyX0 : Nat → FieldType := fun k => match k with
  | 0 => .int
  | 1 => .int
  | 2 => .int
  | 3 => .array (.array .int)
  | 4 => .array .boolean
  | _ => .array .int
abbrev wsX00 : List Cond := u_ws RX0 TX0 6
theorem nmX0 : ∀ a, a < 6 → ∀ b, b < 6 → a ≠ b → (TX0 a).2.1 ≠ (TX0 b).2.1 := by decide +kernel
theorem tyX0_ok : ∀ k, k < 6 → parseFieldDescriptor (TX0 k).2.2.1 = some (tyX0 k) := by decide +kernel
abbrev cX0_init : ByteArray := prog_2_method_1_code
def yX0_init : MethodName := ⟨RX0, "<init>", "()V"⟩
abbrev cX0_start : ByteArray := prog_2_method_2_code
def yX0_start : MethodName := ⟨RX0, "start", "(II)V"⟩
abbrev cX0_rank : ByteArray := prog_2_method_3_code
def yX0_rank : MethodName := ⟨RX0, "rank", "()I"⟩
abbrev cX0_add : ByteArray := prog_2_method_4_code
def yX0_add : MethodName := ⟨RX0, "add", "(II)V"⟩
abbrev cX0_settle : ByteArray := prog_2_method_6_code
def yX0_settle : MethodName := ⟨RX0, "settle", "()Z"⟩
abbrev cX0_reduce : ByteArray := prog_2_method_7_code
def yX0_reduce : MethodName := ⟨RX0, "reduce", "(I)V"⟩
abbrev cX0_lead : ByteArray := prog_2_method_8_code
def yX0_lead : MethodName := ⟨RX0, "lead", "(I)V"⟩
def RX1 : String := "NeedNotJoin$Forms"
def TX1 : u_T := fun k => match k with
  | 0 => ("NeedNotJoin$Forms", "echelon", "LNeedNotJoin$Echelon;", true)
  | 1 => ("NeedNotJoin$Forms", "digits", "[I", true)
  | 2 => ("NeedNotJoin$Forms", "firstRanks", "[I", true)
  | _ => ("NeedNotJoin$Forms", "secondRanks", "[I", true)
def tyX1 : Nat → FieldType := fun k => match k with
  | 0 => .object "NeedNotJoin$Echelon"
  | 1 => .array .int
  | 2 => .array .int
  | _ => .array .int
abbrev wsX10 : List Cond := u_ws RX1 TX1 4
theorem nmX1 : ∀ a, a < 4 → ∀ b, b < 4 → a ≠ b → (TX1 a).2.1 ≠ (TX1 b).2.1 := by decide +kernel
theorem tyX1_ok : ∀ k, k < 4 → parseFieldDescriptor (TX1 k).2.2.1 = some (tyX1 k) := by decide +kernel
abbrev cX1_init : ByteArray := prog_3_method_1_code
def yX1_init : MethodName := ⟨RX1, "<init>", "(LNeedNotJoin$Echelon;)V"⟩
abbrev cX1_rankOf : ByteArray := prog_3_method_2_code
def yX1_rankOf : MethodName := ⟨RX1, "rankOf", "(LNeedNotJoin$World;II)I"⟩
abbrev cX1_entry : ByteArray := prog_3_method_3_code
def yX1_entry : MethodName := ⟨RX1, "entry", "(LNeedNotJoin$World;III)I"⟩
abbrev cX1_leastSingular : ByteArray := prog_3_method_5_code
def yX1_leastSingular : MethodName := ⟨RX1, "leastSingular", "(LNeedNotJoin$World;I)I"⟩
abbrev cX1_planar : ByteArray := prog_3_method_7_code
def yX1_planar : MethodName := ⟨RX1, "planar", "(LNeedNotJoin$World;)I"⟩
abbrev cX1_derivations : ByteArray := prog_3_method_9_code
def yX1_derivations : MethodName := ⟨RX1, "derivations", "(LNeedNotJoin$World;)I"⟩
abbrev cX1_triples : ByteArray := prog_3_method_10_code
def yX1_triples : MethodName := ⟨RX1, "triples", "(LNeedNotJoin$World;)I"⟩
abbrev cX1_demandDerivative : ByteArray := prog_3_method_11_code
def yX1_demandDerivative : MethodName := ⟨RX1, "demandDerivative", "(LNeedNotJoin$World;II)V"⟩
def RX2 : String := "NeedNotJoin$Lists"
def TX2 : u_T := fun k => match k with
  | 0 => ("NeedNotJoin$Lists", "study", "LNeedNotJoin$Study;", true)
  | 1 => ("NeedNotJoin$Lists", "candidate", "LNeedNotJoin$World;", true)
  | 2 => ("NeedNotJoin$Lists", "isSearched", "[Z", true)
  | 3 => ("NeedNotJoin$Lists", "found", "[[I", true)
  | _ => ("NeedNotJoin$Lists", "counts", "[[I", true)
def tyX2 : Nat → FieldType := fun k => match k with
  | 0 => .object "NeedNotJoin$Study"
  | 1 => .object "NeedNotJoin$World"
  | 2 => .array .boolean
  | 3 => .array (.array .int)
  | _ => .array (.array .int)
abbrev wsX20 : List Cond := u_ws RX2 TX2 5
theorem nmX2 : ∀ a, a < 5 → ∀ b, b < 5 → a ≠ b → (TX2 a).2.1 ≠ (TX2 b).2.1 := by decide +kernel
theorem tyX2_ok : ∀ k, k < 5 → parseFieldDescriptor (TX2 k).2.2.1 = some (tyX2 k) := by decide +kernel
abbrev cX2_init : ByteArray := prog_4_method_1_code
def yX2_init : MethodName := ⟨RX2, "<init>", "(LNeedNotJoin$Study;)V"⟩
def RX3 : String := "NeedNotJoin$Plane"
def TX3 : u_T := fun k => match k with
  | _ => ("NeedNotJoin$Plane", "study", "LNeedNotJoin$Study;", true)
def tyX3 : Nat → FieldType := fun k => match k with
  | _ => .object "NeedNotJoin$Study"
abbrev wsX30 : List Cond := u_ws RX3 TX3 1
theorem nmX3 : ∀ a, a < 1 → ∀ b, b < 1 → a ≠ b → (TX3 a).2.1 ≠ (TX3 b).2.1 := by decide +kernel
theorem tyX3_ok : ∀ k, k < 1 → parseFieldDescriptor (TX3 k).2.2.1 = some (tyX3 k) := by decide +kernel
abbrev cX3_init : ByteArray := prog_5_method_1_code
def yX3_init : MethodName := ⟨RX3, "<init>", "(LNeedNotJoin$Study;)V"⟩
def RX4 : String := "NeedNotJoin$Reader"
def TX4 : u_T := fun k => match k with
  | 0 => ("NeedNotJoin$Reader", "tape", "[I", true)
  | 1 => ("NeedNotJoin$Reader", "length", "I", false)
  | 2 => ("NeedNotJoin$Reader", "place", "I", false)
  | 3 => ("NeedNotJoin$Reader", "kind", "I", false)
  | 4 => ("NeedNotJoin$Reader", "start", "I", false)
  | 5 => ("NeedNotJoin$Reader", "value", "I", false)
  | 6 => ("NeedNotJoin$Reader", "fault", "I", false)
  | 7 => ("NeedNotJoin$Reader", "faultPlace", "I", false)
  | 8 => ("NeedNotJoin$Reader", "statements", "I", false)
  | 9 => ("NeedNotJoin$Reader", "hasField", "Z", false)
  | 10 => ("NeedNotJoin$Reader", "world", "LNeedNotJoin$World;", true)
  | 11 => ("NeedNotJoin$Reader", "field", "LNeedNotJoin$World;", true)
  | 12 => ("NeedNotJoin$Reader", "spare", "LNeedNotJoin$World;", true)
  | 13 => ("NeedNotJoin$Reader", "numbers", "[I", true)
  | 14 => ("NeedNotJoin$Reader", "raisedLeft", "[I", true)
  | _ => ("NeedNotJoin$Reader", "raisedRight", "[I", true)
def tyX4 : Nat → FieldType := fun k => match k with
  | 0 => .array .int
  | 1 => .int
  | 2 => .int
  | 3 => .int
  | 4 => .int
  | 5 => .int
  | 6 => .int
  | 7 => .int
  | 8 => .int
  | 9 => .boolean
  | 10 => .object "NeedNotJoin$World"
  | 11 => .object "NeedNotJoin$World"
  | 12 => .object "NeedNotJoin$World"
  | 13 => .array .int
  | 14 => .array .int
  | _ => .array .int
abbrev wsX40 : List Cond := u_ws RX4 TX4 16
theorem nmX4 : ∀ a, a < 16 → ∀ b, b < 16 → a ≠ b → (TX4 a).2.1 ≠ (TX4 b).2.1 := by decide +kernel
theorem tyX4_ok : ∀ k, k < 16 → parseFieldDescriptor (TX4 k).2.2.1 = some (tyX4 k) := by decide +kernel
abbrev cX4_init : ByteArray := prog_6_method_1_code
def yX4_init : MethodName := ⟨RX4, "<init>", "()V"⟩
abbrev cX4_hasRoom : ByteArray := prog_6_method_2_code
def yX4_hasRoom : MethodName := ⟨RX4, "hasRoom", "()Z"⟩
abbrev cX4_takeNumber : ByteArray := prog_6_method_3_code
def yX4_takeNumber : MethodName := ⟨RX4, "takeNumber", "(I)V"⟩
abbrev cX4_length : ByteArray := prog_6_method_4_code
def yX4_length : MethodName := ⟨RX4, "length", "()I"⟩
abbrev cX4_cutAt : ByteArray := prog_6_method_5_code
def yX4_cutAt : MethodName := ⟨RX4, "cutAt", "(I)Z"⟩
abbrev cX4_forget : ByteArray := prog_6_method_6_code
def yX4_forget : MethodName := ⟨RX4, "forget", "()V"⟩
abbrev cX4_told : ByteArray := prog_6_method_9_code
def yX4_told : MethodName := ⟨RX4, "told", "()LNeedNotJoin$World;"⟩
abbrev cX4_read : ByteArray := prog_6_method_10_code
def yX4_read : MethodName := ⟨RX4, "read", "()Z"⟩
abbrev cX4_fail : ByteArray := prog_6_method_11_code
def yX4_fail : MethodName := ⟨RX4, "fail", "(I)Z"⟩
abbrev cX4_statement : ByteArray := prog_6_method_12_code
def yX4_statement : MethodName := ⟨RX4, "statement", "()V"⟩
abbrev cX4_expect : ByteArray := prog_6_method_13_code
def yX4_expect : MethodName := ⟨RX4, "expect", "(I)Z"⟩
abbrev cX4_numberBelow : ByteArray := prog_6_method_14_code
def yX4_numberBelow : MethodName := ⟨RX4, "numberBelow", "(I)Z"⟩
abbrev cX4_order : ByteArray := prog_6_method_15_code
def yX4_order : MethodName := ⟨RX4, "order", "()Z"⟩
abbrev cX4_polynomials : ByteArray := prog_6_method_16_code
def yX4_polynomials : MethodName := ⟨RX4, "polynomials", "()Z"⟩
abbrev cX4_fillPolynomials : ByteArray := prog_6_method_17_code
def yX4_fillPolynomials : MethodName := ⟨RX4, "fillPolynomials", "()V"⟩
abbrev cX4_twist : ByteArray := prog_6_method_18_code
def yX4_twist : MethodName := ⟨RX4, "twist", "()Z"⟩
abbrev cX4_fillTwist : ByteArray := prog_6_method_19_code
def yX4_fillTwist : MethodName := ⟨RX4, "fillTwist", "(III)V"⟩
abbrev cX4_raise : ByteArray := prog_6_method_20_code
def yX4_raise : MethodName := ⟨RX4, "raise", "(II)I"⟩
abbrev cX4_row : ByteArray := prog_6_method_21_code
def yX4_row : MethodName := ⟨RX4, "row", "()Z"⟩
abbrev cX4_turning : ByteArray := prog_6_method_22_code
def yX4_turning : MethodName := ⟨RX4, "turning", "()Z"⟩
abbrev cX4_step : ByteArray := prog_6_method_23_code
def yX4_step : MethodName := ⟨RX4, "step", "()V"⟩
abbrev cX4_stepNumber : ByteArray := prog_6_method_24_code
def yX4_stepNumber : MethodName := ⟨RX4, "stepNumber", "()V"⟩
abbrev cX4_isWord : ByteArray := prog_6_method_25_code
def yX4_isWord : MethodName := ⟨RX4, "isWord", "(Ljava/lang/String;)Z"⟩
abbrev cX4_isLetter : ByteArray := prog_6_method_26_code
def yX4_isLetter : MethodName := ⟨RX4, "isLetter", "(I)Z"⟩
abbrev cX4_isDigit : ByteArray := prog_6_method_27_code
def yX4_isDigit : MethodName := ⟨RX4, "isDigit", "(I)Z"⟩
def RX5 : String := "NeedNotJoin$Search"
def TX5 : u_T := fun k => match k with
  | 0 => ("NeedNotJoin$Search", "prime", "I", false)
  | 1 => ("NeedNotJoin$Search", "size", "I", false)
  | 2 => ("NeedNotJoin$Search", "order", "I", false)
  | 3 => ("NeedNotJoin$Search", "count", "I", false)
  | 4 => ("NeedNotJoin$Search", "fixed", "I", false)
  | 5 => ("NeedNotJoin$Search", "sums", "[I", true)
  | 6 => ("NeedNotJoin$Search", "products", "[I", true)
  | 7 => ("NeedNotJoin$Search", "before", "[I", true)
  | 8 => ("NeedNotJoin$Search", "after", "[I", true)
  | 9 => ("NeedNotJoin$Search", "elements", "[I", true)
  | 10 => ("NeedNotJoin$Search", "codes", "[I", true)
  | 11 => ("NeedNotJoin$Search", "basis", "[I", true)
  | 12 => ("NeedNotJoin$Search", "leftParent", "[I", true)
  | 13 => ("NeedNotJoin$Search", "rightParent", "[I", true)
  | 14 => ("NeedNotJoin$Search", "pairCodes", "[I", true)
  | 15 => ("NeedNotJoin$Search", "pairLevels", "[I", true)
  | 16 => ("NeedNotJoin$Search", "chosen", "[I", true)
  | _ => ("NeedNotJoin$Search", "images", "[I", true)
def tyX5 : Nat → FieldType := fun k => match k with
  | 0 => .int
  | 1 => .int
  | 2 => .int
  | 3 => .int
  | 4 => .int
  | 5 => .array .int
  | 6 => .array .int
  | 7 => .array .int
  | 8 => .array .int
  | 9 => .array .int
  | 10 => .array .int
  | 11 => .array .int
  | 12 => .array .int
  | 13 => .array .int
  | 14 => .array .int
  | 15 => .array .int
  | 16 => .array .int
  | _ => .array .int
abbrev wsX50 : List Cond := u_ws RX5 TX5 18
theorem nmX5 : ∀ a, a < 18 → ∀ b, b < 18 → a ≠ b → (TX5 a).2.1 ≠ (TX5 b).2.1 := by decide +kernel
theorem tyX5_ok : ∀ k, k < 18 → parseFieldDescriptor (TX5 k).2.2.1 = some (tyX5 k) := by decide +kernel
abbrev cX5_init : ByteArray := prog_7_method_1_code
def yX5_init : MethodName := ⟨RX5, "<init>", "()V"⟩
def RX6 : String := "NeedNotJoin$State"
def TX6 : u_T := fun k => match k with
  | 0 => ("NeedNotJoin$State", "worlds", "[LNeedNotJoin$World;", true)
  | 1 => ("NeedNotJoin$State", "others", "[LNeedNotJoin$World;", true)
  | 2 => ("NeedNotJoin$State", "whose", "[I", true)
  | 3 => ("NeedNotJoin$State", "images", "[I", true)
  | 4 => ("NeedNotJoin$State", "done", "I", false)
  | _ => ("NeedNotJoin$State", "undone", "I", false)
def tyX6 : Nat → FieldType := fun k => match k with
  | 0 => .array (.object "NeedNotJoin$World")
  | 1 => .array (.object "NeedNotJoin$World")
  | 2 => .array .int
  | 3 => .array .int
  | 4 => .int
  | _ => .int
abbrev wsX60 : List Cond := u_ws RX6 TX6 6
theorem nmX6 : ∀ a, a < 6 → ∀ b, b < 6 → a ≠ b → (TX6 a).2.1 ≠ (TX6 b).2.1 := by decide +kernel
theorem tyX6_ok : ∀ k, k < 6 → parseFieldDescriptor (TX6 k).2.2.1 = some (tyX6 k) := by decide +kernel
abbrev cX6_init : ByteArray := prog_8_method_1_code
def yX6_init : MethodName := ⟨RX6, "<init>", "()V"⟩
abbrev cX6_world : ByteArray := prog_8_method_3_code
def yX6_world : MethodName := ⟨RX6, "world", "(I)LNeedNotJoin$World;"⟩
abbrev cX6_tell : ByteArray := prog_8_method_4_code
def yX6_tell : MethodName := ⟨RX6, "tell", "(ILNeedNotJoin$World;)V"⟩
abbrev cX6_dropOldest : ByteArray := prog_8_method_5_code
def yX6_dropOldest : MethodName := ⟨RX6, "dropOldest", "()V"⟩
abbrev cX6_canGoBack : ByteArray := prog_8_method_9_code
def yX6_canGoBack : MethodName := ⟨RX6, "canGoBack", "()I"⟩
abbrev cX6_canGoForth : ByteArray := prog_8_method_10_code
def yX6_canGoForth : MethodName := ⟨RX6, "canGoForth", "()I"⟩
abbrev cX6_imageAt : ByteArray := prog_8_method_12_code
def yX6_imageAt : MethodName := ⟨RX6, "imageAt", "(I)I"⟩
def RX7 : String := "NeedNotJoin$Study"
def TX7 : u_T := fun k => match k with
  | 0 => ("NeedNotJoin$Study", "echelon", "LNeedNotJoin$Echelon;", true)
  | 1 => ("NeedNotJoin$Study", "forms", "LNeedNotJoin$Forms;", true)
  | 2 => ("NeedNotJoin$Study", "bases", "[I", true)
  | 3 => ("NeedNotJoin$Study", "members", "[I", true)
  | 4 => ("NeedNotJoin$Study", "differences", "[I", true)
  | 5 => ("NeedNotJoin$Study", "table", "[I", true)
  | _ => ("NeedNotJoin$Study", "seen", "[Z", true)
def tyX7 : Nat → FieldType := fun k => match k with
  | 0 => .object "NeedNotJoin$Echelon"
  | 1 => .object "NeedNotJoin$Forms"
  | 2 => .array .int
  | 3 => .array .int
  | 4 => .array .int
  | 5 => .array .int
  | _ => .array .boolean
abbrev wsX70 : List Cond := u_ws RX7 TX7 7
theorem nmX7 : ∀ a, a < 7 → ∀ b, b < 7 → a ≠ b → (TX7 a).2.1 ≠ (TX7 b).2.1 := by decide +kernel
theorem tyX7_ok : ∀ k, k < 7 → parseFieldDescriptor (TX7 k).2.2.1 = some (tyX7 k) := by decide +kernel
abbrev cX7_init : ByteArray := prog_9_method_1_code
def yX7_init : MethodName := ⟨RX7, "<init>", "(LNeedNotJoin$Echelon;LNeedNotJoin$Forms;)V"⟩
abbrev cX7_divides : ByteArray := prog_9_method_2_code
def yX7_divides : MethodName := ⟨RX7, "divides", "(LNeedNotJoin$World;)Z"⟩
abbrev cX7_failing : ByteArray := prog_9_method_3_code
def yX7_failing : MethodName := ⟨RX7, "failing", "(LNeedNotJoin$World;)I"⟩
abbrev cX7_leastToNought : ByteArray := prog_9_method_4_code
def yX7_leastToNought : MethodName := ⟨RX7, "leastToNought", "(LNeedNotJoin$World;I)I"⟩
abbrev cX7_unit : ByteArray := prog_9_method_5_code
def yX7_unit : MethodName := ⟨RX7, "unit", "(LNeedNotJoin$World;)I"⟩
abbrev cX7_isUnit : ByteArray := prog_9_method_6_code
def yX7_isUnit : MethodName := ⟨RX7, "isUnit", "(LNeedNotJoin$World;I)Z"⟩
abbrev cX7_difference : ByteArray := prog_9_method_10_code
def yX7_difference : MethodName := ⟨RX7, "difference", "(LNeedNotJoin$World;III)I"⟩
abbrev cX7_firstUnjoined : ByteArray := prog_9_method_11_code
def yX7_firstUnjoined : MethodName := ⟨RX7, "firstUnjoined", "(LNeedNotJoin$World;)I"⟩
abbrev cX7_findDifferences : ByteArray := prog_9_method_12_code
def yX7_findDifferences : MethodName := ⟨RX7, "findDifferences", "(LNeedNotJoin$World;)V"⟩
abbrev cX7_nucleus : ByteArray := prog_9_method_13_code
def yX7_nucleus : MethodName := ⟨RX7, "nucleus", "(LNeedNotJoin$World;I)I"⟩
abbrev cX7_centre : ByteArray := prog_9_method_14_code
def yX7_centre : MethodName := ⟨RX7, "centre", "(LNeedNotJoin$World;)I"⟩
abbrev cX7_demandJoining : ByteArray := prog_9_method_15_code
def yX7_demandJoining : MethodName := ⟨RX7, "demandJoining", "(LNeedNotJoin$World;I)V"⟩
abbrev cX7_demandNought : ByteArray := prog_9_method_16_code
def yX7_demandNought : MethodName := ⟨RX7, "demandNought", "(LNeedNotJoin$World;II)V"⟩
abbrev cX7_demandCommuting : ByteArray := prog_9_method_17_code
def yX7_demandCommuting : MethodName := ⟨RX7, "demandCommuting", "(LNeedNotJoin$World;)V"⟩
abbrev cX7_idempotents : ByteArray := prog_9_method_18_code
def yX7_idempotents : MethodName := ⟨RX7, "idempotents", "(LNeedNotJoin$World;)I"⟩
abbrev cX7_squares : ByteArray := prog_9_method_19_code
def yX7_squares : MethodName := ⟨RX7, "squares", "(LNeedNotJoin$World;)I"⟩
abbrev cX7_forgetSeen : ByteArray := prog_9_method_21_code
def yX7_forgetSeen : MethodName := ⟨RX7, "forgetSeen", "()V"⟩
abbrev cX7_isFirstSeen : ByteArray := prog_9_method_22_code
def yX7_isFirstSeen : MethodName := ⟨RX7, "isFirstSeen", "(I)Z"⟩
def RX8 : String := "NeedNotJoin$Sums"
def TX8 : u_T := fun k => match k with
  | _ => ("", "", "", false)
def tyX8 : Nat → FieldType := fun k => match k with
  | _ => .int
abbrev wsX80 : List Cond := u_ws RX8 TX8 0
theorem nmX8 : ∀ a, a < 0 → ∀ b, b < 0 → a ≠ b → (TX8 a).2.1 ≠ (TX8 b).2.1 := by decide +kernel
theorem tyX8_ok : ∀ k, k < 0 → parseFieldDescriptor (TX8 k).2.2.1 = some (tyX8 k) := by decide +kernel
abbrev cX8_isPrime : ByteArray := prog_10_method_2_code
def yX8_isPrime : MethodName := ⟨RX8, "isPrime", "(I)Z"⟩
abbrev cX8_power : ByteArray := prog_10_method_3_code
def yX8_power : MethodName := ⟨RX8, "power", "(II)I"⟩
abbrev cX8_plus : ByteArray := prog_10_method_4_code
def yX8_plus : MethodName := ⟨RX8, "plus", "(III)I"⟩
abbrev cX8_manifold : ByteArray := prog_10_method_5_code
def yX8_manifold : MethodName := ⟨RX8, "manifold", "(III)I"⟩
abbrev cX8_less : ByteArray := prog_10_method_6_code
def yX8_less : MethodName := ⟨RX8, "less", "(III)I"⟩
abbrev cX8_unpack : ByteArray := prog_10_method_7_code
def yX8_unpack : MethodName := ⟨RX8, "unpack", "(II[I)V"⟩
def RX9 : String := "NeedNotJoin$World"
def TX9 : u_T := fun k => match k with
  | 0 => ("NeedNotJoin$World", "prime", "I", false)
  | 1 => ("NeedNotJoin$World", "size", "I", false)
  | 2 => ("NeedNotJoin$World", "order", "I", false)
  | 3 => ("NeedNotJoin$World", "failing", "I", false)
  | 4 => ("NeedNotJoin$World", "cells", "[I", true)
  | _ => ("NeedNotJoin$World", "sums", "[I", true)
def tyX9 : Nat → FieldType := fun k => match k with
  | 0 => .int
  | 1 => .int
  | 2 => .int
  | 3 => .int
  | 4 => .array .int
  | _ => .array .int
abbrev wsX90 : List Cond := u_ws RX9 TX9 6
theorem nmX9 : ∀ a, a < 6 → ∀ b, b < 6 → a ≠ b → (TX9 a).2.1 ≠ (TX9 b).2.1 := by decide +kernel
theorem tyX9_ok : ∀ k, k < 6 → parseFieldDescriptor (TX9 k).2.2.1 = some (tyX9 k) := by decide +kernel
abbrev cX9_init : ByteArray := prog_11_method_1_code
def yX9_init : MethodName := ⟨RX9, "<init>", "()V"⟩
abbrev cX9_canBe : ByteArray := prog_11_method_2_code
def yX9_canBe : MethodName := ⟨RX9, "canBe", "(II)Z"⟩
abbrev cX9_clear : ByteArray := prog_11_method_3_code
def yX9_clear : MethodName := ⟨RX9, "clear", "(II)V"⟩
abbrev cX9_copy : ByteArray := prog_11_method_4_code
def yX9_copy : MethodName := ⟨RX9, "copy", "(LNeedNotJoin$World;)V"⟩
abbrev cX9_prime : ByteArray := prog_11_method_5_code
def yX9_prime : MethodName := ⟨RX9, "prime", "()I"⟩
abbrev cX9_size : ByteArray := prog_11_method_6_code
def yX9_size : MethodName := ⟨RX9, "size", "()I"⟩
abbrev cX9_order : ByteArray := prog_11_method_7_code
def yX9_order : MethodName := ⟨RX9, "order", "()I"⟩
abbrev cX9_knownFailing : ByteArray := prog_11_method_8_code
def yX9_knownFailing : MethodName := ⟨RX9, "knownFailing", "()I"⟩
abbrev cX9_learnFailing : ByteArray := prog_11_method_9_code
def yX9_learnFailing : MethodName := ⟨RX9, "learnFailing", "(I)V"⟩
abbrev cX9_hasElement : ByteArray := prog_11_method_10_code
def yX9_hasElement : MethodName := ⟨RX9, "hasElement", "(I)Z"⟩
abbrev cX9_hasCell : ByteArray := prog_11_method_11_code
def yX9_hasCell : MethodName := ⟨RX9, "hasCell", "(III)Z"⟩
abbrev cX9_cell : ByteArray := prog_11_method_12_code
def yX9_cell : MethodName := ⟨RX9, "cell", "(III)I"⟩
abbrev cX9_put : ByteArray := prog_11_method_13_code
def yX9_put : MethodName := ⟨RX9, "put", "(IIII)V"⟩
abbrev cX9_putRow : ByteArray := prog_11_method_14_code
def yX9_putRow : MethodName := ⟨RX9, "putRow", "(III)V"⟩
abbrev cX9_base : ByteArray := prog_11_method_15_code
def yX9_base : MethodName := ⟨RX9, "base", "(I)I"⟩
abbrev cX9_times : ByteArray := prog_11_method_16_code
def yX9_times : MethodName := ⟨RX9, "times", "(II)I"⟩
abbrev cX9_commutes : ByteArray := prog_11_method_17_code
def yX9_commutes : MethodName := ⟨RX9, "commutes", "()Z"⟩
abbrev cX9_turnFrom : ByteArray := prog_11_method_18_code
def yX9_turnFrom : MethodName := ⟨RX9, "turnFrom", "(LNeedNotJoin$World;I)V"⟩
abbrev cX9_turnedCell : ByteArray := prog_11_method_19_code
def yX9_turnedCell : MethodName := ⟨RX9, "turnedCell", "(IIII)I"⟩
def RX10 : String := "NeedNotJoin"
def TX10 : u_T := fun k => match k with
  | 0 => ("NeedNotJoin", "now", "LNeedNotJoin$State;", true)
  | 1 => ("NeedNotJoin", "kept", "LNeedNotJoin$State;", true)
  | 2 => ("NeedNotJoin", "isKept", "Z", false)
  | 3 => ("NeedNotJoin", "reader", "LNeedNotJoin$Reader;", true)
  | 4 => ("NeedNotJoin", "echelon", "LNeedNotJoin$Echelon;", true)
  | 5 => ("NeedNotJoin", "forms", "LNeedNotJoin$Forms;", true)
  | 6 => ("NeedNotJoin", "study", "LNeedNotJoin$Study;", true)
  | 7 => ("NeedNotJoin", "geometry", "LNeedNotJoin$Plane;", true)
  | 8 => ("NeedNotJoin", "search", "LNeedNotJoin$Search;", true)
  | 9 => ("NeedNotJoin", "lists", "LNeedNotJoin$Lists;", true)
  | _ => ("NeedNotJoin", "draft", "LNeedNotJoin$World;", true)
def tyX10 : Nat → FieldType := fun k => match k with
  | 0 => .object "NeedNotJoin$State"
  | 1 => .object "NeedNotJoin$State"
  | 2 => .boolean
  | 3 => .object "NeedNotJoin$Reader"
  | 4 => .object "NeedNotJoin$Echelon"
  | 5 => .object "NeedNotJoin$Forms"
  | 6 => .object "NeedNotJoin$Study"
  | 7 => .object "NeedNotJoin$Plane"
  | 8 => .object "NeedNotJoin$Search"
  | 9 => .object "NeedNotJoin$Lists"
  | _ => .object "NeedNotJoin$World"
abbrev wsX100 : List Cond := u_ws RX10 TX10 11
theorem nmX10 : ∀ a, a < 11 → ∀ b, b < 11 → a ≠ b → (TX10 a).2.1 ≠ (TX10 b).2.1 := by decide +kernel
theorem tyX10_ok : ∀ k, k < 11 → parseFieldDescriptor (TX10 k).2.2.1 = some (tyX10 k) := by decide +kernel
abbrev cX10_init : ByteArray := prog_1_method_1_code
def yX10_init : MethodName := ⟨RX10, "<init>", "()V"⟩
abbrev cX10_feed : ByteArray := prog_1_method_2_code
def yX10_feed : MethodName := ⟨RX10, "feed", "(IIIII)I"⟩
abbrev cX10_end : ByteArray := prog_1_method_3_code
def yX10_end : MethodName := ⟨RX10, "end", "(I)Z"⟩
abbrev cX10_text : ByteArray := prog_1_method_4_code
def yX10_text : MethodName := ⟨RX10, "text", "(I)I"⟩
abbrev cX10_cube : ByteArray := prog_1_method_7_code
def yX10_cube : MethodName := ⟨RX10, "cube", "(IIII)I"⟩
abbrev cX10_of : ByteArray := prog_1_method_8_code
def yX10_of : MethodName := ⟨RX10, "of", "(II)I"⟩
abbrev cX10_product : ByteArray := prog_1_method_9_code
def yX10_product : MethodName := ⟨RX10, "product", "(III)I"⟩
abbrev cX10_look : ByteArray := prog_1_method_27_code
def yX10_look : MethodName := ⟨RX10, "look", "(I)I"⟩
def RX11 : String := "NeedNotJoinLaw$World"
def TX11 : u_T := fun k => match k with
  | 0 => ("NeedNotJoinLaw$World", "p", "I", false)
  | 1 => ("NeedNotJoinLaw$World", "n", "I", false)
  | 2 => ("NeedNotJoinLaw$World", "q", "I", false)
  | 3 => ("NeedNotJoinLaw$World", "c", "[[[I", false)
  | _ => ("NeedNotJoinLaw$World", "table", "[[I", false)
def tyX11 : Nat → FieldType := fun k => match k with
  | 0 => .int
  | 1 => .int
  | 2 => .int
  | 3 => .array (.array (.array .int))
  | _ => .array (.array .int)
abbrev wsX110 : List Cond := u_ws RX11 TX11 5
theorem nmX11 : ∀ a, a < 5 → ∀ b, b < 5 → a ≠ b → (TX11 a).2.1 ≠ (TX11 b).2.1 := by decide +kernel
theorem tyX11_ok : ∀ k, k < 5 → parseFieldDescriptor (TX11 k).2.2.1 = some (tyX11 k) := by decide +kernel
abbrev cX11_init : ByteArray := prog_13_method_1_code
def yX11_init : MethodName := ⟨RX11, "<init>", "()V"⟩
abbrev cX11_copy : ByteArray := prog_13_method_2_code
def yX11_copy : MethodName := ⟨RX11, "copy", "()LNeedNotJoinLaw$World;"⟩
abbrev cX11_sizes : ByteArray := prog_13_method_3_code
def yX11_sizes : MethodName := ⟨RX11, "sizes", "(II)V"⟩
abbrev cX11_digit : ByteArray := prog_13_method_4_code
def yX11_digit : MethodName := ⟨RX11, "digit", "(II)I"⟩
abbrev cX11_plus : ByteArray := prog_13_method_5_code
def yX11_plus : MethodName := ⟨RX11, "plus", "(II)I"⟩
abbrev cX11_minus : ByteArray := prog_13_method_6_code
def yX11_minus : MethodName := ⟨RX11, "minus", "(II)I"⟩
abbrev cX11_lays : ByteArray := prog_13_method_7_code
def yX11_lays : MethodName := ⟨RX11, "lays", "()V"⟩
abbrev cX11_fail : ByteArray := prog_13_method_8_code
def yX11_fail : MethodName := ⟨RX11, "fail", "()I"⟩
abbrev cX11_unit : ByteArray := prog_13_method_9_code
def yX11_unit : MethodName := ⟨RX11, "unit", "()I"⟩
abbrev cX11_turned : ByteArray := prog_13_method_10_code
def yX11_turned : MethodName := ⟨RX11, "turned", "(I)LNeedNotJoinLaw$World;"⟩
abbrev cX11_isSame : ByteArray := prog_13_method_11_code
def yX11_isSame : MethodName := ⟨RX11, "isSame", "(LNeedNotJoin;I)Z"⟩
def RX12 : String := "NeedNotJoinModel"
def TX12 : u_T := fun k => match k with
  | _ => ("", "", "", false)
def tyX12 : Nat → FieldType := fun k => match k with
  | _ => .int
abbrev wsX120 : List Cond := u_ws RX12 TX12 0
theorem nmX12 : ∀ a, a < 0 → ∀ b, b < 0 → a ≠ b → (TX12 a).2.1 ≠ (TX12 b).2.1 := by decide +kernel
theorem tyX12_ok : ∀ k, k < 0 → parseFieldDescriptor (TX12 k).2.2.1 = some (tyX12 k) := by decide +kernel
def RJ5 : String := "java/lang/AbstractStringBuilder"
def TJ5 : u_T := fun k => match k with
  | _ => ("", "", "", false)
def tyJ5 : Nat → FieldType := fun k => match k with
  | _ => .int
abbrev wsJ50 : List Cond := u_ws RJ5 TJ5 0
theorem nmJ5 : ∀ a, a < 0 → ∀ b, b < 0 → a ≠ b → (TJ5 a).2.1 ≠ (TJ5 b).2.1 := by decide +kernel
theorem tyJ5_ok : ∀ k, k < 0 → parseFieldDescriptor (TJ5 k).2.2.1 = some (tyJ5 k) := by decide +kernel
abbrev cJ5_init_d00df : ByteArray := prog_15_method_2_code
def yJ5_init_d00df : MethodName := ⟨RJ5, "<init>", "(I)V"⟩
abbrev cJ5_length_8abf5 : ByteArray := prog_15_method_6_code
def yJ5_length_8abf5 : MethodName := ⟨RJ5, "length", "()I"⟩
abbrev cJ5_ensureCapacityInternal_d00df : ByteArray := prog_15_method_9_code
def yJ5_ensureCapacityInternal_d00df : MethodName := ⟨RJ5, "ensureCapacityInternal", "(I)V"⟩
abbrev cJ5_newCapacity_0f7a4 : ByteArray := prog_15_method_10_code
def yJ5_newCapacity_0f7a4 : MethodName := ⟨RJ5, "newCapacity", "(I)I"⟩
abbrev cJ5_inflate_da8c8 : ByteArray := prog_15_method_11_code
def yJ5_inflate_da8c8 : MethodName := ⟨RJ5, "inflate", "()V"⟩
abbrev cJ5_append_cf1ce : ByteArray := prog_15_method_22_code
def yJ5_append_cf1ce : MethodName := ⟨RJ5, "append", "(Ljava/lang/String;)Ljava/lang/AbstractStringBuilder;"⟩
abbrev cJ5_appendNull_278bc : ByteArray := prog_15_method_26_code
def yJ5_appendNull_278bc : MethodName := ⟨RJ5, "appendNull", "()Ljava/lang/AbstractStringBuilder;"⟩
abbrev cJ5_append_c97b9 : ByteArray := prog_15_method_32_code
def yJ5_append_c97b9 : MethodName := ⟨RJ5, "append", "(I)Ljava/lang/AbstractStringBuilder;"⟩
abbrev cJ5_getValue_6d5f1 : ByteArray := prog_15_method_64_code
def yJ5_getValue_6d5f1 : MethodName := ⟨RJ5, "getValue", "()[B"⟩
abbrev cJ5_isLatin1_aae02 : ByteArray := prog_15_method_68_code
def yJ5_isLatin1_aae02 : MethodName := ⟨RJ5, "isLatin1", "()Z"⟩
abbrev cJ5_inflateIfNeededFor_a7421 : ByteArray := prog_15_method_71_code
def yJ5_inflateIfNeededFor_a7421 : MethodName := ⟨RJ5, "inflateIfNeededFor", "(Ljava/lang/String;)V"⟩
abbrev cJ5_putStringAt_47b60 : ByteArray := prog_15_method_73_code
def yJ5_putStringAt_47b60 : MethodName := ⟨RJ5, "putStringAt", "(ILjava/lang/String;)V"⟩
def RJx8e188 : String := "java/lang/Cloneable"
def TJx8e188 : u_T := fun k => match k with
  | _ => ("", "", "", false)
def tyJx8e188 : Nat → FieldType := fun k => match k with
  | _ => .int
abbrev wsJx8e1880 : List Cond := u_ws RJx8e188 TJx8e188 0
theorem nmJx8e188 : ∀ a, a < 0 → ∀ b, b < 0 → a ≠ b → (TJx8e188 a).2.1 ≠ (TJx8e188 b).2.1 := by decide +kernel
theorem tyJx8e188_ok : ∀ k, k < 0 → parseFieldDescriptor (TJx8e188 k).2.2.1 = some (tyJx8e188 k) := by decide +kernel
def RJ6 : String := "java/lang/Integer"
def TJ6 : u_T := fun k => match k with
  | _ => ("", "", "", false)
def tyJ6 : Nat → FieldType := fun k => match k with
  | _ => .int
abbrev wsJ60 : List Cond := u_ws RJ6 TJ6 0
theorem nmJ6 : ∀ a, a < 0 → ∀ b, b < 0 → a ≠ b → (TJ6 a).2.1 ≠ (TJ6 b).2.1 := by decide +kernel
theorem tyJ6_ok : ∀ k, k < 0 → parseFieldDescriptor (TJ6 k).2.2.1 = some (tyJ6 k) := by decide +kernel
abbrev cJ6_getChars_ba4f3 : ByteArray := prog_17_method_12_code
def yJ6_getChars_ba4f3 : MethodName := ⟨RJ6, "getChars", "(II[B)I"⟩
abbrev cJ6_stringSize_0f7a4 : ByteArray := prog_17_method_13_code
def yJ6_stringSize_0f7a4 : MethodName := ⟨RJ6, "stringSize", "(I)I"⟩
def RJ9 : String := "java/lang/Math"
def TJ9 : u_T := fun k => match k with
  | _ => ("", "", "", false)
def tyJ9 : Nat → FieldType := fun k => match k with
  | _ => .int
abbrev wsJ90 : List Cond := u_ws RJ9 TJ9 0
theorem nmJ9 : ∀ a, a < 0 → ∀ b, b < 0 → a ≠ b → (TJ9 a).2.1 ≠ (TJ9 b).2.1 := by decide +kernel
theorem tyJ9_ok : ∀ k, k < 0 → parseFieldDescriptor (TJ9 k).2.2.1 = some (tyJ9 k) := by decide +kernel
abbrev cJ9_max_7cf53 : ByteArray := prog_18_method_65_code
def yJ9_max_7cf53 : MethodName := ⟨RJ9, "max", "(II)I"⟩
abbrev cJ9_min_7cf53 : ByteArray := prog_18_method_69_code
def yJ9_min_7cf53 : MethodName := ⟨RJ9, "min", "(II)I"⟩
def RJ0 : String := "java/lang/String"
def TJ0 : u_T := fun k => match k with
  | 0 => ("java/lang/String", "value", "[B", true)
  | 1 => ("java/lang/String", "coder", "B", true)
  | 2 => ("java/lang/String", "hash", "I", false)
  | _ => ("java/lang/String", "hashIsZero", "Z", false)
def tyJ0 : Nat → FieldType := fun k => match k with
  | 0 => .array .byte
  | 1 => .byte
  | 2 => .int
  | _ => .boolean
abbrev wsJ00 : List Cond := u_ws RJ0 TJ0 4
theorem nmJ0 : ∀ a, a < 4 → ∀ b, b < 4 → a ≠ b → (TJ0 a).2.1 ≠ (TJ0 b).2.1 := by decide +kernel
theorem tyJ0_ok : ∀ k, k < 4 → parseFieldDescriptor (TJ0 k).2.2.1 = some (tyJ0 k) := by decide +kernel
abbrev cJ0_init_81219 : ByteArray := prog_19_method_53_code
def yJ0_init_81219 : MethodName := ⟨RJ0, "<init>", "(Ljava/lang/StringBuilder;)V"⟩
abbrev cJ0_length_8abf5 : ByteArray := prog_19_method_54_code
def yJ0_length_8abf5 : MethodName := ⟨RJ0, "length", "()I"⟩
abbrev cJ0_charAt_5068e : ByteArray := prog_19_method_56_code
def yJ0_charAt_5068e : MethodName := ⟨RJ0, "charAt", "(I)C"⟩
abbrev cJ0_getBytes_840e7 : ByteArray := prog_19_method_147_code
def yJ0_getBytes_840e7 : MethodName := ⟨RJ0, "getBytes", "([BIB)V"⟩
abbrev cJ0_init_db425 : ByteArray := prog_19_method_150_code
def yJ0_init_db425 : MethodName := ⟨RJ0, "<init>", "(Ljava/lang/AbstractStringBuilder;Ljava/lang/Void;)V"⟩
abbrev cJ0_coder_7d493 : ByteArray := prog_19_method_152_code
def yJ0_coder_7d493 : MethodName := ⟨RJ0, "coder", "()B"⟩
abbrev cJ0_isLatin1_aae02 : ByteArray := prog_19_method_154_code
def yJ0_isLatin1_aae02 : MethodName := ⟨RJ0, "isLatin1", "()Z"⟩
abbrev cJ0_checkIndex_df160 : ByteArray := prog_19_method_155_code
def yJ0_checkIndex_df160 : MethodName := ⟨RJ0, "checkIndex", "(II)V"⟩
abbrev cJ0_checkBoundsOffCount_cabcc : ByteArray := prog_19_method_157_code
def yJ0_checkBoundsOffCount_cabcc : MethodName := ⟨RJ0, "checkBoundsOffCount", "(III)I"⟩
abbrev cJ0_checkBoundsBeginEnd_23922 : ByteArray := prog_19_method_158_code
def yJ0_checkBoundsBeginEnd_23922 : MethodName := ⟨RJ0, "checkBoundsBeginEnd", "(III)V"⟩
def RJ4 : String := "java/lang/StringBuilder"
def TJ4 : u_T := fun k => match k with
  | 0 => ("java/lang/AbstractStringBuilder", "value", "[B", false)
  | 1 => ("java/lang/AbstractStringBuilder", "coder", "B", false)
  | 2 => ("java/lang/AbstractStringBuilder", "maybeLatin1", "Z", false)
  | _ => ("java/lang/AbstractStringBuilder", "count", "I", false)
def tyJ4 : Nat → FieldType := fun k => match k with
  | 0 => .array .byte
  | 1 => .byte
  | 2 => .boolean
  | _ => .int
abbrev wsJ40 : List Cond := u_ws RJ4 TJ4 4
theorem nmJ4 : ∀ a, a < 4 → ∀ b, b < 4 → a ≠ b → (TJ4 a).2.1 ≠ (TJ4 b).2.1 := by decide +kernel
theorem tyJ4_ok : ∀ k, k < 4 → parseFieldDescriptor (TJ4 k).2.2.1 = some (tyJ4 k) := by decide +kernel
abbrev cJ4_init_da8c8 : ByteArray := prog_20_method_1_code
def yJ4_init_da8c8 : MethodName := ⟨RJ4, "<init>", "()V"⟩
abbrev cJ4_append_15ec4 : ByteArray := prog_20_method_7_code
def yJ4_append_15ec4 : MethodName := ⟨RJ4, "append", "(Ljava/lang/String;)Ljava/lang/StringBuilder;"⟩
abbrev cJ4_append_bf812 : ByteArray := prog_20_method_15_code
def yJ4_append_bf812 : MethodName := ⟨RJ4, "append", "(I)Ljava/lang/StringBuilder;"⟩
abbrev cJ4_toString_0e30d : ByteArray := prog_20_method_42_code
def yJ4_toString_0e30d : MethodName := ⟨RJ4, "toString", "()Ljava/lang/String;"⟩
abbrev cJ4_length_8abf5 : ByteArray := prog_20_method_93_code
def yJ4_length_8abf5 : MethodName := ⟨RJ4, "length", "()I"⟩
def RJ1 : String := "java/lang/StringLatin1"
def TJ1 : u_T := fun k => match k with
  | _ => ("", "", "", false)
def tyJ1 : Nat → FieldType := fun k => match k with
  | _ => .int
abbrev wsJ10 : List Cond := u_ws RJ1 TJ1 0
theorem nmJ1 : ∀ a, a < 0 → ∀ b, b < 0 → a ≠ b → (TJ1 a).2.1 ≠ (TJ1 b).2.1 := by decide +kernel
theorem tyJ1_ok : ∀ k, k < 0 → parseFieldDescriptor (TJ1 k).2.2.1 = some (tyJ1 k) := by decide +kernel
abbrev cJ1_charAt_3b067 : ByteArray := prog_21_method_2_code
def yJ1_charAt_3b067 : MethodName := ⟨RJ1, "charAt", "([BI)C"⟩
abbrev cJ1_inflate_0e8fd : ByteArray := prog_21_method_50_code
def yJ1_inflate_0e8fd : MethodName := ⟨RJ1, "inflate", "([BI[BII)V"⟩
def RJ2 : String := "java/lang/StringUTF16"
def TJ2 : u_T := fun k => match k with
  | _ => ("", "", "", false)
def tyJ2 : Nat → FieldType := fun k => match k with
  | _ => .int
abbrev wsJ20 : List Cond := u_ws RJ2 TJ2 0
theorem nmJ2 : ∀ a, a < 0 → ∀ b, b < 0 → a ≠ b → (TJ2 a).2.1 ≠ (TJ2 b).2.1 := by decide +kernel
theorem tyJ2_ok : ∀ k, k < 0 → parseFieldDescriptor (TJ2 k).2.2.1 = some (tyJ2 k) := by decide +kernel
abbrev cJ2_newBytesFor_77867 : ByteArray := prog_22_method_2_code
def yJ2_newBytesFor_77867 : MethodName := ⟨RJ2, "newBytesFor", "(I)[B"⟩
abbrev cJ2_newBytesLength_0f7a4 : ByteArray := prog_22_method_3_code
def yJ2_newBytesLength_0f7a4 : MethodName := ⟨RJ2, "newBytesLength", "(I)I"⟩
abbrev cJ2_putChar_b72d1 : ByteArray := prog_22_method_4_code
def yJ2_putChar_b72d1 : MethodName := ⟨RJ2, "putChar", "([BII)V"⟩
abbrev cJ2_getChar_3b067 : ByteArray := prog_22_method_5_code
def yJ2_getChar_3b067 : MethodName := ⟨RJ2, "getChar", "([BI)C"⟩
abbrev cJ2_length_9d52b : ByteArray := prog_22_method_6_code
def yJ2_length_9d52b : MethodName := ⟨RJ2, "length", "([B)I"⟩
abbrev cJ2_coderFromArrayLen_85cad : ByteArray := prog_22_method_15_code
def yJ2_coderFromArrayLen_85cad : MethodName := ⟨RJ2, "coderFromArrayLen", "([BI)B"⟩
abbrev cJ2_compress_39247 : ByteArray := prog_22_method_17_code
def yJ2_compress_39247 : MethodName := ⟨RJ2, "compress", "([BII)[B"⟩
abbrev cJ2_compress_5af95 : ByteArray := prog_22_method_22_code
def yJ2_compress_5af95 : MethodName := ⟨RJ2, "compress", "([BI[BII)I"⟩
abbrev cJ2_getChars_46870 : ByteArray := prog_22_method_77_code
def yJ2_getChars_46870 : MethodName := ⟨RJ2, "getChars", "(III[B)I"⟩
abbrev cJ2_putCharsAt_cd4e5 : ByteArray := prog_22_method_81_code
def yJ2_putCharsAt_cd4e5 : MethodName := ⟨RJ2, "putCharsAt", "([BICCCC)I"⟩
abbrev cJ2_charAt_3b067 : ByteArray := prog_22_method_83_code
def yJ2_charAt_3b067 : MethodName := ⟨RJ2, "charAt", "([BI)C"⟩
abbrev cJ2_inflate_0e8fd : ByteArray := prog_22_method_86_code
def yJ2_inflate_0e8fd : MethodName := ⟨RJ2, "inflate", "([BI[BII)V"⟩
abbrev cJ2_getChars_ba4f3 : ByteArray := prog_22_method_89_code
def yJ2_getChars_ba4f3 : MethodName := ⟨RJ2, "getChars", "(II[B)I"⟩
abbrev cJ2_checkIndex_2214a : ByteArray := prog_22_method_91_code
def yJ2_checkIndex_2214a : MethodName := ⟨RJ2, "checkIndex", "(I[B)V"⟩
abbrev cJ2_checkBoundsBeginEnd_d044e : ByteArray := prog_22_method_93_code
def yJ2_checkBoundsBeginEnd_d044e : MethodName := ⟨RJ2, "checkBoundsBeginEnd", "(II[B)V"⟩
abbrev cJ2_checkBoundsOffCount_d044e : ByteArray := prog_22_method_94_code
def yJ2_checkBoundsOffCount_d044e : MethodName := ⟨RJ2, "checkBoundsOffCount", "(II[B)V"⟩
def RJ10 : String := "java/lang/System"
def TJ10 : u_T := fun k => match k with
  | _ => ("", "", "", false)
def tyJ10 : Nat → FieldType := fun k => match k with
  | _ => .int
abbrev wsJ100 : List Cond := u_ws RJ10 TJ10 0
theorem nmJ10 : ∀ a, a < 0 → ∀ b, b < 0 → a ≠ b → (TJ10 a).2.1 ≠ (TJ10 b).2.1 := by decide +kernel
theorem tyJ10_ok : ∀ k, k < 0 → parseFieldDescriptor (TJ10 k).2.2.1 = some (tyJ10 k) := by decide +kernel
def RJ7 : String := "java/util/Arrays"
def TJ7 : u_T := fun k => match k with
  | _ => ("", "", "", false)
def tyJ7 : Nat → FieldType := fun k => match k with
  | _ => .int
abbrev wsJ70 : List Cond := u_ws RJ7 TJ7 0
theorem nmJ7 : ∀ a, a < 0 → ∀ b, b < 0 → a ≠ b → (TJ7 a).2.1 ≠ (TJ7 b).2.1 := by decide +kernel
theorem tyJ7_ok : ∀ k, k < 0 → parseFieldDescriptor (TJ7 k).2.2.1 = some (tyJ7 k) := by decide +kernel
abbrev cJ7_copyOf_9075b : ByteArray := prog_24_method_121_code
def yJ7_copyOf_9075b : MethodName := ⟨RJ7, "copyOf", "([BI)[B"⟩
abbrev cJ7_checkLength_df160 : ByteArray := prog_24_method_131_code
def yJ7_checkLength_df160 : MethodName := ⟨RJ7, "checkLength", "(II)V"⟩
abbrev cJ7_copyOfRange_39247 : ByteArray := prog_24_method_132_code
def yJ7_copyOfRange_39247 : MethodName := ⟨RJ7, "copyOfRange", "([BII)[B"⟩
abbrev cJ7_copyOfRangeByte_39247 : ByteArray := prog_24_method_133_code
def yJ7_copyOfRangeByte_39247 : MethodName := ⟨RJ7, "copyOfRangeByte", "([BII)[B"⟩
def RJ8 : String := "jdk/internal/util/ArraysSupport"
def TJ8 : u_T := fun k => match k with
  | _ => ("", "", "", false)
def tyJ8 : Nat → FieldType := fun k => match k with
  | _ => .int
abbrev wsJ80 : List Cond := u_ws RJ8 TJ8 0
theorem nmJ8 : ∀ a, a < 0 → ∀ b, b < 0 → a ≠ b → (TJ8 a).2.1 ≠ (TJ8 b).2.1 := by decide +kernel
theorem tyJ8_ok : ∀ k, k < 0 → parseFieldDescriptor (TJ8 k).2.2.1 = some (tyJ8 k) := by decide +kernel
abbrev cJ8_newLength_cabcc : ByteArray := prog_25_method_27_code
def yJ8_newLength_cabcc : MethodName := ⟨RJ8, "newLength", "(III)I"⟩
abbrev cJ8_hugeLength_7cf53 : ByteArray := prog_25_method_28_code
def yJ8_hugeLength_7cf53 : MethodName := ⟨RJ8, "hugeLength", "(II)I"⟩
def RJ3 : String := "jdk/internal/util/Preconditions"
def TJ3 : u_T := fun k => match k with
  | _ => ("", "", "", false)
def tyJ3 : Nat → FieldType := fun k => match k with
  | _ => .int
abbrev wsJ30 : List Cond := u_ws RJ3 TJ3 0
theorem nmJ3 : ∀ a, a < 0 → ∀ b, b < 0 → a ≠ b → (TJ3 a).2.1 ≠ (TJ3 b).2.1 := by decide +kernel
theorem tyJ3_ok : ∀ k, k < 0 → parseFieldDescriptor (TJ3 k).2.2.1 = some (tyJ3 k) := by decide +kernel
abbrev cJ3_checkIndex_8e157 : ByteArray := prog_26_method_11_code
def yJ3_checkIndex_8e157 : MethodName := ⟨RJ3, "checkIndex", "(IILjava/util/function/BiFunction;)I"⟩
abbrev cJ3_checkFromToIndex_8c36e : ByteArray := prog_26_method_12_code
def yJ3_checkFromToIndex_8c36e : MethodName := ⟨RJ3, "checkFromToIndex", "(IIILjava/util/function/BiFunction;)I"⟩
abbrev cJ3_checkFromIndexSize_8c36e : ByteArray := prog_26_method_13_code
def yJ3_checkFromIndexSize_8c36e : MethodName := ⟨RJ3, "checkFromIndexSize", "(IIILjava/util/function/BiFunction;)I"⟩
def RL : String := "NeedNotJoinLaw"
abbrev cL_cell : ByteArray := method_2_code
def yL_cell : MethodName := ⟨RL, "cell", "([II)I"⟩
abbrev cL_between : ByteArray := method_3_code
def yL_between : MethodName := ⟨RL, "between", "(III)I"⟩
abbrev cL_say : ByteArray := method_4_code
def yL_say : MethodName := ⟨RL, "say", "(LNeedNotJoin;Ljava/lang/String;)V"⟩
abbrev cL_field : ByteArray := method_5_code
def yL_field : MethodName := ⟨RL, "field", "(II[I)LNeedNotJoinLaw$World;"⟩
abbrev cL_SIZES : ByteArray := method_6_code
def yL_SIZES : MethodName := ⟨RL, "SIZES", "()[[I"⟩
abbrev cL_goodField : ByteArray := method_7_code
def yL_goodField : MethodName := ⟨RL, "goodField", "(II)[I"⟩
abbrev cL_world : ByteArray := method_8_code
def yL_world : MethodName := ⟨RL, "world", "(LNeedNotJoin;[IIII)LNeedNotJoinLaw$World;"⟩
abbrev cL_power : ByteArray := method_9_code
def yL_power : MethodName := ⟨RL, "power", "(II)I"⟩
abbrev cL_raised : ByteArray := method_10_code
def yL_raised : MethodName := ⟨RL, "raised", "(LNeedNotJoinLaw$World;II)I"⟩
abbrev cL_law : ByteArray := code
def yL_law : MethodName := ⟨RL, "law", "([I)Z"⟩
abbrev vwCl : List vw_C := [(RX0, TX0, 6), (RX1, TX1, 4), (RX2, TX2, 5), (RX3, TX3, 1), (RX4, TX4, 16), (RX5, TX5, 18), (RX6, TX6, 6), (RX7, TX7, 7), (RX9, TX9, 6), (RX10, TX10, 11), (RX11, TX11, 5), (RJ0, TJ0, 2), (RJ4, TJ4, 4)]
