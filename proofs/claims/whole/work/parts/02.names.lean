def R_Or : String := "OriginRules"
def R_Text : String := "OriginRules$Text"
def R_Rows : String := "OriginRules$Rows"
def R_Parts : String := "OriginRules$Parts"
def R_Lands : String := "OriginRules$Lands"
def R_Proofs : String := "OriginRules$Proofs"
def R_Md : String := "OriginRulesModel"
def R_Law : String := "OriginRulesLaw"
def F_Or : u_T := fun k => match k with
  | 0 => ("OriginRules", "text", "LOriginRules$Text;", true)
  | 1 => ("OriginRules", "rows", "LOriginRules$Rows;", true)
  | 2 => ("OriginRules", "parts", "LOriginRules$Parts;", true)
  | 3 => ("OriginRules", "lands", "LOriginRules$Lands;", true)
  | 4 => ("OriginRules", "proofs", "LOriginRules$Proofs;", true)
  | 5 => ("OriginRules", "processesDone", "I", false)
  | 6 => ("OriginRules", "processesBarred", "I", false)
  | 7 => ("OriginRules", "toleranceUp", "I", false)
  | 8 => ("OriginRules", "toleranceDown", "I", false)
  | 9 => ("OriginRules", "answers", "[I", true)
  | _ => ("OriginRules", "asked", "I", false)
def t_Or : Nat → FieldType := fun k => match k with
  | 0 => .object "OriginRules$Text"
  | 1 => .object "OriginRules$Rows"
  | 2 => .object "OriginRules$Parts"
  | 3 => .object "OriginRules$Lands"
  | 4 => .object "OriginRules$Proofs"
  | 5 => .int
  | 6 => .int
  | 7 => .int
  | 8 => .int
  | 9 => .array .int
  | _ => .int
theorem n_Or : ∀ a, a < 11 → ∀ b, b < 11 → a ≠ b → (F_Or a).2.1 ≠ (F_Or b).2.1 := by decide +kernel
theorem t_Or_ok : ∀ k, k < 11 → parseFieldDescriptor (F_Or k).2.2.1 = some (t_Or k) := by decide +kernel
def F_Text : u_T := fun k => match k with
  | 0 => ("OriginRules$Text", "signs", "[C", true)
  | 1 => ("OriginRules$Text", "length", "I", false)
  | _ => ("OriginRules$Text", "place", "I", false)
def t_Text : Nat → FieldType := fun k => match k with
  | 0 => .array .char
  | 1 => .int
  | _ => .int
theorem n_Text : ∀ a, a < 3 → ∀ b, b < 3 → a ≠ b → (F_Text a).2.1 ≠ (F_Text b).2.1 := by decide +kernel
theorem t_Text_ok : ∀ k, k < 3 → parseFieldDescriptor (F_Text k).2.2.1 = some (t_Text k) := by decide +kernel
def F_Rows : u_T := fun k => match k with
  | 0 => ("OriginRules$Rows", "signs", "[C", true)
  | 1 => ("OriginRules$Rows", "length", "I", false)
  | _ => ("OriginRules$Rows", "size", "I", false)
def t_Rows : Nat → FieldType := fun k => match k with
  | 0 => .array .char
  | 1 => .int
  | _ => .int
theorem n_Rows : ∀ a, a < 3 → ∀ b, b < 3 → a ≠ b → (F_Rows a).2.1 ≠ (F_Rows b).2.1 := by decide +kernel
theorem t_Rows_ok : ∀ k, k < 3 → parseFieldDescriptor (F_Rows k).2.2.1 = some (t_Rows k) := by decide +kernel
def F_Parts : u_T := fun k => match k with
  | 0 => ("OriginRules$Parts", "codes", "[I", true)
  | 1 => ("OriginRules$Parts", "landOf", "[I", true)
  | 2 => ("OriginRules$Parts", "centsOf", "[J", true)
  | _ => ("OriginRules$Parts", "size", "I", false)
def t_Parts : Nat → FieldType := fun k => match k with
  | 0 => .array .int
  | 1 => .array .int
  | 2 => .array .long
  | _ => .int
theorem n_Parts : ∀ a, a < 4 → ∀ b, b < 4 → a ≠ b → (F_Parts a).2.1 ≠ (F_Parts b).2.1 := by decide +kernel
theorem t_Parts_ok : ∀ k, k < 4 → parseFieldDescriptor (F_Parts k).2.2.1 = some (t_Parts k) := by decide +kernel
def F_Lands : u_T := fun k => match k with
  | 0 => ("OriginRules$Lands", "joined", "[I", true)
  | 1 => ("OriginRules$Lands", "pairs", "I", false)
  | _ => ("OriginRules$Lands", "isFull", "Z", false)
def t_Lands : Nat → FieldType := fun k => match k with
  | 0 => .array .int
  | 1 => .int
  | _ => .boolean
theorem n_Lands : ∀ a, a < 3 → ∀ b, b < 3 → a ≠ b → (F_Lands a).2.1 ≠ (F_Lands b).2.1 := by decide +kernel
theorem t_Lands_ok : ∀ k, k < 3 → parseFieldDescriptor (F_Lands k).2.2.1 = some (t_Lands k) := by decide +kernel
def F_Proofs : u_T := fun k => match k with
  | 0 => ("OriginRules$Proofs", "kinds", "[I", true)
  | 1 => ("OriginRules$Proofs", "firstDays", "[I", true)
  | 2 => ("OriginRules$Proofs", "lastDays", "[I", true)
  | _ => ("OriginRules$Proofs", "size", "I", false)
def t_Proofs : Nat → FieldType := fun k => match k with
  | 0 => .array .int
  | 1 => .array .int
  | 2 => .array .int
  | _ => .int
theorem n_Proofs : ∀ a, a < 4 → ∀ b, b < 4 → a ≠ b → (F_Proofs a).2.1 ≠ (F_Proofs b).2.1 := by decide +kernel
theorem t_Proofs_ok : ∀ k, k < 4 → parseFieldDescriptor (F_Proofs k).2.2.1 = some (t_Proofs k) := by decide +kernel
def F_Md : u_T := fun k => match k with
  | 0 => ("OriginRulesModel", "thrown", "I", false)
  | 1 => ("OriginRulesModel", "text", "[I", true)
  | 2 => ("OriginRulesModel", "signs", "I", false)
  | 3 => ("OriginRulesModel", "read", "[I", true)
  | 4 => ("OriginRulesModel", "begins", "[I", true)
  | 5 => ("OriginRulesModel", "rows", "I", false)
  | 6 => ("OriginRulesModel", "tried", "[I", true)
  | 7 => ("OriginRulesModel", "parts", "I", false)
  | 8 => ("OriginRulesModel", "partCode", "[I", true)
  | 9 => ("OriginRulesModel", "partLand", "[I", true)
  | 10 => ("OriginRulesModel", "partCents", "[J", true)
  | 11 => ("OriginRulesModel", "done", "I", false)
  | 12 => ("OriginRulesModel", "barred", "I", false)
  | 13 => ("OriginRulesModel", "joined", "[Z", true)
  | 14 => ("OriginRulesModel", "pairs", "I", false)
  | 15 => ("OriginRulesModel", "full", "Z", false)
  | 16 => ("OriginRulesModel", "up", "I", false)
  | 17 => ("OriginRulesModel", "down", "I", false)
  | 18 => ("OriginRulesModel", "proofs", "I", false)
  | 19 => ("OriginRulesModel", "proofKind", "[I", true)
  | 20 => ("OriginRulesModel", "proofFrom", "[I", true)
  | 21 => ("OriginRulesModel", "proofTo", "[I", true)
  | 22 => ("OriginRulesModel", "asked", "I", false)
  | 23 => ("OriginRulesModel", "told", "[I", true)
  | 24 => ("OriginRulesModel", "live", "[Z", true)
  | 25 => ("OriginRulesModel", "any", "[Z", true)
  | _ => ("OriginRulesModel", "all", "[Z", true)
def t_Md : Nat → FieldType := fun k => match k with
  | 0 => .int
  | 1 => .array .int
  | 2 => .int
  | 3 => .array .int
  | 4 => .array .int
  | 5 => .int
  | 6 => .array .int
  | 7 => .int
  | 8 => .array .int
  | 9 => .array .int
  | 10 => .array .long
  | 11 => .int
  | 12 => .int
  | 13 => .array .boolean
  | 14 => .int
  | 15 => .boolean
  | 16 => .int
  | 17 => .int
  | 18 => .int
  | 19 => .array .int
  | 20 => .array .int
  | 21 => .array .int
  | 22 => .int
  | 23 => .array .int
  | 24 => .array .boolean
  | 25 => .array .boolean
  | _ => .array .boolean
theorem n_Md : ∀ a, a < 27 → ∀ b, b < 27 → a ≠ b → (F_Md a).2.1 ≠ (F_Md b).2.1 := by decide +kernel
theorem t_Md_ok : ∀ k, k < 27 → parseFieldDescriptor (F_Md k).2.2.1 = some (t_Md k) := by decide +kernel
abbrev classes : List vw_C := [(R_Or, F_Or, 11), (R_Text, F_Text, 3), (R_Rows, F_Rows, 3), (R_Parts, F_Parts, 4), (R_Lands, F_Lands, 3), (R_Proofs, F_Proofs, 4), (R_Md, F_Md, 27)]
abbrev b_Or_init : ByteArray := prog_1_method_1_code
def y_Or_init : MethodName := ⟨R_Or, "<init>", "()V"⟩
abbrev b_Or_sign : ByteArray := prog_1_method_2_code
def y_Or_sign : MethodName := ⟨R_Or, "sign", "(I)Z"⟩
abbrev b_Or_read : ByteArray := prog_1_method_3_code
def y_Or_read : MethodName := ⟨R_Or, "read", "()I"⟩
abbrev b_Or_part : ByteArray := prog_1_method_4_code
def y_Or_part : MethodName := ⟨R_Or, "part", "(IIJ)I"⟩
abbrev b_Or_clear : ByteArray := prog_1_method_5_code
def y_Or_clear : MethodName := ⟨R_Or, "clear", "()I"⟩
abbrev b_Or_process : ByteArray := prog_1_method_6_code
def y_Or_process : MethodName := ⟨R_Or, "process", "(I)Z"⟩
abbrev b_Or_bar : ByteArray := prog_1_method_7_code
def y_Or_bar : MethodName := ⟨R_Or, "bar", "(IZ)Z"⟩
abbrev b_Or_join : ByteArray := prog_1_method_8_code
def y_Or_join : MethodName := ⟨R_Or, "join", "(II)I"⟩
abbrev b_Or_full : ByteArray := prog_1_method_9_code
def y_Or_full : MethodName := ⟨R_Or, "full", "(Z)Z"⟩
abbrev b_Or_tolerance : ByteArray := prog_1_method_10_code
def y_Or_tolerance : MethodName := ⟨R_Or, "tolerance", "(II)Z"⟩
abbrev b_Or_verdict : ByteArray := prog_1_method_11_code
def y_Or_verdict : MethodName := ⟨R_Or, "verdict", "(IJ)I"⟩
abbrev b_Or_why : ByteArray := prog_1_method_12_code
def y_Or_why : MethodName := ⟨R_Or, "why", "(I)I"⟩
abbrev b_Or_share : ByteArray := prog_1_method_13_code
def y_Or_share : MethodName := ⟨R_Or, "share", "(JI)J"⟩
abbrev b_Or_proof : ByteArray := prog_1_method_14_code
def y_Or_proof : MethodName := ⟨R_Or, "proof", "(III)I"⟩
abbrev b_Or_good : ByteArray := prog_1_method_15_code
def y_Or_good : MethodName := ⟨R_Or, "good", "(IJI)Z"⟩
abbrev b_Or_own : ByteArray := prog_1_method_16_code
def y_Or_own : MethodName := ⟨R_Or, "own", "(I)Z"⟩
abbrev b_Or_count : ByteArray := prog_1_method_17_code
def y_Or_count : MethodName := ⟨R_Or, "count", "(I)I"⟩
abbrev b_Or_ruleHolds : ByteArray := prog_1_method_18_code
def y_Or_ruleHolds : MethodName := ⟨R_Or, "ruleHolds", "(IIJ)Z"⟩
abbrev b_Or_keepAnswer : ByteArray := prog_1_method_19_code
def y_Or_keepAnswer : MethodName := ⟨R_Or, "keepAnswer", "(IZ)V"⟩
abbrev b_Or_factorHolds : ByteArray := prog_1_method_20_code
def y_Or_factorHolds : MethodName := ⟨R_Or, "factorHolds", "(IIJ)Z"⟩
abbrev b_Or_isChanged : ByteArray := prog_1_method_21_code
def y_Or_isChanged : MethodName := ⟨R_Or, "isChanged", "(IIJ)Z"⟩
abbrev b_Or_isShareWithin : ByteArray := prog_1_method_22_code
def y_Or_isShareWithin : MethodName := ⟨R_Or, "isShareWithin", "(IJ)Z"⟩
abbrev b_Or_isCode : ByteArray := prog_1_method_23_code
def y_Or_isCode : MethodName := ⟨R_Or, "isCode", "(I)Z"⟩
abbrev b_Or_isLand : ByteArray := prog_1_method_24_code
def y_Or_isLand : MethodName := ⟨R_Or, "isLand", "(I)Z"⟩
abbrev b_Or_isCents : ByteArray := prog_1_method_25_code
def y_Or_isCents : MethodName := ⟨R_Or, "isCents", "(J)Z"⟩
abbrev b_Or_isProcess : ByteArray := prog_1_method_26_code
def y_Or_isProcess : MethodName := ⟨R_Or, "isProcess", "(I)Z"⟩
abbrev b_Or_isDay : ByteArray := prog_1_method_27_code
def y_Or_isDay : MethodName := ⟨R_Or, "isDay", "(I)Z"⟩
abbrev b_Or_isDigit : ByteArray := prog_1_method_28_code
def y_Or_isDigit : MethodName := ⟨R_Or, "isDigit", "(C)Z"⟩
abbrev b_Or_isLetter : ByteArray := prog_1_method_29_code
def y_Or_isLetter : MethodName := ⟨R_Or, "isLetter", "(C)Z"⟩
abbrev b_Or_hasBit : ByteArray := prog_1_method_30_code
def y_Or_hasBit : MethodName := ⟨R_Or, "hasBit", "(II)Z"⟩
abbrev b_Or_beginning : ByteArray := prog_1_method_31_code
def y_Or_beginning : MethodName := ⟨R_Or, "beginning", "(II)I"⟩
abbrev b_Or_greatestDivisor : ByteArray := prog_1_method_32_code
def y_Or_greatestDivisor : MethodName := ⟨R_Or, "greatestDivisor", "(JJ)J"⟩
abbrev b_Text_init : ByteArray := prog_6_method_1_code
def y_Text_init : MethodName := ⟨R_Text, "<init>", "()V"⟩
abbrev b_Text_add : ByteArray := prog_6_method_2_code
def y_Text_add : MethodName := ⟨R_Text, "add", "(C)V"⟩
abbrev b_Text_rowsOrWrongPlace : ByteArray := prog_6_method_3_code
def y_Text_rowsOrWrongPlace : MethodName := ⟨R_Text, "rowsOrWrongPlace", "()I"⟩
abbrev b_Text_passesRow : ByteArray := prog_6_method_4_code
def y_Text_passesRow : MethodName := ⟨R_Text, "passesRow", "()Z"⟩
abbrev b_Text_passesRule : ByteArray := prog_6_method_5_code
def y_Text_passesRule : MethodName := ⟨R_Text, "passesRule", "()Z"⟩
abbrev b_Text_passesFactor : ByteArray := prog_6_method_6_code
def y_Text_passesFactor : MethodName := ⟨R_Text, "passesFactor", "()Z"⟩
abbrev b_Text_passesDigits : ByteArray := prog_6_method_7_code
def y_Text_passesDigits : MethodName := ⟨R_Text, "passesDigits", "(II)Z"⟩
abbrev b_Text_passesSign : ByteArray := prog_6_method_8_code
def y_Text_passesSign : MethodName := ⟨R_Text, "passesSign", "(C)Z"⟩
abbrev b_Rows_init : ByteArray := prog_5_method_1_code
def y_Rows_init : MethodName := ⟨R_Rows, "<init>", "()V"⟩
abbrev b_Rows_replace : ByteArray := prog_5_method_2_code
def y_Rows_replace : MethodName := ⟨R_Rows, "replace", "([CII)V"⟩
abbrev b_Rows_startFor : ByteArray := prog_5_method_3_code
def y_Rows_startFor : MethodName := ⟨R_Rows, "startFor", "(I)I"⟩
abbrev b_Rows_numberAt : ByteArray := prog_5_method_4_code
def y_Rows_numberAt : MethodName := ⟨R_Rows, "numberAt", "(I)I"⟩
abbrev b_Parts_init : ByteArray := prog_3_method_1_code
def y_Parts_init : MethodName := ⟨R_Parts, "<init>", "()V"⟩
abbrev b_Parts_add : ByteArray := prog_3_method_2_code
def y_Parts_add : MethodName := ⟨R_Parts, "add", "(IIJ)I"⟩
abbrev b_Parts_forget : ByteArray := prog_3_method_3_code
def y_Parts_forget : MethodName := ⟨R_Parts, "forget", "()I"⟩
abbrev b_Parts_foreignParts : ByteArray := prog_3_method_4_code
def y_Parts_foreignParts : MethodName := ⟨R_Parts, "foreignParts", "(I)I"⟩
abbrev b_Parts_foreignCents : ByteArray := prog_3_method_5_code
def y_Parts_foreignCents : MethodName := ⟨R_Parts, "foreignCents", "(I)J"⟩
abbrev b_Parts_foreignCentsAlike : ByteArray := prog_3_method_6_code
def y_Parts_foreignCentsAlike : MethodName := ⟨R_Parts, "foreignCentsAlike", "(III)J"⟩
abbrev b_Lands_init : ByteArray := prog_2_method_1_code
def y_Lands_init : MethodName := ⟨R_Lands, "<init>", "()V"⟩
abbrev b_Lands_addPair : ByteArray := prog_2_method_2_code
def y_Lands_addPair : MethodName := ⟨R_Lands, "addPair", "(II)Z"⟩
abbrev b_Lands_ownLands : ByteArray := prog_2_method_3_code
def y_Lands_ownLands : MethodName := ⟨R_Lands, "ownLands", "()I"⟩
abbrev b_Proofs_init : ByteArray := prog_4_method_1_code
def y_Proofs_init : MethodName := ⟨R_Proofs, "<init>", "()V"⟩
abbrev b_Proofs_add : ByteArray := prog_4_method_2_code
def y_Proofs_add : MethodName := ⟨R_Proofs, "add", "(III)I"⟩
abbrev b_Proofs_isGood : ByteArray := prog_4_method_3_code
def y_Proofs_isGood : MethodName := ⟨R_Proofs, "isGood", "(IJI)Z"⟩
abbrev b_Md_init : ByteArray := prog_8_method_1_code
def y_Md_init : MethodName := ⟨R_Md, "<init>", "()V"⟩
abbrev b_Md_thrown : ByteArray := prog_8_method_2_code
def y_Md_thrown : MethodName := ⟨R_Md, "thrown", "()I"⟩
abbrev b_Md_refuse : ByteArray := prog_8_method_3_code
def y_Md_refuse : MethodName := ⟨R_Md, "refuse", "(I)I"⟩
abbrev b_Md_in : ByteArray := prog_8_method_4_code
def y_Md_in : MethodName := ⟨R_Md, "in", "(JJJ)Z"⟩
abbrev b_Md_isDigit : ByteArray := prog_8_method_5_code
def y_Md_isDigit : MethodName := ⟨R_Md, "isDigit", "(I)Z"⟩
abbrev b_Md_sign : ByteArray := prog_8_method_6_code
def y_Md_sign : MethodName := ⟨R_Md, "sign", "(I)Z"⟩
abbrev b_Md_behind : ByteArray := prog_8_method_7_code
def y_Md_behind : MethodName := ⟨R_Md, "behind", "(II)I"⟩
abbrev b_Md_ahead : ByteArray := prog_8_method_8_code
def y_Md_ahead : MethodName := ⟨R_Md, "ahead", "(II)I"⟩
abbrev b_Md_read : ByteArray := prog_8_method_9_code
def y_Md_read : MethodName := ⟨R_Md, "read", "()I"⟩
abbrev b_Md_begin : ByteArray := prog_8_method_10_code
def y_Md_begin : MethodName := ⟨R_Md, "begin", "(II)I"⟩
abbrev b_Md_rowOf : ByteArray := prog_8_method_11_code
def y_Md_rowOf : MethodName := ⟨R_Md, "rowOf", "(I)I"⟩
abbrev b_Md_part : ByteArray := prog_8_method_12_code
def y_Md_part : MethodName := ⟨R_Md, "part", "(IIJ)I"⟩
abbrev b_Md_clear : ByteArray := prog_8_method_13_code
def y_Md_clear : MethodName := ⟨R_Md, "clear", "()I"⟩
abbrev b_Md_process : ByteArray := prog_8_method_14_code
def y_Md_process : MethodName := ⟨R_Md, "process", "(I)Z"⟩
abbrev b_Md_bar : ByteArray := prog_8_method_15_code
def y_Md_bar : MethodName := ⟨R_Md, "bar", "(IZ)Z"⟩
abbrev b_Md_join : ByteArray := prog_8_method_16_code
def y_Md_join : MethodName := ⟨R_Md, "join", "(II)I"⟩
abbrev b_Md_full : ByteArray := prog_8_method_17_code
def y_Md_full : MethodName := ⟨R_Md, "full", "(Z)Z"⟩
abbrev b_Md_tolerance : ByteArray := prog_8_method_18_code
def y_Md_tolerance : MethodName := ⟨R_Md, "tolerance", "(II)Z"⟩
abbrev b_Md_isOwn : ByteArray := prog_8_method_19_code
def y_Md_isOwn : MethodName := ⟨R_Md, "isOwn", "(I)Z"⟩
abbrev b_Md_own : ByteArray := prog_8_method_20_code
def y_Md_own : MethodName := ⟨R_Md, "own", "(I)Z"⟩
abbrev b_Md_foreign : ByteArray := prog_8_method_21_code
def y_Md_foreign : MethodName := ⟨R_Md, "foreign", "()J"⟩
abbrev b_Md_isOther : ByteArray := prog_8_method_22_code
def y_Md_isOther : MethodName := ⟨R_Md, "isOther", "(IJI)Z"⟩
abbrev b_Md_numberAt : ByteArray := prog_8_method_23_code
def y_Md_numberAt : MethodName := ⟨R_Md, "numberAt", "(I)I"⟩
abbrev b_Md_holds : ByteArray := prog_8_method_24_code
def y_Md_holds : MethodName := ⟨R_Md, "holds", "(IIJ)Z"⟩
abbrev b_Md_ruled : ByteArray := prog_8_method_25_code
def y_Md_ruled : MethodName := ⟨R_Md, "ruled", "(IIJ)Z"⟩
abbrev b_Md_verdict : ByteArray := prog_8_method_26_code
def y_Md_verdict : MethodName := ⟨R_Md, "verdict", "(IJ)I"⟩
abbrev b_Md_why : ByteArray := prog_8_method_27_code
def y_Md_why : MethodName := ⟨R_Md, "why", "(I)I"⟩
abbrev b_Md_share : ByteArray := prog_8_method_28_code
def y_Md_share : MethodName := ⟨R_Md, "share", "(JI)J"⟩
abbrev b_Md_isDay : ByteArray := prog_8_method_29_code
def y_Md_isDay : MethodName := ⟨R_Md, "isDay", "(I)Z"⟩
abbrev b_Md_proof : ByteArray := prog_8_method_30_code
def y_Md_proof : MethodName := ⟨R_Md, "proof", "(III)I"⟩
abbrev b_Md_good : ByteArray := prog_8_method_31_code
def y_Md_good : MethodName := ⟨R_Md, "good", "(IJI)Z"⟩
abbrev b_Md_count : ByteArray := prog_8_method_32_code
def y_Md_count : MethodName := ⟨R_Md, "count", "(I)I"⟩
abbrev b_Law_part : ByteArray := method_3_code
def y_Law_part : MethodName := ⟨R_Law, "part", "(LOriginRules;IIJ[J)I"⟩
abbrev b_Law_join : ByteArray := method_4_code
def y_Law_join : MethodName := ⟨R_Law, "join", "(LOriginRules;II[J)I"⟩
abbrev b_Law_verdict : ByteArray := method_5_code
def y_Law_verdict : MethodName := ⟨R_Law, "verdict", "(LOriginRules;IJ[J)I"⟩
abbrev b_Law_share : ByteArray := method_6_code
def y_Law_share : MethodName := ⟨R_Law, "share", "(LOriginRules;JI[J)I"⟩
abbrev b_Law_proof : ByteArray := method_7_code
def y_Law_proof : MethodName := ⟨R_Law, "proof", "(LOriginRules;III[J)I"⟩
abbrev b_Law_good : ByteArray := method_8_code
def y_Law_good : MethodName := ⟨R_Law, "good", "(LOriginRules;IJI[J)I"⟩
abbrev b_Law_own : ByteArray := method_9_code
def y_Law_own : MethodName := ⟨R_Law, "own", "(LOriginRules;I[J)I"⟩
def NL : List Cond := [Cond.fieldLinkNest R_Or 191 R_Rows "signs" "[C" R_Or, Cond.fieldLinkNest R_Or 101 R_Parts "size" "I" R_Or, Cond.fieldLinkNest R_Or 190 R_Rows "length" "I" R_Or, Cond.fieldLinkNest R_Or 64 R_Text "length" "I" R_Or, Cond.fieldLinkNest R_Or 75 R_Text "signs" "[C" R_Or, Cond.fieldLinkNest R_Or 127 R_Lands "isFull" "Z" R_Or, Cond.fieldLinkNest R_Or 183 R_Rows "size" "I" R_Or, Cond.fieldLinkNest R_Or 187 R_Lands "pairs" "I" R_Or, Cond.fieldLinkNest R_Or 169 R_Proofs "size" "I" R_Or, Cond.methodLinkNest R_Text 41 y_Or_isDigit R_Or, Cond.methodLinkNest R_Rows 36 y_Or_isDigit R_Or, Cond.methodLinkNest R_Rows 28 y_Or_beginning R_Or, Cond.methodLinkNest R_Parts 26 y_Or_hasBit R_Or, Cond.methodLinkNest R_Parts 30 y_Or_beginning R_Or, Cond.methodLinkNest R_Lands 23 y_Or_hasBit R_Or, Cond.methodLinkNest R_Or 9 y_Text_init R_Or, Cond.methodLinkNest R_Or 18 y_Rows_init R_Or, Cond.methodLinkNest R_Or 25 y_Parts_init R_Or, Cond.methodLinkNest R_Or 32 y_Lands_init R_Or, Cond.methodLinkNest R_Or 39 y_Proofs_init R_Or]
def isNest : Cond → Bool
  | .fieldLinkNest .. => true
  | .methodLinkNest .. => true
  | _ => false
theorem NL_ok : ∀ w ∈ NL, isNest w = true := by decide +kernel
theorem nl_07236010 : (Cond.fieldLinkNest R_Or 191 R_Rows "signs" "[C" R_Or) ∈ NL := List.mem_of_getElem? (i := 0) rfl
theorem nl_7ebd0f4f : (Cond.fieldLinkNest R_Or 101 R_Parts "size" "I" R_Or) ∈ NL := List.mem_of_getElem? (i := 1) rfl
theorem nl_065fcde7 : (Cond.fieldLinkNest R_Or 190 R_Rows "length" "I" R_Or) ∈ NL := List.mem_of_getElem? (i := 2) rfl
theorem nl_0894c6ac : (Cond.fieldLinkNest R_Or 64 R_Text "length" "I" R_Or) ∈ NL := List.mem_of_getElem? (i := 3) rfl
theorem nl_4f868958 : (Cond.fieldLinkNest R_Or 75 R_Text "signs" "[C" R_Or) ∈ NL := List.mem_of_getElem? (i := 4) rfl
theorem nl_99dff35d : (Cond.fieldLinkNest R_Or 127 R_Lands "isFull" "Z" R_Or) ∈ NL := List.mem_of_getElem? (i := 5) rfl
theorem nl_c18542d0 : (Cond.fieldLinkNest R_Or 183 R_Rows "size" "I" R_Or) ∈ NL := List.mem_of_getElem? (i := 6) rfl
theorem nl_08d1376b : (Cond.fieldLinkNest R_Or 187 R_Lands "pairs" "I" R_Or) ∈ NL := List.mem_of_getElem? (i := 7) rfl
theorem nl_564914ee : (Cond.fieldLinkNest R_Or 169 R_Proofs "size" "I" R_Or) ∈ NL := List.mem_of_getElem? (i := 8) rfl
theorem nl_7e6bd625 : (Cond.methodLinkNest R_Text 41 y_Or_isDigit R_Or) ∈ NL := List.mem_of_getElem? (i := 9) rfl
theorem nl_7097d630 : (Cond.methodLinkNest R_Rows 36 y_Or_isDigit R_Or) ∈ NL := List.mem_of_getElem? (i := 10) rfl
theorem nl_bae23447 : (Cond.methodLinkNest R_Rows 28 y_Or_beginning R_Or) ∈ NL := List.mem_of_getElem? (i := 11) rfl
theorem nl_6d37ef55 : (Cond.methodLinkNest R_Parts 26 y_Or_hasBit R_Or) ∈ NL := List.mem_of_getElem? (i := 12) rfl
theorem nl_82e24bf8 : (Cond.methodLinkNest R_Parts 30 y_Or_beginning R_Or) ∈ NL := List.mem_of_getElem? (i := 13) rfl
theorem nl_bc7b168b : (Cond.methodLinkNest R_Lands 23 y_Or_hasBit R_Or) ∈ NL := List.mem_of_getElem? (i := 14) rfl
theorem nl_150b9aff : (Cond.methodLinkNest R_Or 9 y_Text_init R_Or) ∈ NL := List.mem_of_getElem? (i := 15) rfl
theorem nl_6ab6feb1 : (Cond.methodLinkNest R_Or 18 y_Rows_init R_Or) ∈ NL := List.mem_of_getElem? (i := 16) rfl
theorem nl_191d04a3 : (Cond.methodLinkNest R_Or 25 y_Parts_init R_Or) ∈ NL := List.mem_of_getElem? (i := 17) rfl
theorem nl_b914422e : (Cond.methodLinkNest R_Or 32 y_Lands_init R_Or) ∈ NL := List.mem_of_getElem? (i := 18) rfl
theorem nl_693e1e15 : (Cond.methodLinkNest R_Or 39 y_Proofs_init R_Or) ∈ NL := List.mem_of_getElem? (i := 19) rfl
theorem NL_in : ∀ w ∈ NL, w ∈ lw_tbl := by decide +kernel
