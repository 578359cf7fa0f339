section
-- ===== PART A: goes FIRST, ahead of the names: the tables' words, and 'selects' of the private methods out of them =====
/-- a private method of a class that the tables say can be made, by its rows of tables_1 -/
def lw_okq (q : MethodName × Nat) : Prop := (q.1.cls ≠ "java/lang/invoke/MethodHandle" ∧ q.1.cls ≠ "java/lang/invoke/VarHandle") ∧ Cond.instantiable q.1.cls q.2 ∈ tables_1 ∧ Cond.privateMethod q.1 ∈ tables_1 ∧ Cond.instanceMethod q.1 ∈ tables_1
theorem lw_p0 : lw_okq (⟨"OriginRules$Text", "passesRow", "()Z"⟩, 3) := ⟨⟨by decide +kernel, by decide +kernel⟩, List.mem_of_getElem? (i := 25) (by decide +kernel), List.mem_of_getElem? (i := 173) (by decide +kernel), List.mem_of_getElem? (i := 174) (by decide +kernel)⟩
theorem lw_p1 : lw_okq (⟨"OriginRules$Text", "passesDigits", "(II)Z"⟩, 3) := ⟨⟨by decide +kernel, by decide +kernel⟩, List.mem_of_getElem? (i := 25) (by decide +kernel), List.mem_of_getElem? (i := 178) (by decide +kernel), List.mem_of_getElem? (i := 179) (by decide +kernel)⟩
theorem lw_p2 : lw_okq (⟨"OriginRules$Text", "passesSign", "(C)Z"⟩, 3) := ⟨⟨by decide +kernel, by decide +kernel⟩, List.mem_of_getElem? (i := 25) (by decide +kernel), List.mem_of_getElem? (i := 185) (by decide +kernel), List.mem_of_getElem? (i := 186) (by decide +kernel)⟩
theorem lw_p3 : lw_okq (⟨"OriginRules$Text", "passesRule", "()Z"⟩, 3) := ⟨⟨by decide +kernel, by decide +kernel⟩, List.mem_of_getElem? (i := 25) (by decide +kernel), List.mem_of_getElem? (i := 189) (by decide +kernel), List.mem_of_getElem? (i := 190) (by decide +kernel)⟩
theorem lw_p4 : lw_okq (⟨"OriginRules$Text", "passesFactor", "()Z"⟩, 3) := ⟨⟨by decide +kernel, by decide +kernel⟩, List.mem_of_getElem? (i := 25) (by decide +kernel), List.mem_of_getElem? (i := 193) (by decide +kernel), List.mem_of_getElem? (i := 194) (by decide +kernel)⟩
theorem lw_p5 : lw_okq (⟨"java/lang/Throwable", "fillInStackTrace", "(I)Ljava/lang/Throwable;"⟩, 6) := ⟨⟨by decide +kernel, by decide +kernel⟩, List.mem_of_getElem? (i := 310) (by decide +kernel), List.mem_of_getElem? (i := 308) (by decide +kernel), List.mem_of_getElem? (i := 309) (by decide +kernel)⟩
theorem lw_p6 : lw_okq (⟨"OriginRules", "ruleHolds", "(IIJ)Z"⟩, 11) := ⟨⟨by decide +kernel, by decide +kernel⟩, List.mem_of_getElem? (i := 17) (by decide +kernel), List.mem_of_getElem? (i := 392) (by decide +kernel), List.mem_of_getElem? (i := 393) (by decide +kernel)⟩
theorem lw_p7 : lw_okq (⟨"OriginRules", "factorHolds", "(IIJ)Z"⟩, 11) := ⟨⟨by decide +kernel, by decide +kernel⟩, List.mem_of_getElem? (i := 17) (by decide +kernel), List.mem_of_getElem? (i := 399) (by decide +kernel), List.mem_of_getElem? (i := 400) (by decide +kernel)⟩
theorem lw_p8 : lw_okq (⟨"OriginRules", "isChanged", "(IIJ)Z"⟩, 11) := ⟨⟨by decide +kernel, by decide +kernel⟩, List.mem_of_getElem? (i := 17) (by decide +kernel), List.mem_of_getElem? (i := 403) (by decide +kernel), List.mem_of_getElem? (i := 404) (by decide +kernel)⟩
theorem lw_p9 : lw_okq (⟨"OriginRules", "isShareWithin", "(IJ)Z"⟩, 11) := ⟨⟨by decide +kernel, by decide +kernel⟩, List.mem_of_getElem? (i := 17) (by decide +kernel), List.mem_of_getElem? (i := 413) (by decide +kernel), List.mem_of_getElem? (i := 414) (by decide +kernel)⟩
theorem lw_p10 : lw_okq (⟨"OriginRules", "keepAnswer", "(IZ)V"⟩, 11) := ⟨⟨by decide +kernel, by decide +kernel⟩, List.mem_of_getElem? (i := 17) (by decide +kernel), List.mem_of_getElem? (i := 422) (by decide +kernel), List.mem_of_getElem? (i := 423) (by decide +kernel)⟩
theorem lw_p11 : lw_okq (⟨"OriginRulesModel", "refuse", "(I)I"⟩, 27) := ⟨⟨by decide +kernel, by decide +kernel⟩, List.mem_of_getElem? (i := 495) (by decide +kernel), List.mem_of_getElem? (i := 617) (by decide +kernel), List.mem_of_getElem? (i := 618) (by decide +kernel)⟩
theorem lw_p12 : lw_okq (⟨"OriginRulesModel", "isOwn", "(I)Z"⟩, 27) := ⟨⟨by decide +kernel, by decide +kernel⟩, List.mem_of_getElem? (i := 495) (by decide +kernel), List.mem_of_getElem? (i := 651) (by decide +kernel), List.mem_of_getElem? (i := 652) (by decide +kernel)⟩
theorem lw_p13 : lw_okq (⟨"OriginRulesModel", "rowOf", "(I)I"⟩, 27) := ⟨⟨by decide +kernel, by decide +kernel⟩, List.mem_of_getElem? (i := 495) (by decide +kernel), List.mem_of_getElem? (i := 659) (by decide +kernel), List.mem_of_getElem? (i := 660) (by decide +kernel)⟩
theorem lw_p14 : lw_okq (⟨"OriginRulesModel", "begin", "(II)I"⟩, 27) := ⟨⟨by decide +kernel, by decide +kernel⟩, List.mem_of_getElem? (i := 495) (by decide +kernel), List.mem_of_getElem? (i := 663) (by decide +kernel), List.mem_of_getElem? (i := 664) (by decide +kernel)⟩
theorem lw_p15 : lw_okq (⟨"OriginRulesModel", "ruled", "(IIJ)Z"⟩, 27) := ⟨⟨by decide +kernel, by decide +kernel⟩, List.mem_of_getElem? (i := 495) (by decide +kernel), List.mem_of_getElem? (i := 668) (by decide +kernel), List.mem_of_getElem? (i := 669) (by decide +kernel)⟩
def lw_privs_1 : List (MethodName × Nat) := [(⟨"OriginRules$Text", "passesRow", "()Z"⟩, 3), (⟨"OriginRules$Text", "passesDigits", "(II)Z"⟩, 3), (⟨"OriginRules$Text", "passesSign", "(C)Z"⟩, 3), (⟨"OriginRules$Text", "passesRule", "()Z"⟩, 3), (⟨"OriginRules$Text", "passesFactor", "()Z"⟩, 3), (⟨"java/lang/Throwable", "fillInStackTrace", "(I)Ljava/lang/Throwable;"⟩, 6), (⟨"OriginRules", "ruleHolds", "(IIJ)Z"⟩, 11), (⟨"OriginRules", "factorHolds", "(IIJ)Z"⟩, 11), (⟨"OriginRules", "isChanged", "(IIJ)Z"⟩, 11), (⟨"OriginRules", "isShareWithin", "(IJ)Z"⟩, 11), (⟨"OriginRules", "keepAnswer", "(IZ)V"⟩, 11), (⟨"OriginRulesModel", "refuse", "(I)I"⟩, 27), (⟨"OriginRulesModel", "isOwn", "(I)Z"⟩, 27), (⟨"OriginRulesModel", "rowOf", "(I)I"⟩, 27), (⟨"OriginRulesModel", "begin", "(II)I"⟩, 27), (⟨"OriginRulesModel", "ruled", "(IIJ)Z"⟩, 27)]
theorem lw_r1 : ∀ q ∈ lw_privs_1, lw_okq q := List.forall_mem_cons.mpr ⟨lw_p0, List.forall_mem_cons.mpr ⟨lw_p1, List.forall_mem_cons.mpr ⟨lw_p2, List.forall_mem_cons.mpr ⟨lw_p3, List.forall_mem_cons.mpr ⟨lw_p4, List.forall_mem_cons.mpr ⟨lw_p5, List.forall_mem_cons.mpr ⟨lw_p6, List.forall_mem_cons.mpr ⟨lw_p7, List.forall_mem_cons.mpr ⟨lw_p8, List.forall_mem_cons.mpr ⟨lw_p9, List.forall_mem_cons.mpr ⟨lw_p10, List.forall_mem_cons.mpr ⟨lw_p11, List.forall_mem_cons.mpr ⟨lw_p12, List.forall_mem_cons.mpr ⟨lw_p13, List.forall_mem_cons.mpr ⟨lw_p14, List.forall_mem_cons.mpr ⟨lw_p15, fun _ h => absurd h List.not_mem_nil⟩⟩⟩⟩⟩⟩⟩⟩⟩⟩⟩⟩⟩⟩⟩⟩
theorem lw_p16 : lw_okq (⟨"OriginRulesModel", "holds", "(IIJ)Z"⟩, 27) := ⟨⟨by decide +kernel, by decide +kernel⟩, List.mem_of_getElem? (i := 495) (by decide +kernel), List.mem_of_getElem? (i := 672) (by decide +kernel), List.mem_of_getElem? (i := 673) (by decide +kernel)⟩
theorem lw_p17 : lw_okq (⟨"OriginRulesModel", "isOther", "(IJI)Z"⟩, 27) := ⟨⟨by decide +kernel, by decide +kernel⟩, List.mem_of_getElem? (i := 495) (by decide +kernel), List.mem_of_getElem? (i := 676) (by decide +kernel), List.mem_of_getElem? (i := 677) (by decide +kernel)⟩
theorem lw_p18 : lw_okq (⟨"OriginRulesModel", "foreign", "()J"⟩, 27) := ⟨⟨by decide +kernel, by decide +kernel⟩, List.mem_of_getElem? (i := 495) (by decide +kernel), List.mem_of_getElem? (i := 681) (by decide +kernel), List.mem_of_getElem? (i := 682) (by decide +kernel)⟩
theorem lw_p19 : lw_okq (⟨"OriginRulesModel", "numberAt", "(I)I"⟩, 27) := ⟨⟨by decide +kernel, by decide +kernel⟩, List.mem_of_getElem? (i := 495) (by decide +kernel), List.mem_of_getElem? (i := 685) (by decide +kernel), List.mem_of_getElem? (i := 686) (by decide +kernel)⟩
def lw_privs_2 : List (MethodName × Nat) := [(⟨"OriginRulesModel", "holds", "(IIJ)Z"⟩, 27), (⟨"OriginRulesModel", "isOther", "(IJI)Z"⟩, 27), (⟨"OriginRulesModel", "foreign", "()J"⟩, 27), (⟨"OriginRulesModel", "numberAt", "(I)I"⟩, 27)]
theorem lw_r2 : ∀ q ∈ lw_privs_2, lw_okq q := List.forall_mem_cons.mpr ⟨lw_p16, List.forall_mem_cons.mpr ⟨lw_p17, List.forall_mem_cons.mpr ⟨lw_p18, List.forall_mem_cons.mpr ⟨lw_p19, fun _ h => absurd h List.not_mem_nil⟩⟩⟩⟩
def lw_privs : List (MethodName × Nat) := lw_privs_1 ++ (lw_privs_2)
def lw_tbl : List Cond := k2_sels lw_privs ++ tables_1
theorem lw_privs_ok : ∀ q ∈ lw_privs, lw_okq q := by
  show ∀ q ∈ lw_privs_1 ++ (lw_privs_2), lw_okq q
  exact List.forall_mem_append.mpr ⟨lw_r1, lw_r2⟩
end
section
def R_Or : String := "OriginRules"
def R_Text : String := "OriginRules$Text"
def R_Rows : String := "OriginRules$Rows"
def R_Parts : String := "OriginRules$Parts"
def R_Lands : String := "OriginRules$Lands"
def R_Proofs : String := "OriginRules$Proofs"
def R_Md : String := "OriginRulesModel"
def R_Law : String := "OriginRulesLaw"
def F_Or : u_T := fun k => match k with
  | 0 => ("OriginRules", "text", "LOriginRules$Text;", true)
  | 1 => ("OriginRules", "rows", "LOriginRules$Rows;", true)
  | 2 => ("OriginRules", "parts", "LOriginRules$Parts;", true)
  | 3 => ("OriginRules", "lands", "LOriginRules$Lands;", true)
  | 4 => ("OriginRules", "proofs", "LOriginRules$Proofs;", true)
  | 5 => ("OriginRules", "processesDone", "I", false)
  | 6 => ("OriginRules", "processesBarred", "I", false)
  | 7 => ("OriginRules", "toleranceUp", "I", false)
  | 8 => ("OriginRules", "toleranceDown", "I", false)
  | 9 => ("OriginRules", "answers", "[I", true)
  | _ => ("OriginRules", "asked", "I", false)
def t_Or : Nat → FieldType := fun k => match k with
  | 0 => .object "OriginRules$Text"
  | 1 => .object "OriginRules$Rows"
  | 2 => .object "OriginRules$Parts"
  | 3 => .object "OriginRules$Lands"
  | 4 => .object "OriginRules$Proofs"
  | 5 => .int
  | 6 => .int
  | 7 => .int
  | 8 => .int
  | 9 => .array .int
  | _ => .int
theorem n_Or : ∀ a, a < 11 → ∀ b, b < 11 → a ≠ b → (F_Or a).2.1 ≠ (F_Or b).2.1 := by decide +kernel
theorem t_Or_ok : ∀ k, k < 11 → parseFieldDescriptor (F_Or k).2.2.1 = some (t_Or k) := by decide +kernel
def F_Text : u_T := fun k => match k with
  | 0 => ("OriginRules$Text", "signs", "[C", true)
  | 1 => ("OriginRules$Text", "length", "I", false)
  | _ => ("OriginRules$Text", "place", "I", false)
def t_Text : Nat → FieldType := fun k => match k with
  | 0 => .array .char
  | 1 => .int
  | _ => .int
theorem n_Text : ∀ a, a < 3 → ∀ b, b < 3 → a ≠ b → (F_Text a).2.1 ≠ (F_Text b).2.1 := by decide +kernel
theorem t_Text_ok : ∀ k, k < 3 → parseFieldDescriptor (F_Text k).2.2.1 = some (t_Text k) := by decide +kernel
def F_Rows : u_T := fun k => match k with
  | 0 => ("OriginRules$Rows", "signs", "[C", true)
  | 1 => ("OriginRules$Rows", "length", "I", false)
  | _ => ("OriginRules$Rows", "size", "I", false)
def t_Rows : Nat → FieldType := fun k => match k with
  | 0 => .array .char
  | 1 => .int
  | _ => .int
theorem n_Rows : ∀ a, a < 3 → ∀ b, b < 3 → a ≠ b → (F_Rows a).2.1 ≠ (F_Rows b).2.1 := by decide +kernel
theorem t_Rows_ok : ∀ k, k < 3 → parseFieldDescriptor (F_Rows k).2.2.1 = some (t_Rows k) := by decide +kernel
def F_Parts : u_T := fun k => match k with
  | 0 => ("OriginRules$Parts", "codes", "[I", true)
  | 1 => ("OriginRules$Parts", "landOf", "[I", true)
  | 2 => ("OriginRules$Parts", "centsOf", "[J", true)
  | _ => ("OriginRules$Parts", "size", "I", false)
def t_Parts : Nat → FieldType := fun k => match k with
  | 0 => .array .int
  | 1 => .array .int
  | 2 => .array .long
  | _ => .int
theorem n_Parts : ∀ a, a < 4 → ∀ b, b < 4 → a ≠ b → (F_Parts a).2.1 ≠ (F_Parts b).2.1 := by decide +kernel
theorem t_Parts_ok : ∀ k, k < 4 → parseFieldDescriptor (F_Parts k).2.2.1 = some (t_Parts k) := by decide +kernel
def F_Lands : u_T := fun k => match k with
  | 0 => ("OriginRules$Lands", "joined", "[I", true)
  | 1 => ("OriginRules$Lands", "pairs", "I", false)
  | _ => ("OriginRules$Lands", "isFull", "Z", false)
def t_Lands : Nat → FieldType := fun k => match k with
  | 0 => .array .int
  | 1 => .int
  | _ => .boolean
theorem n_Lands : ∀ a, a < 3 → ∀ b, b < 3 → a ≠ b → (F_Lands a).2.1 ≠ (F_Lands b).2.1 := by decide +kernel
theorem t_Lands_ok : ∀ k, k < 3 → parseFieldDescriptor (F_Lands k).2.2.1 = some (t_Lands k) := by decide +kernel
def F_Proofs : u_T := fun k => match k with
  | 0 => ("OriginRules$Proofs", "kinds", "[I", true)
  | 1 => ("OriginRules$Proofs", "firstDays", "[I", true)
  | 2 => ("OriginRules$Proofs", "lastDays", "[I", true)
  | _ => ("OriginRules$Proofs", "size", "I", false)
def t_Proofs : Nat → FieldType := fun k => match k with
  | 0 => .array .int
  | 1 => .array .int
  | 2 => .array .int
  | _ => .int
theorem n_Proofs : ∀ a, a < 4 → ∀ b, b < 4 → a ≠ b → (F_Proofs a).2.1 ≠ (F_Proofs b).2.1 := by decide +kernel
theorem t_Proofs_ok : ∀ k, k < 4 → parseFieldDescriptor (F_Proofs k).2.2.1 = some (t_Proofs k) := by decide +kernel
def F_Md : u_T := fun k => match k with
  | 0 => ("OriginRulesModel", "thrown", "I", false)
  | 1 => ("OriginRulesModel", "text", "[I", true)
  | 2 => ("OriginRulesModel", "signs", "I", false)
  | 3 => ("OriginRulesModel", "read", "[I", true)
  | 4 => ("OriginRulesModel", "begins", "[I", true)
  | 5 => ("OriginRulesModel", "rows", "I", false)
  | 6 => ("OriginRulesModel", "tried", "[I", true)
  | 7 => ("OriginRulesModel", "parts", "I", false)
  | 8 => ("OriginRulesModel", "partCode", "[I", true)
  | 9 => ("OriginRulesModel", "partLand", "[I", true)
  | 10 => ("OriginRulesModel", "partCents", "[J", true)
  | 11 => ("OriginRulesModel", "done", "I", false)
  | 12 => ("OriginRulesModel", "barred", "I", false)
  | 13 => ("OriginRulesModel", "joined", "[Z", true)
  | 14 => ("OriginRulesModel", "pairs", "I", false)
  | 15 => ("OriginRulesModel", "full", "Z", false)
  | 16 => ("OriginRulesModel", "up", "I", false)
  | 17 => ("OriginRulesModel", "down", "I", false)
  | 18 => ("OriginRulesModel", "proofs", "I", false)
  | 19 => ("OriginRulesModel", "proofKind", "[I", true)
  | 20 => ("OriginRulesModel", "proofFrom", "[I", true)
  | 21 => ("OriginRulesModel", "proofTo", "[I", true)
  | 22 => ("OriginRulesModel", "asked", "I", false)
  | 23 => ("OriginRulesModel", "told", "[I", true)
  | 24 => ("OriginRulesModel", "live", "[Z", true)
  | 25 => ("OriginRulesModel", "any", "[Z", true)
  | _ => ("OriginRulesModel", "all", "[Z", true)
def t_Md : Nat → FieldType := fun k => match k with
  | 0 => .int
  | 1 => .array .int
  | 2 => .int
  | 3 => .array .int
  | 4 => .array .int
  | 5 => .int
  | 6 => .array .int
  | 7 => .int
  | 8 => .array .int
  | 9 => .array .int
  | 10 => .array .long
  | 11 => .int
  | 12 => .int
  | 13 => .array .boolean
  | 14 => .int
  | 15 => .boolean
  | 16 => .int
  | 17 => .int
  | 18 => .int
  | 19 => .array .int
  | 20 => .array .int
  | 21 => .array .int
  | 22 => .int
  | 23 => .array .int
  | 24 => .array .boolean
  | 25 => .array .boolean
  | _ => .array .boolean
theorem n_Md : ∀ a, a < 27 → ∀ b, b < 27 → a ≠ b → (F_Md a).2.1 ≠ (F_Md b).2.1 := by decide +kernel
theorem t_Md_ok : ∀ k, k < 27 → parseFieldDescriptor (F_Md k).2.2.1 = some (t_Md k) := by decide +kernel
abbrev classes : List vw_C := [(R_Or, F_Or, 11), (R_Text, F_Text, 3), (R_Rows, F_Rows, 3), (R_Parts, F_Parts, 4), (R_Lands, F_Lands, 3), (R_Proofs, F_Proofs, 4), (R_Md, F_Md, 27)]
abbrev b_Or_init : ByteArray := prog_1_method_1_code
def y_Or_init : MethodName := ⟨R_Or, "<init>", "()V"⟩
abbrev b_Or_sign : ByteArray := prog_1_method_2_code
def y_Or_sign : MethodName := ⟨R_Or, "sign", "(I)Z"⟩
abbrev b_Or_read : ByteArray := prog_1_method_3_code
def y_Or_read : MethodName := ⟨R_Or, "read", "()I"⟩
abbrev b_Or_part : ByteArray := prog_1_method_4_code
def y_Or_part : MethodName := ⟨R_Or, "part", "(IIJ)I"⟩
abbrev b_Or_clear : ByteArray := prog_1_method_5_code
def y_Or_clear : MethodName := ⟨R_Or, "clear", "()I"⟩
abbrev b_Or_process : ByteArray := prog_1_method_6_code
def y_Or_process : MethodName := ⟨R_Or, "process", "(I)Z"⟩
abbrev b_Or_bar : ByteArray := prog_1_method_7_code
def y_Or_bar : MethodName := ⟨R_Or, "bar", "(IZ)Z"⟩
abbrev b_Or_join : ByteArray := prog_1_method_8_code
def y_Or_join : MethodName := ⟨R_Or, "join", "(II)I"⟩
abbrev b_Or_full : ByteArray := prog_1_method_9_code
def y_Or_full : MethodName := ⟨R_Or, "full", "(Z)Z"⟩
abbrev b_Or_tolerance : ByteArray := prog_1_method_10_code
def y_Or_tolerance : MethodName := ⟨R_Or, "tolerance", "(II)Z"⟩
abbrev b_Or_verdict : ByteArray := prog_1_method_11_code
def y_Or_verdict : MethodName := ⟨R_Or, "verdict", "(IJ)I"⟩
abbrev b_Or_why : ByteArray := prog_1_method_12_code
def y_Or_why : MethodName := ⟨R_Or, "why", "(I)I"⟩
abbrev b_Or_share : ByteArray := prog_1_method_13_code
def y_Or_share : MethodName := ⟨R_Or, "share", "(JI)J"⟩
abbrev b_Or_proof : ByteArray := prog_1_method_14_code
def y_Or_proof : MethodName := ⟨R_Or, "proof", "(III)I"⟩
abbrev b_Or_good : ByteArray := prog_1_method_15_code
def y_Or_good : MethodName := ⟨R_Or, "good", "(IJI)Z"⟩
abbrev b_Or_own : ByteArray := prog_1_method_16_code
def y_Or_own : MethodName := ⟨R_Or, "own", "(I)Z"⟩
abbrev b_Or_count : ByteArray := prog_1_method_17_code
def y_Or_count : MethodName := ⟨R_Or, "count", "(I)I"⟩
abbrev b_Or_ruleHolds : ByteArray := prog_1_method_18_code
def y_Or_ruleHolds : MethodName := ⟨R_Or, "ruleHolds", "(IIJ)Z"⟩
abbrev b_Or_keepAnswer : ByteArray := prog_1_method_19_code
def y_Or_keepAnswer : MethodName := ⟨R_Or, "keepAnswer", "(IZ)V"⟩
abbrev b_Or_factorHolds : ByteArray := prog_1_method_20_code
def y_Or_factorHolds : MethodName := ⟨R_Or, "factorHolds", "(IIJ)Z"⟩
abbrev b_Or_isChanged : ByteArray := prog_1_method_21_code
def y_Or_isChanged : MethodName := ⟨R_Or, "isChanged", "(IIJ)Z"⟩
abbrev b_Or_isShareWithin : ByteArray := prog_1_method_22_code
def y_Or_isShareWithin : MethodName := ⟨R_Or, "isShareWithin", "(IJ)Z"⟩
abbrev b_Or_isCode : ByteArray := prog_1_method_23_code
def y_Or_isCode : MethodName := ⟨R_Or, "isCode", "(I)Z"⟩
abbrev b_Or_isLand : ByteArray := prog_1_method_24_code
def y_Or_isLand : MethodName := ⟨R_Or, "isLand", "(I)Z"⟩
abbrev b_Or_isCents : ByteArray := prog_1_method_25_code
def y_Or_isCents : MethodName := ⟨R_Or, "isCents", "(J)Z"⟩
abbrev b_Or_isProcess : ByteArray := prog_1_method_26_code
def y_Or_isProcess : MethodName := ⟨R_Or, "isProcess", "(I)Z"⟩
abbrev b_Or_isDay : ByteArray := prog_1_method_27_code
def y_Or_isDay : MethodName := ⟨R_Or, "isDay", "(I)Z"⟩
abbrev b_Or_isDigit : ByteArray := prog_1_method_28_code
def y_Or_isDigit : MethodName := ⟨R_Or, "isDigit", "(C)Z"⟩
abbrev b_Or_isLetter : ByteArray := prog_1_method_29_code
def y_Or_isLetter : MethodName := ⟨R_Or, "isLetter", "(C)Z"⟩
abbrev b_Or_hasBit : ByteArray := prog_1_method_30_code
def y_Or_hasBit : MethodName := ⟨R_Or, "hasBit", "(II)Z"⟩
abbrev b_Or_beginning : ByteArray := prog_1_method_31_code
def y_Or_beginning : MethodName := ⟨R_Or, "beginning", "(II)I"⟩
abbrev b_Or_greatestDivisor : ByteArray := prog_1_method_32_code
def y_Or_greatestDivisor : MethodName := ⟨R_Or, "greatestDivisor", "(JJ)J"⟩
abbrev b_Text_init : ByteArray := prog_6_method_1_code
def y_Text_init : MethodName := ⟨R_Text, "<init>", "()V"⟩
abbrev b_Text_add : ByteArray := prog_6_method_2_code
def y_Text_add : MethodName := ⟨R_Text, "add", "(C)V"⟩
abbrev b_Text_rowsOrWrongPlace : ByteArray := prog_6_method_3_code
def y_Text_rowsOrWrongPlace : MethodName := ⟨R_Text, "rowsOrWrongPlace", "()I"⟩
abbrev b_Text_passesRow : ByteArray := prog_6_method_4_code
def y_Text_passesRow : MethodName := ⟨R_Text, "passesRow", "()Z"⟩
abbrev b_Text_passesRule : ByteArray := prog_6_method_5_code
def y_Text_passesRule : MethodName := ⟨R_Text, "passesRule", "()Z"⟩
abbrev b_Text_passesFactor : ByteArray := prog_6_method_6_code
def y_Text_passesFactor : MethodName := ⟨R_Text, "passesFactor", "()Z"⟩
abbrev b_Text_passesDigits : ByteArray := prog_6_method_7_code
def y_Text_passesDigits : MethodName := ⟨R_Text, "passesDigits", "(II)Z"⟩
abbrev b_Text_passesSign : ByteArray := prog_6_method_8_code
def y_Text_passesSign : MethodName := ⟨R_Text, "passesSign", "(C)Z"⟩
abbrev b_Rows_init : ByteArray := prog_5_method_1_code
def y_Rows_init : MethodName := ⟨R_Rows, "<init>", "()V"⟩
abbrev b_Rows_replace : ByteArray := prog_5_method_2_code
def y_Rows_replace : MethodName := ⟨R_Rows, "replace", "([CII)V"⟩
abbrev b_Rows_startFor : ByteArray := prog_5_method_3_code
def y_Rows_startFor : MethodName := ⟨R_Rows, "startFor", "(I)I"⟩
abbrev b_Rows_numberAt : ByteArray := prog_5_method_4_code
def y_Rows_numberAt : MethodName := ⟨R_Rows, "numberAt", "(I)I"⟩
abbrev b_Parts_init : ByteArray := prog_3_method_1_code
def y_Parts_init : MethodName := ⟨R_Parts, "<init>", "()V"⟩
abbrev b_Parts_add : ByteArray := prog_3_method_2_code
def y_Parts_add : MethodName := ⟨R_Parts, "add", "(IIJ)I"⟩
abbrev b_Parts_forget : ByteArray := prog_3_method_3_code
def y_Parts_forget : MethodName := ⟨R_Parts, "forget", "()I"⟩
abbrev b_Parts_foreignParts : ByteArray := prog_3_method_4_code
def y_Parts_foreignParts : MethodName := ⟨R_Parts, "foreignParts", "(I)I"⟩
abbrev b_Parts_foreignCents : ByteArray := prog_3_method_5_code
def y_Parts_foreignCents : MethodName := ⟨R_Parts, "foreignCents", "(I)J"⟩
abbrev b_Parts_foreignCentsAlike : ByteArray := prog_3_method_6_code
def y_Parts_foreignCentsAlike : MethodName := ⟨R_Parts, "foreignCentsAlike", "(III)J"⟩
abbrev b_Lands_init : ByteArray := prog_2_method_1_code
def y_Lands_init : MethodName := ⟨R_Lands, "<init>", "()V"⟩
abbrev b_Lands_addPair : ByteArray := prog_2_method_2_code
def y_Lands_addPair : MethodName := ⟨R_Lands, "addPair", "(II)Z"⟩
abbrev b_Lands_ownLands : ByteArray := prog_2_method_3_code
def y_Lands_ownLands : MethodName := ⟨R_Lands, "ownLands", "()I"⟩
abbrev b_Proofs_init : ByteArray := prog_4_method_1_code
def y_Proofs_init : MethodName := ⟨R_Proofs, "<init>", "()V"⟩
abbrev b_Proofs_add : ByteArray := prog_4_method_2_code
def y_Proofs_add : MethodName := ⟨R_Proofs, "add", "(III)I"⟩
abbrev b_Proofs_isGood : ByteArray := prog_4_method_3_code
def y_Proofs_isGood : MethodName := ⟨R_Proofs, "isGood", "(IJI)Z"⟩
abbrev b_Md_init : ByteArray := prog_8_method_1_code
def y_Md_init : MethodName := ⟨R_Md, "<init>", "()V"⟩
abbrev b_Md_thrown : ByteArray := prog_8_method_2_code
def y_Md_thrown : MethodName := ⟨R_Md, "thrown", "()I"⟩
abbrev b_Md_refuse : ByteArray := prog_8_method_3_code
def y_Md_refuse : MethodName := ⟨R_Md, "refuse", "(I)I"⟩
abbrev b_Md_in : ByteArray := prog_8_method_4_code
def y_Md_in : MethodName := ⟨R_Md, "in", "(JJJ)Z"⟩
abbrev b_Md_isDigit : ByteArray := prog_8_method_5_code
def y_Md_isDigit : MethodName := ⟨R_Md, "isDigit", "(I)Z"⟩
abbrev b_Md_sign : ByteArray := prog_8_method_6_code
def y_Md_sign : MethodName := ⟨R_Md, "sign", "(I)Z"⟩
abbrev b_Md_behind : ByteArray := prog_8_method_7_code
def y_Md_behind : MethodName := ⟨R_Md, "behind", "(II)I"⟩
abbrev b_Md_ahead : ByteArray := prog_8_method_8_code
def y_Md_ahead : MethodName := ⟨R_Md, "ahead", "(II)I"⟩
abbrev b_Md_read : ByteArray := prog_8_method_9_code
def y_Md_read : MethodName := ⟨R_Md, "read", "()I"⟩
abbrev b_Md_begin : ByteArray := prog_8_method_10_code
def y_Md_begin : MethodName := ⟨R_Md, "begin", "(II)I"⟩
abbrev b_Md_rowOf : ByteArray := prog_8_method_11_code
def y_Md_rowOf : MethodName := ⟨R_Md, "rowOf", "(I)I"⟩
abbrev b_Md_part : ByteArray := prog_8_method_12_code
def y_Md_part : MethodName := ⟨R_Md, "part", "(IIJ)I"⟩
abbrev b_Md_clear : ByteArray := prog_8_method_13_code
def y_Md_clear : MethodName := ⟨R_Md, "clear", "()I"⟩
abbrev b_Md_process : ByteArray := prog_8_method_14_code
def y_Md_process : MethodName := ⟨R_Md, "process", "(I)Z"⟩
abbrev b_Md_bar : ByteArray := prog_8_method_15_code
def y_Md_bar : MethodName := ⟨R_Md, "bar", "(IZ)Z"⟩
abbrev b_Md_join : ByteArray := prog_8_method_16_code
def y_Md_join : MethodName := ⟨R_Md, "join", "(II)I"⟩
abbrev b_Md_full : ByteArray := prog_8_method_17_code
def y_Md_full : MethodName := ⟨R_Md, "full", "(Z)Z"⟩
abbrev b_Md_tolerance : ByteArray := prog_8_method_18_code
def y_Md_tolerance : MethodName := ⟨R_Md, "tolerance", "(II)Z"⟩
abbrev b_Md_isOwn : ByteArray := prog_8_method_19_code
def y_Md_isOwn : MethodName := ⟨R_Md, "isOwn", "(I)Z"⟩
abbrev b_Md_own : ByteArray := prog_8_method_20_code
def y_Md_own : MethodName := ⟨R_Md, "own", "(I)Z"⟩
abbrev b_Md_foreign : ByteArray := prog_8_method_21_code
def y_Md_foreign : MethodName := ⟨R_Md, "foreign", "()J"⟩
abbrev b_Md_isOther : ByteArray := prog_8_method_22_code
def y_Md_isOther : MethodName := ⟨R_Md, "isOther", "(IJI)Z"⟩
abbrev b_Md_numberAt : ByteArray := prog_8_method_23_code
def y_Md_numberAt : MethodName := ⟨R_Md, "numberAt", "(I)I"⟩
abbrev b_Md_holds : ByteArray := prog_8_method_24_code
def y_Md_holds : MethodName := ⟨R_Md, "holds", "(IIJ)Z"⟩
abbrev b_Md_ruled : ByteArray := prog_8_method_25_code
def y_Md_ruled : MethodName := ⟨R_Md, "ruled", "(IIJ)Z"⟩
abbrev b_Md_verdict : ByteArray := prog_8_method_26_code
def y_Md_verdict : MethodName := ⟨R_Md, "verdict", "(IJ)I"⟩
abbrev b_Md_why : ByteArray := prog_8_method_27_code
def y_Md_why : MethodName := ⟨R_Md, "why", "(I)I"⟩
abbrev b_Md_share : ByteArray := prog_8_method_28_code
def y_Md_share : MethodName := ⟨R_Md, "share", "(JI)J"⟩
abbrev b_Md_isDay : ByteArray := prog_8_method_29_code
def y_Md_isDay : MethodName := ⟨R_Md, "isDay", "(I)Z"⟩
abbrev b_Md_proof : ByteArray := prog_8_method_30_code
def y_Md_proof : MethodName := ⟨R_Md, "proof", "(III)I"⟩
abbrev b_Md_good : ByteArray := prog_8_method_31_code
def y_Md_good : MethodName := ⟨R_Md, "good", "(IJI)Z"⟩
abbrev b_Md_count : ByteArray := prog_8_method_32_code
def y_Md_count : MethodName := ⟨R_Md, "count", "(I)I"⟩
abbrev b_Law_part : ByteArray := method_3_code
def y_Law_part : MethodName := ⟨R_Law, "part", "(LOriginRules;IIJ[J)I"⟩
abbrev b_Law_join : ByteArray := method_4_code
def y_Law_join : MethodName := ⟨R_Law, "join", "(LOriginRules;II[J)I"⟩
abbrev b_Law_verdict : ByteArray := method_5_code
def y_Law_verdict : MethodName := ⟨R_Law, "verdict", "(LOriginRules;IJ[J)I"⟩
abbrev b_Law_share : ByteArray := method_6_code
def y_Law_share : MethodName := ⟨R_Law, "share", "(LOriginRules;JI[J)I"⟩
abbrev b_Law_proof : ByteArray := method_7_code
def y_Law_proof : MethodName := ⟨R_Law, "proof", "(LOriginRules;III[J)I"⟩
abbrev b_Law_good : ByteArray := method_8_code
def y_Law_good : MethodName := ⟨R_Law, "good", "(LOriginRules;IJI[J)I"⟩
abbrev b_Law_own : ByteArray := method_9_code
def y_Law_own : MethodName := ⟨R_Law, "own", "(LOriginRules;I[J)I"⟩
def NL : List Cond := [Cond.fieldLinkNest R_Or 191 R_Rows "signs" "[C" R_Or, Cond.fieldLinkNest R_Or 101 R_Parts "size" "I" R_Or, Cond.fieldLinkNest R_Or 190 R_Rows "length" "I" R_Or, Cond.fieldLinkNest R_Or 64 R_Text "length" "I" R_Or, Cond.fieldLinkNest R_Or 75 R_Text "signs" "[C" R_Or, Cond.fieldLinkNest R_Or 127 R_Lands "isFull" "Z" R_Or, Cond.fieldLinkNest R_Or 183 R_Rows "size" "I" R_Or, Cond.fieldLinkNest R_Or 187 R_Lands "pairs" "I" R_Or, Cond.fieldLinkNest R_Or 169 R_Proofs "size" "I" R_Or, Cond.methodLinkNest R_Text 41 y_Or_isDigit R_Or, Cond.methodLinkNest R_Rows 36 y_Or_isDigit R_Or, Cond.methodLinkNest R_Rows 28 y_Or_beginning R_Or, Cond.methodLinkNest R_Parts 26 y_Or_hasBit R_Or, Cond.methodLinkNest R_Parts 30 y_Or_beginning R_Or, Cond.methodLinkNest R_Lands 23 y_Or_hasBit R_Or, Cond.methodLinkNest R_Or 9 y_Text_init R_Or, Cond.methodLinkNest R_Or 18 y_Rows_init R_Or, Cond.methodLinkNest R_Or 25 y_Parts_init R_Or, Cond.methodLinkNest R_Or 32 y_Lands_init R_Or, Cond.methodLinkNest R_Or 39 y_Proofs_init R_Or]
def isNest : Cond → Bool
  | .fieldLinkNest .. => true
  | .methodLinkNest .. => true
  | _ => false
theorem NL_ok : ∀ w ∈ NL, isNest w = true := by decide +kernel
theorem nl_0 : (Cond.fieldLinkNest R_Or 191 R_Rows "signs" "[C" R_Or) ∈ NL := List.mem_of_getElem? (i := 0) rfl
theorem nl_1 : (Cond.fieldLinkNest R_Or 101 R_Parts "size" "I" R_Or) ∈ NL := List.mem_of_getElem? (i := 1) rfl
theorem nl_2 : (Cond.fieldLinkNest R_Or 190 R_Rows "length" "I" R_Or) ∈ NL := List.mem_of_getElem? (i := 2) rfl
theorem nl_3 : (Cond.fieldLinkNest R_Or 64 R_Text "length" "I" R_Or) ∈ NL := List.mem_of_getElem? (i := 3) rfl
theorem nl_4 : (Cond.fieldLinkNest R_Or 75 R_Text "signs" "[C" R_Or) ∈ NL := List.mem_of_getElem? (i := 4) rfl
theorem nl_5 : (Cond.fieldLinkNest R_Or 127 R_Lands "isFull" "Z" R_Or) ∈ NL := List.mem_of_getElem? (i := 5) rfl
theorem nl_6 : (Cond.fieldLinkNest R_Or 183 R_Rows "size" "I" R_Or) ∈ NL := List.mem_of_getElem? (i := 6) rfl
theorem nl_7 : (Cond.fieldLinkNest R_Or 187 R_Lands "pairs" "I" R_Or) ∈ NL := List.mem_of_getElem? (i := 7) rfl
theorem nl_8 : (Cond.fieldLinkNest R_Or 169 R_Proofs "size" "I" R_Or) ∈ NL := List.mem_of_getElem? (i := 8) rfl
theorem nl_9 : (Cond.methodLinkNest R_Text 41 y_Or_isDigit R_Or) ∈ NL := List.mem_of_getElem? (i := 9) rfl
theorem nl_10 : (Cond.methodLinkNest R_Rows 36 y_Or_isDigit R_Or) ∈ NL := List.mem_of_getElem? (i := 10) rfl
theorem nl_11 : (Cond.methodLinkNest R_Rows 28 y_Or_beginning R_Or) ∈ NL := List.mem_of_getElem? (i := 11) rfl
theorem nl_12 : (Cond.methodLinkNest R_Parts 26 y_Or_hasBit R_Or) ∈ NL := List.mem_of_getElem? (i := 12) rfl
theorem nl_13 : (Cond.methodLinkNest R_Parts 30 y_Or_beginning R_Or) ∈ NL := List.mem_of_getElem? (i := 13) rfl
theorem nl_14 : (Cond.methodLinkNest R_Lands 23 y_Or_hasBit R_Or) ∈ NL := List.mem_of_getElem? (i := 14) rfl
theorem nl_15 : (Cond.methodLinkNest R_Or 9 y_Text_init R_Or) ∈ NL := List.mem_of_getElem? (i := 15) rfl
theorem nl_16 : (Cond.methodLinkNest R_Or 18 y_Rows_init R_Or) ∈ NL := List.mem_of_getElem? (i := 16) rfl
theorem nl_17 : (Cond.methodLinkNest R_Or 25 y_Parts_init R_Or) ∈ NL := List.mem_of_getElem? (i := 17) rfl
theorem nl_18 : (Cond.methodLinkNest R_Or 32 y_Lands_init R_Or) ∈ NL := List.mem_of_getElem? (i := 18) rfl
theorem nl_19 : (Cond.methodLinkNest R_Or 39 y_Proofs_init R_Or) ∈ NL := List.mem_of_getElem? (i := 19) rfl
theorem NL_in : ∀ w ∈ NL, w ∈ lw_tbl := by decide +kernel
end
section
-- models: partial functions (none: an index out of range, a division by 0, no fuel)
def bI : Bool → Int32
  | true => 1
  | false => 0
theorem bI_nar (b : Bool) : narrow .boolean (.int (bI b)) = .int (bI b) := by cases b <;> rfl
theorem bI_fit (b : Bool) : fits .boolean (.int (bI b)) = true := by cases b <;> rfl
theorem itT {α : Type} {c : Prop} [Decidable c] {a b r : Option α} (h : (if c then a else b) = r) (hc : c) : a = r := by rw [if_pos hc] at h; exact h
theorem itF {α : Type} {c : Prop} [Decidable c] {a b r : Option α} (h : (if c then a else b) = r) (hc : ¬ c) : b = r := by rw [if_neg hc] at h; exact h
def ixg {α : Type} (i : Int32) (n : Nat) (k : Option α) : Option α := if i < 0 ∨ n ≤ i.toNatClampNeg then none else k
theorem ixT {α : Type} {i : Int32} {n : Nat} {k : Option α} {r : α} (h : ixg i n k = some r) : vp_in i n ∧ k = some r := by
  unfold ixg at h
  by_cases hc : i < 0 ∨ n ≤ i.toNatClampNeg
  · rw [if_pos hc] at h; cases h
  · rw [if_neg hc] at h; exact ⟨hc, h⟩
def nzgI {α : Type} (y : Int32) (k : Option α) : Option α := if y = 0 then none else k
theorem nzTI {α : Type} {y : Int32} {k : Option α} {r : α} (h : nzgI y k = some r) : ¬ y = 0 ∧ k = some r := by
  unfold nzgI at h
  by_cases hc : y = 0
  · rw [if_pos hc] at h; cases h
  · rw [if_neg hc] at h; exact ⟨hc, h⟩
def nzgJ {α : Type} (y : Int64) (k : Option α) : Option α := if y = 0 then none else k
theorem nzTJ {α : Type} {y : Int64} {k : Option α} {r : α} (h : nzgJ y k = some r) : ¬ y = 0 ∧ k = some r := by
  unfold nzgJ at h
  by_cases hc : y = 0
  · rw [if_pos hc] at h; cases h
  · rw [if_neg hc] at h; exact ⟨hc, h⟩
def acg {α : Type} (ty : FieldType) (sp dp n : Int32) (n0 n1 : Nat) (f : Nat → Int32) (k : Option α) : Option α :=
  if ¬ sp < 0 ∧ ¬ dp < 0 ∧ ¬ n < 0 ∧ sp.toNatClampNeg + n.toNatClampNeg ≤ n0 ∧ dp.toNatClampNeg + n.toNatClampNeg ≤ n1 ∧ (∀ i, i < n.toNatClampNeg → fits ty (.int (f (sp.toNatClampNeg + i))) = true) then k else none
theorem acT {α : Type} {ty : FieldType} {sp dp n : Int32} {n0 n1 : Nat} {f : Nat → Int32} {k : Option α} {r : α} (h : acg ty sp dp n n0 n1 f k = some r) :
    ¬ sp < 0 ∧ ¬ dp < 0 ∧ ¬ n < 0 ∧ sp.toNatClampNeg + n.toNatClampNeg ≤ n0 ∧ dp.toNatClampNeg + n.toNatClampNeg ≤ n1 ∧ (∀ i, i < n.toNatClampNeg → fits ty (.int (f (sp.toNatClampNeg + i))) = true) ∧ k = some r := by
  unfold acg at h
  split at h
  · rename_i hc
    exact ⟨hc.1, hc.2.1, hc.2.2.1, hc.2.2.2.1, hc.2.2.2.2.1, hc.2.2.2.2.2, h⟩
  · cases h
theorem tsw8 {x : Int32} (h0 : ¬ x = 0) (h1 : ¬ x = 1) (h2 : ¬ x = 2) (h3 : ¬ x = 3) (h4 : ¬ x = 4) (h5 : ¬ x = 5) (h6 : ¬ x = 6) (h7 : ¬ x = 7) : x.toInt < 0 ∨ 7 < x.toInt := by
  have g0 := lv_neT (a := 0) h0 rfl
  have g1 := lv_neT (a := 1) h1 rfl
  have g2 := lv_neT (a := 2) h2 rfl
  have g3 := lv_neT (a := 3) h3 rfl
  have g4 := lv_neT (a := 4) h4 rfl
  have g5 := lv_neT (a := 5) h5 rfl
  have g6 := lv_neT (a := 6) h6 rfl
  have g7 := lv_neT (a := 7) h7 rfl
  omega
def bd0 {δ : Type} (x : Option (Unit)) (f : Unit → Option δ) : Option δ := match x with
  | some () => f ()
  | none => none
theorem bd0T {δ : Type} {x : Option (Unit)} {f : Unit → Option δ} {r : δ} (h : bd0 x f = some r) : x = some () ∧ f () = some r := by
  cases x with
  | none => exact absurd (show (none : Option δ) = some r from h) (by simp)
  | some q => exact ⟨rfl, h⟩
def bd1 {α0 δ : Type} (x : Option (α0)) (f : α0 → Option δ) : Option δ := match x with
  | some a0 => f a0
  | none => none
theorem bd1T {α0 δ : Type} {x : Option (α0)} {f : α0 → Option δ} {r : δ} (h : bd1 x f = some r) : ∃ a0, x = some a0 ∧ f a0 = some r := by
  cases x with
  | none => exact absurd (show (none : Option δ) = some r from h) (by simp)
  | some q => exact ⟨q, rfl, h⟩
def bd2 {α0 α1 δ : Type} (x : Option (α0 × α1)) (f : α0 → α1 → Option δ) : Option δ := match x with
  | some (a0, a1) => f a0 a1
  | none => none
theorem bd2T {α0 α1 δ : Type} {x : Option (α0 × α1)} {f : α0 → α1 → Option δ} {r : δ} (h : bd2 x f = some r) : ∃ a0 a1, x = some (a0, a1) ∧ f a0 a1 = some r := by
  cases x with
  | none => exact absurd (show (none : Option δ) = some r from h) (by simp)
  | some q => exact ⟨q.1, q.2, rfl, h⟩
def bd3 {α0 α1 α2 δ : Type} (x : Option (α0 × α1 × α2)) (f : α0 → α1 → α2 → Option δ) : Option δ := match x with
  | some (a0, a1, a2) => f a0 a1 a2
  | none => none
theorem bd3T {α0 α1 α2 δ : Type} {x : Option (α0 × α1 × α2)} {f : α0 → α1 → α2 → Option δ} {r : δ} (h : bd3 x f = some r) : ∃ a0 a1 a2, x = some (a0, a1, a2) ∧ f a0 a1 a2 = some r := by
  cases x with
  | none => exact absurd (show (none : Option δ) = some r from h) (by simp)
  | some q => exact ⟨q.1, q.2.1, q.2.2, rfl, h⟩
def bd4 {α0 α1 α2 α3 δ : Type} (x : Option (α0 × α1 × α2 × α3)) (f : α0 → α1 → α2 → α3 → Option δ) : Option δ := match x with
  | some (a0, a1, a2, a3) => f a0 a1 a2 a3
  | none => none
theorem bd4T {α0 α1 α2 α3 δ : Type} {x : Option (α0 × α1 × α2 × α3)} {f : α0 → α1 → α2 → α3 → Option δ} {r : δ} (h : bd4 x f = some r) : ∃ a0 a1 a2 a3, x = some (a0, a1, a2, a3) ∧ f a0 a1 a2 a3 = some r := by
  cases x with
  | none => exact absurd (show (none : Option δ) = some r from h) (by simp)
  | some q => exact ⟨q.1, q.2.1, q.2.2.1, q.2.2.2, rfl, h⟩
def bd5 {α0 α1 α2 α3 α4 δ : Type} (x : Option (α0 × α1 × α2 × α3 × α4)) (f : α0 → α1 → α2 → α3 → α4 → Option δ) : Option δ := match x with
  | some (a0, a1, a2, a3, a4) => f a0 a1 a2 a3 a4
  | none => none
theorem bd5T {α0 α1 α2 α3 α4 δ : Type} {x : Option (α0 × α1 × α2 × α3 × α4)} {f : α0 → α1 → α2 → α3 → α4 → Option δ} {r : δ} (h : bd5 x f = some r) : ∃ a0 a1 a2 a3 a4, x = some (a0, a1, a2, a3, a4) ∧ f a0 a1 a2 a3 a4 = some r := by
  cases x with
  | none => exact absurd (show (none : Option δ) = some r from h) (by simp)
  | some q => exact ⟨q.1, q.2.1, q.2.2.1, q.2.2.2.1, q.2.2.2.2, rfl, h⟩
def bd6 {α0 α1 α2 α3 α4 α5 δ : Type} (x : Option (α0 × α1 × α2 × α3 × α4 × α5)) (f : α0 → α1 → α2 → α3 → α4 → α5 → Option δ) : Option δ := match x with
  | some (a0, a1, a2, a3, a4, a5) => f a0 a1 a2 a3 a4 a5
  | none => none
theorem bd6T {α0 α1 α2 α3 α4 α5 δ : Type} {x : Option (α0 × α1 × α2 × α3 × α4 × α5)} {f : α0 → α1 → α2 → α3 → α4 → α5 → Option δ} {r : δ} (h : bd6 x f = some r) : ∃ a0 a1 a2 a3 a4 a5, x = some (a0, a1, a2, a3, a4, a5) ∧ f a0 a1 a2 a3 a4 a5 = some r := by
  cases x with
  | none => exact absurd (show (none : Option δ) = some r from h) (by simp)
  | some q => exact ⟨q.1, q.2.1, q.2.2.1, q.2.2.2.1, q.2.2.2.2.1, q.2.2.2.2.2, rfl, h⟩
def bd7 {α0 α1 α2 α3 α4 α5 α6 δ : Type} (x : Option (α0 × α1 × α2 × α3 × α4 × α5 × α6)) (f : α0 → α1 → α2 → α3 → α4 → α5 → α6 → Option δ) : Option δ := match x with
  | some (a0, a1, a2, a3, a4, a5, a6) => f a0 a1 a2 a3 a4 a5 a6
  | none => none
theorem bd7T {α0 α1 α2 α3 α4 α5 α6 δ : Type} {x : Option (α0 × α1 × α2 × α3 × α4 × α5 × α6)} {f : α0 → α1 → α2 → α3 → α4 → α5 → α6 → Option δ} {r : δ} (h : bd7 x f = some r) : ∃ a0 a1 a2 a3 a4 a5 a6, x = some (a0, a1, a2, a3, a4, a5, a6) ∧ f a0 a1 a2 a3 a4 a5 a6 = some r := by
  cases x with
  | none => exact absurd (show (none : Option δ) = some r from h) (by simp)
  | some q => exact ⟨q.1, q.2.1, q.2.2.1, q.2.2.2.1, q.2.2.2.2.1, q.2.2.2.2.2.1, q.2.2.2.2.2.2, rfl, h⟩
def bd8 {α0 α1 α2 α3 α4 α5 α6 α7 δ : Type} (x : Option (α0 × α1 × α2 × α3 × α4 × α5 × α6 × α7)) (f : α0 → α1 → α2 → α3 → α4 → α5 → α6 → α7 → Option δ) : Option δ := match x with
  | some (a0, a1, a2, a3, a4, a5, a6, a7) => f a0 a1 a2 a3 a4 a5 a6 a7
  | none => none
theorem bd8T {α0 α1 α2 α3 α4 α5 α6 α7 δ : Type} {x : Option (α0 × α1 × α2 × α3 × α4 × α5 × α6 × α7)} {f : α0 → α1 → α2 → α3 → α4 → α5 → α6 → α7 → Option δ} {r : δ} (h : bd8 x f = some r) : ∃ a0 a1 a2 a3 a4 a5 a6 a7, x = some (a0, a1, a2, a3, a4, a5, a6, a7) ∧ f a0 a1 a2 a3 a4 a5 a6 a7 = some r := by
  cases x with
  | none => exact absurd (show (none : Option δ) = some r from h) (by simp)
  | some q => exact ⟨q.1, q.2.1, q.2.2.1, q.2.2.2.1, q.2.2.2.2.1, q.2.2.2.2.2.1, q.2.2.2.2.2.2.1, q.2.2.2.2.2.2.2, rfl, h⟩
-- the words that any callee may take: those of the tables that a caller may hand on
def TB : List Cond := lw_tbl.filter goodWord
theorem TB_in {w : Cond} (h : w ∈ lw_tbl) (g : goodWord w = true) : w ∈ TB := List.mem_filter.mpr ⟨h, g⟩
theorem TB_good : ∀ w ∈ TB, (w.onTables && w.keeps) = true ∨ ∃ ty, w = .arrayClass ty := fun _ h => good_of_word (List.mem_filter.mp h).2
abbrev WS (y : MethodName) (b : ByteArray) (n : Nat) (ret : Option FieldType) : List Cond := Cond.code y b n ret :: TB
theorem TB_ws {y : MethodName} {b : ByteArray} {n : Nat} {ret : Option FieldType} (h : Cond.code y b n ret ∈ TB) : GoodIn TB (WS y b n ret) := fun w hw => by
  rcases List.mem_cons.mp hw with rfl | hw
  · exact ⟨h, TB_good _ h⟩
  · exact ⟨hw, TB_good _ hw⟩
theorem TB_cons {w : Cond} {ws : List Cond} (h : w ∈ TB) (g : GoodIn TB ws) : GoodIn TB (w :: ws) := fun v hv => by
  rcases List.mem_cons.mp hv with rfl | hv
  · exact ⟨h, TB_good _ h⟩
  · exact g v hv
-- what the tables say: classes, array classes, links across the nest
abbrev tyL (cT : Nat → ClassId) : List (ClassId × FieldType) := [(cT 0, .int), (cT 1, .long), (cT 2, .char), (cT 3, .boolean), (cT 4, .byte)]
def NW (U : State) : Prop := ∀ w ∈ NL, va_Nw w U
theorem NW.warm {s U : State} (hW : s.WarmedH U.vm) (h : NW s) : NW U := by
  intro w hw
  have hz := h w hw
  have hn : isNest w = true := NL_ok w hw
  unfold isNest at hn
  split at hn
  · exact va_Nw.warmF hW hz
  · exact va_Nw.warmM hW hz
  · cases hn
theorem NW.same {u U : State} (e : u.vm = U.vm) (h : NW u) : NW U := by
  intro w hw
  have hz := h w hw
  have hn : isNest w = true := NL_ok w hw
  unfold isNest at hn
  split at hn
  · exact va_Nw.same rfl e hz
  · exact va_Nw.same rfl e hz
  · cases hn
def EN (D : va_G) (cT : Nat → ClassId) (U : State) : Prop := va_K D classes (tyL cT) U ∧ NW U
theorem EN.warm {D : va_G} {cT : Nat → ClassId} {s U : State} (hW : s.WarmedH U.vm) (h : EN D cT s) : EN D cT U := ⟨va_K.moved hW.alike h.1, h.2.warm hW⟩
theorem EN.calling {D : va_G} {cT : Nat → ClassId} {U : State} (g : JFrame) (mk : MethodId) (a : Array Value) (h : EN D cT U) : EN D cT (U.calling g mk a) := ⟨va_K.moved (u := U) (U := U.calling g mk a) (Vm.Alike.refl U.vm) h.1, NW.same (u := U) rfl h.2⟩
-- a contract: from any heap that holds the cells wc the method ends with r, and the heap holds w1 in their place
def pcW (D : va_G) (cT : Nat → ClassId) (av : List Value) (wc : va_W) (sz : Nat) : Array Value → State → Prop := va_Pc av (fun U => U.heap.size = sz ∧ va_P D classes wc U.heap ∧ EN D cT U ∧ va_D (fun _ => True) wc)
def qW (D : va_G) (A : Nat → Prop) (w1 : va_W) (r : Option Value) : Array Value → State → Outcome → State → Prop := fun _ st o t => (o = .returned r ∧ va_P D classes w1 t.heap ∧ va_D A w1) ∧ va_F A st t
def Ct (l : Launch) (y : MethodName) (ws : List Cond) (rm : Room) (D : va_G) (cT : Nat → ClassId) (av : List Value) (wc : va_W) (r : Option Value) (w1 : va_W) (mc ms : Nat) : Prop :=
  ∀ sz : Nat, Met l y ws rm (pcW D cT av wc sz) (qW D (va_A wc sz) w1 r) mc ms (va_A wc sz)
theorem pcW.blind {D : va_G} {cT : Nat → ClassId} {av : List Value} {wc : va_W} {sz : Nat} : FrameBlind (pcW D cT av wc sz) := fun a U g mk q => by
  obtain ⟨q0, q1, qP, qE, qD⟩ := q
  exact ⟨q0, q1, qP, qE.calling g mk a, qD⟩
theorem pcW.pre {D : va_G} {cT : Nat → ClassId} {av : List Value} {wc : va_W} {s : State} {H : Heap} {A : Nat → Prop} (hE : EN D cT s) (hP : va_P D classes wc H) (hD : va_D A wc) : ∀ U : State, U.heap = H → s.WarmedH U.vm → pcW D cT av wc H.size av.toArray U := fun U hU hW =>
  ⟨rfl, by rw [hU], by rw [hU]; exact hP, hE.warm hW, hD.weaken (fun _ _ _ _ => trivial)⟩
theorem fm_of_map {α β : Type} {f : α → Option β} {l : List α} {w : List β} (h : l.map f = w.map some) : l.filterMap f = w := by
  have e : l.filterMap f = (l.map f).filterMap id := by rw [List.filterMap_map]; rfl
  rw [e, h, List.filterMap_map]
  simp
section CA
variable {p : Program} {l : Launch} {e : Env} {R : Room} {s : State} {m : MethodId} {args : Array Value} {below : List Frame} {meth : Method} {c : Code} {H : Heap} {locs : List Loc} {cells slots : Nat} {Q : State → Prop}
variable {pc : Nat} {ls : Array Slot} {st0 rest : List Value} {D : va_G} {cT : Nat → ClassId} {A : Nat → Prop} {H0 : Heap} {ws wc wr w1 w2 : va_W} {r : Option Value}
/-- a call that makes nothing -/
theorem ca_go {a : Array Value} (hr : va_Run p l e R s m args below meth c H locs cells slots 0 0 (F0 m pc ls st0) rest (qW D (va_A wc H.size) w1 r a) (va_A wc H.size))
    (hP : va_P D classes ws H) (hD : va_D A ws) (hS : va_S A H0 H locs) (hA : ∀ q, H0.size ≤ q → A q) (isC isR isO : List Nat) (hC : isC.map (fun i => ws[i]?) = wc.map some) (hR : isR.map (fun i => ws[i]?) = wr.map some) (hn : va_nd isR = true) (hdis : ∀ i ∈ isR, i ∉ isC) (hO : isO.map (fun i => (wr ++ w1)[i]?) = w2.map some) (hnO : va_nd isO = true)
    (kk : ∀ (H1 : Heap) (locs1 : List Loc), va_P D classes w2 H1 → va_D A w2 → va_S A H0 H1 locs1 → W p l e R s m args below meth c H1 locs1 cells slots Q (F0 m (pc + 3) ls (r.toList ++ rest))) : W p l e R s m args below meth c H locs cells slots Q (F0 m pc ls st0) := by
  intro T hT X
  obtain ⟨v, st₀, t, T', L, h0, X', hL, e1, e2, ⟨⟨hv, hp, hd⟩, hz, hk⟩, st⟩ := hr T hT X
  cases hv
  rw [h0] at hz hk
  have hF := va_free hD hS hA isC hC
  obtain ⟨hP2, hD2⟩ := va_join hP hD isC isR hC hR hn hdis hk hF hp hd
  have hP3 := hP2.sub (ws' := w2) isO (fm_of_map hO)
  have hD3 := hD2.sub (ws' := w2) isO hnO hO
  obtain ⟨t2, a1, b1⟩ := kk T'.heap (locs ++ L) (by rw [e1]; exact hP3) hD3
    ⟨Nat.le_trans hS.1 (by rw [e1]; exact hz), fun q h1 h2 => by rw [e1, hk q (Nat.lt_of_lt_of_le h1 hS.1) (fun z => h2 (hF q z))]; exact hS.2.1 q h1 h2, fun q hq => by
      rcases List.mem_append.mp hq with h | h
      · exact hS.2.2 q h
      · exact hF _ (hL q h)⟩ T' rfl X'
  exact ⟨t2, st t2 a1, b1⟩
def gV (own : String) (index : Nat) (C : String) (y : MethodName) (b : ByteArray) (n : Nat) (ret : Option FieldType) (k : Nat) : Prop := GoodIn TB (wsV own index C y (WS y b n ret)) ∧ y.cls = C ∧ y.cls ≠ "java/lang/invoke/MethodHandle" ∧ y.cls ≠ "java/lang/invoke/VarHandle" ∧ (parseMethodDescriptor y.desc).map (fun d => d.parameters.length) = some k
def gS (own : String) (index : Nat) (y : MethodName) (b : ByteArray) (n : Nat) (ret : Option FieldType) (k : Nat) : Prop := GoodIn TB (va_wsS own index y (WS y b n ret)) ∧ y.cls ≠ "java/lang/invoke/MethodHandle" ∧ y.cls ≠ "java/lang/invoke/VarHandle" ∧ (parseMethodDescriptor y.desc).map (fun d => d.parameters.length) = some k
def gSN (own : String) (index : Nat) (host : String) (y : MethodName) (b : ByteArray) (n : Nat) (ret : Option FieldType) (k : Nat) : Prop := (Cond.code y b n ret ∈ TB ∧ Cond.static y ∈ TB ∧ Cond.initialized y.cls ∈ TB ∧ Cond.methodLinkNest own index y host ∈ NL) ∧ y.cls ≠ "java/lang/invoke/MethodHandle" ∧ y.cls ≠ "java/lang/invoke/VarHandle" ∧ (parseMethodDescriptor y.desc).map (fun d => d.parameters.length) = some k
theorem gV_of {own : String} {index : Nat} {C : String} {y : MethodName} {b : ByteArray} {n : Nat} {ret : Option FieldType} {k : Nat} (h1 : Cond.methodLink own index y ∈ TB) (h2 : Cond.instanceMethod y ∈ TB) (h3 : Cond.selects C y y ∈ TB) (h4 : Cond.initialized C ∈ TB) (h5 : Cond.code y b n ret ∈ TB)
    (hd : y.cls = C ∧ y.cls ≠ "java/lang/invoke/MethodHandle" ∧ y.cls ≠ "java/lang/invoke/VarHandle" ∧ (parseMethodDescriptor y.desc).map (fun d => d.parameters.length) = some k) : gV own index C y b n ret k := ⟨TB_cons h1 (TB_cons h2 (TB_cons h3 (TB_cons h4 (TB_ws h5)))), hd⟩
theorem gS_of {own : String} {index : Nat} {y : MethodName} {b : ByteArray} {n : Nat} {ret : Option FieldType} {k : Nat} (h1 : Cond.methodLink own index y ∈ TB) (h2 : Cond.static y ∈ TB) (h4 : Cond.initialized y.cls ∈ TB) (h5 : Cond.code y b n ret ∈ TB)
    (hd : y.cls ≠ "java/lang/invoke/MethodHandle" ∧ y.cls ≠ "java/lang/invoke/VarHandle" ∧ (parseMethodDescriptor y.desc).map (fun d => d.parameters.length) = some k) : gS own index y b n ret k := ⟨TB_cons h1 (TB_cons h2 (TB_cons h4 (TB_ws h5))), hd⟩
variable {cc : ByteArray} {nL : Nat} {own C host : String} {index : Nat} {y : MethodName} {bytes : ByteArray} {maxL : Nat} {ret : Option FieldType} {rm : Room} {n : Nat} {b : Nat} {As : List Value}
theorem ca_V (S : CallFix p m c cc nL s args TB own) (hE : EN D cT s) (hM : Ct l y (WS y bytes maxL ret) rm D cT (.ref b :: As) wc r w1 0 0) (hg : gV own index C y bytes maxL ret n) (hrc : rm.cells = 0) (hrs : rm.slots = 0) (hRm : rm.frames + 1 ≤ R.frames ∧ 8 + (maxL + 11) + rm.locals ≤ R.locals)
    {ci : Nat} {qc : vw_C} (hci : classes[ci]? = some qc) (hqc : qc.1 = C) {k0 : Nat} {fs : List Value} (hk0 : wc[k0]? = some (b, .inr (ci, fs))) (hn0 : As.length = n) (hsz : ls.size = nL) (hst : st0 = As.reverse ++ .ref b :: rest) (hW : (rest.map fun v => v.category).sum ≤ 8) (hdg : decode cc pc = .ok (.invokevirtual index, 3)) (hf : cells + 0 ≤ R.cells ∧ slots + 0 ≤ R.slots)
    (hP : va_P D classes ws H) (hD : va_D A ws) (hS : va_S A H0 H locs) (hA : ∀ q, H0.size ≤ q → A q) (isC isR isO : List Nat) (hC : isC.map (fun i => ws[i]?) = wc.map some) (hR : isR.map (fun i => ws[i]?) = wr.map some) (hn : va_nd isR = true) (hdis : ∀ i ∈ isR, i ∉ isC) (hO : isO.map (fun i => (wr ++ w1)[i]?) = w2.map some) (hnO : va_nd isO = true) (hnC : va_nd isC = true)
    (kk : ∀ (H1 : Heap) (locs1 : List Loc), va_P D classes w2 H1 → va_D A w2 → va_S A H0 H1 locs1 → W p l e R s m args below meth c H1 locs1 cells slots Q (F0 m (pc + 3) ls (r.toList ++ rest))) : W p l e R s m args below meth c H locs cells slots Q (F0 m pc ls st0) := by
  subst hst
  have hPc : va_P D classes wc H := hP.sub isC (fm_of_map hC)
  have hDc : va_D A wc := hD.sub isC hnC hC
  subst hqc
  exact ca_go (va_runV (As := As) (rest := rest) S (hM H.size) (cwV n S.2.2.2.2 hg.1 rfl hrc hrs hg.2 hRm) ⟨pcW.blind, va_recv hE.1 hPc hci hk0, pcW.pre hE hPc hDc⟩ rfl hn0 hsz rfl (lv_room hW) hdg hf) hP hD hS hA isC isR isO hC hR hn hdis hO hnO kk
theorem ca_S (S : CallFix p m c cc nL s args TB own) (hE : EN D cT s) (hM : Ct l y (WS y bytes maxL ret) rm D cT As wc r w1 0 0) (hg : gS own index y bytes maxL ret n) (hrc : rm.cells = 0) (hrs : rm.slots = 0) (hRm : rm.frames + 1 ≤ R.frames ∧ 8 + (maxL + 11) + rm.locals ≤ R.locals)
    (hn0 : As.length = n) (hsz : ls.size = nL) (hst : st0 = As.reverse ++ rest) (hW : (rest.map fun v => v.category).sum ≤ 8) (hdg : decode cc pc = .ok (.invokestatic index, 3)) (hf : cells + 0 ≤ R.cells ∧ slots + 0 ≤ R.slots)
    (hP : va_P D classes ws H) (hD : va_D A ws) (hS : va_S A H0 H locs) (hA : ∀ q, H0.size ≤ q → A q) (isC isR isO : List Nat) (hC : isC.map (fun i => ws[i]?) = wc.map some) (hR : isR.map (fun i => ws[i]?) = wr.map some) (hn : va_nd isR = true) (hdis : ∀ i ∈ isR, i ∉ isC) (hO : isO.map (fun i => (wr ++ w1)[i]?) = w2.map some) (hnO : va_nd isO = true) (hnC : va_nd isC = true)
    (kk : ∀ (H1 : Heap) (locs1 : List Loc), va_P D classes w2 H1 → va_D A w2 → va_S A H0 H1 locs1 → W p l e R s m args below meth c H1 locs1 cells slots Q (F0 m (pc + 3) ls (r.toList ++ rest))) : W p l e R s m args below meth c H locs cells slots Q (F0 m pc ls st0) := by
  subst hst
  have hPc : va_P D classes wc H := hP.sub isC (fm_of_map hC)
  have hDc : va_D A wc := hD.sub isC hnC hC
  exact ca_go (va_runS (As := As) (rest := rest) S (hM H.size) (va_cwS n S.2.2.2.2 hg.1 rfl hrc hrs hg.2 hRm) ⟨pcW.blind, pcW.pre hE hPc hDc⟩ rfl hn0 hsz rfl (lv_room hW) hdg hf) hP hD hS hA isC isR isO hC hR hn hdis hO hnO kk
theorem ca_SN (S : CallFix p m c cc nL s args TB own) (hE : EN D cT s) (hM : Ct l y (WS y bytes maxL ret) rm D cT As wc r w1 0 0) (hg : gSN own index host y bytes maxL ret n) (hrc : rm.cells = 0) (hrs : rm.slots = 0) (hRm : rm.frames + 1 ≤ R.frames ∧ 8 + (maxL + 11) + rm.locals ≤ R.locals)
    (hn0 : As.length = n) (hsz : ls.size = nL) (hst : st0 = As.reverse ++ rest) (hW : (rest.map fun v => v.category).sum ≤ 8) (hdg : decode cc pc = .ok (.invokestatic index, 3)) (hf : cells + 0 ≤ R.cells ∧ slots + 0 ≤ R.slots)
    (hP : va_P D classes ws H) (hD : va_D A ws) (hS : va_S A H0 H locs) (hA : ∀ q, H0.size ≤ q → A q) (isC isR isO : List Nat) (hC : isC.map (fun i => ws[i]?) = wc.map some) (hR : isR.map (fun i => ws[i]?) = wr.map some) (hn : va_nd isR = true) (hdis : ∀ i ∈ isR, i ∉ isC) (hO : isO.map (fun i => (wr ++ w1)[i]?) = w2.map some) (hnO : va_nd isO = true) (hnC : va_nd isC = true)
    (kk : ∀ (H1 : Heap) (locs1 : List Loc), va_P D classes w2 H1 → va_D A w2 → va_S A H0 H1 locs1 → W p l e R s m args below meth c H1 locs1 cells slots Q (F0 m (pc + 3) ls (r.toList ++ rest))) : W p l e R s m args below meth c H locs cells slots Q (F0 m pc ls st0) := by
  subst hst
  have hPc : va_P D classes wc H := hP.sub isC (fm_of_map hC)
  have hDc : va_D A wc := hD.sub isC hnC hC
  obtain ⟨⟨g1, g2, g3, g4⟩, g5⟩ := hg
  have hts := S.2.2.2.2
  exact ca_go (va_runSN (As := As) (rest := rest) S (hM H.size) ⟨va_cnB n hts (TB_ws g1) rfl hrc hrs (hE.2 _ g4) (hts _ g3) g5 hRm, hts _ g2, trivial⟩ ⟨pcW.blind, pcW.pre hE hPc hDc⟩ rfl hn0 hsz rfl (lv_room hW) hdg hf) hP hD hS hA isC isR isO hC hR hn hdis hO hnO kk
theorem rt_i (S : CallFix p m c cc nL s args TB own) (hr : meth.sig.returnType = some .int) (hlocks : meth.locks = false) {v : Int32} (hP : va_P D classes w1 H) (hD : va_D A w1) (hS : va_S A s.heap H locs) (hdg : decode cc pc = .ok (.ireturn, 1)) : W p l e R s m args below meth c H locs cells slots (MQ below (qW D A w1 (some (.int v))) args s cells slots A) (F0 m pc ls [.int v]) :=
  W.iret S.1 S.2.1 hr (fun t ht hW => ⟨⟨rfl, by rw [ht]; exact hP, hD⟩, hS.F ht⟩) hS.2.2 hdg hlocks
theorem rt_z (S : CallFix p m c cc nL s args TB own) (hr : meth.sig.returnType = some .boolean) (hlocks : meth.locks = false) {v : Bool} (hP : va_P D classes w1 H) (hD : va_D A w1) (hS : va_S A s.heap H locs) (hdg : decode cc pc = .ok (.ireturn, 1)) : W p l e R s m args below meth c H locs cells slots (MQ below (qW D A w1 (some (.int (bI v)))) args s cells slots A) (F0 m pc ls [.int (bI v)]) :=
  W.zret S.1 S.2.1 hr (bI_nar v) (fun t ht hW => ⟨⟨rfl, by rw [ht]; exact hP, hD⟩, hS.F ht⟩) hS.2.2 hdg hlocks
theorem rt_j (S : CallFix p m c cc nL s args TB own) (hr : meth.sig.returnType = some .long) (hlocks : meth.locks = false) {v : Int64} (hP : va_P D classes w1 H) (hD : va_D A w1) (hS : va_S A s.heap H locs) (hdg : decode cc pc = .ok (.lreturn, 1)) : W p l e R s m args below meth c H locs cells slots (MQ below (qW D A w1 (some (.long v))) args s cells slots A) (F0 m pc ls [.long v]) :=
  W.lret S.1 S.2.1 hr (fun t ht hW => ⟨⟨rfl, by rw [ht]; exact hP, hD⟩, hS.F ht⟩) hS.2.2 hdg hlocks
theorem rt_v (S : CallFix p m c cc nL s args TB own) (hr : meth.sig.returnType = none) (hlocks : meth.locks = false) (hP : va_P D classes w1 H) (hD : va_D A w1) (hS : va_S A s.heap H locs) (hdg : decode cc pc = .ok (.return_, 1)) : W p l e R s m args below meth c H locs cells slots (MQ below (qW D A w1 none) args s cells slots A) (F0 m pc ls []) :=
  W.vret S.1 S.2.1 hr (fun t ht hW => ⟨⟨rfl, by rw [ht]; exact hP, hD⟩, hS.F ht⟩) hS.2.2 hdg hlocks
end CA
-- constructors: what they make stands in w1, whose shape Wp tells
def qI (D : va_G) (A : Nat → Prop) (Wp : va_W → Prop) : Array Value → State → Outcome → State → Prop := fun _ st o t => (o = .returned none ∧ ∃ w1, Wp w1 ∧ va_P D classes w1 t.heap ∧ va_D A w1) ∧ va_F A st t
def CtI (l : Launch) (y : MethodName) (ws : List Cond) (rm : Room) (D : va_G) (cT : Nat → ClassId) (av : List Value) (wc : va_W) (Wp : va_W → Prop) (mc ms : Nat) : Prop :=
  ∀ sz : Nat, Met l y ws rm (pcW D cT av wc sz) (qI D (va_A wc sz) Wp) mc ms (va_A wc sz)
def gIN (own : String) (index : Nat) (host : String) (y : MethodName) (b : ByteArray) (n : Nat) : Prop := (Cond.code y b n none ∈ TB ∧ Cond.instanceMethod y ∈ TB ∧ Cond.initialized y.cls ∈ TB ∧ Cond.methodLinkNest own index y host ∈ NL) ∧ y.name = "<init>" ∧ y.cls ≠ "java/lang/invoke/MethodHandle" ∧ y.cls ≠ "java/lang/invoke/VarHandle" ∧ (parseMethodDescriptor y.desc).map (fun d => d.parameters.length) = some 0
def gI (own : String) (index : Nat) (y : MethodName) (b : ByteArray) (n : Nat) : Prop := (Cond.code y b n none ∈ TB ∧ Cond.instanceMethod y ∈ TB ∧ Cond.initialized y.cls ∈ TB ∧ Cond.methodLink own index y ∈ TB) ∧ y.name = "<init>" ∧ y.cls ≠ "java/lang/invoke/MethodHandle" ∧ y.cls ≠ "java/lang/invoke/VarHandle" ∧ (parseMethodDescriptor y.desc).map (fun d => d.parameters.length) = some 0
section CI
variable {p : Program} {l : Launch} {e : Env} {R : Room} {s : State} {m : MethodId} {args : Array Value} {below : List Frame} {meth : Method} {c : Code} {H : Heap} {locs : List Loc} {cells slots : Nat} {Q : State → Prop}
variable {pc : Nat} {ls : Array Slot} {st0 rest : List Value} {D : va_G} {cT : Nat → ClassId} {A : Nat → Prop} {H0 : Heap} {ws wc wr : va_W} {Wp : va_W → Prop} {mc ms : Nat}
theorem ci_go {a : Array Value} (hr : va_Run p l e R s m args below meth c H locs cells slots mc ms (F0 m pc ls st0) rest (qI D (va_A wc H.size) Wp a) (va_A wc H.size))
    (hP : va_P D classes ws H) (hD : va_D A ws) (hS : va_S A H0 H locs) (hA : ∀ q, H0.size ≤ q → A q) (isC isR : List Nat) (hC : isC.map (fun i => ws[i]?) = wc.map some) (hR : isR.map (fun i => ws[i]?) = wr.map some) (hn : va_nd isR = true) (hdis : ∀ i ∈ isR, i ∉ isC)
    (kk : ∀ (w1 : va_W), Wp w1 → ∀ (H1 : Heap) (locs1 : List Loc), va_P D classes (wr ++ w1) H1 → va_D A (wr ++ w1) → va_S A H0 H1 locs1 → W p l e R s m args below meth c H1 locs1 (cells + mc) (slots + ms) Q (F0 m (pc + 3) ls rest)) : W p l e R s m args below meth c H locs cells slots Q (F0 m pc ls st0) := by
  intro T hT X
  obtain ⟨v, st₀, t, T', L, h0, X', hL, e1, e2, ⟨⟨hv, w1, hw1, hp, hd⟩, hz, hk⟩, st⟩ := hr T hT X
  cases hv
  rw [h0] at hz hk
  have hF := va_free hD hS hA isC hC
  obtain ⟨hP2, hD2⟩ := va_join hP hD isC isR hC hR hn hdis hk hF hp hd
  obtain ⟨t2, a1, b1⟩ := kk w1 hw1 T'.heap (locs ++ L) (by rw [e1]; exact hP2) hD2
    ⟨Nat.le_trans hS.1 (by rw [e1]; exact hz), fun q h1 h2 => by rw [e1, hk q (Nat.lt_of_lt_of_le h1 hS.1) (fun z => h2 (hF q z))]; exact hS.2.1 q h1 h2, fun q hq => by
      rcases List.mem_append.mp hq with h | h
      · exact hS.2.2 q h
      · exact hF _ (hL q h)⟩ T' rfl X'
  exact ⟨t2, st t2 a1, b1⟩
variable {cc : ByteArray} {nL : Nat} {own host : String} {index : Nat} {y : MethodName} {bytes : ByteArray} {maxL : Nat} {rm : Room} {b : Nat} {As : List Value}
theorem ca_IN (hA0 : As = []) (S : CallFix p m c cc nL s args TB own) (hE : EN D cT s) (hM : CtI l y (WS y bytes maxL none) rm D cT [.ref b] wc Wp mc ms) (hg : gIN own index host y bytes maxL) (hrc : rm.cells = mc) (hrs : rm.slots = ms) (hRm : rm.frames + 1 ≤ R.frames ∧ 8 + (maxL + 11) + rm.locals ≤ R.locals)
    (hn0 : As.length = 0) (hsz : ls.size = nL) (hst : st0 = .ref b :: rest) (hW : (rest.map fun v => v.category).sum ≤ 8) (hdg : decode cc pc = .ok (.invokespecial index, 3)) (hf : cells + mc ≤ R.cells ∧ slots + ms ≤ R.slots)
    (hP : va_P D classes ws H) (hD : va_D A ws) (hS : va_S A H0 H locs) (hA : ∀ q, H0.size ≤ q → A q) (isC isR : List Nat) (hC : isC.map (fun i => ws[i]?) = wc.map some) (hR : isR.map (fun i => ws[i]?) = wr.map some) (hn : va_nd isR = true) (hdis : ∀ i ∈ isR, i ∉ isC) (hnC : va_nd isC = true)
    (kk : ∀ (w1 : va_W), Wp w1 → ∀ (H1 : Heap) (locs1 : List Loc), va_P D classes (wr ++ w1) H1 → va_D A (wr ++ w1) → va_S A H0 H1 locs1 → W p l e R s m args below meth c H1 locs1 (cells + mc) (slots + ms) Q (F0 m (pc + 3) ls rest)) : W p l e R s m args below meth c H locs cells slots Q (F0 m pc ls st0) := by
  subst hst
  have hPc : va_P D classes wc H := hP.sub isC (fm_of_map hC)
  have hDc : va_D A wc := hD.sub isC hnC hC
  obtain ⟨⟨g1, g2, g3, g4⟩, g5, g6⟩ := hg
  have hts := S.2.2.2.2
  exact ci_go (va_runIN (As := []) (rest := rest) S (hM H.size) ⟨va_cnB 0 hts (TB_ws g1) rfl hrc hrs (hE.2 _ g4) (hts _ g3) g6 hRm, g5, hts _ g2⟩ ⟨pcW.blind, pcW.pre hE hPc hDc⟩ rfl rfl hsz rfl (lv_room hW) hdg hf) hP hD hS hA isC isR hC hR hn hdis kk
theorem ca_I (hA0 : As = []) (S : CallFix p m c cc nL s args TB own) (hE : EN D cT s) (hM : CtI l y (WS y bytes maxL none) rm D cT [.ref b] wc Wp mc ms) (hg : gI own index y bytes maxL) (hrc : rm.cells = mc) (hrs : rm.slots = ms) (hRm : rm.frames + 1 ≤ R.frames ∧ 8 + (maxL + 11) + rm.locals ≤ R.locals)
    (hn0 : As.length = 0) (hsz : ls.size = nL) (hst : st0 = .ref b :: rest) (hW : (rest.map fun v => v.category).sum ≤ 8) (hdg : decode cc pc = .ok (.invokespecial index, 3)) (hf : cells + mc ≤ R.cells ∧ slots + ms ≤ R.slots)
    (hP : va_P D classes ws H) (hD : va_D A ws) (hS : va_S A H0 H locs) (hA : ∀ q, H0.size ≤ q → A q) (isC isR : List Nat) (hC : isC.map (fun i => ws[i]?) = wc.map some) (hR : isR.map (fun i => ws[i]?) = wr.map some) (hn : va_nd isR = true) (hdis : ∀ i ∈ isR, i ∉ isC) (hnC : va_nd isC = true)
    (kk : ∀ (w1 : va_W), Wp w1 → ∀ (H1 : Heap) (locs1 : List Loc), va_P D classes (wr ++ w1) H1 → va_D A (wr ++ w1) → va_S A H0 H1 locs1 → W p l e R s m args below meth c H1 locs1 (cells + mc) (slots + ms) Q (F0 m (pc + 3) ls rest)) : W p l e R s m args below meth c H locs cells slots Q (F0 m pc ls st0) := by
  subst hst
  have hPc : va_P D classes wc H := hP.sub isC (fm_of_map hC)
  have hDc : va_D A wc := hD.sub isC hnC hC
  obtain ⟨⟨g1, g2, g3, g4⟩, g5, g6⟩ := hg
  have hts := S.2.2.2.2
  exact ci_go (va_runI (As := []) (rest := rest) S (hM H.size) (cwI 0 hts (TB_ws g1) rfl hrc hrs (hts _ g3) (hts _ g4) (hts _ g2) g5 g6 hRm) ⟨pcW.blind, pcW.pre hE hPc hDc⟩ rfl rfl hsz rfl (lv_room hW) hdg hf) hP hD hS hA isC isR hC hR hn hdis kk
theorem na_int (hexec : p.tables.exec = Jvm.exec) (hb : c.code = cc) (harr : (Cond.arrayClass .int).before args s = true) (hK : va_K D classes (tyL cT) s) (hP : va_P D classes ws H) (hD : va_D A ws) (hS : va_S A H0 H locs) (hA : ∀ q, H0.size ≤ q → A q)
    {n : Int32} {N : Nat} (hn : ¬ n < 0) (hN : n.toNatClampNeg = N) (hbytes : N * componentBytes .int ≤ 536870912) (hcells : cells + 1 ≤ R.cells) (hslots : slots + N ≤ R.slots) (hdg : decode cc pc = .ok (.newarray .int, 2))
    (kk : ∀ (q : Nat) (H1 : Heap), va_P D classes (ws ++ [(q, .inl (cT 0, N, .inl (fun _ => 0)))]) H1 → va_D A (ws ++ [(q, .inl (cT 0, N, .inl (fun _ => 0)))]) → va_S A H0 H1 locs →
      W p l e R s m args below meth c H1 locs (cells + 1) (slots + N) Q (F0 m (pc + 2) ls (.ref q :: rest))) : W p l e R s m args below meth c H locs cells slots Q (F0 m pc ls (.int n :: rest)) := by
  refine va_newa hexec hb (atype := .int) harr rfl hK hP hD hS hA (a0 := (N, .inl (fun _ => 0))) (fun _ => rfl) hn hN hbytes hcells hslots hdg (fun q cA H1 hK1 hP1 hD1 hS1 => ?_)
  have h1 : s.vm.findClass ("[" ++ FieldType.int.toString) = some cA := (hK1.2 5 (cA, .int) rfl).2
  have h2 : s.vm.findClass ("[" ++ FieldType.int.toString) = some (cT 0) := (hK.2 0 (cT 0, .int) rfl).2
  cases Option.some.inj (h1.symm.trans h2)
  exact kk q H1 hP1 hD1 hS1
theorem na_long (hexec : p.tables.exec = Jvm.exec) (hb : c.code = cc) (harr : (Cond.arrayClass .long).before args s = true) (hK : va_K D classes (tyL cT) s) (hP : va_P D classes ws H) (hD : va_D A ws) (hS : va_S A H0 H locs) (hA : ∀ q, H0.size ≤ q → A q)
    {n : Int32} {N : Nat} (hn : ¬ n < 0) (hN : n.toNatClampNeg = N) (hbytes : N * componentBytes .long ≤ 536870912) (hcells : cells + 1 ≤ R.cells) (hslots : slots + N ≤ R.slots) (hdg : decode cc pc = .ok (.newarray .long, 2))
    (kk : ∀ (q : Nat) (H1 : Heap), va_P D classes (ws ++ [(q, .inl (cT 1, N, .inr (.inl (fun _ => 0))))]) H1 → va_D A (ws ++ [(q, .inl (cT 1, N, .inr (.inl (fun _ => 0))))]) → va_S A H0 H1 locs →
      W p l e R s m args below meth c H1 locs (cells + 1) (slots + N) Q (F0 m (pc + 2) ls (.ref q :: rest))) : W p l e R s m args below meth c H locs cells slots Q (F0 m pc ls (.int n :: rest)) := by
  refine va_newa hexec hb (atype := .long) harr rfl hK hP hD hS hA (a0 := (N, .inr (.inl (fun _ => 0)))) (fun _ => rfl) hn hN hbytes hcells hslots hdg (fun q cA H1 hK1 hP1 hD1 hS1 => ?_)
  have h1 : s.vm.findClass ("[" ++ FieldType.long.toString) = some cA := (hK1.2 5 (cA, .long) rfl).2
  have h2 : s.vm.findClass ("[" ++ FieldType.long.toString) = some (cT 1) := (hK.2 1 (cT 1, .long) rfl).2
  cases Option.some.inj (h1.symm.trans h2)
  exact kk q H1 hP1 hD1 hS1
theorem na_char (hexec : p.tables.exec = Jvm.exec) (hb : c.code = cc) (harr : (Cond.arrayClass .char).before args s = true) (hK : va_K D classes (tyL cT) s) (hP : va_P D classes ws H) (hD : va_D A ws) (hS : va_S A H0 H locs) (hA : ∀ q, H0.size ≤ q → A q)
    {n : Int32} {N : Nat} (hn : ¬ n < 0) (hN : n.toNatClampNeg = N) (hbytes : N * componentBytes .char ≤ 536870912) (hcells : cells + 1 ≤ R.cells) (hslots : slots + N ≤ R.slots) (hdg : decode cc pc = .ok (.newarray .char, 2))
    (kk : ∀ (q : Nat) (H1 : Heap), va_P D classes (ws ++ [(q, .inl (cT 2, N, .inl (fun _ => 0)))]) H1 → va_D A (ws ++ [(q, .inl (cT 2, N, .inl (fun _ => 0)))]) → va_S A H0 H1 locs →
      W p l e R s m args below meth c H1 locs (cells + 1) (slots + N) Q (F0 m (pc + 2) ls (.ref q :: rest))) : W p l e R s m args below meth c H locs cells slots Q (F0 m pc ls (.int n :: rest)) := by
  refine va_newa hexec hb (atype := .char) harr rfl hK hP hD hS hA (a0 := (N, .inl (fun _ => 0))) (fun _ => rfl) hn hN hbytes hcells hslots hdg (fun q cA H1 hK1 hP1 hD1 hS1 => ?_)
  have h1 : s.vm.findClass ("[" ++ FieldType.char.toString) = some cA := (hK1.2 5 (cA, .char) rfl).2
  have h2 : s.vm.findClass ("[" ++ FieldType.char.toString) = some (cT 2) := (hK.2 2 (cT 2, .char) rfl).2
  cases Option.some.inj (h1.symm.trans h2)
  exact kk q H1 hP1 hD1 hS1
theorem na_boolean (hexec : p.tables.exec = Jvm.exec) (hb : c.code = cc) (harr : (Cond.arrayClass .boolean).before args s = true) (hK : va_K D classes (tyL cT) s) (hP : va_P D classes ws H) (hD : va_D A ws) (hS : va_S A H0 H locs) (hA : ∀ q, H0.size ≤ q → A q)
    {n : Int32} {N : Nat} (hn : ¬ n < 0) (hN : n.toNatClampNeg = N) (hbytes : N * componentBytes .boolean ≤ 536870912) (hcells : cells + 1 ≤ R.cells) (hslots : slots + N ≤ R.slots) (hdg : decode cc pc = .ok (.newarray .boolean, 2))
    (kk : ∀ (q : Nat) (H1 : Heap), va_P D classes (ws ++ [(q, .inl (cT 3, N, .inl (fun _ => 0)))]) H1 → va_D A (ws ++ [(q, .inl (cT 3, N, .inl (fun _ => 0)))]) → va_S A H0 H1 locs →
      W p l e R s m args below meth c H1 locs (cells + 1) (slots + N) Q (F0 m (pc + 2) ls (.ref q :: rest))) : W p l e R s m args below meth c H locs cells slots Q (F0 m pc ls (.int n :: rest)) := by
  refine va_newa hexec hb (atype := .boolean) harr rfl hK hP hD hS hA (a0 := (N, .inl (fun _ => 0))) (fun _ => rfl) hn hN hbytes hcells hslots hdg (fun q cA H1 hK1 hP1 hD1 hS1 => ?_)
  have h1 : s.vm.findClass ("[" ++ FieldType.boolean.toString) = some cA := (hK1.2 5 (cA, .boolean) rfl).2
  have h2 : s.vm.findClass ("[" ++ FieldType.boolean.toString) = some (cT 3) := (hK.2 3 (cT 3, .boolean) rfl).2
  cases Option.some.inj (h1.symm.trans h2)
  exact kk q H1 hP1 hD1 hS1
theorem na_byte (hexec : p.tables.exec = Jvm.exec) (hb : c.code = cc) (harr : (Cond.arrayClass .byte).before args s = true) (hK : va_K D classes (tyL cT) s) (hP : va_P D classes ws H) (hD : va_D A ws) (hS : va_S A H0 H locs) (hA : ∀ q, H0.size ≤ q → A q)
    {n : Int32} {N : Nat} (hn : ¬ n < 0) (hN : n.toNatClampNeg = N) (hbytes : N * componentBytes .byte ≤ 536870912) (hcells : cells + 1 ≤ R.cells) (hslots : slots + N ≤ R.slots) (hdg : decode cc pc = .ok (.newarray .byte, 2))
    (kk : ∀ (q : Nat) (H1 : Heap), va_P D classes (ws ++ [(q, .inl (cT 4, N, .inl (fun _ => 0)))]) H1 → va_D A (ws ++ [(q, .inl (cT 4, N, .inl (fun _ => 0)))]) → va_S A H0 H1 locs →
      W p l e R s m args below meth c H1 locs (cells + 1) (slots + N) Q (F0 m (pc + 2) ls (.ref q :: rest))) : W p l e R s m args below meth c H locs cells slots Q (F0 m pc ls (.int n :: rest)) := by
  refine va_newa hexec hb (atype := .byte) harr rfl hK hP hD hS hA (a0 := (N, .inl (fun _ => 0))) (fun _ => rfl) hn hN hbytes hcells hslots hdg (fun q cA H1 hK1 hP1 hD1 hS1 => ?_)
  have h1 : s.vm.findClass ("[" ++ FieldType.byte.toString) = some cA := (hK1.2 5 (cA, .byte) rfl).2
  have h2 : s.vm.findClass ("[" ++ FieldType.byte.toString) = some (cT 4) := (hK.2 4 (cT 4, .byte) rfl).2
  cases Option.some.inj (h1.symm.trans h2)
  exact kk q H1 hP1 hD1 hS1
end CI
theorem tb1 {w : Cond} {i : Nat} (h : tables_1_1[i]? = some w) : w ∈ lw_tbl := List.mem_append_right _ (List.mem_append_left _ (List.mem_of_getElem? h))
theorem tb2 {w : Cond} {i : Nat} (h : tables_1_2[i]? = some w) : w ∈ lw_tbl := List.mem_append_right _ (List.mem_append_right _ (List.mem_append_left _ (List.mem_of_getElem? h)))
theorem tb3 {w : Cond} {i : Nat} (h : tables_1_3[i]? = some w) : w ∈ lw_tbl := List.mem_append_right _ (List.mem_append_right _ (List.mem_append_right _ (List.mem_of_getElem? h)))
end
