section
-- ===== PART A: goes FIRST, ahead of the names: the tables' words, and 'selects' of the private methods out of them =====
/-- a private method of a class that the tables say can be made, by its rows of tables_1 -/
def lw_okq (q : MethodName × Nat) : Prop := (q.1.cls ≠ "java/lang/invoke/MethodHandle" ∧ q.1.cls ≠ "java/lang/invoke/VarHandle") ∧ Cond.instantiable q.1.cls q.2 ∈ tables_1 ∧ Cond.privateMethod q.1 ∈ tables_1 ∧ Cond.instanceMethod q.1 ∈ tables_1
theorem lw_p0 : lw_okq (⟨"OriginRules$Text", "passesRow", "()Z"⟩, 3) := ⟨⟨by decide +kernel, by decide +kernel⟩, List.mem_of_getElem? (i := 25) (by decide +kernel), List.mem_of_getElem? (i := 173) (by decide +kernel), List.mem_of_getElem? (i := 174) (by decide +kernel)⟩
theorem lw_p1 : lw_okq (⟨"OriginRules$Text", "passesDigits", "(II)Z"⟩, 3) := ⟨⟨by decide +kernel, by decide +kernel⟩, List.mem_of_getElem? (i := 25) (by decide +kernel), List.mem_of_getElem? (i := 178) (by decide +kernel), List.mem_of_getElem? (i := 179) (by decide +kernel)⟩
theorem lw_p2 : lw_okq (⟨"OriginRules$Text", "passesSign", "(C)Z"⟩, 3) := ⟨⟨by decide +kernel, by decide +kernel⟩, List.mem_of_getElem? (i := 25) (by decide +kernel), List.mem_of_getElem? (i := 185) (by decide +kernel), List.mem_of_getElem? (i := 186) (by decide +kernel)⟩
theorem lw_p3 : lw_okq (⟨"OriginRules$Text", "passesRule", "()Z"⟩, 3) := ⟨⟨by decide +kernel, by decide +kernel⟩, List.mem_of_getElem? (i := 25) (by decide +kernel), List.mem_of_getElem? (i := 189) (by decide +kernel), List.mem_of_getElem? (i := 190) (by decide +kernel)⟩
theorem lw_p4 : lw_okq (⟨"OriginRules$Text", "passesFactor", "()Z"⟩, 3) := ⟨⟨by decide +kernel, by decide +kernel⟩, List.mem_of_getElem? (i := 25) (by decide +kernel), List.mem_of_getElem? (i := 193) (by decide +kernel), List.mem_of_getElem? (i := 194) (by decide +kernel)⟩
theorem lw_p5 : lw_okq (⟨"java/lang/Throwable", "fillInStackTrace", "(I)Ljava/lang/Throwable;"⟩, 6) := ⟨⟨by decide +kernel, by decide +kernel⟩, List.mem_of_getElem? (i := 310) (by decide +kernel), List.mem_of_getElem? (i := 308) (by decide +kernel), List.mem_of_getElem? (i := 309) (by decide +kernel)⟩
theorem lw_p6 : lw_okq (⟨"OriginRules", "ruleHolds", "(IIJ)Z"⟩, 11) := ⟨⟨by decide +kernel, by decide +kernel⟩, List.mem_of_getElem? (i := 17) (by decide +kernel), List.mem_of_getElem? (i := 392) (by decide +kernel), List.mem_of_getElem? (i := 393) (by decide +kernel)⟩
theorem lw_p7 : lw_okq (⟨"OriginRules", "factorHolds", "(IIJ)Z"⟩, 11) := ⟨⟨by decide +kernel, by decide +kernel⟩, List.mem_of_getElem? (i := 17) (by decide +kernel), List.mem_of_getElem? (i := 399) (by decide +kernel), List.mem_of_getElem? (i := 400) (by decide +kernel)⟩
theorem lw_p8 : lw_okq (⟨"OriginRules", "isChanged", "(IIJ)Z"⟩, 11) := ⟨⟨by decide +kernel, by decide +kernel⟩, List.mem_of_getElem? (i := 17) (by decide +kernel), List.mem_of_getElem? (i := 403) (by decide +kernel), List.mem_of_getElem? (i := 404) (by decide +kernel)⟩
theorem lw_p9 : lw_okq (⟨"OriginRules", "isShareWithin", "(IJ)Z"⟩, 11) := ⟨⟨by decide +kernel, by decide +kernel⟩, List.mem_of_getElem? (i := 17) (by decide +kernel), List.mem_of_getElem? (i := 413) (by decide +kernel), List.mem_of_getElem? (i := 414) (by decide +kernel)⟩
theorem lw_p10 : lw_okq (⟨"OriginRules", "keepAnswer", "(IZ)V"⟩, 11) := ⟨⟨by decide +kernel, by decide +kernel⟩, List.mem_of_getElem? (i := 17) (by decide +kernel), List.mem_of_getElem? (i := 422) (by decide +kernel), List.mem_of_getElem? (i := 423) (by decide +kernel)⟩
theorem lw_p11 : lw_okq (⟨"OriginRulesModel", "refuse", "(I)I"⟩, 27) := ⟨⟨by decide +kernel, by decide +kernel⟩, List.mem_of_getElem? (i := 495) (by decide +kernel), List.mem_of_getElem? (i := 617) (by decide +kernel), List.mem_of_getElem? (i := 618) (by decide +kernel)⟩
theorem lw_p12 : lw_okq (⟨"OriginRulesModel", "isOwn", "(I)Z"⟩, 27) := ⟨⟨by decide +kernel, by decide +kernel⟩, List.mem_of_getElem? (i := 495) (by decide +kernel), List.mem_of_getElem? (i := 651) (by decide +kernel), List.mem_of_getElem? (i := 652) (by decide +kernel)⟩
theorem lw_p13 : lw_okq (⟨"OriginRulesModel", "rowOf", "(I)I"⟩, 27) := ⟨⟨by decide +kernel, by decide +kernel⟩, List.mem_of_getElem? (i := 495) (by decide +kernel), List.mem_of_getElem? (i := 659) (by decide +kernel), List.mem_of_getElem? (i := 660) (by decide +kernel)⟩
theorem lw_p14 : lw_okq (⟨"OriginRulesModel", "begin", "(II)I"⟩, 27) := ⟨⟨by decide +kernel, by decide +kernel⟩, List.mem_of_getElem? (i := 495) (by decide +kernel), List.mem_of_getElem? (i := 663) (by decide +kernel), List.mem_of_getElem? (i := 664) (by decide +kernel)⟩
theorem lw_p15 : lw_okq (⟨"OriginRulesModel", "ruled", "(IIJ)Z"⟩, 27) := ⟨⟨by decide +kernel, by decide +kernel⟩, List.mem_of_getElem? (i := 495) (by decide +kernel), List.mem_of_getElem? (i := 668) (by decide +kernel), List.mem_of_getElem? (i := 669) (by decide +kernel)⟩
def lw_privs_1 : List (MethodName × Nat) := [(⟨"OriginRules$Text", "passesRow", "()Z"⟩, 3), (⟨"OriginRules$Text", "passesDigits", "(II)Z"⟩, 3), (⟨"OriginRules$Text", "passesSign", "(C)Z"⟩, 3), (⟨"OriginRules$Text", "passesRule", "()Z"⟩, 3), (⟨"OriginRules$Text", "passesFactor", "()Z"⟩, 3), (⟨"java/lang/Throwable", "fillInStackTrace", "(I)Ljava/lang/Throwable;"⟩, 6), (⟨"OriginRules", "ruleHolds", "(IIJ)Z"⟩, 11), (⟨"OriginRules", "factorHolds", "(IIJ)Z"⟩, 11), (⟨"OriginRules", "isChanged", "(IIJ)Z"⟩, 11), (⟨"OriginRules", "isShareWithin", "(IJ)Z"⟩, 11), (⟨"OriginRules", "keepAnswer", "(IZ)V"⟩, 11), (⟨"OriginRulesModel", "refuse", "(I)I"⟩, 27), (⟨"OriginRulesModel", "isOwn", "(I)Z"⟩, 27), (⟨"OriginRulesModel", "rowOf", "(I)I"⟩, 27), (⟨"OriginRulesModel", "begin", "(II)I"⟩, 27), (⟨"OriginRulesModel", "ruled", "(IIJ)Z"⟩, 27)]
theorem lw_r1 : ∀ q ∈ lw_privs_1, lw_okq q := List.forall_mem_cons.mpr ⟨lw_p0, List.forall_mem_cons.mpr ⟨lw_p1, List.forall_mem_cons.mpr ⟨lw_p2, List.forall_mem_cons.mpr ⟨lw_p3, List.forall_mem_cons.mpr ⟨lw_p4, List.forall_mem_cons.mpr ⟨lw_p5, List.forall_mem_cons.mpr ⟨lw_p6, List.forall_mem_cons.mpr ⟨lw_p7, List.forall_mem_cons.mpr ⟨lw_p8, List.forall_mem_cons.mpr ⟨lw_p9, List.forall_mem_cons.mpr ⟨lw_p10, List.forall_mem_cons.mpr ⟨lw_p11, List.forall_mem_cons.mpr ⟨lw_p12, List.forall_mem_cons.mpr ⟨lw_p13, List.forall_mem_cons.mpr ⟨lw_p14, List.forall_mem_cons.mpr ⟨lw_p15, fun _ h => absurd h List.not_mem_nil⟩⟩⟩⟩⟩⟩⟩⟩⟩⟩⟩⟩⟩⟩⟩⟩
theorem lw_p16 : lw_okq (⟨"OriginRulesModel", "holds", "(IIJ)Z"⟩, 27) := ⟨⟨by decide +kernel, by decide +kernel⟩, List.mem_of_getElem? (i := 495) (by decide +kernel), List.mem_of_getElem? (i := 672) (by decide +kernel), List.mem_of_getElem? (i := 673) (by decide +kernel)⟩
theorem lw_p17 : lw_okq (⟨"OriginRulesModel", "isOther", "(IJI)Z"⟩, 27) := ⟨⟨by decide +kernel, by decide +kernel⟩, List.mem_of_getElem? (i := 495) (by decide +kernel), List.mem_of_getElem? (i := 676) (by decide +kernel), List.mem_of_getElem? (i := 677) (by decide +kernel)⟩
theorem lw_p18 : lw_okq (⟨"OriginRulesModel", "foreign", "()J"⟩, 27) := ⟨⟨by decide +kernel, by decide +kernel⟩, List.mem_of_getElem? (i := 495) (by decide +kernel), List.mem_of_getElem? (i := 681) (by decide +kernel), List.mem_of_getElem? (i := 682) (by decide +kernel)⟩
theorem lw_p19 : lw_okq (⟨"OriginRulesModel", "numberAt", "(I)I"⟩, 27) := ⟨⟨by decide +kernel, by decide +kernel⟩, List.mem_of_getElem? (i := 495) (by decide +kernel), List.mem_of_getElem? (i := 685) (by decide +kernel), List.mem_of_getElem? (i := 686) (by decide +kernel)⟩
def lw_privs_2 : List (MethodName × Nat) := [(⟨"OriginRulesModel", "holds", "(IIJ)Z"⟩, 27), (⟨"OriginRulesModel", "isOther", "(IJI)Z"⟩, 27), (⟨"OriginRulesModel", "foreign", "()J"⟩, 27), (⟨"OriginRulesModel", "numberAt", "(I)I"⟩, 27)]
theorem lw_r2 : ∀ q ∈ lw_privs_2, lw_okq q := List.forall_mem_cons.mpr ⟨lw_p16, List.forall_mem_cons.mpr ⟨lw_p17, List.forall_mem_cons.mpr ⟨lw_p18, List.forall_mem_cons.mpr ⟨lw_p19, fun _ h => absurd h List.not_mem_nil⟩⟩⟩⟩
def lw_privs : List (MethodName × Nat) := lw_privs_1 ++ (lw_privs_2)
def lw_tbl : List Cond := k2_sels lw_privs ++ tables_1
theorem lw_privs_ok : ∀ q ∈ lw_privs, lw_okq q := by
  show ∀ q ∈ lw_privs_1 ++ (lw_privs_2), lw_okq q
  exact List.forall_mem_append.mpr ⟨lw_r1, lw_r2⟩
end
section
def R_Or : String := "OriginRules"
def R_Text : String := "OriginRules$Text"
def R_Rows : String := "OriginRules$Rows"
def R_Parts : String := "OriginRules$Parts"
def R_Lands : String := "OriginRules$Lands"
def R_Proofs : String := "OriginRules$Proofs"
def R_Md : String := "OriginRulesModel"
def R_Law : String := "OriginRulesLaw"
def F_Or : u_T := fun k => match k with
  | 0 => ("OriginRules", "text", "LOriginRules$Text;", true)
  | 1 => ("OriginRules", "rows", "LOriginRules$Rows;", true)
  | 2 => ("OriginRules", "parts", "LOriginRules$Parts;", true)
  | 3 => ("OriginRules", "lands", "LOriginRules$Lands;", true)
  | 4 => ("OriginRules", "proofs", "LOriginRules$Proofs;", true)
  | 5 => ("OriginRules", "processesDone", "I", false)
  | 6 => ("OriginRules", "processesBarred", "I", false)
  | 7 => ("OriginRules", "toleranceUp", "I", false)
  | 8 => ("OriginRules", "toleranceDown", "I", false)
  | 9 => ("OriginRules", "answers", "[I", true)
  | _ => ("OriginRules", "asked", "I", false)
def t_Or : Nat → FieldType := fun k => match k with
  | 0 => .object "OriginRules$Text"
  | 1 => .object "OriginRules$Rows"
  | 2 => .object "OriginRules$Parts"
  | 3 => .object "OriginRules$Lands"
  | 4 => .object "OriginRules$Proofs"
  | 5 => .int
  | 6 => .int
  | 7 => .int
  | 8 => .int
  | 9 => .array .int
  | _ => .int
theorem n_Or : ∀ a, a < 11 → ∀ b, b < 11 → a ≠ b → (F_Or a).2.1 ≠ (F_Or b).2.1 := by decide +kernel
theorem t_Or_ok : ∀ k, k < 11 → parseFieldDescriptor (F_Or k).2.2.1 = some (t_Or k) := by decide +kernel
def F_Text : u_T := fun k => match k with
  | 0 => ("OriginRules$Text", "signs", "[C", true)
  | 1 => ("OriginRules$Text", "length", "I", false)
  | _ => ("OriginRules$Text", "place", "I", false)
def t_Text : Nat → FieldType := fun k => match k with
  | 0 => .array .char
  | 1 => .int
  | _ => .int
theorem n_Text : ∀ a, a < 3 → ∀ b, b < 3 → a ≠ b → (F_Text a).2.1 ≠ (F_Text b).2.1 := by decide +kernel
theorem t_Text_ok : ∀ k, k < 3 → parseFieldDescriptor (F_Text k).2.2.1 = some (t_Text k) := by decide +kernel
def F_Rows : u_T := fun k => match k with
  | 0 => ("OriginRules$Rows", "signs", "[C", true)
  | 1 => ("OriginRules$Rows", "length", "I", false)
  | _ => ("OriginRules$Rows", "size", "I", false)
def t_Rows : Nat → FieldType := fun k => match k with
  | 0 => .array .char
  | 1 => .int
  | _ => .int
theorem n_Rows : ∀ a, a < 3 → ∀ b, b < 3 → a ≠ b → (F_Rows a).2.1 ≠ (F_Rows b).2.1 := by decide +kernel
theorem t_Rows_ok : ∀ k, k < 3 → parseFieldDescriptor (F_Rows k).2.2.1 = some (t_Rows k) := by decide +kernel
def F_Parts : u_T := fun k => match k with
  | 0 => ("OriginRules$Parts", "codes", "[I", true)
  | 1 => ("OriginRules$Parts", "landOf", "[I", true)
  | 2 => ("OriginRules$Parts", "centsOf", "[J", true)
  | _ => ("OriginRules$Parts", "size", "I", false)
def t_Parts : Nat → FieldType := fun k => match k with
  | 0 => .array .int
  | 1 => .array .int
  | 2 => .array .long
  | _ => .int
theorem n_Parts : ∀ a, a < 4 → ∀ b, b < 4 → a ≠ b → (F_Parts a).2.1 ≠ (F_Parts b).2.1 := by decide +kernel
theorem t_Parts_ok : ∀ k, k < 4 → parseFieldDescriptor (F_Parts k).2.2.1 = some (t_Parts k) := by decide +kernel
def F_Lands : u_T := fun k => match k with
  | 0 => ("OriginRules$Lands", "joined", "[I", true)
  | 1 => ("OriginRules$Lands", "pairs", "I", false)
  | _ => ("OriginRules$Lands", "isFull", "Z", false)
def t_Lands : Nat → FieldType := fun k => match k with
  | 0 => .array .int
  | 1 => .int
  | _ => .boolean
theorem n_Lands : ∀ a, a < 3 → ∀ b, b < 3 → a ≠ b → (F_Lands a).2.1 ≠ (F_Lands b).2.1 := by decide +kernel
theorem t_Lands_ok : ∀ k, k < 3 → parseFieldDescriptor (F_Lands k).2.2.1 = some (t_Lands k) := by decide +kernel
def F_Proofs : u_T := fun k => match k with
  | 0 => ("OriginRules$Proofs", "kinds", "[I", true)
  | 1 => ("OriginRules$Proofs", "firstDays", "[I", true)
  | 2 => ("OriginRules$Proofs", "lastDays", "[I", true)
  | _ => ("OriginRules$Proofs", "size", "I", false)
def t_Proofs : Nat → FieldType := fun k => match k with
  | 0 => .array .int
  | 1 => .array .int
  | 2 => .array .int
  | _ => .int
theorem n_Proofs : ∀ a, a < 4 → ∀ b, b < 4 → a ≠ b → (F_Proofs a).2.1 ≠ (F_Proofs b).2.1 := by decide +kernel
theorem t_Proofs_ok : ∀ k, k < 4 → parseFieldDescriptor (F_Proofs k).2.2.1 = some (t_Proofs k) := by decide +kernel
def F_Md : u_T := fun k => match k with
  | 0 => ("OriginRulesModel", "thrown", "I", false)
  | 1 => ("OriginRulesModel", "text", "[I", true)
  | 2 => ("OriginRulesModel", "signs", "I", false)
  | 3 => ("OriginRulesModel", "read", "[I", true)
  | 4 => ("OriginRulesModel", "begins", "[I", true)
  | 5 => ("OriginRulesModel", "rows", "I", false)
  | 6 => ("OriginRulesModel", "tried", "[I", true)
  | 7 => ("OriginRulesModel", "parts", "I", false)
  | 8 => ("OriginRulesModel", "partCode", "[I", true)
  | 9 => ("OriginRulesModel", "partLand", "[I", true)
  | 10 => ("OriginRulesModel", "partCents", "[J", true)
  | 11 => ("OriginRulesModel", "done", "I", false)
  | 12 => ("OriginRulesModel", "barred", "I", false)
  | 13 => ("OriginRulesModel", "joined", "[Z", true)
  | 14 => ("OriginRulesModel", "pairs", "I", false)
  | 15 => ("OriginRulesModel", "full", "Z", false)
  | 16 => ("OriginRulesModel", "up", "I", false)
  | 17 => ("OriginRulesModel", "down", "I", false)
  | 18 => ("OriginRulesModel", "proofs", "I", false)
  | 19 => ("OriginRulesModel", "proofKind", "[I", true)
  | 20 => ("OriginRulesModel", "proofFrom", "[I", true)
  | 21 => ("OriginRulesModel", "proofTo", "[I", true)
  | 22 => ("OriginRulesModel", "asked", "I", false)
  | 23 => ("OriginRulesModel", "told", "[I", true)
  | 24 => ("OriginRulesModel", "live", "[Z", true)
  | 25 => ("OriginRulesModel", "any", "[Z", true)
  | _ => ("OriginRulesModel", "all", "[Z", true)
def t_Md : Nat → FieldType := fun k => match k with
  | 0 => .int
  | 1 => .array .int
  | 2 => .int
  | 3 => .array .int
  | 4 => .array .int
  | 5 => .int
  | 6 => .array .int
  | 7 => .int
  | 8 => .array .int
  | 9 => .array .int
  | 10 => .array .long
  | 11 => .int
  | 12 => .int
  | 13 => .array .boolean
  | 14 => .int
  | 15 => .boolean
  | 16 => .int
  | 17 => .int
  | 18 => .int
  | 19 => .array .int
  | 20 => .array .int
  | 21 => .array .int
  | 22 => .int
  | 23 => .array .int
  | 24 => .array .boolean
  | 25 => .array .boolean
  | _ => .array .boolean
theorem n_Md : ∀ a, a < 27 → ∀ b, b < 27 → a ≠ b → (F_Md a).2.1 ≠ (F_Md b).2.1 := by decide +kernel
theorem t_Md_ok : ∀ k, k < 27 → parseFieldDescriptor (F_Md k).2.2.1 = some (t_Md k) := by decide +kernel
abbrev classes : List vw_C := [(R_Or, F_Or, 11), (R_Text, F_Text, 3), (R_Rows, F_Rows, 3), (R_Parts, F_Parts, 4), (R_Lands, F_Lands, 3), (R_Proofs, F_Proofs, 4), (R_Md, F_Md, 27)]
abbrev b_Or_init : ByteArray := prog_1_method_1_code
def y_Or_init : MethodName := ⟨R_Or, "<init>", "()V"⟩
abbrev b_Or_sign : ByteArray := prog_1_method_2_code
def y_Or_sign : MethodName := ⟨R_Or, "sign", "(I)Z"⟩
abbrev b_Or_read : ByteArray := prog_1_method_3_code
def y_Or_read : MethodName := ⟨R_Or, "read", "()I"⟩
abbrev b_Or_part : ByteArray := prog_1_method_4_code
def y_Or_part : MethodName := ⟨R_Or, "part", "(IIJ)I"⟩
abbrev b_Or_clear : ByteArray := prog_1_method_5_code
def y_Or_clear : MethodName := ⟨R_Or, "clear", "()I"⟩
abbrev b_Or_process : ByteArray := prog_1_method_6_code
def y_Or_process : MethodName := ⟨R_Or, "process", "(I)Z"⟩
abbrev b_Or_bar : ByteArray := prog_1_method_7_code
def y_Or_bar : MethodName := ⟨R_Or, "bar", "(IZ)Z"⟩
abbrev b_Or_join : ByteArray := prog_1_method_8_code
def y_Or_join : MethodName := ⟨R_Or, "join", "(II)I"⟩
abbrev b_Or_full : ByteArray := prog_1_method_9_code
def y_Or_full : MethodName := ⟨R_Or, "full", "(Z)Z"⟩
abbrev b_Or_tolerance : ByteArray := prog_1_method_10_code
def y_Or_tolerance : MethodName := ⟨R_Or, "tolerance", "(II)Z"⟩
abbrev b_Or_verdict : ByteArray := prog_1_method_11_code
def y_Or_verdict : MethodName := ⟨R_Or, "verdict", "(IJ)I"⟩
abbrev b_Or_why : ByteArray := prog_1_method_12_code
def y_Or_why : MethodName := ⟨R_Or, "why", "(I)I"⟩
abbrev b_Or_share : ByteArray := prog_1_method_13_code
def y_Or_share : MethodName := ⟨R_Or, "share", "(JI)J"⟩
abbrev b_Or_proof : ByteArray := prog_1_method_14_code
def y_Or_proof : MethodName := ⟨R_Or, "proof", "(III)I"⟩
abbrev b_Or_good : ByteArray := prog_1_method_15_code
def y_Or_good : MethodName := ⟨R_Or, "good", "(IJI)Z"⟩
abbrev b_Or_own : ByteArray := prog_1_method_16_code
def y_Or_own : MethodName := ⟨R_Or, "own", "(I)Z"⟩
abbrev b_Or_count : ByteArray := prog_1_method_17_code
def y_Or_count : MethodName := ⟨R_Or, "count", "(I)I"⟩
abbrev b_Or_ruleHolds : ByteArray := prog_1_method_18_code
def y_Or_ruleHolds : MethodName := ⟨R_Or, "ruleHolds", "(IIJ)Z"⟩
abbrev b_Or_keepAnswer : ByteArray := prog_1_method_19_code
def y_Or_keepAnswer : MethodName := ⟨R_Or, "keepAnswer", "(IZ)V"⟩
abbrev b_Or_factorHolds : ByteArray := prog_1_method_20_code
def y_Or_factorHolds : MethodName := ⟨R_Or, "factorHolds", "(IIJ)Z"⟩
abbrev b_Or_isChanged : ByteArray := prog_1_method_21_code
def y_Or_isChanged : MethodName := ⟨R_Or, "isChanged", "(IIJ)Z"⟩
abbrev b_Or_isShareWithin : ByteArray := prog_1_method_22_code
def y_Or_isShareWithin : MethodName := ⟨R_Or, "isShareWithin", "(IJ)Z"⟩
abbrev b_Or_isCode : ByteArray := prog_1_method_23_code
def y_Or_isCode : MethodName := ⟨R_Or, "isCode", "(I)Z"⟩
abbrev b_Or_isLand : ByteArray := prog_1_method_24_code
def y_Or_isLand : MethodName := ⟨R_Or, "isLand", "(I)Z"⟩
abbrev b_Or_isCents : ByteArray := prog_1_method_25_code
def y_Or_isCents : MethodName := ⟨R_Or, "isCents", "(J)Z"⟩
abbrev b_Or_isProcess : ByteArray := prog_1_method_26_code
def y_Or_isProcess : MethodName := ⟨R_Or, "isProcess", "(I)Z"⟩
abbrev b_Or_isDay : ByteArray := prog_1_method_27_code
def y_Or_isDay : MethodName := ⟨R_Or, "isDay", "(I)Z"⟩
abbrev b_Or_isDigit : ByteArray := prog_1_method_28_code
def y_Or_isDigit : MethodName := ⟨R_Or, "isDigit", "(C)Z"⟩
abbrev b_Or_isLetter : ByteArray := prog_1_method_29_code
def y_Or_isLetter : MethodName := ⟨R_Or, "isLetter", "(C)Z"⟩
abbrev b_Or_hasBit : ByteArray := prog_1_method_30_code
def y_Or_hasBit : MethodName := ⟨R_Or, "hasBit", "(II)Z"⟩
abbrev b_Or_beginning : ByteArray := prog_1_method_31_code
def y_Or_beginning : MethodName := ⟨R_Or, "beginning", "(II)I"⟩
abbrev b_Or_greatestDivisor : ByteArray := prog_1_method_32_code
def y_Or_greatestDivisor : MethodName := ⟨R_Or, "greatestDivisor", "(JJ)J"⟩
abbrev b_Text_init : ByteArray := prog_6_method_1_code
def y_Text_init : MethodName := ⟨R_Text, "<init>", "()V"⟩
abbrev b_Text_add : ByteArray := prog_6_method_2_code
def y_Text_add : MethodName := ⟨R_Text, "add", "(C)V"⟩
abbrev b_Text_rowsOrWrongPlace : ByteArray := prog_6_method_3_code
def y_Text_rowsOrWrongPlace : MethodName := ⟨R_Text, "rowsOrWrongPlace", "()I"⟩
abbrev b_Text_passesRow : ByteArray := prog_6_method_4_code
def y_Text_passesRow : MethodName := ⟨R_Text, "passesRow", "()Z"⟩
abbrev b_Text_passesRule : ByteArray := prog_6_method_5_code
def y_Text_passesRule : MethodName := ⟨R_Text, "passesRule", "()Z"⟩
abbrev b_Text_passesFactor : ByteArray := prog_6_method_6_code
def y_Text_passesFactor : MethodName := ⟨R_Text, "passesFactor", "()Z"⟩
abbrev b_Text_passesDigits : ByteArray := prog_6_method_7_code
def y_Text_passesDigits : MethodName := ⟨R_Text, "passesDigits", "(II)Z"⟩
abbrev b_Text_passesSign : ByteArray := prog_6_method_8_code
def y_Text_passesSign : MethodName := ⟨R_Text, "passesSign", "(C)Z"⟩
abbrev b_Rows_init : ByteArray := prog_5_method_1_code
def y_Rows_init : MethodName := ⟨R_Rows, "<init>", "()V"⟩
abbrev b_Rows_replace : ByteArray := prog_5_method_2_code
def y_Rows_replace : MethodName := ⟨R_Rows, "replace", "([CII)V"⟩
abbrev b_Rows_startFor : ByteArray := prog_5_method_3_code
def y_Rows_startFor : MethodName := ⟨R_Rows, "startFor", "(I)I"⟩
abbrev b_Rows_numberAt : ByteArray := prog_5_method_4_code
def y_Rows_numberAt : MethodName := ⟨R_Rows, "numberAt", "(I)I"⟩
abbrev b_Parts_init : ByteArray := prog_3_method_1_code
def y_Parts_init : MethodName := ⟨R_Parts, "<init>", "()V"⟩
abbrev b_Parts_add : ByteArray := prog_3_method_2_code
def y_Parts_add : MethodName := ⟨R_Parts, "add", "(IIJ)I"⟩
abbrev b_Parts_forget : ByteArray := prog_3_method_3_code
def y_Parts_forget : MethodName := ⟨R_Parts, "forget", "()I"⟩
abbrev b_Parts_foreignParts : ByteArray := prog_3_method_4_code
def y_Parts_foreignParts : MethodName := ⟨R_Parts, "foreignParts", "(I)I"⟩
abbrev b_Parts_foreignCents : ByteArray := prog_3_method_5_code
def y_Parts_foreignCents : MethodName := ⟨R_Parts, "foreignCents", "(I)J"⟩
abbrev b_Parts_foreignCentsAlike : ByteArray := prog_3_method_6_code
def y_Parts_foreignCentsAlike : MethodName := ⟨R_Parts, "foreignCentsAlike", "(III)J"⟩
abbrev b_Lands_init : ByteArray := prog_2_method_1_code
def y_Lands_init : MethodName := ⟨R_Lands, "<init>", "()V"⟩
abbrev b_Lands_addPair : ByteArray := prog_2_method_2_code
def y_Lands_addPair : MethodName := ⟨R_Lands, "addPair", "(II)Z"⟩
abbrev b_Lands_ownLands : ByteArray := prog_2_method_3_code
def y_Lands_ownLands : MethodName := ⟨R_Lands, "ownLands", "()I"⟩
abbrev b_Proofs_init : ByteArray := prog_4_method_1_code
def y_Proofs_init : MethodName := ⟨R_Proofs, "<init>", "()V"⟩
abbrev b_Proofs_add : ByteArray := prog_4_method_2_code
def y_Proofs_add : MethodName := ⟨R_Proofs, "add", "(III)I"⟩
abbrev b_Proofs_isGood : ByteArray := prog_4_method_3_code
def y_Proofs_isGood : MethodName := ⟨R_Proofs, "isGood", "(IJI)Z"⟩
abbrev b_Md_init : ByteArray := prog_8_method_1_code
def y_Md_init : MethodName := ⟨R_Md, "<init>", "()V"⟩
abbrev b_Md_thrown : ByteArray := prog_8_method_2_code
def y_Md_thrown : MethodName := ⟨R_Md, "thrown", "()I"⟩
abbrev b_Md_refuse : ByteArray := prog_8_method_3_code
def y_Md_refuse : MethodName := ⟨R_Md, "refuse", "(I)I"⟩
abbrev b_Md_in : ByteArray := prog_8_method_4_code
def y_Md_in : MethodName := ⟨R_Md, "in", "(JJJ)Z"⟩
abbrev b_Md_isDigit : ByteArray := prog_8_method_5_code
def y_Md_isDigit : MethodName := ⟨R_Md, "isDigit", "(I)Z"⟩
abbrev b_Md_sign : ByteArray := prog_8_method_6_code
def y_Md_sign : MethodName := ⟨R_Md, "sign", "(I)Z"⟩
abbrev b_Md_behind : ByteArray := prog_8_method_7_code
def y_Md_behind : MethodName := ⟨R_Md, "behind", "(II)I"⟩
abbrev b_Md_ahead : ByteArray := prog_8_method_8_code
def y_Md_ahead : MethodName := ⟨R_Md, "ahead", "(II)I"⟩
abbrev b_Md_read : ByteArray := prog_8_method_9_code
def y_Md_read : MethodName := ⟨R_Md, "read", "()I"⟩
abbrev b_Md_begin : ByteArray := prog_8_method_10_code
def y_Md_begin : MethodName := ⟨R_Md, "begin", "(II)I"⟩
abbrev b_Md_rowOf : ByteArray := prog_8_method_11_code
def y_Md_rowOf : MethodName := ⟨R_Md, "rowOf", "(I)I"⟩
abbrev b_Md_part : ByteArray := prog_8_method_12_code
def y_Md_part : MethodName := ⟨R_Md, "part", "(IIJ)I"⟩
abbrev b_Md_clear : ByteArray := prog_8_method_13_code
def y_Md_clear : MethodName := ⟨R_Md, "clear", "()I"⟩
abbrev b_Md_process : ByteArray := prog_8_method_14_code
def y_Md_process : MethodName := ⟨R_Md, "process", "(I)Z"⟩
abbrev b_Md_bar : ByteArray := prog_8_method_15_code
def y_Md_bar : MethodName := ⟨R_Md, "bar", "(IZ)Z"⟩
abbrev b_Md_join : ByteArray := prog_8_method_16_code
def y_Md_join : MethodName := ⟨R_Md, "join", "(II)I"⟩
abbrev b_Md_full : ByteArray := prog_8_method_17_code
def y_Md_full : MethodName := ⟨R_Md, "full", "(Z)Z"⟩
abbrev b_Md_tolerance : ByteArray := prog_8_method_18_code
def y_Md_tolerance : MethodName := ⟨R_Md, "tolerance", "(II)Z"⟩
abbrev b_Md_isOwn : ByteArray := prog_8_method_19_code
def y_Md_isOwn : MethodName := ⟨R_Md, "isOwn", "(I)Z"⟩
abbrev b_Md_own : ByteArray := prog_8_method_20_code
def y_Md_own : MethodName := ⟨R_Md, "own", "(I)Z"⟩
abbrev b_Md_foreign : ByteArray := prog_8_method_21_code
def y_Md_foreign : MethodName := ⟨R_Md, "foreign", "()J"⟩
abbrev b_Md_isOther : ByteArray := prog_8_method_22_code
def y_Md_isOther : MethodName := ⟨R_Md, "isOther", "(IJI)Z"⟩
abbrev b_Md_numberAt : ByteArray := prog_8_method_23_code
def y_Md_numberAt : MethodName := ⟨R_Md, "numberAt", "(I)I"⟩
abbrev b_Md_holds : ByteArray := prog_8_method_24_code
def y_Md_holds : MethodName := ⟨R_Md, "holds", "(IIJ)Z"⟩
abbrev b_Md_ruled : ByteArray := prog_8_method_25_code
def y_Md_ruled : MethodName := ⟨R_Md, "ruled", "(IIJ)Z"⟩
abbrev b_Md_verdict : ByteArray := prog_8_method_26_code
def y_Md_verdict : MethodName := ⟨R_Md, "verdict", "(IJ)I"⟩
abbrev b_Md_why : ByteArray := prog_8_method_27_code
def y_Md_why : MethodName := ⟨R_Md, "why", "(I)I"⟩
abbrev b_Md_share : ByteArray := prog_8_method_28_code
def y_Md_share : MethodName := ⟨R_Md, "share", "(JI)J"⟩
abbrev b_Md_isDay : ByteArray := prog_8_method_29_code
def y_Md_isDay : MethodName := ⟨R_Md, "isDay", "(I)Z"⟩
abbrev b_Md_proof : ByteArray := prog_8_method_30_code
def y_Md_proof : MethodName := ⟨R_Md, "proof", "(III)I"⟩
abbrev b_Md_good : ByteArray := prog_8_method_31_code
def y_Md_good : MethodName := ⟨R_Md, "good", "(IJI)Z"⟩
abbrev b_Md_count : ByteArray := prog_8_method_32_code
def y_Md_count : MethodName := ⟨R_Md, "count", "(I)I"⟩
abbrev b_Law_part : ByteArray := method_3_code
def y_Law_part : MethodName := ⟨R_Law, "part", "(LOriginRules;IIJ[J)I"⟩
abbrev b_Law_join : ByteArray := method_4_code
def y_Law_join : MethodName := ⟨R_Law, "join", "(LOriginRules;II[J)I"⟩
abbrev b_Law_verdict : ByteArray := method_5_code
def y_Law_verdict : MethodName := ⟨R_Law, "verdict", "(LOriginRules;IJ[J)I"⟩
abbrev b_Law_share : ByteArray := method_6_code
def y_Law_share : MethodName := ⟨R_Law, "share", "(LOriginRules;JI[J)I"⟩
abbrev b_Law_proof : ByteArray := method_7_code
def y_Law_proof : MethodName := ⟨R_Law, "proof", "(LOriginRules;III[J)I"⟩
abbrev b_Law_good : ByteArray := method_8_code
def y_Law_good : MethodName := ⟨R_Law, "good", "(LOriginRules;IJI[J)I"⟩
abbrev b_Law_own : ByteArray := method_9_code
def y_Law_own : MethodName := ⟨R_Law, "own", "(LOriginRules;I[J)I"⟩
def NL : List Cond := [Cond.fieldLinkNest R_Or 191 R_Rows "signs" "[C" R_Or, Cond.fieldLinkNest R_Or 101 R_Parts "size" "I" R_Or, Cond.fieldLinkNest R_Or 190 R_Rows "length" "I" R_Or, Cond.fieldLinkNest R_Or 64 R_Text "length" "I" R_Or, Cond.fieldLinkNest R_Or 75 R_Text "signs" "[C" R_Or, Cond.fieldLinkNest R_Or 127 R_Lands "isFull" "Z" R_Or, Cond.fieldLinkNest R_Or 183 R_Rows "size" "I" R_Or, Cond.fieldLinkNest R_Or 187 R_Lands "pairs" "I" R_Or, Cond.fieldLinkNest R_Or 169 R_Proofs "size" "I" R_Or, Cond.methodLinkNest R_Text 41 y_Or_isDigit R_Or, Cond.methodLinkNest R_Rows 36 y_Or_isDigit R_Or, Cond.methodLinkNest R_Rows 28 y_Or_beginning R_Or, Cond.methodLinkNest R_Parts 26 y_Or_hasBit R_Or, Cond.methodLinkNest R_Parts 30 y_Or_beginning R_Or, Cond.methodLinkNest R_Lands 23 y_Or_hasBit R_Or, Cond.methodLinkNest R_Or 9 y_Text_init R_Or, Cond.methodLinkNest R_Or 18 y_Rows_init R_Or, Cond.methodLinkNest R_Or 25 y_Parts_init R_Or, Cond.methodLinkNest R_Or 32 y_Lands_init R_Or, Cond.methodLinkNest R_Or 39 y_Proofs_init R_Or]
def isNest : Cond → Bool
  | .fieldLinkNest .. => true
  | .methodLinkNest .. => true
  | _ => false
theorem NL_ok : ∀ w ∈ NL, isNest w = true := by decide +kernel
theorem nl_0 : (Cond.fieldLinkNest R_Or 191 R_Rows "signs" "[C" R_Or) ∈ NL := List.mem_of_getElem? (i := 0) rfl
theorem nl_1 : (Cond.fieldLinkNest R_Or 101 R_Parts "size" "I" R_Or) ∈ NL := List.mem_of_getElem? (i := 1) rfl
theorem nl_2 : (Cond.fieldLinkNest R_Or 190 R_Rows "length" "I" R_Or) ∈ NL := List.mem_of_getElem? (i := 2) rfl
theorem nl_3 : (Cond.fieldLinkNest R_Or 64 R_Text "length" "I" R_Or) ∈ NL := List.mem_of_getElem? (i := 3) rfl
theorem nl_4 : (Cond.fieldLinkNest R_Or 75 R_Text "signs" "[C" R_Or) ∈ NL := List.mem_of_getElem? (i := 4) rfl
theorem nl_5 : (Cond.fieldLinkNest R_Or 127 R_Lands "isFull" "Z" R_Or) ∈ NL := List.mem_of_getElem? (i := 5) rfl
theorem nl_6 : (Cond.fieldLinkNest R_Or 183 R_Rows "size" "I" R_Or) ∈ NL := List.mem_of_getElem? (i := 6) rfl
theorem nl_7 : (Cond.fieldLinkNest R_Or 187 R_Lands "pairs" "I" R_Or) ∈ NL := List.mem_of_getElem? (i := 7) rfl
theorem nl_8 : (Cond.fieldLinkNest R_Or 169 R_Proofs "size" "I" R_Or) ∈ NL := List.mem_of_getElem? (i := 8) rfl
theorem nl_9 : (Cond.methodLinkNest R_Text 41 y_Or_isDigit R_Or) ∈ NL := List.mem_of_getElem? (i := 9) rfl
theorem nl_10 : (Cond.methodLinkNest R_Rows 36 y_Or_isDigit R_Or) ∈ NL := List.mem_of_getElem? (i := 10) rfl
theorem nl_11 : (Cond.methodLinkNest R_Rows 28 y_Or_beginning R_Or) ∈ NL := List.mem_of_getElem? (i := 11) rfl
theorem nl_12 : (Cond.methodLinkNest R_Parts 26 y_Or_hasBit R_Or) ∈ NL := List.mem_of_getElem? (i := 12) rfl
theorem nl_13 : (Cond.methodLinkNest R_Parts 30 y_Or_beginning R_Or) ∈ NL := List.mem_of_getElem? (i := 13) rfl
theorem nl_14 : (Cond.methodLinkNest R_Lands 23 y_Or_hasBit R_Or) ∈ NL := List.mem_of_getElem? (i := 14) rfl
theorem nl_15 : (Cond.methodLinkNest R_Or 9 y_Text_init R_Or) ∈ NL := List.mem_of_getElem? (i := 15) rfl
theorem nl_16 : (Cond.methodLinkNest R_Or 18 y_Rows_init R_Or) ∈ NL := List.mem_of_getElem? (i := 16) rfl
theorem nl_17 : (Cond.methodLinkNest R_Or 25 y_Parts_init R_Or) ∈ NL := List.mem_of_getElem? (i := 17) rfl
theorem nl_18 : (Cond.methodLinkNest R_Or 32 y_Lands_init R_Or) ∈ NL := List.mem_of_getElem? (i := 18) rfl
theorem nl_19 : (Cond.methodLinkNest R_Or 39 y_Proofs_init R_Or) ∈ NL := List.mem_of_getElem? (i := 19) rfl
theorem NL_in : ∀ w ∈ NL, w ∈ lw_tbl := by decide +kernel
end
section
-- models: partial functions (none: an index out of range, a division by 0, no fuel)
def bI : Bool → Int32
  | true => 1
  | false => 0
theorem bI_nar (b : Bool) : narrow .boolean (.int (bI b)) = .int (bI b) := by cases b <;> rfl
theorem bI_fit (b : Bool) : fits .boolean (.int (bI b)) = true := by cases b <;> rfl
theorem itT {α : Type} {c : Prop} [Decidable c] {a b r : Option α} (h : (if c then a else b) = r) (hc : c) : a = r := by rw [if_pos hc] at h; exact h
theorem itF {α : Type} {c : Prop} [Decidable c] {a b r : Option α} (h : (if c then a else b) = r) (hc : ¬ c) : b = r := by rw [if_neg hc] at h; exact h
def ixg {α : Type} (i : Int32) (n : Nat) (k : Option α) : Option α := if i < 0 ∨ n ≤ i.toNatClampNeg then none else k
theorem ixT {α : Type} {i : Int32} {n : Nat} {k : Option α} {r : α} (h : ixg i n k = some r) : vp_in i n ∧ k = some r := by
  unfold ixg at h
  by_cases hc : i < 0 ∨ n ≤ i.toNatClampNeg
  · rw [if_pos hc] at h; cases h
  · rw [if_neg hc] at h; exact ⟨hc, h⟩
def nzgI {α : Type} (y : Int32) (k : Option α) : Option α := if y = 0 then none else k
theorem nzTI {α : Type} {y : Int32} {k : Option α} {r : α} (h : nzgI y k = some r) : ¬ y = 0 ∧ k = some r := by
  unfold nzgI at h
  by_cases hc : y = 0
  · rw [if_pos hc] at h; cases h
  · rw [if_neg hc] at h; exact ⟨hc, h⟩
def nzgJ {α : Type} (y : Int64) (k : Option α) : Option α := if y = 0 then none else k
theorem nzTJ {α : Type} {y : Int64} {k : Option α} {r : α} (h : nzgJ y k = some r) : ¬ y = 0 ∧ k = some r := by
  unfold nzgJ at h
  by_cases hc : y = 0
  · rw [if_pos hc] at h; cases h
  · rw [if_neg hc] at h; exact ⟨hc, h⟩
def acg {α : Type} (ty : FieldType) (sp dp n : Int32) (n0 n1 : Nat) (f : Nat → Int32) (k : Option α) : Option α :=
  if ¬ sp < 0 ∧ ¬ dp < 0 ∧ ¬ n < 0 ∧ sp.toNatClampNeg + n.toNatClampNeg ≤ n0 ∧ dp.toNatClampNeg + n.toNatClampNeg ≤ n1 ∧ (∀ i, i < n.toNatClampNeg → fits ty (.int (f (sp.toNatClampNeg + i))) = true) then k else none
theorem acT {α : Type} {ty : FieldType} {sp dp n : Int32} {n0 n1 : Nat} {f : Nat → Int32} {k : Option α} {r : α} (h : acg ty sp dp n n0 n1 f k = some r) :
    ¬ sp < 0 ∧ ¬ dp < 0 ∧ ¬ n < 0 ∧ sp.toNatClampNeg + n.toNatClampNeg ≤ n0 ∧ dp.toNatClampNeg + n.toNatClampNeg ≤ n1 ∧ (∀ i, i < n.toNatClampNeg → fits ty (.int (f (sp.toNatClampNeg + i))) = true) ∧ k = some r := by
  unfold acg at h
  split at h
  · rename_i hc
    exact ⟨hc.1, hc.2.1, hc.2.2.1, hc.2.2.2.1, hc.2.2.2.2.1, hc.2.2.2.2.2, h⟩
  · cases h
theorem tsw8 {x : Int32} (h0 : ¬ x = 0) (h1 : ¬ x = 1) (h2 : ¬ x = 2) (h3 : ¬ x = 3) (h4 : ¬ x = 4) (h5 : ¬ x = 5) (h6 : ¬ x = 6) (h7 : ¬ x = 7) : x.toInt < 0 ∨ 7 < x.toInt := by
  have g0 := lv_neT (a := 0) h0 rfl
  have g1 := lv_neT (a := 1) h1 rfl
  have g2 := lv_neT (a := 2) h2 rfl
  have g3 := lv_neT (a := 3) h3 rfl
  have g4 := lv_neT (a := 4) h4 rfl
  have g5 := lv_neT (a := 5) h5 rfl
  have g6 := lv_neT (a := 6) h6 rfl
  have g7 := lv_neT (a := 7) h7 rfl
  omega
def bd0 {δ : Type} (x : Option (Unit)) (f : Unit → Option δ) : Option δ := match x with
  | some () => f ()
  | none => none
theorem bd0T {δ : Type} {x : Option (Unit)} {f : Unit → Option δ} {r : δ} (h : bd0 x f = some r) : x = some () ∧ f () = some r := by
  cases x with
  | none => exact absurd (show (none : Option δ) = some r from h) (by simp)
  | some q => exact ⟨rfl, h⟩
def bd1 {α0 δ : Type} (x : Option (α0)) (f : α0 → Option δ) : Option δ := match x with
  | some a0 => f a0
  | none => none
theorem bd1T {α0 δ : Type} {x : Option (α0)} {f : α0 → Option δ} {r : δ} (h : bd1 x f = some r) : ∃ a0, x = some a0 ∧ f a0 = some r := by
  cases x with
  | none => exact absurd (show (none : Option δ) = some r from h) (by simp)
  | some q => exact ⟨q, rfl, h⟩
def bd2 {α0 α1 δ : Type} (x : Option (α0 × α1)) (f : α0 → α1 → Option δ) : Option δ := match x with
  | some (a0, a1) => f a0 a1
  | none => none
theorem bd2T {α0 α1 δ : Type} {x : Option (α0 × α1)} {f : α0 → α1 → Option δ} {r : δ} (h : bd2 x f = some r) : ∃ a0 a1, x = some (a0, a1) ∧ f a0 a1 = some r := by
  cases x with
  | none => exact absurd (show (none : Option δ) = some r from h) (by simp)
  | some q => exact ⟨q.1, q.2, rfl, h⟩
def bd3 {α0 α1 α2 δ : Type} (x : Option (α0 × α1 × α2)) (f : α0 → α1 → α2 → Option δ) : Option δ := match x with
  | some (a0, a1, a2) => f a0 a1 a2
  | none => none
theorem bd3T {α0 α1 α2 δ : Type} {x : Option (α0 × α1 × α2)} {f : α0 → α1 → α2 → Option δ} {r : δ} (h : bd3 x f = some r) : ∃ a0 a1 a2, x = some (a0, a1, a2) ∧ f a0 a1 a2 = some r := by
  cases x with
  | none => exact absurd (show (none : Option δ) = some r from h) (by simp)
  | some q => exact ⟨q.1, q.2.1, q.2.2, rfl, h⟩
def bd4 {α0 α1 α2 α3 δ : Type} (x : Option (α0 × α1 × α2 × α3)) (f : α0 → α1 → α2 → α3 → Option δ) : Option δ := match x with
  | some (a0, a1, a2, a3) => f a0 a1 a2 a3
  | none => none
theorem bd4T {α0 α1 α2 α3 δ : Type} {x : Option (α0 × α1 × α2 × α3)} {f : α0 → α1 → α2 → α3 → Option δ} {r : δ} (h : bd4 x f = some r) : ∃ a0 a1 a2 a3, x = some (a0, a1, a2, a3) ∧ f a0 a1 a2 a3 = some r := by
  cases x with
  | none => exact absurd (show (none : Option δ) = some r from h) (by simp)
  | some q => exact ⟨q.1, q.2.1, q.2.2.1, q.2.2.2, rfl, h⟩
def bd5 {α0 α1 α2 α3 α4 δ : Type} (x : Option (α0 × α1 × α2 × α3 × α4)) (f : α0 → α1 → α2 → α3 → α4 → Option δ) : Option δ := match x with
  | some (a0, a1, a2, a3, a4) => f a0 a1 a2 a3 a4
  | none => none
theorem bd5T {α0 α1 α2 α3 α4 δ : Type} {x : Option (α0 × α1 × α2 × α3 × α4)} {f : α0 → α1 → α2 → α3 → α4 → Option δ} {r : δ} (h : bd5 x f = some r) : ∃ a0 a1 a2 a3 a4, x = some (a0, a1, a2, a3, a4) ∧ f a0 a1 a2 a3 a4 = some r := by
  cases x with
  | none => exact absurd (show (none : Option δ) = some r from h) (by simp)
  | some q => exact ⟨q.1, q.2.1, q.2.2.1, q.2.2.2.1, q.2.2.2.2, rfl, h⟩
def bd6 {α0 α1 α2 α3 α4 α5 δ : Type} (x : Option (α0 × α1 × α2 × α3 × α4 × α5)) (f : α0 → α1 → α2 → α3 → α4 → α5 → Option δ) : Option δ := match x with
  | some (a0, a1, a2, a3, a4, a5) => f a0 a1 a2 a3 a4 a5
  | none => none
theorem bd6T {α0 α1 α2 α3 α4 α5 δ : Type} {x : Option (α0 × α1 × α2 × α3 × α4 × α5)} {f : α0 → α1 → α2 → α3 → α4 → α5 → Option δ} {r : δ} (h : bd6 x f = some r) : ∃ a0 a1 a2 a3 a4 a5, x = some (a0, a1, a2, a3, a4, a5) ∧ f a0 a1 a2 a3 a4 a5 = some r := by
  cases x with
  | none => exact absurd (show (none : Option δ) = some r from h) (by simp)
  | some q => exact ⟨q.1, q.2.1, q.2.2.1, q.2.2.2.1, q.2.2.2.2.1, q.2.2.2.2.2, rfl, h⟩
def bd7 {α0 α1 α2 α3 α4 α5 α6 δ : Type} (x : Option (α0 × α1 × α2 × α3 × α4 × α5 × α6)) (f : α0 → α1 → α2 → α3 → α4 → α5 → α6 → Option δ) : Option δ := match x with
  | some (a0, a1, a2, a3, a4, a5, a6) => f a0 a1 a2 a3 a4 a5 a6
  | none => none
theorem bd7T {α0 α1 α2 α3 α4 α5 α6 δ : Type} {x : Option (α0 × α1 × α2 × α3 × α4 × α5 × α6)} {f : α0 → α1 → α2 → α3 → α4 → α5 → α6 → Option δ} {r : δ} (h : bd7 x f = some r) : ∃ a0 a1 a2 a3 a4 a5 a6, x = some (a0, a1, a2, a3, a4, a5, a6) ∧ f a0 a1 a2 a3 a4 a5 a6 = some r := by
  cases x with
  | none => exact absurd (show (none : Option δ) = some r from h) (by simp)
  | some q => exact ⟨q.1, q.2.1, q.2.2.1, q.2.2.2.1, q.2.2.2.2.1, q.2.2.2.2.2.1, q.2.2.2.2.2.2, rfl, h⟩
def bd8 {α0 α1 α2 α3 α4 α5 α6 α7 δ : Type} (x : Option (α0 × α1 × α2 × α3 × α4 × α5 × α6 × α7)) (f : α0 → α1 → α2 → α3 → α4 → α5 → α6 → α7 → Option δ) : Option δ := match x with
  | some (a0, a1, a2, a3, a4, a5, a6, a7) => f a0 a1 a2 a3 a4 a5 a6 a7
  | none => none
theorem bd8T {α0 α1 α2 α3 α4 α5 α6 α7 δ : Type} {x : Option (α0 × α1 × α2 × α3 × α4 × α5 × α6 × α7)} {f : α0 → α1 → α2 → α3 → α4 → α5 → α6 → α7 → Option δ} {r : δ} (h : bd8 x f = some r) : ∃ a0 a1 a2 a3 a4 a5 a6 a7, x = some (a0, a1, a2, a3, a4, a5, a6, a7) ∧ f a0 a1 a2 a3 a4 a5 a6 a7 = some r := by
  cases x with
  | none => exact absurd (show (none : Option δ) = some r from h) (by simp)
  | some q => exact ⟨q.1, q.2.1, q.2.2.1, q.2.2.2.1, q.2.2.2.2.1, q.2.2.2.2.2.1, q.2.2.2.2.2.2.1, q.2.2.2.2.2.2.2, rfl, h⟩
-- the words that any callee may take: those of the tables that a caller may hand on
def TB : List Cond := lw_tbl.filter goodWord
theorem TB_in {w : Cond} (h : w ∈ lw_tbl) (g : goodWord w = true) : w ∈ TB := List.mem_filter.mpr ⟨h, g⟩
theorem TB_good : ∀ w ∈ TB, (w.onTables && w.keeps) = true ∨ ∃ ty, w = .arrayClass ty := fun _ h => good_of_word (List.mem_filter.mp h).2
abbrev WS (y : MethodName) (b : ByteArray) (n : Nat) (ret : Option FieldType) : List Cond := Cond.code y b n ret :: TB
theorem TB_ws {y : MethodName} {b : ByteArray} {n : Nat} {ret : Option FieldType} (h : Cond.code y b n ret ∈ TB) : GoodIn TB (WS y b n ret) := fun w hw => by
  rcases List.mem_cons.mp hw with rfl | hw
  · exact ⟨h, TB_good _ h⟩
  · exact ⟨hw, TB_good _ hw⟩
theorem TB_cons {w : Cond} {ws : List Cond} (h : w ∈ TB) (g : GoodIn TB ws) : GoodIn TB (w :: ws) := fun v hv => by
  rcases List.mem_cons.mp hv with rfl | hv
  · exact ⟨h, TB_good _ h⟩
  · exact g v hv
-- what the tables say: classes, array classes, links across the nest
abbrev tyL (cT : Nat → ClassId) : List (ClassId × FieldType) := [(cT 0, .int), (cT 1, .long), (cT 2, .char), (cT 3, .boolean), (cT 4, .byte)]
def NW (U : State) : Prop := ∀ w ∈ NL, va_Nw w U
theorem NW.warm {s U : State} (hW : s.WarmedH U.vm) (h : NW s) : NW U := by
  intro w hw
  have hz := h w hw
  have hn : isNest w = true := NL_ok w hw
  unfold isNest at hn
  split at hn
  · exact va_Nw.warmF hW hz
  · exact va_Nw.warmM hW hz
  · cases hn
theorem NW.same {u U : State} (e : u.vm = U.vm) (h : NW u) : NW U := by
  intro w hw
  have hz := h w hw
  have hn : isNest w = true := NL_ok w hw
  unfold isNest at hn
  split at hn
  · exact va_Nw.same rfl e hz
  · exact va_Nw.same rfl e hz
  · cases hn
def EN (D : va_G) (cT : Nat → ClassId) (U : State) : Prop := va_K D classes (tyL cT) U ∧ NW U
theorem EN.warm {D : va_G} {cT : Nat → ClassId} {s U : State} (hW : s.WarmedH U.vm) (h : EN D cT s) : EN D cT U := ⟨va_K.moved hW.alike h.1, h.2.warm hW⟩
theorem EN.calling {D : va_G} {cT : Nat → ClassId} {U : State} (g : JFrame) (mk : MethodId) (a : Array Value) (h : EN D cT U) : EN D cT (U.calling g mk a) := ⟨va_K.moved (u := U) (U := U.calling g mk a) (Vm.Alike.refl U.vm) h.1, NW.same (u := U) rfl h.2⟩
-- a contract: from any heap that holds the cells wc the method ends with r, and the heap holds w1 in their place
def pcW (D : va_G) (cT : Nat → ClassId) (av : List Value) (wc : va_W) (sz : Nat) : Array Value → State → Prop := va_Pc av (fun U => U.heap.size = sz ∧ va_P D classes wc U.heap ∧ EN D cT U ∧ va_D (fun _ => True) wc)
def qW (D : va_G) (A : Nat → Prop) (w1 : va_W) (r : Option Value) : Array Value → State → Outcome → State → Prop := fun _ st o t => (o = .returned r ∧ va_P D classes w1 t.heap ∧ va_D A w1) ∧ va_F A st t
def Ct (l : Launch) (y : MethodName) (ws : List Cond) (rm : Room) (D : va_G) (cT : Nat → ClassId) (av : List Value) (wc : va_W) (r : Option Value) (w1 : va_W) (mc ms : Nat) : Prop :=
  ∀ sz : Nat, Met l y ws rm (pcW D cT av wc sz) (qW D (va_A wc sz) w1 r) mc ms (va_A wc sz)
theorem pcW.blind {D : va_G} {cT : Nat → ClassId} {av : List Value} {wc : va_W} {sz : Nat} : FrameBlind (pcW D cT av wc sz) := fun a U g mk q => by
  obtain ⟨q0, q1, qP, qE, qD⟩ := q
  exact ⟨q0, q1, qP, qE.calling g mk a, qD⟩
theorem pcW.pre {D : va_G} {cT : Nat → ClassId} {av : List Value} {wc : va_W} {s : State} {H : Heap} {A : Nat → Prop} (hE : EN D cT s) (hP : va_P D classes wc H) (hD : va_D A wc) : ∀ U : State, U.heap = H → s.WarmedH U.vm → pcW D cT av wc H.size av.toArray U := fun U hU hW =>
  ⟨rfl, by rw [hU], by rw [hU]; exact hP, hE.warm hW, hD.weaken (fun _ _ _ _ => trivial)⟩
theorem fm_of_map {α β : Type} {f : α → Option β} {l : List α} {w : List β} (h : l.map f = w.map some) : l.filterMap f = w := by
  have e : l.filterMap f = (l.map f).filterMap id := by rw [List.filterMap_map]; rfl
  rw [e, h, List.filterMap_map]
  simp
section CA
variable {p : Program} {l : Launch} {e : Env} {R : Room} {s : State} {m : MethodId} {args : Array Value} {below : List Frame} {meth : Method} {c : Code} {H : Heap} {locs : List Loc} {cells slots : Nat} {Q : State → Prop}
variable {pc : Nat} {ls : Array Slot} {st0 rest : List Value} {D : va_G} {cT : Nat → ClassId} {A : Nat → Prop} {H0 : Heap} {ws wc wr w1 w2 : va_W} {r : Option Value}
/-- a call that makes nothing -/
theorem ca_go {a : Array Value} (hr : va_Run p l e R s m args below meth c H locs cells slots 0 0 (F0 m pc ls st0) rest (qW D (va_A wc H.size) w1 r a) (va_A wc H.size))
    (hP : va_P D classes ws H) (hD : va_D A ws) (hS : va_S A H0 H locs) (hA : ∀ q, H0.size ≤ q → A q) (isC isR isO : List Nat) (hC : isC.map (fun i => ws[i]?) = wc.map some) (hR : isR.map (fun i => ws[i]?) = wr.map some) (hn : va_nd isR = true) (hdis : ∀ i ∈ isR, i ∉ isC) (hO : isO.map (fun i => (wr ++ w1)[i]?) = w2.map some) (hnO : va_nd isO = true)
    (kk : ∀ (H1 : Heap) (locs1 : List Loc), va_P D classes w2 H1 → va_D A w2 → va_S A H0 H1 locs1 → W p l e R s m args below meth c H1 locs1 cells slots Q (F0 m (pc + 3) ls (r.toList ++ rest))) : W p l e R s m args below meth c H locs cells slots Q (F0 m pc ls st0) := by
  intro T hT X
  obtain ⟨v, st₀, t, T', L, h0, X', hL, e1, e2, ⟨⟨hv, hp, hd⟩, hz, hk⟩, st⟩ := hr T hT X
  cases hv
  rw [h0] at hz hk
  have hF := va_free hD hS hA isC hC
  obtain ⟨hP2, hD2⟩ := va_join hP hD isC isR hC hR hn hdis hk hF hp hd
  have hP3 := hP2.sub (ws' := w2) isO (fm_of_map hO)
  have hD3 := hD2.sub (ws' := w2) isO hnO hO
  obtain ⟨t2, a1, b1⟩ := kk T'.heap (locs ++ L) (by rw [e1]; exact hP3) hD3
    ⟨Nat.le_trans hS.1 (by rw [e1]; exact hz), fun q h1 h2 => by rw [e1, hk q (Nat.lt_of_lt_of_le h1 hS.1) (fun z => h2 (hF q z))]; exact hS.2.1 q h1 h2, fun q hq => by
      rcases List.mem_append.mp hq with h | h
      · exact hS.2.2 q h
      · exact hF _ (hL q h)⟩ T' rfl X'
  exact ⟨t2, st t2 a1, b1⟩
def gV (own : String) (index : Nat) (C : String) (y : MethodName) (b : ByteArray) (n : Nat) (ret : Option FieldType) (k : Nat) : Prop := GoodIn TB (wsV own index C y (WS y b n ret)) ∧ y.cls = C ∧ y.cls ≠ "java/lang/invoke/MethodHandle" ∧ y.cls ≠ "java/lang/invoke/VarHandle" ∧ (parseMethodDescriptor y.desc).map (fun d => d.parameters.length) = some k
def gS (own : String) (index : Nat) (y : MethodName) (b : ByteArray) (n : Nat) (ret : Option FieldType) (k : Nat) : Prop := GoodIn TB (va_wsS own index y (WS y b n ret)) ∧ y.cls ≠ "java/lang/invoke/MethodHandle" ∧ y.cls ≠ "java/lang/invoke/VarHandle" ∧ (parseMethodDescriptor y.desc).map (fun d => d.parameters.length) = some k
def gSN (own : String) (index : Nat) (host : String) (y : MethodName) (b : ByteArray) (n : Nat) (ret : Option FieldType) (k : Nat) : Prop := (Cond.code y b n ret ∈ TB ∧ Cond.static y ∈ TB ∧ Cond.initialized y.cls ∈ TB ∧ Cond.methodLinkNest own index y host ∈ NL) ∧ y.cls ≠ "java/lang/invoke/MethodHandle" ∧ y.cls ≠ "java/lang/invoke/VarHandle" ∧ (parseMethodDescriptor y.desc).map (fun d => d.parameters.length) = some k
theorem gV_of {own : String} {index : Nat} {C : String} {y : MethodName} {b : ByteArray} {n : Nat} {ret : Option FieldType} {k : Nat} (h1 : Cond.methodLink own index y ∈ TB) (h2 : Cond.instanceMethod y ∈ TB) (h3 : Cond.selects C y y ∈ TB) (h4 : Cond.initialized C ∈ TB) (h5 : Cond.code y b n ret ∈ TB)
    (hd : y.cls = C ∧ y.cls ≠ "java/lang/invoke/MethodHandle" ∧ y.cls ≠ "java/lang/invoke/VarHandle" ∧ (parseMethodDescriptor y.desc).map (fun d => d.parameters.length) = some k) : gV own index C y b n ret k := ⟨TB_cons h1 (TB_cons h2 (TB_cons h3 (TB_cons h4 (TB_ws h5)))), hd⟩
theorem gS_of {own : String} {index : Nat} {y : MethodName} {b : ByteArray} {n : Nat} {ret : Option FieldType} {k : Nat} (h1 : Cond.methodLink own index y ∈ TB) (h2 : Cond.static y ∈ TB) (h4 : Cond.initialized y.cls ∈ TB) (h5 : Cond.code y b n ret ∈ TB)
    (hd : y.cls ≠ "java/lang/invoke/MethodHandle" ∧ y.cls ≠ "java/lang/invoke/VarHandle" ∧ (parseMethodDescriptor y.desc).map (fun d => d.parameters.length) = some k) : gS own index y b n ret k := ⟨TB_cons h1 (TB_cons h2 (TB_cons h4 (TB_ws h5))), hd⟩
variable {cc : ByteArray} {nL : Nat} {own C host : String} {index : Nat} {y : MethodName} {bytes : ByteArray} {maxL : Nat} {ret : Option FieldType} {rm : Room} {n : Nat} {b : Nat} {As : List Value}
theorem ca_V (S : CallFix p m c cc nL s args TB own) (hE : EN D cT s) (hM : Ct l y (WS y bytes maxL ret) rm D cT (.ref b :: As) wc r w1 0 0) (hg : gV own index C y bytes maxL ret n) (hrc : rm.cells = 0) (hrs : rm.slots = 0) (hRm : rm.frames + 1 ≤ R.frames ∧ 8 + (maxL + 11) + rm.locals ≤ R.locals)
    {ci : Nat} {qc : vw_C} (hci : classes[ci]? = some qc) (hqc : qc.1 = C) {k0 : Nat} {fs : List Value} (hk0 : wc[k0]? = some (b, .inr (ci, fs))) (hn0 : As.length = n) (hsz : ls.size = nL) (hst : st0 = As.reverse ++ .ref b :: rest) (hW : (rest.map fun v => v.category).sum ≤ 8) (hdg : decode cc pc = .ok (.invokevirtual index, 3)) (hf : cells + 0 ≤ R.cells ∧ slots + 0 ≤ R.slots)
    (hP : va_P D classes ws H) (hD : va_D A ws) (hS : va_S A H0 H locs) (hA : ∀ q, H0.size ≤ q → A q) (isC isR isO : List Nat) (hC : isC.map (fun i => ws[i]?) = wc.map some) (hR : isR.map (fun i => ws[i]?) = wr.map some) (hn : va_nd isR = true) (hdis : ∀ i ∈ isR, i ∉ isC) (hO : isO.map (fun i => (wr ++ w1)[i]?) = w2.map some) (hnO : va_nd isO = true) (hnC : va_nd isC = true)
    (kk : ∀ (H1 : Heap) (locs1 : List Loc), va_P D classes w2 H1 → va_D A w2 → va_S A H0 H1 locs1 → W p l e R s m args below meth c H1 locs1 cells slots Q (F0 m (pc + 3) ls (r.toList ++ rest))) : W p l e R s m args below meth c H locs cells slots Q (F0 m pc ls st0) := by
  subst hst
  have hPc : va_P D classes wc H := hP.sub isC (fm_of_map hC)
  have hDc : va_D A wc := hD.sub isC hnC hC
  subst hqc
  exact ca_go (va_runV (As := As) (rest := rest) S (hM H.size) (cwV n S.2.2.2.2 hg.1 rfl hrc hrs hg.2 hRm) ⟨pcW.blind, va_recv hE.1 hPc hci hk0, pcW.pre hE hPc hDc⟩ rfl hn0 hsz rfl (lv_room hW) hdg hf) hP hD hS hA isC isR isO hC hR hn hdis hO hnO kk
theorem ca_S (S : CallFix p m c cc nL s args TB own) (hE : EN D cT s) (hM : Ct l y (WS y bytes maxL ret) rm D cT As wc r w1 0 0) (hg : gS own index y bytes maxL ret n) (hrc : rm.cells = 0) (hrs : rm.slots = 0) (hRm : rm.frames + 1 ≤ R.frames ∧ 8 + (maxL + 11) + rm.locals ≤ R.locals)
    (hn0 : As.length = n) (hsz : ls.size = nL) (hst : st0 = As.reverse ++ rest) (hW : (rest.map fun v => v.category).sum ≤ 8) (hdg : decode cc pc = .ok (.invokestatic index, 3)) (hf : cells + 0 ≤ R.cells ∧ slots + 0 ≤ R.slots)
    (hP : va_P D classes ws H) (hD : va_D A ws) (hS : va_S A H0 H locs) (hA : ∀ q, H0.size ≤ q → A q) (isC isR isO : List Nat) (hC : isC.map (fun i => ws[i]?) = wc.map some) (hR : isR.map (fun i => ws[i]?) = wr.map some) (hn : va_nd isR = true) (hdis : ∀ i ∈ isR, i ∉ isC) (hO : isO.map (fun i => (wr ++ w1)[i]?) = w2.map some) (hnO : va_nd isO = true) (hnC : va_nd isC = true)
    (kk : ∀ (H1 : Heap) (locs1 : List Loc), va_P D classes w2 H1 → va_D A w2 → va_S A H0 H1 locs1 → W p l e R s m args below meth c H1 locs1 cells slots Q (F0 m (pc + 3) ls (r.toList ++ rest))) : W p l e R s m args below meth c H locs cells slots Q (F0 m pc ls st0) := by
  subst hst
  have hPc : va_P D classes wc H := hP.sub isC (fm_of_map hC)
  have hDc : va_D A wc := hD.sub isC hnC hC
  exact ca_go (va_runS (As := As) (rest := rest) S (hM H.size) (va_cwS n S.2.2.2.2 hg.1 rfl hrc hrs hg.2 hRm) ⟨pcW.blind, pcW.pre hE hPc hDc⟩ rfl hn0 hsz rfl (lv_room hW) hdg hf) hP hD hS hA isC isR isO hC hR hn hdis hO hnO kk
theorem ca_SN (S : CallFix p m c cc nL s args TB own) (hE : EN D cT s) (hM : Ct l y (WS y bytes maxL ret) rm D cT As wc r w1 0 0) (hg : gSN own index host y bytes maxL ret n) (hrc : rm.cells = 0) (hrs : rm.slots = 0) (hRm : rm.frames + 1 ≤ R.frames ∧ 8 + (maxL + 11) + rm.locals ≤ R.locals)
    (hn0 : As.length = n) (hsz : ls.size = nL) (hst : st0 = As.reverse ++ rest) (hW : (rest.map fun v => v.category).sum ≤ 8) (hdg : decode cc pc = .ok (.invokestatic index, 3)) (hf : cells + 0 ≤ R.cells ∧ slots + 0 ≤ R.slots)
    (hP : va_P D classes ws H) (hD : va_D A ws) (hS : va_S A H0 H locs) (hA : ∀ q, H0.size ≤ q → A q) (isC isR isO : List Nat) (hC : isC.map (fun i => ws[i]?) = wc.map some) (hR : isR.map (fun i => ws[i]?) = wr.map some) (hn : va_nd isR = true) (hdis : ∀ i ∈ isR, i ∉ isC) (hO : isO.map (fun i => (wr ++ w1)[i]?) = w2.map some) (hnO : va_nd isO = true) (hnC : va_nd isC = true)
    (kk : ∀ (H1 : Heap) (locs1 : List Loc), va_P D classes w2 H1 → va_D A w2 → va_S A H0 H1 locs1 → W p l e R s m args below meth c H1 locs1 cells slots Q (F0 m (pc + 3) ls (r.toList ++ rest))) : W p l e R s m args below meth c H locs cells slots Q (F0 m pc ls st0) := by
  subst hst
  have hPc : va_P D classes wc H := hP.sub isC (fm_of_map hC)
  have hDc : va_D A wc := hD.sub isC hnC hC
  obtain ⟨⟨g1, g2, g3, g4⟩, g5⟩ := hg
  have hts := S.2.2.2.2
  exact ca_go (va_runSN (As := As) (rest := rest) S (hM H.size) ⟨va_cnB n hts (TB_ws g1) rfl hrc hrs (hE.2 _ g4) (hts _ g3) g5 hRm, hts _ g2, trivial⟩ ⟨pcW.blind, pcW.pre hE hPc hDc⟩ rfl hn0 hsz rfl (lv_room hW) hdg hf) hP hD hS hA isC isR isO hC hR hn hdis hO hnO kk
theorem rt_i (S : CallFix p m c cc nL s args TB own) (hr : meth.sig.returnType = some .int) (hlocks : meth.locks = false) {v : Int32} (hP : va_P D classes w1 H) (hD : va_D A w1) (hS : va_S A s.heap H locs) (hdg : decode cc pc = .ok (.ireturn, 1)) : W p l e R s m args below meth c H locs cells slots (MQ below (qW D A w1 (some (.int v))) args s cells slots A) (F0 m pc ls [.int v]) :=
  W.iret S.1 S.2.1 hr (fun t ht hW => ⟨⟨rfl, by rw [ht]; exact hP, hD⟩, hS.F ht⟩) hS.2.2 hdg hlocks
theorem rt_z (S : CallFix p m c cc nL s args TB own) (hr : meth.sig.returnType = some .boolean) (hlocks : meth.locks = false) {v : Bool} (hP : va_P D classes w1 H) (hD : va_D A w1) (hS : va_S A s.heap H locs) (hdg : decode cc pc = .ok (.ireturn, 1)) : W p l e R s m args below meth c H locs cells slots (MQ below (qW D A w1 (some (.int (bI v)))) args s cells slots A) (F0 m pc ls [.int (bI v)]) :=
  W.zret S.1 S.2.1 hr (bI_nar v) (fun t ht hW => ⟨⟨rfl, by rw [ht]; exact hP, hD⟩, hS.F ht⟩) hS.2.2 hdg hlocks
theorem rt_j (S : CallFix p m c cc nL s args TB own) (hr : meth.sig.returnType = some .long) (hlocks : meth.locks = false) {v : Int64} (hP : va_P D classes w1 H) (hD : va_D A w1) (hS : va_S A s.heap H locs) (hdg : decode cc pc = .ok (.lreturn, 1)) : W p l e R s m args below meth c H locs cells slots (MQ below (qW D A w1 (some (.long v))) args s cells slots A) (F0 m pc ls [.long v]) :=
  W.lret S.1 S.2.1 hr (fun t ht hW => ⟨⟨rfl, by rw [ht]; exact hP, hD⟩, hS.F ht⟩) hS.2.2 hdg hlocks
theorem rt_v (S : CallFix p m c cc nL s args TB own) (hr : meth.sig.returnType = none) (hlocks : meth.locks = false) (hP : va_P D classes w1 H) (hD : va_D A w1) (hS : va_S A s.heap H locs) (hdg : decode cc pc = .ok (.return_, 1)) : W p l e R s m args below meth c H locs cells slots (MQ below (qW D A w1 none) args s cells slots A) (F0 m pc ls []) :=
  W.vret S.1 S.2.1 hr (fun t ht hW => ⟨⟨rfl, by rw [ht]; exact hP, hD⟩, hS.F ht⟩) hS.2.2 hdg hlocks
end CA
-- constructors: what they make stands in w1, whose shape Wp tells
def qI (D : va_G) (A : Nat → Prop) (Wp : va_W → Prop) : Array Value → State → Outcome → State → Prop := fun _ st o t => (o = .returned none ∧ ∃ w1, Wp w1 ∧ va_P D classes w1 t.heap ∧ va_D A w1) ∧ va_F A st t
def CtI (l : Launch) (y : MethodName) (ws : List Cond) (rm : Room) (D : va_G) (cT : Nat → ClassId) (av : List Value) (wc : va_W) (Wp : va_W → Prop) (mc ms : Nat) : Prop :=
  ∀ sz : Nat, Met l y ws rm (pcW D cT av wc sz) (qI D (va_A wc sz) Wp) mc ms (va_A wc sz)
def gIN (own : String) (index : Nat) (host : String) (y : MethodName) (b : ByteArray) (n : Nat) : Prop := (Cond.code y b n none ∈ TB ∧ Cond.instanceMethod y ∈ TB ∧ Cond.initialized y.cls ∈ TB ∧ Cond.methodLinkNest own index y host ∈ NL) ∧ y.name = "<init>" ∧ y.cls ≠ "java/lang/invoke/MethodHandle" ∧ y.cls ≠ "java/lang/invoke/VarHandle" ∧ (parseMethodDescriptor y.desc).map (fun d => d.parameters.length) = some 0
def gI (own : String) (index : Nat) (y : MethodName) (b : ByteArray) (n : Nat) : Prop := (Cond.code y b n none ∈ TB ∧ Cond.instanceMethod y ∈ TB ∧ Cond.initialized y.cls ∈ TB ∧ Cond.methodLink own index y ∈ TB) ∧ y.name = "<init>" ∧ y.cls ≠ "java/lang/invoke/MethodHandle" ∧ y.cls ≠ "java/lang/invoke/VarHandle" ∧ (parseMethodDescriptor y.desc).map (fun d => d.parameters.length) = some 0
section CI
variable {p : Program} {l : Launch} {e : Env} {R : Room} {s : State} {m : MethodId} {args : Array Value} {below : List Frame} {meth : Method} {c : Code} {H : Heap} {locs : List Loc} {cells slots : Nat} {Q : State → Prop}
variable {pc : Nat} {ls : Array Slot} {st0 rest : List Value} {D : va_G} {cT : Nat → ClassId} {A : Nat → Prop} {H0 : Heap} {ws wc wr : va_W} {Wp : va_W → Prop} {mc ms : Nat}
theorem ci_go {a : Array Value} (hr : va_Run p l e R s m args below meth c H locs cells slots mc ms (F0 m pc ls st0) rest (qI D (va_A wc H.size) Wp a) (va_A wc H.size))
    (hP : va_P D classes ws H) (hD : va_D A ws) (hS : va_S A H0 H locs) (hA : ∀ q, H0.size ≤ q → A q) (isC isR : List Nat) (hC : isC.map (fun i => ws[i]?) = wc.map some) (hR : isR.map (fun i => ws[i]?) = wr.map some) (hn : va_nd isR = true) (hdis : ∀ i ∈ isR, i ∉ isC)
    (kk : ∀ (w1 : va_W), Wp w1 → ∀ (H1 : Heap) (locs1 : List Loc), va_P D classes (wr ++ w1) H1 → va_D A (wr ++ w1) → va_S A H0 H1 locs1 → W p l e R s m args below meth c H1 locs1 (cells + mc) (slots + ms) Q (F0 m (pc + 3) ls rest)) : W p l e R s m args below meth c H locs cells slots Q (F0 m pc ls st0) := by
  intro T hT X
  obtain ⟨v, st₀, t, T', L, h0, X', hL, e1, e2, ⟨⟨hv, w1, hw1, hp, hd⟩, hz, hk⟩, st⟩ := hr T hT X
  cases hv
  rw [h0] at hz hk
  have hF := va_free hD hS hA isC hC
  obtain ⟨hP2, hD2⟩ := va_join hP hD isC isR hC hR hn hdis hk hF hp hd
  obtain ⟨t2, a1, b1⟩ := kk w1 hw1 T'.heap (locs ++ L) (by rw [e1]; exact hP2) hD2
    ⟨Nat.le_trans hS.1 (by rw [e1]; exact hz), fun q h1 h2 => by rw [e1, hk q (Nat.lt_of_lt_of_le h1 hS.1) (fun z => h2 (hF q z))]; exact hS.2.1 q h1 h2, fun q hq => by
      rcases List.mem_append.mp hq with h | h
      · exact hS.2.2 q h
      · exact hF _ (hL q h)⟩ T' rfl X'
  exact ⟨t2, st t2 a1, b1⟩
variable {cc : ByteArray} {nL : Nat} {own host : String} {index : Nat} {y : MethodName} {bytes : ByteArray} {maxL : Nat} {rm : Room} {b : Nat} {As : List Value}
theorem ca_IN (hA0 : As = []) (S : CallFix p m c cc nL s args TB own) (hE : EN D cT s) (hM : CtI l y (WS y bytes maxL none) rm D cT [.ref b] wc Wp mc ms) (hg : gIN own index host y bytes maxL) (hrc : rm.cells = mc) (hrs : rm.slots = ms) (hRm : rm.frames + 1 ≤ R.frames ∧ 8 + (maxL + 11) + rm.locals ≤ R.locals)
    (hn0 : As.length = 0) (hsz : ls.size = nL) (hst : st0 = .ref b :: rest) (hW : (rest.map fun v => v.category).sum ≤ 8) (hdg : decode cc pc = .ok (.invokespecial index, 3)) (hf : cells + mc ≤ R.cells ∧ slots + ms ≤ R.slots)
    (hP : va_P D classes ws H) (hD : va_D A ws) (hS : va_S A H0 H locs) (hA : ∀ q, H0.size ≤ q → A q) (isC isR : List Nat) (hC : isC.map (fun i => ws[i]?) = wc.map some) (hR : isR.map (fun i => ws[i]?) = wr.map some) (hn : va_nd isR = true) (hdis : ∀ i ∈ isR, i ∉ isC) (hnC : va_nd isC = true)
    (kk : ∀ (w1 : va_W), Wp w1 → ∀ (H1 : Heap) (locs1 : List Loc), va_P D classes (wr ++ w1) H1 → va_D A (wr ++ w1) → va_S A H0 H1 locs1 → W p l e R s m args below meth c H1 locs1 (cells + mc) (slots + ms) Q (F0 m (pc + 3) ls rest)) : W p l e R s m args below meth c H locs cells slots Q (F0 m pc ls st0) := by
  subst hst
  have hPc : va_P D classes wc H := hP.sub isC (fm_of_map hC)
  have hDc : va_D A wc := hD.sub isC hnC hC
  obtain ⟨⟨g1, g2, g3, g4⟩, g5, g6⟩ := hg
  have hts := S.2.2.2.2
  exact ci_go (va_runIN (As := []) (rest := rest) S (hM H.size) ⟨va_cnB 0 hts (TB_ws g1) rfl hrc hrs (hE.2 _ g4) (hts _ g3) g6 hRm, g5, hts _ g2⟩ ⟨pcW.blind, pcW.pre hE hPc hDc⟩ rfl rfl hsz rfl (lv_room hW) hdg hf) hP hD hS hA isC isR hC hR hn hdis kk
theorem ca_I (hA0 : As = []) (S : CallFix p m c cc nL s args TB own) (hE : EN D cT s) (hM : CtI l y (WS y bytes maxL none) rm D cT [.ref b] wc Wp mc ms) (hg : gI own index y bytes maxL) (hrc : rm.cells = mc) (hrs : rm.slots = ms) (hRm : rm.frames + 1 ≤ R.frames ∧ 8 + (maxL + 11) + rm.locals ≤ R.locals)
    (hn0 : As.length = 0) (hsz : ls.size = nL) (hst : st0 = .ref b :: rest) (hW : (rest.map fun v => v.category).sum ≤ 8) (hdg : decode cc pc = .ok (.invokespecial index, 3)) (hf : cells + mc ≤ R.cells ∧ slots + ms ≤ R.slots)
    (hP : va_P D classes ws H) (hD : va_D A ws) (hS : va_S A H0 H locs) (hA : ∀ q, H0.size ≤ q → A q) (isC isR : List Nat) (hC : isC.map (fun i => ws[i]?) = wc.map some) (hR : isR.map (fun i => ws[i]?) = wr.map some) (hn : va_nd isR = true) (hdis : ∀ i ∈ isR, i ∉ isC) (hnC : va_nd isC = true)
    (kk : ∀ (w1 : va_W), Wp w1 → ∀ (H1 : Heap) (locs1 : List Loc), va_P D classes (wr ++ w1) H1 → va_D A (wr ++ w1) → va_S A H0 H1 locs1 → W p l e R s m args below meth c H1 locs1 (cells + mc) (slots + ms) Q (F0 m (pc + 3) ls rest)) : W p l e R s m args below meth c H locs cells slots Q (F0 m pc ls st0) := by
  subst hst
  have hPc : va_P D classes wc H := hP.sub isC (fm_of_map hC)
  have hDc : va_D A wc := hD.sub isC hnC hC
  obtain ⟨⟨g1, g2, g3, g4⟩, g5, g6⟩ := hg
  have hts := S.2.2.2.2
  exact ci_go (va_runI (As := []) (rest := rest) S (hM H.size) (cwI 0 hts (TB_ws g1) rfl hrc hrs (hts _ g3) (hts _ g4) (hts _ g2) g5 g6 hRm) ⟨pcW.blind, pcW.pre hE hPc hDc⟩ rfl rfl hsz rfl (lv_room hW) hdg hf) hP hD hS hA isC isR hC hR hn hdis kk
theorem na_int (hexec : p.tables.exec = Jvm.exec) (hb : c.code = cc) (harr : (Cond.arrayClass .int).before args s = true) (hK : va_K D classes (tyL cT) s) (hP : va_P D classes ws H) (hD : va_D A ws) (hS : va_S A H0 H locs) (hA : ∀ q, H0.size ≤ q → A q)
    {n : Int32} {N : Nat} (hn : ¬ n < 0) (hN : n.toNatClampNeg = N) (hbytes : N * componentBytes .int ≤ 536870912) (hcells : cells + 1 ≤ R.cells) (hslots : slots + N ≤ R.slots) (hdg : decode cc pc = .ok (.newarray .int, 2))
    (kk : ∀ (q : Nat) (H1 : Heap), va_P D classes (ws ++ [(q, .inl (cT 0, N, .inl (fun _ => 0)))]) H1 → va_D A (ws ++ [(q, .inl (cT 0, N, .inl (fun _ => 0)))]) → va_S A H0 H1 locs →
      W p l e R s m args below meth c H1 locs (cells + 1) (slots + N) Q (F0 m (pc + 2) ls (.ref q :: rest))) : W p l e R s m args below meth c H locs cells slots Q (F0 m pc ls (.int n :: rest)) := by
  refine va_newa hexec hb (atype := .int) harr rfl hK hP hD hS hA (a0 := (N, .inl (fun _ => 0))) (fun _ => rfl) hn hN hbytes hcells hslots hdg (fun q cA H1 hK1 hP1 hD1 hS1 => ?_)
  have h1 : s.vm.findClass ("[" ++ FieldType.int.toString) = some cA := (hK1.2 5 (cA, .int) rfl).2
  have h2 : s.vm.findClass ("[" ++ FieldType.int.toString) = some (cT 0) := (hK.2 0 (cT 0, .int) rfl).2
  cases Option.some.inj (h1.symm.trans h2)
  exact kk q H1 hP1 hD1 hS1
theorem na_long (hexec : p.tables.exec = Jvm.exec) (hb : c.code = cc) (harr : (Cond.arrayClass .long).before args s = true) (hK : va_K D classes (tyL cT) s) (hP : va_P D classes ws H) (hD : va_D A ws) (hS : va_S A H0 H locs) (hA : ∀ q, H0.size ≤ q → A q)
    {n : Int32} {N : Nat} (hn : ¬ n < 0) (hN : n.toNatClampNeg = N) (hbytes : N * componentBytes .long ≤ 536870912) (hcells : cells + 1 ≤ R.cells) (hslots : slots + N ≤ R.slots) (hdg : decode cc pc = .ok (.newarray .long, 2))
    (kk : ∀ (q : Nat) (H1 : Heap), va_P D classes (ws ++ [(q, .inl (cT 1, N, .inr (.inl (fun _ => 0))))]) H1 → va_D A (ws ++ [(q, .inl (cT 1, N, .inr (.inl (fun _ => 0))))]) → va_S A H0 H1 locs →
      W p l e R s m args below meth c H1 locs (cells + 1) (slots + N) Q (F0 m (pc + 2) ls (.ref q :: rest))) : W p l e R s m args below meth c H locs cells slots Q (F0 m pc ls (.int n :: rest)) := by
  refine va_newa hexec hb (atype := .long) harr rfl hK hP hD hS hA (a0 := (N, .inr (.inl (fun _ => 0)))) (fun _ => rfl) hn hN hbytes hcells hslots hdg (fun q cA H1 hK1 hP1 hD1 hS1 => ?_)
  have h1 : s.vm.findClass ("[" ++ FieldType.long.toString) = some cA := (hK1.2 5 (cA, .long) rfl).2
  have h2 : s.vm.findClass ("[" ++ FieldType.long.toString) = some (cT 1) := (hK.2 1 (cT 1, .long) rfl).2
  cases Option.some.inj (h1.symm.trans h2)
  exact kk q H1 hP1 hD1 hS1
theorem na_char (hexec : p.tables.exec = Jvm.exec) (hb : c.code = cc) (harr : (Cond.arrayClass .char).before args s = true) (hK : va_K D classes (tyL cT) s) (hP : va_P D classes ws H) (hD : va_D A ws) (hS : va_S A H0 H locs) (hA : ∀ q, H0.size ≤ q → A q)
    {n : Int32} {N : Nat} (hn : ¬ n < 0) (hN : n.toNatClampNeg = N) (hbytes : N * componentBytes .char ≤ 536870912) (hcells : cells + 1 ≤ R.cells) (hslots : slots + N ≤ R.slots) (hdg : decode cc pc = .ok (.newarray .char, 2))
    (kk : ∀ (q : Nat) (H1 : Heap), va_P D classes (ws ++ [(q, .inl (cT 2, N, .inl (fun _ => 0)))]) H1 → va_D A (ws ++ [(q, .inl (cT 2, N, .inl (fun _ => 0)))]) → va_S A H0 H1 locs →
      W p l e R s m args below meth c H1 locs (cells + 1) (slots + N) Q (F0 m (pc + 2) ls (.ref q :: rest))) : W p l e R s m args below meth c H locs cells slots Q (F0 m pc ls (.int n :: rest)) := by
  refine va_newa hexec hb (atype := .char) harr rfl hK hP hD hS hA (a0 := (N, .inl (fun _ => 0))) (fun _ => rfl) hn hN hbytes hcells hslots hdg (fun q cA H1 hK1 hP1 hD1 hS1 => ?_)
  have h1 : s.vm.findClass ("[" ++ FieldType.char.toString) = some cA := (hK1.2 5 (cA, .char) rfl).2
  have h2 : s.vm.findClass ("[" ++ FieldType.char.toString) = some (cT 2) := (hK.2 2 (cT 2, .char) rfl).2
  cases Option.some.inj (h1.symm.trans h2)
  exact kk q H1 hP1 hD1 hS1
theorem na_boolean (hexec : p.tables.exec = Jvm.exec) (hb : c.code = cc) (harr : (Cond.arrayClass .boolean).before args s = true) (hK : va_K D classes (tyL cT) s) (hP : va_P D classes ws H) (hD : va_D A ws) (hS : va_S A H0 H locs) (hA : ∀ q, H0.size ≤ q → A q)
    {n : Int32} {N : Nat} (hn : ¬ n < 0) (hN : n.toNatClampNeg = N) (hbytes : N * componentBytes .boolean ≤ 536870912) (hcells : cells + 1 ≤ R.cells) (hslots : slots + N ≤ R.slots) (hdg : decode cc pc = .ok (.newarray .boolean, 2))
    (kk : ∀ (q : Nat) (H1 : Heap), va_P D classes (ws ++ [(q, .inl (cT 3, N, .inl (fun _ => 0)))]) H1 → va_D A (ws ++ [(q, .inl (cT 3, N, .inl (fun _ => 0)))]) → va_S A H0 H1 locs →
      W p l e R s m args below meth c H1 locs (cells + 1) (slots + N) Q (F0 m (pc + 2) ls (.ref q :: rest))) : W p l e R s m args below meth c H locs cells slots Q (F0 m pc ls (.int n :: rest)) := by
  refine va_newa hexec hb (atype := .boolean) harr rfl hK hP hD hS hA (a0 := (N, .inl (fun _ => 0))) (fun _ => rfl) hn hN hbytes hcells hslots hdg (fun q cA H1 hK1 hP1 hD1 hS1 => ?_)
  have h1 : s.vm.findClass ("[" ++ FieldType.boolean.toString) = some cA := (hK1.2 5 (cA, .boolean) rfl).2
  have h2 : s.vm.findClass ("[" ++ FieldType.boolean.toString) = some (cT 3) := (hK.2 3 (cT 3, .boolean) rfl).2
  cases Option.some.inj (h1.symm.trans h2)
  exact kk q H1 hP1 hD1 hS1
theorem na_byte (hexec : p.tables.exec = Jvm.exec) (hb : c.code = cc) (harr : (Cond.arrayClass .byte).before args s = true) (hK : va_K D classes (tyL cT) s) (hP : va_P D classes ws H) (hD : va_D A ws) (hS : va_S A H0 H locs) (hA : ∀ q, H0.size ≤ q → A q)
    {n : Int32} {N : Nat} (hn : ¬ n < 0) (hN : n.toNatClampNeg = N) (hbytes : N * componentBytes .byte ≤ 536870912) (hcells : cells + 1 ≤ R.cells) (hslots : slots + N ≤ R.slots) (hdg : decode cc pc = .ok (.newarray .byte, 2))
    (kk : ∀ (q : Nat) (H1 : Heap), va_P D classes (ws ++ [(q, .inl (cT 4, N, .inl (fun _ => 0)))]) H1 → va_D A (ws ++ [(q, .inl (cT 4, N, .inl (fun _ => 0)))]) → va_S A H0 H1 locs →
      W p l e R s m args below meth c H1 locs (cells + 1) (slots + N) Q (F0 m (pc + 2) ls (.ref q :: rest))) : W p l e R s m args below meth c H locs cells slots Q (F0 m pc ls (.int n :: rest)) := by
  refine va_newa hexec hb (atype := .byte) harr rfl hK hP hD hS hA (a0 := (N, .inl (fun _ => 0))) (fun _ => rfl) hn hN hbytes hcells hslots hdg (fun q cA H1 hK1 hP1 hD1 hS1 => ?_)
  have h1 : s.vm.findClass ("[" ++ FieldType.byte.toString) = some cA := (hK1.2 5 (cA, .byte) rfl).2
  have h2 : s.vm.findClass ("[" ++ FieldType.byte.toString) = some (cT 4) := (hK.2 4 (cT 4, .byte) rfl).2
  cases Option.some.inj (h1.symm.trans h2)
  exact kk q H1 hP1 hD1 hS1
end CI
theorem tb1 {w : Cond} {i : Nat} (h : tables_1_1[i]? = some w) : w ∈ lw_tbl := List.mem_append_right _ (List.mem_append_left _ (List.mem_of_getElem? h))
theorem tb2 {w : Cond} {i : Nat} (h : tables_1_2[i]? = some w) : w ∈ lw_tbl := List.mem_append_right _ (List.mem_append_right _ (List.mem_append_left _ (List.mem_of_getElem? h)))
theorem tb3 {w : Cond} {i : Nat} (h : tables_1_3[i]? = some w) : w ∈ lw_tbl := List.mem_append_right _ (List.mem_append_right _ (List.mem_append_right _ (List.mem_of_getElem? h)))
end
section
theorem i_Or : ∀ w ∈ u_ws R_Or F_Or 11, w ∈ TB := fun w h => TB_in ((by decide +kernel : ∀ w ∈ u_ws R_Or F_Or 11, w ∈ lw_tbl) w h) ((by decide +kernel : ∀ w ∈ u_ws R_Or F_Or 11, goodWord w = true) w h)
theorem i_Text : ∀ w ∈ u_ws R_Text F_Text 3, w ∈ TB := fun w h => TB_in ((by decide +kernel : ∀ w ∈ u_ws R_Text F_Text 3, w ∈ lw_tbl) w h) ((by decide +kernel : ∀ w ∈ u_ws R_Text F_Text 3, goodWord w = true) w h)
theorem i_Rows : ∀ w ∈ u_ws R_Rows F_Rows 3, w ∈ TB := fun w h => TB_in ((by decide +kernel : ∀ w ∈ u_ws R_Rows F_Rows 3, w ∈ lw_tbl) w h) ((by decide +kernel : ∀ w ∈ u_ws R_Rows F_Rows 3, goodWord w = true) w h)
theorem i_Parts : ∀ w ∈ u_ws R_Parts F_Parts 4, w ∈ TB := fun w h => TB_in ((by decide +kernel : ∀ w ∈ u_ws R_Parts F_Parts 4, w ∈ lw_tbl) w h) ((by decide +kernel : ∀ w ∈ u_ws R_Parts F_Parts 4, goodWord w = true) w h)
theorem i_Lands : ∀ w ∈ u_ws R_Lands F_Lands 3, w ∈ TB := fun w h => TB_in ((by decide +kernel : ∀ w ∈ u_ws R_Lands F_Lands 3, w ∈ lw_tbl) w h) ((by decide +kernel : ∀ w ∈ u_ws R_Lands F_Lands 3, goodWord w = true) w h)
theorem i_Proofs : ∀ w ∈ u_ws R_Proofs F_Proofs 4, w ∈ TB := fun w h => TB_in ((by decide +kernel : ∀ w ∈ u_ws R_Proofs F_Proofs 4, w ∈ lw_tbl) w h) ((by decide +kernel : ∀ w ∈ u_ws R_Proofs F_Proofs 4, goodWord w = true) w h)
theorem i_Md : ∀ w ∈ u_ws R_Md F_Md 27, w ∈ TB := fun w h => TB_in ((by decide +kernel : ∀ w ∈ u_ws R_Md F_Md 27, w ∈ lw_tbl) w h) ((by decide +kernel : ∀ w ∈ u_ws R_Md F_Md 27, goodWord w = true) w h)
theorem iw_0 : (Cond.constant R_Or 219 999999) ∈ TB := TB_in (tb2 (i := 23) rfl) rfl
theorem iw_1 : (Cond.constantLong R_Or 220 1000000000) ∈ TB := TB_in (tb2 (i := 30) rfl) rfl
theorem iw_2 : (Cond.constant R_Or 222 100000) ∈ TB := TB_in (tb2 (i := 226) rfl) rfl
theorem iw_3 : (Cond.fieldLink R_Text 9 R_Text "signs" "[C") ∈ TB := TB_in (tb1 (i := 30) rfl) rfl
theorem iw_4 : (Cond.fieldLink R_Text 15 R_Text "length" "I") ∈ TB := TB_in (tb1 (i := 32) rfl) rfl
theorem iw_5 : (Cond.fieldLink R_Text 19 R_Text "place" "I") ∈ TB := TB_in (tb1 (i := 34) rfl) rfl
theorem iw_6 : (Cond.constant R_Text 26 999999) ∈ TB := TB_in (tb1 (i := 176) rfl) rfl
theorem iw_7 : (Cond.fieldLink R_Rows 9 R_Rows "signs" "[C") ∈ TB := TB_in (tb1 (i := 49) rfl) rfl
theorem iw_8 : (Cond.methodLink R_Rows 22 arraycopyName) ∈ TB := TB_in (tb1 (i := 200) rfl) rfl
theorem iw_9 : (Cond.native arraycopyName) ∈ TB := TB_in (tb1 (i := 202) rfl) rfl
theorem iw_10 : (Cond.static arraycopyName) ∈ TB := TB_in (tb1 (i := 201) rfl) rfl
theorem iw_11 : (Cond.initialized "java/lang/System") ∈ TB := TB_in (tb1 (i := 8) rfl) rfl
theorem iw_12 : (Cond.fieldLink R_Rows 15 R_Rows "length" "I") ∈ TB := TB_in (tb1 (i := 51) rfl) rfl
theorem iw_13 : (Cond.fieldLink R_Rows 19 R_Rows "size" "I") ∈ TB := TB_in (tb1 (i := 53) rfl) rfl
theorem iw_14 : (Cond.fieldLink R_Parts 9 R_Parts "codes" "[I") ∈ TB := TB_in (tb1 (i := 68) rfl) rfl
theorem iw_15 : (Cond.fieldLink R_Parts 22 R_Parts "size" "I") ∈ TB := TB_in (tb1 (i := 71) rfl) rfl
theorem iw_16 : (Cond.fieldLink R_Parts 15 R_Parts "landOf" "[I") ∈ TB := TB_in (tb1 (i := 69) rfl) rfl
theorem iw_17 : (Cond.fieldLink R_Parts 18 R_Parts "centsOf" "[J") ∈ TB := TB_in (tb1 (i := 70) rfl) rfl
theorem iw_18 : (Cond.fieldLink R_Lands 9 R_Lands "joined" "[I") ∈ TB := TB_in (tb1 (i := 90) rfl) rfl
theorem iw_19 : (Cond.fieldLink R_Lands 15 R_Lands "pairs" "I") ∈ TB := TB_in (tb1 (i := 91) rfl) rfl
theorem iw_20 : (Cond.fieldLink R_Lands 19 R_Lands "isFull" "Z") ∈ TB := TB_in (tb1 (i := 93) rfl) rfl
theorem iw_21 : (Cond.fieldLink R_Proofs 9 R_Proofs "kinds" "[I") ∈ TB := TB_in (tb1 (i := 108) rfl) rfl
theorem iw_22 : (Cond.fieldLink R_Proofs 21 R_Proofs "size" "I") ∈ TB := TB_in (tb1 (i := 111) rfl) rfl
theorem iw_23 : (Cond.fieldLink R_Proofs 15 R_Proofs "firstDays" "[I") ∈ TB := TB_in (tb1 (i := 109) rfl) rfl
theorem iw_24 : (Cond.fieldLink R_Proofs 18 R_Proofs "lastDays" "[I") ∈ TB := TB_in (tb1 (i := 110) rfl) rfl
theorem iw_25 : (Cond.constantLong R_Proofs 25 1000000) ∈ TB := TB_in (tb3 (i := 5) rfl) rfl
theorem iw_26 : (Cond.fieldLink R_Or 26 R_Or "parts" "LOriginRules$Parts;") ∈ TB := TB_in (tb1 (i := 124) rfl) rfl
theorem iw_27 : (Cond.fieldLink R_Or 33 R_Or "lands" "LOriginRules$Lands;") ∈ TB := TB_in (tb1 (i := 125) rfl) rfl
theorem iw_28 : (Cond.constantLong R_Or 217 100) ∈ TB := TB_in (tb2 (i := 180) rfl) rfl
theorem iw_29 : (Cond.fieldLink R_Or 54 R_Or "toleranceDown" "I") ∈ TB := TB_in (tb1 (i := 130) rfl) rfl
theorem iw_30 : (Cond.fieldLink R_Or 51 R_Or "toleranceUp" "I") ∈ TB := TB_in (tb1 (i := 129) rfl) rfl
theorem iw_31 : (Cond.fieldLink R_Or 19 R_Or "rows" "LOriginRules$Rows;") ∈ TB := TB_in (tb1 (i := 123) rfl) rfl
theorem iw_32 : (Cond.fieldLink R_Or 44 R_Or "processesDone" "I") ∈ TB := TB_in (tb1 (i := 127) rfl) rfl
theorem iw_33 : (Cond.fieldLink R_Or 61 R_Or "asked" "I") ∈ TB := TB_in (tb1 (i := 132) rfl) rfl
theorem iw_34 : (Cond.fieldLink R_Or 57 R_Or "answers" "[I") ∈ TB := TB_in (tb1 (i := 131) rfl) rfl
theorem iw_35 : (Cond.fieldLink R_Or 10 R_Or "text" "LOriginRules$Text;") ∈ TB := TB_in (tb1 (i := 122) rfl) rfl
theorem iw_36 : (Cond.fieldLink R_Or 48 R_Or "processesBarred" "I") ∈ TB := TB_in (tb1 (i := 128) rfl) rfl
theorem iw_37 : (Cond.fieldLink R_Or 40 R_Or "proofs" "LOriginRules$Proofs;") ∈ TB := TB_in (tb1 (i := 126) rfl) rfl
theorem iw_38 : (Cond.methodLink R_Or 159 Lib.MathLoose.max_long.x) ∈ TB := TB_in (tb2 (i := 213) rfl) rfl
theorem iw_39 : (Cond.static Lib.MathLoose.max_long.x) ∈ TB := TB_in (tb2 (i := 214) rfl) rfl
theorem iw_40 : (Cond.initialized "java/lang/Math") ∈ TB := TB_in (tb1 (i := 15) rfl) rfl
theorem iw_41 : (Cond.code Lib.MathLoose.max_long.x Lib.MathLoose.max_long.code 4 (some .long)) ∈ TB := TB_in (tb2 (i := 215) rfl) rfl
theorem iw_42 : (Cond.constantLong R_Md 155 100000) ∈ TB := TB_in (tb3 (i := 223) rfl) rfl
theorem iw_43 : (Cond.fieldLink R_Md 61 R_Md "thrown" "I") ∈ TB := TB_in (tb3 (i := 20) rfl) rfl
theorem iw_44 : (Cond.constantLong R_Md 64 33) ∈ TB := TB_in (tb3 (i := 111) rfl) rfl
theorem iw_45 : (Cond.constantLong R_Md 66 126) ∈ TB := TB_in (tb3 (i := 112) rfl) rfl
theorem iw_46 : (Cond.fieldLink R_Md 72 R_Md "signs" "I") ∈ TB := TB_in (tb3 (i := 22) rfl) rfl
theorem iw_47 : (Cond.fieldLink R_Md 7 R_Md "text" "[I") ∈ TB := TB_in (tb3 (i := 21) rfl) rfl
theorem iw_48 : (Cond.fieldLink R_Md 19 R_Md "tried" "[I") ∈ TB := TB_in (tb3 (i := 26) rfl) rfl
theorem iw_49 : (Cond.fieldLink R_Md 86 R_Md "rows" "I") ∈ TB := TB_in (tb3 (i := 25) rfl) rfl
theorem iw_50 : (Cond.fieldLink R_Md 13 R_Md "read" "[I") ∈ TB := TB_in (tb3 (i := 23) rfl) rfl
theorem iw_51 : (Cond.fieldLink R_Md 16 R_Md "begins" "[I") ∈ TB := TB_in (tb3 (i := 24) rfl) rfl
theorem iw_52 : (Cond.constant R_Md 89 100000) ∈ TB := TB_in (tb3 (i := 186) rfl) rfl
theorem iw_53 : (Cond.constantLong R_Md 93 999999) ∈ TB := TB_in (tb3 (i := 133) rfl) rfl
theorem iw_54 : (Cond.constantLong R_Md 95 9) ∈ TB := TB_in (tb3 (i := 134) rfl) rfl
theorem iw_55 : (Cond.constantLong R_Md 97 1000000000) ∈ TB := TB_in (tb3 (i := 135) rfl) rfl
theorem iw_56 : (Cond.fieldLink R_Md 103 R_Md "parts" "I") ∈ TB := TB_in (tb3 (i := 27) rfl) rfl
theorem iw_57 : (Cond.fieldLink R_Md 22 R_Md "partCode" "[I") ∈ TB := TB_in (tb3 (i := 28) rfl) rfl
theorem iw_58 : (Cond.fieldLink R_Md 25 R_Md "partLand" "[I") ∈ TB := TB_in (tb3 (i := 29) rfl) rfl
theorem iw_59 : (Cond.fieldLink R_Md 28 R_Md "partCents" "[J") ∈ TB := TB_in (tb3 (i := 30) rfl) rfl
theorem iw_60 : (Cond.fieldLink R_Md 106 R_Md "done" "I") ∈ TB := TB_in (tb3 (i := 31) rfl) rfl
theorem iw_61 : (Cond.constantLong R_Md 109 15) ∈ TB := TB_in (tb3 (i := 148) rfl) rfl
theorem iw_62 : (Cond.fieldLink R_Md 111 R_Md "barred" "I") ∈ TB := TB_in (tb3 (i := 32) rfl) rfl
theorem iw_63 : (Cond.fieldLink R_Md 32 R_Md "joined" "[Z") ∈ TB := TB_in (tb3 (i := 33) rfl) rfl
theorem iw_64 : (Cond.fieldLink R_Md 114 R_Md "pairs" "I") ∈ TB := TB_in (tb3 (i := 34) rfl) rfl
theorem iw_65 : (Cond.fieldLink R_Md 117 R_Md "full" "Z") ∈ TB := TB_in (tb3 (i := 35) rfl) rfl
theorem iw_66 : (Cond.constantLong R_Md 121 1000) ∈ TB := TB_in (tb3 (i := 165) rfl) rfl
theorem iw_67 : (Cond.fieldLink R_Md 123 R_Md "up" "I") ∈ TB := TB_in (tb3 (i := 36) rfl) rfl
theorem iw_68 : (Cond.fieldLink R_Md 36 R_Md "down" "I") ∈ TB := TB_in (tb3 (i := 37) rfl) rfl
theorem iw_69 : (Cond.constantLong R_Md 133 100) ∈ TB := TB_in (tb3 (i := 199) rfl) rfl
theorem iw_70 : (Cond.fieldLink R_Md 52 R_Md "live" "[Z") ∈ TB := TB_in (tb3 (i := 44) rfl) rfl
theorem iw_71 : (Cond.fieldLink R_Md 55 R_Md "any" "[Z") ∈ TB := TB_in (tb3 (i := 45) rfl) rfl
theorem iw_72 : (Cond.fieldLink R_Md 58 R_Md "all" "[Z") ∈ TB := TB_in (tb3 (i := 46) rfl) rfl
theorem iw_73 : (Cond.fieldLink R_Md 142 R_Md "asked" "I") ∈ TB := TB_in (tb3 (i := 42) rfl) rfl
theorem iw_74 : (Cond.fieldLink R_Md 49 R_Md "told" "[I") ∈ TB := TB_in (tb3 (i := 43) rfl) rfl
theorem iw_75 : (Cond.fieldLink R_Md 160 R_Md "proofs" "I") ∈ TB := TB_in (tb3 (i := 38) rfl) rfl
theorem iw_76 : (Cond.fieldLink R_Md 40 R_Md "proofKind" "[I") ∈ TB := TB_in (tb3 (i := 39) rfl) rfl
theorem iw_77 : (Cond.fieldLink R_Md 43 R_Md "proofFrom" "[I") ∈ TB := TB_in (tb3 (i := 40) rfl) rfl
theorem iw_78 : (Cond.fieldLink R_Md 46 R_Md "proofTo" "[I") ∈ TB := TB_in (tb3 (i := 41) rfl) rfl
theorem iw_79 : (Cond.constantLong R_Md 163 1000000) ∈ TB := TB_in (tb3 (i := 228) rfl) rfl
theorem iw_80 : (Cond.methodLink R_Text 3 objectInit) ∈ TB := TB_in (tb1 (i := 29) rfl) rfl
theorem iw_81 : (Cond.instanceMethod objectInit) ∈ TB := TB_in (tb1 (i := 22) rfl) rfl
theorem iw_82 : (Cond.code objectInit ⟨#[0xb1]⟩ 1 none) ∈ TB := TB_in (tb1 (i := 23) rfl) rfl
theorem iw_83 : (Cond.arrayClass .char) ∈ TB := TB_in (tb1 (i := 42) rfl) rfl
theorem iw_84 : (Cond.methodLink R_Rows 3 objectInit) ∈ TB := TB_in (tb1 (i := 48) rfl) rfl
theorem iw_85 : (Cond.methodLink R_Parts 3 objectInit) ∈ TB := TB_in (tb1 (i := 67) rfl) rfl
theorem iw_86 : (Cond.arrayClass .int) ∈ TB := TB_in (tb1 (i := 82) rfl) rfl
theorem iw_87 : (Cond.arrayClass .long) ∈ TB := TB_in (tb1 (i := 83) rfl) rfl
theorem iw_88 : (Cond.methodLink R_Lands 3 objectInit) ∈ TB := TB_in (tb1 (i := 89) rfl) rfl
theorem iw_89 : (Cond.methodLink R_Proofs 3 objectInit) ∈ TB := TB_in (tb1 (i := 107) rfl) rfl
theorem iw_90 : (Cond.methodLink R_Or 1 objectInit) ∈ TB := TB_in (tb1 (i := 21) rfl) rfl
theorem iw_91 : (Cond.classLink R_Or 7 R_Text) ∈ TB := TB_in (tb1 (i := 24) rfl) rfl
theorem iw_92 : (Cond.instantiable R_Text 3) ∈ TB := TB_in (tb1 (i := 25) rfl) rfl
theorem iw_93 : (Cond.initialized R_Text) ∈ TB := TB_in (tb1 (i := 2) rfl) rfl
theorem iw_94 : (Cond.classLink R_Or 16 R_Rows) ∈ TB := TB_in (tb1 (i := 43) rfl) rfl
theorem iw_95 : (Cond.instantiable R_Rows 3) ∈ TB := TB_in (tb1 (i := 44) rfl) rfl
theorem iw_96 : (Cond.initialized R_Rows) ∈ TB := TB_in (tb1 (i := 3) rfl) rfl
theorem iw_97 : (Cond.classLink R_Or 23 R_Parts) ∈ TB := TB_in (tb1 (i := 62) rfl) rfl
theorem iw_98 : (Cond.instantiable R_Parts 4) ∈ TB := TB_in (tb1 (i := 63) rfl) rfl
theorem iw_99 : (Cond.initialized R_Parts) ∈ TB := TB_in (tb1 (i := 4) rfl) rfl
theorem iw_100 : (Cond.classLink R_Or 30 R_Lands) ∈ TB := TB_in (tb1 (i := 84) rfl) rfl
theorem iw_101 : (Cond.instantiable R_Lands 3) ∈ TB := TB_in (tb1 (i := 85) rfl) rfl
theorem iw_102 : (Cond.initialized R_Lands) ∈ TB := TB_in (tb1 (i := 5) rfl) rfl
theorem iw_103 : (Cond.classLink R_Or 37 R_Proofs) ∈ TB := TB_in (tb1 (i := 102) rfl) rfl
theorem iw_104 : (Cond.instantiable R_Proofs 4) ∈ TB := TB_in (tb1 (i := 103) rfl) rfl
theorem iw_105 : (Cond.initialized R_Proofs) ∈ TB := TB_in (tb1 (i := 6) rfl) rfl
theorem iw_106 : (Cond.methodLink R_Md 1 objectInit) ∈ TB := TB_in (tb3 (i := 19) rfl) rfl
theorem iw_107 : (Cond.arrayClass .boolean) ∈ TB := TB_in (tb3 (i := 102) rfl) rfl
theorem iw_108 : (Cond.code y_Or_isDigit b_Or_isDigit 1 (some .boolean)) ∈ TB := TB_in (tb1 (i := 183) rfl) rfl
theorem iw_109 : (Cond.static y_Or_isDigit) ∈ TB := TB_in (tb1 (i := 182) rfl) rfl
theorem iw_110 : (Cond.initialized R_Or) ∈ TB := TB_in (tb1 (i := 1) rfl) rfl
theorem iw_111 : (Cond.code y_Text_passesSign b_Text_passesSign 2 (some .boolean)) ∈ TB := TB_in (tb1 (i := 187) rfl) rfl
theorem iw_112 : (Cond.methodLink R_Text 31 y_Text_passesSign) ∈ TB := TB_in (tb1 (i := 184) rfl) rfl
theorem iw_113 : (Cond.instanceMethod y_Text_passesSign) ∈ TB := TB_in (tb1 (i := 186) rfl) rfl
theorem iw_114 : (Cond.selects R_Text y_Text_passesSign y_Text_passesSign) ∈ TB := TB_in (by decide +kernel) rfl
theorem iw_115 : (Cond.code y_Text_passesDigits b_Text_passesDigits 5 (some .boolean)) ∈ TB := TB_in (tb1 (i := 180) rfl) rfl
theorem iw_116 : (Cond.methodLink R_Text 27 y_Text_passesDigits) ∈ TB := TB_in (tb1 (i := 177) rfl) rfl
theorem iw_117 : (Cond.instanceMethod y_Text_passesDigits) ∈ TB := TB_in (tb1 (i := 179) rfl) rfl
theorem iw_118 : (Cond.selects R_Text y_Text_passesDigits y_Text_passesDigits) ∈ TB := TB_in (by decide +kernel) rfl
theorem iw_119 : (Cond.code y_Text_passesFactor b_Text_passesFactor 1 (some .boolean)) ∈ TB := TB_in (tb1 (i := 195) rfl) rfl
theorem iw_120 : (Cond.methodLink R_Text 38 y_Text_passesFactor) ∈ TB := TB_in (tb1 (i := 192) rfl) rfl
theorem iw_121 : (Cond.instanceMethod y_Text_passesFactor) ∈ TB := TB_in (tb1 (i := 194) rfl) rfl
theorem iw_122 : (Cond.selects R_Text y_Text_passesFactor y_Text_passesFactor) ∈ TB := TB_in (by decide +kernel) rfl
theorem iw_123 : (Cond.code y_Text_passesRule b_Text_passesRule 3 (some .boolean)) ∈ TB := TB_in (tb1 (i := 191) rfl) rfl
theorem iw_124 : (Cond.methodLink R_Text 35 y_Text_passesRule) ∈ TB := TB_in (tb1 (i := 188) rfl) rfl
theorem iw_125 : (Cond.instanceMethod y_Text_passesRule) ∈ TB := TB_in (tb1 (i := 190) rfl) rfl
theorem iw_126 : (Cond.selects R_Text y_Text_passesRule y_Text_passesRule) ∈ TB := TB_in (by decide +kernel) rfl
theorem iw_127 : (Cond.code y_Text_passesRow b_Text_passesRow 1 (some .boolean)) ∈ TB := TB_in (tb1 (i := 175) rfl) rfl
theorem iw_128 : (Cond.methodLink R_Text 22 y_Text_passesRow) ∈ TB := TB_in (tb1 (i := 172) rfl) rfl
theorem iw_129 : (Cond.instanceMethod y_Text_passesRow) ∈ TB := TB_in (tb1 (i := 174) rfl) rfl
theorem iw_130 : (Cond.selects R_Text y_Text_passesRow y_Text_passesRow) ∈ TB := TB_in (by decide +kernel) rfl
theorem iw_131 : (Cond.code y_Or_beginning b_Or_beginning 4 (some .int)) ∈ TB := TB_in (tb2 (i := 145) rfl) rfl
theorem iw_132 : (Cond.static y_Or_beginning) ∈ TB := TB_in (tb2 (i := 144) rfl) rfl
theorem iw_133 : (Cond.code y_Rows_numberAt b_Rows_numberAt 4 (some .int)) ∈ TB := TB_in (tb2 (i := 149) rfl) rfl
theorem iw_134 : (Cond.methodLink R_Rows 32 y_Rows_numberAt) ∈ TB := TB_in (tb2 (i := 146) rfl) rfl
theorem iw_135 : (Cond.instanceMethod y_Rows_numberAt) ∈ TB := TB_in (tb2 (i := 147) rfl) rfl
theorem iw_136 : (Cond.selects R_Rows y_Rows_numberAt y_Rows_numberAt) ∈ TB := TB_in (tb2 (i := 148) rfl) rfl
theorem iw_137 : (Cond.code y_Or_hasBit b_Or_hasBit 2 (some .boolean)) ∈ TB := TB_in (tb1 (i := 220) rfl) rfl
theorem iw_138 : (Cond.static y_Or_hasBit) ∈ TB := TB_in (tb1 (i := 219) rfl) rfl
theorem iw_139 : (Cond.code y_Lands_ownLands b_Lands_ownLands 4 (some .int)) ∈ TB := TB_in (tb2 (i := 4) rfl) rfl
theorem iw_140 : (Cond.methodLink R_Or 148 y_Lands_ownLands) ∈ TB := TB_in (tb2 (i := 1) rfl) rfl
theorem iw_141 : (Cond.instanceMethod y_Lands_ownLands) ∈ TB := TB_in (tb2 (i := 2) rfl) rfl
theorem iw_142 : (Cond.selects R_Lands y_Lands_ownLands y_Lands_ownLands) ∈ TB := TB_in (tb2 (i := 3) rfl) rfl
theorem iw_143 : (Cond.code y_Parts_foreignCents b_Parts_foreignCents 5 (some .long)) ∈ TB := TB_in (tb2 (i := 179) rfl) rfl
theorem iw_144 : (Cond.methodLink R_Or 151 y_Parts_foreignCents) ∈ TB := TB_in (tb2 (i := 176) rfl) rfl
theorem iw_145 : (Cond.instanceMethod y_Parts_foreignCents) ∈ TB := TB_in (tb2 (i := 177) rfl) rfl
theorem iw_146 : (Cond.selects R_Parts y_Parts_foreignCents y_Parts_foreignCents) ∈ TB := TB_in (tb2 (i := 178) rfl) rfl
theorem iw_147 : (Cond.code y_Parts_foreignCentsAlike b_Parts_foreignCentsAlike 8 (some .long)) ∈ TB := TB_in (tb2 (i := 169) rfl) rfl
theorem iw_148 : (Cond.methodLink R_Or 213 y_Parts_foreignCentsAlike) ∈ TB := TB_in (tb2 (i := 166) rfl) rfl
theorem iw_149 : (Cond.instanceMethod y_Parts_foreignCentsAlike) ∈ TB := TB_in (tb2 (i := 167) rfl) rfl
theorem iw_150 : (Cond.selects R_Parts y_Parts_foreignCentsAlike y_Parts_foreignCentsAlike) ∈ TB := TB_in (tb2 (i := 168) rfl) rfl
theorem iw_151 : (Cond.methodLink R_Or 206 y_Rows_numberAt) ∈ TB := TB_in (tb2 (i := 171) rfl) rfl
theorem iw_152 : (Cond.methodLink R_Or 118 y_Or_hasBit) ∈ TB := TB_in (tb1 (i := 218) rfl) rfl
theorem iw_153 : (Cond.code y_Or_isShareWithin b_Or_isShareWithin 6 (some .boolean)) ∈ TB := TB_in (tb2 (i := 175) rfl) rfl
theorem iw_154 : (Cond.methodLink R_Or 209 y_Or_isShareWithin) ∈ TB := TB_in (tb2 (i := 172) rfl) rfl
theorem iw_155 : (Cond.instanceMethod y_Or_isShareWithin) ∈ TB := TB_in (tb2 (i := 174) rfl) rfl
theorem iw_156 : (Cond.selects R_Or y_Or_isShareWithin y_Or_isShareWithin) ∈ TB := TB_in (by decide +kernel) rfl
theorem iw_157 : (Cond.code y_Or_isChanged b_Or_isChanged 7 (some .boolean)) ∈ TB := TB_in (tb2 (i := 165) rfl) rfl
theorem iw_158 : (Cond.methodLink R_Or 203 y_Or_isChanged) ∈ TB := TB_in (tb2 (i := 162) rfl) rfl
theorem iw_159 : (Cond.instanceMethod y_Or_isChanged) ∈ TB := TB_in (tb2 (i := 164) rfl) rfl
theorem iw_160 : (Cond.selects R_Or y_Or_isChanged y_Or_isChanged) ∈ TB := TB_in (by decide +kernel) rfl
theorem iw_161 : (Cond.code y_Or_isLetter b_Or_isLetter 1 (some .boolean)) ∈ TB := TB_in (tb2 (i := 157) rfl) rfl
theorem iw_162 : (Cond.methodLink R_Or 192 y_Or_isLetter) ∈ TB := TB_in (tb2 (i := 155) rfl) rfl
theorem iw_163 : (Cond.static y_Or_isLetter) ∈ TB := TB_in (tb2 (i := 156) rfl) rfl
theorem iw_164 : (Cond.code y_Or_factorHolds b_Or_factorHolds 7 (some .boolean)) ∈ TB := TB_in (tb2 (i := 161) rfl) rfl
theorem iw_165 : (Cond.methodLink R_Or 196 y_Or_factorHolds) ∈ TB := TB_in (tb2 (i := 158) rfl) rfl
theorem iw_166 : (Cond.instanceMethod y_Or_factorHolds) ∈ TB := TB_in (tb2 (i := 160) rfl) rfl
theorem iw_167 : (Cond.selects R_Or y_Or_factorHolds y_Or_factorHolds) ∈ TB := TB_in (by decide +kernel) rfl
theorem iw_168 : (Cond.code y_Or_keepAnswer b_Or_keepAnswer 3 none) ∈ TB := TB_in (tb2 (i := 184) rfl) rfl
theorem iw_169 : (Cond.methodLink R_Or 199 y_Or_keepAnswer) ∈ TB := TB_in (tb2 (i := 181) rfl) rfl
theorem iw_170 : (Cond.instanceMethod y_Or_keepAnswer) ∈ TB := TB_in (tb2 (i := 183) rfl) rfl
theorem iw_171 : (Cond.selects R_Or y_Or_keepAnswer y_Or_keepAnswer) ∈ TB := TB_in (by decide +kernel) rfl
theorem iw_172 : (Cond.code y_Text_add b_Text_add 2 none) ∈ TB := TB_in (tb1 (i := 163) rfl) rfl
theorem iw_173 : (Cond.methodLink R_Or 67 y_Text_add) ∈ TB := TB_in (tb1 (i := 160) rfl) rfl
theorem iw_174 : (Cond.instanceMethod y_Text_add) ∈ TB := TB_in (tb1 (i := 161) rfl) rfl
theorem iw_175 : (Cond.selects R_Text y_Text_add y_Text_add) ∈ TB := TB_in (tb1 (i := 162) rfl) rfl
theorem iw_176 : (Cond.code y_Text_rowsOrWrongPlace b_Text_rowsOrWrongPlace 2 (some .int)) ∈ TB := TB_in (tb1 (i := 171) rfl) rfl
theorem iw_177 : (Cond.methodLink R_Or 71 y_Text_rowsOrWrongPlace) ∈ TB := TB_in (tb1 (i := 168) rfl) rfl
theorem iw_178 : (Cond.instanceMethod y_Text_rowsOrWrongPlace) ∈ TB := TB_in (tb1 (i := 169) rfl) rfl
theorem iw_179 : (Cond.selects R_Text y_Text_rowsOrWrongPlace y_Text_rowsOrWrongPlace) ∈ TB := TB_in (tb1 (i := 170) rfl) rfl
theorem iw_180 : (Cond.code y_Rows_replace b_Rows_replace 4 none) ∈ TB := TB_in (tb1 (i := 199) rfl) rfl
theorem iw_181 : (Cond.methodLink R_Or 79 y_Rows_replace) ∈ TB := TB_in (tb1 (i := 196) rfl) rfl
theorem iw_182 : (Cond.instanceMethod y_Rows_replace) ∈ TB := TB_in (tb1 (i := 197) rfl) rfl
theorem iw_183 : (Cond.selects R_Rows y_Rows_replace y_Rows_replace) ∈ TB := TB_in (tb1 (i := 198) rfl) rfl
theorem iw_184 : (Cond.code y_Parts_forget b_Parts_forget 2 (some .int)) ∈ TB := TB_in (tb1 (i := 210) rfl) rfl
theorem iw_185 : (Cond.methodLink R_Or 112 y_Parts_forget) ∈ TB := TB_in (tb1 (i := 207) rfl) rfl
theorem iw_186 : (Cond.instanceMethod y_Parts_forget) ∈ TB := TB_in (tb1 (i := 208) rfl) rfl
theorem iw_187 : (Cond.selects R_Parts y_Parts_forget y_Parts_forget) ∈ TB := TB_in (tb1 (i := 209) rfl) rfl
theorem iw_188 : (Cond.code y_Or_isProcess b_Or_isProcess 1 (some .boolean)) ∈ TB := TB_in (tb1 (i := 217) rfl) rfl
theorem iw_189 : (Cond.methodLink R_Or 115 y_Or_isProcess) ∈ TB := TB_in (tb1 (i := 215) rfl) rfl
theorem iw_190 : (Cond.static y_Or_isProcess) ∈ TB := TB_in (tb1 (i := 216) rfl) rfl
theorem iw_191 : (Cond.code y_Parts_foreignParts b_Parts_foreignParts 4 (some .int)) ∈ TB := TB_in (tb2 (i := 9) rfl) rfl
theorem iw_192 : (Cond.methodLink R_Or 184 y_Parts_foreignParts) ∈ TB := TB_in (tb2 (i := 6) rfl) rfl
theorem iw_193 : (Cond.instanceMethod y_Parts_foreignParts) ∈ TB := TB_in (tb2 (i := 7) rfl) rfl
theorem iw_194 : (Cond.selects R_Parts y_Parts_foreignParts y_Parts_foreignParts) ∈ TB := TB_in (tb2 (i := 8) rfl) rfl
theorem iw_195 : (Cond.code y_Or_isCode b_Or_isCode 1 (some .boolean)) ∈ TB := TB_in (tb2 (i := 22) rfl) rfl
theorem iw_196 : (Cond.methodLink R_Or 83 y_Or_isCode) ∈ TB := TB_in (tb2 (i := 20) rfl) rfl
theorem iw_197 : (Cond.static y_Or_isCode) ∈ TB := TB_in (tb2 (i := 21) rfl) rfl
theorem iw_198 : (Cond.code y_Or_isLand b_Or_isLand 1 (some .boolean)) ∈ TB := TB_in (tb2 (i := 26) rfl) rfl
theorem iw_199 : (Cond.methodLink R_Or 87 y_Or_isLand) ∈ TB := TB_in (tb2 (i := 24) rfl) rfl
theorem iw_200 : (Cond.static y_Or_isLand) ∈ TB := TB_in (tb2 (i := 25) rfl) rfl
theorem iw_201 : (Cond.code y_Or_isCents b_Or_isCents 2 (some .boolean)) ∈ TB := TB_in (tb2 (i := 29) rfl) rfl
theorem iw_202 : (Cond.methodLink R_Or 90 y_Or_isCents) ∈ TB := TB_in (tb2 (i := 27) rfl) rfl
theorem iw_203 : (Cond.static y_Or_isCents) ∈ TB := TB_in (tb2 (i := 28) rfl) rfl
theorem iw_204 : (Cond.code y_Parts_add b_Parts_add 5 (some .int)) ∈ TB := TB_in (tb2 (i := 118) rfl) rfl
theorem iw_205 : (Cond.methodLink R_Or 109 y_Parts_add) ∈ TB := TB_in (tb2 (i := 115) rfl) rfl
theorem iw_206 : (Cond.instanceMethod y_Parts_add) ∈ TB := TB_in (tb2 (i := 116) rfl) rfl
theorem iw_207 : (Cond.selects R_Parts y_Parts_add y_Parts_add) ∈ TB := TB_in (tb2 (i := 117) rfl) rfl
theorem iw_208 : (Cond.code y_Lands_addPair b_Lands_addPair 3 (some .boolean)) ∈ TB := TB_in (tb2 (i := 130) rfl) rfl
theorem iw_209 : (Cond.methodLink R_Or 124 y_Lands_addPair) ∈ TB := TB_in (tb2 (i := 127) rfl) rfl
theorem iw_210 : (Cond.instanceMethod y_Lands_addPair) ∈ TB := TB_in (tb2 (i := 128) rfl) rfl
theorem iw_211 : (Cond.selects R_Lands y_Lands_addPair y_Lands_addPair) ∈ TB := TB_in (tb2 (i := 129) rfl) rfl
theorem iw_212 : (Cond.code y_Rows_startFor b_Rows_startFor 7 (some .int)) ∈ TB := TB_in (tb2 (i := 142) rfl) rfl
theorem iw_213 : (Cond.methodLink R_Or 133 y_Rows_startFor) ∈ TB := TB_in (tb2 (i := 139) rfl) rfl
theorem iw_214 : (Cond.instanceMethod y_Rows_startFor) ∈ TB := TB_in (tb2 (i := 140) rfl) rfl
theorem iw_215 : (Cond.selects R_Rows y_Rows_startFor y_Rows_startFor) ∈ TB := TB_in (tb2 (i := 141) rfl) rfl
theorem iw_216 : (Cond.code y_Or_ruleHolds b_Or_ruleHolds 10 (some .boolean)) ∈ TB := TB_in (tb2 (i := 154) rfl) rfl
theorem iw_217 : (Cond.methodLink R_Or 137 y_Or_ruleHolds) ∈ TB := TB_in (tb2 (i := 151) rfl) rfl
theorem iw_218 : (Cond.instanceMethod y_Or_ruleHolds) ∈ TB := TB_in (tb2 (i := 153) rfl) rfl
theorem iw_219 : (Cond.selects R_Or y_Or_ruleHolds y_Or_ruleHolds) ∈ TB := TB_in (by decide +kernel) rfl
theorem iw_220 : (Cond.code y_Or_greatestDivisor b_Or_greatestDivisor 11 (some .long)) ∈ TB := TB_in (tb2 (i := 212) rfl) rfl
theorem iw_221 : (Cond.methodLink R_Or 155 y_Or_greatestDivisor) ∈ TB := TB_in (tb2 (i := 210) rfl) rfl
theorem iw_222 : (Cond.static y_Or_greatestDivisor) ∈ TB := TB_in (tb2 (i := 211) rfl) rfl
theorem iw_223 : (Cond.code y_Or_isDay b_Or_isDay 1 (some .boolean)) ∈ TB := TB_in (tb2 (i := 225) rfl) rfl
theorem iw_224 : (Cond.methodLink R_Or 164 y_Or_isDay) ∈ TB := TB_in (tb2 (i := 223) rfl) rfl
theorem iw_225 : (Cond.static y_Or_isDay) ∈ TB := TB_in (tb2 (i := 224) rfl) rfl
theorem iw_226 : (Cond.code y_Proofs_add b_Proofs_add 4 (some .int)) ∈ TB := TB_in (tb2 (i := 232) rfl) rfl
theorem iw_227 : (Cond.methodLink R_Or 172 y_Proofs_add) ∈ TB := TB_in (tb2 (i := 229) rfl) rfl
theorem iw_228 : (Cond.instanceMethod y_Proofs_add) ∈ TB := TB_in (tb2 (i := 230) rfl) rfl
theorem iw_229 : (Cond.selects R_Proofs y_Proofs_add y_Proofs_add) ∈ TB := TB_in (tb2 (i := 231) rfl) rfl
theorem iw_230 : (Cond.code y_Proofs_isGood b_Proofs_isGood 6 (some .boolean)) ∈ TB := TB_in (tb3 (i := 4) rfl) rfl
theorem iw_231 : (Cond.methodLink R_Or 177 y_Proofs_isGood) ∈ TB := TB_in (tb3 (i := 1) rfl) rfl
theorem iw_232 : (Cond.instanceMethod y_Proofs_isGood) ∈ TB := TB_in (tb3 (i := 2) rfl) rfl
theorem iw_233 : (Cond.selects R_Proofs y_Proofs_isGood y_Proofs_isGood) ∈ TB := TB_in (tb3 (i := 3) rfl) rfl
theorem iw_234 : (Cond.code y_Md_in b_Md_in 6 (some .boolean)) ∈ TB := TB_in (tb3 (i := 115) rfl) rfl
theorem iw_235 : (Cond.methodLink R_Md 68 y_Md_in) ∈ TB := TB_in (tb3 (i := 113) rfl) rfl
theorem iw_236 : (Cond.static y_Md_in) ∈ TB := TB_in (tb3 (i := 114) rfl) rfl
theorem iw_237 : (Cond.initialized R_Md) ∈ TB := TB_in (tb1 (i := 7) rfl) rfl
theorem iw_238 : (Cond.code y_Md_isDigit b_Md_isDigit 1 (some .boolean)) ∈ TB := TB_in (tb3 (i := 122) rfl) rfl
theorem iw_239 : (Cond.methodLink R_Md 75 y_Md_isDigit) ∈ TB := TB_in (tb3 (i := 120) rfl) rfl
theorem iw_240 : (Cond.static y_Md_isDigit) ∈ TB := TB_in (tb3 (i := 121) rfl) rfl
theorem iw_241 : (Cond.code y_Md_behind b_Md_behind 2 (some .int)) ∈ TB := TB_in (tb3 (i := 128) rfl) rfl
theorem iw_242 : (Cond.methodLink R_Md 83 y_Md_behind) ∈ TB := TB_in (tb3 (i := 126) rfl) rfl
theorem iw_243 : (Cond.static y_Md_behind) ∈ TB := TB_in (tb3 (i := 127) rfl) rfl
theorem iw_244 : (Cond.code y_Md_ahead b_Md_ahead 2 (some .int)) ∈ TB := TB_in (tb3 (i := 125) rfl) rfl
theorem iw_245 : (Cond.methodLink R_Md 79 y_Md_ahead) ∈ TB := TB_in (tb3 (i := 123) rfl) rfl
theorem iw_246 : (Cond.static y_Md_ahead) ∈ TB := TB_in (tb3 (i := 124) rfl) rfl
theorem iw_247 : (Cond.code y_Md_begin b_Md_begin 7 (some .int)) ∈ TB := TB_in (tb3 (i := 185) rfl) rfl
theorem iw_248 : (Cond.methodLink R_Md 90 y_Md_begin) ∈ TB := TB_in (tb3 (i := 182) rfl) rfl
theorem iw_249 : (Cond.instanceMethod y_Md_begin) ∈ TB := TB_in (tb3 (i := 184) rfl) rfl
theorem iw_250 : (Cond.selects R_Md y_Md_begin y_Md_begin) ∈ TB := TB_in (by decide +kernel) rfl
theorem iw_251 : (Cond.code y_Md_refuse b_Md_refuse 2 (some .int)) ∈ TB := TB_in (tb3 (i := 139) rfl) rfl
theorem iw_252 : (Cond.methodLink R_Md 99 y_Md_refuse) ∈ TB := TB_in (tb3 (i := 136) rfl) rfl
theorem iw_253 : (Cond.instanceMethod y_Md_refuse) ∈ TB := TB_in (tb3 (i := 138) rfl) rfl
theorem iw_254 : (Cond.selects R_Md y_Md_refuse y_Md_refuse) ∈ TB := TB_in (by decide +kernel) rfl
theorem iw_255 : (Cond.code y_Md_isOwn b_Md_isOwn 6 (some .boolean)) ∈ TB := TB_in (tb3 (i := 173) rfl) rfl
theorem iw_256 : (Cond.methodLink R_Md 126 y_Md_isOwn) ∈ TB := TB_in (tb3 (i := 170) rfl) rfl
theorem iw_257 : (Cond.instanceMethod y_Md_isOwn) ∈ TB := TB_in (tb3 (i := 172) rfl) rfl
theorem iw_258 : (Cond.selects R_Md y_Md_isOwn y_Md_isOwn) ∈ TB := TB_in (by decide +kernel) rfl
theorem iw_259 : (Cond.code y_Md_isOther b_Md_isOther 10 (some .boolean)) ∈ TB := TB_in (tb3 (i := 198) rfl) rfl
theorem iw_260 : (Cond.methodLink R_Md 129 y_Md_isOther) ∈ TB := TB_in (tb3 (i := 195) rfl) rfl
theorem iw_261 : (Cond.instanceMethod y_Md_isOther) ∈ TB := TB_in (tb3 (i := 197) rfl) rfl
theorem iw_262 : (Cond.selects R_Md y_Md_isOther y_Md_isOther) ∈ TB := TB_in (by decide +kernel) rfl
theorem iw_263 : (Cond.code y_Md_foreign b_Md_foreign 4 (some .long)) ∈ TB := TB_in (tb3 (i := 203) rfl) rfl
theorem iw_264 : (Cond.methodLink R_Md 135 y_Md_foreign) ∈ TB := TB_in (tb3 (i := 200) rfl) rfl
theorem iw_265 : (Cond.instanceMethod y_Md_foreign) ∈ TB := TB_in (tb3 (i := 202) rfl) rfl
theorem iw_266 : (Cond.selects R_Md y_Md_foreign y_Md_foreign) ∈ TB := TB_in (by decide +kernel) rfl
theorem iw_267 : (Cond.code y_Md_numberAt b_Md_numberAt 4 (some .int)) ∈ TB := TB_in (tb3 (i := 207) rfl) rfl
theorem iw_268 : (Cond.methodLink R_Md 139 y_Md_numberAt) ∈ TB := TB_in (tb3 (i := 204) rfl) rfl
theorem iw_269 : (Cond.instanceMethod y_Md_numberAt) ∈ TB := TB_in (tb3 (i := 206) rfl) rfl
theorem iw_270 : (Cond.selects R_Md y_Md_numberAt y_Md_numberAt) ∈ TB := TB_in (by decide +kernel) rfl
theorem iw_271 : (Cond.code y_Md_holds b_Md_holds 5 (some .boolean)) ∈ TB := TB_in (tb3 (i := 194) rfl) rfl
theorem iw_272 : (Cond.methodLink R_Md 145 y_Md_holds) ∈ TB := TB_in (tb3 (i := 191) rfl) rfl
theorem iw_273 : (Cond.instanceMethod y_Md_holds) ∈ TB := TB_in (tb3 (i := 193) rfl) rfl
theorem iw_274 : (Cond.selects R_Md y_Md_holds y_Md_holds) ∈ TB := TB_in (by decide +kernel) rfl
theorem iw_275 : (Cond.code y_Md_rowOf b_Md_rowOf 6 (some .int)) ∈ TB := TB_in (tb3 (i := 181) rfl) rfl
theorem iw_276 : (Cond.methodLink R_Md 149 y_Md_rowOf) ∈ TB := TB_in (tb3 (i := 178) rfl) rfl
theorem iw_277 : (Cond.instanceMethod y_Md_rowOf) ∈ TB := TB_in (tb3 (i := 180) rfl) rfl
theorem iw_278 : (Cond.selects R_Md y_Md_rowOf y_Md_rowOf) ∈ TB := TB_in (by decide +kernel) rfl
theorem iw_279 : (Cond.code y_Md_ruled b_Md_ruled 10 (some .boolean)) ∈ TB := TB_in (tb3 (i := 190) rfl) rfl
theorem iw_280 : (Cond.methodLink R_Md 152 y_Md_ruled) ∈ TB := TB_in (tb3 (i := 187) rfl) rfl
theorem iw_281 : (Cond.instanceMethod y_Md_ruled) ∈ TB := TB_in (tb3 (i := 189) rfl) rfl
theorem iw_282 : (Cond.selects R_Md y_Md_ruled y_Md_ruled) ∈ TB := TB_in (by decide +kernel) rfl
theorem iw_283 : (Cond.code y_Md_isDay b_Md_isDay 1 (some .boolean)) ∈ TB := TB_in (tb3 (i := 222) rfl) rfl
theorem iw_284 : (Cond.methodLink R_Md 157 y_Md_isDay) ∈ TB := TB_in (tb3 (i := 220) rfl) rfl
theorem iw_285 : (Cond.static y_Md_isDay) ∈ TB := TB_in (tb3 (i := 221) rfl) rfl
theorem iw_286 : (Cond.code y_Text_init b_Text_init 1 none) ∈ TB := TB_in (tb1 (i := 28) rfl) rfl
theorem iw_287 : (Cond.instanceMethod y_Text_init) ∈ TB := TB_in (tb1 (i := 27) rfl) rfl
theorem iw_288 : (Cond.code y_Rows_init b_Rows_init 1 none) ∈ TB := TB_in (tb1 (i := 47) rfl) rfl
theorem iw_289 : (Cond.instanceMethod y_Rows_init) ∈ TB := TB_in (tb1 (i := 46) rfl) rfl
theorem iw_290 : (Cond.code y_Parts_init b_Parts_init 1 none) ∈ TB := TB_in (tb1 (i := 66) rfl) rfl
theorem iw_291 : (Cond.instanceMethod y_Parts_init) ∈ TB := TB_in (tb1 (i := 65) rfl) rfl
theorem iw_292 : (Cond.code y_Lands_init b_Lands_init 1 none) ∈ TB := TB_in (tb1 (i := 88) rfl) rfl
theorem iw_293 : (Cond.instanceMethod y_Lands_init) ∈ TB := TB_in (tb1 (i := 87) rfl) rfl
theorem iw_294 : (Cond.code y_Proofs_init b_Proofs_init 1 none) ∈ TB := TB_in (tb1 (i := 106) rfl) rfl
theorem iw_295 : (Cond.instanceMethod y_Proofs_init) ∈ TB := TB_in (tb1 (i := 105) rfl) rfl
theorem gw_0 : gSN R_Text 41 R_Or y_Or_isDigit b_Or_isDigit 1 (some .boolean) 1 := ⟨⟨iw_108, iw_109, iw_110, nl_9⟩, by decide +kernel⟩
theorem gw_1 : gV R_Text 31 R_Text y_Text_passesSign b_Text_passesSign 2 (some .boolean) 1 := gV_of iw_112 iw_113 iw_114 iw_93 iw_111 (by decide +kernel)
theorem gw_2 : gV R_Text 27 R_Text y_Text_passesDigits b_Text_passesDigits 5 (some .boolean) 2 := gV_of iw_116 iw_117 iw_118 iw_93 iw_115 (by decide +kernel)
theorem gw_3 : gV R_Text 38 R_Text y_Text_passesFactor b_Text_passesFactor 1 (some .boolean) 0 := gV_of iw_120 iw_121 iw_122 iw_93 iw_119 (by decide +kernel)
theorem gw_4 : gV R_Text 35 R_Text y_Text_passesRule b_Text_passesRule 3 (some .boolean) 0 := gV_of iw_124 iw_125 iw_126 iw_93 iw_123 (by decide +kernel)
theorem gw_5 : gV R_Text 22 R_Text y_Text_passesRow b_Text_passesRow 1 (some .boolean) 0 := gV_of iw_128 iw_129 iw_130 iw_93 iw_127 (by decide +kernel)
theorem gw_6 : gSN R_Rows 36 R_Or y_Or_isDigit b_Or_isDigit 1 (some .boolean) 1 := ⟨⟨iw_108, iw_109, iw_110, nl_10⟩, by decide +kernel⟩
theorem gw_7 : gSN R_Rows 28 R_Or y_Or_beginning b_Or_beginning 4 (some .int) 2 := ⟨⟨iw_131, iw_132, iw_110, nl_11⟩, by decide +kernel⟩
theorem gw_8 : gV R_Rows 32 R_Rows y_Rows_numberAt b_Rows_numberAt 4 (some .int) 1 := gV_of iw_134 iw_135 iw_136 iw_96 iw_133 (by decide +kernel)
theorem gw_9 : gSN R_Parts 26 R_Or y_Or_hasBit b_Or_hasBit 2 (some .boolean) 2 := ⟨⟨iw_137, iw_138, iw_110, nl_12⟩, by decide +kernel⟩
theorem gw_10 : gSN R_Parts 30 R_Or y_Or_beginning b_Or_beginning 4 (some .int) 2 := ⟨⟨iw_131, iw_132, iw_110, nl_13⟩, by decide +kernel⟩
theorem gw_11 : gSN R_Lands 23 R_Or y_Or_hasBit b_Or_hasBit 2 (some .boolean) 2 := ⟨⟨iw_137, iw_138, iw_110, nl_14⟩, by decide +kernel⟩
theorem gw_12 : gV R_Or 148 R_Lands y_Lands_ownLands b_Lands_ownLands 4 (some .int) 0 := gV_of iw_140 iw_141 iw_142 iw_102 iw_139 (by decide +kernel)
theorem gw_13 : gV R_Or 151 R_Parts y_Parts_foreignCents b_Parts_foreignCents 5 (some .long) 1 := gV_of iw_144 iw_145 iw_146 iw_99 iw_143 (by decide +kernel)
theorem gw_14 : gV R_Or 213 R_Parts y_Parts_foreignCentsAlike b_Parts_foreignCentsAlike 8 (some .long) 3 := gV_of iw_148 iw_149 iw_150 iw_99 iw_147 (by decide +kernel)
theorem gw_15 : gV R_Or 206 R_Rows y_Rows_numberAt b_Rows_numberAt 4 (some .int) 1 := gV_of iw_151 iw_135 iw_136 iw_96 iw_133 (by decide +kernel)
theorem gw_16 : gS R_Or 118 y_Or_hasBit b_Or_hasBit 2 (some .boolean) 2 := gS_of iw_152 iw_138 iw_110 iw_137 (by decide +kernel)
theorem gw_17 : gV R_Or 209 R_Or y_Or_isShareWithin b_Or_isShareWithin 6 (some .boolean) 2 := gV_of iw_154 iw_155 iw_156 iw_110 iw_153 (by decide +kernel)
theorem gw_18 : gV R_Or 203 R_Or y_Or_isChanged b_Or_isChanged 7 (some .boolean) 3 := gV_of iw_158 iw_159 iw_160 iw_110 iw_157 (by decide +kernel)
theorem gw_19 : gS R_Or 192 y_Or_isLetter b_Or_isLetter 1 (some .boolean) 1 := gS_of iw_162 iw_163 iw_110 iw_161 (by decide +kernel)
theorem gw_20 : gV R_Or 196 R_Or y_Or_factorHolds b_Or_factorHolds 7 (some .boolean) 3 := gV_of iw_165 iw_166 iw_167 iw_110 iw_164 (by decide +kernel)
theorem gw_21 : gV R_Or 199 R_Or y_Or_keepAnswer b_Or_keepAnswer 3 none 2 := gV_of iw_169 iw_170 iw_171 iw_110 iw_168 (by decide +kernel)
theorem gw_22 : gV R_Or 67 R_Text y_Text_add b_Text_add 2 none 1 := gV_of iw_173 iw_174 iw_175 iw_93 iw_172 (by decide +kernel)
theorem gw_23 : gV R_Or 71 R_Text y_Text_rowsOrWrongPlace b_Text_rowsOrWrongPlace 2 (some .int) 0 := gV_of iw_177 iw_178 iw_179 iw_93 iw_176 (by decide +kernel)
theorem gw_24 : gV R_Or 79 R_Rows y_Rows_replace b_Rows_replace 4 none 3 := gV_of iw_181 iw_182 iw_183 iw_96 iw_180 (by decide +kernel)
theorem gw_25 : gV R_Or 112 R_Parts y_Parts_forget b_Parts_forget 2 (some .int) 0 := gV_of iw_185 iw_186 iw_187 iw_99 iw_184 (by decide +kernel)
theorem gw_26 : gS R_Or 115 y_Or_isProcess b_Or_isProcess 1 (some .boolean) 1 := gS_of iw_189 iw_190 iw_110 iw_188 (by decide +kernel)
theorem gw_27 : gV R_Or 184 R_Parts y_Parts_foreignParts b_Parts_foreignParts 4 (some .int) 1 := gV_of iw_192 iw_193 iw_194 iw_99 iw_191 (by decide +kernel)
theorem gw_28 : gS R_Or 83 y_Or_isCode b_Or_isCode 1 (some .boolean) 1 := gS_of iw_196 iw_197 iw_110 iw_195 (by decide +kernel)
theorem gw_29 : gS R_Or 87 y_Or_isLand b_Or_isLand 1 (some .boolean) 1 := gS_of iw_199 iw_200 iw_110 iw_198 (by decide +kernel)
theorem gw_30 : gS R_Or 90 y_Or_isCents b_Or_isCents 2 (some .boolean) 1 := gS_of iw_202 iw_203 iw_110 iw_201 (by decide +kernel)
theorem gw_31 : gV R_Or 109 R_Parts y_Parts_add b_Parts_add 5 (some .int) 3 := gV_of iw_205 iw_206 iw_207 iw_99 iw_204 (by decide +kernel)
theorem gw_32 : gV R_Or 124 R_Lands y_Lands_addPair b_Lands_addPair 3 (some .boolean) 2 := gV_of iw_209 iw_210 iw_211 iw_102 iw_208 (by decide +kernel)
theorem gw_33 : gV R_Or 133 R_Rows y_Rows_startFor b_Rows_startFor 7 (some .int) 1 := gV_of iw_213 iw_214 iw_215 iw_96 iw_212 (by decide +kernel)
theorem gw_34 : gV R_Or 137 R_Or y_Or_ruleHolds b_Or_ruleHolds 10 (some .boolean) 3 := gV_of iw_217 iw_218 iw_219 iw_110 iw_216 (by decide +kernel)
theorem gw_35 : gS R_Or 155 y_Or_greatestDivisor b_Or_greatestDivisor 11 (some .long) 2 := gS_of iw_221 iw_222 iw_110 iw_220 (by decide +kernel)
theorem gw_36 : gS R_Or 164 y_Or_isDay b_Or_isDay 1 (some .boolean) 1 := gS_of iw_224 iw_225 iw_110 iw_223 (by decide +kernel)
theorem gw_37 : gV R_Or 172 R_Proofs y_Proofs_add b_Proofs_add 4 (some .int) 3 := gV_of iw_227 iw_228 iw_229 iw_105 iw_226 (by decide +kernel)
theorem gw_38 : gV R_Or 177 R_Proofs y_Proofs_isGood b_Proofs_isGood 6 (some .boolean) 3 := gV_of iw_231 iw_232 iw_233 iw_105 iw_230 (by decide +kernel)
theorem gw_39 : gS R_Md 68 y_Md_in b_Md_in 6 (some .boolean) 3 := gS_of iw_235 iw_236 iw_237 iw_234 (by decide +kernel)
theorem gw_40 : gS R_Md 75 y_Md_isDigit b_Md_isDigit 1 (some .boolean) 1 := gS_of iw_239 iw_240 iw_237 iw_238 (by decide +kernel)
theorem gw_41 : gS R_Md 83 y_Md_behind b_Md_behind 2 (some .int) 2 := gS_of iw_242 iw_243 iw_237 iw_241 (by decide +kernel)
theorem gw_42 : gS R_Md 79 y_Md_ahead b_Md_ahead 2 (some .int) 2 := gS_of iw_245 iw_246 iw_237 iw_244 (by decide +kernel)
theorem gw_43 : gV R_Md 90 R_Md y_Md_begin b_Md_begin 7 (some .int) 2 := gV_of iw_248 iw_249 iw_250 iw_237 iw_247 (by decide +kernel)
theorem gw_44 : gV R_Md 99 R_Md y_Md_refuse b_Md_refuse 2 (some .int) 1 := gV_of iw_252 iw_253 iw_254 iw_237 iw_251 (by decide +kernel)
theorem gw_45 : gV R_Md 126 R_Md y_Md_isOwn b_Md_isOwn 6 (some .boolean) 1 := gV_of iw_256 iw_257 iw_258 iw_237 iw_255 (by decide +kernel)
theorem gw_46 : gV R_Md 129 R_Md y_Md_isOther b_Md_isOther 10 (some .boolean) 3 := gV_of iw_260 iw_261 iw_262 iw_237 iw_259 (by decide +kernel)
theorem gw_47 : gV R_Md 135 R_Md y_Md_foreign b_Md_foreign 4 (some .long) 0 := gV_of iw_264 iw_265 iw_266 iw_237 iw_263 (by decide +kernel)
theorem gw_48 : gV R_Md 139 R_Md y_Md_numberAt b_Md_numberAt 4 (some .int) 1 := gV_of iw_268 iw_269 iw_270 iw_237 iw_267 (by decide +kernel)
theorem gw_49 : gV R_Md 145 R_Md y_Md_holds b_Md_holds 5 (some .boolean) 3 := gV_of iw_272 iw_273 iw_274 iw_237 iw_271 (by decide +kernel)
theorem gw_50 : gV R_Md 149 R_Md y_Md_rowOf b_Md_rowOf 6 (some .int) 1 := gV_of iw_276 iw_277 iw_278 iw_237 iw_275 (by decide +kernel)
theorem gw_51 : gV R_Md 152 R_Md y_Md_ruled b_Md_ruled 10 (some .boolean) 3 := gV_of iw_280 iw_281 iw_282 iw_237 iw_279 (by decide +kernel)
theorem gw_52 : gS R_Md 157 y_Md_isDay b_Md_isDay 1 (some .boolean) 1 := gS_of iw_284 iw_285 iw_237 iw_283 (by decide +kernel)
theorem gw_53 : gIN R_Or 9 R_Or y_Text_init b_Text_init 1 := ⟨⟨iw_286, iw_287, iw_93, nl_15⟩, rfl, by decide +kernel⟩
theorem gw_54 : gIN R_Or 18 R_Or y_Rows_init b_Rows_init 1 := ⟨⟨iw_288, iw_289, iw_96, nl_16⟩, rfl, by decide +kernel⟩
theorem gw_55 : gIN R_Or 25 R_Or y_Parts_init b_Parts_init 1 := ⟨⟨iw_290, iw_291, iw_99, nl_17⟩, rfl, by decide +kernel⟩
theorem gw_56 : gIN R_Or 32 R_Or y_Lands_init b_Lands_init 1 := ⟨⟨iw_292, iw_293, iw_102, nl_18⟩, rfl, by decide +kernel⟩
theorem gw_57 : gIN R_Or 39 R_Or y_Proofs_init b_Proofs_init 1 := ⟨⟨iw_294, iw_295, iw_105, nl_19⟩, rfl, by decide +kernel⟩
end
section
theorem d_Or_init_0 : decode b_Or_init 0 = .ok (.aload_n 0, 1) := by decide +kernel
theorem d_Or_init_1 : decode b_Or_init 1 = .ok (.invokespecial 1, 3) := by decide +kernel
theorem d_Or_init_4 : decode b_Or_init 4 = .ok (.aload_n 0, 1) := by decide +kernel
theorem d_Or_init_5 : decode b_Or_init 5 = .ok (.new 7, 3) := by decide +kernel
theorem d_Or_init_8 : decode b_Or_init 8 = .ok (.dup, 1) := by decide +kernel
theorem d_Or_init_9 : decode b_Or_init 9 = .ok (.invokespecial 9, 3) := by decide +kernel
theorem d_Or_init_12 : decode b_Or_init 12 = .ok (.putfield 10, 3) := by decide +kernel
theorem d_Or_init_15 : decode b_Or_init 15 = .ok (.aload_n 0, 1) := by decide +kernel
theorem d_Or_init_16 : decode b_Or_init 16 = .ok (.new 16, 3) := by decide +kernel
theorem d_Or_init_19 : decode b_Or_init 19 = .ok (.dup, 1) := by decide +kernel
theorem d_Or_init_20 : decode b_Or_init 20 = .ok (.invokespecial 18, 3) := by decide +kernel
theorem d_Or_init_23 : decode b_Or_init 23 = .ok (.putfield 19, 3) := by decide +kernel
theorem d_Or_init_26 : decode b_Or_init 26 = .ok (.aload_n 0, 1) := by decide +kernel
theorem d_Or_init_27 : decode b_Or_init 27 = .ok (.new 23, 3) := by decide +kernel
theorem d_Or_init_30 : decode b_Or_init 30 = .ok (.dup, 1) := by decide +kernel
theorem d_Or_init_31 : decode b_Or_init 31 = .ok (.invokespecial 25, 3) := by decide +kernel
theorem d_Or_init_34 : decode b_Or_init 34 = .ok (.putfield 26, 3) := by decide +kernel
theorem d_Or_init_37 : decode b_Or_init 37 = .ok (.aload_n 0, 1) := by decide +kernel
theorem d_Or_init_38 : decode b_Or_init 38 = .ok (.new 30, 3) := by decide +kernel
theorem d_Or_init_41 : decode b_Or_init 41 = .ok (.dup, 1) := by decide +kernel
theorem d_Or_init_42 : decode b_Or_init 42 = .ok (.invokespecial 32, 3) := by decide +kernel
theorem d_Or_init_45 : decode b_Or_init 45 = .ok (.putfield 33, 3) := by decide +kernel
theorem d_Or_init_48 : decode b_Or_init 48 = .ok (.aload_n 0, 1) := by decide +kernel
theorem d_Or_init_49 : decode b_Or_init 49 = .ok (.new 37, 3) := by decide +kernel
theorem d_Or_init_52 : decode b_Or_init 52 = .ok (.dup, 1) := by decide +kernel
theorem d_Or_init_53 : decode b_Or_init 53 = .ok (.invokespecial 39, 3) := by decide +kernel
theorem d_Or_init_56 : decode b_Or_init 56 = .ok (.putfield 40, 3) := by decide +kernel
theorem d_Or_init_59 : decode b_Or_init 59 = .ok (.aload_n 0, 1) := by decide +kernel
theorem d_Or_init_60 : decode b_Or_init 60 = .ok (.iconst 0, 1) := by decide +kernel
theorem d_Or_init_61 : decode b_Or_init 61 = .ok (.putfield 44, 3) := by decide +kernel
theorem d_Or_init_64 : decode b_Or_init 64 = .ok (.aload_n 0, 1) := by decide +kernel
theorem d_Or_init_65 : decode b_Or_init 65 = .ok (.iconst 0, 1) := by decide +kernel
theorem d_Or_init_66 : decode b_Or_init 66 = .ok (.putfield 48, 3) := by decide +kernel
theorem d_Or_init_69 : decode b_Or_init 69 = .ok (.aload_n 0, 1) := by decide +kernel
theorem d_Or_init_70 : decode b_Or_init 70 = .ok (.iconst 0, 1) := by decide +kernel
theorem d_Or_init_71 : decode b_Or_init 71 = .ok (.putfield 51, 3) := by decide +kernel
theorem d_Or_init_74 : decode b_Or_init 74 = .ok (.aload_n 0, 1) := by decide +kernel
theorem d_Or_init_75 : decode b_Or_init 75 = .ok (.iconst 1, 1) := by decide +kernel
theorem d_Or_init_76 : decode b_Or_init 76 = .ok (.putfield 54, 3) := by decide +kernel
theorem d_Or_init_79 : decode b_Or_init 79 = .ok (.aload_n 0, 1) := by decide +kernel
theorem d_Or_init_80 : decode b_Or_init 80 = .ok (.sipush 149, 3) := by decide +kernel
theorem d_Or_init_83 : decode b_Or_init 83 = .ok (.newarray .int, 2) := by decide +kernel
theorem d_Or_init_85 : decode b_Or_init 85 = .ok (.putfield 57, 3) := by decide +kernel
theorem d_Or_init_88 : decode b_Or_init 88 = .ok (.aload_n 0, 1) := by decide +kernel
theorem d_Or_init_89 : decode b_Or_init 89 = .ok (.iconst 0, 1) := by decide +kernel
theorem d_Or_init_90 : decode b_Or_init 90 = .ok (.putfield 61, 3) := by decide +kernel
theorem d_Or_init_93 : decode b_Or_init 93 = .ok (.return_, 1) := by decide +kernel
theorem d_Or_sign_0 : decode b_Or_sign 0 = .ok (.iload_n 1, 1) := by decide +kernel
theorem d_Or_sign_1 : decode b_Or_sign 1 = .ok (.bipush 33, 2) := by decide +kernel
theorem d_Or_sign_3 : decode b_Or_sign 3 = .ok (.if_icmp .lt 22, 3) := by decide +kernel
theorem d_Or_sign_6 : decode b_Or_sign 6 = .ok (.iload_n 1, 1) := by decide +kernel
theorem d_Or_sign_7 : decode b_Or_sign 7 = .ok (.bipush 126, 2) := by decide +kernel
theorem d_Or_sign_9 : decode b_Or_sign 9 = .ok (.if_icmp .gt 16, 3) := by decide +kernel
theorem d_Or_sign_12 : decode b_Or_sign 12 = .ok (.aload_n 0, 1) := by decide +kernel
theorem d_Or_sign_13 : decode b_Or_sign 13 = .ok (.getfield 10, 3) := by decide +kernel
theorem d_Or_sign_16 : decode b_Or_sign 16 = .ok (.getfield 64, 3) := by decide +kernel
theorem d_Or_sign_19 : decode b_Or_sign 19 = .ok (.sipush 300, 3) := by decide +kernel
theorem d_Or_sign_22 : decode b_Or_sign 22 = .ok (.if_icmp .lt 5, 3) := by decide +kernel
theorem d_Or_sign_25 : decode b_Or_sign 25 = .ok (.iconst 0, 1) := by decide +kernel
theorem d_Or_sign_26 : decode b_Or_sign 26 = .ok (.ireturn, 1) := by decide +kernel
theorem d_Or_sign_27 : decode b_Or_sign 27 = .ok (.aload_n 0, 1) := by decide +kernel
theorem d_Or_sign_28 : decode b_Or_sign 28 = .ok (.getfield 10, 3) := by decide +kernel
theorem d_Or_sign_31 : decode b_Or_sign 31 = .ok (.iload_n 1, 1) := by decide +kernel
theorem d_Or_sign_32 : decode b_Or_sign 32 = .ok (.i2c, 1) := by decide +kernel
theorem d_Or_sign_33 : decode b_Or_sign 33 = .ok (.invokevirtual 67, 3) := by decide +kernel
theorem d_Or_sign_36 : decode b_Or_sign 36 = .ok (.iconst 1, 1) := by decide +kernel
theorem d_Or_sign_37 : decode b_Or_sign 37 = .ok (.ireturn, 1) := by decide +kernel
theorem d_Or_read_0 : decode b_Or_read 0 = .ok (.aload_n 0, 1) := by decide +kernel
theorem d_Or_read_1 : decode b_Or_read 1 = .ok (.getfield 10, 3) := by decide +kernel
theorem d_Or_read_4 : decode b_Or_read 4 = .ok (.invokevirtual 71, 3) := by decide +kernel
theorem d_Or_read_7 : decode b_Or_read 7 = .ok (.istore_n 1, 1) := by decide +kernel
theorem d_Or_read_8 : decode b_Or_read 8 = .ok (.iload_n 1, 1) := by decide +kernel
theorem d_Or_read_9 : decode b_Or_read 9 = .ok (.ifCond .le 25, 3) := by decide +kernel
theorem d_Or_read_12 : decode b_Or_read 12 = .ok (.aload_n 0, 1) := by decide +kernel
theorem d_Or_read_13 : decode b_Or_read 13 = .ok (.getfield 19, 3) := by decide +kernel
theorem d_Or_read_16 : decode b_Or_read 16 = .ok (.aload_n 0, 1) := by decide +kernel
theorem d_Or_read_17 : decode b_Or_read 17 = .ok (.getfield 10, 3) := by decide +kernel
theorem d_Or_read_20 : decode b_Or_read 20 = .ok (.getfield 75, 3) := by decide +kernel
theorem d_Or_read_23 : decode b_Or_read 23 = .ok (.aload_n 0, 1) := by decide +kernel
theorem d_Or_read_24 : decode b_Or_read 24 = .ok (.getfield 10, 3) := by decide +kernel
theorem d_Or_read_27 : decode b_Or_read 27 = .ok (.getfield 64, 3) := by decide +kernel
theorem d_Or_read_30 : decode b_Or_read 30 = .ok (.iload_n 1, 1) := by decide +kernel
theorem d_Or_read_31 : decode b_Or_read 31 = .ok (.invokevirtual 79, 3) := by decide +kernel
theorem d_Or_read_34 : decode b_Or_read 34 = .ok (.aload_n 0, 1) := by decide +kernel
theorem d_Or_read_35 : decode b_Or_read 35 = .ok (.getfield 10, 3) := by decide +kernel
theorem d_Or_read_38 : decode b_Or_read 38 = .ok (.iconst 0, 1) := by decide +kernel
theorem d_Or_read_39 : decode b_Or_read 39 = .ok (.putfield 64, 3) := by decide +kernel
theorem d_Or_read_42 : decode b_Or_read 42 = .ok (.iload_n 1, 1) := by decide +kernel
theorem d_Or_read_43 : decode b_Or_read 43 = .ok (.ireturn, 1) := by decide +kernel
theorem d_Or_part_0 : decode b_Or_part 0 = .ok (.iload_n 1, 1) := by decide +kernel
theorem d_Or_part_1 : decode b_Or_part 1 = .ok (.invokestatic 83, 3) := by decide +kernel
theorem d_Or_part_4 : decode b_Or_part 4 = .ok (.ifCond .eq 17, 3) := by decide +kernel
theorem d_Or_part_7 : decode b_Or_part 7 = .ok (.iload_n 2, 1) := by decide +kernel
theorem d_Or_part_8 : decode b_Or_part 8 = .ok (.invokestatic 87, 3) := by decide +kernel
theorem d_Or_part_11 : decode b_Or_part 11 = .ok (.ifCond .eq 10, 3) := by decide +kernel
theorem d_Or_part_14 : decode b_Or_part 14 = .ok (.lload_n 3, 1) := by decide +kernel
theorem d_Or_part_15 : decode b_Or_part 15 = .ok (.invokestatic 90, 3) := by decide +kernel
theorem d_Or_part_18 : decode b_Or_part 18 = .ok (.ifCond .ne 13, 3) := by decide +kernel
theorem d_Or_part_21 : decode b_Or_part 21 = .ok (.new 94, 3) := by decide +kernel
theorem d_Or_part_24 : decode b_Or_part 24 = .ok (.dup, 1) := by decide +kernel
theorem d_Or_part_25 : decode b_Or_part 25 = .ok (.ldc 96, 2) := by decide +kernel
theorem d_Or_part_27 : decode b_Or_part 27 = .ok (.invokespecial 98, 3) := by decide +kernel
theorem d_Or_part_30 : decode b_Or_part 30 = .ok (.athrow, 1) := by decide +kernel
theorem d_Or_part_31 : decode b_Or_part 31 = .ok (.aload_n 0, 1) := by decide +kernel
theorem d_Or_part_32 : decode b_Or_part 32 = .ok (.getfield 26, 3) := by decide +kernel
theorem d_Or_part_35 : decode b_Or_part 35 = .ok (.getfield 101, 3) := by decide +kernel
theorem d_Or_part_38 : decode b_Or_part 38 = .ok (.bipush 12, 2) := by decide +kernel
theorem d_Or_part_40 : decode b_Or_part 40 = .ok (.if_icmp .lt 13, 3) := by decide +kernel
theorem d_Or_part_43 : decode b_Or_part 43 = .ok (.new 104, 3) := by decide +kernel
theorem d_Or_part_46 : decode b_Or_part 46 = .ok (.dup, 1) := by decide +kernel
theorem d_Or_part_47 : decode b_Or_part 47 = .ok (.ldc 106, 2) := by decide +kernel
theorem d_Or_part_49 : decode b_Or_part 49 = .ok (.invokespecial 108, 3) := by decide +kernel
theorem d_Or_part_52 : decode b_Or_part 52 = .ok (.athrow, 1) := by decide +kernel
theorem d_Or_part_53 : decode b_Or_part 53 = .ok (.aload_n 0, 1) := by decide +kernel
theorem d_Or_part_54 : decode b_Or_part 54 = .ok (.getfield 26, 3) := by decide +kernel
theorem d_Or_part_57 : decode b_Or_part 57 = .ok (.iload_n 1, 1) := by decide +kernel
theorem d_Or_part_58 : decode b_Or_part 58 = .ok (.iload_n 2, 1) := by decide +kernel
theorem d_Or_part_59 : decode b_Or_part 59 = .ok (.lload_n 3, 1) := by decide +kernel
theorem d_Or_part_60 : decode b_Or_part 60 = .ok (.invokevirtual 109, 3) := by decide +kernel
theorem d_Or_part_63 : decode b_Or_part 63 = .ok (.ireturn, 1) := by decide +kernel
theorem d_Or_clear_0 : decode b_Or_clear 0 = .ok (.aload_n 0, 1) := by decide +kernel
theorem d_Or_clear_1 : decode b_Or_clear 1 = .ok (.iconst 0, 1) := by decide +kernel
theorem d_Or_clear_2 : decode b_Or_clear 2 = .ok (.putfield 44, 3) := by decide +kernel
theorem d_Or_clear_5 : decode b_Or_clear 5 = .ok (.aload_n 0, 1) := by decide +kernel
theorem d_Or_clear_6 : decode b_Or_clear 6 = .ok (.getfield 26, 3) := by decide +kernel
theorem d_Or_clear_9 : decode b_Or_clear 9 = .ok (.invokevirtual 112, 3) := by decide +kernel
theorem d_Or_clear_12 : decode b_Or_clear 12 = .ok (.ireturn, 1) := by decide +kernel
theorem d_Or_process_0 : decode b_Or_process 0 = .ok (.iload_n 1, 1) := by decide +kernel
theorem d_Or_process_1 : decode b_Or_process 1 = .ok (.invokestatic 115, 3) := by decide +kernel
theorem d_Or_process_4 : decode b_Or_process 4 = .ok (.ifCond .eq 14, 3) := by decide +kernel
theorem d_Or_process_7 : decode b_Or_process 7 = .ok (.aload_n 0, 1) := by decide +kernel
theorem d_Or_process_8 : decode b_Or_process 8 = .ok (.getfield 44, 3) := by decide +kernel
theorem d_Or_process_11 : decode b_Or_process 11 = .ok (.iload_n 1, 1) := by decide +kernel
theorem d_Or_process_12 : decode b_Or_process 12 = .ok (.invokestatic 118, 3) := by decide +kernel
theorem d_Or_process_15 : decode b_Or_process 15 = .ok (.ifCond .eq 5, 3) := by decide +kernel
theorem d_Or_process_18 : decode b_Or_process 18 = .ok (.iconst 0, 1) := by decide +kernel
theorem d_Or_process_19 : decode b_Or_process 19 = .ok (.ireturn, 1) := by decide +kernel
theorem d_Or_process_20 : decode b_Or_process 20 = .ok (.aload_n 0, 1) := by decide +kernel
theorem d_Or_process_21 : decode b_Or_process 21 = .ok (.dup, 1) := by decide +kernel
theorem d_Or_process_22 : decode b_Or_process 22 = .ok (.getfield 44, 3) := by decide +kernel
theorem d_Or_process_25 : decode b_Or_process 25 = .ok (.iconst 1, 1) := by decide +kernel
theorem d_Or_process_26 : decode b_Or_process 26 = .ok (.iload_n 1, 1) := by decide +kernel
theorem d_Or_process_27 : decode b_Or_process 27 = .ok (.ishl, 1) := by decide +kernel
theorem d_Or_process_28 : decode b_Or_process 28 = .ok (.ior, 1) := by decide +kernel
theorem d_Or_process_29 : decode b_Or_process 29 = .ok (.putfield 44, 3) := by decide +kernel
theorem d_Or_process_32 : decode b_Or_process 32 = .ok (.iconst 1, 1) := by decide +kernel
theorem d_Or_process_33 : decode b_Or_process 33 = .ok (.ireturn, 1) := by decide +kernel
theorem d_Or_bar_0 : decode b_Or_bar 0 = .ok (.iload_n 1, 1) := by decide +kernel
theorem d_Or_bar_1 : decode b_Or_bar 1 = .ok (.invokestatic 115, 3) := by decide +kernel
theorem d_Or_bar_4 : decode b_Or_bar 4 = .ok (.ifCond .eq 15, 3) := by decide +kernel
theorem d_Or_bar_7 : decode b_Or_bar 7 = .ok (.aload_n 0, 1) := by decide +kernel
theorem d_Or_bar_8 : decode b_Or_bar 8 = .ok (.getfield 48, 3) := by decide +kernel
theorem d_Or_bar_11 : decode b_Or_bar 11 = .ok (.iload_n 1, 1) := by decide +kernel
theorem d_Or_bar_12 : decode b_Or_bar 12 = .ok (.invokestatic 118, 3) := by decide +kernel
theorem d_Or_bar_15 : decode b_Or_bar 15 = .ok (.iload_n 2, 1) := by decide +kernel
theorem d_Or_bar_16 : decode b_Or_bar 16 = .ok (.if_icmp .ne 5, 3) := by decide +kernel
theorem d_Or_bar_19 : decode b_Or_bar 19 = .ok (.iconst 0, 1) := by decide +kernel
theorem d_Or_bar_20 : decode b_Or_bar 20 = .ok (.ireturn, 1) := by decide +kernel
theorem d_Or_bar_21 : decode b_Or_bar 21 = .ok (.aload_n 0, 1) := by decide +kernel
theorem d_Or_bar_22 : decode b_Or_bar 22 = .ok (.dup, 1) := by decide +kernel
theorem d_Or_bar_23 : decode b_Or_bar 23 = .ok (.getfield 48, 3) := by decide +kernel
theorem d_Or_bar_26 : decode b_Or_bar 26 = .ok (.iconst 1, 1) := by decide +kernel
theorem d_Or_bar_27 : decode b_Or_bar 27 = .ok (.iload_n 1, 1) := by decide +kernel
theorem d_Or_bar_28 : decode b_Or_bar 28 = .ok (.ishl, 1) := by decide +kernel
theorem d_Or_bar_29 : decode b_Or_bar 29 = .ok (.ixor, 1) := by decide +kernel
theorem d_Or_bar_30 : decode b_Or_bar 30 = .ok (.putfield 48, 3) := by decide +kernel
theorem d_Or_bar_33 : decode b_Or_bar 33 = .ok (.iconst 1, 1) := by decide +kernel
theorem d_Or_bar_34 : decode b_Or_bar 34 = .ok (.ireturn, 1) := by decide +kernel
theorem d_Or_join_0 : decode b_Or_join 0 = .ok (.iload_n 1, 1) := by decide +kernel
theorem d_Or_join_1 : decode b_Or_join 1 = .ok (.invokestatic 87, 3) := by decide +kernel
theorem d_Or_join_4 : decode b_Or_join 4 = .ok (.ifCond .eq 15, 3) := by decide +kernel
theorem d_Or_join_7 : decode b_Or_join 7 = .ok (.iload_n 2, 1) := by decide +kernel
theorem d_Or_join_8 : decode b_Or_join 8 = .ok (.invokestatic 87, 3) := by decide +kernel
theorem d_Or_join_11 : decode b_Or_join 11 = .ok (.ifCond .eq 8, 3) := by decide +kernel
theorem d_Or_join_14 : decode b_Or_join 14 = .ok (.iload_n 1, 1) := by decide +kernel
theorem d_Or_join_15 : decode b_Or_join 15 = .ok (.iload_n 2, 1) := by decide +kernel
theorem d_Or_join_16 : decode b_Or_join 16 = .ok (.if_icmp .ne 13, 3) := by decide +kernel
theorem d_Or_join_19 : decode b_Or_join 19 = .ok (.new 94, 3) := by decide +kernel
theorem d_Or_join_22 : decode b_Or_join 22 = .ok (.dup, 1) := by decide +kernel
theorem d_Or_join_23 : decode b_Or_join 23 = .ok (.ldc 122, 2) := by decide +kernel
theorem d_Or_join_25 : decode b_Or_join 25 = .ok (.invokespecial 98, 3) := by decide +kernel
theorem d_Or_join_28 : decode b_Or_join 28 = .ok (.athrow, 1) := by decide +kernel
theorem d_Or_join_29 : decode b_Or_join 29 = .ok (.aload_n 0, 1) := by decide +kernel
theorem d_Or_join_30 : decode b_Or_join 30 = .ok (.getfield 33, 3) := by decide +kernel
theorem d_Or_join_33 : decode b_Or_join 33 = .ok (.iload_n 1, 1) := by decide +kernel
theorem d_Or_join_34 : decode b_Or_join 34 = .ok (.iload_n 2, 1) := by decide +kernel
theorem d_Or_join_35 : decode b_Or_join 35 = .ok (.invokevirtual 124, 3) := by decide +kernel
theorem d_Or_join_38 : decode b_Or_join 38 = .ok (.ifCond .eq 7, 3) := by decide +kernel
theorem d_Or_join_41 : decode b_Or_join 41 = .ok (.iconst 1, 1) := by decide +kernel
theorem d_Or_join_42 : decode b_Or_join 42 = .ok (.goto 4, 3) := by decide +kernel
theorem d_Or_join_45 : decode b_Or_join 45 = .ok (.iconst 0, 1) := by decide +kernel
theorem d_Or_join_46 : decode b_Or_join 46 = .ok (.ireturn, 1) := by decide +kernel
theorem d_Or_full_0 : decode b_Or_full 0 = .ok (.aload_n 0, 1) := by decide +kernel
theorem d_Or_full_1 : decode b_Or_full 1 = .ok (.getfield 33, 3) := by decide +kernel
theorem d_Or_full_4 : decode b_Or_full 4 = .ok (.getfield 127, 3) := by decide +kernel
theorem d_Or_full_7 : decode b_Or_full 7 = .ok (.iload_n 1, 1) := by decide +kernel
theorem d_Or_full_8 : decode b_Or_full 8 = .ok (.if_icmp .ne 5, 3) := by decide +kernel
theorem d_Or_full_11 : decode b_Or_full 11 = .ok (.iconst 0, 1) := by decide +kernel
theorem d_Or_full_12 : decode b_Or_full 12 = .ok (.ireturn, 1) := by decide +kernel
theorem d_Or_full_13 : decode b_Or_full 13 = .ok (.aload_n 0, 1) := by decide +kernel
theorem d_Or_full_14 : decode b_Or_full 14 = .ok (.getfield 33, 3) := by decide +kernel
theorem d_Or_full_17 : decode b_Or_full 17 = .ok (.iload_n 1, 1) := by decide +kernel
theorem d_Or_full_18 : decode b_Or_full 18 = .ok (.putfield 127, 3) := by decide +kernel
theorem d_Or_full_21 : decode b_Or_full 21 = .ok (.iconst 1, 1) := by decide +kernel
theorem d_Or_full_22 : decode b_Or_full 22 = .ok (.ireturn, 1) := by decide +kernel
theorem d_Or_tolerance_0 : decode b_Or_tolerance 0 = .ok (.iload_n 2, 1) := by decide +kernel
theorem d_Or_tolerance_1 : decode b_Or_tolerance 1 = .ok (.iconst 1, 1) := by decide +kernel
theorem d_Or_tolerance_2 : decode b_Or_tolerance 2 = .ok (.if_icmp .lt 19, 3) := by decide +kernel
theorem d_Or_tolerance_5 : decode b_Or_tolerance 5 = .ok (.iload_n 2, 1) := by decide +kernel
theorem d_Or_tolerance_6 : decode b_Or_tolerance 6 = .ok (.sipush 1000, 3) := by decide +kernel
theorem d_Or_tolerance_9 : decode b_Or_tolerance 9 = .ok (.if_icmp .gt 12, 3) := by decide +kernel
theorem d_Or_tolerance_12 : decode b_Or_tolerance 12 = .ok (.iload_n 1, 1) := by decide +kernel
theorem d_Or_tolerance_13 : decode b_Or_tolerance 13 = .ok (.ifCond .lt 8, 3) := by decide +kernel
theorem d_Or_tolerance_16 : decode b_Or_tolerance 16 = .ok (.iload_n 1, 1) := by decide +kernel
theorem d_Or_tolerance_17 : decode b_Or_tolerance 17 = .ok (.iload_n 2, 1) := by decide +kernel
theorem d_Or_tolerance_18 : decode b_Or_tolerance 18 = .ok (.if_icmp .le 5, 3) := by decide +kernel
theorem d_Or_tolerance_21 : decode b_Or_tolerance 21 = .ok (.iconst 0, 1) := by decide +kernel
theorem d_Or_tolerance_22 : decode b_Or_tolerance 22 = .ok (.ireturn, 1) := by decide +kernel
theorem d_Or_tolerance_23 : decode b_Or_tolerance 23 = .ok (.aload_n 0, 1) := by decide +kernel
theorem d_Or_tolerance_24 : decode b_Or_tolerance 24 = .ok (.iload_n 1, 1) := by decide +kernel
theorem d_Or_tolerance_25 : decode b_Or_tolerance 25 = .ok (.putfield 51, 3) := by decide +kernel
theorem d_Or_tolerance_28 : decode b_Or_tolerance 28 = .ok (.aload_n 0, 1) := by decide +kernel
theorem d_Or_tolerance_29 : decode b_Or_tolerance 29 = .ok (.iload_n 2, 1) := by decide +kernel
theorem d_Or_tolerance_30 : decode b_Or_tolerance 30 = .ok (.putfield 54, 3) := by decide +kernel
theorem d_Or_tolerance_33 : decode b_Or_tolerance 33 = .ok (.iconst 1, 1) := by decide +kernel
theorem d_Or_tolerance_34 : decode b_Or_tolerance 34 = .ok (.ireturn, 1) := by decide +kernel
theorem d_Or_verdict_0 : decode b_Or_verdict 0 = .ok (.iload_n 1, 1) := by decide +kernel
theorem d_Or_verdict_1 : decode b_Or_verdict 1 = .ok (.invokestatic 83, 3) := by decide +kernel
theorem d_Or_verdict_4 : decode b_Or_verdict 4 = .ok (.ifCond .eq 10, 3) := by decide +kernel
theorem d_Or_verdict_7 : decode b_Or_verdict 7 = .ok (.lload_n 2, 1) := by decide +kernel
theorem d_Or_verdict_8 : decode b_Or_verdict 8 = .ok (.invokestatic 90, 3) := by decide +kernel
theorem d_Or_verdict_11 : decode b_Or_verdict 11 = .ok (.ifCond .ne 13, 3) := by decide +kernel
theorem d_Or_verdict_14 : decode b_Or_verdict 14 = .ok (.new 94, 3) := by decide +kernel
theorem d_Or_verdict_17 : decode b_Or_verdict 17 = .ok (.dup, 1) := by decide +kernel
theorem d_Or_verdict_18 : decode b_Or_verdict 18 = .ok (.ldc 131, 2) := by decide +kernel
theorem d_Or_verdict_20 : decode b_Or_verdict 20 = .ok (.invokespecial 98, 3) := by decide +kernel
theorem d_Or_verdict_23 : decode b_Or_verdict 23 = .ok (.athrow, 1) := by decide +kernel
theorem d_Or_verdict_24 : decode b_Or_verdict 24 = .ok (.aload_n 0, 1) := by decide +kernel
theorem d_Or_verdict_25 : decode b_Or_verdict 25 = .ok (.getfield 19, 3) := by decide +kernel
theorem d_Or_verdict_28 : decode b_Or_verdict 28 = .ok (.iload_n 1, 1) := by decide +kernel
theorem d_Or_verdict_29 : decode b_Or_verdict 29 = .ok (.invokevirtual 133, 3) := by decide +kernel
theorem d_Or_verdict_32 : decode b_Or_verdict 32 = .ok (.istore 4, 2) := by decide +kernel
theorem d_Or_verdict_34 : decode b_Or_verdict 34 = .ok (.iload 4, 2) := by decide +kernel
theorem d_Or_verdict_36 : decode b_Or_verdict 36 = .ok (.iconst (-1), 1) := by decide +kernel
theorem d_Or_verdict_37 : decode b_Or_verdict 37 = .ok (.if_icmp .ne 5, 3) := by decide +kernel
theorem d_Or_verdict_40 : decode b_Or_verdict 40 = .ok (.iconst 3, 1) := by decide +kernel
theorem d_Or_verdict_41 : decode b_Or_verdict 41 = .ok (.ireturn, 1) := by decide +kernel
theorem d_Or_verdict_42 : decode b_Or_verdict 42 = .ok (.aload_n 0, 1) := by decide +kernel
theorem d_Or_verdict_43 : decode b_Or_verdict 43 = .ok (.getfield 44, 3) := by decide +kernel
theorem d_Or_verdict_46 : decode b_Or_verdict 46 = .ok (.ifCond .eq 19, 3) := by decide +kernel
theorem d_Or_verdict_49 : decode b_Or_verdict 49 = .ok (.aload_n 0, 1) := by decide +kernel
theorem d_Or_verdict_50 : decode b_Or_verdict 50 = .ok (.getfield 44, 3) := by decide +kernel
theorem d_Or_verdict_53 : decode b_Or_verdict 53 = .ok (.aload_n 0, 1) := by decide +kernel
theorem d_Or_verdict_54 : decode b_Or_verdict 54 = .ok (.getfield 48, 3) := by decide +kernel
theorem d_Or_verdict_57 : decode b_Or_verdict 57 = .ok (.iconst (-1), 1) := by decide +kernel
theorem d_Or_verdict_58 : decode b_Or_verdict 58 = .ok (.ixor, 1) := by decide +kernel
theorem d_Or_verdict_59 : decode b_Or_verdict 59 = .ok (.iand, 1) := by decide +kernel
theorem d_Or_verdict_60 : decode b_Or_verdict 60 = .ok (.ifCond .ne 5, 3) := by decide +kernel
theorem d_Or_verdict_63 : decode b_Or_verdict 63 = .ok (.iconst 2, 1) := by decide +kernel
theorem d_Or_verdict_64 : decode b_Or_verdict 64 = .ok (.ireturn, 1) := by decide +kernel
theorem d_Or_verdict_65 : decode b_Or_verdict 65 = .ok (.aload_n 0, 1) := by decide +kernel
theorem d_Or_verdict_66 : decode b_Or_verdict 66 = .ok (.iload 4, 2) := by decide +kernel
theorem d_Or_verdict_68 : decode b_Or_verdict 68 = .ok (.iload_n 1, 1) := by decide +kernel
theorem d_Or_verdict_69 : decode b_Or_verdict 69 = .ok (.lload_n 2, 1) := by decide +kernel
theorem d_Or_verdict_70 : decode b_Or_verdict 70 = .ok (.invokevirtual 137, 3) := by decide +kernel
theorem d_Or_verdict_73 : decode b_Or_verdict 73 = .ok (.ifCond .eq 7, 3) := by decide +kernel
theorem d_Or_verdict_76 : decode b_Or_verdict 76 = .ok (.iconst 1, 1) := by decide +kernel
theorem d_Or_verdict_77 : decode b_Or_verdict 77 = .ok (.goto 4, 3) := by decide +kernel
theorem d_Or_verdict_80 : decode b_Or_verdict 80 = .ok (.iconst 0, 1) := by decide +kernel
theorem d_Or_verdict_81 : decode b_Or_verdict 81 = .ok (.ireturn, 1) := by decide +kernel
theorem d_Or_why_0 : decode b_Or_why 0 = .ok (.iload_n 1, 1) := by decide +kernel
theorem d_Or_why_1 : decode b_Or_why 1 = .ok (.ifCond .lt 20, 3) := by decide +kernel
theorem d_Or_why_4 : decode b_Or_why 4 = .ok (.iload_n 1, 1) := by decide +kernel
theorem d_Or_why_5 : decode b_Or_why 5 = .ok (.aload_n 0, 1) := by decide +kernel
theorem d_Or_why_6 : decode b_Or_why 6 = .ok (.getfield 61, 3) := by decide +kernel
theorem d_Or_why_9 : decode b_Or_why 9 = .ok (.if_icmp .ge 12, 3) := by decide +kernel
theorem d_Or_why_12 : decode b_Or_why 12 = .ok (.aload_n 0, 1) := by decide +kernel
theorem d_Or_why_13 : decode b_Or_why 13 = .ok (.getfield 57, 3) := by decide +kernel
theorem d_Or_why_16 : decode b_Or_why 16 = .ok (.iload_n 1, 1) := by decide +kernel
theorem d_Or_why_17 : decode b_Or_why 17 = .ok (.iaload, 1) := by decide +kernel
theorem d_Or_why_18 : decode b_Or_why 18 = .ok (.goto 4, 3) := by decide +kernel
theorem d_Or_why_21 : decode b_Or_why 21 = .ok (.iconst (-1), 1) := by decide +kernel
theorem d_Or_why_22 : decode b_Or_why 22 = .ok (.ireturn, 1) := by decide +kernel
theorem d_Or_share_0 : decode b_Or_share 0 = .ok (.lload_n 1, 1) := by decide +kernel
theorem d_Or_share_1 : decode b_Or_share 1 = .ok (.invokestatic 90, 3) := by decide +kernel
theorem d_Or_share_4 : decode b_Or_share 4 = .ok (.ifCond .eq 12, 3) := by decide +kernel
theorem d_Or_share_7 : decode b_Or_share 7 = .ok (.iload_n 3, 1) := by decide +kernel
theorem d_Or_share_8 : decode b_Or_share 8 = .ok (.ifCond .lt 8, 3) := by decide +kernel
theorem d_Or_share_11 : decode b_Or_share 11 = .ok (.iload_n 3, 1) := by decide +kernel
theorem d_Or_share_12 : decode b_Or_share 12 = .ok (.iconst 1, 1) := by decide +kernel
theorem d_Or_share_13 : decode b_Or_share 13 = .ok (.if_icmp .le 13, 3) := by decide +kernel
theorem d_Or_share_16 : decode b_Or_share 16 = .ok (.new 94, 3) := by decide +kernel
theorem d_Or_share_19 : decode b_Or_share 19 = .ok (.dup, 1) := by decide +kernel
theorem d_Or_share_20 : decode b_Or_share 20 = .ok (.ldc 141, 2) := by decide +kernel
theorem d_Or_share_22 : decode b_Or_share 22 = .ok (.invokespecial 98, 3) := by decide +kernel
theorem d_Or_share_25 : decode b_Or_share 25 = .ok (.athrow, 1) := by decide +kernel
theorem d_Or_share_26 : decode b_Or_share 26 = .ok (.lload_n 1, 1) := by decide +kernel
theorem d_Or_share_27 : decode b_Or_share 27 = .ok (.lconst 0, 1) := by decide +kernel
theorem d_Or_share_28 : decode b_Or_share 28 = .ok (.lcmp, 1) := by decide +kernel
theorem d_Or_share_29 : decode b_Or_share 29 = .ok (.ifCond .ne 13, 3) := by decide +kernel
theorem d_Or_share_32 : decode b_Or_share 32 = .ok (.new 143, 3) := by decide +kernel
theorem d_Or_share_35 : decode b_Or_share 35 = .ok (.dup, 1) := by decide +kernel
theorem d_Or_share_36 : decode b_Or_share 36 = .ok (.ldc 145, 2) := by decide +kernel
theorem d_Or_share_38 : decode b_Or_share 38 = .ok (.invokespecial 147, 3) := by decide +kernel
theorem d_Or_share_41 : decode b_Or_share 41 = .ok (.athrow, 1) := by decide +kernel
theorem d_Or_share_42 : decode b_Or_share 42 = .ok (.aload_n 0, 1) := by decide +kernel
theorem d_Or_share_43 : decode b_Or_share 43 = .ok (.getfield 26, 3) := by decide +kernel
theorem d_Or_share_46 : decode b_Or_share 46 = .ok (.aload_n 0, 1) := by decide +kernel
theorem d_Or_share_47 : decode b_Or_share 47 = .ok (.getfield 33, 3) := by decide +kernel
theorem d_Or_share_50 : decode b_Or_share 50 = .ok (.invokevirtual 148, 3) := by decide +kernel
theorem d_Or_share_53 : decode b_Or_share 53 = .ok (.invokevirtual 151, 3) := by decide +kernel
theorem d_Or_share_56 : decode b_Or_share 56 = .ok (.lstore 4, 2) := by decide +kernel
theorem d_Or_share_58 : decode b_Or_share 58 = .ok (.lconst 1, 1) := by decide +kernel
theorem d_Or_share_59 : decode b_Or_share 59 = .ok (.lload 4, 2) := by decide +kernel
theorem d_Or_share_61 : decode b_Or_share 61 = .ok (.lload_n 1, 1) := by decide +kernel
theorem d_Or_share_62 : decode b_Or_share 62 = .ok (.invokestatic 155, 3) := by decide +kernel
theorem d_Or_share_65 : decode b_Or_share 65 = .ok (.invokestatic 159, 3) := by decide +kernel
theorem d_Or_share_68 : decode b_Or_share 68 = .ok (.lstore 6, 2) := by decide +kernel
theorem d_Or_share_70 : decode b_Or_share 70 = .ok (.iload_n 3, 1) := by decide +kernel
theorem d_Or_share_71 : decode b_Or_share 71 = .ok (.ifCond .ne 8, 3) := by decide +kernel
theorem d_Or_share_74 : decode b_Or_share 74 = .ok (.lload 4, 2) := by decide +kernel
theorem d_Or_share_76 : decode b_Or_share 76 = .ok (.goto 4, 3) := by decide +kernel
theorem d_Or_share_79 : decode b_Or_share 79 = .ok (.lload_n 1, 1) := by decide +kernel
theorem d_Or_share_80 : decode b_Or_share 80 = .ok (.lload 6, 2) := by decide +kernel
theorem d_Or_share_82 : decode b_Or_share 82 = .ok (.ldiv, 1) := by decide +kernel
theorem d_Or_share_83 : decode b_Or_share 83 = .ok (.lreturn, 1) := by decide +kernel
theorem d_Or_proof_0 : decode b_Or_proof 0 = .ok (.iload_n 1, 1) := by decide +kernel
theorem d_Or_proof_1 : decode b_Or_proof 1 = .ok (.ifCond .lt 27, 3) := by decide +kernel
theorem d_Or_proof_4 : decode b_Or_proof 4 = .ok (.iload_n 1, 1) := by decide +kernel
theorem d_Or_proof_5 : decode b_Or_proof 5 = .ok (.iconst 1, 1) := by decide +kernel
theorem d_Or_proof_6 : decode b_Or_proof 6 = .ok (.if_icmp .gt 22, 3) := by decide +kernel
theorem d_Or_proof_9 : decode b_Or_proof 9 = .ok (.iload_n 2, 1) := by decide +kernel
theorem d_Or_proof_10 : decode b_Or_proof 10 = .ok (.invokestatic 164, 3) := by decide +kernel
theorem d_Or_proof_13 : decode b_Or_proof 13 = .ok (.ifCond .eq 15, 3) := by decide +kernel
theorem d_Or_proof_16 : decode b_Or_proof 16 = .ok (.iload_n 3, 1) := by decide +kernel
theorem d_Or_proof_17 : decode b_Or_proof 17 = .ok (.invokestatic 164, 3) := by decide +kernel
theorem d_Or_proof_20 : decode b_Or_proof 20 = .ok (.ifCond .eq 8, 3) := by decide +kernel
theorem d_Or_proof_23 : decode b_Or_proof 23 = .ok (.iload_n 2, 1) := by decide +kernel
theorem d_Or_proof_24 : decode b_Or_proof 24 = .ok (.iload_n 3, 1) := by decide +kernel
theorem d_Or_proof_25 : decode b_Or_proof 25 = .ok (.if_icmp .le 13, 3) := by decide +kernel
theorem d_Or_proof_28 : decode b_Or_proof 28 = .ok (.new 94, 3) := by decide +kernel
theorem d_Or_proof_31 : decode b_Or_proof 31 = .ok (.dup, 1) := by decide +kernel
theorem d_Or_proof_32 : decode b_Or_proof 32 = .ok (.ldc 167, 2) := by decide +kernel
theorem d_Or_proof_34 : decode b_Or_proof 34 = .ok (.invokespecial 98, 3) := by decide +kernel
theorem d_Or_proof_37 : decode b_Or_proof 37 = .ok (.athrow, 1) := by decide +kernel
theorem d_Or_proof_38 : decode b_Or_proof 38 = .ok (.aload_n 0, 1) := by decide +kernel
theorem d_Or_proof_39 : decode b_Or_proof 39 = .ok (.getfield 40, 3) := by decide +kernel
theorem d_Or_proof_42 : decode b_Or_proof 42 = .ok (.getfield 169, 3) := by decide +kernel
theorem d_Or_proof_45 : decode b_Or_proof 45 = .ok (.bipush 20, 2) := by decide +kernel
theorem d_Or_proof_47 : decode b_Or_proof 47 = .ok (.if_icmp .lt 13, 3) := by decide +kernel
theorem d_Or_proof_50 : decode b_Or_proof 50 = .ok (.new 104, 3) := by decide +kernel
theorem d_Or_proof_53 : decode b_Or_proof 53 = .ok (.dup, 1) := by decide +kernel
theorem d_Or_proof_54 : decode b_Or_proof 54 = .ok (.ldc 170, 2) := by decide +kernel
theorem d_Or_proof_56 : decode b_Or_proof 56 = .ok (.invokespecial 108, 3) := by decide +kernel
theorem d_Or_proof_59 : decode b_Or_proof 59 = .ok (.athrow, 1) := by decide +kernel
theorem d_Or_proof_60 : decode b_Or_proof 60 = .ok (.aload_n 0, 1) := by decide +kernel
theorem d_Or_proof_61 : decode b_Or_proof 61 = .ok (.getfield 40, 3) := by decide +kernel
theorem d_Or_proof_64 : decode b_Or_proof 64 = .ok (.iload_n 1, 1) := by decide +kernel
theorem d_Or_proof_65 : decode b_Or_proof 65 = .ok (.iload_n 2, 1) := by decide +kernel
theorem d_Or_proof_66 : decode b_Or_proof 66 = .ok (.iload_n 3, 1) := by decide +kernel
theorem d_Or_proof_67 : decode b_Or_proof 67 = .ok (.invokevirtual 172, 3) := by decide +kernel
theorem d_Or_proof_70 : decode b_Or_proof 70 = .ok (.ireturn, 1) := by decide +kernel
theorem d_Or_good_0 : decode b_Or_good 0 = .ok (.iload_n 1, 1) := by decide +kernel
theorem d_Or_good_1 : decode b_Or_good 1 = .ok (.ifCond .lt 29, 3) := by decide +kernel
theorem d_Or_good_4 : decode b_Or_good 4 = .ok (.iload_n 1, 1) := by decide +kernel
theorem d_Or_good_5 : decode b_Or_good 5 = .ok (.aload_n 0, 1) := by decide +kernel
theorem d_Or_good_6 : decode b_Or_good 6 = .ok (.getfield 40, 3) := by decide +kernel
theorem d_Or_good_9 : decode b_Or_good 9 = .ok (.getfield 169, 3) := by decide +kernel
theorem d_Or_good_12 : decode b_Or_good 12 = .ok (.if_icmp .ge 18, 3) := by decide +kernel
theorem d_Or_good_15 : decode b_Or_good 15 = .ok (.lload_n 2, 1) := by decide +kernel
theorem d_Or_good_16 : decode b_Or_good 16 = .ok (.invokestatic 90, 3) := by decide +kernel
theorem d_Or_good_19 : decode b_Or_good 19 = .ok (.ifCond .eq 11, 3) := by decide +kernel
theorem d_Or_good_22 : decode b_Or_good 22 = .ok (.iload 4, 2) := by decide +kernel
theorem d_Or_good_24 : decode b_Or_good 24 = .ok (.invokestatic 164, 3) := by decide +kernel
theorem d_Or_good_27 : decode b_Or_good 27 = .ok (.ifCond .ne 13, 3) := by decide +kernel
theorem d_Or_good_30 : decode b_Or_good 30 = .ok (.new 94, 3) := by decide +kernel
theorem d_Or_good_33 : decode b_Or_good 33 = .ok (.dup, 1) := by decide +kernel
theorem d_Or_good_34 : decode b_Or_good 34 = .ok (.ldc 175, 2) := by decide +kernel
theorem d_Or_good_36 : decode b_Or_good 36 = .ok (.invokespecial 98, 3) := by decide +kernel
theorem d_Or_good_39 : decode b_Or_good 39 = .ok (.athrow, 1) := by decide +kernel
theorem d_Or_good_40 : decode b_Or_good 40 = .ok (.aload_n 0, 1) := by decide +kernel
theorem d_Or_good_41 : decode b_Or_good 41 = .ok (.getfield 40, 3) := by decide +kernel
theorem d_Or_good_44 : decode b_Or_good 44 = .ok (.iload_n 1, 1) := by decide +kernel
theorem d_Or_good_45 : decode b_Or_good 45 = .ok (.lload_n 2, 1) := by decide +kernel
theorem d_Or_good_46 : decode b_Or_good 46 = .ok (.iload 4, 2) := by decide +kernel
theorem d_Or_good_48 : decode b_Or_good 48 = .ok (.invokevirtual 177, 3) := by decide +kernel
theorem d_Or_good_51 : decode b_Or_good 51 = .ok (.ireturn, 1) := by decide +kernel
theorem d_Or_own_0 : decode b_Or_own 0 = .ok (.iload_n 1, 1) := by decide +kernel
theorem d_Or_own_1 : decode b_Or_own 1 = .ok (.invokestatic 87, 3) := by decide +kernel
theorem d_Or_own_4 : decode b_Or_own 4 = .ok (.ifCond .ne 13, 3) := by decide +kernel
theorem d_Or_own_7 : decode b_Or_own 7 = .ok (.new 94, 3) := by decide +kernel
theorem d_Or_own_10 : decode b_Or_own 10 = .ok (.dup, 1) := by decide +kernel
theorem d_Or_own_11 : decode b_Or_own 11 = .ok (.ldc 181, 2) := by decide +kernel
theorem d_Or_own_13 : decode b_Or_own 13 = .ok (.invokespecial 98, 3) := by decide +kernel
theorem d_Or_own_16 : decode b_Or_own 16 = .ok (.athrow, 1) := by decide +kernel
theorem d_Or_own_17 : decode b_Or_own 17 = .ok (.aload_n 0, 1) := by decide +kernel
theorem d_Or_own_18 : decode b_Or_own 18 = .ok (.getfield 33, 3) := by decide +kernel
theorem d_Or_own_21 : decode b_Or_own 21 = .ok (.invokevirtual 148, 3) := by decide +kernel
theorem d_Or_own_24 : decode b_Or_own 24 = .ok (.iload_n 1, 1) := by decide +kernel
theorem d_Or_own_25 : decode b_Or_own 25 = .ok (.invokestatic 118, 3) := by decide +kernel
theorem d_Or_own_28 : decode b_Or_own 28 = .ok (.ireturn, 1) := by decide +kernel
theorem d_Or_count_0 : decode b_Or_count 0 = .ok (.iload_n 1, 1) := by decide +kernel
theorem d_Or_count_1 : decode b_Or_count 1 = .ok (.tableswitch 112 0 7 #[47, 55, 63, 71, 86, 91, 99, 107], 47) := by decide +kernel
theorem d_Or_count_48 : decode b_Or_count 48 = .ok (.aload_n 0, 1) := by decide +kernel
theorem d_Or_count_49 : decode b_Or_count 49 = .ok (.getfield 10, 3) := by decide +kernel
theorem d_Or_count_52 : decode b_Or_count 52 = .ok (.getfield 64, 3) := by decide +kernel
theorem d_Or_count_55 : decode b_Or_count 55 = .ok (.ireturn, 1) := by decide +kernel
theorem d_Or_count_56 : decode b_Or_count 56 = .ok (.aload_n 0, 1) := by decide +kernel
theorem d_Or_count_57 : decode b_Or_count 57 = .ok (.getfield 19, 3) := by decide +kernel
theorem d_Or_count_60 : decode b_Or_count 60 = .ok (.getfield 183, 3) := by decide +kernel
theorem d_Or_count_63 : decode b_Or_count 63 = .ok (.ireturn, 1) := by decide +kernel
theorem d_Or_count_64 : decode b_Or_count 64 = .ok (.aload_n 0, 1) := by decide +kernel
theorem d_Or_count_65 : decode b_Or_count 65 = .ok (.getfield 26, 3) := by decide +kernel
theorem d_Or_count_68 : decode b_Or_count 68 = .ok (.getfield 101, 3) := by decide +kernel
theorem d_Or_count_71 : decode b_Or_count 71 = .ok (.ireturn, 1) := by decide +kernel
theorem d_Or_count_72 : decode b_Or_count 72 = .ok (.aload_n 0, 1) := by decide +kernel
theorem d_Or_count_73 : decode b_Or_count 73 = .ok (.getfield 26, 3) := by decide +kernel
theorem d_Or_count_76 : decode b_Or_count 76 = .ok (.aload_n 0, 1) := by decide +kernel
theorem d_Or_count_77 : decode b_Or_count 77 = .ok (.getfield 33, 3) := by decide +kernel
theorem d_Or_count_80 : decode b_Or_count 80 = .ok (.invokevirtual 148, 3) := by decide +kernel
theorem d_Or_count_83 : decode b_Or_count 83 = .ok (.invokevirtual 184, 3) := by decide +kernel
theorem d_Or_count_86 : decode b_Or_count 86 = .ok (.ireturn, 1) := by decide +kernel
theorem d_Or_count_87 : decode b_Or_count 87 = .ok (.aload_n 0, 1) := by decide +kernel
theorem d_Or_count_88 : decode b_Or_count 88 = .ok (.getfield 44, 3) := by decide +kernel
theorem d_Or_count_91 : decode b_Or_count 91 = .ok (.ireturn, 1) := by decide +kernel
theorem d_Or_count_92 : decode b_Or_count 92 = .ok (.aload_n 0, 1) := by decide +kernel
theorem d_Or_count_93 : decode b_Or_count 93 = .ok (.getfield 33, 3) := by decide +kernel
theorem d_Or_count_96 : decode b_Or_count 96 = .ok (.getfield 187, 3) := by decide +kernel
theorem d_Or_count_99 : decode b_Or_count 99 = .ok (.ireturn, 1) := by decide +kernel
theorem d_Or_count_100 : decode b_Or_count 100 = .ok (.aload_n 0, 1) := by decide +kernel
theorem d_Or_count_101 : decode b_Or_count 101 = .ok (.getfield 40, 3) := by decide +kernel
theorem d_Or_count_104 : decode b_Or_count 104 = .ok (.getfield 169, 3) := by decide +kernel
theorem d_Or_count_107 : decode b_Or_count 107 = .ok (.ireturn, 1) := by decide +kernel
theorem d_Or_count_108 : decode b_Or_count 108 = .ok (.aload_n 0, 1) := by decide +kernel
theorem d_Or_count_109 : decode b_Or_count 109 = .ok (.getfield 61, 3) := by decide +kernel
theorem d_Or_count_112 : decode b_Or_count 112 = .ok (.ireturn, 1) := by decide +kernel
theorem d_Or_count_113 : decode b_Or_count 113 = .ok (.iconst (-1), 1) := by decide +kernel
theorem d_Or_count_114 : decode b_Or_count 114 = .ok (.ireturn, 1) := by decide +kernel
theorem d_Or_ruleHolds_0 : decode b_Or_ruleHolds 0 = .ok (.iconst 0, 1) := by decide +kernel
theorem d_Or_ruleHolds_1 : decode b_Or_ruleHolds 1 = .ok (.istore 5, 2) := by decide +kernel
theorem d_Or_ruleHolds_3 : decode b_Or_ruleHolds 3 = .ok (.iconst 0, 1) := by decide +kernel
theorem d_Or_ruleHolds_4 : decode b_Or_ruleHolds 4 = .ok (.istore 6, 2) := by decide +kernel
theorem d_Or_ruleHolds_6 : decode b_Or_ruleHolds 6 = .ok (.iconst 0, 1) := by decide +kernel
theorem d_Or_ruleHolds_7 : decode b_Or_ruleHolds 7 = .ok (.istore 7, 2) := by decide +kernel
theorem d_Or_ruleHolds_9 : decode b_Or_ruleHolds 9 = .ok (.aload_n 0, 1) := by decide +kernel
theorem d_Or_ruleHolds_10 : decode b_Or_ruleHolds 10 = .ok (.iconst 0, 1) := by decide +kernel
theorem d_Or_ruleHolds_11 : decode b_Or_ruleHolds 11 = .ok (.putfield 61, 3) := by decide +kernel
theorem d_Or_ruleHolds_14 : decode b_Or_ruleHolds 14 = .ok (.iload_n 1, 1) := by decide +kernel
theorem d_Or_ruleHolds_15 : decode b_Or_ruleHolds 15 = .ok (.istore 8, 2) := by decide +kernel
theorem d_Or_ruleHolds_17 : decode b_Or_ruleHolds 17 = .ok (.iload 8, 2) := by decide +kernel
theorem d_Or_ruleHolds_19 : decode b_Or_ruleHolds 19 = .ok (.aload_n 0, 1) := by decide +kernel
theorem d_Or_ruleHolds_20 : decode b_Or_ruleHolds 20 = .ok (.getfield 19, 3) := by decide +kernel
theorem d_Or_ruleHolds_23 : decode b_Or_ruleHolds 23 = .ok (.getfield 190, 3) := by decide +kernel
theorem d_Or_ruleHolds_26 : decode b_Or_ruleHolds 26 = .ok (.if_icmp .ge 155, 3) := by decide +kernel
theorem d_Or_ruleHolds_29 : decode b_Or_ruleHolds 29 = .ok (.aload_n 0, 1) := by decide +kernel
theorem d_Or_ruleHolds_30 : decode b_Or_ruleHolds 30 = .ok (.getfield 19, 3) := by decide +kernel
theorem d_Or_ruleHolds_33 : decode b_Or_ruleHolds 33 = .ok (.getfield 191, 3) := by decide +kernel
theorem d_Or_ruleHolds_36 : decode b_Or_ruleHolds 36 = .ok (.iload 8, 2) := by decide +kernel
theorem d_Or_ruleHolds_38 : decode b_Or_ruleHolds 38 = .ok (.caload, 1) := by decide +kernel
theorem d_Or_ruleHolds_39 : decode b_Or_ruleHolds 39 = .ok (.bipush 59, 2) := by decide +kernel
theorem d_Or_ruleHolds_41 : decode b_Or_ruleHolds 41 = .ok (.if_icmp .eq 140, 3) := by decide +kernel
theorem d_Or_ruleHolds_44 : decode b_Or_ruleHolds 44 = .ok (.aload_n 0, 1) := by decide +kernel
theorem d_Or_ruleHolds_45 : decode b_Or_ruleHolds 45 = .ok (.getfield 19, 3) := by decide +kernel
theorem d_Or_ruleHolds_48 : decode b_Or_ruleHolds 48 = .ok (.getfield 191, 3) := by decide +kernel
theorem d_Or_ruleHolds_51 : decode b_Or_ruleHolds 51 = .ok (.iload 8, 2) := by decide +kernel
theorem d_Or_ruleHolds_53 : decode b_Or_ruleHolds 53 = .ok (.caload, 1) := by decide +kernel
theorem d_Or_ruleHolds_54 : decode b_Or_ruleHolds 54 = .ok (.istore 9, 2) := by decide +kernel
theorem d_Or_ruleHolds_56 : decode b_Or_ruleHolds 56 = .ok (.iload 6, 2) := by decide +kernel
theorem d_Or_ruleHolds_58 : decode b_Or_ruleHolds 58 = .ok (.ifCond .eq 59, 3) := by decide +kernel
theorem d_Or_ruleHolds_61 : decode b_Or_ruleHolds 61 = .ok (.iload 7, 2) := by decide +kernel
theorem d_Or_ruleHolds_63 : decode b_Or_ruleHolds 63 = .ok (.ifCond .ne 28, 3) := by decide +kernel
theorem d_Or_ruleHolds_66 : decode b_Or_ruleHolds 66 = .ok (.iload 9, 2) := by decide +kernel
theorem d_Or_ruleHolds_68 : decode b_Or_ruleHolds 68 = .ok (.bipush 41, 2) := by decide +kernel
theorem d_Or_ruleHolds_70 : decode b_Or_ruleHolds 70 = .ok (.if_icmp .eq 15, 3) := by decide +kernel
theorem d_Or_ruleHolds_73 : decode b_Or_ruleHolds 73 = .ok (.iload 9, 2) := by decide +kernel
theorem d_Or_ruleHolds_75 : decode b_Or_ruleHolds 75 = .ok (.bipush 124, 2) := by decide +kernel
theorem d_Or_ruleHolds_77 : decode b_Or_ruleHolds 77 = .ok (.if_icmp .ne 14, 3) := by decide +kernel
theorem d_Or_ruleHolds_80 : decode b_Or_ruleHolds 80 = .ok (.iload 5, 2) := by decide +kernel
theorem d_Or_ruleHolds_82 : decode b_Or_ruleHolds 82 = .ok (.ifCond .ne 9, 3) := by decide +kernel
theorem d_Or_ruleHolds_85 : decode b_Or_ruleHolds 85 = .ok (.iconst 0, 1) := by decide +kernel
theorem d_Or_ruleHolds_86 : decode b_Or_ruleHolds 86 = .ok (.istore 6, 2) := by decide +kernel
theorem d_Or_ruleHolds_88 : decode b_Or_ruleHolds 88 = .ok (.goto 87, 3) := by decide +kernel
theorem d_Or_ruleHolds_91 : decode b_Or_ruleHolds 91 = .ok (.iload 9, 2) := by decide +kernel
theorem d_Or_ruleHolds_93 : decode b_Or_ruleHolds 93 = .ok (.bipush 40, 2) := by decide +kernel
theorem d_Or_ruleHolds_95 : decode b_Or_ruleHolds 95 = .ok (.if_icmp .ne 9, 3) := by decide +kernel
theorem d_Or_ruleHolds_98 : decode b_Or_ruleHolds 98 = .ok (.iinc 7 1, 3) := by decide +kernel
theorem d_Or_ruleHolds_101 : decode b_Or_ruleHolds 101 = .ok (.goto 74, 3) := by decide +kernel
theorem d_Or_ruleHolds_104 : decode b_Or_ruleHolds 104 = .ok (.iload 9, 2) := by decide +kernel
theorem d_Or_ruleHolds_106 : decode b_Or_ruleHolds 106 = .ok (.bipush 41, 2) := by decide +kernel
theorem d_Or_ruleHolds_108 : decode b_Or_ruleHolds 108 = .ok (.if_icmp .ne 67, 3) := by decide +kernel
theorem d_Or_ruleHolds_111 : decode b_Or_ruleHolds 111 = .ok (.iinc 7 (-1), 3) := by decide +kernel
theorem d_Or_ruleHolds_114 : decode b_Or_ruleHolds 114 = .ok (.goto 61, 3) := by decide +kernel
theorem d_Or_ruleHolds_117 : decode b_Or_ruleHolds 117 = .ok (.iload 9, 2) := by decide +kernel
theorem d_Or_ruleHolds_119 : decode b_Or_ruleHolds 119 = .ok (.invokestatic 192, 3) := by decide +kernel
theorem d_Or_ruleHolds_122 : decode b_Or_ruleHolds 122 = .ok (.ifCond .eq 26, 3) := by decide +kernel
theorem d_Or_ruleHolds_125 : decode b_Or_ruleHolds 125 = .ok (.aload_n 0, 1) := by decide +kernel
theorem d_Or_ruleHolds_126 : decode b_Or_ruleHolds 126 = .ok (.iload 8, 2) := by decide +kernel
theorem d_Or_ruleHolds_128 : decode b_Or_ruleHolds 128 = .ok (.iload_n 2, 1) := by decide +kernel
theorem d_Or_ruleHolds_129 : decode b_Or_ruleHolds 129 = .ok (.lload_n 3, 1) := by decide +kernel
theorem d_Or_ruleHolds_130 : decode b_Or_ruleHolds 130 = .ok (.invokevirtual 196, 3) := by decide +kernel
theorem d_Or_ruleHolds_133 : decode b_Or_ruleHolds 133 = .ok (.istore 5, 2) := by decide +kernel
theorem d_Or_ruleHolds_135 : decode b_Or_ruleHolds 135 = .ok (.aload_n 0, 1) := by decide +kernel
theorem d_Or_ruleHolds_136 : decode b_Or_ruleHolds 136 = .ok (.iload 8, 2) := by decide +kernel
theorem d_Or_ruleHolds_138 : decode b_Or_ruleHolds 138 = .ok (.iload_n 1, 1) := by decide +kernel
theorem d_Or_ruleHolds_139 : decode b_Or_ruleHolds 139 = .ok (.isub, 1) := by decide +kernel
theorem d_Or_ruleHolds_140 : decode b_Or_ruleHolds 140 = .ok (.iload 5, 2) := by decide +kernel
theorem d_Or_ruleHolds_142 : decode b_Or_ruleHolds 142 = .ok (.invokevirtual 199, 3) := by decide +kernel
theorem d_Or_ruleHolds_145 : decode b_Or_ruleHolds 145 = .ok (.goto 30, 3) := by decide +kernel
theorem d_Or_ruleHolds_148 : decode b_Or_ruleHolds 148 = .ok (.iload 9, 2) := by decide +kernel
theorem d_Or_ruleHolds_150 : decode b_Or_ruleHolds 150 = .ok (.bipush 38, 2) := by decide +kernel
theorem d_Or_ruleHolds_152 : decode b_Or_ruleHolds 152 = .ok (.if_icmp .ne 8, 3) := by decide +kernel
theorem d_Or_ruleHolds_155 : decode b_Or_ruleHolds 155 = .ok (.iload 5, 2) := by decide +kernel
theorem d_Or_ruleHolds_157 : decode b_Or_ruleHolds 157 = .ok (.ifCond .eq 15, 3) := by decide +kernel
theorem d_Or_ruleHolds_160 : decode b_Or_ruleHolds 160 = .ok (.iload 9, 2) := by decide +kernel
theorem d_Or_ruleHolds_162 : decode b_Or_ruleHolds 162 = .ok (.bipush 124, 2) := by decide +kernel
theorem d_Or_ruleHolds_164 : decode b_Or_ruleHolds 164 = .ok (.if_icmp .ne 11, 3) := by decide +kernel
theorem d_Or_ruleHolds_167 : decode b_Or_ruleHolds 167 = .ok (.iload 5, 2) := by decide +kernel
theorem d_Or_ruleHolds_169 : decode b_Or_ruleHolds 169 = .ok (.ifCond .eq 6, 3) := by decide +kernel
theorem d_Or_ruleHolds_172 : decode b_Or_ruleHolds 172 = .ok (.iconst 1, 1) := by decide +kernel
theorem d_Or_ruleHolds_173 : decode b_Or_ruleHolds 173 = .ok (.istore 6, 2) := by decide +kernel
theorem d_Or_ruleHolds_175 : decode b_Or_ruleHolds 175 = .ok (.iinc 8 1, 3) := by decide +kernel
theorem d_Or_ruleHolds_178 : decode b_Or_ruleHolds 178 = .ok (.goto (-161), 3) := by decide +kernel
theorem d_Or_ruleHolds_181 : decode b_Or_ruleHolds 181 = .ok (.iload 5, 2) := by decide +kernel
theorem d_Or_ruleHolds_183 : decode b_Or_ruleHolds 183 = .ok (.ireturn, 1) := by decide +kernel
theorem d_Or_keepAnswer_0 : decode b_Or_keepAnswer 0 = .ok (.aload_n 0, 1) := by decide +kernel
theorem d_Or_keepAnswer_1 : decode b_Or_keepAnswer 1 = .ok (.getfield 61, 3) := by decide +kernel
theorem d_Or_keepAnswer_4 : decode b_Or_keepAnswer 4 = .ok (.sipush 149, 3) := by decide +kernel
theorem d_Or_keepAnswer_7 : decode b_Or_keepAnswer 7 = .ok (.if_icmp .ge 35, 3) := by decide +kernel
theorem d_Or_keepAnswer_10 : decode b_Or_keepAnswer 10 = .ok (.aload_n 0, 1) := by decide +kernel
theorem d_Or_keepAnswer_11 : decode b_Or_keepAnswer 11 = .ok (.getfield 57, 3) := by decide +kernel
theorem d_Or_keepAnswer_14 : decode b_Or_keepAnswer 14 = .ok (.aload_n 0, 1) := by decide +kernel
theorem d_Or_keepAnswer_15 : decode b_Or_keepAnswer 15 = .ok (.getfield 61, 3) := by decide +kernel
theorem d_Or_keepAnswer_18 : decode b_Or_keepAnswer 18 = .ok (.iconst 2, 1) := by decide +kernel
theorem d_Or_keepAnswer_19 : decode b_Or_keepAnswer 19 = .ok (.iload_n 1, 1) := by decide +kernel
theorem d_Or_keepAnswer_20 : decode b_Or_keepAnswer 20 = .ok (.imul, 1) := by decide +kernel
theorem d_Or_keepAnswer_21 : decode b_Or_keepAnswer 21 = .ok (.iload_n 2, 1) := by decide +kernel
theorem d_Or_keepAnswer_22 : decode b_Or_keepAnswer 22 = .ok (.ifCond .eq 7, 3) := by decide +kernel
theorem d_Or_keepAnswer_25 : decode b_Or_keepAnswer 25 = .ok (.iconst 1, 1) := by decide +kernel
theorem d_Or_keepAnswer_26 : decode b_Or_keepAnswer 26 = .ok (.goto 4, 3) := by decide +kernel
theorem d_Or_keepAnswer_29 : decode b_Or_keepAnswer 29 = .ok (.iconst 0, 1) := by decide +kernel
theorem d_Or_keepAnswer_30 : decode b_Or_keepAnswer 30 = .ok (.iadd, 1) := by decide +kernel
theorem d_Or_keepAnswer_31 : decode b_Or_keepAnswer 31 = .ok (.iastore, 1) := by decide +kernel
theorem d_Or_keepAnswer_32 : decode b_Or_keepAnswer 32 = .ok (.aload_n 0, 1) := by decide +kernel
theorem d_Or_keepAnswer_33 : decode b_Or_keepAnswer 33 = .ok (.dup, 1) := by decide +kernel
theorem d_Or_keepAnswer_34 : decode b_Or_keepAnswer 34 = .ok (.getfield 61, 3) := by decide +kernel
theorem d_Or_keepAnswer_37 : decode b_Or_keepAnswer 37 = .ok (.iconst 1, 1) := by decide +kernel
theorem d_Or_keepAnswer_38 : decode b_Or_keepAnswer 38 = .ok (.iadd, 1) := by decide +kernel
theorem d_Or_keepAnswer_39 : decode b_Or_keepAnswer 39 = .ok (.putfield 61, 3) := by decide +kernel
theorem d_Or_keepAnswer_42 : decode b_Or_keepAnswer 42 = .ok (.return_, 1) := by decide +kernel
theorem d_Or_factorHolds_0 : decode b_Or_factorHolds 0 = .ok (.aload_n 0, 1) := by decide +kernel
theorem d_Or_factorHolds_1 : decode b_Or_factorHolds 1 = .ok (.getfield 19, 3) := by decide +kernel
theorem d_Or_factorHolds_4 : decode b_Or_factorHolds 4 = .ok (.getfield 191, 3) := by decide +kernel
theorem d_Or_factorHolds_7 : decode b_Or_factorHolds 7 = .ok (.iload_n 1, 1) := by decide +kernel
theorem d_Or_factorHolds_8 : decode b_Or_factorHolds 8 = .ok (.caload, 1) := by decide +kernel
theorem d_Or_factorHolds_9 : decode b_Or_factorHolds 9 = .ok (.istore 5, 2) := by decide +kernel
theorem d_Or_factorHolds_11 : decode b_Or_factorHolds 11 = .ok (.iload 5, 2) := by decide +kernel
theorem d_Or_factorHolds_13 : decode b_Or_factorHolds 13 = .ok (.bipush 87, 2) := by decide +kernel
theorem d_Or_factorHolds_15 : decode b_Or_factorHolds 15 = .ok (.if_icmp .ne 19, 3) := by decide +kernel
theorem d_Or_factorHolds_18 : decode b_Or_factorHolds 18 = .ok (.aload_n 0, 1) := by decide +kernel
theorem d_Or_factorHolds_19 : decode b_Or_factorHolds 19 = .ok (.getfield 26, 3) := by decide +kernel
theorem d_Or_factorHolds_22 : decode b_Or_factorHolds 22 = .ok (.getfield 101, 3) := by decide +kernel
theorem d_Or_factorHolds_25 : decode b_Or_factorHolds 25 = .ok (.ifCond .ne 7, 3) := by decide +kernel
theorem d_Or_factorHolds_28 : decode b_Or_factorHolds 28 = .ok (.iconst 1, 1) := by decide +kernel
theorem d_Or_factorHolds_29 : decode b_Or_factorHolds 29 = .ok (.goto 4, 3) := by decide +kernel
theorem d_Or_factorHolds_32 : decode b_Or_factorHolds 32 = .ok (.iconst 0, 1) := by decide +kernel
theorem d_Or_factorHolds_33 : decode b_Or_factorHolds 33 = .ok (.ireturn, 1) := by decide +kernel
theorem d_Or_factorHolds_34 : decode b_Or_factorHolds 34 = .ok (.iload 5, 2) := by decide +kernel
theorem d_Or_factorHolds_36 : decode b_Or_factorHolds 36 = .ok (.bipush 67, 2) := by decide +kernel
theorem d_Or_factorHolds_38 : decode b_Or_factorHolds 38 = .ok (.if_icmp .ne 11, 3) := by decide +kernel
theorem d_Or_factorHolds_41 : decode b_Or_factorHolds 41 = .ok (.aload_n 0, 1) := by decide +kernel
theorem d_Or_factorHolds_42 : decode b_Or_factorHolds 42 = .ok (.iload_n 2, 1) := by decide +kernel
theorem d_Or_factorHolds_43 : decode b_Or_factorHolds 43 = .ok (.iconst 2, 1) := by decide +kernel
theorem d_Or_factorHolds_44 : decode b_Or_factorHolds 44 = .ok (.lload_n 3, 1) := by decide +kernel
theorem d_Or_factorHolds_45 : decode b_Or_factorHolds 45 = .ok (.invokevirtual 203, 3) := by decide +kernel
theorem d_Or_factorHolds_48 : decode b_Or_factorHolds 48 = .ok (.ireturn, 1) := by decide +kernel
theorem d_Or_factorHolds_49 : decode b_Or_factorHolds 49 = .ok (.iload 5, 2) := by decide +kernel
theorem d_Or_factorHolds_51 : decode b_Or_factorHolds 51 = .ok (.bipush 72, 2) := by decide +kernel
theorem d_Or_factorHolds_53 : decode b_Or_factorHolds 53 = .ok (.if_icmp .ne 11, 3) := by decide +kernel
theorem d_Or_factorHolds_56 : decode b_Or_factorHolds 56 = .ok (.aload_n 0, 1) := by decide +kernel
theorem d_Or_factorHolds_57 : decode b_Or_factorHolds 57 = .ok (.iload_n 2, 1) := by decide +kernel
theorem d_Or_factorHolds_58 : decode b_Or_factorHolds 58 = .ok (.iconst 4, 1) := by decide +kernel
theorem d_Or_factorHolds_59 : decode b_Or_factorHolds 59 = .ok (.lload_n 3, 1) := by decide +kernel
theorem d_Or_factorHolds_60 : decode b_Or_factorHolds 60 = .ok (.invokevirtual 203, 3) := by decide +kernel
theorem d_Or_factorHolds_63 : decode b_Or_factorHolds 63 = .ok (.ireturn, 1) := by decide +kernel
theorem d_Or_factorHolds_64 : decode b_Or_factorHolds 64 = .ok (.iload 5, 2) := by decide +kernel
theorem d_Or_factorHolds_66 : decode b_Or_factorHolds 66 = .ok (.bipush 83, 2) := by decide +kernel
theorem d_Or_factorHolds_68 : decode b_Or_factorHolds 68 = .ok (.if_icmp .ne 12, 3) := by decide +kernel
theorem d_Or_factorHolds_71 : decode b_Or_factorHolds 71 = .ok (.aload_n 0, 1) := by decide +kernel
theorem d_Or_factorHolds_72 : decode b_Or_factorHolds 72 = .ok (.iload_n 2, 1) := by decide +kernel
theorem d_Or_factorHolds_73 : decode b_Or_factorHolds 73 = .ok (.bipush 6, 2) := by decide +kernel
theorem d_Or_factorHolds_75 : decode b_Or_factorHolds 75 = .ok (.lload_n 3, 1) := by decide +kernel
theorem d_Or_factorHolds_76 : decode b_Or_factorHolds 76 = .ok (.invokevirtual 203, 3) := by decide +kernel
theorem d_Or_factorHolds_79 : decode b_Or_factorHolds 79 = .ok (.ireturn, 1) := by decide +kernel
theorem d_Or_factorHolds_80 : decode b_Or_factorHolds 80 = .ok (.aload_n 0, 1) := by decide +kernel
theorem d_Or_factorHolds_81 : decode b_Or_factorHolds 81 = .ok (.getfield 19, 3) := by decide +kernel
theorem d_Or_factorHolds_84 : decode b_Or_factorHolds 84 = .ok (.iload_n 1, 1) := by decide +kernel
theorem d_Or_factorHolds_85 : decode b_Or_factorHolds 85 = .ok (.iconst 1, 1) := by decide +kernel
theorem d_Or_factorHolds_86 : decode b_Or_factorHolds 86 = .ok (.iadd, 1) := by decide +kernel
theorem d_Or_factorHolds_87 : decode b_Or_factorHolds 87 = .ok (.invokevirtual 206, 3) := by decide +kernel
theorem d_Or_factorHolds_90 : decode b_Or_factorHolds 90 = .ok (.istore 6, 2) := by decide +kernel
theorem d_Or_factorHolds_92 : decode b_Or_factorHolds 92 = .ok (.iload 5, 2) := by decide +kernel
theorem d_Or_factorHolds_94 : decode b_Or_factorHolds 94 = .ok (.bipush 86, 2) := by decide +kernel
theorem d_Or_factorHolds_96 : decode b_Or_factorHolds 96 = .ok (.if_icmp .ne 13, 3) := by decide +kernel
theorem d_Or_factorHolds_99 : decode b_Or_factorHolds 99 = .ok (.aload_n 0, 1) := by decide +kernel
theorem d_Or_factorHolds_100 : decode b_Or_factorHolds 100 = .ok (.iload 6, 2) := by decide +kernel
theorem d_Or_factorHolds_102 : decode b_Or_factorHolds 102 = .ok (.lload_n 3, 1) := by decide +kernel
theorem d_Or_factorHolds_103 : decode b_Or_factorHolds 103 = .ok (.invokevirtual 209, 3) := by decide +kernel
theorem d_Or_factorHolds_106 : decode b_Or_factorHolds 106 = .ok (.goto 12, 3) := by decide +kernel
theorem d_Or_factorHolds_109 : decode b_Or_factorHolds 109 = .ok (.aload_n 0, 1) := by decide +kernel
theorem d_Or_factorHolds_110 : decode b_Or_factorHolds 110 = .ok (.getfield 44, 3) := by decide +kernel
theorem d_Or_factorHolds_113 : decode b_Or_factorHolds 113 = .ok (.iload 6, 2) := by decide +kernel
theorem d_Or_factorHolds_115 : decode b_Or_factorHolds 115 = .ok (.invokestatic 118, 3) := by decide +kernel
theorem d_Or_factorHolds_118 : decode b_Or_factorHolds 118 = .ok (.ireturn, 1) := by decide +kernel
theorem d_Or_isChanged_0 : decode b_Or_isChanged 0 = .ok (.aload_n 0, 1) := by decide +kernel
theorem d_Or_isChanged_1 : decode b_Or_isChanged 1 = .ok (.getfield 26, 3) := by decide +kernel
theorem d_Or_isChanged_4 : decode b_Or_isChanged 4 = .ok (.aload_n 0, 1) := by decide +kernel
theorem d_Or_isChanged_5 : decode b_Or_isChanged 5 = .ok (.getfield 33, 3) := by decide +kernel
theorem d_Or_isChanged_8 : decode b_Or_isChanged 8 = .ok (.invokevirtual 148, 3) := by decide +kernel
theorem d_Or_isChanged_11 : decode b_Or_isChanged 11 = .ok (.iload_n 1, 1) := by decide +kernel
theorem d_Or_isChanged_12 : decode b_Or_isChanged 12 = .ok (.iload_n 2, 1) := by decide +kernel
theorem d_Or_isChanged_13 : decode b_Or_isChanged 13 = .ok (.invokevirtual 213, 3) := by decide +kernel
theorem d_Or_isChanged_16 : decode b_Or_isChanged 16 = .ok (.lstore 5, 2) := by decide +kernel
theorem d_Or_isChanged_18 : decode b_Or_isChanged 18 = .ok (.lload 5, 2) := by decide +kernel
theorem d_Or_isChanged_20 : decode b_Or_isChanged 20 = .ok (.aload_n 0, 1) := by decide +kernel
theorem d_Or_isChanged_21 : decode b_Or_isChanged 21 = .ok (.getfield 54, 3) := by decide +kernel
theorem d_Or_isChanged_24 : decode b_Or_isChanged 24 = .ok (.i2l, 1) := by decide +kernel
theorem d_Or_isChanged_25 : decode b_Or_isChanged 25 = .ok (.lmul, 1) := by decide +kernel
theorem d_Or_isChanged_26 : decode b_Or_isChanged 26 = .ok (.aload_n 0, 1) := by decide +kernel
theorem d_Or_isChanged_27 : decode b_Or_isChanged 27 = .ok (.getfield 51, 3) := by decide +kernel
theorem d_Or_isChanged_30 : decode b_Or_isChanged 30 = .ok (.i2l, 1) := by decide +kernel
theorem d_Or_isChanged_31 : decode b_Or_isChanged 31 = .ok (.lload_n 3, 1) := by decide +kernel
theorem d_Or_isChanged_32 : decode b_Or_isChanged 32 = .ok (.lmul, 1) := by decide +kernel
theorem d_Or_isChanged_33 : decode b_Or_isChanged 33 = .ok (.lcmp, 1) := by decide +kernel
theorem d_Or_isChanged_34 : decode b_Or_isChanged 34 = .ok (.ifCond .gt 7, 3) := by decide +kernel
theorem d_Or_isChanged_37 : decode b_Or_isChanged 37 = .ok (.iconst 1, 1) := by decide +kernel
theorem d_Or_isChanged_38 : decode b_Or_isChanged 38 = .ok (.goto 4, 3) := by decide +kernel
theorem d_Or_isChanged_41 : decode b_Or_isChanged 41 = .ok (.iconst 0, 1) := by decide +kernel
theorem d_Or_isChanged_42 : decode b_Or_isChanged 42 = .ok (.ireturn, 1) := by decide +kernel
theorem d_Or_isShareWithin_0 : decode b_Or_isShareWithin 0 = .ok (.aload_n 0, 1) := by decide +kernel
theorem d_Or_isShareWithin_1 : decode b_Or_isShareWithin 1 = .ok (.getfield 26, 3) := by decide +kernel
theorem d_Or_isShareWithin_4 : decode b_Or_isShareWithin 4 = .ok (.aload_n 0, 1) := by decide +kernel
theorem d_Or_isShareWithin_5 : decode b_Or_isShareWithin 5 = .ok (.getfield 33, 3) := by decide +kernel
theorem d_Or_isShareWithin_8 : decode b_Or_isShareWithin 8 = .ok (.invokevirtual 148, 3) := by decide +kernel
theorem d_Or_isShareWithin_11 : decode b_Or_isShareWithin 11 = .ok (.invokevirtual 151, 3) := by decide +kernel
theorem d_Or_isShareWithin_14 : decode b_Or_isShareWithin 14 = .ok (.lstore 4, 2) := by decide +kernel
theorem d_Or_isShareWithin_16 : decode b_Or_isShareWithin 16 = .ok (.lload_n 2, 1) := by decide +kernel
theorem d_Or_isShareWithin_17 : decode b_Or_isShareWithin 17 = .ok (.lconst 0, 1) := by decide +kernel
theorem d_Or_isShareWithin_18 : decode b_Or_isShareWithin 18 = .ok (.lcmp, 1) := by decide +kernel
theorem d_Or_isShareWithin_19 : decode b_Or_isShareWithin 19 = .ok (.ifCond .le 21, 3) := by decide +kernel
theorem d_Or_isShareWithin_22 : decode b_Or_isShareWithin 22 = .ok (.lload 4, 2) := by decide +kernel
theorem d_Or_isShareWithin_24 : decode b_Or_isShareWithin 24 = .ok (.ldc2_w 217, 3) := by decide +kernel
theorem d_Or_isShareWithin_27 : decode b_Or_isShareWithin 27 = .ok (.lmul, 1) := by decide +kernel
theorem d_Or_isShareWithin_28 : decode b_Or_isShareWithin 28 = .ok (.iload_n 1, 1) := by decide +kernel
theorem d_Or_isShareWithin_29 : decode b_Or_isShareWithin 29 = .ok (.i2l, 1) := by decide +kernel
theorem d_Or_isShareWithin_30 : decode b_Or_isShareWithin 30 = .ok (.lload_n 2, 1) := by decide +kernel
theorem d_Or_isShareWithin_31 : decode b_Or_isShareWithin 31 = .ok (.lmul, 1) := by decide +kernel
theorem d_Or_isShareWithin_32 : decode b_Or_isShareWithin 32 = .ok (.lcmp, 1) := by decide +kernel
theorem d_Or_isShareWithin_33 : decode b_Or_isShareWithin 33 = .ok (.ifCond .gt 7, 3) := by decide +kernel
theorem d_Or_isShareWithin_36 : decode b_Or_isShareWithin 36 = .ok (.iconst 1, 1) := by decide +kernel
theorem d_Or_isShareWithin_37 : decode b_Or_isShareWithin 37 = .ok (.goto 4, 3) := by decide +kernel
theorem d_Or_isShareWithin_40 : decode b_Or_isShareWithin 40 = .ok (.iconst 0, 1) := by decide +kernel
theorem d_Or_isShareWithin_41 : decode b_Or_isShareWithin 41 = .ok (.ireturn, 1) := by decide +kernel
theorem d_Or_isCode_0 : decode b_Or_isCode 0 = .ok (.iload_n 0, 1) := by decide +kernel
theorem d_Or_isCode_1 : decode b_Or_isCode 1 = .ok (.iconst 1, 1) := by decide +kernel
theorem d_Or_isCode_2 : decode b_Or_isCode 2 = .ok (.if_icmp .lt 13, 3) := by decide +kernel
theorem d_Or_isCode_5 : decode b_Or_isCode 5 = .ok (.iload_n 0, 1) := by decide +kernel
theorem d_Or_isCode_6 : decode b_Or_isCode 6 = .ok (.ldc 219, 2) := by decide +kernel
theorem d_Or_isCode_8 : decode b_Or_isCode 8 = .ok (.if_icmp .gt 7, 3) := by decide +kernel
theorem d_Or_isCode_11 : decode b_Or_isCode 11 = .ok (.iconst 1, 1) := by decide +kernel
theorem d_Or_isCode_12 : decode b_Or_isCode 12 = .ok (.goto 4, 3) := by decide +kernel
theorem d_Or_isCode_15 : decode b_Or_isCode 15 = .ok (.iconst 0, 1) := by decide +kernel
theorem d_Or_isCode_16 : decode b_Or_isCode 16 = .ok (.ireturn, 1) := by decide +kernel
theorem d_Or_isLand_0 : decode b_Or_isLand 0 = .ok (.iload_n 0, 1) := by decide +kernel
theorem d_Or_isLand_1 : decode b_Or_isLand 1 = .ok (.ifCond .lt 13, 3) := by decide +kernel
theorem d_Or_isLand_4 : decode b_Or_isLand 4 = .ok (.iload_n 0, 1) := by decide +kernel
theorem d_Or_isLand_5 : decode b_Or_isLand 5 = .ok (.bipush 10, 2) := by decide +kernel
theorem d_Or_isLand_7 : decode b_Or_isLand 7 = .ok (.if_icmp .ge 7, 3) := by decide +kernel
theorem d_Or_isLand_10 : decode b_Or_isLand 10 = .ok (.iconst 1, 1) := by decide +kernel
theorem d_Or_isLand_11 : decode b_Or_isLand 11 = .ok (.goto 4, 3) := by decide +kernel
theorem d_Or_isLand_14 : decode b_Or_isLand 14 = .ok (.iconst 0, 1) := by decide +kernel
theorem d_Or_isLand_15 : decode b_Or_isLand 15 = .ok (.ireturn, 1) := by decide +kernel
theorem d_Or_isCents_0 : decode b_Or_isCents 0 = .ok (.lload_n 0, 1) := by decide +kernel
theorem d_Or_isCents_1 : decode b_Or_isCents 1 = .ok (.lconst 0, 1) := by decide +kernel
theorem d_Or_isCents_2 : decode b_Or_isCents 2 = .ok (.lcmp, 1) := by decide +kernel
theorem d_Or_isCents_3 : decode b_Or_isCents 3 = .ok (.ifCond .lt 15, 3) := by decide +kernel
theorem d_Or_isCents_6 : decode b_Or_isCents 6 = .ok (.lload_n 0, 1) := by decide +kernel
theorem d_Or_isCents_7 : decode b_Or_isCents 7 = .ok (.ldc2_w 220, 3) := by decide +kernel
theorem d_Or_isCents_10 : decode b_Or_isCents 10 = .ok (.lcmp, 1) := by decide +kernel
theorem d_Or_isCents_11 : decode b_Or_isCents 11 = .ok (.ifCond .gt 7, 3) := by decide +kernel
theorem d_Or_isCents_14 : decode b_Or_isCents 14 = .ok (.iconst 1, 1) := by decide +kernel
theorem d_Or_isCents_15 : decode b_Or_isCents 15 = .ok (.goto 4, 3) := by decide +kernel
theorem d_Or_isCents_18 : decode b_Or_isCents 18 = .ok (.iconst 0, 1) := by decide +kernel
theorem d_Or_isCents_19 : decode b_Or_isCents 19 = .ok (.ireturn, 1) := by decide +kernel
theorem d_Or_isProcess_0 : decode b_Or_isProcess 0 = .ok (.iload_n 0, 1) := by decide +kernel
theorem d_Or_isProcess_1 : decode b_Or_isProcess 1 = .ok (.ifCond .lt 13, 3) := by decide +kernel
theorem d_Or_isProcess_4 : decode b_Or_isProcess 4 = .ok (.iload_n 0, 1) := by decide +kernel
theorem d_Or_isProcess_5 : decode b_Or_isProcess 5 = .ok (.bipush 15, 2) := by decide +kernel
theorem d_Or_isProcess_7 : decode b_Or_isProcess 7 = .ok (.if_icmp .gt 7, 3) := by decide +kernel
theorem d_Or_isProcess_10 : decode b_Or_isProcess 10 = .ok (.iconst 1, 1) := by decide +kernel
theorem d_Or_isProcess_11 : decode b_Or_isProcess 11 = .ok (.goto 4, 3) := by decide +kernel
theorem d_Or_isProcess_14 : decode b_Or_isProcess 14 = .ok (.iconst 0, 1) := by decide +kernel
theorem d_Or_isProcess_15 : decode b_Or_isProcess 15 = .ok (.ireturn, 1) := by decide +kernel
theorem d_Or_isDay_0 : decode b_Or_isDay 0 = .ok (.iload_n 0, 1) := by decide +kernel
theorem d_Or_isDay_1 : decode b_Or_isDay 1 = .ok (.ifCond .lt 13, 3) := by decide +kernel
theorem d_Or_isDay_4 : decode b_Or_isDay 4 = .ok (.iload_n 0, 1) := by decide +kernel
theorem d_Or_isDay_5 : decode b_Or_isDay 5 = .ok (.ldc 222, 2) := by decide +kernel
theorem d_Or_isDay_7 : decode b_Or_isDay 7 = .ok (.if_icmp .gt 7, 3) := by decide +kernel
theorem d_Or_isDay_10 : decode b_Or_isDay 10 = .ok (.iconst 1, 1) := by decide +kernel
theorem d_Or_isDay_11 : decode b_Or_isDay 11 = .ok (.goto 4, 3) := by decide +kernel
theorem d_Or_isDay_14 : decode b_Or_isDay 14 = .ok (.iconst 0, 1) := by decide +kernel
theorem d_Or_isDay_15 : decode b_Or_isDay 15 = .ok (.ireturn, 1) := by decide +kernel
theorem d_Or_isDigit_0 : decode b_Or_isDigit 0 = .ok (.iload_n 0, 1) := by decide +kernel
theorem d_Or_isDigit_1 : decode b_Or_isDigit 1 = .ok (.bipush 48, 2) := by decide +kernel
theorem d_Or_isDigit_3 : decode b_Or_isDigit 3 = .ok (.if_icmp .lt 13, 3) := by decide +kernel
theorem d_Or_isDigit_6 : decode b_Or_isDigit 6 = .ok (.iload_n 0, 1) := by decide +kernel
theorem d_Or_isDigit_7 : decode b_Or_isDigit 7 = .ok (.bipush 57, 2) := by decide +kernel
theorem d_Or_isDigit_9 : decode b_Or_isDigit 9 = .ok (.if_icmp .gt 7, 3) := by decide +kernel
theorem d_Or_isDigit_12 : decode b_Or_isDigit 12 = .ok (.iconst 1, 1) := by decide +kernel
theorem d_Or_isDigit_13 : decode b_Or_isDigit 13 = .ok (.goto 4, 3) := by decide +kernel
theorem d_Or_isDigit_16 : decode b_Or_isDigit 16 = .ok (.iconst 0, 1) := by decide +kernel
theorem d_Or_isDigit_17 : decode b_Or_isDigit 17 = .ok (.ireturn, 1) := by decide +kernel
theorem d_Or_isLetter_0 : decode b_Or_isLetter 0 = .ok (.iload_n 0, 1) := by decide +kernel
theorem d_Or_isLetter_1 : decode b_Or_isLetter 1 = .ok (.bipush 65, 2) := by decide +kernel
theorem d_Or_isLetter_3 : decode b_Or_isLetter 3 = .ok (.if_icmp .lt 13, 3) := by decide +kernel
theorem d_Or_isLetter_6 : decode b_Or_isLetter 6 = .ok (.iload_n 0, 1) := by decide +kernel
theorem d_Or_isLetter_7 : decode b_Or_isLetter 7 = .ok (.bipush 90, 2) := by decide +kernel
theorem d_Or_isLetter_9 : decode b_Or_isLetter 9 = .ok (.if_icmp .gt 7, 3) := by decide +kernel
theorem d_Or_isLetter_12 : decode b_Or_isLetter 12 = .ok (.iconst 1, 1) := by decide +kernel
theorem d_Or_isLetter_13 : decode b_Or_isLetter 13 = .ok (.goto 4, 3) := by decide +kernel
theorem d_Or_isLetter_16 : decode b_Or_isLetter 16 = .ok (.iconst 0, 1) := by decide +kernel
theorem d_Or_isLetter_17 : decode b_Or_isLetter 17 = .ok (.ireturn, 1) := by decide +kernel
theorem d_Or_hasBit_0 : decode b_Or_hasBit 0 = .ok (.iload_n 0, 1) := by decide +kernel
theorem d_Or_hasBit_1 : decode b_Or_hasBit 1 = .ok (.iload_n 1, 1) := by decide +kernel
theorem d_Or_hasBit_2 : decode b_Or_hasBit 2 = .ok (.ishr, 1) := by decide +kernel
theorem d_Or_hasBit_3 : decode b_Or_hasBit 3 = .ok (.iconst 1, 1) := by decide +kernel
theorem d_Or_hasBit_4 : decode b_Or_hasBit 4 = .ok (.iand, 1) := by decide +kernel
theorem d_Or_hasBit_5 : decode b_Or_hasBit 5 = .ok (.iconst 1, 1) := by decide +kernel
theorem d_Or_hasBit_6 : decode b_Or_hasBit 6 = .ok (.if_icmp .ne 7, 3) := by decide +kernel
theorem d_Or_hasBit_9 : decode b_Or_hasBit 9 = .ok (.iconst 1, 1) := by decide +kernel
theorem d_Or_hasBit_10 : decode b_Or_hasBit 10 = .ok (.goto 4, 3) := by decide +kernel
theorem d_Or_hasBit_13 : decode b_Or_hasBit 13 = .ok (.iconst 0, 1) := by decide +kernel
theorem d_Or_hasBit_14 : decode b_Or_hasBit 14 = .ok (.ireturn, 1) := by decide +kernel
theorem d_Or_beginning_0 : decode b_Or_beginning 0 = .ok (.iload_n 0, 1) := by decide +kernel
theorem d_Or_beginning_1 : decode b_Or_beginning 1 = .ok (.istore_n 2, 1) := by decide +kernel
theorem d_Or_beginning_2 : decode b_Or_beginning 2 = .ok (.iload_n 1, 1) := by decide +kernel
theorem d_Or_beginning_3 : decode b_Or_beginning 3 = .ok (.istore_n 3, 1) := by decide +kernel
theorem d_Or_beginning_4 : decode b_Or_beginning 4 = .ok (.iload_n 3, 1) := by decide +kernel
theorem d_Or_beginning_5 : decode b_Or_beginning 5 = .ok (.bipush 6, 2) := by decide +kernel
theorem d_Or_beginning_7 : decode b_Or_beginning 7 = .ok (.if_icmp .ge 14, 3) := by decide +kernel
theorem d_Or_beginning_10 : decode b_Or_beginning 10 = .ok (.iload_n 2, 1) := by decide +kernel
theorem d_Or_beginning_11 : decode b_Or_beginning 11 = .ok (.bipush 10, 2) := by decide +kernel
theorem d_Or_beginning_13 : decode b_Or_beginning 13 = .ok (.idiv, 1) := by decide +kernel
theorem d_Or_beginning_14 : decode b_Or_beginning 14 = .ok (.istore_n 2, 1) := by decide +kernel
theorem d_Or_beginning_15 : decode b_Or_beginning 15 = .ok (.iinc 3 1, 3) := by decide +kernel
theorem d_Or_beginning_18 : decode b_Or_beginning 18 = .ok (.goto (-14), 3) := by decide +kernel
theorem d_Or_beginning_21 : decode b_Or_beginning 21 = .ok (.iload_n 2, 1) := by decide +kernel
theorem d_Or_beginning_22 : decode b_Or_beginning 22 = .ok (.ireturn, 1) := by decide +kernel
theorem d_Or_greatestDivisor_0 : decode b_Or_greatestDivisor 0 = .ok (.lload_n 0, 1) := by decide +kernel
theorem d_Or_greatestDivisor_1 : decode b_Or_greatestDivisor 1 = .ok (.lstore 4, 2) := by decide +kernel
theorem d_Or_greatestDivisor_3 : decode b_Or_greatestDivisor 3 = .ok (.lload_n 2, 1) := by decide +kernel
theorem d_Or_greatestDivisor_4 : decode b_Or_greatestDivisor 4 = .ok (.lstore 6, 2) := by decide +kernel
theorem d_Or_greatestDivisor_6 : decode b_Or_greatestDivisor 6 = .ok (.iconst 0, 1) := by decide +kernel
theorem d_Or_greatestDivisor_7 : decode b_Or_greatestDivisor 7 = .ok (.istore 8, 2) := by decide +kernel
theorem d_Or_greatestDivisor_9 : decode b_Or_greatestDivisor 9 = .ok (.iload 8, 2) := by decide +kernel
theorem d_Or_greatestDivisor_11 : decode b_Or_greatestDivisor 11 = .ok (.bipush 100, 2) := by decide +kernel
theorem d_Or_greatestDivisor_13 : decode b_Or_greatestDivisor 13 = .ok (.if_icmp .ge 31, 3) := by decide +kernel
theorem d_Or_greatestDivisor_16 : decode b_Or_greatestDivisor 16 = .ok (.lload 6, 2) := by decide +kernel
theorem d_Or_greatestDivisor_18 : decode b_Or_greatestDivisor 18 = .ok (.lconst 0, 1) := by decide +kernel
theorem d_Or_greatestDivisor_19 : decode b_Or_greatestDivisor 19 = .ok (.lcmp, 1) := by decide +kernel
theorem d_Or_greatestDivisor_20 : decode b_Or_greatestDivisor 20 = .ok (.ifCond .eq 24, 3) := by decide +kernel
theorem d_Or_greatestDivisor_23 : decode b_Or_greatestDivisor 23 = .ok (.lload 4, 2) := by decide +kernel
theorem d_Or_greatestDivisor_25 : decode b_Or_greatestDivisor 25 = .ok (.lload 6, 2) := by decide +kernel
theorem d_Or_greatestDivisor_27 : decode b_Or_greatestDivisor 27 = .ok (.lrem, 1) := by decide +kernel
theorem d_Or_greatestDivisor_28 : decode b_Or_greatestDivisor 28 = .ok (.lstore 9, 2) := by decide +kernel
theorem d_Or_greatestDivisor_30 : decode b_Or_greatestDivisor 30 = .ok (.lload 6, 2) := by decide +kernel
theorem d_Or_greatestDivisor_32 : decode b_Or_greatestDivisor 32 = .ok (.lstore 4, 2) := by decide +kernel
theorem d_Or_greatestDivisor_34 : decode b_Or_greatestDivisor 34 = .ok (.lload 9, 2) := by decide +kernel
theorem d_Or_greatestDivisor_36 : decode b_Or_greatestDivisor 36 = .ok (.lstore 6, 2) := by decide +kernel
theorem d_Or_greatestDivisor_38 : decode b_Or_greatestDivisor 38 = .ok (.iinc 8 1, 3) := by decide +kernel
theorem d_Or_greatestDivisor_41 : decode b_Or_greatestDivisor 41 = .ok (.goto (-32), 3) := by decide +kernel
theorem d_Or_greatestDivisor_44 : decode b_Or_greatestDivisor 44 = .ok (.lload 4, 2) := by decide +kernel
theorem d_Or_greatestDivisor_46 : decode b_Or_greatestDivisor 46 = .ok (.lreturn, 1) := by decide +kernel
theorem d_Text_init_0 : decode b_Text_init 0 = .ok (.aload_n 0, 1) := by decide +kernel
theorem d_Text_init_1 : decode b_Text_init 1 = .ok (.invokespecial 3, 3) := by decide +kernel
theorem d_Text_init_4 : decode b_Text_init 4 = .ok (.aload_n 0, 1) := by decide +kernel
theorem d_Text_init_5 : decode b_Text_init 5 = .ok (.sipush 300, 3) := by decide +kernel
theorem d_Text_init_8 : decode b_Text_init 8 = .ok (.newarray .char, 2) := by decide +kernel
theorem d_Text_init_10 : decode b_Text_init 10 = .ok (.putfield 9, 3) := by decide +kernel
theorem d_Text_init_13 : decode b_Text_init 13 = .ok (.aload_n 0, 1) := by decide +kernel
theorem d_Text_init_14 : decode b_Text_init 14 = .ok (.iconst 0, 1) := by decide +kernel
theorem d_Text_init_15 : decode b_Text_init 15 = .ok (.putfield 15, 3) := by decide +kernel
theorem d_Text_init_18 : decode b_Text_init 18 = .ok (.aload_n 0, 1) := by decide +kernel
theorem d_Text_init_19 : decode b_Text_init 19 = .ok (.iconst 0, 1) := by decide +kernel
theorem d_Text_init_20 : decode b_Text_init 20 = .ok (.putfield 19, 3) := by decide +kernel
theorem d_Text_init_23 : decode b_Text_init 23 = .ok (.return_, 1) := by decide +kernel
theorem d_Text_add_0 : decode b_Text_add 0 = .ok (.aload_n 0, 1) := by decide +kernel
theorem d_Text_add_1 : decode b_Text_add 1 = .ok (.getfield 9, 3) := by decide +kernel
theorem d_Text_add_4 : decode b_Text_add 4 = .ok (.aload_n 0, 1) := by decide +kernel
theorem d_Text_add_5 : decode b_Text_add 5 = .ok (.getfield 15, 3) := by decide +kernel
theorem d_Text_add_8 : decode b_Text_add 8 = .ok (.iload_n 1, 1) := by decide +kernel
theorem d_Text_add_9 : decode b_Text_add 9 = .ok (.castore, 1) := by decide +kernel
theorem d_Text_add_10 : decode b_Text_add 10 = .ok (.aload_n 0, 1) := by decide +kernel
theorem d_Text_add_11 : decode b_Text_add 11 = .ok (.dup, 1) := by decide +kernel
theorem d_Text_add_12 : decode b_Text_add 12 = .ok (.getfield 15, 3) := by decide +kernel
theorem d_Text_add_15 : decode b_Text_add 15 = .ok (.iconst 1, 1) := by decide +kernel
theorem d_Text_add_16 : decode b_Text_add 16 = .ok (.iadd, 1) := by decide +kernel
theorem d_Text_add_17 : decode b_Text_add 17 = .ok (.putfield 15, 3) := by decide +kernel
theorem d_Text_add_20 : decode b_Text_add 20 = .ok (.return_, 1) := by decide +kernel
theorem d_Text_rowsOrWrongPlace_0 : decode b_Text_rowsOrWrongPlace 0 = .ok (.aload_n 0, 1) := by decide +kernel
theorem d_Text_rowsOrWrongPlace_1 : decode b_Text_rowsOrWrongPlace 1 = .ok (.iconst 0, 1) := by decide +kernel
theorem d_Text_rowsOrWrongPlace_2 : decode b_Text_rowsOrWrongPlace 2 = .ok (.putfield 19, 3) := by decide +kernel
theorem d_Text_rowsOrWrongPlace_5 : decode b_Text_rowsOrWrongPlace 5 = .ok (.iconst 1, 1) := by decide +kernel
theorem d_Text_rowsOrWrongPlace_6 : decode b_Text_rowsOrWrongPlace 6 = .ok (.istore_n 1, 1) := by decide +kernel
theorem d_Text_rowsOrWrongPlace_7 : decode b_Text_rowsOrWrongPlace 7 = .ok (.iload_n 1, 1) := by decide +kernel
theorem d_Text_rowsOrWrongPlace_8 : decode b_Text_rowsOrWrongPlace 8 = .ok (.bipush 20, 2) := by decide +kernel
theorem d_Text_rowsOrWrongPlace_10 : decode b_Text_rowsOrWrongPlace 10 = .ok (.if_icmp .gt 29, 3) := by decide +kernel
theorem d_Text_rowsOrWrongPlace_13 : decode b_Text_rowsOrWrongPlace 13 = .ok (.aload_n 0, 1) := by decide +kernel
theorem d_Text_rowsOrWrongPlace_14 : decode b_Text_rowsOrWrongPlace 14 = .ok (.invokevirtual 22, 3) := by decide +kernel
theorem d_Text_rowsOrWrongPlace_17 : decode b_Text_rowsOrWrongPlace 17 = .ok (.ifCond .eq 22, 3) := by decide +kernel
theorem d_Text_rowsOrWrongPlace_20 : decode b_Text_rowsOrWrongPlace 20 = .ok (.aload_n 0, 1) := by decide +kernel
theorem d_Text_rowsOrWrongPlace_21 : decode b_Text_rowsOrWrongPlace 21 = .ok (.getfield 19, 3) := by decide +kernel
theorem d_Text_rowsOrWrongPlace_24 : decode b_Text_rowsOrWrongPlace 24 = .ok (.aload_n 0, 1) := by decide +kernel
theorem d_Text_rowsOrWrongPlace_25 : decode b_Text_rowsOrWrongPlace 25 = .ok (.getfield 15, 3) := by decide +kernel
theorem d_Text_rowsOrWrongPlace_28 : decode b_Text_rowsOrWrongPlace 28 = .ok (.if_icmp .ne 5, 3) := by decide +kernel
theorem d_Text_rowsOrWrongPlace_31 : decode b_Text_rowsOrWrongPlace 31 = .ok (.iload_n 1, 1) := by decide +kernel
theorem d_Text_rowsOrWrongPlace_32 : decode b_Text_rowsOrWrongPlace 32 = .ok (.ireturn, 1) := by decide +kernel
theorem d_Text_rowsOrWrongPlace_33 : decode b_Text_rowsOrWrongPlace 33 = .ok (.iinc 1 1, 3) := by decide +kernel
theorem d_Text_rowsOrWrongPlace_36 : decode b_Text_rowsOrWrongPlace 36 = .ok (.goto (-29), 3) := by decide +kernel
theorem d_Text_rowsOrWrongPlace_39 : decode b_Text_rowsOrWrongPlace 39 = .ok (.iconst (-1), 1) := by decide +kernel
theorem d_Text_rowsOrWrongPlace_40 : decode b_Text_rowsOrWrongPlace 40 = .ok (.aload_n 0, 1) := by decide +kernel
theorem d_Text_rowsOrWrongPlace_41 : decode b_Text_rowsOrWrongPlace 41 = .ok (.getfield 19, 3) := by decide +kernel
theorem d_Text_rowsOrWrongPlace_44 : decode b_Text_rowsOrWrongPlace 44 = .ok (.isub, 1) := by decide +kernel
theorem d_Text_rowsOrWrongPlace_45 : decode b_Text_rowsOrWrongPlace 45 = .ok (.ireturn, 1) := by decide +kernel
theorem d_Text_passesRow_0 : decode b_Text_passesRow 0 = .ok (.aload_n 0, 1) := by decide +kernel
theorem d_Text_passesRow_1 : decode b_Text_passesRow 1 = .ok (.bipush 6, 2) := by decide +kernel
theorem d_Text_passesRow_3 : decode b_Text_passesRow 3 = .ok (.ldc 26, 2) := by decide +kernel
theorem d_Text_passesRow_5 : decode b_Text_passesRow 5 = .ok (.invokevirtual 27, 3) := by decide +kernel
theorem d_Text_passesRow_8 : decode b_Text_passesRow 8 = .ok (.ifCond .eq 23, 3) := by decide +kernel
theorem d_Text_passesRow_11 : decode b_Text_passesRow 11 = .ok (.aload_n 0, 1) := by decide +kernel
theorem d_Text_passesRow_12 : decode b_Text_passesRow 12 = .ok (.bipush 58, 2) := by decide +kernel
theorem d_Text_passesRow_14 : decode b_Text_passesRow 14 = .ok (.invokevirtual 31, 3) := by decide +kernel
theorem d_Text_passesRow_17 : decode b_Text_passesRow 17 = .ok (.ifCond .eq 14, 3) := by decide +kernel
theorem d_Text_passesRow_20 : decode b_Text_passesRow 20 = .ok (.aload_n 0, 1) := by decide +kernel
theorem d_Text_passesRow_21 : decode b_Text_passesRow 21 = .ok (.invokevirtual 35, 3) := by decide +kernel
theorem d_Text_passesRow_24 : decode b_Text_passesRow 24 = .ok (.ifCond .eq 7, 3) := by decide +kernel
theorem d_Text_passesRow_27 : decode b_Text_passesRow 27 = .ok (.iconst 1, 1) := by decide +kernel
theorem d_Text_passesRow_28 : decode b_Text_passesRow 28 = .ok (.goto 4, 3) := by decide +kernel
theorem d_Text_passesRow_31 : decode b_Text_passesRow 31 = .ok (.iconst 0, 1) := by decide +kernel
theorem d_Text_passesRow_32 : decode b_Text_passesRow 32 = .ok (.ireturn, 1) := by decide +kernel
theorem d_Text_passesRule_0 : decode b_Text_passesRule 0 = .ok (.iconst 0, 1) := by decide +kernel
theorem d_Text_passesRule_1 : decode b_Text_passesRule 1 = .ok (.istore_n 1, 1) := by decide +kernel
theorem d_Text_passesRule_2 : decode b_Text_passesRule 2 = .ok (.iconst 0, 1) := by decide +kernel
theorem d_Text_passesRule_3 : decode b_Text_passesRule 3 = .ok (.istore_n 2, 1) := by decide +kernel
theorem d_Text_passesRule_4 : decode b_Text_passesRule 4 = .ok (.iload_n 2, 1) := by decide +kernel
theorem d_Text_passesRule_5 : decode b_Text_passesRule 5 = .ok (.aload_n 0, 1) := by decide +kernel
theorem d_Text_passesRule_6 : decode b_Text_passesRule 6 = .ok (.getfield 15, 3) := by decide +kernel
theorem d_Text_passesRule_9 : decode b_Text_passesRule 9 = .ok (.if_icmp .ge 93, 3) := by decide +kernel
theorem d_Text_passesRule_12 : decode b_Text_passesRule 12 = .ok (.iload_n 1, 1) := by decide +kernel
theorem d_Text_passesRule_13 : decode b_Text_passesRule 13 = .ok (.bipush 8, 2) := by decide +kernel
theorem d_Text_passesRule_15 : decode b_Text_passesRule 15 = .ok (.if_icmp .ge 18, 3) := by decide +kernel
theorem d_Text_passesRule_18 : decode b_Text_passesRule 18 = .ok (.aload_n 0, 1) := by decide +kernel
theorem d_Text_passesRule_19 : decode b_Text_passesRule 19 = .ok (.bipush 40, 2) := by decide +kernel
theorem d_Text_passesRule_21 : decode b_Text_passesRule 21 = .ok (.invokevirtual 31, 3) := by decide +kernel
theorem d_Text_passesRule_24 : decode b_Text_passesRule 24 = .ok (.ifCond .eq 9, 3) := by decide +kernel
theorem d_Text_passesRule_27 : decode b_Text_passesRule 27 = .ok (.iinc 1 1, 3) := by decide +kernel
theorem d_Text_passesRule_30 : decode b_Text_passesRule 30 = .ok (.goto (-18), 3) := by decide +kernel
theorem d_Text_passesRule_33 : decode b_Text_passesRule 33 = .ok (.aload_n 0, 1) := by decide +kernel
theorem d_Text_passesRule_34 : decode b_Text_passesRule 34 = .ok (.invokevirtual 38, 3) := by decide +kernel
theorem d_Text_passesRule_37 : decode b_Text_passesRule 37 = .ok (.ifCond .ne 5, 3) := by decide +kernel
theorem d_Text_passesRule_40 : decode b_Text_passesRule 40 = .ok (.iconst 0, 1) := by decide +kernel
theorem d_Text_passesRule_41 : decode b_Text_passesRule 41 = .ok (.ireturn, 1) := by decide +kernel
theorem d_Text_passesRule_42 : decode b_Text_passesRule 42 = .ok (.iload_n 1, 1) := by decide +kernel
theorem d_Text_passesRule_43 : decode b_Text_passesRule 43 = .ok (.ifCond .le 18, 3) := by decide +kernel
theorem d_Text_passesRule_46 : decode b_Text_passesRule 46 = .ok (.aload_n 0, 1) := by decide +kernel
theorem d_Text_passesRule_47 : decode b_Text_passesRule 47 = .ok (.bipush 41, 2) := by decide +kernel
theorem d_Text_passesRule_49 : decode b_Text_passesRule 49 = .ok (.invokevirtual 31, 3) := by decide +kernel
theorem d_Text_passesRule_52 : decode b_Text_passesRule 52 = .ok (.ifCond .eq 9, 3) := by decide +kernel
theorem d_Text_passesRule_55 : decode b_Text_passesRule 55 = .ok (.iinc 1 (-1), 3) := by decide +kernel
theorem d_Text_passesRule_58 : decode b_Text_passesRule 58 = .ok (.goto (-16), 3) := by decide +kernel
theorem d_Text_passesRule_61 : decode b_Text_passesRule 61 = .ok (.iload_n 1, 1) := by decide +kernel
theorem d_Text_passesRule_62 : decode b_Text_passesRule 62 = .ok (.ifCond .ne 14, 3) := by decide +kernel
theorem d_Text_passesRule_65 : decode b_Text_passesRule 65 = .ok (.aload_n 0, 1) := by decide +kernel
theorem d_Text_passesRule_66 : decode b_Text_passesRule 66 = .ok (.bipush 59, 2) := by decide +kernel
theorem d_Text_passesRule_68 : decode b_Text_passesRule 68 = .ok (.invokevirtual 31, 3) := by decide +kernel
theorem d_Text_passesRule_71 : decode b_Text_passesRule 71 = .ok (.ifCond .eq 5, 3) := by decide +kernel
theorem d_Text_passesRule_74 : decode b_Text_passesRule 74 = .ok (.iconst 1, 1) := by decide +kernel
theorem d_Text_passesRule_75 : decode b_Text_passesRule 75 = .ok (.ireturn, 1) := by decide +kernel
theorem d_Text_passesRule_76 : decode b_Text_passesRule 76 = .ok (.aload_n 0, 1) := by decide +kernel
theorem d_Text_passesRule_77 : decode b_Text_passesRule 77 = .ok (.bipush 38, 2) := by decide +kernel
theorem d_Text_passesRule_79 : decode b_Text_passesRule 79 = .ok (.invokevirtual 31, 3) := by decide +kernel
theorem d_Text_passesRule_82 : decode b_Text_passesRule 82 = .ok (.ifCond .ne 14, 3) := by decide +kernel
theorem d_Text_passesRule_85 : decode b_Text_passesRule 85 = .ok (.aload_n 0, 1) := by decide +kernel
theorem d_Text_passesRule_86 : decode b_Text_passesRule 86 = .ok (.bipush 124, 2) := by decide +kernel
theorem d_Text_passesRule_88 : decode b_Text_passesRule 88 = .ok (.invokevirtual 31, 3) := by decide +kernel
theorem d_Text_passesRule_91 : decode b_Text_passesRule 91 = .ok (.ifCond .ne 5, 3) := by decide +kernel
theorem d_Text_passesRule_94 : decode b_Text_passesRule 94 = .ok (.iconst 0, 1) := by decide +kernel
theorem d_Text_passesRule_95 : decode b_Text_passesRule 95 = .ok (.ireturn, 1) := by decide +kernel
theorem d_Text_passesRule_96 : decode b_Text_passesRule 96 = .ok (.iinc 2 1, 3) := by decide +kernel
theorem d_Text_passesRule_99 : decode b_Text_passesRule 99 = .ok (.goto (-95), 3) := by decide +kernel
theorem d_Text_passesRule_102 : decode b_Text_passesRule 102 = .ok (.iconst 0, 1) := by decide +kernel
theorem d_Text_passesRule_103 : decode b_Text_passesRule 103 = .ok (.ireturn, 1) := by decide +kernel
theorem d_Text_passesFactor_0 : decode b_Text_passesFactor 0 = .ok (.aload_n 0, 1) := by decide +kernel
theorem d_Text_passesFactor_1 : decode b_Text_passesFactor 1 = .ok (.bipush 86, 2) := by decide +kernel
theorem d_Text_passesFactor_3 : decode b_Text_passesFactor 3 = .ok (.invokevirtual 31, 3) := by decide +kernel
theorem d_Text_passesFactor_6 : decode b_Text_passesFactor 6 = .ok (.ifCond .eq 11, 3) := by decide +kernel
theorem d_Text_passesFactor_9 : decode b_Text_passesFactor 9 = .ok (.aload_n 0, 1) := by decide +kernel
theorem d_Text_passesFactor_10 : decode b_Text_passesFactor 10 = .ok (.iconst 3, 1) := by decide +kernel
theorem d_Text_passesFactor_11 : decode b_Text_passesFactor 11 = .ok (.bipush 100, 2) := by decide +kernel
theorem d_Text_passesFactor_13 : decode b_Text_passesFactor 13 = .ok (.invokevirtual 27, 3) := by decide +kernel
theorem d_Text_passesFactor_16 : decode b_Text_passesFactor 16 = .ok (.ireturn, 1) := by decide +kernel
theorem d_Text_passesFactor_17 : decode b_Text_passesFactor 17 = .ok (.aload_n 0, 1) := by decide +kernel
theorem d_Text_passesFactor_18 : decode b_Text_passesFactor 18 = .ok (.bipush 80, 2) := by decide +kernel
theorem d_Text_passesFactor_20 : decode b_Text_passesFactor 20 = .ok (.invokevirtual 31, 3) := by decide +kernel
theorem d_Text_passesFactor_23 : decode b_Text_passesFactor 23 = .ok (.ifCond .eq 11, 3) := by decide +kernel
theorem d_Text_passesFactor_26 : decode b_Text_passesFactor 26 = .ok (.aload_n 0, 1) := by decide +kernel
theorem d_Text_passesFactor_27 : decode b_Text_passesFactor 27 = .ok (.iconst 2, 1) := by decide +kernel
theorem d_Text_passesFactor_28 : decode b_Text_passesFactor 28 = .ok (.bipush 15, 2) := by decide +kernel
theorem d_Text_passesFactor_30 : decode b_Text_passesFactor 30 = .ok (.invokevirtual 27, 3) := by decide +kernel
theorem d_Text_passesFactor_33 : decode b_Text_passesFactor 33 = .ok (.ireturn, 1) := by decide +kernel
theorem d_Text_passesFactor_34 : decode b_Text_passesFactor 34 = .ok (.aload_n 0, 1) := by decide +kernel
theorem d_Text_passesFactor_35 : decode b_Text_passesFactor 35 = .ok (.bipush 87, 2) := by decide +kernel
theorem d_Text_passesFactor_37 : decode b_Text_passesFactor 37 = .ok (.invokevirtual 31, 3) := by decide +kernel
theorem d_Text_passesFactor_40 : decode b_Text_passesFactor 40 = .ok (.ifCond .ne 30, 3) := by decide +kernel
theorem d_Text_passesFactor_43 : decode b_Text_passesFactor 43 = .ok (.aload_n 0, 1) := by decide +kernel
theorem d_Text_passesFactor_44 : decode b_Text_passesFactor 44 = .ok (.bipush 67, 2) := by decide +kernel
theorem d_Text_passesFactor_46 : decode b_Text_passesFactor 46 = .ok (.invokevirtual 31, 3) := by decide +kernel
theorem d_Text_passesFactor_49 : decode b_Text_passesFactor 49 = .ok (.ifCond .ne 21, 3) := by decide +kernel
theorem d_Text_passesFactor_52 : decode b_Text_passesFactor 52 = .ok (.aload_n 0, 1) := by decide +kernel
theorem d_Text_passesFactor_53 : decode b_Text_passesFactor 53 = .ok (.bipush 72, 2) := by decide +kernel
theorem d_Text_passesFactor_55 : decode b_Text_passesFactor 55 = .ok (.invokevirtual 31, 3) := by decide +kernel
theorem d_Text_passesFactor_58 : decode b_Text_passesFactor 58 = .ok (.ifCond .ne 12, 3) := by decide +kernel
theorem d_Text_passesFactor_61 : decode b_Text_passesFactor 61 = .ok (.aload_n 0, 1) := by decide +kernel
theorem d_Text_passesFactor_62 : decode b_Text_passesFactor 62 = .ok (.bipush 83, 2) := by decide +kernel
theorem d_Text_passesFactor_64 : decode b_Text_passesFactor 64 = .ok (.invokevirtual 31, 3) := by decide +kernel
theorem d_Text_passesFactor_67 : decode b_Text_passesFactor 67 = .ok (.ifCond .eq 7, 3) := by decide +kernel
theorem d_Text_passesFactor_70 : decode b_Text_passesFactor 70 = .ok (.iconst 1, 1) := by decide +kernel
theorem d_Text_passesFactor_71 : decode b_Text_passesFactor 71 = .ok (.goto 4, 3) := by decide +kernel
theorem d_Text_passesFactor_74 : decode b_Text_passesFactor 74 = .ok (.iconst 0, 1) := by decide +kernel
theorem d_Text_passesFactor_75 : decode b_Text_passesFactor 75 = .ok (.ireturn, 1) := by decide +kernel
theorem d_Text_passesDigits_0 : decode b_Text_passesDigits 0 = .ok (.iconst 0, 1) := by decide +kernel
theorem d_Text_passesDigits_1 : decode b_Text_passesDigits 1 = .ok (.istore_n 3, 1) := by decide +kernel
theorem d_Text_passesDigits_2 : decode b_Text_passesDigits 2 = .ok (.iconst 0, 1) := by decide +kernel
theorem d_Text_passesDigits_3 : decode b_Text_passesDigits 3 = .ok (.istore 4, 2) := by decide +kernel
theorem d_Text_passesDigits_5 : decode b_Text_passesDigits 5 = .ok (.iload_n 3, 1) := by decide +kernel
theorem d_Text_passesDigits_6 : decode b_Text_passesDigits 6 = .ok (.iload_n 1, 1) := by decide +kernel
theorem d_Text_passesDigits_7 : decode b_Text_passesDigits 7 = .ok (.if_icmp .ge 65, 3) := by decide +kernel
theorem d_Text_passesDigits_10 : decode b_Text_passesDigits 10 = .ok (.aload_n 0, 1) := by decide +kernel
theorem d_Text_passesDigits_11 : decode b_Text_passesDigits 11 = .ok (.getfield 19, 3) := by decide +kernel
theorem d_Text_passesDigits_14 : decode b_Text_passesDigits 14 = .ok (.aload_n 0, 1) := by decide +kernel
theorem d_Text_passesDigits_15 : decode b_Text_passesDigits 15 = .ok (.getfield 15, 3) := by decide +kernel
theorem d_Text_passesDigits_18 : decode b_Text_passesDigits 18 = .ok (.if_icmp .ge 54, 3) := by decide +kernel
theorem d_Text_passesDigits_21 : decode b_Text_passesDigits 21 = .ok (.aload_n 0, 1) := by decide +kernel
theorem d_Text_passesDigits_22 : decode b_Text_passesDigits 22 = .ok (.getfield 9, 3) := by decide +kernel
theorem d_Text_passesDigits_25 : decode b_Text_passesDigits 25 = .ok (.aload_n 0, 1) := by decide +kernel
theorem d_Text_passesDigits_26 : decode b_Text_passesDigits 26 = .ok (.getfield 19, 3) := by decide +kernel
theorem d_Text_passesDigits_29 : decode b_Text_passesDigits 29 = .ok (.caload, 1) := by decide +kernel
theorem d_Text_passesDigits_30 : decode b_Text_passesDigits 30 = .ok (.invokestatic 41, 3) := by decide +kernel
theorem d_Text_passesDigits_33 : decode b_Text_passesDigits 33 = .ok (.ifCond .eq 39, 3) := by decide +kernel
theorem d_Text_passesDigits_36 : decode b_Text_passesDigits 36 = .ok (.iload 4, 2) := by decide +kernel
theorem d_Text_passesDigits_38 : decode b_Text_passesDigits 38 = .ok (.bipush 10, 2) := by decide +kernel
theorem d_Text_passesDigits_40 : decode b_Text_passesDigits 40 = .ok (.imul, 1) := by decide +kernel
theorem d_Text_passesDigits_41 : decode b_Text_passesDigits 41 = .ok (.aload_n 0, 1) := by decide +kernel
theorem d_Text_passesDigits_42 : decode b_Text_passesDigits 42 = .ok (.getfield 9, 3) := by decide +kernel
theorem d_Text_passesDigits_45 : decode b_Text_passesDigits 45 = .ok (.aload_n 0, 1) := by decide +kernel
theorem d_Text_passesDigits_46 : decode b_Text_passesDigits 46 = .ok (.getfield 19, 3) := by decide +kernel
theorem d_Text_passesDigits_49 : decode b_Text_passesDigits 49 = .ok (.caload, 1) := by decide +kernel
theorem d_Text_passesDigits_50 : decode b_Text_passesDigits 50 = .ok (.bipush 48, 2) := by decide +kernel
theorem d_Text_passesDigits_52 : decode b_Text_passesDigits 52 = .ok (.isub, 1) := by decide +kernel
theorem d_Text_passesDigits_53 : decode b_Text_passesDigits 53 = .ok (.iadd, 1) := by decide +kernel
theorem d_Text_passesDigits_54 : decode b_Text_passesDigits 54 = .ok (.istore 4, 2) := by decide +kernel
theorem d_Text_passesDigits_56 : decode b_Text_passesDigits 56 = .ok (.iinc 3 1, 3) := by decide +kernel
theorem d_Text_passesDigits_59 : decode b_Text_passesDigits 59 = .ok (.aload_n 0, 1) := by decide +kernel
theorem d_Text_passesDigits_60 : decode b_Text_passesDigits 60 = .ok (.dup, 1) := by decide +kernel
theorem d_Text_passesDigits_61 : decode b_Text_passesDigits 61 = .ok (.getfield 19, 3) := by decide +kernel
theorem d_Text_passesDigits_64 : decode b_Text_passesDigits 64 = .ok (.iconst 1, 1) := by decide +kernel
theorem d_Text_passesDigits_65 : decode b_Text_passesDigits 65 = .ok (.iadd, 1) := by decide +kernel
theorem d_Text_passesDigits_66 : decode b_Text_passesDigits 66 = .ok (.putfield 19, 3) := by decide +kernel
theorem d_Text_passesDigits_69 : decode b_Text_passesDigits 69 = .ok (.goto (-64), 3) := by decide +kernel
theorem d_Text_passesDigits_72 : decode b_Text_passesDigits 72 = .ok (.iload_n 3, 1) := by decide +kernel
theorem d_Text_passesDigits_73 : decode b_Text_passesDigits 73 = .ok (.ifCond .le 13, 3) := by decide +kernel
theorem d_Text_passesDigits_76 : decode b_Text_passesDigits 76 = .ok (.iload 4, 2) := by decide +kernel
theorem d_Text_passesDigits_78 : decode b_Text_passesDigits 78 = .ok (.iload_n 2, 1) := by decide +kernel
theorem d_Text_passesDigits_79 : decode b_Text_passesDigits 79 = .ok (.if_icmp .gt 7, 3) := by decide +kernel
theorem d_Text_passesDigits_82 : decode b_Text_passesDigits 82 = .ok (.iconst 1, 1) := by decide +kernel
theorem d_Text_passesDigits_83 : decode b_Text_passesDigits 83 = .ok (.goto 4, 3) := by decide +kernel
theorem d_Text_passesDigits_86 : decode b_Text_passesDigits 86 = .ok (.iconst 0, 1) := by decide +kernel
theorem d_Text_passesDigits_87 : decode b_Text_passesDigits 87 = .ok (.ireturn, 1) := by decide +kernel
theorem d_Text_passesSign_0 : decode b_Text_passesSign 0 = .ok (.aload_n 0, 1) := by decide +kernel
theorem d_Text_passesSign_1 : decode b_Text_passesSign 1 = .ok (.getfield 19, 3) := by decide +kernel
theorem d_Text_passesSign_4 : decode b_Text_passesSign 4 = .ok (.aload_n 0, 1) := by decide +kernel
theorem d_Text_passesSign_5 : decode b_Text_passesSign 5 = .ok (.getfield 15, 3) := by decide +kernel
theorem d_Text_passesSign_8 : decode b_Text_passesSign 8 = .ok (.if_icmp .ge 16, 3) := by decide +kernel
theorem d_Text_passesSign_11 : decode b_Text_passesSign 11 = .ok (.aload_n 0, 1) := by decide +kernel
theorem d_Text_passesSign_12 : decode b_Text_passesSign 12 = .ok (.getfield 9, 3) := by decide +kernel
theorem d_Text_passesSign_15 : decode b_Text_passesSign 15 = .ok (.aload_n 0, 1) := by decide +kernel
theorem d_Text_passesSign_16 : decode b_Text_passesSign 16 = .ok (.getfield 19, 3) := by decide +kernel
theorem d_Text_passesSign_19 : decode b_Text_passesSign 19 = .ok (.caload, 1) := by decide +kernel
theorem d_Text_passesSign_20 : decode b_Text_passesSign 20 = .ok (.iload_n 1, 1) := by decide +kernel
theorem d_Text_passesSign_21 : decode b_Text_passesSign 21 = .ok (.if_icmp .eq 5, 3) := by decide +kernel
theorem d_Text_passesSign_24 : decode b_Text_passesSign 24 = .ok (.iconst 0, 1) := by decide +kernel
theorem d_Text_passesSign_25 : decode b_Text_passesSign 25 = .ok (.ireturn, 1) := by decide +kernel
theorem d_Text_passesSign_26 : decode b_Text_passesSign 26 = .ok (.aload_n 0, 1) := by decide +kernel
theorem d_Text_passesSign_27 : decode b_Text_passesSign 27 = .ok (.dup, 1) := by decide +kernel
theorem d_Text_passesSign_28 : decode b_Text_passesSign 28 = .ok (.getfield 19, 3) := by decide +kernel
theorem d_Text_passesSign_31 : decode b_Text_passesSign 31 = .ok (.iconst 1, 1) := by decide +kernel
theorem d_Text_passesSign_32 : decode b_Text_passesSign 32 = .ok (.iadd, 1) := by decide +kernel
theorem d_Text_passesSign_33 : decode b_Text_passesSign 33 = .ok (.putfield 19, 3) := by decide +kernel
theorem d_Text_passesSign_36 : decode b_Text_passesSign 36 = .ok (.iconst 1, 1) := by decide +kernel
theorem d_Text_passesSign_37 : decode b_Text_passesSign 37 = .ok (.ireturn, 1) := by decide +kernel
theorem d_Rows_init_0 : decode b_Rows_init 0 = .ok (.aload_n 0, 1) := by decide +kernel
theorem d_Rows_init_1 : decode b_Rows_init 1 = .ok (.invokespecial 3, 3) := by decide +kernel
theorem d_Rows_init_4 : decode b_Rows_init 4 = .ok (.aload_n 0, 1) := by decide +kernel
theorem d_Rows_init_5 : decode b_Rows_init 5 = .ok (.sipush 300, 3) := by decide +kernel
theorem d_Rows_init_8 : decode b_Rows_init 8 = .ok (.newarray .char, 2) := by decide +kernel
theorem d_Rows_init_10 : decode b_Rows_init 10 = .ok (.putfield 9, 3) := by decide +kernel
theorem d_Rows_init_13 : decode b_Rows_init 13 = .ok (.aload_n 0, 1) := by decide +kernel
theorem d_Rows_init_14 : decode b_Rows_init 14 = .ok (.iconst 0, 1) := by decide +kernel
theorem d_Rows_init_15 : decode b_Rows_init 15 = .ok (.putfield 15, 3) := by decide +kernel
theorem d_Rows_init_18 : decode b_Rows_init 18 = .ok (.aload_n 0, 1) := by decide +kernel
theorem d_Rows_init_19 : decode b_Rows_init 19 = .ok (.iconst 0, 1) := by decide +kernel
theorem d_Rows_init_20 : decode b_Rows_init 20 = .ok (.putfield 19, 3) := by decide +kernel
theorem d_Rows_init_23 : decode b_Rows_init 23 = .ok (.return_, 1) := by decide +kernel
theorem d_Rows_replace_0 : decode b_Rows_replace 0 = .ok (.aload_n 1, 1) := by decide +kernel
theorem d_Rows_replace_1 : decode b_Rows_replace 1 = .ok (.iconst 0, 1) := by decide +kernel
theorem d_Rows_replace_2 : decode b_Rows_replace 2 = .ok (.aload_n 0, 1) := by decide +kernel
theorem d_Rows_replace_3 : decode b_Rows_replace 3 = .ok (.getfield 9, 3) := by decide +kernel
theorem d_Rows_replace_6 : decode b_Rows_replace 6 = .ok (.iconst 0, 1) := by decide +kernel
theorem d_Rows_replace_7 : decode b_Rows_replace 7 = .ok (.iload_n 2, 1) := by decide +kernel
theorem d_Rows_replace_8 : decode b_Rows_replace 8 = .ok (.invokestatic 22, 3) := by decide +kernel
theorem d_Rows_replace_11 : decode b_Rows_replace 11 = .ok (.aload_n 0, 1) := by decide +kernel
theorem d_Rows_replace_12 : decode b_Rows_replace 12 = .ok (.iload_n 2, 1) := by decide +kernel
theorem d_Rows_replace_13 : decode b_Rows_replace 13 = .ok (.putfield 15, 3) := by decide +kernel
theorem d_Rows_replace_16 : decode b_Rows_replace 16 = .ok (.aload_n 0, 1) := by decide +kernel
theorem d_Rows_replace_17 : decode b_Rows_replace 17 = .ok (.iload_n 3, 1) := by decide +kernel
theorem d_Rows_replace_18 : decode b_Rows_replace 18 = .ok (.putfield 19, 3) := by decide +kernel
theorem d_Rows_replace_21 : decode b_Rows_replace 21 = .ok (.return_, 1) := by decide +kernel
theorem d_Rows_startFor_0 : decode b_Rows_startFor 0 = .ok (.iconst (-1), 1) := by decide +kernel
theorem d_Rows_startFor_1 : decode b_Rows_startFor 1 = .ok (.istore_n 2, 1) := by decide +kernel
theorem d_Rows_startFor_2 : decode b_Rows_startFor 2 = .ok (.iconst 0, 1) := by decide +kernel
theorem d_Rows_startFor_3 : decode b_Rows_startFor 3 = .ok (.istore_n 3, 1) := by decide +kernel
theorem d_Rows_startFor_4 : decode b_Rows_startFor 4 = .ok (.iconst 0, 1) := by decide +kernel
theorem d_Rows_startFor_5 : decode b_Rows_startFor 5 = .ok (.istore 4, 2) := by decide +kernel
theorem d_Rows_startFor_7 : decode b_Rows_startFor 7 = .ok (.iconst 0, 1) := by decide +kernel
theorem d_Rows_startFor_8 : decode b_Rows_startFor 8 = .ok (.istore 5, 2) := by decide +kernel
theorem d_Rows_startFor_10 : decode b_Rows_startFor 10 = .ok (.iload 5, 2) := by decide +kernel
theorem d_Rows_startFor_12 : decode b_Rows_startFor 12 = .ok (.aload_n 0, 1) := by decide +kernel
theorem d_Rows_startFor_13 : decode b_Rows_startFor 13 = .ok (.getfield 15, 3) := by decide +kernel
theorem d_Rows_startFor_16 : decode b_Rows_startFor 16 = .ok (.if_icmp .ge 76, 3) := by decide +kernel
theorem d_Rows_startFor_19 : decode b_Rows_startFor 19 = .ok (.iload 5, 2) := by decide +kernel
theorem d_Rows_startFor_21 : decode b_Rows_startFor 21 = .ok (.iload 4, 2) := by decide +kernel
theorem d_Rows_startFor_23 : decode b_Rows_startFor 23 = .ok (.isub, 1) := by decide +kernel
theorem d_Rows_startFor_24 : decode b_Rows_startFor 24 = .ok (.istore 6, 2) := by decide +kernel
theorem d_Rows_startFor_26 : decode b_Rows_startFor 26 = .ok (.aload_n 0, 1) := by decide +kernel
theorem d_Rows_startFor_27 : decode b_Rows_startFor 27 = .ok (.getfield 9, 3) := by decide +kernel
theorem d_Rows_startFor_30 : decode b_Rows_startFor 30 = .ok (.iload 5, 2) := by decide +kernel
theorem d_Rows_startFor_32 : decode b_Rows_startFor 32 = .ok (.caload, 1) := by decide +kernel
theorem d_Rows_startFor_33 : decode b_Rows_startFor 33 = .ok (.bipush 59, 2) := by decide +kernel
theorem d_Rows_startFor_35 : decode b_Rows_startFor 35 = .ok (.if_icmp .ne 12, 3) := by decide +kernel
theorem d_Rows_startFor_38 : decode b_Rows_startFor 38 = .ok (.iload 5, 2) := by decide +kernel
theorem d_Rows_startFor_40 : decode b_Rows_startFor 40 = .ok (.iconst 1, 1) := by decide +kernel
theorem d_Rows_startFor_41 : decode b_Rows_startFor 41 = .ok (.iadd, 1) := by decide +kernel
theorem d_Rows_startFor_42 : decode b_Rows_startFor 42 = .ok (.istore 4, 2) := by decide +kernel
theorem d_Rows_startFor_44 : decode b_Rows_startFor 44 = .ok (.goto 42, 3) := by decide +kernel
theorem d_Rows_startFor_47 : decode b_Rows_startFor 47 = .ok (.aload_n 0, 1) := by decide +kernel
theorem d_Rows_startFor_48 : decode b_Rows_startFor 48 = .ok (.getfield 9, 3) := by decide +kernel
theorem d_Rows_startFor_51 : decode b_Rows_startFor 51 = .ok (.iload 5, 2) := by decide +kernel
theorem d_Rows_startFor_53 : decode b_Rows_startFor 53 = .ok (.caload, 1) := by decide +kernel
theorem d_Rows_startFor_54 : decode b_Rows_startFor 54 = .ok (.bipush 58, 2) := by decide +kernel
theorem d_Rows_startFor_56 : decode b_Rows_startFor 56 = .ok (.if_icmp .ne 30, 3) := by decide +kernel
theorem d_Rows_startFor_59 : decode b_Rows_startFor 59 = .ok (.iload 6, 2) := by decide +kernel
theorem d_Rows_startFor_61 : decode b_Rows_startFor 61 = .ok (.iload_n 3, 1) := by decide +kernel
theorem d_Rows_startFor_62 : decode b_Rows_startFor 62 = .ok (.if_icmp .lt 24, 3) := by decide +kernel
theorem d_Rows_startFor_65 : decode b_Rows_startFor 65 = .ok (.iload_n 1, 1) := by decide +kernel
theorem d_Rows_startFor_66 : decode b_Rows_startFor 66 = .ok (.iload 6, 2) := by decide +kernel
theorem d_Rows_startFor_68 : decode b_Rows_startFor 68 = .ok (.invokestatic 28, 3) := by decide +kernel
theorem d_Rows_startFor_71 : decode b_Rows_startFor 71 = .ok (.aload_n 0, 1) := by decide +kernel
theorem d_Rows_startFor_72 : decode b_Rows_startFor 72 = .ok (.iload 4, 2) := by decide +kernel
theorem d_Rows_startFor_74 : decode b_Rows_startFor 74 = .ok (.invokevirtual 32, 3) := by decide +kernel
theorem d_Rows_startFor_77 : decode b_Rows_startFor 77 = .ok (.if_icmp .ne 9, 3) := by decide +kernel
theorem d_Rows_startFor_80 : decode b_Rows_startFor 80 = .ok (.iload 4, 2) := by decide +kernel
theorem d_Rows_startFor_82 : decode b_Rows_startFor 82 = .ok (.istore_n 2, 1) := by decide +kernel
theorem d_Rows_startFor_83 : decode b_Rows_startFor 83 = .ok (.iload 6, 2) := by decide +kernel
theorem d_Rows_startFor_85 : decode b_Rows_startFor 85 = .ok (.istore_n 3, 1) := by decide +kernel
theorem d_Rows_startFor_86 : decode b_Rows_startFor 86 = .ok (.iinc 5 1, 3) := by decide +kernel
theorem d_Rows_startFor_89 : decode b_Rows_startFor 89 = .ok (.goto (-79), 3) := by decide +kernel
theorem d_Rows_startFor_92 : decode b_Rows_startFor 92 = .ok (.iload_n 2, 1) := by decide +kernel
theorem d_Rows_startFor_93 : decode b_Rows_startFor 93 = .ok (.ireturn, 1) := by decide +kernel
theorem d_Rows_numberAt_0 : decode b_Rows_numberAt 0 = .ok (.iconst 0, 1) := by decide +kernel
theorem d_Rows_numberAt_1 : decode b_Rows_numberAt 1 = .ok (.istore_n 2, 1) := by decide +kernel
theorem d_Rows_numberAt_2 : decode b_Rows_numberAt 2 = .ok (.iload_n 1, 1) := by decide +kernel
theorem d_Rows_numberAt_3 : decode b_Rows_numberAt 3 = .ok (.istore_n 3, 1) := by decide +kernel
theorem d_Rows_numberAt_4 : decode b_Rows_numberAt 4 = .ok (.iload_n 3, 1) := by decide +kernel
theorem d_Rows_numberAt_5 : decode b_Rows_numberAt 5 = .ok (.aload_n 0, 1) := by decide +kernel
theorem d_Rows_numberAt_6 : decode b_Rows_numberAt 6 = .ok (.getfield 15, 3) := by decide +kernel
theorem d_Rows_numberAt_9 : decode b_Rows_numberAt 9 = .ok (.if_icmp .ge 36, 3) := by decide +kernel
theorem d_Rows_numberAt_12 : decode b_Rows_numberAt 12 = .ok (.aload_n 0, 1) := by decide +kernel
theorem d_Rows_numberAt_13 : decode b_Rows_numberAt 13 = .ok (.getfield 9, 3) := by decide +kernel
theorem d_Rows_numberAt_16 : decode b_Rows_numberAt 16 = .ok (.iload_n 3, 1) := by decide +kernel
theorem d_Rows_numberAt_17 : decode b_Rows_numberAt 17 = .ok (.caload, 1) := by decide +kernel
theorem d_Rows_numberAt_18 : decode b_Rows_numberAt 18 = .ok (.invokestatic 36, 3) := by decide +kernel
theorem d_Rows_numberAt_21 : decode b_Rows_numberAt 21 = .ok (.ifCond .eq 24, 3) := by decide +kernel
theorem d_Rows_numberAt_24 : decode b_Rows_numberAt 24 = .ok (.iload_n 2, 1) := by decide +kernel
theorem d_Rows_numberAt_25 : decode b_Rows_numberAt 25 = .ok (.bipush 10, 2) := by decide +kernel
theorem d_Rows_numberAt_27 : decode b_Rows_numberAt 27 = .ok (.imul, 1) := by decide +kernel
theorem d_Rows_numberAt_28 : decode b_Rows_numberAt 28 = .ok (.aload_n 0, 1) := by decide +kernel
theorem d_Rows_numberAt_29 : decode b_Rows_numberAt 29 = .ok (.getfield 9, 3) := by decide +kernel
theorem d_Rows_numberAt_32 : decode b_Rows_numberAt 32 = .ok (.iload_n 3, 1) := by decide +kernel
theorem d_Rows_numberAt_33 : decode b_Rows_numberAt 33 = .ok (.caload, 1) := by decide +kernel
theorem d_Rows_numberAt_34 : decode b_Rows_numberAt 34 = .ok (.bipush 48, 2) := by decide +kernel
theorem d_Rows_numberAt_36 : decode b_Rows_numberAt 36 = .ok (.isub, 1) := by decide +kernel
theorem d_Rows_numberAt_37 : decode b_Rows_numberAt 37 = .ok (.iadd, 1) := by decide +kernel
theorem d_Rows_numberAt_38 : decode b_Rows_numberAt 38 = .ok (.istore_n 2, 1) := by decide +kernel
theorem d_Rows_numberAt_39 : decode b_Rows_numberAt 39 = .ok (.iinc 3 1, 3) := by decide +kernel
theorem d_Rows_numberAt_42 : decode b_Rows_numberAt 42 = .ok (.goto (-38), 3) := by decide +kernel
theorem d_Rows_numberAt_45 : decode b_Rows_numberAt 45 = .ok (.iload_n 2, 1) := by decide +kernel
theorem d_Rows_numberAt_46 : decode b_Rows_numberAt 46 = .ok (.ireturn, 1) := by decide +kernel
theorem d_Parts_init_0 : decode b_Parts_init 0 = .ok (.aload_n 0, 1) := by decide +kernel
theorem d_Parts_init_1 : decode b_Parts_init 1 = .ok (.invokespecial 3, 3) := by decide +kernel
theorem d_Parts_init_4 : decode b_Parts_init 4 = .ok (.aload_n 0, 1) := by decide +kernel
theorem d_Parts_init_5 : decode b_Parts_init 5 = .ok (.bipush 12, 2) := by decide +kernel
theorem d_Parts_init_7 : decode b_Parts_init 7 = .ok (.newarray .int, 2) := by decide +kernel
theorem d_Parts_init_9 : decode b_Parts_init 9 = .ok (.putfield 9, 3) := by decide +kernel
theorem d_Parts_init_12 : decode b_Parts_init 12 = .ok (.aload_n 0, 1) := by decide +kernel
theorem d_Parts_init_13 : decode b_Parts_init 13 = .ok (.bipush 12, 2) := by decide +kernel
theorem d_Parts_init_15 : decode b_Parts_init 15 = .ok (.newarray .int, 2) := by decide +kernel
theorem d_Parts_init_17 : decode b_Parts_init 17 = .ok (.putfield 15, 3) := by decide +kernel
theorem d_Parts_init_20 : decode b_Parts_init 20 = .ok (.aload_n 0, 1) := by decide +kernel
theorem d_Parts_init_21 : decode b_Parts_init 21 = .ok (.bipush 12, 2) := by decide +kernel
theorem d_Parts_init_23 : decode b_Parts_init 23 = .ok (.newarray .long, 2) := by decide +kernel
theorem d_Parts_init_25 : decode b_Parts_init 25 = .ok (.putfield 18, 3) := by decide +kernel
theorem d_Parts_init_28 : decode b_Parts_init 28 = .ok (.aload_n 0, 1) := by decide +kernel
theorem d_Parts_init_29 : decode b_Parts_init 29 = .ok (.iconst 0, 1) := by decide +kernel
theorem d_Parts_init_30 : decode b_Parts_init 30 = .ok (.putfield 22, 3) := by decide +kernel
theorem d_Parts_init_33 : decode b_Parts_init 33 = .ok (.return_, 1) := by decide +kernel
theorem d_Parts_add_0 : decode b_Parts_add 0 = .ok (.aload_n 0, 1) := by decide +kernel
theorem d_Parts_add_1 : decode b_Parts_add 1 = .ok (.getfield 9, 3) := by decide +kernel
theorem d_Parts_add_4 : decode b_Parts_add 4 = .ok (.aload_n 0, 1) := by decide +kernel
theorem d_Parts_add_5 : decode b_Parts_add 5 = .ok (.getfield 22, 3) := by decide +kernel
theorem d_Parts_add_8 : decode b_Parts_add 8 = .ok (.iload_n 1, 1) := by decide +kernel
theorem d_Parts_add_9 : decode b_Parts_add 9 = .ok (.iastore, 1) := by decide +kernel
theorem d_Parts_add_10 : decode b_Parts_add 10 = .ok (.aload_n 0, 1) := by decide +kernel
theorem d_Parts_add_11 : decode b_Parts_add 11 = .ok (.getfield 15, 3) := by decide +kernel
theorem d_Parts_add_14 : decode b_Parts_add 14 = .ok (.aload_n 0, 1) := by decide +kernel
theorem d_Parts_add_15 : decode b_Parts_add 15 = .ok (.getfield 22, 3) := by decide +kernel
theorem d_Parts_add_18 : decode b_Parts_add 18 = .ok (.iload_n 2, 1) := by decide +kernel
theorem d_Parts_add_19 : decode b_Parts_add 19 = .ok (.iastore, 1) := by decide +kernel
theorem d_Parts_add_20 : decode b_Parts_add 20 = .ok (.aload_n 0, 1) := by decide +kernel
theorem d_Parts_add_21 : decode b_Parts_add 21 = .ok (.getfield 18, 3) := by decide +kernel
theorem d_Parts_add_24 : decode b_Parts_add 24 = .ok (.aload_n 0, 1) := by decide +kernel
theorem d_Parts_add_25 : decode b_Parts_add 25 = .ok (.getfield 22, 3) := by decide +kernel
theorem d_Parts_add_28 : decode b_Parts_add 28 = .ok (.lload_n 3, 1) := by decide +kernel
theorem d_Parts_add_29 : decode b_Parts_add 29 = .ok (.lastore, 1) := by decide +kernel
theorem d_Parts_add_30 : decode b_Parts_add 30 = .ok (.aload_n 0, 1) := by decide +kernel
theorem d_Parts_add_31 : decode b_Parts_add 31 = .ok (.dup, 1) := by decide +kernel
theorem d_Parts_add_32 : decode b_Parts_add 32 = .ok (.getfield 22, 3) := by decide +kernel
theorem d_Parts_add_35 : decode b_Parts_add 35 = .ok (.iconst 1, 1) := by decide +kernel
theorem d_Parts_add_36 : decode b_Parts_add 36 = .ok (.iadd, 1) := by decide +kernel
theorem d_Parts_add_37 : decode b_Parts_add 37 = .ok (.putfield 22, 3) := by decide +kernel
theorem d_Parts_add_40 : decode b_Parts_add 40 = .ok (.aload_n 0, 1) := by decide +kernel
theorem d_Parts_add_41 : decode b_Parts_add 41 = .ok (.getfield 22, 3) := by decide +kernel
theorem d_Parts_add_44 : decode b_Parts_add 44 = .ok (.ireturn, 1) := by decide +kernel
theorem d_Parts_forget_0 : decode b_Parts_forget 0 = .ok (.aload_n 0, 1) := by decide +kernel
theorem d_Parts_forget_1 : decode b_Parts_forget 1 = .ok (.getfield 22, 3) := by decide +kernel
theorem d_Parts_forget_4 : decode b_Parts_forget 4 = .ok (.istore_n 1, 1) := by decide +kernel
theorem d_Parts_forget_5 : decode b_Parts_forget 5 = .ok (.aload_n 0, 1) := by decide +kernel
theorem d_Parts_forget_6 : decode b_Parts_forget 6 = .ok (.iconst 0, 1) := by decide +kernel
theorem d_Parts_forget_7 : decode b_Parts_forget 7 = .ok (.putfield 22, 3) := by decide +kernel
theorem d_Parts_forget_10 : decode b_Parts_forget 10 = .ok (.iload_n 1, 1) := by decide +kernel
theorem d_Parts_forget_11 : decode b_Parts_forget 11 = .ok (.ireturn, 1) := by decide +kernel
theorem d_Parts_foreignParts_0 : decode b_Parts_foreignParts 0 = .ok (.iconst 0, 1) := by decide +kernel
theorem d_Parts_foreignParts_1 : decode b_Parts_foreignParts 1 = .ok (.istore_n 2, 1) := by decide +kernel
theorem d_Parts_foreignParts_2 : decode b_Parts_foreignParts 2 = .ok (.iconst 0, 1) := by decide +kernel
theorem d_Parts_foreignParts_3 : decode b_Parts_foreignParts 3 = .ok (.istore_n 3, 1) := by decide +kernel
theorem d_Parts_foreignParts_4 : decode b_Parts_foreignParts 4 = .ok (.iload_n 3, 1) := by decide +kernel
theorem d_Parts_foreignParts_5 : decode b_Parts_foreignParts 5 = .ok (.aload_n 0, 1) := by decide +kernel
theorem d_Parts_foreignParts_6 : decode b_Parts_foreignParts 6 = .ok (.getfield 22, 3) := by decide +kernel
theorem d_Parts_foreignParts_9 : decode b_Parts_foreignParts 9 = .ok (.if_icmp .ge 25, 3) := by decide +kernel
theorem d_Parts_foreignParts_12 : decode b_Parts_foreignParts 12 = .ok (.iload_n 1, 1) := by decide +kernel
theorem d_Parts_foreignParts_13 : decode b_Parts_foreignParts 13 = .ok (.aload_n 0, 1) := by decide +kernel
theorem d_Parts_foreignParts_14 : decode b_Parts_foreignParts 14 = .ok (.getfield 15, 3) := by decide +kernel
theorem d_Parts_foreignParts_17 : decode b_Parts_foreignParts 17 = .ok (.iload_n 3, 1) := by decide +kernel
theorem d_Parts_foreignParts_18 : decode b_Parts_foreignParts 18 = .ok (.iaload, 1) := by decide +kernel
theorem d_Parts_foreignParts_19 : decode b_Parts_foreignParts 19 = .ok (.invokestatic 26, 3) := by decide +kernel
theorem d_Parts_foreignParts_22 : decode b_Parts_foreignParts 22 = .ok (.ifCond .ne 6, 3) := by decide +kernel
theorem d_Parts_foreignParts_25 : decode b_Parts_foreignParts 25 = .ok (.iinc 2 1, 3) := by decide +kernel
theorem d_Parts_foreignParts_28 : decode b_Parts_foreignParts 28 = .ok (.iinc 3 1, 3) := by decide +kernel
theorem d_Parts_foreignParts_31 : decode b_Parts_foreignParts 31 = .ok (.goto (-27), 3) := by decide +kernel
theorem d_Parts_foreignParts_34 : decode b_Parts_foreignParts 34 = .ok (.iload_n 2, 1) := by decide +kernel
theorem d_Parts_foreignParts_35 : decode b_Parts_foreignParts 35 = .ok (.ireturn, 1) := by decide +kernel
theorem d_Parts_foreignCents_0 : decode b_Parts_foreignCents 0 = .ok (.lconst 0, 1) := by decide +kernel
theorem d_Parts_foreignCents_1 : decode b_Parts_foreignCents 1 = .ok (.lstore_n 2, 1) := by decide +kernel
theorem d_Parts_foreignCents_2 : decode b_Parts_foreignCents 2 = .ok (.iconst 0, 1) := by decide +kernel
theorem d_Parts_foreignCents_3 : decode b_Parts_foreignCents 3 = .ok (.istore 4, 2) := by decide +kernel
theorem d_Parts_foreignCents_5 : decode b_Parts_foreignCents 5 = .ok (.iload 4, 2) := by decide +kernel
theorem d_Parts_foreignCents_7 : decode b_Parts_foreignCents 7 = .ok (.aload_n 0, 1) := by decide +kernel
theorem d_Parts_foreignCents_8 : decode b_Parts_foreignCents 8 = .ok (.getfield 22, 3) := by decide +kernel
theorem d_Parts_foreignCents_11 : decode b_Parts_foreignCents 11 = .ok (.if_icmp .ge 33, 3) := by decide +kernel
theorem d_Parts_foreignCents_14 : decode b_Parts_foreignCents 14 = .ok (.iload_n 1, 1) := by decide +kernel
theorem d_Parts_foreignCents_15 : decode b_Parts_foreignCents 15 = .ok (.aload_n 0, 1) := by decide +kernel
theorem d_Parts_foreignCents_16 : decode b_Parts_foreignCents 16 = .ok (.getfield 15, 3) := by decide +kernel
theorem d_Parts_foreignCents_19 : decode b_Parts_foreignCents 19 = .ok (.iload 4, 2) := by decide +kernel
theorem d_Parts_foreignCents_21 : decode b_Parts_foreignCents 21 = .ok (.iaload, 1) := by decide +kernel
theorem d_Parts_foreignCents_22 : decode b_Parts_foreignCents 22 = .ok (.invokestatic 26, 3) := by decide +kernel
theorem d_Parts_foreignCents_25 : decode b_Parts_foreignCents 25 = .ok (.ifCond .ne 13, 3) := by decide +kernel
theorem d_Parts_foreignCents_28 : decode b_Parts_foreignCents 28 = .ok (.lload_n 2, 1) := by decide +kernel
theorem d_Parts_foreignCents_29 : decode b_Parts_foreignCents 29 = .ok (.aload_n 0, 1) := by decide +kernel
theorem d_Parts_foreignCents_30 : decode b_Parts_foreignCents 30 = .ok (.getfield 18, 3) := by decide +kernel
theorem d_Parts_foreignCents_33 : decode b_Parts_foreignCents 33 = .ok (.iload 4, 2) := by decide +kernel
theorem d_Parts_foreignCents_35 : decode b_Parts_foreignCents 35 = .ok (.laload, 1) := by decide +kernel
theorem d_Parts_foreignCents_36 : decode b_Parts_foreignCents 36 = .ok (.ladd, 1) := by decide +kernel
theorem d_Parts_foreignCents_37 : decode b_Parts_foreignCents 37 = .ok (.lstore_n 2, 1) := by decide +kernel
theorem d_Parts_foreignCents_38 : decode b_Parts_foreignCents 38 = .ok (.iinc 4 1, 3) := by decide +kernel
theorem d_Parts_foreignCents_41 : decode b_Parts_foreignCents 41 = .ok (.goto (-36), 3) := by decide +kernel
theorem d_Parts_foreignCents_44 : decode b_Parts_foreignCents 44 = .ok (.lload_n 2, 1) := by decide +kernel
theorem d_Parts_foreignCents_45 : decode b_Parts_foreignCents 45 = .ok (.lreturn, 1) := by decide +kernel
theorem d_Parts_foreignCentsAlike_0 : decode b_Parts_foreignCentsAlike 0 = .ok (.iload_n 2, 1) := by decide +kernel
theorem d_Parts_foreignCentsAlike_1 : decode b_Parts_foreignCentsAlike 1 = .ok (.iload_n 3, 1) := by decide +kernel
theorem d_Parts_foreignCentsAlike_2 : decode b_Parts_foreignCentsAlike 2 = .ok (.invokestatic 30, 3) := by decide +kernel
theorem d_Parts_foreignCentsAlike_5 : decode b_Parts_foreignCentsAlike 5 = .ok (.istore 4, 2) := by decide +kernel
theorem d_Parts_foreignCentsAlike_7 : decode b_Parts_foreignCentsAlike 7 = .ok (.lconst 0, 1) := by decide +kernel
theorem d_Parts_foreignCentsAlike_8 : decode b_Parts_foreignCentsAlike 8 = .ok (.lstore 5, 2) := by decide +kernel
theorem d_Parts_foreignCentsAlike_10 : decode b_Parts_foreignCentsAlike 10 = .ok (.iconst 0, 1) := by decide +kernel
theorem d_Parts_foreignCentsAlike_11 : decode b_Parts_foreignCentsAlike 11 = .ok (.istore 7, 2) := by decide +kernel
theorem d_Parts_foreignCentsAlike_13 : decode b_Parts_foreignCentsAlike 13 = .ok (.iload 7, 2) := by decide +kernel
theorem d_Parts_foreignCentsAlike_15 : decode b_Parts_foreignCentsAlike 15 = .ok (.aload_n 0, 1) := by decide +kernel
theorem d_Parts_foreignCentsAlike_16 : decode b_Parts_foreignCentsAlike 16 = .ok (.getfield 22, 3) := by decide +kernel
theorem d_Parts_foreignCentsAlike_19 : decode b_Parts_foreignCentsAlike 19 = .ok (.if_icmp .ge 51, 3) := by decide +kernel
theorem d_Parts_foreignCentsAlike_22 : decode b_Parts_foreignCentsAlike 22 = .ok (.iload_n 1, 1) := by decide +kernel
theorem d_Parts_foreignCentsAlike_23 : decode b_Parts_foreignCentsAlike 23 = .ok (.aload_n 0, 1) := by decide +kernel
theorem d_Parts_foreignCentsAlike_24 : decode b_Parts_foreignCentsAlike 24 = .ok (.getfield 15, 3) := by decide +kernel
theorem d_Parts_foreignCentsAlike_27 : decode b_Parts_foreignCentsAlike 27 = .ok (.iload 7, 2) := by decide +kernel
theorem d_Parts_foreignCentsAlike_29 : decode b_Parts_foreignCentsAlike 29 = .ok (.iaload, 1) := by decide +kernel
theorem d_Parts_foreignCentsAlike_30 : decode b_Parts_foreignCentsAlike 30 = .ok (.invokestatic 26, 3) := by decide +kernel
theorem d_Parts_foreignCentsAlike_33 : decode b_Parts_foreignCentsAlike 33 = .ok (.ifCond .ne 31, 3) := by decide +kernel
theorem d_Parts_foreignCentsAlike_36 : decode b_Parts_foreignCentsAlike 36 = .ok (.aload_n 0, 1) := by decide +kernel
theorem d_Parts_foreignCentsAlike_37 : decode b_Parts_foreignCentsAlike 37 = .ok (.getfield 9, 3) := by decide +kernel
theorem d_Parts_foreignCentsAlike_40 : decode b_Parts_foreignCentsAlike 40 = .ok (.iload 7, 2) := by decide +kernel
theorem d_Parts_foreignCentsAlike_42 : decode b_Parts_foreignCentsAlike 42 = .ok (.iaload, 1) := by decide +kernel
theorem d_Parts_foreignCentsAlike_43 : decode b_Parts_foreignCentsAlike 43 = .ok (.iload_n 3, 1) := by decide +kernel
theorem d_Parts_foreignCentsAlike_44 : decode b_Parts_foreignCentsAlike 44 = .ok (.invokestatic 30, 3) := by decide +kernel
theorem d_Parts_foreignCentsAlike_47 : decode b_Parts_foreignCentsAlike 47 = .ok (.iload 4, 2) := by decide +kernel
theorem d_Parts_foreignCentsAlike_49 : decode b_Parts_foreignCentsAlike 49 = .ok (.if_icmp .ne 15, 3) := by decide +kernel
theorem d_Parts_foreignCentsAlike_52 : decode b_Parts_foreignCentsAlike 52 = .ok (.lload 5, 2) := by decide +kernel
theorem d_Parts_foreignCentsAlike_54 : decode b_Parts_foreignCentsAlike 54 = .ok (.aload_n 0, 1) := by decide +kernel
theorem d_Parts_foreignCentsAlike_55 : decode b_Parts_foreignCentsAlike 55 = .ok (.getfield 18, 3) := by decide +kernel
theorem d_Parts_foreignCentsAlike_58 : decode b_Parts_foreignCentsAlike 58 = .ok (.iload 7, 2) := by decide +kernel
theorem d_Parts_foreignCentsAlike_60 : decode b_Parts_foreignCentsAlike 60 = .ok (.laload, 1) := by decide +kernel
theorem d_Parts_foreignCentsAlike_61 : decode b_Parts_foreignCentsAlike 61 = .ok (.ladd, 1) := by decide +kernel
theorem d_Parts_foreignCentsAlike_62 : decode b_Parts_foreignCentsAlike 62 = .ok (.lstore 5, 2) := by decide +kernel
theorem d_Parts_foreignCentsAlike_64 : decode b_Parts_foreignCentsAlike 64 = .ok (.iinc 7 1, 3) := by decide +kernel
theorem d_Parts_foreignCentsAlike_67 : decode b_Parts_foreignCentsAlike 67 = .ok (.goto (-54), 3) := by decide +kernel
theorem d_Parts_foreignCentsAlike_70 : decode b_Parts_foreignCentsAlike 70 = .ok (.lload 5, 2) := by decide +kernel
theorem d_Parts_foreignCentsAlike_72 : decode b_Parts_foreignCentsAlike 72 = .ok (.lreturn, 1) := by decide +kernel
theorem d_Lands_init_0 : decode b_Lands_init 0 = .ok (.aload_n 0, 1) := by decide +kernel
theorem d_Lands_init_1 : decode b_Lands_init 1 = .ok (.invokespecial 3, 3) := by decide +kernel
theorem d_Lands_init_4 : decode b_Lands_init 4 = .ok (.aload_n 0, 1) := by decide +kernel
theorem d_Lands_init_5 : decode b_Lands_init 5 = .ok (.bipush 10, 2) := by decide +kernel
theorem d_Lands_init_7 : decode b_Lands_init 7 = .ok (.newarray .int, 2) := by decide +kernel
theorem d_Lands_init_9 : decode b_Lands_init 9 = .ok (.putfield 9, 3) := by decide +kernel
theorem d_Lands_init_12 : decode b_Lands_init 12 = .ok (.aload_n 0, 1) := by decide +kernel
theorem d_Lands_init_13 : decode b_Lands_init 13 = .ok (.iconst 0, 1) := by decide +kernel
theorem d_Lands_init_14 : decode b_Lands_init 14 = .ok (.putfield 15, 3) := by decide +kernel
theorem d_Lands_init_17 : decode b_Lands_init 17 = .ok (.aload_n 0, 1) := by decide +kernel
theorem d_Lands_init_18 : decode b_Lands_init 18 = .ok (.iconst 0, 1) := by decide +kernel
theorem d_Lands_init_19 : decode b_Lands_init 19 = .ok (.putfield 19, 3) := by decide +kernel
theorem d_Lands_init_22 : decode b_Lands_init 22 = .ok (.return_, 1) := by decide +kernel
theorem d_Lands_addPair_0 : decode b_Lands_addPair 0 = .ok (.aload_n 0, 1) := by decide +kernel
theorem d_Lands_addPair_1 : decode b_Lands_addPair 1 = .ok (.getfield 9, 3) := by decide +kernel
theorem d_Lands_addPair_4 : decode b_Lands_addPair 4 = .ok (.iload_n 1, 1) := by decide +kernel
theorem d_Lands_addPair_5 : decode b_Lands_addPair 5 = .ok (.iaload, 1) := by decide +kernel
theorem d_Lands_addPair_6 : decode b_Lands_addPair 6 = .ok (.iload_n 2, 1) := by decide +kernel
theorem d_Lands_addPair_7 : decode b_Lands_addPair 7 = .ok (.invokestatic 23, 3) := by decide +kernel
theorem d_Lands_addPair_10 : decode b_Lands_addPair 10 = .ok (.ifCond .eq 5, 3) := by decide +kernel
theorem d_Lands_addPair_13 : decode b_Lands_addPair 13 = .ok (.iconst 0, 1) := by decide +kernel
theorem d_Lands_addPair_14 : decode b_Lands_addPair 14 = .ok (.ireturn, 1) := by decide +kernel
theorem d_Lands_addPair_15 : decode b_Lands_addPair 15 = .ok (.aload_n 0, 1) := by decide +kernel
theorem d_Lands_addPair_16 : decode b_Lands_addPair 16 = .ok (.getfield 9, 3) := by decide +kernel
theorem d_Lands_addPair_19 : decode b_Lands_addPair 19 = .ok (.iload_n 1, 1) := by decide +kernel
theorem d_Lands_addPair_20 : decode b_Lands_addPair 20 = .ok (.dup2, 1) := by decide +kernel
theorem d_Lands_addPair_21 : decode b_Lands_addPair 21 = .ok (.iaload, 1) := by decide +kernel
theorem d_Lands_addPair_22 : decode b_Lands_addPair 22 = .ok (.iconst 1, 1) := by decide +kernel
theorem d_Lands_addPair_23 : decode b_Lands_addPair 23 = .ok (.iload_n 2, 1) := by decide +kernel
theorem d_Lands_addPair_24 : decode b_Lands_addPair 24 = .ok (.ishl, 1) := by decide +kernel
theorem d_Lands_addPair_25 : decode b_Lands_addPair 25 = .ok (.ior, 1) := by decide +kernel
theorem d_Lands_addPair_26 : decode b_Lands_addPair 26 = .ok (.iastore, 1) := by decide +kernel
theorem d_Lands_addPair_27 : decode b_Lands_addPair 27 = .ok (.aload_n 0, 1) := by decide +kernel
theorem d_Lands_addPair_28 : decode b_Lands_addPair 28 = .ok (.getfield 9, 3) := by decide +kernel
theorem d_Lands_addPair_31 : decode b_Lands_addPair 31 = .ok (.iload_n 2, 1) := by decide +kernel
theorem d_Lands_addPair_32 : decode b_Lands_addPair 32 = .ok (.dup2, 1) := by decide +kernel
theorem d_Lands_addPair_33 : decode b_Lands_addPair 33 = .ok (.iaload, 1) := by decide +kernel
theorem d_Lands_addPair_34 : decode b_Lands_addPair 34 = .ok (.iconst 1, 1) := by decide +kernel
theorem d_Lands_addPair_35 : decode b_Lands_addPair 35 = .ok (.iload_n 1, 1) := by decide +kernel
theorem d_Lands_addPair_36 : decode b_Lands_addPair 36 = .ok (.ishl, 1) := by decide +kernel
theorem d_Lands_addPair_37 : decode b_Lands_addPair 37 = .ok (.ior, 1) := by decide +kernel
theorem d_Lands_addPair_38 : decode b_Lands_addPair 38 = .ok (.iastore, 1) := by decide +kernel
theorem d_Lands_addPair_39 : decode b_Lands_addPair 39 = .ok (.aload_n 0, 1) := by decide +kernel
theorem d_Lands_addPair_40 : decode b_Lands_addPair 40 = .ok (.dup, 1) := by decide +kernel
theorem d_Lands_addPair_41 : decode b_Lands_addPair 41 = .ok (.getfield 15, 3) := by decide +kernel
theorem d_Lands_addPair_44 : decode b_Lands_addPair 44 = .ok (.iconst 1, 1) := by decide +kernel
theorem d_Lands_addPair_45 : decode b_Lands_addPair 45 = .ok (.iadd, 1) := by decide +kernel
theorem d_Lands_addPair_46 : decode b_Lands_addPair 46 = .ok (.putfield 15, 3) := by decide +kernel
theorem d_Lands_addPair_49 : decode b_Lands_addPair 49 = .ok (.iconst 1, 1) := by decide +kernel
theorem d_Lands_addPair_50 : decode b_Lands_addPair 50 = .ok (.ireturn, 1) := by decide +kernel
theorem d_Lands_ownLands_0 : decode b_Lands_ownLands 0 = .ok (.iconst 1, 1) := by decide +kernel
theorem d_Lands_ownLands_1 : decode b_Lands_ownLands 1 = .ok (.aload_n 0, 1) := by decide +kernel
theorem d_Lands_ownLands_2 : decode b_Lands_ownLands 2 = .ok (.getfield 9, 3) := by decide +kernel
theorem d_Lands_ownLands_5 : decode b_Lands_ownLands 5 = .ok (.iconst 0, 1) := by decide +kernel
theorem d_Lands_ownLands_6 : decode b_Lands_ownLands 6 = .ok (.iaload, 1) := by decide +kernel
theorem d_Lands_ownLands_7 : decode b_Lands_ownLands 7 = .ok (.ior, 1) := by decide +kernel
theorem d_Lands_ownLands_8 : decode b_Lands_ownLands 8 = .ok (.istore_n 1, 1) := by decide +kernel
theorem d_Lands_ownLands_9 : decode b_Lands_ownLands 9 = .ok (.iconst 0, 1) := by decide +kernel
theorem d_Lands_ownLands_10 : decode b_Lands_ownLands 10 = .ok (.istore_n 2, 1) := by decide +kernel
theorem d_Lands_ownLands_11 : decode b_Lands_ownLands 11 = .ok (.aload_n 0, 1) := by decide +kernel
theorem d_Lands_ownLands_12 : decode b_Lands_ownLands 12 = .ok (.getfield 19, 3) := by decide +kernel
theorem d_Lands_ownLands_15 : decode b_Lands_ownLands 15 = .ok (.ifCond .eq 46, 3) := by decide +kernel
theorem d_Lands_ownLands_18 : decode b_Lands_ownLands 18 = .ok (.iload_n 2, 1) := by decide +kernel
theorem d_Lands_ownLands_19 : decode b_Lands_ownLands 19 = .ok (.bipush 10, 2) := by decide +kernel
theorem d_Lands_ownLands_21 : decode b_Lands_ownLands 21 = .ok (.if_icmp .ge 40, 3) := by decide +kernel
theorem d_Lands_ownLands_24 : decode b_Lands_ownLands 24 = .ok (.iconst 0, 1) := by decide +kernel
theorem d_Lands_ownLands_25 : decode b_Lands_ownLands 25 = .ok (.istore_n 3, 1) := by decide +kernel
theorem d_Lands_ownLands_26 : decode b_Lands_ownLands 26 = .ok (.iload_n 3, 1) := by decide +kernel
theorem d_Lands_ownLands_27 : decode b_Lands_ownLands 27 = .ok (.bipush 10, 2) := by decide +kernel
theorem d_Lands_ownLands_29 : decode b_Lands_ownLands 29 = .ok (.if_icmp .ge 26, 3) := by decide +kernel
theorem d_Lands_ownLands_32 : decode b_Lands_ownLands 32 = .ok (.iload_n 1, 1) := by decide +kernel
theorem d_Lands_ownLands_33 : decode b_Lands_ownLands 33 = .ok (.iload_n 3, 1) := by decide +kernel
theorem d_Lands_ownLands_34 : decode b_Lands_ownLands 34 = .ok (.invokestatic 23, 3) := by decide +kernel
theorem d_Lands_ownLands_37 : decode b_Lands_ownLands 37 = .ok (.ifCond .eq 12, 3) := by decide +kernel
theorem d_Lands_ownLands_40 : decode b_Lands_ownLands 40 = .ok (.iload_n 1, 1) := by decide +kernel
theorem d_Lands_ownLands_41 : decode b_Lands_ownLands 41 = .ok (.aload_n 0, 1) := by decide +kernel
theorem d_Lands_ownLands_42 : decode b_Lands_ownLands 42 = .ok (.getfield 9, 3) := by decide +kernel
theorem d_Lands_ownLands_45 : decode b_Lands_ownLands 45 = .ok (.iload_n 3, 1) := by decide +kernel
theorem d_Lands_ownLands_46 : decode b_Lands_ownLands 46 = .ok (.iaload, 1) := by decide +kernel
theorem d_Lands_ownLands_47 : decode b_Lands_ownLands 47 = .ok (.ior, 1) := by decide +kernel
theorem d_Lands_ownLands_48 : decode b_Lands_ownLands 48 = .ok (.istore_n 1, 1) := by decide +kernel
theorem d_Lands_ownLands_49 : decode b_Lands_ownLands 49 = .ok (.iinc 3 1, 3) := by decide +kernel
theorem d_Lands_ownLands_52 : decode b_Lands_ownLands 52 = .ok (.goto (-26), 3) := by decide +kernel
theorem d_Lands_ownLands_55 : decode b_Lands_ownLands 55 = .ok (.iinc 2 1, 3) := by decide +kernel
theorem d_Lands_ownLands_58 : decode b_Lands_ownLands 58 = .ok (.goto (-47), 3) := by decide +kernel
theorem d_Lands_ownLands_61 : decode b_Lands_ownLands 61 = .ok (.iload_n 1, 1) := by decide +kernel
theorem d_Lands_ownLands_62 : decode b_Lands_ownLands 62 = .ok (.ireturn, 1) := by decide +kernel
theorem d_Proofs_init_0 : decode b_Proofs_init 0 = .ok (.aload_n 0, 1) := by decide +kernel
theorem d_Proofs_init_1 : decode b_Proofs_init 1 = .ok (.invokespecial 3, 3) := by decide +kernel
theorem d_Proofs_init_4 : decode b_Proofs_init 4 = .ok (.aload_n 0, 1) := by decide +kernel
theorem d_Proofs_init_5 : decode b_Proofs_init 5 = .ok (.bipush 20, 2) := by decide +kernel
theorem d_Proofs_init_7 : decode b_Proofs_init 7 = .ok (.newarray .int, 2) := by decide +kernel
theorem d_Proofs_init_9 : decode b_Proofs_init 9 = .ok (.putfield 9, 3) := by decide +kernel
theorem d_Proofs_init_12 : decode b_Proofs_init 12 = .ok (.aload_n 0, 1) := by decide +kernel
theorem d_Proofs_init_13 : decode b_Proofs_init 13 = .ok (.bipush 20, 2) := by decide +kernel
theorem d_Proofs_init_15 : decode b_Proofs_init 15 = .ok (.newarray .int, 2) := by decide +kernel
theorem d_Proofs_init_17 : decode b_Proofs_init 17 = .ok (.putfield 15, 3) := by decide +kernel
theorem d_Proofs_init_20 : decode b_Proofs_init 20 = .ok (.aload_n 0, 1) := by decide +kernel
theorem d_Proofs_init_21 : decode b_Proofs_init 21 = .ok (.bipush 20, 2) := by decide +kernel
theorem d_Proofs_init_23 : decode b_Proofs_init 23 = .ok (.newarray .int, 2) := by decide +kernel
theorem d_Proofs_init_25 : decode b_Proofs_init 25 = .ok (.putfield 18, 3) := by decide +kernel
theorem d_Proofs_init_28 : decode b_Proofs_init 28 = .ok (.aload_n 0, 1) := by decide +kernel
theorem d_Proofs_init_29 : decode b_Proofs_init 29 = .ok (.iconst 0, 1) := by decide +kernel
theorem d_Proofs_init_30 : decode b_Proofs_init 30 = .ok (.putfield 21, 3) := by decide +kernel
theorem d_Proofs_init_33 : decode b_Proofs_init 33 = .ok (.return_, 1) := by decide +kernel
theorem d_Proofs_add_0 : decode b_Proofs_add 0 = .ok (.aload_n 0, 1) := by decide +kernel
theorem d_Proofs_add_1 : decode b_Proofs_add 1 = .ok (.getfield 9, 3) := by decide +kernel
theorem d_Proofs_add_4 : decode b_Proofs_add 4 = .ok (.aload_n 0, 1) := by decide +kernel
theorem d_Proofs_add_5 : decode b_Proofs_add 5 = .ok (.getfield 21, 3) := by decide +kernel
theorem d_Proofs_add_8 : decode b_Proofs_add 8 = .ok (.iload_n 1, 1) := by decide +kernel
theorem d_Proofs_add_9 : decode b_Proofs_add 9 = .ok (.iastore, 1) := by decide +kernel
theorem d_Proofs_add_10 : decode b_Proofs_add 10 = .ok (.aload_n 0, 1) := by decide +kernel
theorem d_Proofs_add_11 : decode b_Proofs_add 11 = .ok (.getfield 15, 3) := by decide +kernel
theorem d_Proofs_add_14 : decode b_Proofs_add 14 = .ok (.aload_n 0, 1) := by decide +kernel
theorem d_Proofs_add_15 : decode b_Proofs_add 15 = .ok (.getfield 21, 3) := by decide +kernel
theorem d_Proofs_add_18 : decode b_Proofs_add 18 = .ok (.iload_n 2, 1) := by decide +kernel
theorem d_Proofs_add_19 : decode b_Proofs_add 19 = .ok (.iastore, 1) := by decide +kernel
theorem d_Proofs_add_20 : decode b_Proofs_add 20 = .ok (.aload_n 0, 1) := by decide +kernel
theorem d_Proofs_add_21 : decode b_Proofs_add 21 = .ok (.getfield 18, 3) := by decide +kernel
theorem d_Proofs_add_24 : decode b_Proofs_add 24 = .ok (.aload_n 0, 1) := by decide +kernel
theorem d_Proofs_add_25 : decode b_Proofs_add 25 = .ok (.getfield 21, 3) := by decide +kernel
theorem d_Proofs_add_28 : decode b_Proofs_add 28 = .ok (.iload_n 3, 1) := by decide +kernel
theorem d_Proofs_add_29 : decode b_Proofs_add 29 = .ok (.iastore, 1) := by decide +kernel
theorem d_Proofs_add_30 : decode b_Proofs_add 30 = .ok (.aload_n 0, 1) := by decide +kernel
theorem d_Proofs_add_31 : decode b_Proofs_add 31 = .ok (.dup, 1) := by decide +kernel
theorem d_Proofs_add_32 : decode b_Proofs_add 32 = .ok (.getfield 21, 3) := by decide +kernel
theorem d_Proofs_add_35 : decode b_Proofs_add 35 = .ok (.iconst 1, 1) := by decide +kernel
theorem d_Proofs_add_36 : decode b_Proofs_add 36 = .ok (.iadd, 1) := by decide +kernel
theorem d_Proofs_add_37 : decode b_Proofs_add 37 = .ok (.putfield 21, 3) := by decide +kernel
theorem d_Proofs_add_40 : decode b_Proofs_add 40 = .ok (.aload_n 0, 1) := by decide +kernel
theorem d_Proofs_add_41 : decode b_Proofs_add 41 = .ok (.getfield 21, 3) := by decide +kernel
theorem d_Proofs_add_44 : decode b_Proofs_add 44 = .ok (.iconst 1, 1) := by decide +kernel
theorem d_Proofs_add_45 : decode b_Proofs_add 45 = .ok (.isub, 1) := by decide +kernel
theorem d_Proofs_add_46 : decode b_Proofs_add 46 = .ok (.ireturn, 1) := by decide +kernel
theorem d_Proofs_isGood_0 : decode b_Proofs_isGood 0 = .ok (.aload_n 0, 1) := by decide +kernel
theorem d_Proofs_isGood_1 : decode b_Proofs_isGood 1 = .ok (.getfield 9, 3) := by decide +kernel
theorem d_Proofs_isGood_4 : decode b_Proofs_isGood 4 = .ok (.iload_n 1, 1) := by decide +kernel
theorem d_Proofs_isGood_5 : decode b_Proofs_isGood 5 = .ok (.iaload, 1) := by decide +kernel
theorem d_Proofs_isGood_6 : decode b_Proofs_isGood 6 = .ok (.iconst 1, 1) := by decide +kernel
theorem d_Proofs_isGood_7 : decode b_Proofs_isGood 7 = .ok (.if_icmp .eq 11, 3) := by decide +kernel
theorem d_Proofs_isGood_10 : decode b_Proofs_isGood 10 = .ok (.lload_n 2, 1) := by decide +kernel
theorem d_Proofs_isGood_11 : decode b_Proofs_isGood 11 = .ok (.ldc2_w 25, 3) := by decide +kernel
theorem d_Proofs_isGood_14 : decode b_Proofs_isGood 14 = .ok (.lcmp, 1) := by decide +kernel
theorem d_Proofs_isGood_15 : decode b_Proofs_isGood 15 = .ok (.ifCond .gt 7, 3) := by decide +kernel
theorem d_Proofs_isGood_18 : decode b_Proofs_isGood 18 = .ok (.iconst 1, 1) := by decide +kernel
theorem d_Proofs_isGood_19 : decode b_Proofs_isGood 19 = .ok (.goto 4, 3) := by decide +kernel
theorem d_Proofs_isGood_22 : decode b_Proofs_isGood 22 = .ok (.iconst 0, 1) := by decide +kernel
theorem d_Proofs_isGood_23 : decode b_Proofs_isGood 23 = .ok (.istore 5, 2) := by decide +kernel
theorem d_Proofs_isGood_25 : decode b_Proofs_isGood 25 = .ok (.iload 5, 2) := by decide +kernel
theorem d_Proofs_isGood_27 : decode b_Proofs_isGood 27 = .ok (.ifCond .eq 29, 3) := by decide +kernel
theorem d_Proofs_isGood_30 : decode b_Proofs_isGood 30 = .ok (.iload 4, 2) := by decide +kernel
theorem d_Proofs_isGood_32 : decode b_Proofs_isGood 32 = .ok (.aload_n 0, 1) := by decide +kernel
theorem d_Proofs_isGood_33 : decode b_Proofs_isGood 33 = .ok (.getfield 15, 3) := by decide +kernel
theorem d_Proofs_isGood_36 : decode b_Proofs_isGood 36 = .ok (.iload_n 1, 1) := by decide +kernel
theorem d_Proofs_isGood_37 : decode b_Proofs_isGood 37 = .ok (.iaload, 1) := by decide +kernel
theorem d_Proofs_isGood_38 : decode b_Proofs_isGood 38 = .ok (.if_icmp .lt 18, 3) := by decide +kernel
theorem d_Proofs_isGood_41 : decode b_Proofs_isGood 41 = .ok (.iload 4, 2) := by decide +kernel
theorem d_Proofs_isGood_43 : decode b_Proofs_isGood 43 = .ok (.aload_n 0, 1) := by decide +kernel
theorem d_Proofs_isGood_44 : decode b_Proofs_isGood 44 = .ok (.getfield 18, 3) := by decide +kernel
theorem d_Proofs_isGood_47 : decode b_Proofs_isGood 47 = .ok (.iload_n 1, 1) := by decide +kernel
theorem d_Proofs_isGood_48 : decode b_Proofs_isGood 48 = .ok (.iaload, 1) := by decide +kernel
theorem d_Proofs_isGood_49 : decode b_Proofs_isGood 49 = .ok (.if_icmp .gt 7, 3) := by decide +kernel
theorem d_Proofs_isGood_52 : decode b_Proofs_isGood 52 = .ok (.iconst 1, 1) := by decide +kernel
theorem d_Proofs_isGood_53 : decode b_Proofs_isGood 53 = .ok (.goto 4, 3) := by decide +kernel
theorem d_Proofs_isGood_56 : decode b_Proofs_isGood 56 = .ok (.iconst 0, 1) := by decide +kernel
theorem d_Proofs_isGood_57 : decode b_Proofs_isGood 57 = .ok (.ireturn, 1) := by decide +kernel
end
section
theorem d_Md_init_0 : decode b_Md_init 0 = .ok (.aload_n 0, 1) := by decide +kernel
theorem d_Md_init_1 : decode b_Md_init 1 = .ok (.invokespecial 1, 3) := by decide +kernel
theorem d_Md_init_4 : decode b_Md_init 4 = .ok (.aload_n 0, 1) := by decide +kernel
theorem d_Md_init_5 : decode b_Md_init 5 = .ok (.sipush 300, 3) := by decide +kernel
theorem d_Md_init_8 : decode b_Md_init 8 = .ok (.newarray .int, 2) := by decide +kernel
theorem d_Md_init_10 : decode b_Md_init 10 = .ok (.putfield 7, 3) := by decide +kernel
theorem d_Md_init_13 : decode b_Md_init 13 = .ok (.aload_n 0, 1) := by decide +kernel
theorem d_Md_init_14 : decode b_Md_init 14 = .ok (.sipush 300, 3) := by decide +kernel
theorem d_Md_init_17 : decode b_Md_init 17 = .ok (.newarray .int, 2) := by decide +kernel
theorem d_Md_init_19 : decode b_Md_init 19 = .ok (.putfield 13, 3) := by decide +kernel
theorem d_Md_init_22 : decode b_Md_init 22 = .ok (.aload_n 0, 1) := by decide +kernel
theorem d_Md_init_23 : decode b_Md_init 23 = .ok (.bipush 21, 2) := by decide +kernel
theorem d_Md_init_25 : decode b_Md_init 25 = .ok (.newarray .int, 2) := by decide +kernel
theorem d_Md_init_27 : decode b_Md_init 27 = .ok (.putfield 16, 3) := by decide +kernel
theorem d_Md_init_30 : decode b_Md_init 30 = .ok (.aload_n 0, 1) := by decide +kernel
theorem d_Md_init_31 : decode b_Md_init 31 = .ok (.bipush 21, 2) := by decide +kernel
theorem d_Md_init_33 : decode b_Md_init 33 = .ok (.newarray .int, 2) := by decide +kernel
theorem d_Md_init_35 : decode b_Md_init 35 = .ok (.putfield 19, 3) := by decide +kernel
theorem d_Md_init_38 : decode b_Md_init 38 = .ok (.aload_n 0, 1) := by decide +kernel
theorem d_Md_init_39 : decode b_Md_init 39 = .ok (.bipush 12, 2) := by decide +kernel
theorem d_Md_init_41 : decode b_Md_init 41 = .ok (.newarray .int, 2) := by decide +kernel
theorem d_Md_init_43 : decode b_Md_init 43 = .ok (.putfield 22, 3) := by decide +kernel
theorem d_Md_init_46 : decode b_Md_init 46 = .ok (.aload_n 0, 1) := by decide +kernel
theorem d_Md_init_47 : decode b_Md_init 47 = .ok (.bipush 12, 2) := by decide +kernel
theorem d_Md_init_49 : decode b_Md_init 49 = .ok (.newarray .int, 2) := by decide +kernel
theorem d_Md_init_51 : decode b_Md_init 51 = .ok (.putfield 25, 3) := by decide +kernel
theorem d_Md_init_54 : decode b_Md_init 54 = .ok (.aload_n 0, 1) := by decide +kernel
theorem d_Md_init_55 : decode b_Md_init 55 = .ok (.bipush 12, 2) := by decide +kernel
theorem d_Md_init_57 : decode b_Md_init 57 = .ok (.newarray .long, 2) := by decide +kernel
theorem d_Md_init_59 : decode b_Md_init 59 = .ok (.putfield 28, 3) := by decide +kernel
theorem d_Md_init_62 : decode b_Md_init 62 = .ok (.aload_n 0, 1) := by decide +kernel
theorem d_Md_init_63 : decode b_Md_init 63 = .ok (.bipush 100, 2) := by decide +kernel
theorem d_Md_init_65 : decode b_Md_init 65 = .ok (.newarray .boolean, 2) := by decide +kernel
theorem d_Md_init_67 : decode b_Md_init 67 = .ok (.putfield 32, 3) := by decide +kernel
theorem d_Md_init_70 : decode b_Md_init 70 = .ok (.aload_n 0, 1) := by decide +kernel
theorem d_Md_init_71 : decode b_Md_init 71 = .ok (.iconst 1, 1) := by decide +kernel
theorem d_Md_init_72 : decode b_Md_init 72 = .ok (.putfield 36, 3) := by decide +kernel
theorem d_Md_init_75 : decode b_Md_init 75 = .ok (.aload_n 0, 1) := by decide +kernel
theorem d_Md_init_76 : decode b_Md_init 76 = .ok (.bipush 20, 2) := by decide +kernel
theorem d_Md_init_78 : decode b_Md_init 78 = .ok (.newarray .int, 2) := by decide +kernel
theorem d_Md_init_80 : decode b_Md_init 80 = .ok (.putfield 40, 3) := by decide +kernel
theorem d_Md_init_83 : decode b_Md_init 83 = .ok (.aload_n 0, 1) := by decide +kernel
theorem d_Md_init_84 : decode b_Md_init 84 = .ok (.bipush 20, 2) := by decide +kernel
theorem d_Md_init_86 : decode b_Md_init 86 = .ok (.newarray .int, 2) := by decide +kernel
theorem d_Md_init_88 : decode b_Md_init 88 = .ok (.putfield 43, 3) := by decide +kernel
theorem d_Md_init_91 : decode b_Md_init 91 = .ok (.aload_n 0, 1) := by decide +kernel
theorem d_Md_init_92 : decode b_Md_init 92 = .ok (.bipush 20, 2) := by decide +kernel
theorem d_Md_init_94 : decode b_Md_init 94 = .ok (.newarray .int, 2) := by decide +kernel
theorem d_Md_init_96 : decode b_Md_init 96 = .ok (.putfield 46, 3) := by decide +kernel
theorem d_Md_init_99 : decode b_Md_init 99 = .ok (.aload_n 0, 1) := by decide +kernel
theorem d_Md_init_100 : decode b_Md_init 100 = .ok (.sipush 300, 3) := by decide +kernel
theorem d_Md_init_103 : decode b_Md_init 103 = .ok (.newarray .int, 2) := by decide +kernel
theorem d_Md_init_105 : decode b_Md_init 105 = .ok (.putfield 49, 3) := by decide +kernel
theorem d_Md_init_108 : decode b_Md_init 108 = .ok (.aload_n 0, 1) := by decide +kernel
theorem d_Md_init_109 : decode b_Md_init 109 = .ok (.bipush 9, 2) := by decide +kernel
theorem d_Md_init_111 : decode b_Md_init 111 = .ok (.newarray .boolean, 2) := by decide +kernel
theorem d_Md_init_113 : decode b_Md_init 113 = .ok (.putfield 52, 3) := by decide +kernel
theorem d_Md_init_116 : decode b_Md_init 116 = .ok (.aload_n 0, 1) := by decide +kernel
theorem d_Md_init_117 : decode b_Md_init 117 = .ok (.bipush 9, 2) := by decide +kernel
theorem d_Md_init_119 : decode b_Md_init 119 = .ok (.newarray .boolean, 2) := by decide +kernel
theorem d_Md_init_121 : decode b_Md_init 121 = .ok (.putfield 55, 3) := by decide +kernel
theorem d_Md_init_124 : decode b_Md_init 124 = .ok (.aload_n 0, 1) := by decide +kernel
theorem d_Md_init_125 : decode b_Md_init 125 = .ok (.bipush 9, 2) := by decide +kernel
theorem d_Md_init_127 : decode b_Md_init 127 = .ok (.newarray .boolean, 2) := by decide +kernel
theorem d_Md_init_129 : decode b_Md_init 129 = .ok (.putfield 58, 3) := by decide +kernel
theorem d_Md_init_132 : decode b_Md_init 132 = .ok (.return_, 1) := by decide +kernel
theorem d_Md_thrown_0 : decode b_Md_thrown 0 = .ok (.aload_n 0, 1) := by decide +kernel
theorem d_Md_thrown_1 : decode b_Md_thrown 1 = .ok (.getfield 61, 3) := by decide +kernel
theorem d_Md_thrown_4 : decode b_Md_thrown 4 = .ok (.ireturn, 1) := by decide +kernel
theorem d_Md_refuse_0 : decode b_Md_refuse 0 = .ok (.aload_n 0, 1) := by decide +kernel
theorem d_Md_refuse_1 : decode b_Md_refuse 1 = .ok (.iload_n 1, 1) := by decide +kernel
theorem d_Md_refuse_2 : decode b_Md_refuse 2 = .ok (.putfield 61, 3) := by decide +kernel
theorem d_Md_refuse_5 : decode b_Md_refuse 5 = .ok (.iconst 0, 1) := by decide +kernel
theorem d_Md_refuse_6 : decode b_Md_refuse 6 = .ok (.ireturn, 1) := by decide +kernel
theorem d_Md_in_0 : decode b_Md_in 0 = .ok (.lload_n 0, 1) := by decide +kernel
theorem d_Md_in_1 : decode b_Md_in 1 = .ok (.lload_n 2, 1) := by decide +kernel
theorem d_Md_in_2 : decode b_Md_in 2 = .ok (.lcmp, 1) := by decide +kernel
theorem d_Md_in_3 : decode b_Md_in 3 = .ok (.ifCond .lt 14, 3) := by decide +kernel
theorem d_Md_in_6 : decode b_Md_in 6 = .ok (.lload_n 0, 1) := by decide +kernel
theorem d_Md_in_7 : decode b_Md_in 7 = .ok (.lload 4, 2) := by decide +kernel
theorem d_Md_in_9 : decode b_Md_in 9 = .ok (.lcmp, 1) := by decide +kernel
theorem d_Md_in_10 : decode b_Md_in 10 = .ok (.ifCond .gt 7, 3) := by decide +kernel
theorem d_Md_in_13 : decode b_Md_in 13 = .ok (.iconst 1, 1) := by decide +kernel
theorem d_Md_in_14 : decode b_Md_in 14 = .ok (.goto 4, 3) := by decide +kernel
theorem d_Md_in_17 : decode b_Md_in 17 = .ok (.iconst 0, 1) := by decide +kernel
theorem d_Md_in_18 : decode b_Md_in 18 = .ok (.ireturn, 1) := by decide +kernel
theorem d_Md_isDigit_0 : decode b_Md_isDigit 0 = .ok (.iload_n 0, 1) := by decide +kernel
theorem d_Md_isDigit_1 : decode b_Md_isDigit 1 = .ok (.bipush 48, 2) := by decide +kernel
theorem d_Md_isDigit_3 : decode b_Md_isDigit 3 = .ok (.if_icmp .lt 13, 3) := by decide +kernel
theorem d_Md_isDigit_6 : decode b_Md_isDigit 6 = .ok (.iload_n 0, 1) := by decide +kernel
theorem d_Md_isDigit_7 : decode b_Md_isDigit 7 = .ok (.bipush 57, 2) := by decide +kernel
theorem d_Md_isDigit_9 : decode b_Md_isDigit 9 = .ok (.if_icmp .gt 7, 3) := by decide +kernel
theorem d_Md_isDigit_12 : decode b_Md_isDigit 12 = .ok (.iconst 1, 1) := by decide +kernel
theorem d_Md_isDigit_13 : decode b_Md_isDigit 13 = .ok (.goto 4, 3) := by decide +kernel
theorem d_Md_isDigit_16 : decode b_Md_isDigit 16 = .ok (.iconst 0, 1) := by decide +kernel
theorem d_Md_isDigit_17 : decode b_Md_isDigit 17 = .ok (.ireturn, 1) := by decide +kernel
theorem d_Md_sign_0 : decode b_Md_sign 0 = .ok (.aload_n 0, 1) := by decide +kernel
theorem d_Md_sign_1 : decode b_Md_sign 1 = .ok (.iconst 0, 1) := by decide +kernel
theorem d_Md_sign_2 : decode b_Md_sign 2 = .ok (.putfield 61, 3) := by decide +kernel
theorem d_Md_sign_5 : decode b_Md_sign 5 = .ok (.iload_n 1, 1) := by decide +kernel
theorem d_Md_sign_6 : decode b_Md_sign 6 = .ok (.i2l, 1) := by decide +kernel
theorem d_Md_sign_7 : decode b_Md_sign 7 = .ok (.ldc2_w 64, 3) := by decide +kernel
theorem d_Md_sign_10 : decode b_Md_sign 10 = .ok (.ldc2_w 66, 3) := by decide +kernel
theorem d_Md_sign_13 : decode b_Md_sign 13 = .ok (.invokestatic 68, 3) := by decide +kernel
theorem d_Md_sign_16 : decode b_Md_sign 16 = .ok (.ifCond .eq 13, 3) := by decide +kernel
theorem d_Md_sign_19 : decode b_Md_sign 19 = .ok (.aload_n 0, 1) := by decide +kernel
theorem d_Md_sign_20 : decode b_Md_sign 20 = .ok (.getfield 72, 3) := by decide +kernel
theorem d_Md_sign_23 : decode b_Md_sign 23 = .ok (.sipush 300, 3) := by decide +kernel
theorem d_Md_sign_26 : decode b_Md_sign 26 = .ok (.if_icmp .ne 5, 3) := by decide +kernel
theorem d_Md_sign_29 : decode b_Md_sign 29 = .ok (.iconst 0, 1) := by decide +kernel
theorem d_Md_sign_30 : decode b_Md_sign 30 = .ok (.ireturn, 1) := by decide +kernel
theorem d_Md_sign_31 : decode b_Md_sign 31 = .ok (.aload_n 0, 1) := by decide +kernel
theorem d_Md_sign_32 : decode b_Md_sign 32 = .ok (.getfield 7, 3) := by decide +kernel
theorem d_Md_sign_35 : decode b_Md_sign 35 = .ok (.aload_n 0, 1) := by decide +kernel
theorem d_Md_sign_36 : decode b_Md_sign 36 = .ok (.getfield 72, 3) := by decide +kernel
theorem d_Md_sign_39 : decode b_Md_sign 39 = .ok (.iload_n 1, 1) := by decide +kernel
theorem d_Md_sign_40 : decode b_Md_sign 40 = .ok (.iastore, 1) := by decide +kernel
theorem d_Md_sign_41 : decode b_Md_sign 41 = .ok (.aload_n 0, 1) := by decide +kernel
theorem d_Md_sign_42 : decode b_Md_sign 42 = .ok (.dup, 1) := by decide +kernel
theorem d_Md_sign_43 : decode b_Md_sign 43 = .ok (.getfield 72, 3) := by decide +kernel
theorem d_Md_sign_46 : decode b_Md_sign 46 = .ok (.iconst 1, 1) := by decide +kernel
theorem d_Md_sign_47 : decode b_Md_sign 47 = .ok (.iadd, 1) := by decide +kernel
theorem d_Md_sign_48 : decode b_Md_sign 48 = .ok (.putfield 72, 3) := by decide +kernel
theorem d_Md_sign_51 : decode b_Md_sign 51 = .ok (.iconst 1, 1) := by decide +kernel
theorem d_Md_sign_52 : decode b_Md_sign 52 = .ok (.ireturn, 1) := by decide +kernel
theorem d_Md_behind_0 : decode b_Md_behind 0 = .ok (.iload_n 0, 1) := by decide +kernel
theorem d_Md_behind_1 : decode b_Md_behind 1 = .ok (.bipush 38, 2) := by decide +kernel
theorem d_Md_behind_3 : decode b_Md_behind 3 = .ok (.if_icmp .eq 9, 3) := by decide +kernel
theorem d_Md_behind_6 : decode b_Md_behind 6 = .ok (.iload_n 0, 1) := by decide +kernel
theorem d_Md_behind_7 : decode b_Md_behind 7 = .ok (.bipush 124, 2) := by decide +kernel
theorem d_Md_behind_9 : decode b_Md_behind 9 = .ok (.if_icmp .ne 7, 3) := by decide +kernel
theorem d_Md_behind_12 : decode b_Md_behind 12 = .ok (.iconst 2, 1) := by decide +kernel
theorem d_Md_behind_13 : decode b_Md_behind 13 = .ok (.goto 32, 3) := by decide +kernel
theorem d_Md_behind_16 : decode b_Md_behind 16 = .ok (.iload_n 0, 1) := by decide +kernel
theorem d_Md_behind_17 : decode b_Md_behind 17 = .ok (.bipush 41, 2) := by decide +kernel
theorem d_Md_behind_19 : decode b_Md_behind 19 = .ok (.if_icmp .ne 11, 3) := by decide +kernel
theorem d_Md_behind_22 : decode b_Md_behind 22 = .ok (.iload_n 1, 1) := by decide +kernel
theorem d_Md_behind_23 : decode b_Md_behind 23 = .ok (.ifCond .le 7, 3) := by decide +kernel
theorem d_Md_behind_26 : decode b_Md_behind 26 = .ok (.iconst 3, 1) := by decide +kernel
theorem d_Md_behind_27 : decode b_Md_behind 27 = .ok (.goto 18, 3) := by decide +kernel
theorem d_Md_behind_30 : decode b_Md_behind 30 = .ok (.iload_n 0, 1) := by decide +kernel
theorem d_Md_behind_31 : decode b_Md_behind 31 = .ok (.bipush 59, 2) := by decide +kernel
theorem d_Md_behind_33 : decode b_Md_behind 33 = .ok (.if_icmp .ne 11, 3) := by decide +kernel
theorem d_Md_behind_36 : decode b_Md_behind 36 = .ok (.iload_n 1, 1) := by decide +kernel
theorem d_Md_behind_37 : decode b_Md_behind 37 = .ok (.ifCond .ne 7, 3) := by decide +kernel
theorem d_Md_behind_40 : decode b_Md_behind 40 = .ok (.iconst 0, 1) := by decide +kernel
theorem d_Md_behind_41 : decode b_Md_behind 41 = .ok (.goto 4, 3) := by decide +kernel
theorem d_Md_behind_44 : decode b_Md_behind 44 = .ok (.iconst (-1), 1) := by decide +kernel
theorem d_Md_behind_45 : decode b_Md_behind 45 = .ok (.ireturn, 1) := by decide +kernel
theorem d_Md_ahead_0 : decode b_Md_ahead 0 = .ok (.iload_n 0, 1) := by decide +kernel
theorem d_Md_ahead_1 : decode b_Md_ahead 1 = .ok (.bipush 87, 2) := by decide +kernel
theorem d_Md_ahead_3 : decode b_Md_ahead 3 = .ok (.if_icmp .eq 21, 3) := by decide +kernel
theorem d_Md_ahead_6 : decode b_Md_ahead 6 = .ok (.iload_n 0, 1) := by decide +kernel
theorem d_Md_ahead_7 : decode b_Md_ahead 7 = .ok (.bipush 67, 2) := by decide +kernel
theorem d_Md_ahead_9 : decode b_Md_ahead 9 = .ok (.if_icmp .eq 15, 3) := by decide +kernel
theorem d_Md_ahead_12 : decode b_Md_ahead 12 = .ok (.iload_n 0, 1) := by decide +kernel
theorem d_Md_ahead_13 : decode b_Md_ahead 13 = .ok (.bipush 72, 2) := by decide +kernel
theorem d_Md_ahead_15 : decode b_Md_ahead 15 = .ok (.if_icmp .eq 9, 3) := by decide +kernel
theorem d_Md_ahead_18 : decode b_Md_ahead 18 = .ok (.iload_n 0, 1) := by decide +kernel
theorem d_Md_ahead_19 : decode b_Md_ahead 19 = .ok (.bipush 83, 2) := by decide +kernel
theorem d_Md_ahead_21 : decode b_Md_ahead 21 = .ok (.if_icmp .ne 5, 3) := by decide +kernel
theorem d_Md_ahead_24 : decode b_Md_ahead 24 = .ok (.iconst 3, 1) := by decide +kernel
theorem d_Md_ahead_25 : decode b_Md_ahead 25 = .ok (.ireturn, 1) := by decide +kernel
theorem d_Md_ahead_26 : decode b_Md_ahead 26 = .ok (.iload_n 0, 1) := by decide +kernel
theorem d_Md_ahead_27 : decode b_Md_ahead 27 = .ok (.bipush 86, 2) := by decide +kernel
theorem d_Md_ahead_29 : decode b_Md_ahead 29 = .ok (.if_icmp .ne 7, 3) := by decide +kernel
theorem d_Md_ahead_32 : decode b_Md_ahead 32 = .ok (.iconst 4, 1) := by decide +kernel
theorem d_Md_ahead_33 : decode b_Md_ahead 33 = .ok (.goto 30, 3) := by decide +kernel
theorem d_Md_ahead_36 : decode b_Md_ahead 36 = .ok (.iload_n 0, 1) := by decide +kernel
theorem d_Md_ahead_37 : decode b_Md_ahead 37 = .ok (.bipush 80, 2) := by decide +kernel
theorem d_Md_ahead_39 : decode b_Md_ahead 39 = .ok (.if_icmp .ne 7, 3) := by decide +kernel
theorem d_Md_ahead_42 : decode b_Md_ahead 42 = .ok (.iconst 5, 1) := by decide +kernel
theorem d_Md_ahead_43 : decode b_Md_ahead 43 = .ok (.goto 20, 3) := by decide +kernel
theorem d_Md_ahead_46 : decode b_Md_ahead 46 = .ok (.iload_n 0, 1) := by decide +kernel
theorem d_Md_ahead_47 : decode b_Md_ahead 47 = .ok (.bipush 40, 2) := by decide +kernel
theorem d_Md_ahead_49 : decode b_Md_ahead 49 = .ok (.if_icmp .ne 13, 3) := by decide +kernel
theorem d_Md_ahead_52 : decode b_Md_ahead 52 = .ok (.iload_n 1, 1) := by decide +kernel
theorem d_Md_ahead_53 : decode b_Md_ahead 53 = .ok (.bipush 8, 2) := by decide +kernel
theorem d_Md_ahead_55 : decode b_Md_ahead 55 = .ok (.if_icmp .ge 7, 3) := by decide +kernel
theorem d_Md_ahead_58 : decode b_Md_ahead 58 = .ok (.iconst 2, 1) := by decide +kernel
theorem d_Md_ahead_59 : decode b_Md_ahead 59 = .ok (.goto 4, 3) := by decide +kernel
theorem d_Md_ahead_62 : decode b_Md_ahead 62 = .ok (.iconst (-1), 1) := by decide +kernel
theorem d_Md_ahead_63 : decode b_Md_ahead 63 = .ok (.ireturn, 1) := by decide +kernel
theorem d_Md_read_0 : decode b_Md_read 0 = .ok (.aload_n 0, 1) := by decide +kernel
theorem d_Md_read_1 : decode b_Md_read 1 = .ok (.iconst 0, 1) := by decide +kernel
theorem d_Md_read_2 : decode b_Md_read 2 = .ok (.putfield 61, 3) := by decide +kernel
theorem d_Md_read_5 : decode b_Md_read 5 = .ok (.iconst 0, 1) := by decide +kernel
theorem d_Md_read_6 : decode b_Md_read 6 = .ok (.istore_n 1, 1) := by decide +kernel
theorem d_Md_read_7 : decode b_Md_read 7 = .ok (.iconst 0, 1) := by decide +kernel
theorem d_Md_read_8 : decode b_Md_read 8 = .ok (.istore_n 2, 1) := by decide +kernel
theorem d_Md_read_9 : decode b_Md_read 9 = .ok (.iconst 0, 1) := by decide +kernel
theorem d_Md_read_10 : decode b_Md_read 10 = .ok (.istore_n 3, 1) := by decide +kernel
theorem d_Md_read_11 : decode b_Md_read 11 = .ok (.iconst 0, 1) := by decide +kernel
theorem d_Md_read_12 : decode b_Md_read 12 = .ok (.istore 4, 2) := by decide +kernel
theorem d_Md_read_14 : decode b_Md_read 14 = .ok (.iconst 0, 1) := by decide +kernel
theorem d_Md_read_15 : decode b_Md_read 15 = .ok (.istore 5, 2) := by decide +kernel
theorem d_Md_read_17 : decode b_Md_read 17 = .ok (.iconst (-1), 1) := by decide +kernel
theorem d_Md_read_18 : decode b_Md_read 18 = .ok (.istore 6, 2) := by decide +kernel
theorem d_Md_read_20 : decode b_Md_read 20 = .ok (.iconst 0, 1) := by decide +kernel
theorem d_Md_read_21 : decode b_Md_read 21 = .ok (.istore 7, 2) := by decide +kernel
theorem d_Md_read_23 : decode b_Md_read 23 = .ok (.iload 7, 2) := by decide +kernel
theorem d_Md_read_25 : decode b_Md_read 25 = .ok (.aload_n 0, 1) := by decide +kernel
theorem d_Md_read_26 : decode b_Md_read 26 = .ok (.getfield 72, 3) := by decide +kernel
theorem d_Md_read_29 : decode b_Md_read 29 = .ok (.if_icmp .ge 296, 3) := by decide +kernel
theorem d_Md_read_32 : decode b_Md_read 32 = .ok (.iload 6, 2) := by decide +kernel
theorem d_Md_read_34 : decode b_Md_read 34 = .ok (.ifCond .ge 291, 3) := by decide +kernel
theorem d_Md_read_37 : decode b_Md_read 37 = .ok (.aload_n 0, 1) := by decide +kernel
theorem d_Md_read_38 : decode b_Md_read 38 = .ok (.getfield 7, 3) := by decide +kernel
theorem d_Md_read_41 : decode b_Md_read 41 = .ok (.iload 7, 2) := by decide +kernel
theorem d_Md_read_43 : decode b_Md_read 43 = .ok (.iaload, 1) := by decide +kernel
theorem d_Md_read_44 : decode b_Md_read 44 = .ok (.istore 8, 2) := by decide +kernel
theorem d_Md_read_46 : decode b_Md_read 46 = .ok (.iload 8, 2) := by decide +kernel
theorem d_Md_read_48 : decode b_Md_read 48 = .ok (.invokestatic 75, 3) := by decide +kernel
theorem d_Md_read_51 : decode b_Md_read 51 = .ok (.istore 9, 2) := by decide +kernel
theorem d_Md_read_53 : decode b_Md_read 53 = .ok (.iconst (-1), 1) := by decide +kernel
theorem d_Md_read_54 : decode b_Md_read 54 = .ok (.istore 10, 2) := by decide +kernel
theorem d_Md_read_56 : decode b_Md_read 56 = .ok (.iload_n 1, 1) := by decide +kernel
theorem d_Md_read_57 : decode b_Md_read 57 = .ok (.ifCond .ne 7, 3) := by decide +kernel
theorem d_Md_read_60 : decode b_Md_read 60 = .ok (.iconst 1, 1) := by decide +kernel
theorem d_Md_read_61 : decode b_Md_read 61 = .ok (.goto 4, 3) := by decide +kernel
theorem d_Md_read_64 : decode b_Md_read 64 = .ok (.iconst 0, 1) := by decide +kernel
theorem d_Md_read_65 : decode b_Md_read 65 = .ok (.istore 11, 2) := by decide +kernel
theorem d_Md_read_67 : decode b_Md_read 67 = .ok (.iload 11, 2) := by decide +kernel
theorem d_Md_read_69 : decode b_Md_read 69 = .ok (.ifCond .eq 36, 3) := by decide +kernel
theorem d_Md_read_72 : decode b_Md_read 72 = .ok (.aload_n 0, 1) := by decide +kernel
theorem d_Md_read_73 : decode b_Md_read 73 = .ok (.getfield 19, 3) := by decide +kernel
theorem d_Md_read_76 : decode b_Md_read 76 = .ok (.iload 5, 2) := by decide +kernel
theorem d_Md_read_78 : decode b_Md_read 78 = .ok (.iload 7, 2) := by decide +kernel
theorem d_Md_read_80 : decode b_Md_read 80 = .ok (.iastore, 1) := by decide +kernel
theorem d_Md_read_81 : decode b_Md_read 81 = .ok (.iload 9, 2) := by decide +kernel
theorem d_Md_read_83 : decode b_Md_read 83 = .ok (.ifCond .eq 14, 3) := by decide +kernel
theorem d_Md_read_86 : decode b_Md_read 86 = .ok (.iload 5, 2) := by decide +kernel
theorem d_Md_read_88 : decode b_Md_read 88 = .ok (.bipush 20, 2) := by decide +kernel
theorem d_Md_read_90 : decode b_Md_read 90 = .ok (.if_icmp .ge 7, 3) := by decide +kernel
theorem d_Md_read_93 : decode b_Md_read 93 = .ok (.iconst 1, 1) := by decide +kernel
theorem d_Md_read_94 : decode b_Md_read 94 = .ok (.goto 4, 3) := by decide +kernel
theorem d_Md_read_97 : decode b_Md_read 97 = .ok (.iconst (-1), 1) := by decide +kernel
theorem d_Md_read_98 : decode b_Md_read 98 = .ok (.istore 10, 2) := by decide +kernel
theorem d_Md_read_100 : decode b_Md_read 100 = .ok (.iconst 1, 1) := by decide +kernel
theorem d_Md_read_101 : decode b_Md_read 101 = .ok (.istore_n 3, 1) := by decide +kernel
theorem d_Md_read_102 : decode b_Md_read 102 = .ok (.goto 150, 3) := by decide +kernel
theorem d_Md_read_105 : decode b_Md_read 105 = .ok (.iload_n 1, 1) := by decide +kernel
theorem d_Md_read_106 : decode b_Md_read 106 = .ok (.iconst 1, 1) := by decide +kernel
theorem d_Md_read_107 : decode b_Md_read 107 = .ok (.if_icmp .ne 38, 3) := by decide +kernel
theorem d_Md_read_110 : decode b_Md_read 110 = .ok (.iload 9, 2) := by decide +kernel
theorem d_Md_read_112 : decode b_Md_read 112 = .ok (.ifCond .eq 13, 3) := by decide +kernel
theorem d_Md_read_115 : decode b_Md_read 115 = .ok (.iload_n 3, 1) := by decide +kernel
theorem d_Md_read_116 : decode b_Md_read 116 = .ok (.bipush 6, 2) := by decide +kernel
theorem d_Md_read_118 : decode b_Md_read 118 = .ok (.if_icmp .ge 7, 3) := by decide +kernel
theorem d_Md_read_121 : decode b_Md_read 121 = .ok (.iconst 1, 1) := by decide +kernel
theorem d_Md_read_122 : decode b_Md_read 122 = .ok (.goto 15, 3) := by decide +kernel
theorem d_Md_read_125 : decode b_Md_read 125 = .ok (.iload 8, 2) := by decide +kernel
theorem d_Md_read_127 : decode b_Md_read 127 = .ok (.bipush 58, 2) := by decide +kernel
theorem d_Md_read_129 : decode b_Md_read 129 = .ok (.if_icmp .ne 7, 3) := by decide +kernel
theorem d_Md_read_132 : decode b_Md_read 132 = .ok (.iconst 2, 1) := by decide +kernel
theorem d_Md_read_133 : decode b_Md_read 133 = .ok (.goto 4, 3) := by decide +kernel
theorem d_Md_read_136 : decode b_Md_read 136 = .ok (.iconst (-1), 1) := by decide +kernel
theorem d_Md_read_137 : decode b_Md_read 137 = .ok (.istore 10, 2) := by decide +kernel
theorem d_Md_read_139 : decode b_Md_read 139 = .ok (.iinc 3 1, 3) := by decide +kernel
theorem d_Md_read_142 : decode b_Md_read 142 = .ok (.goto 110, 3) := by decide +kernel
theorem d_Md_read_145 : decode b_Md_read 145 = .ok (.iload_n 1, 1) := by decide +kernel
theorem d_Md_read_146 : decode b_Md_read 146 = .ok (.iconst 2, 1) := by decide +kernel
theorem d_Md_read_147 : decode b_Md_read 147 = .ok (.if_icmp .ne 19, 3) := by decide +kernel
theorem d_Md_read_150 : decode b_Md_read 150 = .ok (.iload 8, 2) := by decide +kernel
theorem d_Md_read_152 : decode b_Md_read 152 = .ok (.iload_n 2, 1) := by decide +kernel
theorem d_Md_read_153 : decode b_Md_read 153 = .ok (.invokestatic 79, 3) := by decide +kernel
theorem d_Md_read_156 : decode b_Md_read 156 = .ok (.istore 10, 2) := by decide +kernel
theorem d_Md_read_158 : decode b_Md_read 158 = .ok (.iconst 0, 1) := by decide +kernel
theorem d_Md_read_159 : decode b_Md_read 159 = .ok (.istore_n 3, 1) := by decide +kernel
theorem d_Md_read_160 : decode b_Md_read 160 = .ok (.iconst 0, 1) := by decide +kernel
theorem d_Md_read_161 : decode b_Md_read 161 = .ok (.istore 4, 2) := by decide +kernel
theorem d_Md_read_163 : decode b_Md_read 163 = .ok (.goto 89, 3) := by decide +kernel
theorem d_Md_read_166 : decode b_Md_read 166 = .ok (.iload_n 1, 1) := by decide +kernel
theorem d_Md_read_167 : decode b_Md_read 167 = .ok (.iconst 3, 1) := by decide +kernel
theorem d_Md_read_168 : decode b_Md_read 168 = .ok (.if_icmp .ne 14, 3) := by decide +kernel
theorem d_Md_read_171 : decode b_Md_read 171 = .ok (.iload 8, 2) := by decide +kernel
theorem d_Md_read_173 : decode b_Md_read 173 = .ok (.iload_n 2, 1) := by decide +kernel
theorem d_Md_read_174 : decode b_Md_read 174 = .ok (.invokestatic 83, 3) := by decide +kernel
theorem d_Md_read_177 : decode b_Md_read 177 = .ok (.istore 10, 2) := by decide +kernel
theorem d_Md_read_179 : decode b_Md_read 179 = .ok (.goto 73, 3) := by decide +kernel
theorem d_Md_read_182 : decode b_Md_read 182 = .ok (.iload 9, 2) := by decide +kernel
theorem d_Md_read_184 : decode b_Md_read 184 = .ok (.ifCond .eq 39, 3) := by decide +kernel
theorem d_Md_read_187 : decode b_Md_read 187 = .ok (.iload_n 3, 1) := by decide +kernel
theorem d_Md_read_188 : decode b_Md_read 188 = .ok (.iload_n 1, 1) := by decide +kernel
theorem d_Md_read_189 : decode b_Md_read 189 = .ok (.iconst 4, 1) := by decide +kernel
theorem d_Md_read_190 : decode b_Md_read 190 = .ok (.if_icmp .ne 7, 3) := by decide +kernel
theorem d_Md_read_193 : decode b_Md_read 193 = .ok (.iconst 3, 1) := by decide +kernel
theorem d_Md_read_194 : decode b_Md_read 194 = .ok (.goto 4, 3) := by decide +kernel
theorem d_Md_read_197 : decode b_Md_read 197 = .ok (.iconst 2, 1) := by decide +kernel
theorem d_Md_read_198 : decode b_Md_read 198 = .ok (.if_icmp .ge 25, 3) := by decide +kernel
theorem d_Md_read_201 : decode b_Md_read 201 = .ok (.iload_n 1, 1) := by decide +kernel
theorem d_Md_read_202 : decode b_Md_read 202 = .ok (.istore 10, 2) := by decide +kernel
theorem d_Md_read_204 : decode b_Md_read 204 = .ok (.iinc 3 1, 3) := by decide +kernel
theorem d_Md_read_207 : decode b_Md_read 207 = .ok (.bipush 10, 2) := by decide +kernel
theorem d_Md_read_209 : decode b_Md_read 209 = .ok (.iload 4, 2) := by decide +kernel
theorem d_Md_read_211 : decode b_Md_read 211 = .ok (.imul, 1) := by decide +kernel
theorem d_Md_read_212 : decode b_Md_read 212 = .ok (.iload 8, 2) := by decide +kernel
theorem d_Md_read_214 : decode b_Md_read 214 = .ok (.iadd, 1) := by decide +kernel
theorem d_Md_read_215 : decode b_Md_read 215 = .ok (.bipush 48, 2) := by decide +kernel
theorem d_Md_read_217 : decode b_Md_read 217 = .ok (.isub, 1) := by decide +kernel
theorem d_Md_read_218 : decode b_Md_read 218 = .ok (.istore 4, 2) := by decide +kernel
theorem d_Md_read_220 : decode b_Md_read 220 = .ok (.goto 32, 3) := by decide +kernel
theorem d_Md_read_223 : decode b_Md_read 223 = .ok (.iload_n 3, 1) := by decide +kernel
theorem d_Md_read_224 : decode b_Md_read 224 = .ok (.ifCond .le 28, 3) := by decide +kernel
theorem d_Md_read_227 : decode b_Md_read 227 = .ok (.iload 4, 2) := by decide +kernel
theorem d_Md_read_229 : decode b_Md_read 229 = .ok (.iload_n 1, 1) := by decide +kernel
theorem d_Md_read_230 : decode b_Md_read 230 = .ok (.iconst 4, 1) := by decide +kernel
theorem d_Md_read_231 : decode b_Md_read 231 = .ok (.if_icmp .ne 8, 3) := by decide +kernel
theorem d_Md_read_234 : decode b_Md_read 234 = .ok (.bipush 100, 2) := by decide +kernel
theorem d_Md_read_236 : decode b_Md_read 236 = .ok (.goto 5, 3) := by decide +kernel
theorem d_Md_read_239 : decode b_Md_read 239 = .ok (.bipush 15, 2) := by decide +kernel
theorem d_Md_read_241 : decode b_Md_read 241 = .ok (.if_icmp .gt 11, 3) := by decide +kernel
theorem d_Md_read_244 : decode b_Md_read 244 = .ok (.iload 8, 2) := by decide +kernel
theorem d_Md_read_246 : decode b_Md_read 246 = .ok (.iload_n 2, 1) := by decide +kernel
theorem d_Md_read_247 : decode b_Md_read 247 = .ok (.invokestatic 83, 3) := by decide +kernel
theorem d_Md_read_250 : decode b_Md_read 250 = .ok (.istore 10, 2) := by decide +kernel
theorem d_Md_read_252 : decode b_Md_read 252 = .ok (.iload 10, 2) := by decide +kernel
theorem d_Md_read_254 : decode b_Md_read 254 = .ok (.ifCond .ge 8, 3) := by decide +kernel
theorem d_Md_read_257 : decode b_Md_read 257 = .ok (.iload 7, 2) := by decide +kernel
theorem d_Md_read_259 : decode b_Md_read 259 = .ok (.goto 5, 3) := by decide +kernel
theorem d_Md_read_262 : decode b_Md_read 262 = .ok (.iload 6, 2) := by decide +kernel
theorem d_Md_read_264 : decode b_Md_read 264 = .ok (.istore 6, 2) := by decide +kernel
theorem d_Md_read_266 : decode b_Md_read 266 = .ok (.iload_n 2, 1) := by decide +kernel
theorem d_Md_read_267 : decode b_Md_read 267 = .ok (.iload 8, 2) := by decide +kernel
theorem d_Md_read_269 : decode b_Md_read 269 = .ok (.bipush 40, 2) := by decide +kernel
theorem d_Md_read_271 : decode b_Md_read 271 = .ok (.if_icmp .ne 7, 3) := by decide +kernel
theorem d_Md_read_274 : decode b_Md_read 274 = .ok (.iconst 1, 1) := by decide +kernel
theorem d_Md_read_275 : decode b_Md_read 275 = .ok (.goto 15, 3) := by decide +kernel
theorem d_Md_read_278 : decode b_Md_read 278 = .ok (.iload 8, 2) := by decide +kernel
theorem d_Md_read_280 : decode b_Md_read 280 = .ok (.bipush 41, 2) := by decide +kernel
theorem d_Md_read_282 : decode b_Md_read 282 = .ok (.if_icmp .ne 7, 3) := by decide +kernel
theorem d_Md_read_285 : decode b_Md_read 285 = .ok (.iconst (-1), 1) := by decide +kernel
theorem d_Md_read_286 : decode b_Md_read 286 = .ok (.goto 4, 3) := by decide +kernel
theorem d_Md_read_289 : decode b_Md_read 289 = .ok (.iconst 0, 1) := by decide +kernel
theorem d_Md_read_290 : decode b_Md_read 290 = .ok (.iadd, 1) := by decide +kernel
theorem d_Md_read_291 : decode b_Md_read 291 = .ok (.istore_n 2, 1) := by decide +kernel
theorem d_Md_read_292 : decode b_Md_read 292 = .ok (.iload 5, 2) := by decide +kernel
theorem d_Md_read_294 : decode b_Md_read 294 = .ok (.iload 10, 2) := by decide +kernel
theorem d_Md_read_296 : decode b_Md_read 296 = .ok (.ifCond .ne 7, 3) := by decide +kernel
theorem d_Md_read_299 : decode b_Md_read 299 = .ok (.iconst 1, 1) := by decide +kernel
theorem d_Md_read_300 : decode b_Md_read 300 = .ok (.goto 4, 3) := by decide +kernel
theorem d_Md_read_303 : decode b_Md_read 303 = .ok (.iconst 0, 1) := by decide +kernel
theorem d_Md_read_304 : decode b_Md_read 304 = .ok (.iadd, 1) := by decide +kernel
theorem d_Md_read_305 : decode b_Md_read 305 = .ok (.istore 5, 2) := by decide +kernel
theorem d_Md_read_307 : decode b_Md_read 307 = .ok (.iload 10, 2) := by decide +kernel
theorem d_Md_read_309 : decode b_Md_read 309 = .ok (.ifCond .ge 7, 3) := by decide +kernel
theorem d_Md_read_312 : decode b_Md_read 312 = .ok (.iload_n 1, 1) := by decide +kernel
theorem d_Md_read_313 : decode b_Md_read 313 = .ok (.goto 5, 3) := by decide +kernel
theorem d_Md_read_316 : decode b_Md_read 316 = .ok (.iload 10, 2) := by decide +kernel
theorem d_Md_read_318 : decode b_Md_read 318 = .ok (.istore_n 1, 1) := by decide +kernel
theorem d_Md_read_319 : decode b_Md_read 319 = .ok (.iinc 7 1, 3) := by decide +kernel
theorem d_Md_read_322 : decode b_Md_read 322 = .ok (.goto (-299), 3) := by decide +kernel
theorem d_Md_read_325 : decode b_Md_read 325 = .ok (.iload 6, 2) := by decide +kernel
theorem d_Md_read_327 : decode b_Md_read 327 = .ok (.ifCond .ge 19, 3) := by decide +kernel
theorem d_Md_read_330 : decode b_Md_read 330 = .ok (.iload_n 1, 1) := by decide +kernel
theorem d_Md_read_331 : decode b_Md_read 331 = .ok (.ifCond .ne 8, 3) := by decide +kernel
theorem d_Md_read_334 : decode b_Md_read 334 = .ok (.iload 5, 2) := by decide +kernel
theorem d_Md_read_336 : decode b_Md_read 336 = .ok (.ifCond .ne 10, 3) := by decide +kernel
theorem d_Md_read_339 : decode b_Md_read 339 = .ok (.aload_n 0, 1) := by decide +kernel
theorem d_Md_read_340 : decode b_Md_read 340 = .ok (.getfield 72, 3) := by decide +kernel
theorem d_Md_read_343 : decode b_Md_read 343 = .ok (.goto 5, 3) := by decide +kernel
theorem d_Md_read_346 : decode b_Md_read 346 = .ok (.iload 6, 2) := by decide +kernel
theorem d_Md_read_348 : decode b_Md_read 348 = .ok (.istore 6, 2) := by decide +kernel
theorem d_Md_read_350 : decode b_Md_read 350 = .ok (.iload 6, 2) := by decide +kernel
theorem d_Md_read_352 : decode b_Md_read 352 = .ok (.ifCond .ge 82, 3) := by decide +kernel
theorem d_Md_read_355 : decode b_Md_read 355 = .ok (.aload_n 0, 1) := by decide +kernel
theorem d_Md_read_356 : decode b_Md_read 356 = .ok (.iload 5, 2) := by decide +kernel
theorem d_Md_read_358 : decode b_Md_read 358 = .ok (.putfield 86, 3) := by decide +kernel
theorem d_Md_read_361 : decode b_Md_read 361 = .ok (.iconst 0, 1) := by decide +kernel
theorem d_Md_read_362 : decode b_Md_read 362 = .ok (.istore 7, 2) := by decide +kernel
theorem d_Md_read_364 : decode b_Md_read 364 = .ok (.iload 7, 2) := by decide +kernel
theorem d_Md_read_366 : decode b_Md_read 366 = .ok (.aload_n 0, 1) := by decide +kernel
theorem d_Md_read_367 : decode b_Md_read 367 = .ok (.getfield 72, 3) := by decide +kernel
theorem d_Md_read_370 : decode b_Md_read 370 = .ok (.if_icmp .ge 23, 3) := by decide +kernel
theorem d_Md_read_373 : decode b_Md_read 373 = .ok (.aload_n 0, 1) := by decide +kernel
theorem d_Md_read_374 : decode b_Md_read 374 = .ok (.getfield 13, 3) := by decide +kernel
theorem d_Md_read_377 : decode b_Md_read 377 = .ok (.iload 7, 2) := by decide +kernel
theorem d_Md_read_379 : decode b_Md_read 379 = .ok (.aload_n 0, 1) := by decide +kernel
theorem d_Md_read_380 : decode b_Md_read 380 = .ok (.getfield 7, 3) := by decide +kernel
theorem d_Md_read_383 : decode b_Md_read 383 = .ok (.iload 7, 2) := by decide +kernel
theorem d_Md_read_385 : decode b_Md_read 385 = .ok (.iaload, 1) := by decide +kernel
theorem d_Md_read_386 : decode b_Md_read 386 = .ok (.iastore, 1) := by decide +kernel
theorem d_Md_read_387 : decode b_Md_read 387 = .ok (.iinc 7 1, 3) := by decide +kernel
theorem d_Md_read_390 : decode b_Md_read 390 = .ok (.goto (-26), 3) := by decide +kernel
theorem d_Md_read_393 : decode b_Md_read 393 = .ok (.aload_n 0, 1) := by decide +kernel
theorem d_Md_read_394 : decode b_Md_read 394 = .ok (.getfield 19, 3) := by decide +kernel
theorem d_Md_read_397 : decode b_Md_read 397 = .ok (.iload 5, 2) := by decide +kernel
theorem d_Md_read_399 : decode b_Md_read 399 = .ok (.aload_n 0, 1) := by decide +kernel
theorem d_Md_read_400 : decode b_Md_read 400 = .ok (.getfield 72, 3) := by decide +kernel
theorem d_Md_read_403 : decode b_Md_read 403 = .ok (.iastore, 1) := by decide +kernel
theorem d_Md_read_404 : decode b_Md_read 404 = .ok (.iconst 0, 1) := by decide +kernel
theorem d_Md_read_405 : decode b_Md_read 405 = .ok (.istore 7, 2) := by decide +kernel
theorem d_Md_read_407 : decode b_Md_read 407 = .ok (.iload 7, 2) := by decide +kernel
theorem d_Md_read_409 : decode b_Md_read 409 = .ok (.iload 5, 2) := by decide +kernel
theorem d_Md_read_411 : decode b_Md_read 411 = .ok (.if_icmp .gt 23, 3) := by decide +kernel
theorem d_Md_read_414 : decode b_Md_read 414 = .ok (.aload_n 0, 1) := by decide +kernel
theorem d_Md_read_415 : decode b_Md_read 415 = .ok (.getfield 16, 3) := by decide +kernel
theorem d_Md_read_418 : decode b_Md_read 418 = .ok (.iload 7, 2) := by decide +kernel
theorem d_Md_read_420 : decode b_Md_read 420 = .ok (.aload_n 0, 1) := by decide +kernel
theorem d_Md_read_421 : decode b_Md_read 421 = .ok (.getfield 19, 3) := by decide +kernel
theorem d_Md_read_424 : decode b_Md_read 424 = .ok (.iload 7, 2) := by decide +kernel
theorem d_Md_read_426 : decode b_Md_read 426 = .ok (.iaload, 1) := by decide +kernel
theorem d_Md_read_427 : decode b_Md_read 427 = .ok (.iastore, 1) := by decide +kernel
theorem d_Md_read_428 : decode b_Md_read 428 = .ok (.iinc 7 1, 3) := by decide +kernel
theorem d_Md_read_431 : decode b_Md_read 431 = .ok (.goto (-24), 3) := by decide +kernel
theorem d_Md_read_434 : decode b_Md_read 434 = .ok (.aload_n 0, 1) := by decide +kernel
theorem d_Md_read_435 : decode b_Md_read 435 = .ok (.iconst 0, 1) := by decide +kernel
theorem d_Md_read_436 : decode b_Md_read 436 = .ok (.putfield 72, 3) := by decide +kernel
theorem d_Md_read_439 : decode b_Md_read 439 = .ok (.iload 6, 2) := by decide +kernel
theorem d_Md_read_441 : decode b_Md_read 441 = .ok (.ifCond .ge 8, 3) := by decide +kernel
theorem d_Md_read_444 : decode b_Md_read 444 = .ok (.iload 5, 2) := by decide +kernel
theorem d_Md_read_446 : decode b_Md_read 446 = .ok (.goto 7, 3) := by decide +kernel
theorem d_Md_read_449 : decode b_Md_read 449 = .ok (.iconst (-1), 1) := by decide +kernel
theorem d_Md_read_450 : decode b_Md_read 450 = .ok (.iload 6, 2) := by decide +kernel
theorem d_Md_read_452 : decode b_Md_read 452 = .ok (.isub, 1) := by decide +kernel
theorem d_Md_read_453 : decode b_Md_read 453 = .ok (.ireturn, 1) := by decide +kernel
theorem d_Md_begin_0 : decode b_Md_begin 0 = .ok (.iconst 0, 1) := by decide +kernel
theorem d_Md_begin_1 : decode b_Md_begin 1 = .ok (.istore_n 3, 1) := by decide +kernel
theorem d_Md_begin_2 : decode b_Md_begin 2 = .ok (.ldc 89, 2) := by decide +kernel
theorem d_Md_begin_4 : decode b_Md_begin 4 = .ok (.istore 4, 2) := by decide +kernel
theorem d_Md_begin_6 : decode b_Md_begin 6 = .ok (.iconst 1, 1) := by decide +kernel
theorem d_Md_begin_7 : decode b_Md_begin 7 = .ok (.istore 5, 2) := by decide +kernel
theorem d_Md_begin_9 : decode b_Md_begin 9 = .ok (.aload_n 0, 1) := by decide +kernel
theorem d_Md_begin_10 : decode b_Md_begin 10 = .ok (.getfield 16, 3) := by decide +kernel
theorem d_Md_begin_13 : decode b_Md_begin 13 = .ok (.iload_n 1, 1) := by decide +kernel
theorem d_Md_begin_14 : decode b_Md_begin 14 = .ok (.iaload, 1) := by decide +kernel
theorem d_Md_begin_15 : decode b_Md_begin 15 = .ok (.istore 6, 2) := by decide +kernel
theorem d_Md_begin_17 : decode b_Md_begin 17 = .ok (.aload_n 0, 1) := by decide +kernel
theorem d_Md_begin_18 : decode b_Md_begin 18 = .ok (.getfield 13, 3) := by decide +kernel
theorem d_Md_begin_21 : decode b_Md_begin 21 = .ok (.iload 6, 2) := by decide +kernel
theorem d_Md_begin_23 : decode b_Md_begin 23 = .ok (.iaload, 1) := by decide +kernel
theorem d_Md_begin_24 : decode b_Md_begin 24 = .ok (.bipush 58, 2) := by decide +kernel
theorem d_Md_begin_26 : decode b_Md_begin 26 = .ok (.if_icmp .eq 51, 3) := by decide +kernel
theorem d_Md_begin_29 : decode b_Md_begin 29 = .ok (.iload 5, 2) := by decide +kernel
theorem d_Md_begin_31 : decode b_Md_begin 31 = .ok (.ifCond .eq 27, 3) := by decide +kernel
theorem d_Md_begin_34 : decode b_Md_begin 34 = .ok (.aload_n 0, 1) := by decide +kernel
theorem d_Md_begin_35 : decode b_Md_begin 35 = .ok (.getfield 13, 3) := by decide +kernel
theorem d_Md_begin_38 : decode b_Md_begin 38 = .ok (.iload 6, 2) := by decide +kernel
theorem d_Md_begin_40 : decode b_Md_begin 40 = .ok (.iaload, 1) := by decide +kernel
theorem d_Md_begin_41 : decode b_Md_begin 41 = .ok (.bipush 48, 2) := by decide +kernel
theorem d_Md_begin_43 : decode b_Md_begin 43 = .ok (.isub, 1) := by decide +kernel
theorem d_Md_begin_44 : decode b_Md_begin 44 = .ok (.iload_n 2, 1) := by decide +kernel
theorem d_Md_begin_45 : decode b_Md_begin 45 = .ok (.iload 4, 2) := by decide +kernel
theorem d_Md_begin_47 : decode b_Md_begin 47 = .ok (.idiv, 1) := by decide +kernel
theorem d_Md_begin_48 : decode b_Md_begin 48 = .ok (.bipush 10, 2) := by decide +kernel
theorem d_Md_begin_50 : decode b_Md_begin 50 = .ok (.irem, 1) := by decide +kernel
theorem d_Md_begin_51 : decode b_Md_begin 51 = .ok (.if_icmp .ne 7, 3) := by decide +kernel
theorem d_Md_begin_54 : decode b_Md_begin 54 = .ok (.iconst 1, 1) := by decide +kernel
theorem d_Md_begin_55 : decode b_Md_begin 55 = .ok (.goto 4, 3) := by decide +kernel
theorem d_Md_begin_58 : decode b_Md_begin 58 = .ok (.iconst 0, 1) := by decide +kernel
theorem d_Md_begin_59 : decode b_Md_begin 59 = .ok (.istore 5, 2) := by decide +kernel
theorem d_Md_begin_61 : decode b_Md_begin 61 = .ok (.iload 4, 2) := by decide +kernel
theorem d_Md_begin_63 : decode b_Md_begin 63 = .ok (.bipush 10, 2) := by decide +kernel
theorem d_Md_begin_65 : decode b_Md_begin 65 = .ok (.idiv, 1) := by decide +kernel
theorem d_Md_begin_66 : decode b_Md_begin 66 = .ok (.istore 4, 2) := by decide +kernel
theorem d_Md_begin_68 : decode b_Md_begin 68 = .ok (.iinc 3 1, 3) := by decide +kernel
theorem d_Md_begin_71 : decode b_Md_begin 71 = .ok (.iinc 6 1, 3) := by decide +kernel
theorem d_Md_begin_74 : decode b_Md_begin 74 = .ok (.goto (-57), 3) := by decide +kernel
theorem d_Md_begin_77 : decode b_Md_begin 77 = .ok (.iload 5, 2) := by decide +kernel
theorem d_Md_begin_79 : decode b_Md_begin 79 = .ok (.ifCond .eq 7, 3) := by decide +kernel
theorem d_Md_begin_82 : decode b_Md_begin 82 = .ok (.iload_n 3, 1) := by decide +kernel
theorem d_Md_begin_83 : decode b_Md_begin 83 = .ok (.goto 4, 3) := by decide +kernel
theorem d_Md_begin_86 : decode b_Md_begin 86 = .ok (.iconst 0, 1) := by decide +kernel
theorem d_Md_begin_87 : decode b_Md_begin 87 = .ok (.ireturn, 1) := by decide +kernel
theorem d_Md_rowOf_0 : decode b_Md_rowOf 0 = .ok (.iconst (-1), 1) := by decide +kernel
theorem d_Md_rowOf_1 : decode b_Md_rowOf 1 = .ok (.istore_n 2, 1) := by decide +kernel
theorem d_Md_rowOf_2 : decode b_Md_rowOf 2 = .ok (.iconst 1, 1) := by decide +kernel
theorem d_Md_rowOf_3 : decode b_Md_rowOf 3 = .ok (.istore_n 3, 1) := by decide +kernel
theorem d_Md_rowOf_4 : decode b_Md_rowOf 4 = .ok (.iconst 0, 1) := by decide +kernel
theorem d_Md_rowOf_5 : decode b_Md_rowOf 5 = .ok (.istore 4, 2) := by decide +kernel
theorem d_Md_rowOf_7 : decode b_Md_rowOf 7 = .ok (.iload 4, 2) := by decide +kernel
theorem d_Md_rowOf_9 : decode b_Md_rowOf 9 = .ok (.aload_n 0, 1) := by decide +kernel
theorem d_Md_rowOf_10 : decode b_Md_rowOf 10 = .ok (.getfield 86, 3) := by decide +kernel
theorem d_Md_rowOf_13 : decode b_Md_rowOf 13 = .ok (.if_icmp .ge 44, 3) := by decide +kernel
theorem d_Md_rowOf_16 : decode b_Md_rowOf 16 = .ok (.aload_n 0, 1) := by decide +kernel
theorem d_Md_rowOf_17 : decode b_Md_rowOf 17 = .ok (.iload 4, 2) := by decide +kernel
theorem d_Md_rowOf_19 : decode b_Md_rowOf 19 = .ok (.iload_n 1, 1) := by decide +kernel
theorem d_Md_rowOf_20 : decode b_Md_rowOf 20 = .ok (.invokevirtual 90, 3) := by decide +kernel
theorem d_Md_rowOf_23 : decode b_Md_rowOf 23 = .ok (.istore 5, 2) := by decide +kernel
theorem d_Md_rowOf_25 : decode b_Md_rowOf 25 = .ok (.iload 5, 2) := by decide +kernel
theorem d_Md_rowOf_27 : decode b_Md_rowOf 27 = .ok (.iload_n 3, 1) := by decide +kernel
theorem d_Md_rowOf_28 : decode b_Md_rowOf 28 = .ok (.if_icmp .lt 8, 3) := by decide +kernel
theorem d_Md_rowOf_31 : decode b_Md_rowOf 31 = .ok (.iload 4, 2) := by decide +kernel
theorem d_Md_rowOf_33 : decode b_Md_rowOf 33 = .ok (.goto 4, 3) := by decide +kernel
theorem d_Md_rowOf_36 : decode b_Md_rowOf 36 = .ok (.iload_n 2, 1) := by decide +kernel
theorem d_Md_rowOf_37 : decode b_Md_rowOf 37 = .ok (.istore_n 2, 1) := by decide +kernel
theorem d_Md_rowOf_38 : decode b_Md_rowOf 38 = .ok (.iload 5, 2) := by decide +kernel
theorem d_Md_rowOf_40 : decode b_Md_rowOf 40 = .ok (.iload_n 3, 1) := by decide +kernel
theorem d_Md_rowOf_41 : decode b_Md_rowOf 41 = .ok (.if_icmp .lt 8, 3) := by decide +kernel
theorem d_Md_rowOf_44 : decode b_Md_rowOf 44 = .ok (.iload 5, 2) := by decide +kernel
theorem d_Md_rowOf_46 : decode b_Md_rowOf 46 = .ok (.goto 4, 3) := by decide +kernel
theorem d_Md_rowOf_49 : decode b_Md_rowOf 49 = .ok (.iload_n 3, 1) := by decide +kernel
theorem d_Md_rowOf_50 : decode b_Md_rowOf 50 = .ok (.istore_n 3, 1) := by decide +kernel
theorem d_Md_rowOf_51 : decode b_Md_rowOf 51 = .ok (.iinc 4 1, 3) := by decide +kernel
theorem d_Md_rowOf_54 : decode b_Md_rowOf 54 = .ok (.goto (-47), 3) := by decide +kernel
theorem d_Md_rowOf_57 : decode b_Md_rowOf 57 = .ok (.iload_n 2, 1) := by decide +kernel
theorem d_Md_rowOf_58 : decode b_Md_rowOf 58 = .ok (.ireturn, 1) := by decide +kernel
theorem d_Md_part_0 : decode b_Md_part 0 = .ok (.iload_n 1, 1) := by decide +kernel
theorem d_Md_part_1 : decode b_Md_part 1 = .ok (.i2l, 1) := by decide +kernel
theorem d_Md_part_2 : decode b_Md_part 2 = .ok (.lconst 1, 1) := by decide +kernel
theorem d_Md_part_3 : decode b_Md_part 3 = .ok (.ldc2_w 93, 3) := by decide +kernel
theorem d_Md_part_6 : decode b_Md_part 6 = .ok (.invokestatic 68, 3) := by decide +kernel
theorem d_Md_part_9 : decode b_Md_part 9 = .ok (.ifCond .eq 26, 3) := by decide +kernel
theorem d_Md_part_12 : decode b_Md_part 12 = .ok (.iload_n 2, 1) := by decide +kernel
theorem d_Md_part_13 : decode b_Md_part 13 = .ok (.i2l, 1) := by decide +kernel
theorem d_Md_part_14 : decode b_Md_part 14 = .ok (.lconst 0, 1) := by decide +kernel
theorem d_Md_part_15 : decode b_Md_part 15 = .ok (.ldc2_w 95, 3) := by decide +kernel
theorem d_Md_part_18 : decode b_Md_part 18 = .ok (.invokestatic 68, 3) := by decide +kernel
theorem d_Md_part_21 : decode b_Md_part 21 = .ok (.ifCond .eq 14, 3) := by decide +kernel
theorem d_Md_part_24 : decode b_Md_part 24 = .ok (.lload_n 3, 1) := by decide +kernel
theorem d_Md_part_25 : decode b_Md_part 25 = .ok (.lconst 0, 1) := by decide +kernel
theorem d_Md_part_26 : decode b_Md_part 26 = .ok (.ldc2_w 97, 3) := by decide +kernel
theorem d_Md_part_29 : decode b_Md_part 29 = .ok (.invokestatic 68, 3) := by decide +kernel
theorem d_Md_part_32 : decode b_Md_part 32 = .ok (.ifCond .ne 9, 3) := by decide +kernel
theorem d_Md_part_35 : decode b_Md_part 35 = .ok (.aload_n 0, 1) := by decide +kernel
theorem d_Md_part_36 : decode b_Md_part 36 = .ok (.iconst 1, 1) := by decide +kernel
theorem d_Md_part_37 : decode b_Md_part 37 = .ok (.invokevirtual 99, 3) := by decide +kernel
theorem d_Md_part_40 : decode b_Md_part 40 = .ok (.ireturn, 1) := by decide +kernel
theorem d_Md_part_41 : decode b_Md_part 41 = .ok (.aload_n 0, 1) := by decide +kernel
theorem d_Md_part_42 : decode b_Md_part 42 = .ok (.getfield 103, 3) := by decide +kernel
theorem d_Md_part_45 : decode b_Md_part 45 = .ok (.bipush 12, 2) := by decide +kernel
theorem d_Md_part_47 : decode b_Md_part 47 = .ok (.if_icmp .ne 9, 3) := by decide +kernel
theorem d_Md_part_50 : decode b_Md_part 50 = .ok (.aload_n 0, 1) := by decide +kernel
theorem d_Md_part_51 : decode b_Md_part 51 = .ok (.iconst 2, 1) := by decide +kernel
theorem d_Md_part_52 : decode b_Md_part 52 = .ok (.invokevirtual 99, 3) := by decide +kernel
theorem d_Md_part_55 : decode b_Md_part 55 = .ok (.ireturn, 1) := by decide +kernel
theorem d_Md_part_56 : decode b_Md_part 56 = .ok (.aload_n 0, 1) := by decide +kernel
theorem d_Md_part_57 : decode b_Md_part 57 = .ok (.iconst 0, 1) := by decide +kernel
theorem d_Md_part_58 : decode b_Md_part 58 = .ok (.putfield 61, 3) := by decide +kernel
theorem d_Md_part_61 : decode b_Md_part 61 = .ok (.aload_n 0, 1) := by decide +kernel
theorem d_Md_part_62 : decode b_Md_part 62 = .ok (.getfield 22, 3) := by decide +kernel
theorem d_Md_part_65 : decode b_Md_part 65 = .ok (.aload_n 0, 1) := by decide +kernel
theorem d_Md_part_66 : decode b_Md_part 66 = .ok (.getfield 103, 3) := by decide +kernel
theorem d_Md_part_69 : decode b_Md_part 69 = .ok (.iload_n 1, 1) := by decide +kernel
theorem d_Md_part_70 : decode b_Md_part 70 = .ok (.iastore, 1) := by decide +kernel
theorem d_Md_part_71 : decode b_Md_part 71 = .ok (.aload_n 0, 1) := by decide +kernel
theorem d_Md_part_72 : decode b_Md_part 72 = .ok (.getfield 25, 3) := by decide +kernel
theorem d_Md_part_75 : decode b_Md_part 75 = .ok (.aload_n 0, 1) := by decide +kernel
theorem d_Md_part_76 : decode b_Md_part 76 = .ok (.getfield 103, 3) := by decide +kernel
theorem d_Md_part_79 : decode b_Md_part 79 = .ok (.iload_n 2, 1) := by decide +kernel
theorem d_Md_part_80 : decode b_Md_part 80 = .ok (.iastore, 1) := by decide +kernel
theorem d_Md_part_81 : decode b_Md_part 81 = .ok (.aload_n 0, 1) := by decide +kernel
theorem d_Md_part_82 : decode b_Md_part 82 = .ok (.getfield 28, 3) := by decide +kernel
theorem d_Md_part_85 : decode b_Md_part 85 = .ok (.aload_n 0, 1) := by decide +kernel
theorem d_Md_part_86 : decode b_Md_part 86 = .ok (.getfield 103, 3) := by decide +kernel
theorem d_Md_part_89 : decode b_Md_part 89 = .ok (.lload_n 3, 1) := by decide +kernel
theorem d_Md_part_90 : decode b_Md_part 90 = .ok (.lastore, 1) := by decide +kernel
theorem d_Md_part_91 : decode b_Md_part 91 = .ok (.aload_n 0, 1) := by decide +kernel
theorem d_Md_part_92 : decode b_Md_part 92 = .ok (.dup, 1) := by decide +kernel
theorem d_Md_part_93 : decode b_Md_part 93 = .ok (.getfield 103, 3) := by decide +kernel
theorem d_Md_part_96 : decode b_Md_part 96 = .ok (.iconst 1, 1) := by decide +kernel
theorem d_Md_part_97 : decode b_Md_part 97 = .ok (.iadd, 1) := by decide +kernel
theorem d_Md_part_98 : decode b_Md_part 98 = .ok (.putfield 103, 3) := by decide +kernel
theorem d_Md_part_101 : decode b_Md_part 101 = .ok (.aload_n 0, 1) := by decide +kernel
theorem d_Md_part_102 : decode b_Md_part 102 = .ok (.getfield 103, 3) := by decide +kernel
theorem d_Md_part_105 : decode b_Md_part 105 = .ok (.ireturn, 1) := by decide +kernel
theorem d_Md_clear_0 : decode b_Md_clear 0 = .ok (.aload_n 0, 1) := by decide +kernel
theorem d_Md_clear_1 : decode b_Md_clear 1 = .ok (.iconst 0, 1) := by decide +kernel
theorem d_Md_clear_2 : decode b_Md_clear 2 = .ok (.putfield 61, 3) := by decide +kernel
theorem d_Md_clear_5 : decode b_Md_clear 5 = .ok (.aload_n 0, 1) := by decide +kernel
theorem d_Md_clear_6 : decode b_Md_clear 6 = .ok (.getfield 103, 3) := by decide +kernel
theorem d_Md_clear_9 : decode b_Md_clear 9 = .ok (.istore_n 1, 1) := by decide +kernel
theorem d_Md_clear_10 : decode b_Md_clear 10 = .ok (.aload_n 0, 1) := by decide +kernel
theorem d_Md_clear_11 : decode b_Md_clear 11 = .ok (.iconst 0, 1) := by decide +kernel
theorem d_Md_clear_12 : decode b_Md_clear 12 = .ok (.putfield 103, 3) := by decide +kernel
theorem d_Md_clear_15 : decode b_Md_clear 15 = .ok (.aload_n 0, 1) := by decide +kernel
theorem d_Md_clear_16 : decode b_Md_clear 16 = .ok (.iconst 0, 1) := by decide +kernel
theorem d_Md_clear_17 : decode b_Md_clear 17 = .ok (.putfield 106, 3) := by decide +kernel
theorem d_Md_clear_20 : decode b_Md_clear 20 = .ok (.iload_n 1, 1) := by decide +kernel
theorem d_Md_clear_21 : decode b_Md_clear 21 = .ok (.ireturn, 1) := by decide +kernel
theorem d_Md_process_0 : decode b_Md_process 0 = .ok (.aload_n 0, 1) := by decide +kernel
theorem d_Md_process_1 : decode b_Md_process 1 = .ok (.iconst 0, 1) := by decide +kernel
theorem d_Md_process_2 : decode b_Md_process 2 = .ok (.putfield 61, 3) := by decide +kernel
theorem d_Md_process_5 : decode b_Md_process 5 = .ok (.iload_n 1, 1) := by decide +kernel
theorem d_Md_process_6 : decode b_Md_process 6 = .ok (.i2l, 1) := by decide +kernel
theorem d_Md_process_7 : decode b_Md_process 7 = .ok (.lconst 0, 1) := by decide +kernel
theorem d_Md_process_8 : decode b_Md_process 8 = .ok (.ldc2_w 109, 3) := by decide +kernel
theorem d_Md_process_11 : decode b_Md_process 11 = .ok (.invokestatic 68, 3) := by decide +kernel
theorem d_Md_process_14 : decode b_Md_process 14 = .ok (.ifCond .eq 15, 3) := by decide +kernel
theorem d_Md_process_17 : decode b_Md_process 17 = .ok (.aload_n 0, 1) := by decide +kernel
theorem d_Md_process_18 : decode b_Md_process 18 = .ok (.getfield 106, 3) := by decide +kernel
theorem d_Md_process_21 : decode b_Md_process 21 = .ok (.iload_n 1, 1) := by decide +kernel
theorem d_Md_process_22 : decode b_Md_process 22 = .ok (.ishr, 1) := by decide +kernel
theorem d_Md_process_23 : decode b_Md_process 23 = .ok (.iconst 1, 1) := by decide +kernel
theorem d_Md_process_24 : decode b_Md_process 24 = .ok (.iand, 1) := by decide +kernel
theorem d_Md_process_25 : decode b_Md_process 25 = .ok (.iconst 1, 1) := by decide +kernel
theorem d_Md_process_26 : decode b_Md_process 26 = .ok (.if_icmp .ne 5, 3) := by decide +kernel
theorem d_Md_process_29 : decode b_Md_process 29 = .ok (.iconst 0, 1) := by decide +kernel
theorem d_Md_process_30 : decode b_Md_process 30 = .ok (.ireturn, 1) := by decide +kernel
theorem d_Md_process_31 : decode b_Md_process 31 = .ok (.aload_n 0, 1) := by decide +kernel
theorem d_Md_process_32 : decode b_Md_process 32 = .ok (.dup, 1) := by decide +kernel
theorem d_Md_process_33 : decode b_Md_process 33 = .ok (.getfield 106, 3) := by decide +kernel
theorem d_Md_process_36 : decode b_Md_process 36 = .ok (.iconst 1, 1) := by decide +kernel
theorem d_Md_process_37 : decode b_Md_process 37 = .ok (.iload_n 1, 1) := by decide +kernel
theorem d_Md_process_38 : decode b_Md_process 38 = .ok (.ishl, 1) := by decide +kernel
theorem d_Md_process_39 : decode b_Md_process 39 = .ok (.ior, 1) := by decide +kernel
theorem d_Md_process_40 : decode b_Md_process 40 = .ok (.putfield 106, 3) := by decide +kernel
theorem d_Md_process_43 : decode b_Md_process 43 = .ok (.iconst 1, 1) := by decide +kernel
theorem d_Md_process_44 : decode b_Md_process 44 = .ok (.ireturn, 1) := by decide +kernel
theorem d_Md_bar_0 : decode b_Md_bar 0 = .ok (.aload_n 0, 1) := by decide +kernel
theorem d_Md_bar_1 : decode b_Md_bar 1 = .ok (.iconst 0, 1) := by decide +kernel
theorem d_Md_bar_2 : decode b_Md_bar 2 = .ok (.putfield 61, 3) := by decide +kernel
theorem d_Md_bar_5 : decode b_Md_bar 5 = .ok (.iload_n 1, 1) := by decide +kernel
theorem d_Md_bar_6 : decode b_Md_bar 6 = .ok (.i2l, 1) := by decide +kernel
theorem d_Md_bar_7 : decode b_Md_bar 7 = .ok (.lconst 0, 1) := by decide +kernel
theorem d_Md_bar_8 : decode b_Md_bar 8 = .ok (.ldc2_w 109, 3) := by decide +kernel
theorem d_Md_bar_11 : decode b_Md_bar 11 = .ok (.invokestatic 68, 3) := by decide +kernel
theorem d_Md_bar_14 : decode b_Md_bar 14 = .ok (.ifCond .eq 24, 3) := by decide +kernel
theorem d_Md_bar_17 : decode b_Md_bar 17 = .ok (.aload_n 0, 1) := by decide +kernel
theorem d_Md_bar_18 : decode b_Md_bar 18 = .ok (.getfield 111, 3) := by decide +kernel
theorem d_Md_bar_21 : decode b_Md_bar 21 = .ok (.iload_n 1, 1) := by decide +kernel
theorem d_Md_bar_22 : decode b_Md_bar 22 = .ok (.ishr, 1) := by decide +kernel
theorem d_Md_bar_23 : decode b_Md_bar 23 = .ok (.iconst 1, 1) := by decide +kernel
theorem d_Md_bar_24 : decode b_Md_bar 24 = .ok (.iand, 1) := by decide +kernel
theorem d_Md_bar_25 : decode b_Md_bar 25 = .ok (.iconst 1, 1) := by decide +kernel
theorem d_Md_bar_26 : decode b_Md_bar 26 = .ok (.if_icmp .ne 7, 3) := by decide +kernel
theorem d_Md_bar_29 : decode b_Md_bar 29 = .ok (.iconst 1, 1) := by decide +kernel
theorem d_Md_bar_30 : decode b_Md_bar 30 = .ok (.goto 4, 3) := by decide +kernel
theorem d_Md_bar_33 : decode b_Md_bar 33 = .ok (.iconst 0, 1) := by decide +kernel
theorem d_Md_bar_34 : decode b_Md_bar 34 = .ok (.iload_n 2, 1) := by decide +kernel
theorem d_Md_bar_35 : decode b_Md_bar 35 = .ok (.if_icmp .ne 5, 3) := by decide +kernel
theorem d_Md_bar_38 : decode b_Md_bar 38 = .ok (.iconst 0, 1) := by decide +kernel
theorem d_Md_bar_39 : decode b_Md_bar 39 = .ok (.ireturn, 1) := by decide +kernel
theorem d_Md_bar_40 : decode b_Md_bar 40 = .ok (.aload_n 0, 1) := by decide +kernel
theorem d_Md_bar_41 : decode b_Md_bar 41 = .ok (.dup, 1) := by decide +kernel
theorem d_Md_bar_42 : decode b_Md_bar 42 = .ok (.getfield 111, 3) := by decide +kernel
theorem d_Md_bar_45 : decode b_Md_bar 45 = .ok (.iconst 1, 1) := by decide +kernel
theorem d_Md_bar_46 : decode b_Md_bar 46 = .ok (.iload_n 1, 1) := by decide +kernel
theorem d_Md_bar_47 : decode b_Md_bar 47 = .ok (.ishl, 1) := by decide +kernel
theorem d_Md_bar_48 : decode b_Md_bar 48 = .ok (.ixor, 1) := by decide +kernel
theorem d_Md_bar_49 : decode b_Md_bar 49 = .ok (.putfield 111, 3) := by decide +kernel
theorem d_Md_bar_52 : decode b_Md_bar 52 = .ok (.iconst 1, 1) := by decide +kernel
theorem d_Md_bar_53 : decode b_Md_bar 53 = .ok (.ireturn, 1) := by decide +kernel
theorem d_Md_join_0 : decode b_Md_join 0 = .ok (.iload_n 1, 1) := by decide +kernel
theorem d_Md_join_1 : decode b_Md_join 1 = .ok (.i2l, 1) := by decide +kernel
theorem d_Md_join_2 : decode b_Md_join 2 = .ok (.lconst 0, 1) := by decide +kernel
theorem d_Md_join_3 : decode b_Md_join 3 = .ok (.ldc2_w 95, 3) := by decide +kernel
theorem d_Md_join_6 : decode b_Md_join 6 = .ok (.invokestatic 68, 3) := by decide +kernel
theorem d_Md_join_9 : decode b_Md_join 9 = .ok (.ifCond .eq 20, 3) := by decide +kernel
theorem d_Md_join_12 : decode b_Md_join 12 = .ok (.iload_n 2, 1) := by decide +kernel
theorem d_Md_join_13 : decode b_Md_join 13 = .ok (.i2l, 1) := by decide +kernel
theorem d_Md_join_14 : decode b_Md_join 14 = .ok (.lconst 0, 1) := by decide +kernel
theorem d_Md_join_15 : decode b_Md_join 15 = .ok (.ldc2_w 95, 3) := by decide +kernel
theorem d_Md_join_18 : decode b_Md_join 18 = .ok (.invokestatic 68, 3) := by decide +kernel
theorem d_Md_join_21 : decode b_Md_join 21 = .ok (.ifCond .eq 8, 3) := by decide +kernel
theorem d_Md_join_24 : decode b_Md_join 24 = .ok (.iload_n 1, 1) := by decide +kernel
theorem d_Md_join_25 : decode b_Md_join 25 = .ok (.iload_n 2, 1) := by decide +kernel
theorem d_Md_join_26 : decode b_Md_join 26 = .ok (.if_icmp .ne 9, 3) := by decide +kernel
theorem d_Md_join_29 : decode b_Md_join 29 = .ok (.aload_n 0, 1) := by decide +kernel
theorem d_Md_join_30 : decode b_Md_join 30 = .ok (.iconst 1, 1) := by decide +kernel
theorem d_Md_join_31 : decode b_Md_join 31 = .ok (.invokevirtual 99, 3) := by decide +kernel
theorem d_Md_join_34 : decode b_Md_join 34 = .ok (.ireturn, 1) := by decide +kernel
theorem d_Md_join_35 : decode b_Md_join 35 = .ok (.aload_n 0, 1) := by decide +kernel
theorem d_Md_join_36 : decode b_Md_join 36 = .ok (.iconst 0, 1) := by decide +kernel
theorem d_Md_join_37 : decode b_Md_join 37 = .ok (.putfield 61, 3) := by decide +kernel
theorem d_Md_join_40 : decode b_Md_join 40 = .ok (.aload_n 0, 1) := by decide +kernel
theorem d_Md_join_41 : decode b_Md_join 41 = .ok (.getfield 32, 3) := by decide +kernel
theorem d_Md_join_44 : decode b_Md_join 44 = .ok (.bipush 10, 2) := by decide +kernel
theorem d_Md_join_46 : decode b_Md_join 46 = .ok (.iload_n 1, 1) := by decide +kernel
theorem d_Md_join_47 : decode b_Md_join 47 = .ok (.imul, 1) := by decide +kernel
theorem d_Md_join_48 : decode b_Md_join 48 = .ok (.iload_n 2, 1) := by decide +kernel
theorem d_Md_join_49 : decode b_Md_join 49 = .ok (.iadd, 1) := by decide +kernel
theorem d_Md_join_50 : decode b_Md_join 50 = .ok (.baload, 1) := by decide +kernel
theorem d_Md_join_51 : decode b_Md_join 51 = .ok (.ifCond .eq 5, 3) := by decide +kernel
theorem d_Md_join_54 : decode b_Md_join 54 = .ok (.iconst 0, 1) := by decide +kernel
theorem d_Md_join_55 : decode b_Md_join 55 = .ok (.ireturn, 1) := by decide +kernel
theorem d_Md_join_56 : decode b_Md_join 56 = .ok (.aload_n 0, 1) := by decide +kernel
theorem d_Md_join_57 : decode b_Md_join 57 = .ok (.getfield 32, 3) := by decide +kernel
theorem d_Md_join_60 : decode b_Md_join 60 = .ok (.bipush 10, 2) := by decide +kernel
theorem d_Md_join_62 : decode b_Md_join 62 = .ok (.iload_n 1, 1) := by decide +kernel
theorem d_Md_join_63 : decode b_Md_join 63 = .ok (.imul, 1) := by decide +kernel
theorem d_Md_join_64 : decode b_Md_join 64 = .ok (.iload_n 2, 1) := by decide +kernel
theorem d_Md_join_65 : decode b_Md_join 65 = .ok (.iadd, 1) := by decide +kernel
theorem d_Md_join_66 : decode b_Md_join 66 = .ok (.iconst 1, 1) := by decide +kernel
theorem d_Md_join_67 : decode b_Md_join 67 = .ok (.bastore, 1) := by decide +kernel
theorem d_Md_join_68 : decode b_Md_join 68 = .ok (.aload_n 0, 1) := by decide +kernel
theorem d_Md_join_69 : decode b_Md_join 69 = .ok (.getfield 32, 3) := by decide +kernel
theorem d_Md_join_72 : decode b_Md_join 72 = .ok (.bipush 10, 2) := by decide +kernel
theorem d_Md_join_74 : decode b_Md_join 74 = .ok (.iload_n 2, 1) := by decide +kernel
theorem d_Md_join_75 : decode b_Md_join 75 = .ok (.imul, 1) := by decide +kernel
theorem d_Md_join_76 : decode b_Md_join 76 = .ok (.iload_n 1, 1) := by decide +kernel
theorem d_Md_join_77 : decode b_Md_join 77 = .ok (.iadd, 1) := by decide +kernel
theorem d_Md_join_78 : decode b_Md_join 78 = .ok (.iconst 1, 1) := by decide +kernel
theorem d_Md_join_79 : decode b_Md_join 79 = .ok (.bastore, 1) := by decide +kernel
theorem d_Md_join_80 : decode b_Md_join 80 = .ok (.aload_n 0, 1) := by decide +kernel
theorem d_Md_join_81 : decode b_Md_join 81 = .ok (.dup, 1) := by decide +kernel
theorem d_Md_join_82 : decode b_Md_join 82 = .ok (.getfield 114, 3) := by decide +kernel
theorem d_Md_join_85 : decode b_Md_join 85 = .ok (.iconst 1, 1) := by decide +kernel
theorem d_Md_join_86 : decode b_Md_join 86 = .ok (.iadd, 1) := by decide +kernel
theorem d_Md_join_87 : decode b_Md_join 87 = .ok (.putfield 114, 3) := by decide +kernel
theorem d_Md_join_90 : decode b_Md_join 90 = .ok (.iconst 1, 1) := by decide +kernel
theorem d_Md_join_91 : decode b_Md_join 91 = .ok (.ireturn, 1) := by decide +kernel
theorem d_Md_full_0 : decode b_Md_full 0 = .ok (.aload_n 0, 1) := by decide +kernel
theorem d_Md_full_1 : decode b_Md_full 1 = .ok (.iconst 0, 1) := by decide +kernel
theorem d_Md_full_2 : decode b_Md_full 2 = .ok (.putfield 61, 3) := by decide +kernel
theorem d_Md_full_5 : decode b_Md_full 5 = .ok (.aload_n 0, 1) := by decide +kernel
theorem d_Md_full_6 : decode b_Md_full 6 = .ok (.getfield 117, 3) := by decide +kernel
theorem d_Md_full_9 : decode b_Md_full 9 = .ok (.iload_n 1, 1) := by decide +kernel
theorem d_Md_full_10 : decode b_Md_full 10 = .ok (.if_icmp .eq 7, 3) := by decide +kernel
theorem d_Md_full_13 : decode b_Md_full 13 = .ok (.iconst 1, 1) := by decide +kernel
theorem d_Md_full_14 : decode b_Md_full 14 = .ok (.goto 4, 3) := by decide +kernel
theorem d_Md_full_17 : decode b_Md_full 17 = .ok (.iconst 0, 1) := by decide +kernel
theorem d_Md_full_18 : decode b_Md_full 18 = .ok (.istore_n 2, 1) := by decide +kernel
theorem d_Md_full_19 : decode b_Md_full 19 = .ok (.aload_n 0, 1) := by decide +kernel
theorem d_Md_full_20 : decode b_Md_full 20 = .ok (.iload_n 1, 1) := by decide +kernel
theorem d_Md_full_21 : decode b_Md_full 21 = .ok (.putfield 117, 3) := by decide +kernel
theorem d_Md_full_24 : decode b_Md_full 24 = .ok (.iload_n 2, 1) := by decide +kernel
theorem d_Md_full_25 : decode b_Md_full 25 = .ok (.ireturn, 1) := by decide +kernel
theorem d_Md_tolerance_0 : decode b_Md_tolerance 0 = .ok (.aload_n 0, 1) := by decide +kernel
theorem d_Md_tolerance_1 : decode b_Md_tolerance 1 = .ok (.iconst 0, 1) := by decide +kernel
theorem d_Md_tolerance_2 : decode b_Md_tolerance 2 = .ok (.putfield 61, 3) := by decide +kernel
theorem d_Md_tolerance_5 : decode b_Md_tolerance 5 = .ok (.iload_n 2, 1) := by decide +kernel
theorem d_Md_tolerance_6 : decode b_Md_tolerance 6 = .ok (.i2l, 1) := by decide +kernel
theorem d_Md_tolerance_7 : decode b_Md_tolerance 7 = .ok (.lconst 1, 1) := by decide +kernel
theorem d_Md_tolerance_8 : decode b_Md_tolerance 8 = .ok (.ldc2_w 121, 3) := by decide +kernel
theorem d_Md_tolerance_11 : decode b_Md_tolerance 11 = .ok (.invokestatic 68, 3) := by decide +kernel
theorem d_Md_tolerance_14 : decode b_Md_tolerance 14 = .ok (.ifCond .eq 14, 3) := by decide +kernel
theorem d_Md_tolerance_17 : decode b_Md_tolerance 17 = .ok (.iload_n 1, 1) := by decide +kernel
theorem d_Md_tolerance_18 : decode b_Md_tolerance 18 = .ok (.i2l, 1) := by decide +kernel
theorem d_Md_tolerance_19 : decode b_Md_tolerance 19 = .ok (.lconst 0, 1) := by decide +kernel
theorem d_Md_tolerance_20 : decode b_Md_tolerance 20 = .ok (.iload_n 2, 1) := by decide +kernel
theorem d_Md_tolerance_21 : decode b_Md_tolerance 21 = .ok (.i2l, 1) := by decide +kernel
theorem d_Md_tolerance_22 : decode b_Md_tolerance 22 = .ok (.invokestatic 68, 3) := by decide +kernel
theorem d_Md_tolerance_25 : decode b_Md_tolerance 25 = .ok (.ifCond .ne 5, 3) := by decide +kernel
theorem d_Md_tolerance_28 : decode b_Md_tolerance 28 = .ok (.iconst 0, 1) := by decide +kernel
theorem d_Md_tolerance_29 : decode b_Md_tolerance 29 = .ok (.ireturn, 1) := by decide +kernel
theorem d_Md_tolerance_30 : decode b_Md_tolerance 30 = .ok (.aload_n 0, 1) := by decide +kernel
theorem d_Md_tolerance_31 : decode b_Md_tolerance 31 = .ok (.iload_n 1, 1) := by decide +kernel
theorem d_Md_tolerance_32 : decode b_Md_tolerance 32 = .ok (.putfield 123, 3) := by decide +kernel
theorem d_Md_tolerance_35 : decode b_Md_tolerance 35 = .ok (.aload_n 0, 1) := by decide +kernel
theorem d_Md_tolerance_36 : decode b_Md_tolerance 36 = .ok (.iload_n 2, 1) := by decide +kernel
theorem d_Md_tolerance_37 : decode b_Md_tolerance 37 = .ok (.putfield 36, 3) := by decide +kernel
theorem d_Md_tolerance_40 : decode b_Md_tolerance 40 = .ok (.iconst 1, 1) := by decide +kernel
theorem d_Md_tolerance_41 : decode b_Md_tolerance 41 = .ok (.ireturn, 1) := by decide +kernel
theorem d_Md_isOwn_0 : decode b_Md_isOwn 0 = .ok (.iconst 1, 1) := by decide +kernel
theorem d_Md_isOwn_1 : decode b_Md_isOwn 1 = .ok (.istore_n 2, 1) := by decide +kernel
theorem d_Md_isOwn_2 : decode b_Md_isOwn 2 = .ok (.iconst 0, 1) := by decide +kernel
theorem d_Md_isOwn_3 : decode b_Md_isOwn 3 = .ok (.istore_n 3, 1) := by decide +kernel
theorem d_Md_isOwn_4 : decode b_Md_isOwn 4 = .ok (.iload_n 3, 1) := by decide +kernel
theorem d_Md_isOwn_5 : decode b_Md_isOwn 5 = .ok (.aload_n 0, 1) := by decide +kernel
theorem d_Md_isOwn_6 : decode b_Md_isOwn 6 = .ok (.getfield 117, 3) := by decide +kernel
theorem d_Md_isOwn_9 : decode b_Md_isOwn 9 = .ok (.ifCond .eq 8, 3) := by decide +kernel
theorem d_Md_isOwn_12 : decode b_Md_isOwn 12 = .ok (.bipush 10, 2) := by decide +kernel
theorem d_Md_isOwn_14 : decode b_Md_isOwn 14 = .ok (.goto 4, 3) := by decide +kernel
theorem d_Md_isOwn_17 : decode b_Md_isOwn 17 = .ok (.iconst 1, 1) := by decide +kernel
theorem d_Md_isOwn_18 : decode b_Md_isOwn 18 = .ok (.if_icmp .ge 66, 3) := by decide +kernel
theorem d_Md_isOwn_21 : decode b_Md_isOwn 21 = .ok (.iload_n 2, 1) := by decide +kernel
theorem d_Md_isOwn_22 : decode b_Md_isOwn 22 = .ok (.istore 4, 2) := by decide +kernel
theorem d_Md_isOwn_24 : decode b_Md_isOwn 24 = .ok (.iconst 0, 1) := by decide +kernel
theorem d_Md_isOwn_25 : decode b_Md_isOwn 25 = .ok (.istore 5, 2) := by decide +kernel
theorem d_Md_isOwn_27 : decode b_Md_isOwn 27 = .ok (.iload 5, 2) := by decide +kernel
theorem d_Md_isOwn_29 : decode b_Md_isOwn 29 = .ok (.bipush 100, 2) := by decide +kernel
theorem d_Md_isOwn_31 : decode b_Md_isOwn 31 = .ok (.if_icmp .ge 47, 3) := by decide +kernel
theorem d_Md_isOwn_34 : decode b_Md_isOwn 34 = .ok (.iload_n 2, 1) := by decide +kernel
theorem d_Md_isOwn_35 : decode b_Md_isOwn 35 = .ok (.aload_n 0, 1) := by decide +kernel
theorem d_Md_isOwn_36 : decode b_Md_isOwn 36 = .ok (.getfield 32, 3) := by decide +kernel
theorem d_Md_isOwn_39 : decode b_Md_isOwn 39 = .ok (.iload 5, 2) := by decide +kernel
theorem d_Md_isOwn_41 : decode b_Md_isOwn 41 = .ok (.baload, 1) := by decide +kernel
theorem d_Md_isOwn_42 : decode b_Md_isOwn 42 = .ok (.ifCond .eq 27, 3) := by decide +kernel
theorem d_Md_isOwn_45 : decode b_Md_isOwn 45 = .ok (.iload 4, 2) := by decide +kernel
theorem d_Md_isOwn_47 : decode b_Md_isOwn 47 = .ok (.iload 5, 2) := by decide +kernel
theorem d_Md_isOwn_49 : decode b_Md_isOwn 49 = .ok (.bipush 10, 2) := by decide +kernel
theorem d_Md_isOwn_51 : decode b_Md_isOwn 51 = .ok (.idiv, 1) := by decide +kernel
theorem d_Md_isOwn_52 : decode b_Md_isOwn 52 = .ok (.ishr, 1) := by decide +kernel
theorem d_Md_isOwn_53 : decode b_Md_isOwn 53 = .ok (.iconst 1, 1) := by decide +kernel
theorem d_Md_isOwn_54 : decode b_Md_isOwn 54 = .ok (.iand, 1) := by decide +kernel
theorem d_Md_isOwn_55 : decode b_Md_isOwn 55 = .ok (.iconst 1, 1) := by decide +kernel
theorem d_Md_isOwn_56 : decode b_Md_isOwn 56 = .ok (.if_icmp .ne 13, 3) := by decide +kernel
theorem d_Md_isOwn_59 : decode b_Md_isOwn 59 = .ok (.iconst 1, 1) := by decide +kernel
theorem d_Md_isOwn_60 : decode b_Md_isOwn 60 = .ok (.iload 5, 2) := by decide +kernel
theorem d_Md_isOwn_62 : decode b_Md_isOwn 62 = .ok (.bipush 10, 2) := by decide +kernel
theorem d_Md_isOwn_64 : decode b_Md_isOwn 64 = .ok (.irem, 1) := by decide +kernel
theorem d_Md_isOwn_65 : decode b_Md_isOwn 65 = .ok (.ishl, 1) := by decide +kernel
theorem d_Md_isOwn_66 : decode b_Md_isOwn 66 = .ok (.goto 4, 3) := by decide +kernel
theorem d_Md_isOwn_69 : decode b_Md_isOwn 69 = .ok (.iconst 0, 1) := by decide +kernel
theorem d_Md_isOwn_70 : decode b_Md_isOwn 70 = .ok (.ior, 1) := by decide +kernel
theorem d_Md_isOwn_71 : decode b_Md_isOwn 71 = .ok (.istore_n 2, 1) := by decide +kernel
theorem d_Md_isOwn_72 : decode b_Md_isOwn 72 = .ok (.iinc 5 1, 3) := by decide +kernel
theorem d_Md_isOwn_75 : decode b_Md_isOwn 75 = .ok (.goto (-48), 3) := by decide +kernel
theorem d_Md_isOwn_78 : decode b_Md_isOwn 78 = .ok (.iinc 3 1, 3) := by decide +kernel
theorem d_Md_isOwn_81 : decode b_Md_isOwn 81 = .ok (.goto (-77), 3) := by decide +kernel
theorem d_Md_isOwn_84 : decode b_Md_isOwn 84 = .ok (.iload_n 2, 1) := by decide +kernel
theorem d_Md_isOwn_85 : decode b_Md_isOwn 85 = .ok (.iload_n 1, 1) := by decide +kernel
theorem d_Md_isOwn_86 : decode b_Md_isOwn 86 = .ok (.ishr, 1) := by decide +kernel
theorem d_Md_isOwn_87 : decode b_Md_isOwn 87 = .ok (.iconst 1, 1) := by decide +kernel
theorem d_Md_isOwn_88 : decode b_Md_isOwn 88 = .ok (.iand, 1) := by decide +kernel
theorem d_Md_isOwn_89 : decode b_Md_isOwn 89 = .ok (.iconst 1, 1) := by decide +kernel
theorem d_Md_isOwn_90 : decode b_Md_isOwn 90 = .ok (.if_icmp .ne 7, 3) := by decide +kernel
theorem d_Md_isOwn_93 : decode b_Md_isOwn 93 = .ok (.iconst 1, 1) := by decide +kernel
theorem d_Md_isOwn_94 : decode b_Md_isOwn 94 = .ok (.goto 4, 3) := by decide +kernel
theorem d_Md_isOwn_97 : decode b_Md_isOwn 97 = .ok (.iconst 0, 1) := by decide +kernel
theorem d_Md_isOwn_98 : decode b_Md_isOwn 98 = .ok (.ireturn, 1) := by decide +kernel
theorem d_Md_own_0 : decode b_Md_own 0 = .ok (.aload_n 0, 1) := by decide +kernel
theorem d_Md_own_1 : decode b_Md_own 1 = .ok (.iload_n 1, 1) := by decide +kernel
theorem d_Md_own_2 : decode b_Md_own 2 = .ok (.i2l, 1) := by decide +kernel
theorem d_Md_own_3 : decode b_Md_own 3 = .ok (.lconst 0, 1) := by decide +kernel
theorem d_Md_own_4 : decode b_Md_own 4 = .ok (.ldc2_w 95, 3) := by decide +kernel
theorem d_Md_own_7 : decode b_Md_own 7 = .ok (.invokestatic 68, 3) := by decide +kernel
theorem d_Md_own_10 : decode b_Md_own 10 = .ok (.ifCond .eq 7, 3) := by decide +kernel
theorem d_Md_own_13 : decode b_Md_own 13 = .ok (.iconst 0, 1) := by decide +kernel
theorem d_Md_own_14 : decode b_Md_own 14 = .ok (.goto 4, 3) := by decide +kernel
theorem d_Md_own_17 : decode b_Md_own 17 = .ok (.iconst 1, 1) := by decide +kernel
theorem d_Md_own_18 : decode b_Md_own 18 = .ok (.putfield 61, 3) := by decide +kernel
theorem d_Md_own_21 : decode b_Md_own 21 = .ok (.aload_n 0, 1) := by decide +kernel
theorem d_Md_own_22 : decode b_Md_own 22 = .ok (.getfield 61, 3) := by decide +kernel
theorem d_Md_own_25 : decode b_Md_own 25 = .ok (.ifCond .ne 15, 3) := by decide +kernel
theorem d_Md_own_28 : decode b_Md_own 28 = .ok (.aload_n 0, 1) := by decide +kernel
theorem d_Md_own_29 : decode b_Md_own 29 = .ok (.iload_n 1, 1) := by decide +kernel
theorem d_Md_own_30 : decode b_Md_own 30 = .ok (.invokevirtual 126, 3) := by decide +kernel
theorem d_Md_own_33 : decode b_Md_own 33 = .ok (.ifCond .eq 7, 3) := by decide +kernel
theorem d_Md_own_36 : decode b_Md_own 36 = .ok (.iconst 1, 1) := by decide +kernel
theorem d_Md_own_37 : decode b_Md_own 37 = .ok (.goto 4, 3) := by decide +kernel
theorem d_Md_own_40 : decode b_Md_own 40 = .ok (.iconst 0, 1) := by decide +kernel
theorem d_Md_own_41 : decode b_Md_own 41 = .ok (.ireturn, 1) := by decide +kernel
theorem d_Md_foreign_0 : decode b_Md_foreign 0 = .ok (.lconst 0, 1) := by decide +kernel
theorem d_Md_foreign_1 : decode b_Md_foreign 1 = .ok (.lstore_n 1, 1) := by decide +kernel
theorem d_Md_foreign_2 : decode b_Md_foreign 2 = .ok (.iconst 0, 1) := by decide +kernel
theorem d_Md_foreign_3 : decode b_Md_foreign 3 = .ok (.istore_n 3, 1) := by decide +kernel
theorem d_Md_foreign_4 : decode b_Md_foreign 4 = .ok (.iload_n 3, 1) := by decide +kernel
theorem d_Md_foreign_5 : decode b_Md_foreign 5 = .ok (.aload_n 0, 1) := by decide +kernel
theorem d_Md_foreign_6 : decode b_Md_foreign 6 = .ok (.getfield 103, 3) := by decide +kernel
theorem d_Md_foreign_9 : decode b_Md_foreign 9 = .ok (.if_icmp .ge 35, 3) := by decide +kernel
theorem d_Md_foreign_12 : decode b_Md_foreign 12 = .ok (.lload_n 1, 1) := by decide +kernel
theorem d_Md_foreign_13 : decode b_Md_foreign 13 = .ok (.aload_n 0, 1) := by decide +kernel
theorem d_Md_foreign_14 : decode b_Md_foreign 14 = .ok (.aload_n 0, 1) := by decide +kernel
theorem d_Md_foreign_15 : decode b_Md_foreign 15 = .ok (.getfield 25, 3) := by decide +kernel
theorem d_Md_foreign_18 : decode b_Md_foreign 18 = .ok (.iload_n 3, 1) := by decide +kernel
theorem d_Md_foreign_19 : decode b_Md_foreign 19 = .ok (.iaload, 1) := by decide +kernel
theorem d_Md_foreign_20 : decode b_Md_foreign 20 = .ok (.invokevirtual 126, 3) := by decide +kernel
theorem d_Md_foreign_23 : decode b_Md_foreign 23 = .ok (.ifCond .eq 7, 3) := by decide +kernel
theorem d_Md_foreign_26 : decode b_Md_foreign 26 = .ok (.lconst 0, 1) := by decide +kernel
theorem d_Md_foreign_27 : decode b_Md_foreign 27 = .ok (.goto 9, 3) := by decide +kernel
theorem d_Md_foreign_30 : decode b_Md_foreign 30 = .ok (.aload_n 0, 1) := by decide +kernel
theorem d_Md_foreign_31 : decode b_Md_foreign 31 = .ok (.getfield 28, 3) := by decide +kernel
theorem d_Md_foreign_34 : decode b_Md_foreign 34 = .ok (.iload_n 3, 1) := by decide +kernel
theorem d_Md_foreign_35 : decode b_Md_foreign 35 = .ok (.laload, 1) := by decide +kernel
theorem d_Md_foreign_36 : decode b_Md_foreign 36 = .ok (.ladd, 1) := by decide +kernel
theorem d_Md_foreign_37 : decode b_Md_foreign 37 = .ok (.lstore_n 1, 1) := by decide +kernel
theorem d_Md_foreign_38 : decode b_Md_foreign 38 = .ok (.iinc 3 1, 3) := by decide +kernel
theorem d_Md_foreign_41 : decode b_Md_foreign 41 = .ok (.goto (-37), 3) := by decide +kernel
theorem d_Md_foreign_44 : decode b_Md_foreign 44 = .ok (.lload_n 1, 1) := by decide +kernel
theorem d_Md_foreign_45 : decode b_Md_foreign 45 = .ok (.lreturn, 1) := by decide +kernel
theorem d_Md_isOther_0 : decode b_Md_isOther 0 = .ok (.lconst 0, 1) := by decide +kernel
theorem d_Md_isOther_1 : decode b_Md_isOther 1 = .ok (.lstore 5, 2) := by decide +kernel
theorem d_Md_isOther_3 : decode b_Md_isOther 3 = .ok (.iconst 0, 1) := by decide +kernel
theorem d_Md_isOther_4 : decode b_Md_isOther 4 = .ok (.istore 7, 2) := by decide +kernel
theorem d_Md_isOther_6 : decode b_Md_isOther 6 = .ok (.iconst 0, 1) := by decide +kernel
theorem d_Md_isOther_7 : decode b_Md_isOther 7 = .ok (.istore 8, 2) := by decide +kernel
theorem d_Md_isOther_9 : decode b_Md_isOther 9 = .ok (.iload 8, 2) := by decide +kernel
theorem d_Md_isOther_11 : decode b_Md_isOther 11 = .ok (.aload_n 0, 1) := by decide +kernel
theorem d_Md_isOther_12 : decode b_Md_isOther 12 = .ok (.getfield 103, 3) := by decide +kernel
theorem d_Md_isOther_15 : decode b_Md_isOther 15 = .ok (.if_icmp .ge 85, 3) := by decide +kernel
theorem d_Md_isOther_18 : decode b_Md_isOther 18 = .ok (.aload_n 0, 1) := by decide +kernel
theorem d_Md_isOther_19 : decode b_Md_isOther 19 = .ok (.aload_n 0, 1) := by decide +kernel
theorem d_Md_isOther_20 : decode b_Md_isOther 20 = .ok (.getfield 25, 3) := by decide +kernel
theorem d_Md_isOther_23 : decode b_Md_isOther 23 = .ok (.iload 8, 2) := by decide +kernel
theorem d_Md_isOther_25 : decode b_Md_isOther 25 = .ok (.iaload, 1) := by decide +kernel
theorem d_Md_isOther_26 : decode b_Md_isOther 26 = .ok (.invokevirtual 126, 3) := by decide +kernel
theorem d_Md_isOther_29 : decode b_Md_isOther 29 = .ok (.ifCond .ne 24, 3) := by decide +kernel
theorem d_Md_isOther_32 : decode b_Md_isOther 32 = .ok (.aload_n 0, 1) := by decide +kernel
theorem d_Md_isOther_33 : decode b_Md_isOther 33 = .ok (.getfield 22, 3) := by decide +kernel
theorem d_Md_isOther_36 : decode b_Md_isOther 36 = .ok (.iload 8, 2) := by decide +kernel
theorem d_Md_isOther_38 : decode b_Md_isOther 38 = .ok (.iaload, 1) := by decide +kernel
theorem d_Md_isOther_39 : decode b_Md_isOther 39 = .ok (.iload 4, 2) := by decide +kernel
theorem d_Md_isOther_41 : decode b_Md_isOther 41 = .ok (.idiv, 1) := by decide +kernel
theorem d_Md_isOther_42 : decode b_Md_isOther 42 = .ok (.iload_n 1, 1) := by decide +kernel
theorem d_Md_isOther_43 : decode b_Md_isOther 43 = .ok (.iload 4, 2) := by decide +kernel
theorem d_Md_isOther_45 : decode b_Md_isOther 45 = .ok (.idiv, 1) := by decide +kernel
theorem d_Md_isOther_46 : decode b_Md_isOther 46 = .ok (.if_icmp .ne 7, 3) := by decide +kernel
theorem d_Md_isOther_49 : decode b_Md_isOther 49 = .ok (.iconst 1, 1) := by decide +kernel
theorem d_Md_isOther_50 : decode b_Md_isOther 50 = .ok (.goto 4, 3) := by decide +kernel
theorem d_Md_isOther_53 : decode b_Md_isOther 53 = .ok (.iconst 0, 1) := by decide +kernel
theorem d_Md_isOther_54 : decode b_Md_isOther 54 = .ok (.istore 9, 2) := by decide +kernel
theorem d_Md_isOther_56 : decode b_Md_isOther 56 = .ok (.lload 5, 2) := by decide +kernel
theorem d_Md_isOther_58 : decode b_Md_isOther 58 = .ok (.iload 9, 2) := by decide +kernel
theorem d_Md_isOther_60 : decode b_Md_isOther 60 = .ok (.ifCond .eq 13, 3) := by decide +kernel
theorem d_Md_isOther_63 : decode b_Md_isOther 63 = .ok (.aload_n 0, 1) := by decide +kernel
theorem d_Md_isOther_64 : decode b_Md_isOther 64 = .ok (.getfield 28, 3) := by decide +kernel
theorem d_Md_isOther_67 : decode b_Md_isOther 67 = .ok (.iload 8, 2) := by decide +kernel
theorem d_Md_isOther_69 : decode b_Md_isOther 69 = .ok (.laload, 1) := by decide +kernel
theorem d_Md_isOther_70 : decode b_Md_isOther 70 = .ok (.goto 4, 3) := by decide +kernel
theorem d_Md_isOther_73 : decode b_Md_isOther 73 = .ok (.lconst 0, 1) := by decide +kernel
theorem d_Md_isOther_74 : decode b_Md_isOther 74 = .ok (.ladd, 1) := by decide +kernel
theorem d_Md_isOther_75 : decode b_Md_isOther 75 = .ok (.lstore 5, 2) := by decide +kernel
theorem d_Md_isOther_77 : decode b_Md_isOther 77 = .ok (.iload 7, 2) := by decide +kernel
theorem d_Md_isOther_79 : decode b_Md_isOther 79 = .ok (.ifCond .ne 8, 3) := by decide +kernel
theorem d_Md_isOther_82 : decode b_Md_isOther 82 = .ok (.iload 9, 2) := by decide +kernel
theorem d_Md_isOther_84 : decode b_Md_isOther 84 = .ok (.ifCond .eq 7, 3) := by decide +kernel
theorem d_Md_isOther_87 : decode b_Md_isOther 87 = .ok (.iconst 1, 1) := by decide +kernel
theorem d_Md_isOther_88 : decode b_Md_isOther 88 = .ok (.goto 4, 3) := by decide +kernel
theorem d_Md_isOther_91 : decode b_Md_isOther 91 = .ok (.iconst 0, 1) := by decide +kernel
theorem d_Md_isOther_92 : decode b_Md_isOther 92 = .ok (.istore 7, 2) := by decide +kernel
theorem d_Md_isOther_94 : decode b_Md_isOther 94 = .ok (.iinc 8 1, 3) := by decide +kernel
theorem d_Md_isOther_97 : decode b_Md_isOther 97 = .ok (.goto (-88), 3) := by decide +kernel
theorem d_Md_isOther_100 : decode b_Md_isOther 100 = .ok (.iload 7, 2) := by decide +kernel
theorem d_Md_isOther_102 : decode b_Md_isOther 102 = .ok (.ifCond .eq 22, 3) := by decide +kernel
theorem d_Md_isOther_105 : decode b_Md_isOther 105 = .ok (.lload 5, 2) := by decide +kernel
theorem d_Md_isOther_107 : decode b_Md_isOther 107 = .ok (.aload_n 0, 1) := by decide +kernel
theorem d_Md_isOther_108 : decode b_Md_isOther 108 = .ok (.getfield 36, 3) := by decide +kernel
theorem d_Md_isOther_111 : decode b_Md_isOther 111 = .ok (.i2l, 1) := by decide +kernel
theorem d_Md_isOther_112 : decode b_Md_isOther 112 = .ok (.lmul, 1) := by decide +kernel
theorem d_Md_isOther_113 : decode b_Md_isOther 113 = .ok (.lload_n 2, 1) := by decide +kernel
theorem d_Md_isOther_114 : decode b_Md_isOther 114 = .ok (.aload_n 0, 1) := by decide +kernel
theorem d_Md_isOther_115 : decode b_Md_isOther 115 = .ok (.getfield 123, 3) := by decide +kernel
theorem d_Md_isOther_118 : decode b_Md_isOther 118 = .ok (.i2l, 1) := by decide +kernel
theorem d_Md_isOther_119 : decode b_Md_isOther 119 = .ok (.lmul, 1) := by decide +kernel
theorem d_Md_isOther_120 : decode b_Md_isOther 120 = .ok (.lcmp, 1) := by decide +kernel
theorem d_Md_isOther_121 : decode b_Md_isOther 121 = .ok (.ifCond .gt 7, 3) := by decide +kernel
theorem d_Md_isOther_124 : decode b_Md_isOther 124 = .ok (.iconst 1, 1) := by decide +kernel
theorem d_Md_isOther_125 : decode b_Md_isOther 125 = .ok (.goto 4, 3) := by decide +kernel
theorem d_Md_isOther_128 : decode b_Md_isOther 128 = .ok (.iconst 0, 1) := by decide +kernel
theorem d_Md_isOther_129 : decode b_Md_isOther 129 = .ok (.ireturn, 1) := by decide +kernel
theorem d_Md_numberAt_0 : decode b_Md_numberAt 0 = .ok (.iconst 0, 1) := by decide +kernel
theorem d_Md_numberAt_1 : decode b_Md_numberAt 1 = .ok (.istore_n 2, 1) := by decide +kernel
theorem d_Md_numberAt_2 : decode b_Md_numberAt 2 = .ok (.iload_n 1, 1) := by decide +kernel
theorem d_Md_numberAt_3 : decode b_Md_numberAt 3 = .ok (.iconst 1, 1) := by decide +kernel
theorem d_Md_numberAt_4 : decode b_Md_numberAt 4 = .ok (.iadd, 1) := by decide +kernel
theorem d_Md_numberAt_5 : decode b_Md_numberAt 5 = .ok (.istore_n 3, 1) := by decide +kernel
theorem d_Md_numberAt_6 : decode b_Md_numberAt 6 = .ok (.aload_n 0, 1) := by decide +kernel
theorem d_Md_numberAt_7 : decode b_Md_numberAt 7 = .ok (.getfield 13, 3) := by decide +kernel
theorem d_Md_numberAt_10 : decode b_Md_numberAt 10 = .ok (.iload_n 3, 1) := by decide +kernel
theorem d_Md_numberAt_11 : decode b_Md_numberAt 11 = .ok (.iaload, 1) := by decide +kernel
theorem d_Md_numberAt_12 : decode b_Md_numberAt 12 = .ok (.invokestatic 75, 3) := by decide +kernel
theorem d_Md_numberAt_15 : decode b_Md_numberAt 15 = .ok (.ifCond .eq 24, 3) := by decide +kernel
theorem d_Md_numberAt_18 : decode b_Md_numberAt 18 = .ok (.bipush 10, 2) := by decide +kernel
theorem d_Md_numberAt_20 : decode b_Md_numberAt 20 = .ok (.iload_n 2, 1) := by decide +kernel
theorem d_Md_numberAt_21 : decode b_Md_numberAt 21 = .ok (.imul, 1) := by decide +kernel
theorem d_Md_numberAt_22 : decode b_Md_numberAt 22 = .ok (.aload_n 0, 1) := by decide +kernel
theorem d_Md_numberAt_23 : decode b_Md_numberAt 23 = .ok (.getfield 13, 3) := by decide +kernel
theorem d_Md_numberAt_26 : decode b_Md_numberAt 26 = .ok (.iload_n 3, 1) := by decide +kernel
theorem d_Md_numberAt_27 : decode b_Md_numberAt 27 = .ok (.iaload, 1) := by decide +kernel
theorem d_Md_numberAt_28 : decode b_Md_numberAt 28 = .ok (.iadd, 1) := by decide +kernel
theorem d_Md_numberAt_29 : decode b_Md_numberAt 29 = .ok (.bipush 48, 2) := by decide +kernel
theorem d_Md_numberAt_31 : decode b_Md_numberAt 31 = .ok (.isub, 1) := by decide +kernel
theorem d_Md_numberAt_32 : decode b_Md_numberAt 32 = .ok (.istore_n 2, 1) := by decide +kernel
theorem d_Md_numberAt_33 : decode b_Md_numberAt 33 = .ok (.iinc 3 1, 3) := by decide +kernel
theorem d_Md_numberAt_36 : decode b_Md_numberAt 36 = .ok (.goto (-30), 3) := by decide +kernel
theorem d_Md_numberAt_39 : decode b_Md_numberAt 39 = .ok (.iload_n 2, 1) := by decide +kernel
theorem d_Md_numberAt_40 : decode b_Md_numberAt 40 = .ok (.ireturn, 1) := by decide +kernel
theorem d_Md_holds_0 : decode b_Md_holds 0 = .ok (.aload_n 0, 1) := by decide +kernel
theorem d_Md_holds_1 : decode b_Md_holds 1 = .ok (.getfield 13, 3) := by decide +kernel
theorem d_Md_holds_4 : decode b_Md_holds 4 = .ok (.iload_n 1, 1) := by decide +kernel
theorem d_Md_holds_5 : decode b_Md_holds 5 = .ok (.iaload, 1) := by decide +kernel
theorem d_Md_holds_6 : decode b_Md_holds 6 = .ok (.lookupswitch 122 #[(67, 63), (72, 73), (83, 82), (86, 90), (87, 50)], 50) := by decide +kernel
theorem d_Md_holds_56 : decode b_Md_holds 56 = .ok (.aload_n 0, 1) := by decide +kernel
theorem d_Md_holds_57 : decode b_Md_holds 57 = .ok (.getfield 103, 3) := by decide +kernel
theorem d_Md_holds_60 : decode b_Md_holds 60 = .ok (.ifCond .ne 7, 3) := by decide +kernel
theorem d_Md_holds_63 : decode b_Md_holds 63 = .ok (.iconst 1, 1) := by decide +kernel
theorem d_Md_holds_64 : decode b_Md_holds 64 = .ok (.goto 4, 3) := by decide +kernel
theorem d_Md_holds_67 : decode b_Md_holds 67 = .ok (.iconst 0, 1) := by decide +kernel
theorem d_Md_holds_68 : decode b_Md_holds 68 = .ok (.ireturn, 1) := by decide +kernel
theorem d_Md_holds_69 : decode b_Md_holds 69 = .ok (.aload_n 0, 1) := by decide +kernel
theorem d_Md_holds_70 : decode b_Md_holds 70 = .ok (.iload_n 2, 1) := by decide +kernel
theorem d_Md_holds_71 : decode b_Md_holds 71 = .ok (.lload_n 3, 1) := by decide +kernel
theorem d_Md_holds_72 : decode b_Md_holds 72 = .ok (.sipush 10000, 3) := by decide +kernel
theorem d_Md_holds_75 : decode b_Md_holds 75 = .ok (.invokevirtual 129, 3) := by decide +kernel
theorem d_Md_holds_78 : decode b_Md_holds 78 = .ok (.ireturn, 1) := by decide +kernel
theorem d_Md_holds_79 : decode b_Md_holds 79 = .ok (.aload_n 0, 1) := by decide +kernel
theorem d_Md_holds_80 : decode b_Md_holds 80 = .ok (.iload_n 2, 1) := by decide +kernel
theorem d_Md_holds_81 : decode b_Md_holds 81 = .ok (.lload_n 3, 1) := by decide +kernel
theorem d_Md_holds_82 : decode b_Md_holds 82 = .ok (.bipush 100, 2) := by decide +kernel
theorem d_Md_holds_84 : decode b_Md_holds 84 = .ok (.invokevirtual 129, 3) := by decide +kernel
theorem d_Md_holds_87 : decode b_Md_holds 87 = .ok (.ireturn, 1) := by decide +kernel
theorem d_Md_holds_88 : decode b_Md_holds 88 = .ok (.aload_n 0, 1) := by decide +kernel
theorem d_Md_holds_89 : decode b_Md_holds 89 = .ok (.iload_n 2, 1) := by decide +kernel
theorem d_Md_holds_90 : decode b_Md_holds 90 = .ok (.lload_n 3, 1) := by decide +kernel
theorem d_Md_holds_91 : decode b_Md_holds 91 = .ok (.iconst 1, 1) := by decide +kernel
theorem d_Md_holds_92 : decode b_Md_holds 92 = .ok (.invokevirtual 129, 3) := by decide +kernel
theorem d_Md_holds_95 : decode b_Md_holds 95 = .ok (.ireturn, 1) := by decide +kernel
theorem d_Md_holds_96 : decode b_Md_holds 96 = .ok (.lload_n 3, 1) := by decide +kernel
theorem d_Md_holds_97 : decode b_Md_holds 97 = .ok (.lconst 0, 1) := by decide +kernel
theorem d_Md_holds_98 : decode b_Md_holds 98 = .ok (.lcmp, 1) := by decide +kernel
theorem d_Md_holds_99 : decode b_Md_holds 99 = .ok (.ifCond .le 27, 3) := by decide +kernel
theorem d_Md_holds_102 : decode b_Md_holds 102 = .ok (.ldc2_w 133, 3) := by decide +kernel
theorem d_Md_holds_105 : decode b_Md_holds 105 = .ok (.aload_n 0, 1) := by decide +kernel
theorem d_Md_holds_106 : decode b_Md_holds 106 = .ok (.invokevirtual 135, 3) := by decide +kernel
theorem d_Md_holds_109 : decode b_Md_holds 109 = .ok (.lmul, 1) := by decide +kernel
theorem d_Md_holds_110 : decode b_Md_holds 110 = .ok (.aload_n 0, 1) := by decide +kernel
theorem d_Md_holds_111 : decode b_Md_holds 111 = .ok (.iload_n 1, 1) := by decide +kernel
theorem d_Md_holds_112 : decode b_Md_holds 112 = .ok (.invokevirtual 139, 3) := by decide +kernel
theorem d_Md_holds_115 : decode b_Md_holds 115 = .ok (.i2l, 1) := by decide +kernel
theorem d_Md_holds_116 : decode b_Md_holds 116 = .ok (.lload_n 3, 1) := by decide +kernel
theorem d_Md_holds_117 : decode b_Md_holds 117 = .ok (.lmul, 1) := by decide +kernel
theorem d_Md_holds_118 : decode b_Md_holds 118 = .ok (.lcmp, 1) := by decide +kernel
theorem d_Md_holds_119 : decode b_Md_holds 119 = .ok (.ifCond .gt 7, 3) := by decide +kernel
theorem d_Md_holds_122 : decode b_Md_holds 122 = .ok (.iconst 1, 1) := by decide +kernel
theorem d_Md_holds_123 : decode b_Md_holds 123 = .ok (.goto 4, 3) := by decide +kernel
theorem d_Md_holds_126 : decode b_Md_holds 126 = .ok (.iconst 0, 1) := by decide +kernel
theorem d_Md_holds_127 : decode b_Md_holds 127 = .ok (.ireturn, 1) := by decide +kernel
theorem d_Md_holds_128 : decode b_Md_holds 128 = .ok (.aload_n 0, 1) := by decide +kernel
theorem d_Md_holds_129 : decode b_Md_holds 129 = .ok (.getfield 106, 3) := by decide +kernel
theorem d_Md_holds_132 : decode b_Md_holds 132 = .ok (.aload_n 0, 1) := by decide +kernel
theorem d_Md_holds_133 : decode b_Md_holds 133 = .ok (.iload_n 1, 1) := by decide +kernel
theorem d_Md_holds_134 : decode b_Md_holds 134 = .ok (.invokevirtual 139, 3) := by decide +kernel
theorem d_Md_holds_137 : decode b_Md_holds 137 = .ok (.ishr, 1) := by decide +kernel
theorem d_Md_holds_138 : decode b_Md_holds 138 = .ok (.iconst 1, 1) := by decide +kernel
theorem d_Md_holds_139 : decode b_Md_holds 139 = .ok (.iand, 1) := by decide +kernel
theorem d_Md_holds_140 : decode b_Md_holds 140 = .ok (.iconst 1, 1) := by decide +kernel
theorem d_Md_holds_141 : decode b_Md_holds 141 = .ok (.if_icmp .ne 7, 3) := by decide +kernel
theorem d_Md_holds_144 : decode b_Md_holds 144 = .ok (.iconst 1, 1) := by decide +kernel
theorem d_Md_holds_145 : decode b_Md_holds 145 = .ok (.goto 4, 3) := by decide +kernel
theorem d_Md_holds_148 : decode b_Md_holds 148 = .ok (.iconst 0, 1) := by decide +kernel
theorem d_Md_holds_149 : decode b_Md_holds 149 = .ok (.ireturn, 1) := by decide +kernel
theorem d_Md_ruled_0 : decode b_Md_ruled 0 = .ok (.iconst 0, 1) := by decide +kernel
theorem d_Md_ruled_1 : decode b_Md_ruled 1 = .ok (.istore 5, 2) := by decide +kernel
theorem d_Md_ruled_3 : decode b_Md_ruled 3 = .ok (.aload_n 0, 1) := by decide +kernel
theorem d_Md_ruled_4 : decode b_Md_ruled 4 = .ok (.getfield 52, 3) := by decide +kernel
theorem d_Md_ruled_7 : decode b_Md_ruled 7 = .ok (.iconst 0, 1) := by decide +kernel
theorem d_Md_ruled_8 : decode b_Md_ruled 8 = .ok (.iconst 1, 1) := by decide +kernel
theorem d_Md_ruled_9 : decode b_Md_ruled 9 = .ok (.bastore, 1) := by decide +kernel
theorem d_Md_ruled_10 : decode b_Md_ruled 10 = .ok (.aload_n 0, 1) := by decide +kernel
theorem d_Md_ruled_11 : decode b_Md_ruled 11 = .ok (.getfield 55, 3) := by decide +kernel
theorem d_Md_ruled_14 : decode b_Md_ruled 14 = .ok (.iconst 0, 1) := by decide +kernel
theorem d_Md_ruled_15 : decode b_Md_ruled 15 = .ok (.iconst 0, 1) := by decide +kernel
theorem d_Md_ruled_16 : decode b_Md_ruled 16 = .ok (.bastore, 1) := by decide +kernel
theorem d_Md_ruled_17 : decode b_Md_ruled 17 = .ok (.aload_n 0, 1) := by decide +kernel
theorem d_Md_ruled_18 : decode b_Md_ruled 18 = .ok (.getfield 58, 3) := by decide +kernel
theorem d_Md_ruled_21 : decode b_Md_ruled 21 = .ok (.iconst 0, 1) := by decide +kernel
theorem d_Md_ruled_22 : decode b_Md_ruled 22 = .ok (.iconst 1, 1) := by decide +kernel
theorem d_Md_ruled_23 : decode b_Md_ruled 23 = .ok (.bastore, 1) := by decide +kernel
theorem d_Md_ruled_24 : decode b_Md_ruled 24 = .ok (.aload_n 0, 1) := by decide +kernel
theorem d_Md_ruled_25 : decode b_Md_ruled 25 = .ok (.iconst 0, 1) := by decide +kernel
theorem d_Md_ruled_26 : decode b_Md_ruled 26 = .ok (.putfield 142, 3) := by decide +kernel
theorem d_Md_ruled_29 : decode b_Md_ruled 29 = .ok (.aload_n 0, 1) := by decide +kernel
theorem d_Md_ruled_30 : decode b_Md_ruled 30 = .ok (.getfield 16, 3) := by decide +kernel
theorem d_Md_ruled_33 : decode b_Md_ruled 33 = .ok (.iload_n 1, 1) := by decide +kernel
theorem d_Md_ruled_34 : decode b_Md_ruled 34 = .ok (.iaload, 1) := by decide +kernel
theorem d_Md_ruled_35 : decode b_Md_ruled 35 = .ok (.istore 6, 2) := by decide +kernel
theorem d_Md_ruled_37 : decode b_Md_ruled 37 = .ok (.aload_n 0, 1) := by decide +kernel
theorem d_Md_ruled_38 : decode b_Md_ruled 38 = .ok (.getfield 13, 3) := by decide +kernel
theorem d_Md_ruled_41 : decode b_Md_ruled 41 = .ok (.iload 6, 2) := by decide +kernel
theorem d_Md_ruled_43 : decode b_Md_ruled 43 = .ok (.iaload, 1) := by decide +kernel
theorem d_Md_ruled_44 : decode b_Md_ruled 44 = .ok (.bipush 58, 2) := by decide +kernel
theorem d_Md_ruled_46 : decode b_Md_ruled 46 = .ok (.if_icmp .eq 9, 3) := by decide +kernel
theorem d_Md_ruled_49 : decode b_Md_ruled 49 = .ok (.iinc 6 1, 3) := by decide +kernel
theorem d_Md_ruled_52 : decode b_Md_ruled 52 = .ok (.goto (-15), 3) := by decide +kernel
theorem d_Md_ruled_55 : decode b_Md_ruled 55 = .ok (.iload 6, 2) := by decide +kernel
theorem d_Md_ruled_57 : decode b_Md_ruled 57 = .ok (.iconst 1, 1) := by decide +kernel
theorem d_Md_ruled_58 : decode b_Md_ruled 58 = .ok (.iadd, 1) := by decide +kernel
theorem d_Md_ruled_59 : decode b_Md_ruled 59 = .ok (.istore 7, 2) := by decide +kernel
theorem d_Md_ruled_61 : decode b_Md_ruled 61 = .ok (.aload_n 0, 1) := by decide +kernel
theorem d_Md_ruled_62 : decode b_Md_ruled 62 = .ok (.getfield 13, 3) := by decide +kernel
theorem d_Md_ruled_65 : decode b_Md_ruled 65 = .ok (.iload 7, 2) := by decide +kernel
theorem d_Md_ruled_67 : decode b_Md_ruled 67 = .ok (.iaload, 1) := by decide +kernel
theorem d_Md_ruled_68 : decode b_Md_ruled 68 = .ok (.bipush 59, 2) := by decide +kernel
theorem d_Md_ruled_70 : decode b_Md_ruled 70 = .ok (.if_icmp .eq 295, 3) := by decide +kernel
theorem d_Md_ruled_73 : decode b_Md_ruled 73 = .ok (.aload_n 0, 1) := by decide +kernel
theorem d_Md_ruled_74 : decode b_Md_ruled 74 = .ok (.getfield 13, 3) := by decide +kernel
theorem d_Md_ruled_77 : decode b_Md_ruled 77 = .ok (.iload 7, 2) := by decide +kernel
theorem d_Md_ruled_79 : decode b_Md_ruled 79 = .ok (.iaload, 1) := by decide +kernel
theorem d_Md_ruled_80 : decode b_Md_ruled 80 = .ok (.istore 8, 2) := by decide +kernel
theorem d_Md_ruled_82 : decode b_Md_ruled 82 = .ok (.aload_n 0, 1) := by decide +kernel
theorem d_Md_ruled_83 : decode b_Md_ruled 83 = .ok (.getfield 52, 3) := by decide +kernel
theorem d_Md_ruled_86 : decode b_Md_ruled 86 = .ok (.iload 5, 2) := by decide +kernel
theorem d_Md_ruled_88 : decode b_Md_ruled 88 = .ok (.baload, 1) := by decide +kernel
theorem d_Md_ruled_89 : decode b_Md_ruled 89 = .ok (.ifCond .eq 27, 3) := by decide +kernel
theorem d_Md_ruled_92 : decode b_Md_ruled 92 = .ok (.aload_n 0, 1) := by decide +kernel
theorem d_Md_ruled_93 : decode b_Md_ruled 93 = .ok (.getfield 55, 3) := by decide +kernel
theorem d_Md_ruled_96 : decode b_Md_ruled 96 = .ok (.iload 5, 2) := by decide +kernel
theorem d_Md_ruled_98 : decode b_Md_ruled 98 = .ok (.baload, 1) := by decide +kernel
theorem d_Md_ruled_99 : decode b_Md_ruled 99 = .ok (.ifCond .ne 17, 3) := by decide +kernel
theorem d_Md_ruled_102 : decode b_Md_ruled 102 = .ok (.aload_n 0, 1) := by decide +kernel
theorem d_Md_ruled_103 : decode b_Md_ruled 103 = .ok (.getfield 58, 3) := by decide +kernel
theorem d_Md_ruled_106 : decode b_Md_ruled 106 = .ok (.iload 5, 2) := by decide +kernel
theorem d_Md_ruled_108 : decode b_Md_ruled 108 = .ok (.baload, 1) := by decide +kernel
theorem d_Md_ruled_109 : decode b_Md_ruled 109 = .ok (.ifCond .eq 7, 3) := by decide +kernel
theorem d_Md_ruled_112 : decode b_Md_ruled 112 = .ok (.iconst 1, 1) := by decide +kernel
theorem d_Md_ruled_113 : decode b_Md_ruled 113 = .ok (.goto 4, 3) := by decide +kernel
theorem d_Md_ruled_116 : decode b_Md_ruled 116 = .ok (.iconst 0, 1) := by decide +kernel
theorem d_Md_ruled_117 : decode b_Md_ruled 117 = .ok (.istore 9, 2) := by decide +kernel
theorem d_Md_ruled_119 : decode b_Md_ruled 119 = .ok (.iload 8, 2) := by decide +kernel
theorem d_Md_ruled_121 : decode b_Md_ruled 121 = .ok (.bipush 40, 2) := by decide +kernel
theorem d_Md_ruled_123 : decode b_Md_ruled 123 = .ok (.if_icmp .ne 34, 3) := by decide +kernel
theorem d_Md_ruled_126 : decode b_Md_ruled 126 = .ok (.iinc 5 1, 3) := by decide +kernel
theorem d_Md_ruled_129 : decode b_Md_ruled 129 = .ok (.aload_n 0, 1) := by decide +kernel
theorem d_Md_ruled_130 : decode b_Md_ruled 130 = .ok (.getfield 52, 3) := by decide +kernel
theorem d_Md_ruled_133 : decode b_Md_ruled 133 = .ok (.iload 5, 2) := by decide +kernel
theorem d_Md_ruled_135 : decode b_Md_ruled 135 = .ok (.iload 9, 2) := by decide +kernel
theorem d_Md_ruled_137 : decode b_Md_ruled 137 = .ok (.bastore, 1) := by decide +kernel
theorem d_Md_ruled_138 : decode b_Md_ruled 138 = .ok (.aload_n 0, 1) := by decide +kernel
theorem d_Md_ruled_139 : decode b_Md_ruled 139 = .ok (.getfield 55, 3) := by decide +kernel
theorem d_Md_ruled_142 : decode b_Md_ruled 142 = .ok (.iload 5, 2) := by decide +kernel
theorem d_Md_ruled_144 : decode b_Md_ruled 144 = .ok (.iconst 0, 1) := by decide +kernel
theorem d_Md_ruled_145 : decode b_Md_ruled 145 = .ok (.bastore, 1) := by decide +kernel
theorem d_Md_ruled_146 : decode b_Md_ruled 146 = .ok (.aload_n 0, 1) := by decide +kernel
theorem d_Md_ruled_147 : decode b_Md_ruled 147 = .ok (.getfield 58, 3) := by decide +kernel
theorem d_Md_ruled_150 : decode b_Md_ruled 150 = .ok (.iload 5, 2) := by decide +kernel
theorem d_Md_ruled_152 : decode b_Md_ruled 152 = .ok (.iconst 1, 1) := by decide +kernel
theorem d_Md_ruled_153 : decode b_Md_ruled 153 = .ok (.bastore, 1) := by decide +kernel
theorem d_Md_ruled_154 : decode b_Md_ruled 154 = .ok (.goto 205, 3) := by decide +kernel
theorem d_Md_ruled_157 : decode b_Md_ruled 157 = .ok (.iload 8, 2) := by decide +kernel
theorem d_Md_ruled_159 : decode b_Md_ruled 159 = .ok (.bipush 41, 2) := by decide +kernel
theorem d_Md_ruled_161 : decode b_Md_ruled 161 = .ok (.if_icmp .ne 67, 3) := by decide +kernel
theorem d_Md_ruled_164 : decode b_Md_ruled 164 = .ok (.iinc 5 (-1), 3) := by decide +kernel
theorem d_Md_ruled_167 : decode b_Md_ruled 167 = .ok (.aload_n 0, 1) := by decide +kernel
theorem d_Md_ruled_168 : decode b_Md_ruled 168 = .ok (.getfield 58, 3) := by decide +kernel
theorem d_Md_ruled_171 : decode b_Md_ruled 171 = .ok (.iload 5, 2) := by decide +kernel
theorem d_Md_ruled_173 : decode b_Md_ruled 173 = .ok (.aload_n 0, 1) := by decide +kernel
theorem d_Md_ruled_174 : decode b_Md_ruled 174 = .ok (.getfield 52, 3) := by decide +kernel
theorem d_Md_ruled_177 : decode b_Md_ruled 177 = .ok (.iload 5, 2) := by decide +kernel
theorem d_Md_ruled_179 : decode b_Md_ruled 179 = .ok (.iconst 1, 1) := by decide +kernel
theorem d_Md_ruled_180 : decode b_Md_ruled 180 = .ok (.iadd, 1) := by decide +kernel
theorem d_Md_ruled_181 : decode b_Md_ruled 181 = .ok (.baload, 1) := by decide +kernel
theorem d_Md_ruled_182 : decode b_Md_ruled 182 = .ok (.ifCond .eq 35, 3) := by decide +kernel
theorem d_Md_ruled_185 : decode b_Md_ruled 185 = .ok (.aload_n 0, 1) := by decide +kernel
theorem d_Md_ruled_186 : decode b_Md_ruled 186 = .ok (.getfield 55, 3) := by decide +kernel
theorem d_Md_ruled_189 : decode b_Md_ruled 189 = .ok (.iload 5, 2) := by decide +kernel
theorem d_Md_ruled_191 : decode b_Md_ruled 191 = .ok (.iconst 1, 1) := by decide +kernel
theorem d_Md_ruled_192 : decode b_Md_ruled 192 = .ok (.iadd, 1) := by decide +kernel
theorem d_Md_ruled_193 : decode b_Md_ruled 193 = .ok (.baload, 1) := by decide +kernel
theorem d_Md_ruled_194 : decode b_Md_ruled 194 = .ok (.ifCond .ne 15, 3) := by decide +kernel
theorem d_Md_ruled_197 : decode b_Md_ruled 197 = .ok (.aload_n 0, 1) := by decide +kernel
theorem d_Md_ruled_198 : decode b_Md_ruled 198 = .ok (.getfield 58, 3) := by decide +kernel
theorem d_Md_ruled_201 : decode b_Md_ruled 201 = .ok (.iload 5, 2) := by decide +kernel
theorem d_Md_ruled_203 : decode b_Md_ruled 203 = .ok (.iconst 1, 1) := by decide +kernel
theorem d_Md_ruled_204 : decode b_Md_ruled 204 = .ok (.iadd, 1) := by decide +kernel
theorem d_Md_ruled_205 : decode b_Md_ruled 205 = .ok (.baload, 1) := by decide +kernel
theorem d_Md_ruled_206 : decode b_Md_ruled 206 = .ok (.ifCond .eq 7, 3) := by decide +kernel
theorem d_Md_ruled_209 : decode b_Md_ruled 209 = .ok (.iconst 1, 1) := by decide +kernel
theorem d_Md_ruled_210 : decode b_Md_ruled 210 = .ok (.goto 14, 3) := by decide +kernel
theorem d_Md_ruled_213 : decode b_Md_ruled 213 = .ok (.iconst 0, 1) := by decide +kernel
theorem d_Md_ruled_214 : decode b_Md_ruled 214 = .ok (.goto 10, 3) := by decide +kernel
theorem d_Md_ruled_217 : decode b_Md_ruled 217 = .ok (.aload_n 0, 1) := by decide +kernel
theorem d_Md_ruled_218 : decode b_Md_ruled 218 = .ok (.getfield 58, 3) := by decide +kernel
theorem d_Md_ruled_221 : decode b_Md_ruled 221 = .ok (.iload 5, 2) := by decide +kernel
theorem d_Md_ruled_223 : decode b_Md_ruled 223 = .ok (.baload, 1) := by decide +kernel
theorem d_Md_ruled_224 : decode b_Md_ruled 224 = .ok (.bastore, 1) := by decide +kernel
theorem d_Md_ruled_225 : decode b_Md_ruled 225 = .ok (.goto 134, 3) := by decide +kernel
theorem d_Md_ruled_228 : decode b_Md_ruled 228 = .ok (.iload 8, 2) := by decide +kernel
theorem d_Md_ruled_230 : decode b_Md_ruled 230 = .ok (.bipush 124, 2) := by decide +kernel
theorem d_Md_ruled_232 : decode b_Md_ruled 232 = .ok (.if_icmp .ne 46, 3) := by decide +kernel
theorem d_Md_ruled_235 : decode b_Md_ruled 235 = .ok (.aload_n 0, 1) := by decide +kernel
theorem d_Md_ruled_236 : decode b_Md_ruled 236 = .ok (.getfield 55, 3) := by decide +kernel
theorem d_Md_ruled_239 : decode b_Md_ruled 239 = .ok (.iload 5, 2) := by decide +kernel
theorem d_Md_ruled_241 : decode b_Md_ruled 241 = .ok (.aload_n 0, 1) := by decide +kernel
theorem d_Md_ruled_242 : decode b_Md_ruled 242 = .ok (.getfield 55, 3) := by decide +kernel
theorem d_Md_ruled_245 : decode b_Md_ruled 245 = .ok (.iload 5, 2) := by decide +kernel
theorem d_Md_ruled_247 : decode b_Md_ruled 247 = .ok (.baload, 1) := by decide +kernel
theorem d_Md_ruled_248 : decode b_Md_ruled 248 = .ok (.ifCond .ne 13, 3) := by decide +kernel
theorem d_Md_ruled_251 : decode b_Md_ruled 251 = .ok (.aload_n 0, 1) := by decide +kernel
theorem d_Md_ruled_252 : decode b_Md_ruled 252 = .ok (.getfield 58, 3) := by decide +kernel
theorem d_Md_ruled_255 : decode b_Md_ruled 255 = .ok (.iload 5, 2) := by decide +kernel
theorem d_Md_ruled_257 : decode b_Md_ruled 257 = .ok (.baload, 1) := by decide +kernel
theorem d_Md_ruled_258 : decode b_Md_ruled 258 = .ok (.ifCond .eq 7, 3) := by decide +kernel
theorem d_Md_ruled_261 : decode b_Md_ruled 261 = .ok (.iconst 1, 1) := by decide +kernel
theorem d_Md_ruled_262 : decode b_Md_ruled 262 = .ok (.goto 4, 3) := by decide +kernel
theorem d_Md_ruled_265 : decode b_Md_ruled 265 = .ok (.iconst 0, 1) := by decide +kernel
theorem d_Md_ruled_266 : decode b_Md_ruled 266 = .ok (.bastore, 1) := by decide +kernel
theorem d_Md_ruled_267 : decode b_Md_ruled 267 = .ok (.aload_n 0, 1) := by decide +kernel
theorem d_Md_ruled_268 : decode b_Md_ruled 268 = .ok (.getfield 58, 3) := by decide +kernel
theorem d_Md_ruled_271 : decode b_Md_ruled 271 = .ok (.iload 5, 2) := by decide +kernel
theorem d_Md_ruled_273 : decode b_Md_ruled 273 = .ok (.iconst 1, 1) := by decide +kernel
theorem d_Md_ruled_274 : decode b_Md_ruled 274 = .ok (.bastore, 1) := by decide +kernel
theorem d_Md_ruled_275 : decode b_Md_ruled 275 = .ok (.goto 84, 3) := by decide +kernel
theorem d_Md_ruled_278 : decode b_Md_ruled 278 = .ok (.iload 9, 2) := by decide +kernel
theorem d_Md_ruled_280 : decode b_Md_ruled 280 = .ok (.ifCond .eq 79, 3) := by decide +kernel
theorem d_Md_ruled_283 : decode b_Md_ruled 283 = .ok (.iload 8, 2) := by decide +kernel
theorem d_Md_ruled_285 : decode b_Md_ruled 285 = .ok (.bipush 38, 2) := by decide +kernel
theorem d_Md_ruled_287 : decode b_Md_ruled 287 = .ok (.if_icmp .eq 72, 3) := by decide +kernel
theorem d_Md_ruled_290 : decode b_Md_ruled 290 = .ok (.iload 8, 2) := by decide +kernel
theorem d_Md_ruled_292 : decode b_Md_ruled 292 = .ok (.invokestatic 75, 3) := by decide +kernel
theorem d_Md_ruled_295 : decode b_Md_ruled 295 = .ok (.ifCond .ne 64, 3) := by decide +kernel
theorem d_Md_ruled_298 : decode b_Md_ruled 298 = .ok (.aload_n 0, 1) := by decide +kernel
theorem d_Md_ruled_299 : decode b_Md_ruled 299 = .ok (.getfield 58, 3) := by decide +kernel
theorem d_Md_ruled_302 : decode b_Md_ruled 302 = .ok (.iload 5, 2) := by decide +kernel
theorem d_Md_ruled_304 : decode b_Md_ruled 304 = .ok (.aload_n 0, 1) := by decide +kernel
theorem d_Md_ruled_305 : decode b_Md_ruled 305 = .ok (.iload 7, 2) := by decide +kernel
theorem d_Md_ruled_307 : decode b_Md_ruled 307 = .ok (.iload_n 2, 1) := by decide +kernel
theorem d_Md_ruled_308 : decode b_Md_ruled 308 = .ok (.lload_n 3, 1) := by decide +kernel
theorem d_Md_ruled_309 : decode b_Md_ruled 309 = .ok (.invokevirtual 145, 3) := by decide +kernel
theorem d_Md_ruled_312 : decode b_Md_ruled 312 = .ok (.bastore, 1) := by decide +kernel
theorem d_Md_ruled_313 : decode b_Md_ruled 313 = .ok (.aload_n 0, 1) := by decide +kernel
theorem d_Md_ruled_314 : decode b_Md_ruled 314 = .ok (.getfield 49, 3) := by decide +kernel
theorem d_Md_ruled_317 : decode b_Md_ruled 317 = .ok (.aload_n 0, 1) := by decide +kernel
theorem d_Md_ruled_318 : decode b_Md_ruled 318 = .ok (.getfield 142, 3) := by decide +kernel
theorem d_Md_ruled_321 : decode b_Md_ruled 321 = .ok (.iconst 2, 1) := by decide +kernel
theorem d_Md_ruled_322 : decode b_Md_ruled 322 = .ok (.iload 7, 2) := by decide +kernel
theorem d_Md_ruled_324 : decode b_Md_ruled 324 = .ok (.aload_n 0, 1) := by decide +kernel
theorem d_Md_ruled_325 : decode b_Md_ruled 325 = .ok (.getfield 16, 3) := by decide +kernel
theorem d_Md_ruled_328 : decode b_Md_ruled 328 = .ok (.iload_n 1, 1) := by decide +kernel
theorem d_Md_ruled_329 : decode b_Md_ruled 329 = .ok (.iaload, 1) := by decide +kernel
theorem d_Md_ruled_330 : decode b_Md_ruled 330 = .ok (.isub, 1) := by decide +kernel
theorem d_Md_ruled_331 : decode b_Md_ruled 331 = .ok (.imul, 1) := by decide +kernel
theorem d_Md_ruled_332 : decode b_Md_ruled 332 = .ok (.aload_n 0, 1) := by decide +kernel
theorem d_Md_ruled_333 : decode b_Md_ruled 333 = .ok (.getfield 58, 3) := by decide +kernel
theorem d_Md_ruled_336 : decode b_Md_ruled 336 = .ok (.iload 5, 2) := by decide +kernel
theorem d_Md_ruled_338 : decode b_Md_ruled 338 = .ok (.baload, 1) := by decide +kernel
theorem d_Md_ruled_339 : decode b_Md_ruled 339 = .ok (.ifCond .eq 7, 3) := by decide +kernel
theorem d_Md_ruled_342 : decode b_Md_ruled 342 = .ok (.iconst 1, 1) := by decide +kernel
theorem d_Md_ruled_343 : decode b_Md_ruled 343 = .ok (.goto 4, 3) := by decide +kernel
theorem d_Md_ruled_346 : decode b_Md_ruled 346 = .ok (.iconst 0, 1) := by decide +kernel
theorem d_Md_ruled_347 : decode b_Md_ruled 347 = .ok (.iadd, 1) := by decide +kernel
theorem d_Md_ruled_348 : decode b_Md_ruled 348 = .ok (.iastore, 1) := by decide +kernel
theorem d_Md_ruled_349 : decode b_Md_ruled 349 = .ok (.aload_n 0, 1) := by decide +kernel
theorem d_Md_ruled_350 : decode b_Md_ruled 350 = .ok (.dup, 1) := by decide +kernel
theorem d_Md_ruled_351 : decode b_Md_ruled 351 = .ok (.getfield 142, 3) := by decide +kernel
theorem d_Md_ruled_354 : decode b_Md_ruled 354 = .ok (.iconst 1, 1) := by decide +kernel
theorem d_Md_ruled_355 : decode b_Md_ruled 355 = .ok (.iadd, 1) := by decide +kernel
theorem d_Md_ruled_356 : decode b_Md_ruled 356 = .ok (.putfield 142, 3) := by decide +kernel
theorem d_Md_ruled_359 : decode b_Md_ruled 359 = .ok (.iinc 7 1, 3) := by decide +kernel
theorem d_Md_ruled_362 : decode b_Md_ruled 362 = .ok (.goto (-301), 3) := by decide +kernel
theorem d_Md_ruled_365 : decode b_Md_ruled 365 = .ok (.aload_n 0, 1) := by decide +kernel
theorem d_Md_ruled_366 : decode b_Md_ruled 366 = .ok (.getfield 55, 3) := by decide +kernel
theorem d_Md_ruled_369 : decode b_Md_ruled 369 = .ok (.iconst 0, 1) := by decide +kernel
theorem d_Md_ruled_370 : decode b_Md_ruled 370 = .ok (.baload, 1) := by decide +kernel
theorem d_Md_ruled_371 : decode b_Md_ruled 371 = .ok (.ifCond .ne 12, 3) := by decide +kernel
theorem d_Md_ruled_374 : decode b_Md_ruled 374 = .ok (.aload_n 0, 1) := by decide +kernel
theorem d_Md_ruled_375 : decode b_Md_ruled 375 = .ok (.getfield 58, 3) := by decide +kernel
theorem d_Md_ruled_378 : decode b_Md_ruled 378 = .ok (.iconst 0, 1) := by decide +kernel
theorem d_Md_ruled_379 : decode b_Md_ruled 379 = .ok (.baload, 1) := by decide +kernel
theorem d_Md_ruled_380 : decode b_Md_ruled 380 = .ok (.ifCond .eq 7, 3) := by decide +kernel
theorem d_Md_ruled_383 : decode b_Md_ruled 383 = .ok (.iconst 1, 1) := by decide +kernel
theorem d_Md_ruled_384 : decode b_Md_ruled 384 = .ok (.goto 4, 3) := by decide +kernel
theorem d_Md_ruled_387 : decode b_Md_ruled 387 = .ok (.iconst 0, 1) := by decide +kernel
theorem d_Md_ruled_388 : decode b_Md_ruled 388 = .ok (.ireturn, 1) := by decide +kernel
theorem d_Md_verdict_0 : decode b_Md_verdict 0 = .ok (.iload_n 1, 1) := by decide +kernel
theorem d_Md_verdict_1 : decode b_Md_verdict 1 = .ok (.i2l, 1) := by decide +kernel
theorem d_Md_verdict_2 : decode b_Md_verdict 2 = .ok (.lconst 1, 1) := by decide +kernel
theorem d_Md_verdict_3 : decode b_Md_verdict 3 = .ok (.ldc2_w 93, 3) := by decide +kernel
theorem d_Md_verdict_6 : decode b_Md_verdict 6 = .ok (.invokestatic 68, 3) := by decide +kernel
theorem d_Md_verdict_9 : decode b_Md_verdict 9 = .ok (.ifCond .eq 14, 3) := by decide +kernel
theorem d_Md_verdict_12 : decode b_Md_verdict 12 = .ok (.lload_n 2, 1) := by decide +kernel
theorem d_Md_verdict_13 : decode b_Md_verdict 13 = .ok (.lconst 0, 1) := by decide +kernel
theorem d_Md_verdict_14 : decode b_Md_verdict 14 = .ok (.ldc2_w 97, 3) := by decide +kernel
theorem d_Md_verdict_17 : decode b_Md_verdict 17 = .ok (.invokestatic 68, 3) := by decide +kernel
theorem d_Md_verdict_20 : decode b_Md_verdict 20 = .ok (.ifCond .ne 9, 3) := by decide +kernel
theorem d_Md_verdict_23 : decode b_Md_verdict 23 = .ok (.aload_n 0, 1) := by decide +kernel
theorem d_Md_verdict_24 : decode b_Md_verdict 24 = .ok (.iconst 1, 1) := by decide +kernel
theorem d_Md_verdict_25 : decode b_Md_verdict 25 = .ok (.invokevirtual 99, 3) := by decide +kernel
theorem d_Md_verdict_28 : decode b_Md_verdict 28 = .ok (.ireturn, 1) := by decide +kernel
theorem d_Md_verdict_29 : decode b_Md_verdict 29 = .ok (.aload_n 0, 1) := by decide +kernel
theorem d_Md_verdict_30 : decode b_Md_verdict 30 = .ok (.iconst 0, 1) := by decide +kernel
theorem d_Md_verdict_31 : decode b_Md_verdict 31 = .ok (.putfield 61, 3) := by decide +kernel
theorem d_Md_verdict_34 : decode b_Md_verdict 34 = .ok (.aload_n 0, 1) := by decide +kernel
theorem d_Md_verdict_35 : decode b_Md_verdict 35 = .ok (.iload_n 1, 1) := by decide +kernel
theorem d_Md_verdict_36 : decode b_Md_verdict 36 = .ok (.invokevirtual 149, 3) := by decide +kernel
theorem d_Md_verdict_39 : decode b_Md_verdict 39 = .ok (.istore 4, 2) := by decide +kernel
theorem d_Md_verdict_41 : decode b_Md_verdict 41 = .ok (.iload 4, 2) := by decide +kernel
theorem d_Md_verdict_43 : decode b_Md_verdict 43 = .ok (.ifCond .ge 5, 3) := by decide +kernel
theorem d_Md_verdict_46 : decode b_Md_verdict 46 = .ok (.iconst 3, 1) := by decide +kernel
theorem d_Md_verdict_47 : decode b_Md_verdict 47 = .ok (.ireturn, 1) := by decide +kernel
theorem d_Md_verdict_48 : decode b_Md_verdict 48 = .ok (.aload_n 0, 1) := by decide +kernel
theorem d_Md_verdict_49 : decode b_Md_verdict 49 = .ok (.getfield 106, 3) := by decide +kernel
theorem d_Md_verdict_52 : decode b_Md_verdict 52 = .ok (.ifCond .eq 19, 3) := by decide +kernel
theorem d_Md_verdict_55 : decode b_Md_verdict 55 = .ok (.aload_n 0, 1) := by decide +kernel
theorem d_Md_verdict_56 : decode b_Md_verdict 56 = .ok (.getfield 106, 3) := by decide +kernel
theorem d_Md_verdict_59 : decode b_Md_verdict 59 = .ok (.aload_n 0, 1) := by decide +kernel
theorem d_Md_verdict_60 : decode b_Md_verdict 60 = .ok (.getfield 111, 3) := by decide +kernel
theorem d_Md_verdict_63 : decode b_Md_verdict 63 = .ok (.iconst (-1), 1) := by decide +kernel
theorem d_Md_verdict_64 : decode b_Md_verdict 64 = .ok (.ixor, 1) := by decide +kernel
theorem d_Md_verdict_65 : decode b_Md_verdict 65 = .ok (.iand, 1) := by decide +kernel
theorem d_Md_verdict_66 : decode b_Md_verdict 66 = .ok (.ifCond .ne 5, 3) := by decide +kernel
theorem d_Md_verdict_69 : decode b_Md_verdict 69 = .ok (.iconst 2, 1) := by decide +kernel
theorem d_Md_verdict_70 : decode b_Md_verdict 70 = .ok (.ireturn, 1) := by decide +kernel
theorem d_Md_verdict_71 : decode b_Md_verdict 71 = .ok (.aload_n 0, 1) := by decide +kernel
theorem d_Md_verdict_72 : decode b_Md_verdict 72 = .ok (.iload 4, 2) := by decide +kernel
theorem d_Md_verdict_74 : decode b_Md_verdict 74 = .ok (.iload_n 1, 1) := by decide +kernel
theorem d_Md_verdict_75 : decode b_Md_verdict 75 = .ok (.lload_n 2, 1) := by decide +kernel
theorem d_Md_verdict_76 : decode b_Md_verdict 76 = .ok (.invokevirtual 152, 3) := by decide +kernel
theorem d_Md_verdict_79 : decode b_Md_verdict 79 = .ok (.ifCond .eq 7, 3) := by decide +kernel
theorem d_Md_verdict_82 : decode b_Md_verdict 82 = .ok (.iconst 1, 1) := by decide +kernel
theorem d_Md_verdict_83 : decode b_Md_verdict 83 = .ok (.goto 4, 3) := by decide +kernel
theorem d_Md_verdict_86 : decode b_Md_verdict 86 = .ok (.iconst 0, 1) := by decide +kernel
theorem d_Md_verdict_87 : decode b_Md_verdict 87 = .ok (.ireturn, 1) := by decide +kernel
theorem d_Md_why_0 : decode b_Md_why 0 = .ok (.aload_n 0, 1) := by decide +kernel
theorem d_Md_why_1 : decode b_Md_why 1 = .ok (.iconst 0, 1) := by decide +kernel
theorem d_Md_why_2 : decode b_Md_why 2 = .ok (.putfield 61, 3) := by decide +kernel
theorem d_Md_why_5 : decode b_Md_why 5 = .ok (.iload_n 1, 1) := by decide +kernel
theorem d_Md_why_6 : decode b_Md_why 6 = .ok (.ifCond .lt 20, 3) := by decide +kernel
theorem d_Md_why_9 : decode b_Md_why 9 = .ok (.iload_n 1, 1) := by decide +kernel
theorem d_Md_why_10 : decode b_Md_why 10 = .ok (.aload_n 0, 1) := by decide +kernel
theorem d_Md_why_11 : decode b_Md_why 11 = .ok (.getfield 142, 3) := by decide +kernel
theorem d_Md_why_14 : decode b_Md_why 14 = .ok (.if_icmp .ge 12, 3) := by decide +kernel
theorem d_Md_why_17 : decode b_Md_why 17 = .ok (.aload_n 0, 1) := by decide +kernel
theorem d_Md_why_18 : decode b_Md_why 18 = .ok (.getfield 49, 3) := by decide +kernel
theorem d_Md_why_21 : decode b_Md_why 21 = .ok (.iload_n 1, 1) := by decide +kernel
theorem d_Md_why_22 : decode b_Md_why 22 = .ok (.iaload, 1) := by decide +kernel
theorem d_Md_why_23 : decode b_Md_why 23 = .ok (.goto 4, 3) := by decide +kernel
theorem d_Md_why_26 : decode b_Md_why 26 = .ok (.iconst (-1), 1) := by decide +kernel
theorem d_Md_why_27 : decode b_Md_why 27 = .ok (.ireturn, 1) := by decide +kernel
theorem d_Md_share_0 : decode b_Md_share 0 = .ok (.lload_n 1, 1) := by decide +kernel
theorem d_Md_share_1 : decode b_Md_share 1 = .ok (.lconst 0, 1) := by decide +kernel
theorem d_Md_share_2 : decode b_Md_share 2 = .ok (.ldc2_w 97, 3) := by decide +kernel
theorem d_Md_share_5 : decode b_Md_share 5 = .ok (.invokestatic 68, 3) := by decide +kernel
theorem d_Md_share_8 : decode b_Md_share 8 = .ok (.ifCond .eq 13, 3) := by decide +kernel
theorem d_Md_share_11 : decode b_Md_share 11 = .ok (.iload_n 3, 1) := by decide +kernel
theorem d_Md_share_12 : decode b_Md_share 12 = .ok (.i2l, 1) := by decide +kernel
theorem d_Md_share_13 : decode b_Md_share 13 = .ok (.lconst 0, 1) := by decide +kernel
theorem d_Md_share_14 : decode b_Md_share 14 = .ok (.lconst 1, 1) := by decide +kernel
theorem d_Md_share_15 : decode b_Md_share 15 = .ok (.invokestatic 68, 3) := by decide +kernel
theorem d_Md_share_18 : decode b_Md_share 18 = .ok (.ifCond .ne 10, 3) := by decide +kernel
theorem d_Md_share_21 : decode b_Md_share 21 = .ok (.aload_n 0, 1) := by decide +kernel
theorem d_Md_share_22 : decode b_Md_share 22 = .ok (.iconst 1, 1) := by decide +kernel
theorem d_Md_share_23 : decode b_Md_share 23 = .ok (.invokevirtual 99, 3) := by decide +kernel
theorem d_Md_share_26 : decode b_Md_share 26 = .ok (.i2l, 1) := by decide +kernel
theorem d_Md_share_27 : decode b_Md_share 27 = .ok (.lreturn, 1) := by decide +kernel
theorem d_Md_share_28 : decode b_Md_share 28 = .ok (.lload_n 1, 1) := by decide +kernel
theorem d_Md_share_29 : decode b_Md_share 29 = .ok (.lconst 0, 1) := by decide +kernel
theorem d_Md_share_30 : decode b_Md_share 30 = .ok (.lcmp, 1) := by decide +kernel
theorem d_Md_share_31 : decode b_Md_share 31 = .ok (.ifCond .ne 10, 3) := by decide +kernel
theorem d_Md_share_34 : decode b_Md_share 34 = .ok (.aload_n 0, 1) := by decide +kernel
theorem d_Md_share_35 : decode b_Md_share 35 = .ok (.iconst 2, 1) := by decide +kernel
theorem d_Md_share_36 : decode b_Md_share 36 = .ok (.invokevirtual 99, 3) := by decide +kernel
theorem d_Md_share_39 : decode b_Md_share 39 = .ok (.i2l, 1) := by decide +kernel
theorem d_Md_share_40 : decode b_Md_share 40 = .ok (.lreturn, 1) := by decide +kernel
theorem d_Md_share_41 : decode b_Md_share 41 = .ok (.aload_n 0, 1) := by decide +kernel
theorem d_Md_share_42 : decode b_Md_share 42 = .ok (.iconst 0, 1) := by decide +kernel
theorem d_Md_share_43 : decode b_Md_share 43 = .ok (.putfield 61, 3) := by decide +kernel
theorem d_Md_share_46 : decode b_Md_share 46 = .ok (.aload_n 0, 1) := by decide +kernel
theorem d_Md_share_47 : decode b_Md_share 47 = .ok (.invokevirtual 135, 3) := by decide +kernel
theorem d_Md_share_50 : decode b_Md_share 50 = .ok (.lstore 4, 2) := by decide +kernel
theorem d_Md_share_52 : decode b_Md_share 52 = .ok (.lload 4, 2) := by decide +kernel
theorem d_Md_share_54 : decode b_Md_share 54 = .ok (.lstore 6, 2) := by decide +kernel
theorem d_Md_share_56 : decode b_Md_share 56 = .ok (.lload_n 1, 1) := by decide +kernel
theorem d_Md_share_57 : decode b_Md_share 57 = .ok (.lstore 8, 2) := by decide +kernel
theorem d_Md_share_59 : decode b_Md_share 59 = .ok (.lload 8, 2) := by decide +kernel
theorem d_Md_share_61 : decode b_Md_share 61 = .ok (.lconst 0, 1) := by decide +kernel
theorem d_Md_share_62 : decode b_Md_share 62 = .ok (.lcmp, 1) := by decide +kernel
theorem d_Md_share_63 : decode b_Md_share 63 = .ok (.ifCond .le 21, 3) := by decide +kernel
theorem d_Md_share_66 : decode b_Md_share 66 = .ok (.lload 6, 2) := by decide +kernel
theorem d_Md_share_68 : decode b_Md_share 68 = .ok (.lload 8, 2) := by decide +kernel
theorem d_Md_share_70 : decode b_Md_share 70 = .ok (.lrem, 1) := by decide +kernel
theorem d_Md_share_71 : decode b_Md_share 71 = .ok (.lstore 10, 2) := by decide +kernel
theorem d_Md_share_73 : decode b_Md_share 73 = .ok (.lload 8, 2) := by decide +kernel
theorem d_Md_share_75 : decode b_Md_share 75 = .ok (.lstore 6, 2) := by decide +kernel
theorem d_Md_share_77 : decode b_Md_share 77 = .ok (.lload 10, 2) := by decide +kernel
theorem d_Md_share_79 : decode b_Md_share 79 = .ok (.lstore 8, 2) := by decide +kernel
theorem d_Md_share_81 : decode b_Md_share 81 = .ok (.goto (-22), 3) := by decide +kernel
theorem d_Md_share_84 : decode b_Md_share 84 = .ok (.iload_n 3, 1) := by decide +kernel
theorem d_Md_share_85 : decode b_Md_share 85 = .ok (.ifCond .ne 11, 3) := by decide +kernel
theorem d_Md_share_88 : decode b_Md_share 88 = .ok (.lload 4, 2) := by decide +kernel
theorem d_Md_share_90 : decode b_Md_share 90 = .ok (.lload 6, 2) := by decide +kernel
theorem d_Md_share_92 : decode b_Md_share 92 = .ok (.ldiv, 1) := by decide +kernel
theorem d_Md_share_93 : decode b_Md_share 93 = .ok (.goto 7, 3) := by decide +kernel
theorem d_Md_share_96 : decode b_Md_share 96 = .ok (.lload_n 1, 1) := by decide +kernel
theorem d_Md_share_97 : decode b_Md_share 97 = .ok (.lload 6, 2) := by decide +kernel
theorem d_Md_share_99 : decode b_Md_share 99 = .ok (.ldiv, 1) := by decide +kernel
theorem d_Md_share_100 : decode b_Md_share 100 = .ok (.lreturn, 1) := by decide +kernel
theorem d_Md_isDay_0 : decode b_Md_isDay 0 = .ok (.iload_n 0, 1) := by decide +kernel
theorem d_Md_isDay_1 : decode b_Md_isDay 1 = .ok (.i2l, 1) := by decide +kernel
theorem d_Md_isDay_2 : decode b_Md_isDay 2 = .ok (.lconst 0, 1) := by decide +kernel
theorem d_Md_isDay_3 : decode b_Md_isDay 3 = .ok (.ldc2_w 155, 3) := by decide +kernel
theorem d_Md_isDay_6 : decode b_Md_isDay 6 = .ok (.invokestatic 68, 3) := by decide +kernel
theorem d_Md_isDay_9 : decode b_Md_isDay 9 = .ok (.ireturn, 1) := by decide +kernel
theorem d_Md_proof_0 : decode b_Md_proof 0 = .ok (.iload_n 1, 1) := by decide +kernel
theorem d_Md_proof_1 : decode b_Md_proof 1 = .ok (.i2l, 1) := by decide +kernel
theorem d_Md_proof_2 : decode b_Md_proof 2 = .ok (.lconst 0, 1) := by decide +kernel
theorem d_Md_proof_3 : decode b_Md_proof 3 = .ok (.lconst 1, 1) := by decide +kernel
theorem d_Md_proof_4 : decode b_Md_proof 4 = .ok (.invokestatic 68, 3) := by decide +kernel
theorem d_Md_proof_7 : decode b_Md_proof 7 = .ok (.ifCond .eq 22, 3) := by decide +kernel
theorem d_Md_proof_10 : decode b_Md_proof 10 = .ok (.iload_n 2, 1) := by decide +kernel
theorem d_Md_proof_11 : decode b_Md_proof 11 = .ok (.invokestatic 157, 3) := by decide +kernel
theorem d_Md_proof_14 : decode b_Md_proof 14 = .ok (.ifCond .eq 15, 3) := by decide +kernel
theorem d_Md_proof_17 : decode b_Md_proof 17 = .ok (.iload_n 3, 1) := by decide +kernel
theorem d_Md_proof_18 : decode b_Md_proof 18 = .ok (.invokestatic 157, 3) := by decide +kernel
theorem d_Md_proof_21 : decode b_Md_proof 21 = .ok (.ifCond .eq 8, 3) := by decide +kernel
theorem d_Md_proof_24 : decode b_Md_proof 24 = .ok (.iload_n 2, 1) := by decide +kernel
theorem d_Md_proof_25 : decode b_Md_proof 25 = .ok (.iload_n 3, 1) := by decide +kernel
theorem d_Md_proof_26 : decode b_Md_proof 26 = .ok (.if_icmp .le 9, 3) := by decide +kernel
theorem d_Md_proof_29 : decode b_Md_proof 29 = .ok (.aload_n 0, 1) := by decide +kernel
theorem d_Md_proof_30 : decode b_Md_proof 30 = .ok (.iconst 1, 1) := by decide +kernel
theorem d_Md_proof_31 : decode b_Md_proof 31 = .ok (.invokevirtual 99, 3) := by decide +kernel
theorem d_Md_proof_34 : decode b_Md_proof 34 = .ok (.ireturn, 1) := by decide +kernel
theorem d_Md_proof_35 : decode b_Md_proof 35 = .ok (.aload_n 0, 1) := by decide +kernel
theorem d_Md_proof_36 : decode b_Md_proof 36 = .ok (.getfield 160, 3) := by decide +kernel
theorem d_Md_proof_39 : decode b_Md_proof 39 = .ok (.bipush 20, 2) := by decide +kernel
theorem d_Md_proof_41 : decode b_Md_proof 41 = .ok (.if_icmp .ne 9, 3) := by decide +kernel
theorem d_Md_proof_44 : decode b_Md_proof 44 = .ok (.aload_n 0, 1) := by decide +kernel
theorem d_Md_proof_45 : decode b_Md_proof 45 = .ok (.iconst 2, 1) := by decide +kernel
theorem d_Md_proof_46 : decode b_Md_proof 46 = .ok (.invokevirtual 99, 3) := by decide +kernel
theorem d_Md_proof_49 : decode b_Md_proof 49 = .ok (.ireturn, 1) := by decide +kernel
theorem d_Md_proof_50 : decode b_Md_proof 50 = .ok (.aload_n 0, 1) := by decide +kernel
theorem d_Md_proof_51 : decode b_Md_proof 51 = .ok (.iconst 0, 1) := by decide +kernel
theorem d_Md_proof_52 : decode b_Md_proof 52 = .ok (.putfield 61, 3) := by decide +kernel
theorem d_Md_proof_55 : decode b_Md_proof 55 = .ok (.aload_n 0, 1) := by decide +kernel
theorem d_Md_proof_56 : decode b_Md_proof 56 = .ok (.getfield 40, 3) := by decide +kernel
theorem d_Md_proof_59 : decode b_Md_proof 59 = .ok (.aload_n 0, 1) := by decide +kernel
theorem d_Md_proof_60 : decode b_Md_proof 60 = .ok (.getfield 160, 3) := by decide +kernel
theorem d_Md_proof_63 : decode b_Md_proof 63 = .ok (.iload_n 1, 1) := by decide +kernel
theorem d_Md_proof_64 : decode b_Md_proof 64 = .ok (.iastore, 1) := by decide +kernel
theorem d_Md_proof_65 : decode b_Md_proof 65 = .ok (.aload_n 0, 1) := by decide +kernel
theorem d_Md_proof_66 : decode b_Md_proof 66 = .ok (.getfield 43, 3) := by decide +kernel
theorem d_Md_proof_69 : decode b_Md_proof 69 = .ok (.aload_n 0, 1) := by decide +kernel
theorem d_Md_proof_70 : decode b_Md_proof 70 = .ok (.getfield 160, 3) := by decide +kernel
theorem d_Md_proof_73 : decode b_Md_proof 73 = .ok (.iload_n 2, 1) := by decide +kernel
theorem d_Md_proof_74 : decode b_Md_proof 74 = .ok (.iastore, 1) := by decide +kernel
theorem d_Md_proof_75 : decode b_Md_proof 75 = .ok (.aload_n 0, 1) := by decide +kernel
theorem d_Md_proof_76 : decode b_Md_proof 76 = .ok (.getfield 46, 3) := by decide +kernel
theorem d_Md_proof_79 : decode b_Md_proof 79 = .ok (.aload_n 0, 1) := by decide +kernel
theorem d_Md_proof_80 : decode b_Md_proof 80 = .ok (.getfield 160, 3) := by decide +kernel
theorem d_Md_proof_83 : decode b_Md_proof 83 = .ok (.iload_n 3, 1) := by decide +kernel
theorem d_Md_proof_84 : decode b_Md_proof 84 = .ok (.iastore, 1) := by decide +kernel
theorem d_Md_proof_85 : decode b_Md_proof 85 = .ok (.aload_n 0, 1) := by decide +kernel
theorem d_Md_proof_86 : decode b_Md_proof 86 = .ok (.dup, 1) := by decide +kernel
theorem d_Md_proof_87 : decode b_Md_proof 87 = .ok (.getfield 160, 3) := by decide +kernel
theorem d_Md_proof_90 : decode b_Md_proof 90 = .ok (.iconst 1, 1) := by decide +kernel
theorem d_Md_proof_91 : decode b_Md_proof 91 = .ok (.iadd, 1) := by decide +kernel
theorem d_Md_proof_92 : decode b_Md_proof 92 = .ok (.putfield 160, 3) := by decide +kernel
theorem d_Md_proof_95 : decode b_Md_proof 95 = .ok (.aload_n 0, 1) := by decide +kernel
theorem d_Md_proof_96 : decode b_Md_proof 96 = .ok (.getfield 160, 3) := by decide +kernel
theorem d_Md_proof_99 : decode b_Md_proof 99 = .ok (.iconst 1, 1) := by decide +kernel
theorem d_Md_proof_100 : decode b_Md_proof 100 = .ok (.isub, 1) := by decide +kernel
theorem d_Md_proof_101 : decode b_Md_proof 101 = .ok (.ireturn, 1) := by decide +kernel
theorem d_Md_good_0 : decode b_Md_good 0 = .ok (.aload_n 0, 1) := by decide +kernel
theorem d_Md_good_1 : decode b_Md_good 1 = .ok (.iload_n 1, 1) := by decide +kernel
theorem d_Md_good_2 : decode b_Md_good 2 = .ok (.ifCond .lt 34, 3) := by decide +kernel
theorem d_Md_good_5 : decode b_Md_good 5 = .ok (.iload_n 1, 1) := by decide +kernel
theorem d_Md_good_6 : decode b_Md_good 6 = .ok (.aload_n 0, 1) := by decide +kernel
theorem d_Md_good_7 : decode b_Md_good 7 = .ok (.getfield 160, 3) := by decide +kernel
theorem d_Md_good_10 : decode b_Md_good 10 = .ok (.if_icmp .ge 26, 3) := by decide +kernel
theorem d_Md_good_13 : decode b_Md_good 13 = .ok (.lload_n 2, 1) := by decide +kernel
theorem d_Md_good_14 : decode b_Md_good 14 = .ok (.lconst 0, 1) := by decide +kernel
theorem d_Md_good_15 : decode b_Md_good 15 = .ok (.ldc2_w 97, 3) := by decide +kernel
theorem d_Md_good_18 : decode b_Md_good 18 = .ok (.invokestatic 68, 3) := by decide +kernel
theorem d_Md_good_21 : decode b_Md_good 21 = .ok (.ifCond .eq 15, 3) := by decide +kernel
theorem d_Md_good_24 : decode b_Md_good 24 = .ok (.iload 4, 2) := by decide +kernel
theorem d_Md_good_26 : decode b_Md_good 26 = .ok (.invokestatic 157, 3) := by decide +kernel
theorem d_Md_good_29 : decode b_Md_good 29 = .ok (.ifCond .eq 7, 3) := by decide +kernel
theorem d_Md_good_32 : decode b_Md_good 32 = .ok (.iconst 0, 1) := by decide +kernel
theorem d_Md_good_33 : decode b_Md_good 33 = .ok (.goto 4, 3) := by decide +kernel
theorem d_Md_good_36 : decode b_Md_good 36 = .ok (.iconst 1, 1) := by decide +kernel
theorem d_Md_good_37 : decode b_Md_good 37 = .ok (.putfield 61, 3) := by decide +kernel
theorem d_Md_good_40 : decode b_Md_good 40 = .ok (.aload_n 0, 1) := by decide +kernel
theorem d_Md_good_41 : decode b_Md_good 41 = .ok (.getfield 61, 3) := by decide +kernel
theorem d_Md_good_44 : decode b_Md_good 44 = .ok (.ifCond .ne 47, 3) := by decide +kernel
theorem d_Md_good_47 : decode b_Md_good 47 = .ok (.aload_n 0, 1) := by decide +kernel
theorem d_Md_good_48 : decode b_Md_good 48 = .ok (.getfield 40, 3) := by decide +kernel
theorem d_Md_good_51 : decode b_Md_good 51 = .ok (.iload_n 1, 1) := by decide +kernel
theorem d_Md_good_52 : decode b_Md_good 52 = .ok (.iaload, 1) := by decide +kernel
theorem d_Md_good_53 : decode b_Md_good 53 = .ok (.iconst 1, 1) := by decide +kernel
theorem d_Md_good_54 : decode b_Md_good 54 = .ok (.if_icmp .eq 11, 3) := by decide +kernel
theorem d_Md_good_57 : decode b_Md_good 57 = .ok (.lload_n 2, 1) := by decide +kernel
theorem d_Md_good_58 : decode b_Md_good 58 = .ok (.ldc2_w 163, 3) := by decide +kernel
theorem d_Md_good_61 : decode b_Md_good 61 = .ok (.lcmp, 1) := by decide +kernel
theorem d_Md_good_62 : decode b_Md_good 62 = .ok (.ifCond .gt 29, 3) := by decide +kernel
theorem d_Md_good_65 : decode b_Md_good 65 = .ok (.iload 4, 2) := by decide +kernel
theorem d_Md_good_67 : decode b_Md_good 67 = .ok (.aload_n 0, 1) := by decide +kernel
theorem d_Md_good_68 : decode b_Md_good 68 = .ok (.getfield 43, 3) := by decide +kernel
theorem d_Md_good_71 : decode b_Md_good 71 = .ok (.iload_n 1, 1) := by decide +kernel
theorem d_Md_good_72 : decode b_Md_good 72 = .ok (.iaload, 1) := by decide +kernel
theorem d_Md_good_73 : decode b_Md_good 73 = .ok (.if_icmp .lt 18, 3) := by decide +kernel
theorem d_Md_good_76 : decode b_Md_good 76 = .ok (.iload 4, 2) := by decide +kernel
theorem d_Md_good_78 : decode b_Md_good 78 = .ok (.aload_n 0, 1) := by decide +kernel
theorem d_Md_good_79 : decode b_Md_good 79 = .ok (.getfield 46, 3) := by decide +kernel
theorem d_Md_good_82 : decode b_Md_good 82 = .ok (.iload_n 1, 1) := by decide +kernel
theorem d_Md_good_83 : decode b_Md_good 83 = .ok (.iaload, 1) := by decide +kernel
theorem d_Md_good_84 : decode b_Md_good 84 = .ok (.if_icmp .gt 7, 3) := by decide +kernel
theorem d_Md_good_87 : decode b_Md_good 87 = .ok (.iconst 1, 1) := by decide +kernel
theorem d_Md_good_88 : decode b_Md_good 88 = .ok (.goto 4, 3) := by decide +kernel
theorem d_Md_good_91 : decode b_Md_good 91 = .ok (.iconst 0, 1) := by decide +kernel
theorem d_Md_good_92 : decode b_Md_good 92 = .ok (.ireturn, 1) := by decide +kernel
theorem d_Md_count_0 : decode b_Md_count 0 = .ok (.aload_n 0, 1) := by decide +kernel
theorem d_Md_count_1 : decode b_Md_count 1 = .ok (.iconst 0, 1) := by decide +kernel
theorem d_Md_count_2 : decode b_Md_count 2 = .ok (.putfield 61, 3) := by decide +kernel
theorem d_Md_count_5 : decode b_Md_count 5 = .ok (.iconst 0, 1) := by decide +kernel
theorem d_Md_count_6 : decode b_Md_count 6 = .ok (.istore_n 2, 1) := by decide +kernel
theorem d_Md_count_7 : decode b_Md_count 7 = .ok (.iconst 0, 1) := by decide +kernel
theorem d_Md_count_8 : decode b_Md_count 8 = .ok (.istore_n 3, 1) := by decide +kernel
theorem d_Md_count_9 : decode b_Md_count 9 = .ok (.iload_n 3, 1) := by decide +kernel
theorem d_Md_count_10 : decode b_Md_count 10 = .ok (.aload_n 0, 1) := by decide +kernel
theorem d_Md_count_11 : decode b_Md_count 11 = .ok (.getfield 103, 3) := by decide +kernel
theorem d_Md_count_14 : decode b_Md_count 14 = .ok (.if_icmp .ge 30, 3) := by decide +kernel
theorem d_Md_count_17 : decode b_Md_count 17 = .ok (.iload_n 2, 1) := by decide +kernel
theorem d_Md_count_18 : decode b_Md_count 18 = .ok (.aload_n 0, 1) := by decide +kernel
theorem d_Md_count_19 : decode b_Md_count 19 = .ok (.aload_n 0, 1) := by decide +kernel
theorem d_Md_count_20 : decode b_Md_count 20 = .ok (.getfield 25, 3) := by decide +kernel
theorem d_Md_count_23 : decode b_Md_count 23 = .ok (.iload_n 3, 1) := by decide +kernel
theorem d_Md_count_24 : decode b_Md_count 24 = .ok (.iaload, 1) := by decide +kernel
theorem d_Md_count_25 : decode b_Md_count 25 = .ok (.invokevirtual 126, 3) := by decide +kernel
theorem d_Md_count_28 : decode b_Md_count 28 = .ok (.ifCond .eq 7, 3) := by decide +kernel
theorem d_Md_count_31 : decode b_Md_count 31 = .ok (.iconst 0, 1) := by decide +kernel
theorem d_Md_count_32 : decode b_Md_count 32 = .ok (.goto 4, 3) := by decide +kernel
theorem d_Md_count_35 : decode b_Md_count 35 = .ok (.iconst 1, 1) := by decide +kernel
theorem d_Md_count_36 : decode b_Md_count 36 = .ok (.iadd, 1) := by decide +kernel
theorem d_Md_count_37 : decode b_Md_count 37 = .ok (.istore_n 2, 1) := by decide +kernel
theorem d_Md_count_38 : decode b_Md_count 38 = .ok (.iinc 3 1, 3) := by decide +kernel
theorem d_Md_count_41 : decode b_Md_count 41 = .ok (.goto (-32), 3) := by decide +kernel
theorem d_Md_count_44 : decode b_Md_count 44 = .ok (.iload_n 1, 1) := by decide +kernel
theorem d_Md_count_45 : decode b_Md_count 45 = .ok (.tableswitch 84 0 7 #[47, 52, 57, 62, 64, 69, 74, 79], 47) := by decide +kernel
theorem d_Md_count_92 : decode b_Md_count 92 = .ok (.aload_n 0, 1) := by decide +kernel
theorem d_Md_count_93 : decode b_Md_count 93 = .ok (.getfield 72, 3) := by decide +kernel
theorem d_Md_count_96 : decode b_Md_count 96 = .ok (.ireturn, 1) := by decide +kernel
theorem d_Md_count_97 : decode b_Md_count 97 = .ok (.aload_n 0, 1) := by decide +kernel
theorem d_Md_count_98 : decode b_Md_count 98 = .ok (.getfield 86, 3) := by decide +kernel
theorem d_Md_count_101 : decode b_Md_count 101 = .ok (.ireturn, 1) := by decide +kernel
theorem d_Md_count_102 : decode b_Md_count 102 = .ok (.aload_n 0, 1) := by decide +kernel
theorem d_Md_count_103 : decode b_Md_count 103 = .ok (.getfield 103, 3) := by decide +kernel
theorem d_Md_count_106 : decode b_Md_count 106 = .ok (.ireturn, 1) := by decide +kernel
theorem d_Md_count_107 : decode b_Md_count 107 = .ok (.iload_n 2, 1) := by decide +kernel
theorem d_Md_count_108 : decode b_Md_count 108 = .ok (.ireturn, 1) := by decide +kernel
theorem d_Md_count_109 : decode b_Md_count 109 = .ok (.aload_n 0, 1) := by decide +kernel
theorem d_Md_count_110 : decode b_Md_count 110 = .ok (.getfield 106, 3) := by decide +kernel
theorem d_Md_count_113 : decode b_Md_count 113 = .ok (.ireturn, 1) := by decide +kernel
theorem d_Md_count_114 : decode b_Md_count 114 = .ok (.aload_n 0, 1) := by decide +kernel
theorem d_Md_count_115 : decode b_Md_count 115 = .ok (.getfield 114, 3) := by decide +kernel
theorem d_Md_count_118 : decode b_Md_count 118 = .ok (.ireturn, 1) := by decide +kernel
theorem d_Md_count_119 : decode b_Md_count 119 = .ok (.aload_n 0, 1) := by decide +kernel
theorem d_Md_count_120 : decode b_Md_count 120 = .ok (.getfield 160, 3) := by decide +kernel
theorem d_Md_count_123 : decode b_Md_count 123 = .ok (.ireturn, 1) := by decide +kernel
theorem d_Md_count_124 : decode b_Md_count 124 = .ok (.aload_n 0, 1) := by decide +kernel
theorem d_Md_count_125 : decode b_Md_count 125 = .ok (.getfield 142, 3) := by decide +kernel
theorem d_Md_count_128 : decode b_Md_count 128 = .ok (.ireturn, 1) := by decide +kernel
theorem d_Md_count_129 : decode b_Md_count 129 = .ok (.iconst (-1), 1) := by decide +kernel
theorem d_Md_count_130 : decode b_Md_count 130 = .ok (.ireturn, 1) := by decide +kernel
end
section
def m_Or_isCode (p1 : Int32)  : Option Bool :=
    if p1 < 1 then (
    some (false))
    else (
    if 999999 < p1 then (
    some (false))
    else (
    some (true)))
def m_Or_isLand (p1 : Int32)  : Option Bool :=
    if p1 < 0 then (
    some (false))
    else (
    if 10 ≤ p1 then (
    some (false))
    else (
    some (true)))
def m_Or_isCents (p1 : Int64)  : Option Bool :=
    if (lg_cmp p1 0) < 0 then (
    some (false))
    else (
    if 0 < (lg_cmp p1 1000000000) then (
    some (false))
    else (
    some (true)))
def m_Or_isProcess (p1 : Int32)  : Option Bool :=
    if p1 < 0 then (
    some (false))
    else (
    if 15 < p1 then (
    some (false))
    else (
    some (true)))
def m_Or_isDay (p1 : Int32)  : Option Bool :=
    if p1 < 0 then (
    some (false))
    else (
    if 100000 < p1 then (
    some (false))
    else (
    some (true)))
def m_Or_isDigit (p1 : Int32)  : Option Bool :=
    if p1 < 48 then (
    some (false))
    else (
    if 57 < p1 then (
    some (false))
    else (
    some (true)))
def m_Or_isLetter (p1 : Int32)  : Option Bool :=
    if p1 < 65 then (
    some (false))
    else (
    if 90 < p1 then (
    some (false))
    else (
    some (true)))
def m_Or_hasBit (p1 : Int32) (p2 : Int32)  : Option Bool :=
    if ((p1 >>> (p2 &&& 31)) &&& 1) = 1 then (
    some (true))
    else (
    some (false))
def k_Or_beginning_4  (p1 : Int32) (p2 : Int32) : Nat → Int32 → Int32 → Option Int32
  | 0, _, _ => none
  | n + 1, x2, x3 =>
    if 6 ≤ x3 then (
    some (x2))
    else (
    k_Or_beginning_4 p1 p2 n (x2 / 10) (x3 + 1))
theorem k_Or_beginning_4_s  (p1 : Int32) (p2 : Int32) (n : Nat) (x2 : Int32) (x3 : Int32) : k_Or_beginning_4 p1 p2 (n + 1) x2 x3 = (
    if 6 ≤ x3 then (
    some (x2))
    else (
    k_Or_beginning_4 p1 p2 n (x2 / 10) (x3 + 1))) := rfl
theorem k_Or_beginning_4_z  (p1 : Int32) (p2 : Int32) (x2 : Int32) (x3 : Int32) : k_Or_beginning_4 p1 p2 0 x2 x3 = none := rfl
def m_Or_beginning (p1 : Int32) (p2 : Int32)  : Option Int32 :=
    k_Or_beginning_4 p1 p2 2000 p1 p2
def k_Or_greatestDivisor_9  (p1 : Int64) (p2 : Int64) : Nat → Int64 → Int64 → Int32 → Option Int64
  | 0, _, _, _ => none
  | n + 1, x4, x6, x8 =>
    if 100 ≤ x8 then (
    some (x4))
    else (
    if (lg_cmp x6 0) = 0 then (
    some (x4))
    else (
    nzgJ x6 (
    k_Or_greatestDivisor_9 p1 p2 n x6 (x4 - x4 / x6 * x6) (x8 + 1))))
theorem k_Or_greatestDivisor_9_s  (p1 : Int64) (p2 : Int64) (n : Nat) (x4 : Int64) (x6 : Int64) (x8 : Int32) : k_Or_greatestDivisor_9 p1 p2 (n + 1) x4 x6 x8 = (
    if 100 ≤ x8 then (
    some (x4))
    else (
    if (lg_cmp x6 0) = 0 then (
    some (x4))
    else (
    nzgJ x6 (
    k_Or_greatestDivisor_9 p1 p2 n x6 (x4 - x4 / x6 * x6) (x8 + 1))))) := rfl
theorem k_Or_greatestDivisor_9_z  (p1 : Int64) (p2 : Int64) (x4 : Int64) (x6 : Int64) (x8 : Int32) : k_Or_greatestDivisor_9 p1 p2 0 x4 x6 x8 = none := rfl
def m_Or_greatestDivisor (p1 : Int64) (p2 : Int64)  : Option Int64 :=
    k_Or_greatestDivisor_9 p1 p2 2000 p1 p2 0
def m_Text_add (p1 : Int32) (tlen : Int32) (tsg : Nat → Int32) : Option (Int32 × (Nat → Int32)) :=
    ixg tlen 300 (
    some (tlen + 1, upd tsg tlen.toNatClampNeg (vp_nar .char p1)))
def m_Text_passesSign (p1 : Int32) (tlen : Int32) (tsg : Nat → Int32) (tpl : Int32) : Option (Bool × Int32) :=
    if tlen ≤ tpl then (
    some (false, tpl))
    else (
    ixg tpl 300 (
    if (tsg tpl.toNatClampNeg) = p1 then (
    some (true, tpl + 1))
    else (
    some (false, tpl))))
def k_Text_passesDigits_72 (tlen : Int32) (tsg : Nat → Int32) (p1 : Int32) (p2 : Int32) (x3 : Int32) (x4 : Int32) (tpl : Int32) : Option (Bool × Int32) :=
    if x3 ≤ 0 then (
    some (false, tpl))
    else (
    if p2 < x4 then (
    some (false, tpl))
    else (
    some (true, tpl)))
def k_Text_passesDigits_5 (tlen : Int32) (tsg : Nat → Int32) (p1 : Int32) (p2 : Int32) : Nat → Int32 → Int32 → Int32 → Option (Bool × Int32)
  | 0, _, _, _ => none
  | n + 1, x3, x4, tpl =>
    if p1 ≤ x3 then (
    k_Text_passesDigits_72 tlen tsg p1 p2  x3 x4 tpl)
    else (
    if tlen ≤ tpl then (
    k_Text_passesDigits_72 tlen tsg p1 p2  x3 x4 tpl)
    else (
    ixg tpl 300 (
    bd1 (m_Or_isDigit (tsg tpl.toNatClampNeg)) (fun r_30 =>
    if (bI r_30) = 0 then (
    k_Text_passesDigits_72 tlen tsg p1 p2  x3 x4 tpl)
    else (
    ixg tpl 300 (
    k_Text_passesDigits_5 tlen tsg p1 p2 n (x3 + 1) ((x4 * 10) + ((tsg tpl.toNatClampNeg) - 48)) (tpl + 1)))))))
theorem k_Text_passesDigits_5_s (tlen : Int32) (tsg : Nat → Int32) (p1 : Int32) (p2 : Int32) (n : Nat) (x3 : Int32) (x4 : Int32) (tpl : Int32) : k_Text_passesDigits_5 tlen tsg p1 p2 (n + 1) x3 x4 tpl = (
    if p1 ≤ x3 then (
    k_Text_passesDigits_72 tlen tsg p1 p2  x3 x4 tpl)
    else (
    if tlen ≤ tpl then (
    k_Text_passesDigits_72 tlen tsg p1 p2  x3 x4 tpl)
    else (
    ixg tpl 300 (
    bd1 (m_Or_isDigit (tsg tpl.toNatClampNeg)) (fun r_30 =>
    if (bI r_30) = 0 then (
    k_Text_passesDigits_72 tlen tsg p1 p2  x3 x4 tpl)
    else (
    ixg tpl 300 (
    k_Text_passesDigits_5 tlen tsg p1 p2 n (x3 + 1) ((x4 * 10) + ((tsg tpl.toNatClampNeg) - 48)) (tpl + 1)))))))) := rfl
theorem k_Text_passesDigits_5_z (tlen : Int32) (tsg : Nat → Int32) (p1 : Int32) (p2 : Int32) (x3 : Int32) (x4 : Int32) (tpl : Int32) : k_Text_passesDigits_5 tlen tsg p1 p2 0 x3 x4 tpl = none := rfl
def m_Text_passesDigits (p1 : Int32) (p2 : Int32) (tlen : Int32) (tsg : Nat → Int32) (tpl : Int32) : Option (Bool × Int32) :=
    k_Text_passesDigits_5 tlen tsg p1 p2 2000 0 0 tpl
def m_Text_passesFactor  (tlen : Int32) (tsg : Nat → Int32) (tpl : Int32) : Option (Bool × Int32) :=
    bd2 (m_Text_passesSign 86 tlen tsg tpl) (fun r_3 tpl_3 =>
    if (bI r_3) = 0 then (
    bd2 (m_Text_passesSign 80 tlen tsg tpl_3) (fun r_20 tpl_20 =>
    if (bI r_20) = 0 then (
    bd2 (m_Text_passesSign 87 tlen tsg tpl_20) (fun r_37 tpl_37 =>
    if (bI r_37) = 0 then (
    bd2 (m_Text_passesSign 67 tlen tsg tpl_37) (fun r_46 tpl_46 =>
    if (bI r_46) = 0 then (
    bd2 (m_Text_passesSign 72 tlen tsg tpl_46) (fun r_55 tpl_55 =>
    if (bI r_55) = 0 then (
    bd2 (m_Text_passesSign 83 tlen tsg tpl_55) (fun r_64 tpl_64 =>
    if (bI r_64) = 0 then (
    some (false, tpl_64))
    else (
    some (true, tpl_64))))
    else (
    some (true, tpl_55))))
    else (
    some (true, tpl_46))))
    else (
    some (true, tpl_37))))
    else (
    bd2 (m_Text_passesDigits 2 15 tlen tsg tpl_20) (fun r_30 tpl_30 =>
    some (r_30, tpl_30)))))
    else (
    bd2 (m_Text_passesDigits 3 100 tlen tsg tpl_3) (fun r_13 tpl_13 =>
    some (r_13, tpl_13))))
def k_Text_passesRule_76 (tlen : Int32) (tsg : Nat → Int32)  (Ko4 : Int32 → Int32 → Int32 → Option (Bool × Int32)) (x1 : Int32) (x2 : Int32) (tpl : Int32) : Option (Bool × Int32) :=
    bd2 (m_Text_passesSign 38 tlen tsg tpl) (fun r_79 tpl_79 =>
    if (bI r_79) = 0 then (
    bd2 (m_Text_passesSign 124 tlen tsg tpl_79) (fun r_88 tpl_88 =>
    if (bI r_88) = 0 then (
    some (false, tpl_88))
    else (
    Ko4 x1 (x2 + 1) tpl_88)))
    else (
    Ko4 x1 (x2 + 1) tpl_79))
def k_Text_passesRule_61 (tlen : Int32) (tsg : Nat → Int32)  (Ko4 : Int32 → Int32 → Int32 → Option (Bool × Int32)) (x1 : Int32) (x2 : Int32) (tpl : Int32) : Option (Bool × Int32) :=
    if x1 = 0 then (
    bd2 (m_Text_passesSign 59 tlen tsg tpl) (fun r_68 tpl_68 =>
    if (bI r_68) = 0 then (
    k_Text_passesRule_76 tlen tsg Ko4  x1 x2 tpl_68)
    else (
    some (true, tpl_68))))
    else (
    k_Text_passesRule_76 tlen tsg Ko4  x1 x2 tpl)
def k_Text_passesRule_42 (tlen : Int32) (tsg : Nat → Int32)  (Ko4 : Int32 → Int32 → Int32 → Option (Bool × Int32)) : Nat → Int32 → Int32 → Int32 → Option (Bool × Int32)
  | 0, _, _, _ => none
  | n + 1, x1, x2, tpl =>
    if x1 ≤ 0 then (
    k_Text_passesRule_61 tlen tsg Ko4  x1 x2 tpl)
    else (
    bd2 (m_Text_passesSign 41 tlen tsg tpl) (fun r_49 tpl_49 =>
    if (bI r_49) = 0 then (
    k_Text_passesRule_61 tlen tsg Ko4  x1 x2 tpl_49)
    else (
    k_Text_passesRule_42 tlen tsg Ko4 n (x1 + (-1)) x2 tpl_49)))
theorem k_Text_passesRule_42_s (tlen : Int32) (tsg : Nat → Int32)  (Ko4 : Int32 → Int32 → Int32 → Option (Bool × Int32)) (n : Nat) (x1 : Int32) (x2 : Int32) (tpl : Int32) : k_Text_passesRule_42 tlen tsg Ko4 (n + 1) x1 x2 tpl = (
    if x1 ≤ 0 then (
    k_Text_passesRule_61 tlen tsg Ko4  x1 x2 tpl)
    else (
    bd2 (m_Text_passesSign 41 tlen tsg tpl) (fun r_49 tpl_49 =>
    if (bI r_49) = 0 then (
    k_Text_passesRule_61 tlen tsg Ko4  x1 x2 tpl_49)
    else (
    k_Text_passesRule_42 tlen tsg Ko4 n (x1 + (-1)) x2 tpl_49)))) := rfl
theorem k_Text_passesRule_42_z (tlen : Int32) (tsg : Nat → Int32)  (Ko4 : Int32 → Int32 → Int32 → Option (Bool × Int32)) (x1 : Int32) (x2 : Int32) (tpl : Int32) : k_Text_passesRule_42 tlen tsg Ko4 0 x1 x2 tpl = none := rfl
def k_Text_passesRule_12 (tlen : Int32) (tsg : Nat → Int32)  (Ko4 : Int32 → Int32 → Int32 → Option (Bool × Int32)) : Nat → Int32 → Int32 → Int32 → Option (Bool × Int32)
  | 0, _, _, _ => none
  | n + 1, x1, x2, tpl =>
    if 8 ≤ x1 then (
    bd2 (m_Text_passesFactor tlen tsg tpl) (fun r_34 tpl_34 =>
    if (bI r_34) = 0 then (
    some (false, tpl_34))
    else (
    k_Text_passesRule_42 tlen tsg Ko4 2000 x1 x2 tpl_34)))
    else (
    bd2 (m_Text_passesSign 40 tlen tsg tpl) (fun r_21 tpl_21 =>
    if (bI r_21) = 0 then (
    bd2 (m_Text_passesFactor tlen tsg tpl_21) (fun r_34 tpl_34 =>
    if (bI r_34) = 0 then (
    some (false, tpl_34))
    else (
    k_Text_passesRule_42 tlen tsg Ko4 2000 x1 x2 tpl_34)))
    else (
    k_Text_passesRule_12 tlen tsg Ko4 n (x1 + 1) x2 tpl_21)))
theorem k_Text_passesRule_12_s (tlen : Int32) (tsg : Nat → Int32)  (Ko4 : Int32 → Int32 → Int32 → Option (Bool × Int32)) (n : Nat) (x1 : Int32) (x2 : Int32) (tpl : Int32) : k_Text_passesRule_12 tlen tsg Ko4 (n + 1) x1 x2 tpl = (
    if 8 ≤ x1 then (
    bd2 (m_Text_passesFactor tlen tsg tpl) (fun r_34 tpl_34 =>
    if (bI r_34) = 0 then (
    some (false, tpl_34))
    else (
    k_Text_passesRule_42 tlen tsg Ko4 2000 x1 x2 tpl_34)))
    else (
    bd2 (m_Text_passesSign 40 tlen tsg tpl) (fun r_21 tpl_21 =>
    if (bI r_21) = 0 then (
    bd2 (m_Text_passesFactor tlen tsg tpl_21) (fun r_34 tpl_34 =>
    if (bI r_34) = 0 then (
    some (false, tpl_34))
    else (
    k_Text_passesRule_42 tlen tsg Ko4 2000 x1 x2 tpl_34)))
    else (
    k_Text_passesRule_12 tlen tsg Ko4 n (x1 + 1) x2 tpl_21)))) := rfl
theorem k_Text_passesRule_12_z (tlen : Int32) (tsg : Nat → Int32)  (Ko4 : Int32 → Int32 → Int32 → Option (Bool × Int32)) (x1 : Int32) (x2 : Int32) (tpl : Int32) : k_Text_passesRule_12 tlen tsg Ko4 0 x1 x2 tpl = none := rfl
def k_Text_passesRule_4 (tlen : Int32) (tsg : Nat → Int32)  : Nat → Int32 → Int32 → Int32 → Option (Bool × Int32)
  | 0, _, _, _ => none
  | n + 1, x1, x2, tpl =>
    if tlen ≤ x2 then (
    some (false, tpl))
    else (
    k_Text_passesRule_12 tlen tsg (k_Text_passesRule_4 tlen tsg n) 2000 x1 x2 tpl)
theorem k_Text_passesRule_4_s (tlen : Int32) (tsg : Nat → Int32)  (n : Nat) (x1 : Int32) (x2 : Int32) (tpl : Int32) : k_Text_passesRule_4 tlen tsg (n + 1) x1 x2 tpl = (
    if tlen ≤ x2 then (
    some (false, tpl))
    else (
    k_Text_passesRule_12 tlen tsg (k_Text_passesRule_4 tlen tsg n) 2000 x1 x2 tpl)) := rfl
theorem k_Text_passesRule_4_z (tlen : Int32) (tsg : Nat → Int32)  (x1 : Int32) (x2 : Int32) (tpl : Int32) : k_Text_passesRule_4 tlen tsg 0 x1 x2 tpl = none := rfl
def m_Text_passesRule  (tlen : Int32) (tsg : Nat → Int32) (tpl : Int32) : Option (Bool × Int32) :=
    k_Text_passesRule_4 tlen tsg 2000 0 0 tpl
def m_Text_passesRow  (tlen : Int32) (tsg : Nat → Int32) (tpl : Int32) : Option (Bool × Int32) :=
    bd2 (m_Text_passesDigits 6 999999 tlen tsg tpl) (fun r_5 tpl_5 =>
    if (bI r_5) = 0 then (
    some (false, tpl_5))
    else (
    bd2 (m_Text_passesSign 58 tlen tsg tpl_5) (fun r_14 tpl_14 =>
    if (bI r_14) = 0 then (
    some (false, tpl_14))
    else (
    bd2 (m_Text_passesRule tlen tsg tpl_14) (fun r_21 tpl_21 =>
    if (bI r_21) = 0 then (
    some (false, tpl_21))
    else (
    some (true, tpl_21)))))))
def k_Text_rowsOrWrongPlace_7 (tlen : Int32) (tsg : Nat → Int32)  : Nat → Int32 → Int32 → Option (Int32 × Int32)
  | 0, _, _ => none
  | n + 1, x1, tpl =>
    if 20 < x1 then (
    some ((-1) - tpl, tpl))
    else (
    bd2 (m_Text_passesRow tlen tsg tpl) (fun r_14 tpl_14 =>
    if (bI r_14) = 0 then (
    some ((-1) - tpl_14, tpl_14))
    else (
    if tpl_14 = tlen then (
    some (x1, tpl_14))
    else (
    k_Text_rowsOrWrongPlace_7 tlen tsg n (x1 + 1) tpl_14))))
theorem k_Text_rowsOrWrongPlace_7_s (tlen : Int32) (tsg : Nat → Int32)  (n : Nat) (x1 : Int32) (tpl : Int32) : k_Text_rowsOrWrongPlace_7 tlen tsg (n + 1) x1 tpl = (
    if 20 < x1 then (
    some ((-1) - tpl, tpl))
    else (
    bd2 (m_Text_passesRow tlen tsg tpl) (fun r_14 tpl_14 =>
    if (bI r_14) = 0 then (
    some ((-1) - tpl_14, tpl_14))
    else (
    if tpl_14 = tlen then (
    some (x1, tpl_14))
    else (
    k_Text_rowsOrWrongPlace_7 tlen tsg n (x1 + 1) tpl_14))))) := rfl
theorem k_Text_rowsOrWrongPlace_7_z (tlen : Int32) (tsg : Nat → Int32)  (x1 : Int32) (tpl : Int32) : k_Text_rowsOrWrongPlace_7 tlen tsg 0 x1 tpl = none := rfl
def m_Text_rowsOrWrongPlace  (tlen : Int32) (tsg : Nat → Int32) (tpl : Int32) : Option (Int32 × Int32) :=
    k_Text_rowsOrWrongPlace_7 tlen tsg 2000 1 0
def m_Rows_replace (p2 : Int32) (p3 : Int32) (tsg : Nat → Int32) (rlen : Int32) (rsz : Int32) (rsg : Nat → Int32) : Option (Int32 × Int32 × (Nat → Int32)) :=
    acg .char 0 0 p2 300 300 tsg (
    some (p2, p3, va_cpy tsg rsg (0 : Int32).toNatClampNeg (0 : Int32).toNatClampNeg p2.toNatClampNeg))
def k_Rows_numberAt_4 (rlen : Int32) (rsg : Nat → Int32) (p1 : Int32) : Nat → Int32 → Int32 → Option Int32
  | 0, _, _ => none
  | n + 1, x2, x3 =>
    if rlen ≤ x3 then (
    some (x2))
    else (
    ixg x3 300 (
    bd1 (m_Or_isDigit (rsg x3.toNatClampNeg)) (fun r_18 =>
    if (bI r_18) = 0 then (
    some (x2))
    else (
    ixg x3 300 (
    k_Rows_numberAt_4 rlen rsg p1 n ((x2 * 10) + ((rsg x3.toNatClampNeg) - 48)) (x3 + 1))))))
theorem k_Rows_numberAt_4_s (rlen : Int32) (rsg : Nat → Int32) (p1 : Int32) (n : Nat) (x2 : Int32) (x3 : Int32) : k_Rows_numberAt_4 rlen rsg p1 (n + 1) x2 x3 = (
    if rlen ≤ x3 then (
    some (x2))
    else (
    ixg x3 300 (
    bd1 (m_Or_isDigit (rsg x3.toNatClampNeg)) (fun r_18 =>
    if (bI r_18) = 0 then (
    some (x2))
    else (
    ixg x3 300 (
    k_Rows_numberAt_4 rlen rsg p1 n ((x2 * 10) + ((rsg x3.toNatClampNeg) - 48)) (x3 + 1))))))) := rfl
theorem k_Rows_numberAt_4_z (rlen : Int32) (rsg : Nat → Int32) (p1 : Int32) (x2 : Int32) (x3 : Int32) : k_Rows_numberAt_4 rlen rsg p1 0 x2 x3 = none := rfl
def m_Rows_numberAt (p1 : Int32) (rlen : Int32) (rsg : Nat → Int32) : Option Int32 :=
    k_Rows_numberAt_4 rlen rsg p1 2000 0 p1
def k_Rows_startFor_10 (rlen : Int32) (rsg : Nat → Int32) (p1 : Int32) : Nat → Int32 → Int32 → Int32 → Int32 → Option Int32
  | 0, _, _, _, _ => none
  | n + 1, x2, x3, x4, x5 =>
    if rlen ≤ x5 then (
    some (x2))
    else (
    ixg x5 300 (
    if (rsg x5.toNatClampNeg) = 59 then (
    k_Rows_startFor_10 rlen rsg p1 n x2 x3 (x5 + 1) (x5 + 1))
    else (
    ixg x5 300 (
    if (rsg x5.toNatClampNeg) = 58 then (
    if (x5 - x4) < x3 then (
    k_Rows_startFor_10 rlen rsg p1 n x2 x3 x4 (x5 + 1))
    else (
    bd1 (m_Or_beginning p1 (x5 - x4)) (fun r_68 =>
    bd1 (m_Rows_numberAt x4 rlen rsg) (fun r_74 =>
    if r_68 = r_74 then (
    k_Rows_startFor_10 rlen rsg p1 n x4 (x5 - x4) x4 (x5 + 1))
    else (
    k_Rows_startFor_10 rlen rsg p1 n x2 x3 x4 (x5 + 1))))))
    else (
    k_Rows_startFor_10 rlen rsg p1 n x2 x3 x4 (x5 + 1))))))
theorem k_Rows_startFor_10_s (rlen : Int32) (rsg : Nat → Int32) (p1 : Int32) (n : Nat) (x2 : Int32) (x3 : Int32) (x4 : Int32) (x5 : Int32) : k_Rows_startFor_10 rlen rsg p1 (n + 1) x2 x3 x4 x5 = (
    if rlen ≤ x5 then (
    some (x2))
    else (
    ixg x5 300 (
    if (rsg x5.toNatClampNeg) = 59 then (
    k_Rows_startFor_10 rlen rsg p1 n x2 x3 (x5 + 1) (x5 + 1))
    else (
    ixg x5 300 (
    if (rsg x5.toNatClampNeg) = 58 then (
    if (x5 - x4) < x3 then (
    k_Rows_startFor_10 rlen rsg p1 n x2 x3 x4 (x5 + 1))
    else (
    bd1 (m_Or_beginning p1 (x5 - x4)) (fun r_68 =>
    bd1 (m_Rows_numberAt x4 rlen rsg) (fun r_74 =>
    if r_68 = r_74 then (
    k_Rows_startFor_10 rlen rsg p1 n x4 (x5 - x4) x4 (x5 + 1))
    else (
    k_Rows_startFor_10 rlen rsg p1 n x2 x3 x4 (x5 + 1))))))
    else (
    k_Rows_startFor_10 rlen rsg p1 n x2 x3 x4 (x5 + 1))))))) := rfl
theorem k_Rows_startFor_10_z (rlen : Int32) (rsg : Nat → Int32) (p1 : Int32) (x2 : Int32) (x3 : Int32) (x4 : Int32) (x5 : Int32) : k_Rows_startFor_10 rlen rsg p1 0 x2 x3 x4 x5 = none := rfl
def m_Rows_startFor (p1 : Int32) (rlen : Int32) (rsg : Nat → Int32) : Option Int32 :=
    k_Rows_startFor_10 rlen rsg p1 2000 (-1) 0 0 0
def m_Parts_add (p1 : Int32) (p2 : Int32) (p3 : Int64) (psz : Int32) (pcd : Nat → Int32) (pld : Nat → Int32) (pct : Nat → Int64) : Option (Int32 × Int32 × (Nat → Int32) × (Nat → Int32) × (Nat → Int64)) :=
    ixg psz 12 (
    ixg psz 12 (
    ixg psz 12 (
    some (psz + 1, psz + 1, upd pcd psz.toNatClampNeg p1, upd pld psz.toNatClampNeg p2, vp_updL pct psz.toNatClampNeg p3))))
def m_Parts_forget  (psz : Int32) : Option (Int32 × Int32) :=
    some (psz, 0)
def k_Parts_foreignParts_4 (psz : Int32) (pld : Nat → Int32) (p1 : Int32) : Nat → Int32 → Int32 → Option Int32
  | 0, _, _ => none
  | n + 1, x2, x3 =>
    if psz ≤ x3 then (
    some (x2))
    else (
    ixg x3 12 (
    bd1 (m_Or_hasBit p1 (pld x3.toNatClampNeg)) (fun r_19 =>
    if (bI r_19) = 0 then (
    k_Parts_foreignParts_4 psz pld p1 n (x2 + 1) (x3 + 1))
    else (
    k_Parts_foreignParts_4 psz pld p1 n x2 (x3 + 1)))))
theorem k_Parts_foreignParts_4_s (psz : Int32) (pld : Nat → Int32) (p1 : Int32) (n : Nat) (x2 : Int32) (x3 : Int32) : k_Parts_foreignParts_4 psz pld p1 (n + 1) x2 x3 = (
    if psz ≤ x3 then (
    some (x2))
    else (
    ixg x3 12 (
    bd1 (m_Or_hasBit p1 (pld x3.toNatClampNeg)) (fun r_19 =>
    if (bI r_19) = 0 then (
    k_Parts_foreignParts_4 psz pld p1 n (x2 + 1) (x3 + 1))
    else (
    k_Parts_foreignParts_4 psz pld p1 n x2 (x3 + 1)))))) := rfl
theorem k_Parts_foreignParts_4_z (psz : Int32) (pld : Nat → Int32) (p1 : Int32) (x2 : Int32) (x3 : Int32) : k_Parts_foreignParts_4 psz pld p1 0 x2 x3 = none := rfl
def m_Parts_foreignParts (p1 : Int32) (psz : Int32) (pld : Nat → Int32) : Option Int32 :=
    k_Parts_foreignParts_4 psz pld p1 2000 0 0
def k_Parts_foreignCents_5 (psz : Int32) (pld : Nat → Int32) (pct : Nat → Int64) (p1 : Int32) : Nat → Int64 → Int32 → Option Int64
  | 0, _, _ => none
  | n + 1, x2, x4 =>
    if psz ≤ x4 then (
    some (x2))
    else (
    ixg x4 12 (
    bd1 (m_Or_hasBit p1 (pld x4.toNatClampNeg)) (fun r_22 =>
    if (bI r_22) = 0 then (
    ixg x4 12 (
    k_Parts_foreignCents_5 psz pld pct p1 n (x2 + (pct x4.toNatClampNeg)) (x4 + 1)))
    else (
    k_Parts_foreignCents_5 psz pld pct p1 n x2 (x4 + 1)))))
theorem k_Parts_foreignCents_5_s (psz : Int32) (pld : Nat → Int32) (pct : Nat → Int64) (p1 : Int32) (n : Nat) (x2 : Int64) (x4 : Int32) : k_Parts_foreignCents_5 psz pld pct p1 (n + 1) x2 x4 = (
    if psz ≤ x4 then (
    some (x2))
    else (
    ixg x4 12 (
    bd1 (m_Or_hasBit p1 (pld x4.toNatClampNeg)) (fun r_22 =>
    if (bI r_22) = 0 then (
    ixg x4 12 (
    k_Parts_foreignCents_5 psz pld pct p1 n (x2 + (pct x4.toNatClampNeg)) (x4 + 1)))
    else (
    k_Parts_foreignCents_5 psz pld pct p1 n x2 (x4 + 1)))))) := rfl
theorem k_Parts_foreignCents_5_z (psz : Int32) (pld : Nat → Int32) (pct : Nat → Int64) (p1 : Int32) (x2 : Int64) (x4 : Int32) : k_Parts_foreignCents_5 psz pld pct p1 0 x2 x4 = none := rfl
def m_Parts_foreignCents (p1 : Int32) (psz : Int32) (pld : Nat → Int32) (pct : Nat → Int64) : Option Int64 :=
    k_Parts_foreignCents_5 psz pld pct p1 2000 0 0
def k_Parts_foreignCentsAlike_13 (psz : Int32) (pcd : Nat → Int32) (pld : Nat → Int32) (pct : Nat → Int64) (p1 : Int32) (p2 : Int32) (p3 : Int32) : Nat → Int32 → Int64 → Int32 → Option Int64
  | 0, _, _, _ => none
  | n + 1, x4, x5, x7 =>
    if psz ≤ x7 then (
    some (x5))
    else (
    ixg x7 12 (
    bd1 (m_Or_hasBit p1 (pld x7.toNatClampNeg)) (fun r_30 =>
    if (bI r_30) = 0 then (
    ixg x7 12 (
    bd1 (m_Or_beginning (pcd x7.toNatClampNeg) p3) (fun r_44 =>
    if r_44 = x4 then (
    ixg x7 12 (
    k_Parts_foreignCentsAlike_13 psz pcd pld pct p1 p2 p3 n x4 (x5 + (pct x7.toNatClampNeg)) (x7 + 1)))
    else (
    k_Parts_foreignCentsAlike_13 psz pcd pld pct p1 p2 p3 n x4 x5 (x7 + 1)))))
    else (
    k_Parts_foreignCentsAlike_13 psz pcd pld pct p1 p2 p3 n x4 x5 (x7 + 1)))))
theorem k_Parts_foreignCentsAlike_13_s (psz : Int32) (pcd : Nat → Int32) (pld : Nat → Int32) (pct : Nat → Int64) (p1 : Int32) (p2 : Int32) (p3 : Int32) (n : Nat) (x4 : Int32) (x5 : Int64) (x7 : Int32) : k_Parts_foreignCentsAlike_13 psz pcd pld pct p1 p2 p3 (n + 1) x4 x5 x7 = (
    if psz ≤ x7 then (
    some (x5))
    else (
    ixg x7 12 (
    bd1 (m_Or_hasBit p1 (pld x7.toNatClampNeg)) (fun r_30 =>
    if (bI r_30) = 0 then (
    ixg x7 12 (
    bd1 (m_Or_beginning (pcd x7.toNatClampNeg) p3) (fun r_44 =>
    if r_44 = x4 then (
    ixg x7 12 (
    k_Parts_foreignCentsAlike_13 psz pcd pld pct p1 p2 p3 n x4 (x5 + (pct x7.toNatClampNeg)) (x7 + 1)))
    else (
    k_Parts_foreignCentsAlike_13 psz pcd pld pct p1 p2 p3 n x4 x5 (x7 + 1)))))
    else (
    k_Parts_foreignCentsAlike_13 psz pcd pld pct p1 p2 p3 n x4 x5 (x7 + 1)))))) := rfl
theorem k_Parts_foreignCentsAlike_13_z (psz : Int32) (pcd : Nat → Int32) (pld : Nat → Int32) (pct : Nat → Int64) (p1 : Int32) (p2 : Int32) (p3 : Int32) (x4 : Int32) (x5 : Int64) (x7 : Int32) : k_Parts_foreignCentsAlike_13 psz pcd pld pct p1 p2 p3 0 x4 x5 x7 = none := rfl
def m_Parts_foreignCentsAlike (p1 : Int32) (p2 : Int32) (p3 : Int32) (psz : Int32) (pcd : Nat → Int32) (pld : Nat → Int32) (pct : Nat → Int64) : Option Int64 :=
    bd1 (m_Or_beginning p2 p3) (fun r_2 =>
    k_Parts_foreignCentsAlike_13 psz pcd pld pct p1 p2 p3 2000 r_2 0 0)
def m_Lands_addPair (p1 : Int32) (p2 : Int32) (lpr : Int32) (ljn : Nat → Int32) : Option (Bool × Int32 × (Nat → Int32)) :=
    ixg p1 10 (
    bd1 (m_Or_hasBit (ljn p1.toNatClampNeg) p2) (fun r_7 =>
    if (bI r_7) = 0 then (
    ixg p1 10 (
    ixg p1 10 (
    ixg p2 10 (
    ixg p2 10 (
    some (true, lpr + 1, upd (upd ljn p1.toNatClampNeg ((ljn p1.toNatClampNeg) ||| (1 <<< (p2 &&& 31)))) p2.toNatClampNeg (((upd ljn p1.toNatClampNeg ((ljn p1.toNatClampNeg) ||| (1 <<< (p2 &&& 31)))) p2.toNatClampNeg) ||| (1 <<< (p1 &&& 31)))))))))
    else (
    some (false, lpr, ljn))))
def k_Lands_ownLands_26 (lful : Bool) (ljn : Nat → Int32)  (Ko11 : Int32 → Int32 → Option Int32) : Nat → Int32 → Int32 → Int32 → Option Int32
  | 0, _, _, _ => none
  | n + 1, x1, x2, x3 =>
    if 10 ≤ x3 then (
    Ko11 x1 (x2 + 1))
    else (
    bd1 (m_Or_hasBit x1 x3) (fun r_34 =>
    if (bI r_34) = 0 then (
    k_Lands_ownLands_26 lful ljn Ko11 n x1 x2 (x3 + 1))
    else (
    ixg x3 10 (
    k_Lands_ownLands_26 lful ljn Ko11 n (x1 ||| (ljn x3.toNatClampNeg)) x2 (x3 + 1)))))
theorem k_Lands_ownLands_26_s (lful : Bool) (ljn : Nat → Int32)  (Ko11 : Int32 → Int32 → Option Int32) (n : Nat) (x1 : Int32) (x2 : Int32) (x3 : Int32) : k_Lands_ownLands_26 lful ljn Ko11 (n + 1) x1 x2 x3 = (
    if 10 ≤ x3 then (
    Ko11 x1 (x2 + 1))
    else (
    bd1 (m_Or_hasBit x1 x3) (fun r_34 =>
    if (bI r_34) = 0 then (
    k_Lands_ownLands_26 lful ljn Ko11 n x1 x2 (x3 + 1))
    else (
    ixg x3 10 (
    k_Lands_ownLands_26 lful ljn Ko11 n (x1 ||| (ljn x3.toNatClampNeg)) x2 (x3 + 1)))))) := rfl
theorem k_Lands_ownLands_26_z (lful : Bool) (ljn : Nat → Int32)  (Ko11 : Int32 → Int32 → Option Int32) (x1 : Int32) (x2 : Int32) (x3 : Int32) : k_Lands_ownLands_26 lful ljn Ko11 0 x1 x2 x3 = none := rfl
def k_Lands_ownLands_11 (lful : Bool) (ljn : Nat → Int32)  : Nat → Int32 → Int32 → Option Int32
  | 0, _, _ => none
  | n + 1, x1, x2 =>
    if (bI lful) = 0 then (
    some (x1))
    else (
    if 10 ≤ x2 then (
    some (x1))
    else (
    k_Lands_ownLands_26 lful ljn (k_Lands_ownLands_11 lful ljn n) 2000 x1 x2 0))
theorem k_Lands_ownLands_11_s (lful : Bool) (ljn : Nat → Int32)  (n : Nat) (x1 : Int32) (x2 : Int32) : k_Lands_ownLands_11 lful ljn (n + 1) x1 x2 = (
    if (bI lful) = 0 then (
    some (x1))
    else (
    if 10 ≤ x2 then (
    some (x1))
    else (
    k_Lands_ownLands_26 lful ljn (k_Lands_ownLands_11 lful ljn n) 2000 x1 x2 0))) := rfl
theorem k_Lands_ownLands_11_z (lful : Bool) (ljn : Nat → Int32)  (x1 : Int32) (x2 : Int32) : k_Lands_ownLands_11 lful ljn 0 x1 x2 = none := rfl
def m_Lands_ownLands  (lful : Bool) (ljn : Nat → Int32) : Option Int32 :=
    ixg 0 10 (
    k_Lands_ownLands_11 lful ljn 2000 (1 ||| (ljn (0 : Int32).toNatClampNeg)) 0)
def m_Proofs_add (p1 : Int32) (p2 : Int32) (p3 : Int32) (fsz : Int32) (fkd : Nat → Int32) (ffr : Nat → Int32) (fto : Nat → Int32) : Option (Int32 × Int32 × (Nat → Int32) × (Nat → Int32) × (Nat → Int32)) :=
    ixg fsz 20 (
    ixg fsz 20 (
    ixg fsz 20 (
    some ((fsz + 1) - 1, fsz + 1, upd fkd fsz.toNatClampNeg p1, upd ffr fsz.toNatClampNeg p2, upd fto fsz.toNatClampNeg p3))))
def k_Proofs_isGood_23 (fkd : Nat → Int32) (ffr : Nat → Int32) (fto : Nat → Int32) (p1 : Int32) (p2 : Int64) (p3 : Int32) (s0 : Bool) : Option Bool :=
    if (bI s0) = 0 then (
    some (false))
    else (
    ixg p1 20 (
    if p3 < (ffr p1.toNatClampNeg) then (
    some (false))
    else (
    ixg p1 20 (
    if (fto p1.toNatClampNeg) < p3 then (
    some (false))
    else (
    some (true))))))
def k_Proofs_isGood_18 (fkd : Nat → Int32) (ffr : Nat → Int32) (fto : Nat → Int32) (p1 : Int32) (p2 : Int64) (p3 : Int32)  : Option Bool :=
    k_Proofs_isGood_23 fkd ffr fto p1 p2 p3  true
def m_Proofs_isGood (p1 : Int32) (p2 : Int64) (p3 : Int32) (fkd : Nat → Int32) (ffr : Nat → Int32) (fto : Nat → Int32) : Option Bool :=
    ixg p1 20 (
    if (fkd p1.toNatClampNeg) = 1 then (
    k_Proofs_isGood_18 fkd ffr fto p1 p2 p3  )
    else (
    if 0 < (lg_cmp p2 1000000) then (
    k_Proofs_isGood_23 fkd ffr fto p1 p2 p3  false)
    else (
    k_Proofs_isGood_18 fkd ffr fto p1 p2 p3  )))
def m_Or_isShareWithin (p1 : Int32) (p2 : Int64) (psz : Int32) (pld : Nat → Int32) (pct : Nat → Int64) (lful : Bool) (ljn : Nat → Int32) : Option Bool :=
    bd1 (m_Lands_ownLands lful ljn) (fun r_8 =>
    bd1 (m_Parts_foreignCents r_8 psz pld pct) (fun r_11 =>
    if (lg_cmp p2 0) ≤ 0 then (
    some (false))
    else (
    if 0 < (lg_cmp (r_11 * 100) (((p1).toInt64) * p2)) then (
    some (false))
    else (
    some (true)))))
def m_Or_isChanged (p1 : Int32) (p2 : Int32) (p3 : Int64) (tup : Int32) (tdn : Int32) (psz : Int32) (pcd : Nat → Int32) (pld : Nat → Int32) (pct : Nat → Int64) (lful : Bool) (ljn : Nat → Int32) : Option Bool :=
    bd1 (m_Lands_ownLands lful ljn) (fun r_8 =>
    bd1 (m_Parts_foreignCentsAlike r_8 p1 p2 psz pcd pld pct) (fun r_13 =>
    if 0 < (lg_cmp (r_13 * ((tdn).toInt64)) (((tup).toInt64) * p3)) then (
    some (false))
    else (
    some (true))))
def m_Or_factorHolds (p1 : Int32) (p2 : Int32) (p3 : Int64) (done : Int32) (tup : Int32) (tdn : Int32) (rlen : Int32) (rsg : Nat → Int32) (psz : Int32) (pcd : Nat → Int32) (pld : Nat → Int32) (pct : Nat → Int64) (lful : Bool) (ljn : Nat → Int32) : Option Bool :=
    ixg p1 300 (
    if (rsg p1.toNatClampNeg) = 87 then (
    if psz = 0 then (
    some (true))
    else (
    some (false)))
    else (
    if (rsg p1.toNatClampNeg) = 67 then (
    bd1 (m_Or_isChanged p2 2 p3 tup tdn psz pcd pld pct lful ljn) (fun r_45 =>
    some (r_45)))
    else (
    if (rsg p1.toNatClampNeg) = 72 then (
    bd1 (m_Or_isChanged p2 4 p3 tup tdn psz pcd pld pct lful ljn) (fun r_60 =>
    some (r_60)))
    else (
    if (rsg p1.toNatClampNeg) = 83 then (
    bd1 (m_Or_isChanged p2 6 p3 tup tdn psz pcd pld pct lful ljn) (fun r_76 =>
    some (r_76)))
    else (
    bd1 (m_Rows_numberAt (p1 + 1) rlen rsg) (fun r_87 =>
    if (rsg p1.toNatClampNeg) = 86 then (
    bd1 (m_Or_isShareWithin r_87 p3 psz pld pct lful ljn) (fun r_103 =>
    some (r_103)))
    else (
    bd1 (m_Or_hasBit done r_87) (fun r_115 =>
    some (r_115)))))))))
def k_Or_keepAnswer_30  (p1 : Int32) (p2 : Bool) (s1 : Int32) (s2 : Int32) (s3 : Bool) (askd : Int32) (answ : Nat → Int32) : Option (Int32 × (Nat → Int32)) :=
    ixg s1 149 (
    some (askd + 1, upd answ s1.toNatClampNeg (s2 + (bI s3))))
def m_Or_keepAnswer (p1 : Int32) (p2 : Bool) (askd : Int32) (answ : Nat → Int32) : Option (Int32 × (Nat → Int32)) :=
    if 149 ≤ askd then (
    some (askd, answ))
    else (
    if (bI p2) = 0 then (
    k_Or_keepAnswer_30 p1 p2  askd (2 * p1) false askd answ)
    else (
    k_Or_keepAnswer_30 p1 p2  askd (2 * p1) true askd answ))
def k_Or_ruleHolds_91 (done : Int32) (tup : Int32) (tdn : Int32) (rlen : Int32) (rsg : Nat → Int32) (psz : Int32) (pcd : Nat → Int32) (pld : Nat → Int32) (pct : Nat → Int64) (lful : Bool) (ljn : Nat → Int32) (p1 : Int32) (p2 : Int32) (p3 : Int64) (Ko17 : Bool → Bool → Int32 → Int32 → Int32 → (Nat → Int32) → Option (Bool × Int32 × (Nat → Int32))) (x5 : Bool) (x6 : Bool) (x7 : Int32) (x8 : Int32) (x9 : Int32) (askd : Int32) (answ : Nat → Int32) : Option (Bool × Int32 × (Nat → Int32)) :=
    if x9 = 40 then (
    Ko17 x5 x6 (x7 + 1) (x8 + 1) askd answ)
    else (
    if x9 = 41 then (
    Ko17 x5 x6 (x7 + (-1)) (x8 + 1) askd answ)
    else (
    Ko17 x5 x6 x7 (x8 + 1) askd answ))
def k_Or_ruleHolds_160 (done : Int32) (tup : Int32) (tdn : Int32) (rlen : Int32) (rsg : Nat → Int32) (psz : Int32) (pcd : Nat → Int32) (pld : Nat → Int32) (pct : Nat → Int64) (lful : Bool) (ljn : Nat → Int32) (p1 : Int32) (p2 : Int32) (p3 : Int64) (Ko17 : Bool → Bool → Int32 → Int32 → Int32 → (Nat → Int32) → Option (Bool × Int32 × (Nat → Int32))) (x5 : Bool) (x6 : Bool) (x7 : Int32) (x8 : Int32) (x9 : Int32) (askd : Int32) (answ : Nat → Int32) : Option (Bool × Int32 × (Nat → Int32)) :=
    if x9 = 124 then (
    if (bI x5) = 0 then (
    Ko17 x5 x6 x7 (x8 + 1) askd answ)
    else (
    Ko17 x5 true x7 (x8 + 1) askd answ))
    else (
    Ko17 x5 x6 x7 (x8 + 1) askd answ)
def k_Or_ruleHolds_17 (done : Int32) (tup : Int32) (tdn : Int32) (rlen : Int32) (rsg : Nat → Int32) (psz : Int32) (pcd : Nat → Int32) (pld : Nat → Int32) (pct : Nat → Int64) (lful : Bool) (ljn : Nat → Int32) (p1 : Int32) (p2 : Int32) (p3 : Int64) : Nat → Bool → Bool → Int32 → Int32 → Int32 → (Nat → Int32) → Option (Bool × Int32 × (Nat → Int32))
  | 0, _, _, _, _, _, _ => none
  | n + 1, x5, x6, x7, x8, askd, answ =>
    if rlen ≤ x8 then (
    some (x5, askd, answ))
    else (
    ixg x8 300 (
    if (rsg x8.toNatClampNeg) = 59 then (
    some (x5, askd, answ))
    else (
    ixg x8 300 (
    if (bI x6) = 0 then (
    bd1 (m_Or_isLetter (rsg x8.toNatClampNeg)) (fun r_119 =>
    if (bI r_119) = 0 then (
    if (rsg x8.toNatClampNeg) = 38 then (
    if (bI x5) = 0 then (
    k_Or_ruleHolds_17 done tup tdn rlen rsg psz pcd pld pct lful ljn p1 p2 p3 n x5 true x7 (x8 + 1) askd answ)
    else (
    k_Or_ruleHolds_160 done tup tdn rlen rsg psz pcd pld pct lful ljn p1 p2 p3 (k_Or_ruleHolds_17 done tup tdn rlen rsg psz pcd pld pct lful ljn p1 p2 p3 n)  x5 x6 x7 x8 (rsg x8.toNatClampNeg) askd answ))
    else (
    k_Or_ruleHolds_160 done tup tdn rlen rsg psz pcd pld pct lful ljn p1 p2 p3 (k_Or_ruleHolds_17 done tup tdn rlen rsg psz pcd pld pct lful ljn p1 p2 p3 n)  x5 x6 x7 x8 (rsg x8.toNatClampNeg) askd answ))
    else (
    bd1 (m_Or_factorHolds x8 p2 p3 done tup tdn rlen rsg psz pcd pld pct lful ljn) (fun r_130 =>
    bd2 (m_Or_keepAnswer (x8 - p1) r_130 askd answ) (fun askd_142 answ_142 =>
    k_Or_ruleHolds_17 done tup tdn rlen rsg psz pcd pld pct lful ljn p1 p2 p3 n r_130 x6 x7 (x8 + 1) askd_142 answ_142)))))
    else (
    if x7 = 0 then (
    if (rsg x8.toNatClampNeg) = 41 then (
    k_Or_ruleHolds_17 done tup tdn rlen rsg psz pcd pld pct lful ljn p1 p2 p3 n x5 false x7 (x8 + 1) askd answ)
    else (
    if (rsg x8.toNatClampNeg) = 124 then (
    if (bI x5) = 0 then (
    k_Or_ruleHolds_17 done tup tdn rlen rsg psz pcd pld pct lful ljn p1 p2 p3 n x5 false x7 (x8 + 1) askd answ)
    else (
    k_Or_ruleHolds_91 done tup tdn rlen rsg psz pcd pld pct lful ljn p1 p2 p3 (k_Or_ruleHolds_17 done tup tdn rlen rsg psz pcd pld pct lful ljn p1 p2 p3 n)  x5 x6 x7 x8 (rsg x8.toNatClampNeg) askd answ))
    else (
    k_Or_ruleHolds_91 done tup tdn rlen rsg psz pcd pld pct lful ljn p1 p2 p3 (k_Or_ruleHolds_17 done tup tdn rlen rsg psz pcd pld pct lful ljn p1 p2 p3 n)  x5 x6 x7 x8 (rsg x8.toNatClampNeg) askd answ)))
    else (
    k_Or_ruleHolds_91 done tup tdn rlen rsg psz pcd pld pct lful ljn p1 p2 p3 (k_Or_ruleHolds_17 done tup tdn rlen rsg psz pcd pld pct lful ljn p1 p2 p3 n)  x5 x6 x7 x8 (rsg x8.toNatClampNeg) askd answ))))))
theorem k_Or_ruleHolds_17_s (done : Int32) (tup : Int32) (tdn : Int32) (rlen : Int32) (rsg : Nat → Int32) (psz : Int32) (pcd : Nat → Int32) (pld : Nat → Int32) (pct : Nat → Int64) (lful : Bool) (ljn : Nat → Int32) (p1 : Int32) (p2 : Int32) (p3 : Int64) (n : Nat) (x5 : Bool) (x6 : Bool) (x7 : Int32) (x8 : Int32) (askd : Int32) (answ : Nat → Int32) : k_Or_ruleHolds_17 done tup tdn rlen rsg psz pcd pld pct lful ljn p1 p2 p3 (n + 1) x5 x6 x7 x8 askd answ = (
    if rlen ≤ x8 then (
    some (x5, askd, answ))
    else (
    ixg x8 300 (
    if (rsg x8.toNatClampNeg) = 59 then (
    some (x5, askd, answ))
    else (
    ixg x8 300 (
    if (bI x6) = 0 then (
    bd1 (m_Or_isLetter (rsg x8.toNatClampNeg)) (fun r_119 =>
    if (bI r_119) = 0 then (
    if (rsg x8.toNatClampNeg) = 38 then (
    if (bI x5) = 0 then (
    k_Or_ruleHolds_17 done tup tdn rlen rsg psz pcd pld pct lful ljn p1 p2 p3 n x5 true x7 (x8 + 1) askd answ)
    else (
    k_Or_ruleHolds_160 done tup tdn rlen rsg psz pcd pld pct lful ljn p1 p2 p3 (k_Or_ruleHolds_17 done tup tdn rlen rsg psz pcd pld pct lful ljn p1 p2 p3 n)  x5 x6 x7 x8 (rsg x8.toNatClampNeg) askd answ))
    else (
    k_Or_ruleHolds_160 done tup tdn rlen rsg psz pcd pld pct lful ljn p1 p2 p3 (k_Or_ruleHolds_17 done tup tdn rlen rsg psz pcd pld pct lful ljn p1 p2 p3 n)  x5 x6 x7 x8 (rsg x8.toNatClampNeg) askd answ))
    else (
    bd1 (m_Or_factorHolds x8 p2 p3 done tup tdn rlen rsg psz pcd pld pct lful ljn) (fun r_130 =>
    bd2 (m_Or_keepAnswer (x8 - p1) r_130 askd answ) (fun askd_142 answ_142 =>
    k_Or_ruleHolds_17 done tup tdn rlen rsg psz pcd pld pct lful ljn p1 p2 p3 n r_130 x6 x7 (x8 + 1) askd_142 answ_142)))))
    else (
    if x7 = 0 then (
    if (rsg x8.toNatClampNeg) = 41 then (
    k_Or_ruleHolds_17 done tup tdn rlen rsg psz pcd pld pct lful ljn p1 p2 p3 n x5 false x7 (x8 + 1) askd answ)
    else (
    if (rsg x8.toNatClampNeg) = 124 then (
    if (bI x5) = 0 then (
    k_Or_ruleHolds_17 done tup tdn rlen rsg psz pcd pld pct lful ljn p1 p2 p3 n x5 false x7 (x8 + 1) askd answ)
    else (
    k_Or_ruleHolds_91 done tup tdn rlen rsg psz pcd pld pct lful ljn p1 p2 p3 (k_Or_ruleHolds_17 done tup tdn rlen rsg psz pcd pld pct lful ljn p1 p2 p3 n)  x5 x6 x7 x8 (rsg x8.toNatClampNeg) askd answ))
    else (
    k_Or_ruleHolds_91 done tup tdn rlen rsg psz pcd pld pct lful ljn p1 p2 p3 (k_Or_ruleHolds_17 done tup tdn rlen rsg psz pcd pld pct lful ljn p1 p2 p3 n)  x5 x6 x7 x8 (rsg x8.toNatClampNeg) askd answ)))
    else (
    k_Or_ruleHolds_91 done tup tdn rlen rsg psz pcd pld pct lful ljn p1 p2 p3 (k_Or_ruleHolds_17 done tup tdn rlen rsg psz pcd pld pct lful ljn p1 p2 p3 n)  x5 x6 x7 x8 (rsg x8.toNatClampNeg) askd answ))))))) := rfl
theorem k_Or_ruleHolds_17_z (done : Int32) (tup : Int32) (tdn : Int32) (rlen : Int32) (rsg : Nat → Int32) (psz : Int32) (pcd : Nat → Int32) (pld : Nat → Int32) (pct : Nat → Int64) (lful : Bool) (ljn : Nat → Int32) (p1 : Int32) (p2 : Int32) (p3 : Int64) (x5 : Bool) (x6 : Bool) (x7 : Int32) (x8 : Int32) (askd : Int32) (answ : Nat → Int32) : k_Or_ruleHolds_17 done tup tdn rlen rsg psz pcd pld pct lful ljn p1 p2 p3 0 x5 x6 x7 x8 askd answ = none := rfl
def m_Or_ruleHolds (p1 : Int32) (p2 : Int32) (p3 : Int64) (done : Int32) (tup : Int32) (tdn : Int32) (rlen : Int32) (rsg : Nat → Int32) (psz : Int32) (pcd : Nat → Int32) (pld : Nat → Int32) (pct : Nat → Int64) (lful : Bool) (ljn : Nat → Int32) (askd : Int32) (answ : Nat → Int32) : Option (Bool × Int32 × (Nat → Int32)) :=
    k_Or_ruleHolds_17 done tup tdn rlen rsg psz pcd pld pct lful ljn p1 p2 p3 2000 false false 0 p1 0 answ
def m_Or_sign (p1 : Int32) (tlen : Int32) (tsg : Nat → Int32) : Option (Bool × Int32 × (Nat → Int32)) :=
    if p1 < 33 then (
    some (false, tlen, tsg))
    else (
    if 126 < p1 then (
    some (false, tlen, tsg))
    else (
    if tlen < 300 then (
    bd2 (m_Text_add (((p1).toUInt32 % 65536).toInt32) tlen tsg) (fun tlen_33 tsg_33 =>
    some (true, tlen_33, tsg_33)))
    else (
    some (false, tlen, tsg))))
def m_Or_read  (tsg : Nat → Int32) (tlen : Int32) (tpl : Int32) (rlen : Int32) (rsz : Int32) (rsg : Nat → Int32) : Option (Int32 × Int32 × Int32 × Int32 × Int32 × (Nat → Int32)) :=
    bd2 (m_Text_rowsOrWrongPlace tlen tsg tpl) (fun r_4 tpl_4 =>
    if r_4 ≤ 0 then (
    some (r_4, 0, tpl_4, rlen, rsz, rsg))
    else (
    bd3 (m_Rows_replace tlen r_4 tsg rlen rsz rsg) (fun rlen_31 rsz_31 rsg_31 =>
    some (r_4, 0, tpl_4, rlen_31, rsz_31, rsg_31))))
def m_Or_clear  (done : Int32) (psz : Int32) : Option (Int32 × Int32 × Int32) :=
    bd2 (m_Parts_forget psz) (fun r_9 psz_9 =>
    some (r_9, 0, psz_9))
def m_Or_process (p1 : Int32) (done : Int32) : Option (Bool × Int32) :=
    bd1 (m_Or_isProcess p1) (fun r_1 =>
    if (bI r_1) = 0 then (
    some (false, done))
    else (
    bd1 (m_Or_hasBit done p1) (fun r_12 =>
    if (bI r_12) = 0 then (
    some (true, done ||| (1 <<< (p1 &&& 31))))
    else (
    some (false, done)))))
def m_Or_bar (p1 : Int32) (p2 : Bool) (brd : Int32) : Option (Bool × Int32) :=
    bd1 (m_Or_isProcess p1) (fun r_1 =>
    if (bI r_1) = 0 then (
    some (false, brd))
    else (
    bd1 (m_Or_hasBit brd p1) (fun r_12 =>
    if (bI r_12) = (bI p2) then (
    some (false, brd))
    else (
    some (true, brd ^^^ (1 <<< (p1 &&& 31)))))))
def m_Or_full (p1 : Bool) (lful : Bool) : Option (Bool × Bool) :=
    if (bI lful) = (bI p1) then (
    some (false, lful))
    else (
    some (true, p1))
def m_Or_tolerance (p1 : Int32) (p2 : Int32) (tup : Int32) (tdn : Int32) : Option (Bool × Int32 × Int32) :=
    if p2 < 1 then (
    some (false, tup, tdn))
    else (
    if 1000 < p2 then (
    some (false, tup, tdn))
    else (
    if p1 < 0 then (
    some (false, tup, tdn))
    else (
    if p1 ≤ p2 then (
    some (true, p1, p2))
    else (
    some (false, tup, tdn)))))
def m_Or_why (p1 : Int32) (askd : Int32) (answ : Nat → Int32) : Option Int32 :=
    if p1 < 0 then (
    some ((-1)))
    else (
    if askd ≤ p1 then (
    some ((-1)))
    else (
    ixg p1 149 (
    some (answ p1.toNatClampNeg))))
def m_Or_count (p1 : Int32) (done : Int32) (askd : Int32) (tlen : Int32) (rsz : Int32) (psz : Int32) (pld : Nat → Int32) (lpr : Int32) (lful : Bool) (ljn : Nat → Int32) (fsz : Int32) : Option Int32 :=
    if p1 = 0 then (
    some (tlen))
    else if p1 = 1 then (
    some (rsz))
    else if p1 = 2 then (
    some (psz))
    else if p1 = 3 then (
    bd1 (m_Lands_ownLands lful ljn) (fun r_80 =>
    bd1 (m_Parts_foreignParts r_80 psz pld) (fun r_83 =>
    some (r_83))))
    else if p1 = 4 then (
    some (done))
    else if p1 = 5 then (
    some (lpr))
    else if p1 = 6 then (
    some (fsz))
    else if p1 = 7 then (
    some (askd))
    else (
    some ((-1)))
def m_Or_part (p1 : Int32) (p2 : Int32) (p3 : Int64) (psz : Int32) (pcd : Nat → Int32) (pld : Nat → Int32) (pct : Nat → Int64) : Option (Nat ⊕ (Int32 × Int32 × (Nat → Int32) × (Nat → Int32) × (Nat → Int64))) :=
    bd1 (m_Or_isCode p1) (fun r_1 =>
    if (bI r_1) = 0 then (
    some (.inl 0))
    else (
    bd1 (m_Or_isLand p2) (fun r_8 =>
    if (bI r_8) = 0 then (
    some (.inl 0))
    else (
    bd1 (m_Or_isCents p3) (fun r_15 =>
    if (bI r_15) = 0 then (
    some (.inl 0))
    else (
    if psz < 12 then (
    bd5 (m_Parts_add p1 p2 p3 psz pcd pld pct) (fun r_60 psz_60 pcd_60 pld_60 pct_60 =>
    some (.inr (r_60, psz_60, pcd_60, pld_60, pct_60))))
    else (
    some (.inl 1))))))))
def m_Or_join (p1 : Int32) (p2 : Int32) (lpr : Int32) (ljn : Nat → Int32) : Option (Nat ⊕ (Int32 × Int32 × (Nat → Int32))) :=
    bd1 (m_Or_isLand p1) (fun r_1 =>
    if (bI r_1) = 0 then (
    some (.inl 0))
    else (
    bd1 (m_Or_isLand p2) (fun r_8 =>
    if (bI r_8) = 0 then (
    some (.inl 0))
    else (
    if p1 = p2 then (
    some (.inl 0))
    else (
    bd3 (m_Lands_addPair p1 p2 lpr ljn) (fun r_35 lpr_35 ljn_35 =>
    if (bI r_35) = 0 then (
    some (.inr (0, lpr_35, ljn_35)))
    else (
    some (.inr (1, lpr_35, ljn_35)))))))))
def m_Or_verdict (p1 : Int32) (p2 : Int64) (done : Int32) (brd : Int32) (tup : Int32) (tdn : Int32) (rlen : Int32) (rsg : Nat → Int32) (psz : Int32) (pcd : Nat → Int32) (pld : Nat → Int32) (pct : Nat → Int64) (lful : Bool) (ljn : Nat → Int32) (askd : Int32) (answ : Nat → Int32) : Option (Nat ⊕ (Int32 × Int32 × (Nat → Int32))) :=
    bd1 (m_Or_isCode p1) (fun r_1 =>
    if (bI r_1) = 0 then (
    some (.inl 0))
    else (
    bd1 (m_Or_isCents p2) (fun r_8 =>
    if (bI r_8) = 0 then (
    some (.inl 0))
    else (
    bd1 (m_Rows_startFor p1 rlen rsg) (fun r_29 =>
    if r_29 = (-1) then (
    some (.inr (3, askd, answ)))
    else (
    if done = 0 then (
    bd3 (m_Or_ruleHolds r_29 p1 p2 done tup tdn rlen rsg psz pcd pld pct lful ljn askd answ) (fun r_70 askd_70 answ_70 =>
    if (bI r_70) = 0 then (
    some (.inr (0, askd_70, answ_70)))
    else (
    some (.inr (1, askd_70, answ_70)))))
    else (
    if (done &&& (brd ^^^ (-1))) = 0 then (
    some (.inr (2, askd, answ)))
    else (
    bd3 (m_Or_ruleHolds r_29 p1 p2 done tup tdn rlen rsg psz pcd pld pct lful ljn askd answ) (fun r_70 askd_70 answ_70 =>
    if (bI r_70) = 0 then (
    some (.inr (0, askd_70, answ_70)))
    else (
    some (.inr (1, askd_70, answ_70))))))))))))
def m_Or_share (p1 : Int64) (p2 : Int32) (psz : Int32) (pld : Nat → Int32) (pct : Nat → Int64) (lful : Bool) (ljn : Nat → Int32) : Option (Nat ⊕ Int64) :=
    bd1 (m_Or_isCents p1) (fun r_1 =>
    if (bI r_1) = 0 then (
    some (.inl 0))
    else (
    if p2 < 0 then (
    some (.inl 0))
    else (
    if p2 ≤ 1 then (
    if (lg_cmp p1 0) = 0 then (
    some (.inl 2))
    else (
    bd1 (m_Lands_ownLands lful ljn) (fun r_50 =>
    bd1 (m_Parts_foreignCents r_50 psz pld pct) (fun r_53 =>
    bd1 (m_Or_greatestDivisor r_53 p1) (fun r_62 =>
    if p2 = 0 then (
    nzgJ (if r_62 < 1 then 1 else r_62) (
    some (.inr (r_53 / (if r_62 < 1 then 1 else r_62)))))
    else (
    nzgJ (if r_62 < 1 then 1 else r_62) (
    some (.inr (p1 / (if r_62 < 1 then 1 else r_62))))))))))
    else (
    some (.inl 0)))))
def m_Or_proof (p1 : Int32) (p2 : Int32) (p3 : Int32) (fsz : Int32) (fkd : Nat → Int32) (ffr : Nat → Int32) (fto : Nat → Int32) : Option (Nat ⊕ (Int32 × Int32 × (Nat → Int32) × (Nat → Int32) × (Nat → Int32))) :=
    if p1 < 0 then (
    some (.inl 0))
    else (
    if 1 < p1 then (
    some (.inl 0))
    else (
    bd1 (m_Or_isDay p2) (fun r_10 =>
    if (bI r_10) = 0 then (
    some (.inl 0))
    else (
    bd1 (m_Or_isDay p3) (fun r_17 =>
    if (bI r_17) = 0 then (
    some (.inl 0))
    else (
    if p2 ≤ p3 then (
    if fsz < 20 then (
    bd5 (m_Proofs_add p1 p2 p3 fsz fkd ffr fto) (fun r_67 fsz_67 fkd_67 ffr_67 fto_67 =>
    some (.inr (r_67, fsz_67, fkd_67, ffr_67, fto_67))))
    else (
    some (.inl 1)))
    else (
    some (.inl 0))))))))
def m_Or_good (p1 : Int32) (p2 : Int64) (p3 : Int32) (fsz : Int32) (fkd : Nat → Int32) (ffr : Nat → Int32) (fto : Nat → Int32) : Option (Nat ⊕ Bool) :=
    if p1 < 0 then (
    some (.inl 0))
    else (
    if fsz ≤ p1 then (
    some (.inl 0))
    else (
    bd1 (m_Or_isCents p2) (fun r_16 =>
    if (bI r_16) = 0 then (
    some (.inl 0))
    else (
    bd1 (m_Or_isDay p3) (fun r_24 =>
    if (bI r_24) = 0 then (
    some (.inl 0))
    else (
    bd1 (m_Proofs_isGood p1 p2 p3 fkd ffr fto) (fun r_48 =>
    some (.inr (r_48)))))))))
def m_Or_own (p1 : Int32) (lful : Bool) (ljn : Nat → Int32) : Option (Nat ⊕ Bool) :=
    bd1 (m_Or_isLand p1) (fun r_1 =>
    if (bI r_1) = 0 then (
    some (.inl 0))
    else (
    bd1 (m_Lands_ownLands lful ljn) (fun r_21 =>
    bd1 (m_Or_hasBit r_21 p1) (fun r_25 =>
    some (.inr (r_25))))))
def m_Md_in (p1 : Int64) (p2 : Int64) (p3 : Int64)  : Option Bool :=
    if (lg_cmp p1 p2) < 0 then (
    some (false))
    else (
    if 0 < (lg_cmp p1 p3) then (
    some (false))
    else (
    some (true)))
def m_Md_isDigit (p1 : Int32)  : Option Bool :=
    if p1 < 48 then (
    some (false))
    else (
    if 57 < p1 then (
    some (false))
    else (
    some (true)))
def k_Md_behind_30  (p1 : Int32) (p2 : Int32)  : Option Int32 :=
    if p1 = 59 then (
    if p2 = 0 then (
    some (0))
    else (
    some ((-1))))
    else (
    some ((-1)))
def m_Md_behind (p1 : Int32) (p2 : Int32)  : Option Int32 :=
    if p1 = 38 then (
    some (2))
    else (
    if p1 = 124 then (
    some (2))
    else (
    if p1 = 41 then (
    if p2 ≤ 0 then (
    k_Md_behind_30 p1 p2  )
    else (
    some (3)))
    else (
    k_Md_behind_30 p1 p2  )))
def m_Md_ahead (p1 : Int32) (p2 : Int32)  : Option Int32 :=
    if p1 = 87 then (
    some (3))
    else (
    if p1 = 67 then (
    some (3))
    else (
    if p1 = 72 then (
    some (3))
    else (
    if p1 = 83 then (
    some (3))
    else (
    if p1 = 86 then (
    some (4))
    else (
    if p1 = 80 then (
    some (5))
    else (
    if p1 = 40 then (
    if 8 ≤ p2 then (
    some ((-1)))
    else (
    some (2)))
    else (
    some ((-1)))))))))
def m_Md_isDay (p1 : Int32)  : Option Bool :=
    bd1 (m_Md_in ((p1).toInt64) 0 100000) (fun r_6 =>
    some (r_6))
def m_Md_thrown  (e_thrown : Int32) : Option Int32 :=
    some (e_thrown)
def m_Md_refuse (p1 : Int32) (e_thrown : Int32) : Option (Int32 × Int32) :=
    some (0, p1)
def m_Md_sign (p1 : Int32) (e_thrown : Int32) (e_signs : Int32) (e_text : Nat → Int32) : Option (Bool × Int32 × Int32 × (Nat → Int32)) :=
    bd1 (m_Md_in ((p1).toInt64) 33 126) (fun r_13 =>
    if (bI r_13) = 0 then (
    some (false, 0, e_signs, e_text))
    else (
    if e_signs = 300 then (
    some (false, 0, e_signs, e_text))
    else (
    ixg e_signs 300 (
    some (true, 0, e_signs + 1, upd e_text e_signs.toNatClampNeg p1)))))
def k_Md_read_304 (e_text : Nat → Int32)  (Ko23 : Int32 → Int32 → Int32 → Int32 → Int32 → Int32 → Int32 → Int32 → Int32 → Int32 → (Nat → Int32) → (Nat → Int32) → (Nat → Int32) → Option (Int32 × Int32 × Int32 × Int32 × (Nat → Int32) × (Nat → Int32) × (Nat → Int32))) (x1 : Int32) (x2 : Int32) (x3 : Int32) (x4 : Int32) (x6 : Int32) (x7 : Int32) (x10 : Int32) (s0 : Int32) (s1 : Bool) (e_thrown : Int32) (e_signs : Int32) (e_rows : Int32) (e_read : Nat → Int32) (e_begins : Nat → Int32) (e_tried : Nat → Int32) : Option (Int32 × Int32 × Int32 × Int32 × (Nat → Int32) × (Nat → Int32) × (Nat → Int32)) :=
    if 0 ≤ x10 then (
    Ko23 x10 x2 x3 x4 (s0 + (bI s1)) x6 (x7 + 1) e_thrown e_signs e_rows e_read e_begins e_tried)
    else (
    Ko23 x1 x2 x3 x4 (s0 + (bI s1)) x6 (x7 + 1) e_thrown e_signs e_rows e_read e_begins e_tried)
def k_Md_read_290 (e_text : Nat → Int32)  (Ko23 : Int32 → Int32 → Int32 → Int32 → Int32 → Int32 → Int32 → Int32 → Int32 → Int32 → (Nat → Int32) → (Nat → Int32) → (Nat → Int32) → Option (Int32 × Int32 × Int32 × Int32 × (Nat → Int32) × (Nat → Int32) × (Nat → Int32))) (x1 : Int32) (x3 : Int32) (x4 : Int32) (x5 : Int32) (x6 : Int32) (x7 : Int32) (x10 : Int32) (s0 : Int32) (s1 : Int32) (e_thrown : Int32) (e_signs : Int32) (e_rows : Int32) (e_read : Nat → Int32) (e_begins : Nat → Int32) (e_tried : Nat → Int32) : Option (Int32 × Int32 × Int32 × Int32 × (Nat → Int32) × (Nat → Int32) × (Nat → Int32)) :=
    if x10 = 0 then (
    k_Md_read_304 e_text Ko23  x1 (s0 + s1) x3 x4 x6 x7 x10 x5 true e_thrown e_signs e_rows e_read e_begins e_tried)
    else (
    k_Md_read_304 e_text Ko23  x1 (s0 + s1) x3 x4 x6 x7 x10 x5 false e_thrown e_signs e_rows e_read e_begins e_tried)
def k_Md_read_264 (e_text : Nat → Int32)  (Ko23 : Int32 → Int32 → Int32 → Int32 → Int32 → Int32 → Int32 → Int32 → Int32 → Int32 → (Nat → Int32) → (Nat → Int32) → (Nat → Int32) → Option (Int32 × Int32 × Int32 × Int32 × (Nat → Int32) × (Nat → Int32) × (Nat → Int32))) (x1 : Int32) (x2 : Int32) (x3 : Int32) (x4 : Int32) (x5 : Int32) (x7 : Int32) (x8 : Int32) (x10 : Int32) (s0 : Int32) (e_thrown : Int32) (e_signs : Int32) (e_rows : Int32) (e_read : Nat → Int32) (e_begins : Nat → Int32) (e_tried : Nat → Int32) : Option (Int32 × Int32 × Int32 × Int32 × (Nat → Int32) × (Nat → Int32) × (Nat → Int32)) :=
    if x8 = 40 then (
    k_Md_read_290 e_text Ko23  x1 x3 x4 x5 s0 x7 x10 x2 1 e_thrown e_signs e_rows e_read e_begins e_tried)
    else (
    if x8 = 41 then (
    k_Md_read_290 e_text Ko23  x1 x3 x4 x5 s0 x7 x10 x2 (-1) e_thrown e_signs e_rows e_read e_begins e_tried)
    else (
    k_Md_read_290 e_text Ko23  x1 x3 x4 x5 s0 x7 x10 x2 0 e_thrown e_signs e_rows e_read e_begins e_tried))
def k_Md_read_252 (e_text : Nat → Int32)  (Ko23 : Int32 → Int32 → Int32 → Int32 → Int32 → Int32 → Int32 → Int32 → Int32 → Int32 → (Nat → Int32) → (Nat → Int32) → (Nat → Int32) → Option (Int32 × Int32 × Int32 × Int32 × (Nat → Int32) × (Nat → Int32) × (Nat → Int32))) (x1 : Int32) (x2 : Int32) (x3 : Int32) (x4 : Int32) (x5 : Int32) (x6 : Int32) (x7 : Int32) (x8 : Int32) (x10 : Int32) (e_thrown : Int32) (e_signs : Int32) (e_rows : Int32) (e_read : Nat → Int32) (e_begins : Nat → Int32) (e_tried : Nat → Int32) : Option (Int32 × Int32 × Int32 × Int32 × (Nat → Int32) × (Nat → Int32) × (Nat → Int32)) :=
    if 0 ≤ x10 then (
    k_Md_read_264 e_text Ko23  x1 x2 x3 x4 x5 x7 x8 x10 x6 e_thrown e_signs e_rows e_read e_begins e_tried)
    else (
    k_Md_read_264 e_text Ko23  x1 x2 x3 x4 x5 x7 x8 x10 x7 e_thrown e_signs e_rows e_read e_begins e_tried)
def k_Md_read_98 (e_text : Nat → Int32)  (Ko23 : Int32 → Int32 → Int32 → Int32 → Int32 → Int32 → Int32 → Int32 → Int32 → Int32 → (Nat → Int32) → (Nat → Int32) → (Nat → Int32) → Option (Int32 × Int32 × Int32 × Int32 × (Nat → Int32) × (Nat → Int32) × (Nat → Int32))) (x1 : Int32) (x2 : Int32) (x4 : Int32) (x5 : Int32) (x6 : Int32) (x7 : Int32) (x8 : Int32) (s0 : Int32) (e_thrown : Int32) (e_signs : Int32) (e_rows : Int32) (e_read : Nat → Int32) (e_begins : Nat → Int32) (e_tried : Nat → Int32) : Option (Int32 × Int32 × Int32 × Int32 × (Nat → Int32) × (Nat → Int32) × (Nat → Int32)) :=
    k_Md_read_252 e_text Ko23  x1 x2 1 x4 x5 x6 x7 x8 s0 e_thrown e_signs e_rows e_read e_begins e_tried
def k_Md_read_97 (e_text : Nat → Int32)  (Ko23 : Int32 → Int32 → Int32 → Int32 → Int32 → Int32 → Int32 → Int32 → Int32 → Int32 → (Nat → Int32) → (Nat → Int32) → (Nat → Int32) → Option (Int32 × Int32 × Int32 × Int32 × (Nat → Int32) × (Nat → Int32) × (Nat → Int32))) (x1 : Int32) (x2 : Int32) (x4 : Int32) (x5 : Int32) (x6 : Int32) (x7 : Int32) (x8 : Int32) (e_thrown : Int32) (e_signs : Int32) (e_rows : Int32) (e_read : Nat → Int32) (e_begins : Nat → Int32) (e_tried : Nat → Int32) : Option (Int32 × Int32 × Int32 × Int32 × (Nat → Int32) × (Nat → Int32) × (Nat → Int32)) :=
    k_Md_read_98 e_text Ko23  x1 x2 x4 x5 x6 x7 x8 (-1) e_thrown e_signs e_rows e_read e_begins e_tried
def k_Md_read_137 (e_text : Nat → Int32)  (Ko23 : Int32 → Int32 → Int32 → Int32 → Int32 → Int32 → Int32 → Int32 → Int32 → Int32 → (Nat → Int32) → (Nat → Int32) → (Nat → Int32) → Option (Int32 × Int32 × Int32 × Int32 × (Nat → Int32) × (Nat → Int32) × (Nat → Int32))) (x1 : Int32) (x2 : Int32) (x3 : Int32) (x4 : Int32) (x5 : Int32) (x6 : Int32) (x7 : Int32) (x8 : Int32) (s0 : Int32) (e_thrown : Int32) (e_signs : Int32) (e_rows : Int32) (e_read : Nat → Int32) (e_begins : Nat → Int32) (e_tried : Nat → Int32) : Option (Int32 × Int32 × Int32 × Int32 × (Nat → Int32) × (Nat → Int32) × (Nat → Int32)) :=
    k_Md_read_252 e_text Ko23  x1 x2 (x3 + 1) x4 x5 x6 x7 x8 s0 e_thrown e_signs e_rows e_read e_begins e_tried
def k_Md_read_125 (e_text : Nat → Int32)  (Ko23 : Int32 → Int32 → Int32 → Int32 → Int32 → Int32 → Int32 → Int32 → Int32 → Int32 → (Nat → Int32) → (Nat → Int32) → (Nat → Int32) → Option (Int32 × Int32 × Int32 × Int32 × (Nat → Int32) × (Nat → Int32) × (Nat → Int32))) (x1 : Int32) (x2 : Int32) (x3 : Int32) (x4 : Int32) (x5 : Int32) (x6 : Int32) (x7 : Int32) (x8 : Int32) (e_thrown : Int32) (e_signs : Int32) (e_rows : Int32) (e_read : Nat → Int32) (e_begins : Nat → Int32) (e_tried : Nat → Int32) : Option (Int32 × Int32 × Int32 × Int32 × (Nat → Int32) × (Nat → Int32) × (Nat → Int32)) :=
    if x8 = 58 then (
    k_Md_read_137 e_text Ko23  x1 x2 x3 x4 x5 x6 x7 x8 2 e_thrown e_signs e_rows e_read e_begins e_tried)
    else (
    k_Md_read_137 e_text Ko23  x1 x2 x3 x4 x5 x6 x7 x8 (-1) e_thrown e_signs e_rows e_read e_begins e_tried)
def k_Md_read_241 (e_text : Nat → Int32)  (Ko23 : Int32 → Int32 → Int32 → Int32 → Int32 → Int32 → Int32 → Int32 → Int32 → Int32 → (Nat → Int32) → (Nat → Int32) → (Nat → Int32) → Option (Int32 × Int32 × Int32 × Int32 × (Nat → Int32) × (Nat → Int32) × (Nat → Int32))) (x1 : Int32) (x2 : Int32) (x3 : Int32) (x4 : Int32) (x5 : Int32) (x6 : Int32) (x7 : Int32) (x8 : Int32) (x10 : Int32) (s0 : Int32) (s1 : Int32) (e_thrown : Int32) (e_signs : Int32) (e_rows : Int32) (e_read : Nat → Int32) (e_begins : Nat → Int32) (e_tried : Nat → Int32) : Option (Int32 × Int32 × Int32 × Int32 × (Nat → Int32) × (Nat → Int32) × (Nat → Int32)) :=
    if s1 < s0 then (
    k_Md_read_252 e_text Ko23  x1 x2 x3 x4 x5 x6 x7 x8 x10 e_thrown e_signs e_rows e_read e_begins e_tried)
    else (
    bd1 (m_Md_behind x8 x2) (fun r_247 =>
    k_Md_read_252 e_text Ko23  x1 x2 x3 x4 x5 x6 x7 x8 r_247 e_thrown e_signs e_rows e_read e_begins e_tried))
def k_Md_read_223 (e_text : Nat → Int32)  (Ko23 : Int32 → Int32 → Int32 → Int32 → Int32 → Int32 → Int32 → Int32 → Int32 → Int32 → (Nat → Int32) → (Nat → Int32) → (Nat → Int32) → Option (Int32 × Int32 × Int32 × Int32 × (Nat → Int32) × (Nat → Int32) × (Nat → Int32))) (x1 : Int32) (x2 : Int32) (x3 : Int32) (x4 : Int32) (x5 : Int32) (x6 : Int32) (x7 : Int32) (x8 : Int32) (x10 : Int32) (e_thrown : Int32) (e_signs : Int32) (e_rows : Int32) (e_read : Nat → Int32) (e_begins : Nat → Int32) (e_tried : Nat → Int32) : Option (Int32 × Int32 × Int32 × Int32 × (Nat → Int32) × (Nat → Int32) × (Nat → Int32)) :=
    if x3 ≤ 0 then (
    k_Md_read_252 e_text Ko23  x1 x2 x3 x4 x5 x6 x7 x8 x10 e_thrown e_signs e_rows e_read e_begins e_tried)
    else (
    if x1 = 4 then (
    k_Md_read_241 e_text Ko23  x1 x2 x3 x4 x5 x6 x7 x8 x10 x4 100 e_thrown e_signs e_rows e_read e_begins e_tried)
    else (
    k_Md_read_241 e_text Ko23  x1 x2 x3 x4 x5 x6 x7 x8 x10 x4 15 e_thrown e_signs e_rows e_read e_begins e_tried))
def k_Md_read_198 (e_text : Nat → Int32)  (Ko23 : Int32 → Int32 → Int32 → Int32 → Int32 → Int32 → Int32 → Int32 → Int32 → Int32 → (Nat → Int32) → (Nat → Int32) → (Nat → Int32) → Option (Int32 × Int32 × Int32 × Int32 × (Nat → Int32) × (Nat → Int32) × (Nat → Int32))) (x1 : Int32) (x2 : Int32) (x3 : Int32) (x4 : Int32) (x5 : Int32) (x6 : Int32) (x7 : Int32) (x8 : Int32) (x10 : Int32) (s0 : Int32) (s1 : Int32) (e_thrown : Int32) (e_signs : Int32) (e_rows : Int32) (e_read : Nat → Int32) (e_begins : Nat → Int32) (e_tried : Nat → Int32) : Option (Int32 × Int32 × Int32 × Int32 × (Nat → Int32) × (Nat → Int32) × (Nat → Int32)) :=
    if s1 ≤ s0 then (
    k_Md_read_223 e_text Ko23  x1 x2 x3 x4 x5 x6 x7 x8 x10 e_thrown e_signs e_rows e_read e_begins e_tried)
    else (
    k_Md_read_252 e_text Ko23  x1 x2 (x3 + 1) (((10 * x4) + x8) - 48) x5 x6 x7 x8 x1 e_thrown e_signs e_rows e_read e_begins e_tried)
def k_Md_read_65 (e_text : Nat → Int32)  (Ko23 : Int32 → Int32 → Int32 → Int32 → Int32 → Int32 → Int32 → Int32 → Int32 → Int32 → (Nat → Int32) → (Nat → Int32) → (Nat → Int32) → Option (Int32 × Int32 × Int32 × Int32 × (Nat → Int32) × (Nat → Int32) × (Nat → Int32))) (x1 : Int32) (x2 : Int32) (x3 : Int32) (x4 : Int32) (x5 : Int32) (x6 : Int32) (x7 : Int32) (x8 : Int32) (x9 : Bool) (x10 : Int32) (s0 : Bool) (e_thrown : Int32) (e_signs : Int32) (e_rows : Int32) (e_read : Nat → Int32) (e_begins : Nat → Int32) (e_tried : Nat → Int32) : Option (Int32 × Int32 × Int32 × Int32 × (Nat → Int32) × (Nat → Int32) × (Nat → Int32)) :=
    if (bI s0) = 0 then (
    if x1 = 1 then (
    if (bI x9) = 0 then (
    k_Md_read_125 e_text Ko23  x1 x2 x3 x4 x5 x6 x7 x8 e_thrown e_signs e_rows e_read e_begins e_tried)
    else (
    if 6 ≤ x3 then (
    k_Md_read_125 e_text Ko23  x1 x2 x3 x4 x5 x6 x7 x8 e_thrown e_signs e_rows e_read e_begins e_tried)
    else (
    k_Md_read_137 e_text Ko23  x1 x2 x3 x4 x5 x6 x7 x8 1 e_thrown e_signs e_rows e_read e_begins e_tried)))
    else (
    if x1 = 2 then (
    bd1 (m_Md_ahead x8 x2) (fun r_153 =>
    k_Md_read_252 e_text Ko23  x1 x2 0 0 x5 x6 x7 x8 r_153 e_thrown e_signs e_rows e_read e_begins e_tried))
    else (
    if x1 = 3 then (
    bd1 (m_Md_behind x8 x2) (fun r_174 =>
    k_Md_read_252 e_text Ko23  x1 x2 x3 x4 x5 x6 x7 x8 r_174 e_thrown e_signs e_rows e_read e_begins e_tried))
    else (
    if (bI x9) = 0 then (
    k_Md_read_223 e_text Ko23  x1 x2 x3 x4 x5 x6 x7 x8 x10 e_thrown e_signs e_rows e_read e_begins e_tried)
    else (
    if x1 = 4 then (
    k_Md_read_198 e_text Ko23  x1 x2 x3 x4 x5 x6 x7 x8 x10 x3 3 e_thrown e_signs e_rows e_read e_begins e_tried)
    else (
    k_Md_read_198 e_text Ko23  x1 x2 x3 x4 x5 x6 x7 x8 x10 x3 2 e_thrown e_signs e_rows e_read e_begins e_tried))))))
    else (
    ixg x5 21 (
    if (bI x9) = 0 then (
    k_Md_read_97 e_text Ko23  x1 x2 x4 x5 x6 x7 x8 e_thrown e_signs e_rows e_read e_begins (upd e_tried x5.toNatClampNeg x7))
    else (
    if 20 ≤ x5 then (
    k_Md_read_97 e_text Ko23  x1 x2 x4 x5 x6 x7 x8 e_thrown e_signs e_rows e_read e_begins (upd e_tried x5.toNatClampNeg x7))
    else (
    k_Md_read_98 e_text Ko23  x1 x2 x4 x5 x6 x7 x8 1 e_thrown e_signs e_rows e_read e_begins (upd e_tried x5.toNatClampNeg x7)))))
def k_Md_read_434 (e_text : Nat → Int32)  (x5 : Int32) (x6 : Int32) (e_thrown : Int32) (e_signs : Int32) (e_rows : Int32) (e_read : Nat → Int32) (e_begins : Nat → Int32) (e_tried : Nat → Int32) : Option (Int32 × Int32 × Int32 × Int32 × (Nat → Int32) × (Nat → Int32) × (Nat → Int32)) :=
    if 0 ≤ x6 then (
    some ((-1) - x6, e_thrown, 0, e_rows, e_read, e_begins, e_tried))
    else (
    some (x5, e_thrown, 0, e_rows, e_read, e_begins, e_tried))
def k_Md_read_407 (e_text : Nat → Int32)  : Nat → Int32 → Int32 → Int32 → Int32 → Int32 → Int32 → (Nat → Int32) → (Nat → Int32) → (Nat → Int32) → Option (Int32 × Int32 × Int32 × Int32 × (Nat → Int32) × (Nat → Int32) × (Nat → Int32))
  | 0, _, _, _, _, _, _, _, _, _ => none
  | n + 1, x5, x6, x7, e_thrown, e_signs, e_rows, e_read, e_begins, e_tried =>
    if x5 < x7 then (
    k_Md_read_434 e_text  x5 x6 e_thrown e_signs e_rows e_read e_begins e_tried)
    else (
    ixg x7 21 (
    ixg x7 21 (
    k_Md_read_407 e_text n x5 x6 (x7 + 1) e_thrown e_signs e_rows e_read (upd e_begins x7.toNatClampNeg (e_tried x7.toNatClampNeg)) e_tried)))
theorem k_Md_read_407_s (e_text : Nat → Int32)  (n : Nat) (x5 : Int32) (x6 : Int32) (x7 : Int32) (e_thrown : Int32) (e_signs : Int32) (e_rows : Int32) (e_read : Nat → Int32) (e_begins : Nat → Int32) (e_tried : Nat → Int32) : k_Md_read_407 e_text (n + 1) x5 x6 x7 e_thrown e_signs e_rows e_read e_begins e_tried = (
    if x5 < x7 then (
    k_Md_read_434 e_text  x5 x6 e_thrown e_signs e_rows e_read e_begins e_tried)
    else (
    ixg x7 21 (
    ixg x7 21 (
    k_Md_read_407 e_text n x5 x6 (x7 + 1) e_thrown e_signs e_rows e_read (upd e_begins x7.toNatClampNeg (e_tried x7.toNatClampNeg)) e_tried)))) := rfl
theorem k_Md_read_407_z (e_text : Nat → Int32)  (x5 : Int32) (x6 : Int32) (x7 : Int32) (e_thrown : Int32) (e_signs : Int32) (e_rows : Int32) (e_read : Nat → Int32) (e_begins : Nat → Int32) (e_tried : Nat → Int32) : k_Md_read_407 e_text 0 x5 x6 x7 e_thrown e_signs e_rows e_read e_begins e_tried = none := rfl
def k_Md_read_364 (e_text : Nat → Int32)  : Nat → Int32 → Int32 → Int32 → Int32 → Int32 → Int32 → (Nat → Int32) → (Nat → Int32) → (Nat → Int32) → Option (Int32 × Int32 × Int32 × Int32 × (Nat → Int32) × (Nat → Int32) × (Nat → Int32))
  | 0, _, _, _, _, _, _, _, _, _ => none
  | n + 1, x5, x6, x7, e_thrown, e_signs, e_rows, e_read, e_begins, e_tried =>
    if e_signs ≤ x7 then (
    ixg x5 21 (
    k_Md_read_407 e_text 2000 x5 x6 0 e_thrown e_signs e_rows e_read e_begins (upd e_tried x5.toNatClampNeg e_signs)))
    else (
    ixg x7 300 (
    ixg x7 300 (
    k_Md_read_364 e_text n x5 x6 (x7 + 1) e_thrown e_signs e_rows (upd e_read x7.toNatClampNeg (e_text x7.toNatClampNeg)) e_begins e_tried)))
theorem k_Md_read_364_s (e_text : Nat → Int32)  (n : Nat) (x5 : Int32) (x6 : Int32) (x7 : Int32) (e_thrown : Int32) (e_signs : Int32) (e_rows : Int32) (e_read : Nat → Int32) (e_begins : Nat → Int32) (e_tried : Nat → Int32) : k_Md_read_364 e_text (n + 1) x5 x6 x7 e_thrown e_signs e_rows e_read e_begins e_tried = (
    if e_signs ≤ x7 then (
    ixg x5 21 (
    k_Md_read_407 e_text 2000 x5 x6 0 e_thrown e_signs e_rows e_read e_begins (upd e_tried x5.toNatClampNeg e_signs)))
    else (
    ixg x7 300 (
    ixg x7 300 (
    k_Md_read_364 e_text n x5 x6 (x7 + 1) e_thrown e_signs e_rows (upd e_read x7.toNatClampNeg (e_text x7.toNatClampNeg)) e_begins e_tried)))) := rfl
theorem k_Md_read_364_z (e_text : Nat → Int32)  (x5 : Int32) (x6 : Int32) (x7 : Int32) (e_thrown : Int32) (e_signs : Int32) (e_rows : Int32) (e_read : Nat → Int32) (e_begins : Nat → Int32) (e_tried : Nat → Int32) : k_Md_read_364 e_text 0 x5 x6 x7 e_thrown e_signs e_rows e_read e_begins e_tried = none := rfl
def k_Md_read_348 (e_text : Nat → Int32)  (x5 : Int32) (s0 : Int32) (e_thrown : Int32) (e_signs : Int32) (e_rows : Int32) (e_read : Nat → Int32) (e_begins : Nat → Int32) (e_tried : Nat → Int32) : Option (Int32 × Int32 × Int32 × Int32 × (Nat → Int32) × (Nat → Int32) × (Nat → Int32)) :=
    if 0 ≤ s0 then (
    k_Md_read_434 e_text  x5 s0 e_thrown e_signs e_rows e_read e_begins e_tried)
    else (
    k_Md_read_364 e_text 2000 x5 s0 0 e_thrown e_signs x5 e_read e_begins e_tried)
def k_Md_read_339 (e_text : Nat → Int32)  (x5 : Int32) (e_thrown : Int32) (e_signs : Int32) (e_rows : Int32) (e_read : Nat → Int32) (e_begins : Nat → Int32) (e_tried : Nat → Int32) : Option (Int32 × Int32 × Int32 × Int32 × (Nat → Int32) × (Nat → Int32) × (Nat → Int32)) :=
    k_Md_read_348 e_text  x5 e_signs e_thrown e_signs e_rows e_read e_begins e_tried
def k_Md_read_346 (e_text : Nat → Int32)  (x5 : Int32) (x6 : Int32) (e_thrown : Int32) (e_signs : Int32) (e_rows : Int32) (e_read : Nat → Int32) (e_begins : Nat → Int32) (e_tried : Nat → Int32) : Option (Int32 × Int32 × Int32 × Int32 × (Nat → Int32) × (Nat → Int32) × (Nat → Int32)) :=
    k_Md_read_348 e_text  x5 x6 e_thrown e_signs e_rows e_read e_begins e_tried
def k_Md_read_325 (e_text : Nat → Int32)  (x1 : Int32) (x5 : Int32) (x6 : Int32) (e_thrown : Int32) (e_signs : Int32) (e_rows : Int32) (e_read : Nat → Int32) (e_begins : Nat → Int32) (e_tried : Nat → Int32) : Option (Int32 × Int32 × Int32 × Int32 × (Nat → Int32) × (Nat → Int32) × (Nat → Int32)) :=
    if 0 ≤ x6 then (
    k_Md_read_346 e_text  x5 x6 e_thrown e_signs e_rows e_read e_begins e_tried)
    else (
    if x1 = 0 then (
    if x5 = 0 then (
    k_Md_read_339 e_text  x5 e_thrown e_signs e_rows e_read e_begins e_tried)
    else (
    k_Md_read_346 e_text  x5 x6 e_thrown e_signs e_rows e_read e_begins e_tried))
    else (
    k_Md_read_339 e_text  x5 e_thrown e_signs e_rows e_read e_begins e_tried))
def k_Md_read_23 (e_text : Nat → Int32)  : Nat → Int32 → Int32 → Int32 → Int32 → Int32 → Int32 → Int32 → Int32 → Int32 → Int32 → (Nat → Int32) → (Nat → Int32) → (Nat → Int32) → Option (Int32 × Int32 × Int32 × Int32 × (Nat → Int32) × (Nat → Int32) × (Nat → Int32))
  | 0, _, _, _, _, _, _, _, _, _, _, _, _, _ => none
  | n + 1, x1, x2, x3, x4, x5, x6, x7, e_thrown, e_signs, e_rows, e_read, e_begins, e_tried =>
    if e_signs ≤ x7 then (
    k_Md_read_325 e_text  x1 x5 x6 e_thrown e_signs e_rows e_read e_begins e_tried)
    else (
    if 0 ≤ x6 then (
    k_Md_read_325 e_text  x1 x5 x6 e_thrown e_signs e_rows e_read e_begins e_tried)
    else (
    ixg x7 300 (
    bd1 (m_Md_isDigit (e_text x7.toNatClampNeg)) (fun r_48 =>
    if x1 = 0 then (
    k_Md_read_65 e_text (k_Md_read_23 e_text n)  x1 x2 x3 x4 x5 x6 x7 (e_text x7.toNatClampNeg) r_48 (-1) true e_thrown e_signs e_rows e_read e_begins e_tried)
    else (
    k_Md_read_65 e_text (k_Md_read_23 e_text n)  x1 x2 x3 x4 x5 x6 x7 (e_text x7.toNatClampNeg) r_48 (-1) false e_thrown e_signs e_rows e_read e_begins e_tried)))))
theorem k_Md_read_23_s (e_text : Nat → Int32)  (n : Nat) (x1 : Int32) (x2 : Int32) (x3 : Int32) (x4 : Int32) (x5 : Int32) (x6 : Int32) (x7 : Int32) (e_thrown : Int32) (e_signs : Int32) (e_rows : Int32) (e_read : Nat → Int32) (e_begins : Nat → Int32) (e_tried : Nat → Int32) : k_Md_read_23 e_text (n + 1) x1 x2 x3 x4 x5 x6 x7 e_thrown e_signs e_rows e_read e_begins e_tried = (
    if e_signs ≤ x7 then (
    k_Md_read_325 e_text  x1 x5 x6 e_thrown e_signs e_rows e_read e_begins e_tried)
    else (
    if 0 ≤ x6 then (
    k_Md_read_325 e_text  x1 x5 x6 e_thrown e_signs e_rows e_read e_begins e_tried)
    else (
    ixg x7 300 (
    bd1 (m_Md_isDigit (e_text x7.toNatClampNeg)) (fun r_48 =>
    if x1 = 0 then (
    k_Md_read_65 e_text (k_Md_read_23 e_text n)  x1 x2 x3 x4 x5 x6 x7 (e_text x7.toNatClampNeg) r_48 (-1) true e_thrown e_signs e_rows e_read e_begins e_tried)
    else (
    k_Md_read_65 e_text (k_Md_read_23 e_text n)  x1 x2 x3 x4 x5 x6 x7 (e_text x7.toNatClampNeg) r_48 (-1) false e_thrown e_signs e_rows e_read e_begins e_tried)))))) := rfl
theorem k_Md_read_23_z (e_text : Nat → Int32)  (x1 : Int32) (x2 : Int32) (x3 : Int32) (x4 : Int32) (x5 : Int32) (x6 : Int32) (x7 : Int32) (e_thrown : Int32) (e_signs : Int32) (e_rows : Int32) (e_read : Nat → Int32) (e_begins : Nat → Int32) (e_tried : Nat → Int32) : k_Md_read_23 e_text 0 x1 x2 x3 x4 x5 x6 x7 e_thrown e_signs e_rows e_read e_begins e_tried = none := rfl
def m_Md_read  (e_text : Nat → Int32) (e_thrown : Int32) (e_signs : Int32) (e_rows : Int32) (e_read : Nat → Int32) (e_begins : Nat → Int32) (e_tried : Nat → Int32) : Option (Int32 × Int32 × Int32 × Int32 × (Nat → Int32) × (Nat → Int32) × (Nat → Int32)) :=
    k_Md_read_23 e_text 2000 0 0 0 0 0 (-1) 0 0 e_signs e_rows e_read e_begins e_tried
def k_Md_begin_59 (e_read : Nat → Int32) (e_begins : Nat → Int32) (p1 : Int32) (p2 : Int32) (Ko17 : Int32 → Int32 → Bool → Int32 → Option Int32) (x3 : Int32) (x4 : Int32) (x6 : Int32) (s0 : Bool) : Option Int32 :=
    Ko17 (x3 + 1) (x4 / 10) s0 (x6 + 1)
def k_Md_begin_58 (e_read : Nat → Int32) (e_begins : Nat → Int32) (p1 : Int32) (p2 : Int32) (Ko17 : Int32 → Int32 → Bool → Int32 → Option Int32) (x3 : Int32) (x4 : Int32) (x6 : Int32) : Option Int32 :=
    k_Md_begin_59 e_read e_begins p1 p2 Ko17  x3 x4 x6 false
def k_Md_begin_17 (e_read : Nat → Int32) (e_begins : Nat → Int32) (p1 : Int32) (p2 : Int32) : Nat → Int32 → Int32 → Bool → Int32 → Option Int32
  | 0, _, _, _, _ => none
  | n + 1, x3, x4, x5, x6 =>
    ixg x6 300 (
    if (e_read x6.toNatClampNeg) = 58 then (
    if (bI x5) = 0 then (
    some (0))
    else (
    some (x3)))
    else (
    if (bI x5) = 0 then (
    k_Md_begin_58 e_read e_begins p1 p2 (k_Md_begin_17 e_read e_begins p1 p2 n)  x3 x4 x6)
    else (
    ixg x6 300 (
    nzgI x4 (
    if ((e_read x6.toNatClampNeg) - 48) = ((p2 / x4) - (p2 / x4) / 10 * 10) then (
    k_Md_begin_59 e_read e_begins p1 p2 (k_Md_begin_17 e_read e_begins p1 p2 n)  x3 x4 x6 true)
    else (
    k_Md_begin_58 e_read e_begins p1 p2 (k_Md_begin_17 e_read e_begins p1 p2 n)  x3 x4 x6))))))
theorem k_Md_begin_17_s (e_read : Nat → Int32) (e_begins : Nat → Int32) (p1 : Int32) (p2 : Int32) (n : Nat) (x3 : Int32) (x4 : Int32) (x5 : Bool) (x6 : Int32) : k_Md_begin_17 e_read e_begins p1 p2 (n + 1) x3 x4 x5 x6 = (
    ixg x6 300 (
    if (e_read x6.toNatClampNeg) = 58 then (
    if (bI x5) = 0 then (
    some (0))
    else (
    some (x3)))
    else (
    if (bI x5) = 0 then (
    k_Md_begin_58 e_read e_begins p1 p2 (k_Md_begin_17 e_read e_begins p1 p2 n)  x3 x4 x6)
    else (
    ixg x6 300 (
    nzgI x4 (
    if ((e_read x6.toNatClampNeg) - 48) = ((p2 / x4) - (p2 / x4) / 10 * 10) then (
    k_Md_begin_59 e_read e_begins p1 p2 (k_Md_begin_17 e_read e_begins p1 p2 n)  x3 x4 x6 true)
    else (
    k_Md_begin_58 e_read e_begins p1 p2 (k_Md_begin_17 e_read e_begins p1 p2 n)  x3 x4 x6))))))) := rfl
theorem k_Md_begin_17_z (e_read : Nat → Int32) (e_begins : Nat → Int32) (p1 : Int32) (p2 : Int32) (x3 : Int32) (x4 : Int32) (x5 : Bool) (x6 : Int32) : k_Md_begin_17 e_read e_begins p1 p2 0 x3 x4 x5 x6 = none := rfl
def m_Md_begin (p1 : Int32) (p2 : Int32) (e_read : Nat → Int32) (e_begins : Nat → Int32) : Option Int32 :=
    ixg p1 21 (
    k_Md_begin_17 e_read e_begins p1 p2 2000 0 100000 true (e_begins p1.toNatClampNeg))
def k_Md_rowOf_37 (e_rows : Int32) (e_read : Nat → Int32) (e_begins : Nat → Int32) (p1 : Int32) (Ko7 : Int32 → Int32 → Int32 → Option Int32) (x3 : Int32) (x4 : Int32) (x5 : Int32) (s0 : Int32) : Option Int32 :=
    if x5 < x3 then (
    Ko7 s0 x3 (x4 + 1))
    else (
    Ko7 s0 x5 (x4 + 1))
def k_Md_rowOf_7 (e_rows : Int32) (e_read : Nat → Int32) (e_begins : Nat → Int32) (p1 : Int32) : Nat → Int32 → Int32 → Int32 → Option Int32
  | 0, _, _, _ => none
  | n + 1, x2, x3, x4 =>
    if e_rows ≤ x4 then (
    some (x2))
    else (
    bd1 (m_Md_begin x4 p1 e_read e_begins) (fun r_20 =>
    if r_20 < x3 then (
    k_Md_rowOf_37 e_rows e_read e_begins p1 (k_Md_rowOf_7 e_rows e_read e_begins p1 n)  x3 x4 r_20 x2)
    else (
    k_Md_rowOf_37 e_rows e_read e_begins p1 (k_Md_rowOf_7 e_rows e_read e_begins p1 n)  x3 x4 r_20 x4)))
theorem k_Md_rowOf_7_s (e_rows : Int32) (e_read : Nat → Int32) (e_begins : Nat → Int32) (p1 : Int32) (n : Nat) (x2 : Int32) (x3 : Int32) (x4 : Int32) : k_Md_rowOf_7 e_rows e_read e_begins p1 (n + 1) x2 x3 x4 = (
    if e_rows ≤ x4 then (
    some (x2))
    else (
    bd1 (m_Md_begin x4 p1 e_read e_begins) (fun r_20 =>
    if r_20 < x3 then (
    k_Md_rowOf_37 e_rows e_read e_begins p1 (k_Md_rowOf_7 e_rows e_read e_begins p1 n)  x3 x4 r_20 x2)
    else (
    k_Md_rowOf_37 e_rows e_read e_begins p1 (k_Md_rowOf_7 e_rows e_read e_begins p1 n)  x3 x4 r_20 x4)))) := rfl
theorem k_Md_rowOf_7_z (e_rows : Int32) (e_read : Nat → Int32) (e_begins : Nat → Int32) (p1 : Int32) (x2 : Int32) (x3 : Int32) (x4 : Int32) : k_Md_rowOf_7 e_rows e_read e_begins p1 0 x2 x3 x4 = none := rfl
def m_Md_rowOf (p1 : Int32) (e_rows : Int32) (e_read : Nat → Int32) (e_begins : Nat → Int32) : Option Int32 :=
    k_Md_rowOf_7 e_rows e_read e_begins p1 2000 (-1) 1 0
def m_Md_part (p1 : Int32) (p2 : Int32) (p3 : Int64) (e_thrown : Int32) (e_parts : Int32) (e_partCode : Nat → Int32) (e_partLand : Nat → Int32) (e_partCents : Nat → Int64) : Option (Int32 × Int32 × Int32 × (Nat → Int32) × (Nat → Int32) × (Nat → Int64)) :=
    bd1 (m_Md_in ((p1).toInt64) 1 999999) (fun r_6 =>
    if (bI r_6) = 0 then (
    bd2 (m_Md_refuse 1 e_thrown) (fun r_37 e_thrown_37 =>
    some (r_37, e_thrown_37, e_parts, e_partCode, e_partLand, e_partCents)))
    else (
    bd1 (m_Md_in ((p2).toInt64) 0 9) (fun r_18 =>
    if (bI r_18) = 0 then (
    bd2 (m_Md_refuse 1 e_thrown) (fun r_37 e_thrown_37 =>
    some (r_37, e_thrown_37, e_parts, e_partCode, e_partLand, e_partCents)))
    else (
    bd1 (m_Md_in p3 0 1000000000) (fun r_29 =>
    if (bI r_29) = 0 then (
    bd2 (m_Md_refuse 1 e_thrown) (fun r_37 e_thrown_37 =>
    some (r_37, e_thrown_37, e_parts, e_partCode, e_partLand, e_partCents)))
    else (
    if e_parts = 12 then (
    bd2 (m_Md_refuse 2 e_thrown) (fun r_52 e_thrown_52 =>
    some (r_52, e_thrown_52, e_parts, e_partCode, e_partLand, e_partCents)))
    else (
    ixg e_parts 12 (
    ixg e_parts 12 (
    ixg e_parts 12 (
    some (e_parts + 1, 0, e_parts + 1, upd e_partCode e_parts.toNatClampNeg p1, upd e_partLand e_parts.toNatClampNeg p2, vp_updL e_partCents e_parts.toNatClampNeg p3)))))))))))
def m_Md_clear  (e_thrown : Int32) (e_parts : Int32) (e_done : Int32) : Option (Int32 × Int32 × Int32 × Int32) :=
    some (e_parts, 0, 0, 0)
def m_Md_process (p1 : Int32) (e_thrown : Int32) (e_done : Int32) : Option (Bool × Int32 × Int32) :=
    bd1 (m_Md_in ((p1).toInt64) 0 15) (fun r_11 =>
    if (bI r_11) = 0 then (
    some (false, 0, e_done))
    else (
    if ((e_done >>> (p1 &&& 31)) &&& 1) = 1 then (
    some (false, 0, e_done))
    else (
    some (true, 0, e_done ||| (1 <<< (p1 &&& 31))))))
def k_Md_bar_34  (p1 : Int32) (p2 : Bool) (s0 : Bool) (e_thrown : Int32) (e_barred : Int32) : Option (Bool × Int32 × Int32) :=
    if (bI s0) = (bI p2) then (
    some (false, e_thrown, e_barred))
    else (
    some (true, e_thrown, e_barred ^^^ (1 <<< (p1 &&& 31))))
def m_Md_bar (p1 : Int32) (p2 : Bool) (e_thrown : Int32) (e_barred : Int32) : Option (Bool × Int32 × Int32) :=
    bd1 (m_Md_in ((p1).toInt64) 0 15) (fun r_11 =>
    if (bI r_11) = 0 then (
    some (false, 0, e_barred))
    else (
    if ((e_barred >>> (p1 &&& 31)) &&& 1) = 1 then (
    k_Md_bar_34 p1 p2  true 0 e_barred)
    else (
    k_Md_bar_34 p1 p2  false 0 e_barred)))
def m_Md_join (p1 : Int32) (p2 : Int32) (e_thrown : Int32) (e_pairs : Int32) (e_joined : Nat → Int32) : Option (Int32 × Int32 × Int32 × (Nat → Int32)) :=
    bd1 (m_Md_in ((p1).toInt64) 0 9) (fun r_6 =>
    if (bI r_6) = 0 then (
    bd2 (m_Md_refuse 1 e_thrown) (fun r_31 e_thrown_31 =>
    some (r_31, e_thrown_31, e_pairs, e_joined)))
    else (
    bd1 (m_Md_in ((p2).toInt64) 0 9) (fun r_18 =>
    if (bI r_18) = 0 then (
    bd2 (m_Md_refuse 1 e_thrown) (fun r_31 e_thrown_31 =>
    some (r_31, e_thrown_31, e_pairs, e_joined)))
    else (
    if p1 = p2 then (
    bd2 (m_Md_refuse 1 e_thrown) (fun r_31 e_thrown_31 =>
    some (r_31, e_thrown_31, e_pairs, e_joined)))
    else (
    ixg ((10 * p1) + p2) 100 (
    if (e_joined ((10 * p1) + p2).toNatClampNeg) = 0 then (
    ixg ((10 * p1) + p2) 100 (
    ixg ((10 * p2) + p1) 100 (
    some (1, 0, e_pairs + 1, upd (upd e_joined ((10 * p1) + p2).toNatClampNeg (vp_nar .boolean 1)) ((10 * p2) + p1).toNatClampNeg (vp_nar .boolean 1)))))
    else (
    some (0, 0, e_pairs, e_joined))))))))
def m_Md_full (p1 : Bool) (e_thrown : Int32) (e_full : Bool) : Option (Bool × Int32 × Bool) :=
    if (bI e_full) = (bI p1) then (
    some (false, 0, p1))
    else (
    some (true, 0, p1))
def m_Md_tolerance (p1 : Int32) (p2 : Int32) (e_thrown : Int32) (e_up : Int32) (e_down : Int32) : Option (Bool × Int32 × Int32 × Int32) :=
    bd1 (m_Md_in ((p2).toInt64) 1 1000) (fun r_11 =>
    if (bI r_11) = 0 then (
    some (false, 0, e_up, e_down))
    else (
    bd1 (m_Md_in ((p1).toInt64) 0 ((p2).toInt64)) (fun r_22 =>
    if (bI r_22) = 0 then (
    some (false, 0, e_up, e_down))
    else (
    some (true, 0, p1, p2)))))
def k_Md_isOwn_27 (e_full : Bool) (e_joined : Nat → Int32) (p1 : Int32) (Ko4 : Int32 → Int32 → Option Bool) : Nat → Int32 → Int32 → Int32 → Int32 → Option Bool
  | 0, _, _, _, _ => none
  | n + 1, x2, x3, x4, x5 =>
    if 100 ≤ x5 then (
    Ko4 x2 (x3 + 1))
    else (
    ixg x5 100 (
    if (e_joined x5.toNatClampNeg) = 0 then (
    k_Md_isOwn_27 e_full e_joined p1 Ko4 n (x2 ||| 0) x3 x4 (x5 + 1))
    else (
    if ((x4 >>> ((x5 / 10) &&& 31)) &&& 1) = 1 then (
    k_Md_isOwn_27 e_full e_joined p1 Ko4 n (x2 ||| (1 <<< ((x5 - x5 / 10 * 10) &&& 31))) x3 x4 (x5 + 1))
    else (
    k_Md_isOwn_27 e_full e_joined p1 Ko4 n (x2 ||| 0) x3 x4 (x5 + 1)))))
theorem k_Md_isOwn_27_s (e_full : Bool) (e_joined : Nat → Int32) (p1 : Int32) (Ko4 : Int32 → Int32 → Option Bool) (n : Nat) (x2 : Int32) (x3 : Int32) (x4 : Int32) (x5 : Int32) : k_Md_isOwn_27 e_full e_joined p1 Ko4 (n + 1) x2 x3 x4 x5 = (
    if 100 ≤ x5 then (
    Ko4 x2 (x3 + 1))
    else (
    ixg x5 100 (
    if (e_joined x5.toNatClampNeg) = 0 then (
    k_Md_isOwn_27 e_full e_joined p1 Ko4 n (x2 ||| 0) x3 x4 (x5 + 1))
    else (
    if ((x4 >>> ((x5 / 10) &&& 31)) &&& 1) = 1 then (
    k_Md_isOwn_27 e_full e_joined p1 Ko4 n (x2 ||| (1 <<< ((x5 - x5 / 10 * 10) &&& 31))) x3 x4 (x5 + 1))
    else (
    k_Md_isOwn_27 e_full e_joined p1 Ko4 n (x2 ||| 0) x3 x4 (x5 + 1)))))) := rfl
theorem k_Md_isOwn_27_z (e_full : Bool) (e_joined : Nat → Int32) (p1 : Int32) (Ko4 : Int32 → Int32 → Option Bool) (x2 : Int32) (x3 : Int32) (x4 : Int32) (x5 : Int32) : k_Md_isOwn_27 e_full e_joined p1 Ko4 0 x2 x3 x4 x5 = none := rfl
def k_Md_isOwn_18 (e_full : Bool) (e_joined : Nat → Int32) (p1 : Int32) (Ko4 : Int32 → Int32 → Option Bool) (x2 : Int32) (x3 : Int32) (s0 : Int32) (s1 : Int32) : Option Bool :=
    if s1 ≤ s0 then (
    if ((x2 >>> (p1 &&& 31)) &&& 1) = 1 then (
    some (true))
    else (
    some (false)))
    else (
    k_Md_isOwn_27 e_full e_joined p1 Ko4 2000 x2 x3 x2 0)
def k_Md_isOwn_4 (e_full : Bool) (e_joined : Nat → Int32) (p1 : Int32) : Nat → Int32 → Int32 → Option Bool
  | 0, _, _ => none
  | n + 1, x2, x3 =>
    if (bI e_full) = 0 then (
    k_Md_isOwn_18 e_full e_joined p1 (k_Md_isOwn_4 e_full e_joined p1 n)  x2 x3 x3 1)
    else (
    k_Md_isOwn_18 e_full e_joined p1 (k_Md_isOwn_4 e_full e_joined p1 n)  x2 x3 x3 10)
theorem k_Md_isOwn_4_s (e_full : Bool) (e_joined : Nat → Int32) (p1 : Int32) (n : Nat) (x2 : Int32) (x3 : Int32) : k_Md_isOwn_4 e_full e_joined p1 (n + 1) x2 x3 = (
    if (bI e_full) = 0 then (
    k_Md_isOwn_18 e_full e_joined p1 (k_Md_isOwn_4 e_full e_joined p1 n)  x2 x3 x3 1)
    else (
    k_Md_isOwn_18 e_full e_joined p1 (k_Md_isOwn_4 e_full e_joined p1 n)  x2 x3 x3 10)) := rfl
theorem k_Md_isOwn_4_z (e_full : Bool) (e_joined : Nat → Int32) (p1 : Int32) (x2 : Int32) (x3 : Int32) : k_Md_isOwn_4 e_full e_joined p1 0 x2 x3 = none := rfl
def m_Md_isOwn (p1 : Int32) (e_full : Bool) (e_joined : Nat → Int32) : Option Bool :=
    k_Md_isOwn_4 e_full e_joined p1 2000 1 0
def k_Md_own_18 (e_full : Bool) (e_joined : Nat → Int32) (p1 : Int32) (s1 : Bool) (e_thrown : Int32) : Option (Bool × Int32) :=
    if (bI s1) = 0 then (
    bd1 (m_Md_isOwn p1 e_full e_joined) (fun r_30 =>
    if (bI r_30) = 0 then (
    some (false, (bI s1)))
    else (
    some (true, (bI s1)))))
    else (
    some (false, (bI s1)))
def m_Md_own (p1 : Int32) (e_full : Bool) (e_joined : Nat → Int32) (e_thrown : Int32) : Option (Bool × Int32) :=
    bd1 (m_Md_in ((p1).toInt64) 0 9) (fun r_7 =>
    if (bI r_7) = 0 then (
    k_Md_own_18 e_full e_joined p1  true e_thrown)
    else (
    k_Md_own_18 e_full e_joined p1  false e_thrown))
def k_Md_foreign_4 (e_parts : Int32) (e_full : Bool) (e_partLand : Nat → Int32) (e_partCents : Nat → Int64) (e_joined : Nat → Int32)  : Nat → Int64 → Int32 → Option Int64
  | 0, _, _ => none
  | n + 1, x1, x3 =>
    if e_parts ≤ x3 then (
    some (x1))
    else (
    ixg x3 12 (
    bd1 (m_Md_isOwn (e_partLand x3.toNatClampNeg) e_full e_joined) (fun r_20 =>
    if (bI r_20) = 0 then (
    ixg x3 12 (
    k_Md_foreign_4 e_parts e_full e_partLand e_partCents e_joined n (x1 + (e_partCents x3.toNatClampNeg)) (x3 + 1)))
    else (
    k_Md_foreign_4 e_parts e_full e_partLand e_partCents e_joined n (x1 + 0) (x3 + 1)))))
theorem k_Md_foreign_4_s (e_parts : Int32) (e_full : Bool) (e_partLand : Nat → Int32) (e_partCents : Nat → Int64) (e_joined : Nat → Int32)  (n : Nat) (x1 : Int64) (x3 : Int32) : k_Md_foreign_4 e_parts e_full e_partLand e_partCents e_joined (n + 1) x1 x3 = (
    if e_parts ≤ x3 then (
    some (x1))
    else (
    ixg x3 12 (
    bd1 (m_Md_isOwn (e_partLand x3.toNatClampNeg) e_full e_joined) (fun r_20 =>
    if (bI r_20) = 0 then (
    ixg x3 12 (
    k_Md_foreign_4 e_parts e_full e_partLand e_partCents e_joined n (x1 + (e_partCents x3.toNatClampNeg)) (x3 + 1)))
    else (
    k_Md_foreign_4 e_parts e_full e_partLand e_partCents e_joined n (x1 + 0) (x3 + 1)))))) := rfl
theorem k_Md_foreign_4_z (e_parts : Int32) (e_full : Bool) (e_partLand : Nat → Int32) (e_partCents : Nat → Int64) (e_joined : Nat → Int32)  (x1 : Int64) (x3 : Int32) : k_Md_foreign_4 e_parts e_full e_partLand e_partCents e_joined 0 x1 x3 = none := rfl
def m_Md_foreign  (e_parts : Int32) (e_full : Bool) (e_partLand : Nat → Int32) (e_partCents : Nat → Int64) (e_joined : Nat → Int32) : Option Int64 :=
    k_Md_foreign_4 e_parts e_full e_partLand e_partCents e_joined 2000 0 0
def k_Md_isOther_74 (e_parts : Int32) (e_full : Bool) (e_up : Int32) (e_down : Int32) (e_partCode : Nat → Int32) (e_partLand : Nat → Int32) (e_partCents : Nat → Int64) (e_joined : Nat → Int32) (p1 : Int32) (p2 : Int64) (p3 : Int32) (Ko9 : Int64 → Bool → Int32 → Option Bool) (x7 : Bool) (x8 : Int32) (x9 : Bool) (s0 : Int64) (s1 : Int64) : Option Bool :=
    if (bI x7) = 0 then (
    if (bI x9) = 0 then (
    Ko9 (s0 + s1) false (x8 + 1))
    else (
    Ko9 (s0 + s1) true (x8 + 1)))
    else (
    Ko9 (s0 + s1) true (x8 + 1))
def k_Md_isOther_54 (e_parts : Int32) (e_full : Bool) (e_up : Int32) (e_down : Int32) (e_partCode : Nat → Int32) (e_partLand : Nat → Int32) (e_partCents : Nat → Int64) (e_joined : Nat → Int32) (p1 : Int32) (p2 : Int64) (p3 : Int32) (Ko9 : Int64 → Bool → Int32 → Option Bool) (x5 : Int64) (x7 : Bool) (x8 : Int32) (s0 : Bool) : Option Bool :=
    if (bI s0) = 0 then (
    k_Md_isOther_74 e_parts e_full e_up e_down e_partCode e_partLand e_partCents e_joined p1 p2 p3 Ko9  x7 x8 s0 x5 0)
    else (
    ixg x8 12 (
    k_Md_isOther_74 e_parts e_full e_up e_down e_partCode e_partLand e_partCents e_joined p1 p2 p3 Ko9  x7 x8 s0 x5 (e_partCents x8.toNatClampNeg)))
def k_Md_isOther_53 (e_parts : Int32) (e_full : Bool) (e_up : Int32) (e_down : Int32) (e_partCode : Nat → Int32) (e_partLand : Nat → Int32) (e_partCents : Nat → Int64) (e_joined : Nat → Int32) (p1 : Int32) (p2 : Int64) (p3 : Int32) (Ko9 : Int64 → Bool → Int32 → Option Bool) (x5 : Int64) (x7 : Bool) (x8 : Int32) : Option Bool :=
    k_Md_isOther_54 e_parts e_full e_up e_down e_partCode e_partLand e_partCents e_joined p1 p2 p3 Ko9  x5 x7 x8 false
def k_Md_isOther_9 (e_parts : Int32) (e_full : Bool) (e_up : Int32) (e_down : Int32) (e_partCode : Nat → Int32) (e_partLand : Nat → Int32) (e_partCents : Nat → Int64) (e_joined : Nat → Int32) (p1 : Int32) (p2 : Int64) (p3 : Int32) : Nat → Int64 → Bool → Int32 → Option Bool
  | 0, _, _, _ => none
  | n + 1, x5, x7, x8 =>
    if e_parts ≤ x8 then (
    if (bI x7) = 0 then (
    some (true))
    else (
    if 0 < (lg_cmp (x5 * ((e_down).toInt64)) (p2 * ((e_up).toInt64))) then (
    some (false))
    else (
    some (true))))
    else (
    ixg x8 12 (
    bd1 (m_Md_isOwn (e_partLand x8.toNatClampNeg) e_full e_joined) (fun r_26 =>
    if (bI r_26) = 0 then (
    ixg x8 12 (
    nzgI p3 (
    nzgI p3 (
    if ((e_partCode x8.toNatClampNeg) / p3) = (p1 / p3) then (
    k_Md_isOther_54 e_parts e_full e_up e_down e_partCode e_partLand e_partCents e_joined p1 p2 p3 (k_Md_isOther_9 e_parts e_full e_up e_down e_partCode e_partLand e_partCents e_joined p1 p2 p3 n)  x5 x7 x8 true)
    else (
    k_Md_isOther_53 e_parts e_full e_up e_down e_partCode e_partLand e_partCents e_joined p1 p2 p3 (k_Md_isOther_9 e_parts e_full e_up e_down e_partCode e_partLand e_partCents e_joined p1 p2 p3 n)  x5 x7 x8)))))
    else (
    k_Md_isOther_53 e_parts e_full e_up e_down e_partCode e_partLand e_partCents e_joined p1 p2 p3 (k_Md_isOther_9 e_parts e_full e_up e_down e_partCode e_partLand e_partCents e_joined p1 p2 p3 n)  x5 x7 x8))))
theorem k_Md_isOther_9_s (e_parts : Int32) (e_full : Bool) (e_up : Int32) (e_down : Int32) (e_partCode : Nat → Int32) (e_partLand : Nat → Int32) (e_partCents : Nat → Int64) (e_joined : Nat → Int32) (p1 : Int32) (p2 : Int64) (p3 : Int32) (n : Nat) (x5 : Int64) (x7 : Bool) (x8 : Int32) : k_Md_isOther_9 e_parts e_full e_up e_down e_partCode e_partLand e_partCents e_joined p1 p2 p3 (n + 1) x5 x7 x8 = (
    if e_parts ≤ x8 then (
    if (bI x7) = 0 then (
    some (true))
    else (
    if 0 < (lg_cmp (x5 * ((e_down).toInt64)) (p2 * ((e_up).toInt64))) then (
    some (false))
    else (
    some (true))))
    else (
    ixg x8 12 (
    bd1 (m_Md_isOwn (e_partLand x8.toNatClampNeg) e_full e_joined) (fun r_26 =>
    if (bI r_26) = 0 then (
    ixg x8 12 (
    nzgI p3 (
    nzgI p3 (
    if ((e_partCode x8.toNatClampNeg) / p3) = (p1 / p3) then (
    k_Md_isOther_54 e_parts e_full e_up e_down e_partCode e_partLand e_partCents e_joined p1 p2 p3 (k_Md_isOther_9 e_parts e_full e_up e_down e_partCode e_partLand e_partCents e_joined p1 p2 p3 n)  x5 x7 x8 true)
    else (
    k_Md_isOther_53 e_parts e_full e_up e_down e_partCode e_partLand e_partCents e_joined p1 p2 p3 (k_Md_isOther_9 e_parts e_full e_up e_down e_partCode e_partLand e_partCents e_joined p1 p2 p3 n)  x5 x7 x8)))))
    else (
    k_Md_isOther_53 e_parts e_full e_up e_down e_partCode e_partLand e_partCents e_joined p1 p2 p3 (k_Md_isOther_9 e_parts e_full e_up e_down e_partCode e_partLand e_partCents e_joined p1 p2 p3 n)  x5 x7 x8))))) := rfl
theorem k_Md_isOther_9_z (e_parts : Int32) (e_full : Bool) (e_up : Int32) (e_down : Int32) (e_partCode : Nat → Int32) (e_partLand : Nat → Int32) (e_partCents : Nat → Int64) (e_joined : Nat → Int32) (p1 : Int32) (p2 : Int64) (p3 : Int32) (x5 : Int64) (x7 : Bool) (x8 : Int32) : k_Md_isOther_9 e_parts e_full e_up e_down e_partCode e_partLand e_partCents e_joined p1 p2 p3 0 x5 x7 x8 = none := rfl
def m_Md_isOther (p1 : Int32) (p2 : Int64) (p3 : Int32) (e_parts : Int32) (e_full : Bool) (e_up : Int32) (e_down : Int32) (e_partCode : Nat → Int32) (e_partLand : Nat → Int32) (e_partCents : Nat → Int64) (e_joined : Nat → Int32) : Option Bool :=
    k_Md_isOther_9 e_parts e_full e_up e_down e_partCode e_partLand e_partCents e_joined p1 p2 p3 2000 0 false 0
def k_Md_numberAt_6 (e_read : Nat → Int32) (p1 : Int32) : Nat → Int32 → Int32 → Option Int32
  | 0, _, _ => none
  | n + 1, x2, x3 =>
    ixg x3 300 (
    bd1 (m_Md_isDigit (e_read x3.toNatClampNeg)) (fun r_12 =>
    if (bI r_12) = 0 then (
    some (x2))
    else (
    ixg x3 300 (
    k_Md_numberAt_6 e_read p1 n (((10 * x2) + (e_read x3.toNatClampNeg)) - 48) (x3 + 1)))))
theorem k_Md_numberAt_6_s (e_read : Nat → Int32) (p1 : Int32) (n : Nat) (x2 : Int32) (x3 : Int32) : k_Md_numberAt_6 e_read p1 (n + 1) x2 x3 = (
    ixg x3 300 (
    bd1 (m_Md_isDigit (e_read x3.toNatClampNeg)) (fun r_12 =>
    if (bI r_12) = 0 then (
    some (x2))
    else (
    ixg x3 300 (
    k_Md_numberAt_6 e_read p1 n (((10 * x2) + (e_read x3.toNatClampNeg)) - 48) (x3 + 1)))))) := rfl
theorem k_Md_numberAt_6_z (e_read : Nat → Int32) (p1 : Int32) (x2 : Int32) (x3 : Int32) : k_Md_numberAt_6 e_read p1 0 x2 x3 = none := rfl
def m_Md_numberAt (p1 : Int32) (e_read : Nat → Int32) : Option Int32 :=
    k_Md_numberAt_6 e_read p1 2000 0 (p1 + 1)
def m_Md_holds (p1 : Int32) (p2 : Int32) (p3 : Int64) (e_parts : Int32) (e_done : Int32) (e_full : Bool) (e_up : Int32) (e_down : Int32) (e_read : Nat → Int32) (e_partCode : Nat → Int32) (e_partLand : Nat → Int32) (e_partCents : Nat → Int64) (e_joined : Nat → Int32) : Option Bool :=
    ixg p1 300 (
    if (e_read p1.toNatClampNeg) = 67 then (
    bd1 (m_Md_isOther p2 p3 10000 e_parts e_full e_up e_down e_partCode e_partLand e_partCents e_joined) (fun r_75 =>
    some (r_75)))
    else if (e_read p1.toNatClampNeg) = 72 then (
    bd1 (m_Md_isOther p2 p3 100 e_parts e_full e_up e_down e_partCode e_partLand e_partCents e_joined) (fun r_84 =>
    some (r_84)))
    else if (e_read p1.toNatClampNeg) = 83 then (
    bd1 (m_Md_isOther p2 p3 1 e_parts e_full e_up e_down e_partCode e_partLand e_partCents e_joined) (fun r_92 =>
    some (r_92)))
    else if (e_read p1.toNatClampNeg) = 86 then (
    if (lg_cmp p3 0) ≤ 0 then (
    some (false))
    else (
    bd1 (m_Md_foreign e_parts e_full e_partLand e_partCents e_joined) (fun r_106 =>
    bd1 (m_Md_numberAt p1 e_read) (fun r_112 =>
    if 0 < (lg_cmp (100 * r_106) (((r_112).toInt64) * p3)) then (
    some (false))
    else (
    some (true))))))
    else if (e_read p1.toNatClampNeg) = 87 then (
    if e_parts = 0 then (
    some (true))
    else (
    some (false)))
    else (
    bd1 (m_Md_numberAt p1 e_read) (fun r_134 =>
    if ((e_done >>> (r_134 &&& 31)) &&& 1) = 1 then (
    some (true))
    else (
    some (false)))))
def k_Md_ruled_266 (e_parts : Int32) (e_done : Int32) (e_full : Bool) (e_up : Int32) (e_down : Int32) (e_read : Nat → Int32) (e_begins : Nat → Int32) (e_partCode : Nat → Int32) (e_partLand : Nat → Int32) (e_partCents : Nat → Int64) (e_joined : Nat → Int32) (p1 : Int32) (p2 : Int32) (p3 : Int64) (Ko61 : Int32 → Int32 → Int32 → (Nat → Int32) → (Nat → Int32) → (Nat → Int32) → (Nat → Int32) → Option (Bool × Int32 × (Nat → Int32) × (Nat → Int32) × (Nat → Int32) × (Nat → Int32))) (x5 : Int32) (x7 : Int32) (s1 : Int32) (s2 : Bool) (e_asked : Int32) (e_told : Nat → Int32) (e_live : Nat → Int32) (e_any : Nat → Int32) (e_all : Nat → Int32) : Option (Bool × Int32 × (Nat → Int32) × (Nat → Int32) × (Nat → Int32) × (Nat → Int32)) :=
    ixg s1 9 (
    ixg x5 9 (
    Ko61 x5 (x7 + 1) e_asked e_told e_live (upd e_any s1.toNatClampNeg (vp_nar .boolean (bI s2))) (upd e_all x5.toNatClampNeg (vp_nar .boolean 1))))
def k_Md_ruled_261 (e_parts : Int32) (e_done : Int32) (e_full : Bool) (e_up : Int32) (e_down : Int32) (e_read : Nat → Int32) (e_begins : Nat → Int32) (e_partCode : Nat → Int32) (e_partLand : Nat → Int32) (e_partCents : Nat → Int64) (e_joined : Nat → Int32) (p1 : Int32) (p2 : Int32) (p3 : Int64) (Ko61 : Int32 → Int32 → Int32 → (Nat → Int32) → (Nat → Int32) → (Nat → Int32) → (Nat → Int32) → Option (Bool × Int32 × (Nat → Int32) × (Nat → Int32) × (Nat → Int32) × (Nat → Int32))) (x5 : Int32) (x7 : Int32) (s1 : Int32) (e_asked : Int32) (e_told : Nat → Int32) (e_live : Nat → Int32) (e_any : Nat → Int32) (e_all : Nat → Int32) : Option (Bool × Int32 × (Nat → Int32) × (Nat → Int32) × (Nat → Int32) × (Nat → Int32)) :=
    k_Md_ruled_266 e_parts e_done e_full e_up e_down e_read e_begins e_partCode e_partLand e_partCents e_joined p1 p2 p3 Ko61  x5 x7 s1 true e_asked e_told e_live e_any e_all
def k_Md_ruled_347 (e_parts : Int32) (e_done : Int32) (e_full : Bool) (e_up : Int32) (e_down : Int32) (e_read : Nat → Int32) (e_begins : Nat → Int32) (e_partCode : Nat → Int32) (e_partLand : Nat → Int32) (e_partCents : Nat → Int64) (e_joined : Nat → Int32) (p1 : Int32) (p2 : Int32) (p3 : Int64) (Ko61 : Int32 → Int32 → Int32 → (Nat → Int32) → (Nat → Int32) → (Nat → Int32) → (Nat → Int32) → Option (Bool × Int32 × (Nat → Int32) × (Nat → Int32) × (Nat → Int32) × (Nat → Int32))) (x5 : Int32) (x7 : Int32) (s1 : Int32) (s2 : Int32) (s3 : Bool) (e_asked : Int32) (e_told : Nat → Int32) (e_live : Nat → Int32) (e_any : Nat → Int32) (e_all : Nat → Int32) : Option (Bool × Int32 × (Nat → Int32) × (Nat → Int32) × (Nat → Int32) × (Nat → Int32)) :=
    ixg s1 300 (
    Ko61 x5 (x7 + 1) (e_asked + 1) (upd e_told s1.toNatClampNeg (s2 + (bI s3))) e_live e_any e_all)
def k_Md_ruled_117 (e_parts : Int32) (e_done : Int32) (e_full : Bool) (e_up : Int32) (e_down : Int32) (e_read : Nat → Int32) (e_begins : Nat → Int32) (e_partCode : Nat → Int32) (e_partLand : Nat → Int32) (e_partCents : Nat → Int64) (e_joined : Nat → Int32) (p1 : Int32) (p2 : Int32) (p3 : Int64) (Ko61 : Int32 → Int32 → Int32 → (Nat → Int32) → (Nat → Int32) → (Nat → Int32) → (Nat → Int32) → Option (Bool × Int32 × (Nat → Int32) × (Nat → Int32) × (Nat → Int32) × (Nat → Int32))) (x5 : Int32) (x7 : Int32) (x8 : Int32) (s0 : Bool) (e_asked : Int32) (e_told : Nat → Int32) (e_live : Nat → Int32) (e_any : Nat → Int32) (e_all : Nat → Int32) : Option (Bool × Int32 × (Nat → Int32) × (Nat → Int32) × (Nat → Int32) × (Nat → Int32)) :=
    if x8 = 40 then (
    ixg (x5 + 1) 9 (
    ixg (x5 + 1) 9 (
    ixg (x5 + 1) 9 (
    Ko61 (x5 + 1) (x7 + 1) e_asked e_told (upd e_live (x5 + 1).toNatClampNeg (vp_nar .boolean (bI s0))) (upd e_any (x5 + 1).toNatClampNeg (vp_nar .boolean 0)) (upd e_all (x5 + 1).toNatClampNeg (vp_nar .boolean 1))))))
    else (
    if x8 = 41 then (
    ixg ((x5 + (-1)) + 1) 9 (
    if (e_live ((x5 + (-1)) + 1).toNatClampNeg) = 0 then (
    ixg (x5 + (-1)) 9 (
    ixg (x5 + (-1)) 9 (
    Ko61 (x5 + (-1)) (x7 + 1) e_asked e_told e_live e_any (upd e_all (x5 + (-1)).toNatClampNeg (vp_nar .boolean (e_all (x5 + (-1)).toNatClampNeg))))))
    else (
    ixg ((x5 + (-1)) + 1) 9 (
    if (e_any ((x5 + (-1)) + 1).toNatClampNeg) = 0 then (
    ixg ((x5 + (-1)) + 1) 9 (
    if (e_all ((x5 + (-1)) + 1).toNatClampNeg) = 0 then (
    ixg (x5 + (-1)) 9 (
    Ko61 (x5 + (-1)) (x7 + 1) e_asked e_told e_live e_any (upd e_all (x5 + (-1)).toNatClampNeg (vp_nar .boolean 0))))
    else (
    ixg (x5 + (-1)) 9 (
    Ko61 (x5 + (-1)) (x7 + 1) e_asked e_told e_live e_any (upd e_all (x5 + (-1)).toNatClampNeg (vp_nar .boolean 1))))))
    else (
    ixg (x5 + (-1)) 9 (
    Ko61 (x5 + (-1)) (x7 + 1) e_asked e_told e_live e_any (upd e_all (x5 + (-1)).toNatClampNeg (vp_nar .boolean 1))))))))
    else (
    if x8 = 124 then (
    ixg x5 9 (
    if (e_any x5.toNatClampNeg) = 0 then (
    ixg x5 9 (
    if (e_all x5.toNatClampNeg) = 0 then (
    k_Md_ruled_266 e_parts e_done e_full e_up e_down e_read e_begins e_partCode e_partLand e_partCents e_joined p1 p2 p3 Ko61  x5 x7 x5 false e_asked e_told e_live e_any e_all)
    else (
    k_Md_ruled_261 e_parts e_done e_full e_up e_down e_read e_begins e_partCode e_partLand e_partCents e_joined p1 p2 p3 Ko61  x5 x7 x5 e_asked e_told e_live e_any e_all)))
    else (
    k_Md_ruled_261 e_parts e_done e_full e_up e_down e_read e_begins e_partCode e_partLand e_partCents e_joined p1 p2 p3 Ko61  x5 x7 x5 e_asked e_told e_live e_any e_all)))
    else (
    if (bI s0) = 0 then (
    Ko61 x5 (x7 + 1) e_asked e_told e_live e_any e_all)
    else (
    if x8 = 38 then (
    Ko61 x5 (x7 + 1) e_asked e_told e_live e_any e_all)
    else (
    bd1 (m_Md_isDigit x8) (fun r_292 =>
    if (bI r_292) = 0 then (
    bd1 (m_Md_holds x7 p2 p3 e_parts e_done e_full e_up e_down e_read e_partCode e_partLand e_partCents e_joined) (fun r_309 =>
    ixg x5 9 (
    ixg p1 21 (
    ixg x5 9 (
    if ((upd e_all x5.toNatClampNeg (vp_nar .boolean (bI r_309))) x5.toNatClampNeg) = 0 then (
    k_Md_ruled_347 e_parts e_done e_full e_up e_down e_read e_begins e_partCode e_partLand e_partCents e_joined p1 p2 p3 Ko61  x5 x7 e_asked (2 * (x7 - (e_begins p1.toNatClampNeg))) false e_asked e_told e_live e_any (upd e_all x5.toNatClampNeg (vp_nar .boolean (bI r_309))))
    else (
    k_Md_ruled_347 e_parts e_done e_full e_up e_down e_read e_begins e_partCode e_partLand e_partCents e_joined p1 p2 p3 Ko61  x5 x7 e_asked (2 * (x7 - (e_begins p1.toNatClampNeg))) true e_asked e_told e_live e_any (upd e_all x5.toNatClampNeg (vp_nar .boolean (bI r_309)))))))))
    else (
    Ko61 x5 (x7 + 1) e_asked e_told e_live e_any e_all)))))))
def k_Md_ruled_116 (e_parts : Int32) (e_done : Int32) (e_full : Bool) (e_up : Int32) (e_down : Int32) (e_read : Nat → Int32) (e_begins : Nat → Int32) (e_partCode : Nat → Int32) (e_partLand : Nat → Int32) (e_partCents : Nat → Int64) (e_joined : Nat → Int32) (p1 : Int32) (p2 : Int32) (p3 : Int64) (Ko61 : Int32 → Int32 → Int32 → (Nat → Int32) → (Nat → Int32) → (Nat → Int32) → (Nat → Int32) → Option (Bool × Int32 × (Nat → Int32) × (Nat → Int32) × (Nat → Int32) × (Nat → Int32))) (x5 : Int32) (x7 : Int32) (x8 : Int32) (e_asked : Int32) (e_told : Nat → Int32) (e_live : Nat → Int32) (e_any : Nat → Int32) (e_all : Nat → Int32) : Option (Bool × Int32 × (Nat → Int32) × (Nat → Int32) × (Nat → Int32) × (Nat → Int32)) :=
    k_Md_ruled_117 e_parts e_done e_full e_up e_down e_read e_begins e_partCode e_partLand e_partCents e_joined p1 p2 p3 Ko61  x5 x7 x8 false e_asked e_told e_live e_any e_all
def k_Md_ruled_61 (e_parts : Int32) (e_done : Int32) (e_full : Bool) (e_up : Int32) (e_down : Int32) (e_read : Nat → Int32) (e_begins : Nat → Int32) (e_partCode : Nat → Int32) (e_partLand : Nat → Int32) (e_partCents : Nat → Int64) (e_joined : Nat → Int32) (p1 : Int32) (p2 : Int32) (p3 : Int64) : Nat → Int32 → Int32 → Int32 → (Nat → Int32) → (Nat → Int32) → (Nat → Int32) → (Nat → Int32) → Option (Bool × Int32 × (Nat → Int32) × (Nat → Int32) × (Nat → Int32) × (Nat → Int32))
  | 0, _, _, _, _, _, _, _ => none
  | n + 1, x5, x7, e_asked, e_told, e_live, e_any, e_all =>
    ixg x7 300 (
    if (e_read x7.toNatClampNeg) = 59 then (
    ixg 0 9 (
    if (e_any (0 : Int32).toNatClampNeg) = 0 then (
    ixg 0 9 (
    if (e_all (0 : Int32).toNatClampNeg) = 0 then (
    some (false, e_asked, e_told, e_live, e_any, e_all))
    else (
    some (true, e_asked, e_told, e_live, e_any, e_all))))
    else (
    some (true, e_asked, e_told, e_live, e_any, e_all))))
    else (
    ixg x7 300 (
    ixg x5 9 (
    if (e_live x5.toNatClampNeg) = 0 then (
    k_Md_ruled_116 e_parts e_done e_full e_up e_down e_read e_begins e_partCode e_partLand e_partCents e_joined p1 p2 p3 (k_Md_ruled_61 e_parts e_done e_full e_up e_down e_read e_begins e_partCode e_partLand e_partCents e_joined p1 p2 p3 n)  x5 x7 (e_read x7.toNatClampNeg) e_asked e_told e_live e_any e_all)
    else (
    ixg x5 9 (
    if (e_any x5.toNatClampNeg) = 0 then (
    ixg x5 9 (
    if (e_all x5.toNatClampNeg) = 0 then (
    k_Md_ruled_116 e_parts e_done e_full e_up e_down e_read e_begins e_partCode e_partLand e_partCents e_joined p1 p2 p3 (k_Md_ruled_61 e_parts e_done e_full e_up e_down e_read e_begins e_partCode e_partLand e_partCents e_joined p1 p2 p3 n)  x5 x7 (e_read x7.toNatClampNeg) e_asked e_told e_live e_any e_all)
    else (
    k_Md_ruled_117 e_parts e_done e_full e_up e_down e_read e_begins e_partCode e_partLand e_partCents e_joined p1 p2 p3 (k_Md_ruled_61 e_parts e_done e_full e_up e_down e_read e_begins e_partCode e_partLand e_partCents e_joined p1 p2 p3 n)  x5 x7 (e_read x7.toNatClampNeg) true e_asked e_told e_live e_any e_all)))
    else (
    k_Md_ruled_116 e_parts e_done e_full e_up e_down e_read e_begins e_partCode e_partLand e_partCents e_joined p1 p2 p3 (k_Md_ruled_61 e_parts e_done e_full e_up e_down e_read e_begins e_partCode e_partLand e_partCents e_joined p1 p2 p3 n)  x5 x7 (e_read x7.toNatClampNeg) e_asked e_told e_live e_any e_all)))))))
theorem k_Md_ruled_61_s (e_parts : Int32) (e_done : Int32) (e_full : Bool) (e_up : Int32) (e_down : Int32) (e_read : Nat → Int32) (e_begins : Nat → Int32) (e_partCode : Nat → Int32) (e_partLand : Nat → Int32) (e_partCents : Nat → Int64) (e_joined : Nat → Int32) (p1 : Int32) (p2 : Int32) (p3 : Int64) (n : Nat) (x5 : Int32) (x7 : Int32) (e_asked : Int32) (e_told : Nat → Int32) (e_live : Nat → Int32) (e_any : Nat → Int32) (e_all : Nat → Int32) : k_Md_ruled_61 e_parts e_done e_full e_up e_down e_read e_begins e_partCode e_partLand e_partCents e_joined p1 p2 p3 (n + 1) x5 x7 e_asked e_told e_live e_any e_all = (
    ixg x7 300 (
    if (e_read x7.toNatClampNeg) = 59 then (
    ixg 0 9 (
    if (e_any (0 : Int32).toNatClampNeg) = 0 then (
    ixg 0 9 (
    if (e_all (0 : Int32).toNatClampNeg) = 0 then (
    some (false, e_asked, e_told, e_live, e_any, e_all))
    else (
    some (true, e_asked, e_told, e_live, e_any, e_all))))
    else (
    some (true, e_asked, e_told, e_live, e_any, e_all))))
    else (
    ixg x7 300 (
    ixg x5 9 (
    if (e_live x5.toNatClampNeg) = 0 then (
    k_Md_ruled_116 e_parts e_done e_full e_up e_down e_read e_begins e_partCode e_partLand e_partCents e_joined p1 p2 p3 (k_Md_ruled_61 e_parts e_done e_full e_up e_down e_read e_begins e_partCode e_partLand e_partCents e_joined p1 p2 p3 n)  x5 x7 (e_read x7.toNatClampNeg) e_asked e_told e_live e_any e_all)
    else (
    ixg x5 9 (
    if (e_any x5.toNatClampNeg) = 0 then (
    ixg x5 9 (
    if (e_all x5.toNatClampNeg) = 0 then (
    k_Md_ruled_116 e_parts e_done e_full e_up e_down e_read e_begins e_partCode e_partLand e_partCents e_joined p1 p2 p3 (k_Md_ruled_61 e_parts e_done e_full e_up e_down e_read e_begins e_partCode e_partLand e_partCents e_joined p1 p2 p3 n)  x5 x7 (e_read x7.toNatClampNeg) e_asked e_told e_live e_any e_all)
    else (
    k_Md_ruled_117 e_parts e_done e_full e_up e_down e_read e_begins e_partCode e_partLand e_partCents e_joined p1 p2 p3 (k_Md_ruled_61 e_parts e_done e_full e_up e_down e_read e_begins e_partCode e_partLand e_partCents e_joined p1 p2 p3 n)  x5 x7 (e_read x7.toNatClampNeg) true e_asked e_told e_live e_any e_all)))
    else (
    k_Md_ruled_116 e_parts e_done e_full e_up e_down e_read e_begins e_partCode e_partLand e_partCents e_joined p1 p2 p3 (k_Md_ruled_61 e_parts e_done e_full e_up e_down e_read e_begins e_partCode e_partLand e_partCents e_joined p1 p2 p3 n)  x5 x7 (e_read x7.toNatClampNeg) e_asked e_told e_live e_any e_all)))))))) := rfl
theorem k_Md_ruled_61_z (e_parts : Int32) (e_done : Int32) (e_full : Bool) (e_up : Int32) (e_down : Int32) (e_read : Nat → Int32) (e_begins : Nat → Int32) (e_partCode : Nat → Int32) (e_partLand : Nat → Int32) (e_partCents : Nat → Int64) (e_joined : Nat → Int32) (p1 : Int32) (p2 : Int32) (p3 : Int64) (x5 : Int32) (x7 : Int32) (e_asked : Int32) (e_told : Nat → Int32) (e_live : Nat → Int32) (e_any : Nat → Int32) (e_all : Nat → Int32) : k_Md_ruled_61 e_parts e_done e_full e_up e_down e_read e_begins e_partCode e_partLand e_partCents e_joined p1 p2 p3 0 x5 x7 e_asked e_told e_live e_any e_all = none := rfl
def k_Md_ruled_37 (e_parts : Int32) (e_done : Int32) (e_full : Bool) (e_up : Int32) (e_down : Int32) (e_read : Nat → Int32) (e_begins : Nat → Int32) (e_partCode : Nat → Int32) (e_partLand : Nat → Int32) (e_partCents : Nat → Int64) (e_joined : Nat → Int32) (p1 : Int32) (p2 : Int32) (p3 : Int64) : Nat → Bool → Int32 → Int32 → (Nat → Int32) → (Nat → Int32) → (Nat → Int32) → (Nat → Int32) → Option (Bool × Int32 × (Nat → Int32) × (Nat → Int32) × (Nat → Int32) × (Nat → Int32))
  | 0, _, _, _, _, _, _, _ => none
  | n + 1, x5, x6, e_asked, e_told, e_live, e_any, e_all =>
    ixg x6 300 (
    if (e_read x6.toNatClampNeg) = 58 then (
    k_Md_ruled_61 e_parts e_done e_full e_up e_down e_read e_begins e_partCode e_partLand e_partCents e_joined p1 p2 p3 2000 (bI x5) (x6 + 1) e_asked e_told e_live e_any e_all)
    else (
    k_Md_ruled_37 e_parts e_done e_full e_up e_down e_read e_begins e_partCode e_partLand e_partCents e_joined p1 p2 p3 n x5 (x6 + 1) e_asked e_told e_live e_any e_all))
theorem k_Md_ruled_37_s (e_parts : Int32) (e_done : Int32) (e_full : Bool) (e_up : Int32) (e_down : Int32) (e_read : Nat → Int32) (e_begins : Nat → Int32) (e_partCode : Nat → Int32) (e_partLand : Nat → Int32) (e_partCents : Nat → Int64) (e_joined : Nat → Int32) (p1 : Int32) (p2 : Int32) (p3 : Int64) (n : Nat) (x5 : Bool) (x6 : Int32) (e_asked : Int32) (e_told : Nat → Int32) (e_live : Nat → Int32) (e_any : Nat → Int32) (e_all : Nat → Int32) : k_Md_ruled_37 e_parts e_done e_full e_up e_down e_read e_begins e_partCode e_partLand e_partCents e_joined p1 p2 p3 (n + 1) x5 x6 e_asked e_told e_live e_any e_all = (
    ixg x6 300 (
    if (e_read x6.toNatClampNeg) = 58 then (
    k_Md_ruled_61 e_parts e_done e_full e_up e_down e_read e_begins e_partCode e_partLand e_partCents e_joined p1 p2 p3 2000 (bI x5) (x6 + 1) e_asked e_told e_live e_any e_all)
    else (
    k_Md_ruled_37 e_parts e_done e_full e_up e_down e_read e_begins e_partCode e_partLand e_partCents e_joined p1 p2 p3 n x5 (x6 + 1) e_asked e_told e_live e_any e_all))) := rfl
theorem k_Md_ruled_37_z (e_parts : Int32) (e_done : Int32) (e_full : Bool) (e_up : Int32) (e_down : Int32) (e_read : Nat → Int32) (e_begins : Nat → Int32) (e_partCode : Nat → Int32) (e_partLand : Nat → Int32) (e_partCents : Nat → Int64) (e_joined : Nat → Int32) (p1 : Int32) (p2 : Int32) (p3 : Int64) (x5 : Bool) (x6 : Int32) (e_asked : Int32) (e_told : Nat → Int32) (e_live : Nat → Int32) (e_any : Nat → Int32) (e_all : Nat → Int32) : k_Md_ruled_37 e_parts e_done e_full e_up e_down e_read e_begins e_partCode e_partLand e_partCents e_joined p1 p2 p3 0 x5 x6 e_asked e_told e_live e_any e_all = none := rfl
def m_Md_ruled (p1 : Int32) (p2 : Int32) (p3 : Int64) (e_parts : Int32) (e_done : Int32) (e_full : Bool) (e_up : Int32) (e_down : Int32) (e_read : Nat → Int32) (e_begins : Nat → Int32) (e_partCode : Nat → Int32) (e_partLand : Nat → Int32) (e_partCents : Nat → Int64) (e_joined : Nat → Int32) (e_asked : Int32) (e_told : Nat → Int32) (e_live : Nat → Int32) (e_any : Nat → Int32) (e_all : Nat → Int32) : Option (Bool × Int32 × (Nat → Int32) × (Nat → Int32) × (Nat → Int32) × (Nat → Int32)) :=
    ixg 0 9 (
    ixg 0 9 (
    ixg 0 9 (
    ixg p1 21 (
    k_Md_ruled_37 e_parts e_done e_full e_up e_down e_read e_begins e_partCode e_partLand e_partCents e_joined p1 p2 p3 2000 false (e_begins p1.toNatClampNeg) 0 e_told (upd e_live (0 : Int32).toNatClampNeg (vp_nar .boolean 1)) (upd e_any (0 : Int32).toNatClampNeg (vp_nar .boolean 0)) (upd e_all (0 : Int32).toNatClampNeg (vp_nar .boolean 1))))))
def k_Md_verdict_71 (e_rows : Int32) (e_parts : Int32) (e_done : Int32) (e_barred : Int32) (e_full : Bool) (e_up : Int32) (e_down : Int32) (e_read : Nat → Int32) (e_begins : Nat → Int32) (e_partCode : Nat → Int32) (e_partLand : Nat → Int32) (e_partCents : Nat → Int64) (e_joined : Nat → Int32) (p1 : Int32) (p2 : Int64) (x4 : Int32) (e_thrown : Int32) (e_asked : Int32) (e_told : Nat → Int32) (e_live : Nat → Int32) (e_any : Nat → Int32) (e_all : Nat → Int32) : Option (Int32 × Int32 × Int32 × (Nat → Int32) × (Nat → Int32) × (Nat → Int32) × (Nat → Int32)) :=
    bd6 (m_Md_ruled x4 p1 p2 e_parts e_done e_full e_up e_down e_read e_begins e_partCode e_partLand e_partCents e_joined e_asked e_told e_live e_any e_all) (fun r_76 e_asked_76 e_told_76 e_live_76 e_any_76 e_all_76 =>
    if (bI r_76) = 0 then (
    some (0, e_thrown, e_asked_76, e_told_76, e_live_76, e_any_76, e_all_76))
    else (
    some (1, e_thrown, e_asked_76, e_told_76, e_live_76, e_any_76, e_all_76)))
def m_Md_verdict (p1 : Int32) (p2 : Int64) (e_rows : Int32) (e_parts : Int32) (e_done : Int32) (e_barred : Int32) (e_full : Bool) (e_up : Int32) (e_down : Int32) (e_read : Nat → Int32) (e_begins : Nat → Int32) (e_partCode : Nat → Int32) (e_partLand : Nat → Int32) (e_partCents : Nat → Int64) (e_joined : Nat → Int32) (e_thrown : Int32) (e_asked : Int32) (e_told : Nat → Int32) (e_live : Nat → Int32) (e_any : Nat → Int32) (e_all : Nat → Int32) : Option (Int32 × Int32 × Int32 × (Nat → Int32) × (Nat → Int32) × (Nat → Int32) × (Nat → Int32)) :=
    bd1 (m_Md_in ((p1).toInt64) 1 999999) (fun r_6 =>
    if (bI r_6) = 0 then (
    bd2 (m_Md_refuse 1 e_thrown) (fun r_25 e_thrown_25 =>
    some (r_25, e_thrown_25, e_asked, e_told, e_live, e_any, e_all)))
    else (
    bd1 (m_Md_in p2 0 1000000000) (fun r_17 =>
    if (bI r_17) = 0 then (
    bd2 (m_Md_refuse 1 e_thrown) (fun r_25 e_thrown_25 =>
    some (r_25, e_thrown_25, e_asked, e_told, e_live, e_any, e_all)))
    else (
    bd1 (m_Md_rowOf p1 e_rows e_read e_begins) (fun r_36 =>
    if 0 ≤ r_36 then (
    if e_done = 0 then (
    k_Md_verdict_71 e_rows e_parts e_done e_barred e_full e_up e_down e_read e_begins e_partCode e_partLand e_partCents e_joined p1 p2  r_36 0 e_asked e_told e_live e_any e_all)
    else (
    if (e_done &&& (e_barred ^^^ (-1))) = 0 then (
    some (2, 0, e_asked, e_told, e_live, e_any, e_all))
    else (
    k_Md_verdict_71 e_rows e_parts e_done e_barred e_full e_up e_down e_read e_begins e_partCode e_partLand e_partCents e_joined p1 p2  r_36 0 e_asked e_told e_live e_any e_all)))
    else (
    some (3, 0, e_asked, e_told, e_live, e_any, e_all)))))))
def m_Md_why (p1 : Int32) (e_asked : Int32) (e_told : Nat → Int32) (e_thrown : Int32) : Option (Int32 × Int32) :=
    if p1 < 0 then (
    some ((-1), 0))
    else (
    if e_asked ≤ p1 then (
    some ((-1), 0))
    else (
    ixg p1 300 (
    some (e_told p1.toNatClampNeg, 0))))
def k_Md_share_59 (e_parts : Int32) (e_full : Bool) (e_partLand : Nat → Int32) (e_partCents : Nat → Int64) (e_joined : Nat → Int32) (p1 : Int64) (p2 : Int32) : Nat → Int64 → Int64 → Int64 → Int32 → Option (Int64 × Int32)
  | 0, _, _, _, _ => none
  | n + 1, x4, x6, x8, e_thrown =>
    if (lg_cmp x8 0) ≤ 0 then (
    if p2 = 0 then (
    nzgJ x6 (
    some (x4 / x6, e_thrown)))
    else (
    nzgJ x6 (
    some (p1 / x6, e_thrown))))
    else (
    nzgJ x8 (
    k_Md_share_59 e_parts e_full e_partLand e_partCents e_joined p1 p2 n x4 x8 (x6 - x6 / x8 * x8) e_thrown))
theorem k_Md_share_59_s (e_parts : Int32) (e_full : Bool) (e_partLand : Nat → Int32) (e_partCents : Nat → Int64) (e_joined : Nat → Int32) (p1 : Int64) (p2 : Int32) (n : Nat) (x4 : Int64) (x6 : Int64) (x8 : Int64) (e_thrown : Int32) : k_Md_share_59 e_parts e_full e_partLand e_partCents e_joined p1 p2 (n + 1) x4 x6 x8 e_thrown = (
    if (lg_cmp x8 0) ≤ 0 then (
    if p2 = 0 then (
    nzgJ x6 (
    some (x4 / x6, e_thrown)))
    else (
    nzgJ x6 (
    some (p1 / x6, e_thrown))))
    else (
    nzgJ x8 (
    k_Md_share_59 e_parts e_full e_partLand e_partCents e_joined p1 p2 n x4 x8 (x6 - x6 / x8 * x8) e_thrown))) := rfl
theorem k_Md_share_59_z (e_parts : Int32) (e_full : Bool) (e_partLand : Nat → Int32) (e_partCents : Nat → Int64) (e_joined : Nat → Int32) (p1 : Int64) (p2 : Int32) (x4 : Int64) (x6 : Int64) (x8 : Int64) (e_thrown : Int32) : k_Md_share_59 e_parts e_full e_partLand e_partCents e_joined p1 p2 0 x4 x6 x8 e_thrown = none := rfl
def m_Md_share (p1 : Int64) (p2 : Int32) (e_parts : Int32) (e_full : Bool) (e_partLand : Nat → Int32) (e_partCents : Nat → Int64) (e_joined : Nat → Int32) (e_thrown : Int32) : Option (Int64 × Int32) :=
    bd1 (m_Md_in p1 0 1000000000) (fun r_5 =>
    if (bI r_5) = 0 then (
    bd2 (m_Md_refuse 1 e_thrown) (fun r_23 e_thrown_23 =>
    some ((r_23).toInt64, e_thrown_23)))
    else (
    bd1 (m_Md_in ((p2).toInt64) 0 1) (fun r_15 =>
    if (bI r_15) = 0 then (
    bd2 (m_Md_refuse 1 e_thrown) (fun r_23 e_thrown_23 =>
    some ((r_23).toInt64, e_thrown_23)))
    else (
    if (lg_cmp p1 0) = 0 then (
    bd2 (m_Md_refuse 2 e_thrown) (fun r_36 e_thrown_36 =>
    some ((r_36).toInt64, e_thrown_36)))
    else (
    bd1 (m_Md_foreign e_parts e_full e_partLand e_partCents e_joined) (fun r_47 =>
    k_Md_share_59 e_parts e_full e_partLand e_partCents e_joined p1 p2 2000 r_47 r_47 p1 0))))))
def m_Md_proof (p1 : Int32) (p2 : Int32) (p3 : Int32) (e_thrown : Int32) (e_proofs : Int32) (e_proofKind : Nat → Int32) (e_proofFrom : Nat → Int32) (e_proofTo : Nat → Int32) : Option (Int32 × Int32 × Int32 × (Nat → Int32) × (Nat → Int32) × (Nat → Int32)) :=
    bd1 (m_Md_in ((p1).toInt64) 0 1) (fun r_4 =>
    if (bI r_4) = 0 then (
    bd2 (m_Md_refuse 1 e_thrown) (fun r_31 e_thrown_31 =>
    some (r_31, e_thrown_31, e_proofs, e_proofKind, e_proofFrom, e_proofTo)))
    else (
    bd1 (m_Md_isDay p2) (fun r_11 =>
    if (bI r_11) = 0 then (
    bd2 (m_Md_refuse 1 e_thrown) (fun r_31 e_thrown_31 =>
    some (r_31, e_thrown_31, e_proofs, e_proofKind, e_proofFrom, e_proofTo)))
    else (
    bd1 (m_Md_isDay p3) (fun r_18 =>
    if (bI r_18) = 0 then (
    bd2 (m_Md_refuse 1 e_thrown) (fun r_31 e_thrown_31 =>
    some (r_31, e_thrown_31, e_proofs, e_proofKind, e_proofFrom, e_proofTo)))
    else (
    if p2 ≤ p3 then (
    if e_proofs = 20 then (
    bd2 (m_Md_refuse 2 e_thrown) (fun r_46 e_thrown_46 =>
    some (r_46, e_thrown_46, e_proofs, e_proofKind, e_proofFrom, e_proofTo)))
    else (
    ixg e_proofs 20 (
    ixg e_proofs 20 (
    ixg e_proofs 20 (
    some ((e_proofs + 1) - 1, 0, e_proofs + 1, upd e_proofKind e_proofs.toNatClampNeg p1, upd e_proofFrom e_proofs.toNatClampNeg p2, upd e_proofTo e_proofs.toNatClampNeg p3))))))
    else (
    bd2 (m_Md_refuse 1 e_thrown) (fun r_31 e_thrown_31 =>
    some (r_31, e_thrown_31, e_proofs, e_proofKind, e_proofFrom, e_proofTo)))))))))
def k_Md_good_65 (e_proofs : Int32) (e_proofKind : Nat → Int32) (e_proofFrom : Nat → Int32) (e_proofTo : Nat → Int32) (p1 : Int32) (p2 : Int64) (p3 : Int32) (e_thrown : Int32) : Option (Bool × Int32) :=
    ixg p1 20 (
    if p3 < (e_proofFrom p1.toNatClampNeg) then (
    some (false, e_thrown))
    else (
    ixg p1 20 (
    if (e_proofTo p1.toNatClampNeg) < p3 then (
    some (false, e_thrown))
    else (
    some (true, e_thrown)))))
def k_Md_good_37 (e_proofs : Int32) (e_proofKind : Nat → Int32) (e_proofFrom : Nat → Int32) (e_proofTo : Nat → Int32) (p1 : Int32) (p2 : Int64) (p3 : Int32) (s1 : Bool) (e_thrown : Int32) : Option (Bool × Int32) :=
    if (bI s1) = 0 then (
    ixg p1 20 (
    if (e_proofKind p1.toNatClampNeg) = 1 then (
    k_Md_good_65 e_proofs e_proofKind e_proofFrom e_proofTo p1 p2 p3  (bI s1))
    else (
    if 0 < (lg_cmp p2 1000000) then (
    some (false, (bI s1)))
    else (
    k_Md_good_65 e_proofs e_proofKind e_proofFrom e_proofTo p1 p2 p3  (bI s1)))))
    else (
    some (false, (bI s1)))
def k_Md_good_36 (e_proofs : Int32) (e_proofKind : Nat → Int32) (e_proofFrom : Nat → Int32) (e_proofTo : Nat → Int32) (p1 : Int32) (p2 : Int64) (p3 : Int32) (e_thrown : Int32) : Option (Bool × Int32) :=
    k_Md_good_37 e_proofs e_proofKind e_proofFrom e_proofTo p1 p2 p3  true e_thrown
def m_Md_good (p1 : Int32) (p2 : Int64) (p3 : Int32) (e_proofs : Int32) (e_proofKind : Nat → Int32) (e_proofFrom : Nat → Int32) (e_proofTo : Nat → Int32) (e_thrown : Int32) : Option (Bool × Int32) :=
    if p1 < 0 then (
    k_Md_good_36 e_proofs e_proofKind e_proofFrom e_proofTo p1 p2 p3  e_thrown)
    else (
    if e_proofs ≤ p1 then (
    k_Md_good_36 e_proofs e_proofKind e_proofFrom e_proofTo p1 p2 p3  e_thrown)
    else (
    bd1 (m_Md_in p2 0 1000000000) (fun r_18 =>
    if (bI r_18) = 0 then (
    k_Md_good_36 e_proofs e_proofKind e_proofFrom e_proofTo p1 p2 p3  e_thrown)
    else (
    bd1 (m_Md_isDay p3) (fun r_26 =>
    if (bI r_26) = 0 then (
    k_Md_good_36 e_proofs e_proofKind e_proofFrom e_proofTo p1 p2 p3  e_thrown)
    else (
    k_Md_good_37 e_proofs e_proofKind e_proofFrom e_proofTo p1 p2 p3  false e_thrown))))))
def k_Md_count_9 (e_signs : Int32) (e_rows : Int32) (e_parts : Int32) (e_done : Int32) (e_pairs : Int32) (e_full : Bool) (e_proofs : Int32) (e_asked : Int32) (e_partLand : Nat → Int32) (e_joined : Nat → Int32) (p1 : Int32) : Nat → Int32 → Int32 → Int32 → Option (Int32 × Int32)
  | 0, _, _, _ => none
  | n + 1, x2, x3, e_thrown =>
    if e_parts ≤ x3 then (
    if p1 = 0 then (
    some (e_signs, e_thrown))
    else if p1 = 1 then (
    some (e_rows, e_thrown))
    else if p1 = 2 then (
    some (e_parts, e_thrown))
    else if p1 = 3 then (
    some (x2, e_thrown))
    else if p1 = 4 then (
    some (e_done, e_thrown))
    else if p1 = 5 then (
    some (e_pairs, e_thrown))
    else if p1 = 6 then (
    some (e_proofs, e_thrown))
    else if p1 = 7 then (
    some (e_asked, e_thrown))
    else (
    some ((-1), e_thrown)))
    else (
    ixg x3 12 (
    bd1 (m_Md_isOwn (e_partLand x3.toNatClampNeg) e_full e_joined) (fun r_25 =>
    if (bI r_25) = 0 then (
    k_Md_count_9 e_signs e_rows e_parts e_done e_pairs e_full e_proofs e_asked e_partLand e_joined p1 n (x2 + 1) (x3 + 1) e_thrown)
    else (
    k_Md_count_9 e_signs e_rows e_parts e_done e_pairs e_full e_proofs e_asked e_partLand e_joined p1 n (x2 + 0) (x3 + 1) e_thrown))))
theorem k_Md_count_9_s (e_signs : Int32) (e_rows : Int32) (e_parts : Int32) (e_done : Int32) (e_pairs : Int32) (e_full : Bool) (e_proofs : Int32) (e_asked : Int32) (e_partLand : Nat → Int32) (e_joined : Nat → Int32) (p1 : Int32) (n : Nat) (x2 : Int32) (x3 : Int32) (e_thrown : Int32) : k_Md_count_9 e_signs e_rows e_parts e_done e_pairs e_full e_proofs e_asked e_partLand e_joined p1 (n + 1) x2 x3 e_thrown = (
    if e_parts ≤ x3 then (
    if p1 = 0 then (
    some (e_signs, e_thrown))
    else if p1 = 1 then (
    some (e_rows, e_thrown))
    else if p1 = 2 then (
    some (e_parts, e_thrown))
    else if p1 = 3 then (
    some (x2, e_thrown))
    else if p1 = 4 then (
    some (e_done, e_thrown))
    else if p1 = 5 then (
    some (e_pairs, e_thrown))
    else if p1 = 6 then (
    some (e_proofs, e_thrown))
    else if p1 = 7 then (
    some (e_asked, e_thrown))
    else (
    some ((-1), e_thrown)))
    else (
    ixg x3 12 (
    bd1 (m_Md_isOwn (e_partLand x3.toNatClampNeg) e_full e_joined) (fun r_25 =>
    if (bI r_25) = 0 then (
    k_Md_count_9 e_signs e_rows e_parts e_done e_pairs e_full e_proofs e_asked e_partLand e_joined p1 n (x2 + 1) (x3 + 1) e_thrown)
    else (
    k_Md_count_9 e_signs e_rows e_parts e_done e_pairs e_full e_proofs e_asked e_partLand e_joined p1 n (x2 + 0) (x3 + 1) e_thrown))))) := rfl
theorem k_Md_count_9_z (e_signs : Int32) (e_rows : Int32) (e_parts : Int32) (e_done : Int32) (e_pairs : Int32) (e_full : Bool) (e_proofs : Int32) (e_asked : Int32) (e_partLand : Nat → Int32) (e_joined : Nat → Int32) (p1 : Int32) (x2 : Int32) (x3 : Int32) (e_thrown : Int32) : k_Md_count_9 e_signs e_rows e_parts e_done e_pairs e_full e_proofs e_asked e_partLand e_joined p1 0 x2 x3 e_thrown = none := rfl
def m_Md_count (p1 : Int32) (e_signs : Int32) (e_rows : Int32) (e_parts : Int32) (e_done : Int32) (e_pairs : Int32) (e_full : Bool) (e_proofs : Int32) (e_asked : Int32) (e_partLand : Nat → Int32) (e_joined : Nat → Int32) (e_thrown : Int32) : Option (Int32 × Int32) :=
    k_Md_count_9 e_signs e_rows e_parts e_done e_pairs e_full e_proofs e_asked e_partLand e_joined p1 2000 0 0 0
end
section
def rm_Or_isCode : Room := { frames := 0, cells := 0, slots := 0, locals := 0 }
set_option maxHeartbeats 4000000 in
set_option maxRecDepth 100000 in
theorem c_Or_isCode (l : Launch) (D : va_G) (cT : Nat → ClassId) (p1 : Int32) {rr : Bool} (hM : m_Or_isCode p1 = some rr) : Ct l y_Or_isCode (WS y_Or_isCode b_Or_isCode 1 (some .boolean)) rm_Or_isCode D cT [.int p1] [] (some (.int (bI rr))) [] 0 0 := by
  intro sz
  refine Met.ofW (cc := b_Or_isCode) (maxL := 1) (ret := (some .boolean)) (by decide) rfl ?_
  intro p e s m args below meth c s₁ B hml hv
  obtain ⟨rfl, hsz, hP, hE, hD0⟩ := hv
  have hx := B.exec
  have hb := B.bytes
  have hr := B.returns
  have hts : ∀ w ∈ TB, w.before _ s = true := fun w h => atoms_spec (ws := WS y_Or_isCode b_Or_isCode 1 (some .boolean)) B.pre w (List.mem_cons_of_mem _ h)
  have hown : s.vm.findClass R_Or = some m.cls := findClass_of_methodNamed B.named
  have hlocks := B.notSynchronized
  have hK := hE.1
  have hN := hE.2
  subst hsz
  have hD := hD0.self (sz := s.heap.size)
  generalize hAe : va_A [] s.heap.size = A at hD ⊢
  have hA : ∀ q : Nat, s.heap.size ≤ q → A q := fun q h => by rw [← hAe]; exact Or.inr h
  have hS : va_S A s.heap s.heap [] := va_S.rf
  have hl := lv_entry ([.int p1]) (n := 1) (Nat.le_of_ble_eq_true rfl)
  rw [lg_entry_eq]
  generalize (lg_sl ([.int p1]) ++ List.replicate (1 - (lg_sl ([.int p1])).length) Slot.unset).toArray = ls at hl ⊢
  have hl : lv_has ls 1 [(0, .int p1)] := hl
  have S : CallFix p m c b_Or_isCode 1 s _ TB R_Or := ⟨hx, hb, hml, hown, hts⟩
  unfold m_Or_isCode at hM
  refine lv_iload_n hx hb d_Or_isCode_0 rfl (lv_at hl 0 rfl) ?_
  refine lv_iconst (v := 1) hx hb d_Or_isCode_1 (by decide) ?_
  refine lv_icmp_lt (tgt := 15) hx hb d_Or_isCode_2 (by decide) (fun c_2 => ?_) (fun c_2 => ?_)
  · have hM := itT hM c_2
    refine lv_iconst (v := 0) hx hb d_Or_isCode_15 (by decide) ?_
    cases hM
    exact rt_z S hr hlocks hP hD hS d_Or_isCode_16
  · have hM := itF hM c_2
    refine lv_iload_n hx hb d_Or_isCode_5 rfl (lv_at hl 0 rfl) ?_
    refine lv_ldc (v := 999999) hx hb hown (hts _ iw_0) d_Or_isCode_6 ?_
    refine lv_icmp_gt (tgt := 15) hx hb d_Or_isCode_8 (by decide) (fun c_8 => ?_) (fun c_8 => ?_)
    · have hM := itT hM c_8
      refine lv_iconst (v := 0) hx hb d_Or_isCode_15 (by decide) ?_
      cases hM
      exact rt_z S hr hlocks hP hD hS d_Or_isCode_16
    · have hM := itF hM c_8
      refine lv_iconst (v := 1) hx hb d_Or_isCode_11 (by decide) ?_
      refine lv_goto (tgt := 16) hx hb d_Or_isCode_12 (by decide) ?_
      cases hM
      exact rt_z S hr hlocks hP hD hS d_Or_isCode_16
def rm_Or_isLand : Room := { frames := 0, cells := 0, slots := 0, locals := 0 }
set_option maxHeartbeats 4000000 in
set_option maxRecDepth 100000 in
theorem c_Or_isLand (l : Launch) (D : va_G) (cT : Nat → ClassId) (p1 : Int32) {rr : Bool} (hM : m_Or_isLand p1 = some rr) : Ct l y_Or_isLand (WS y_Or_isLand b_Or_isLand 1 (some .boolean)) rm_Or_isLand D cT [.int p1] [] (some (.int (bI rr))) [] 0 0 := by
  intro sz
  refine Met.ofW (cc := b_Or_isLand) (maxL := 1) (ret := (some .boolean)) (by decide) rfl ?_
  intro p e s m args below meth c s₁ B hml hv
  obtain ⟨rfl, hsz, hP, hE, hD0⟩ := hv
  have hx := B.exec
  have hb := B.bytes
  have hr := B.returns
  have hts : ∀ w ∈ TB, w.before _ s = true := fun w h => atoms_spec (ws := WS y_Or_isLand b_Or_isLand 1 (some .boolean)) B.pre w (List.mem_cons_of_mem _ h)
  have hown : s.vm.findClass R_Or = some m.cls := findClass_of_methodNamed B.named
  have hlocks := B.notSynchronized
  have hK := hE.1
  have hN := hE.2
  subst hsz
  have hD := hD0.self (sz := s.heap.size)
  generalize hAe : va_A [] s.heap.size = A at hD ⊢
  have hA : ∀ q : Nat, s.heap.size ≤ q → A q := fun q h => by rw [← hAe]; exact Or.inr h
  have hS : va_S A s.heap s.heap [] := va_S.rf
  have hl := lv_entry ([.int p1]) (n := 1) (Nat.le_of_ble_eq_true rfl)
  rw [lg_entry_eq]
  generalize (lg_sl ([.int p1]) ++ List.replicate (1 - (lg_sl ([.int p1])).length) Slot.unset).toArray = ls at hl ⊢
  have hl : lv_has ls 1 [(0, .int p1)] := hl
  have S : CallFix p m c b_Or_isLand 1 s _ TB R_Or := ⟨hx, hb, hml, hown, hts⟩
  unfold m_Or_isLand at hM
  refine lv_iload_n hx hb d_Or_isLand_0 rfl (lv_at hl 0 rfl) ?_
  refine lv_if_lt (tgt := 14) hx hb d_Or_isLand_1 (by decide) (fun c_1 => ?_) (fun c_1 => ?_)
  · have hM := itT hM c_1
    refine lv_iconst (v := 0) hx hb d_Or_isLand_14 (by decide) ?_
    cases hM
    exact rt_z S hr hlocks hP hD hS d_Or_isLand_15
  · have hM := itF hM c_1
    refine lv_iload_n hx hb d_Or_isLand_4 rfl (lv_at hl 0 rfl) ?_
    refine lv_bipush (v := 10) hx hb d_Or_isLand_5 (by decide) ?_
    refine lv_icmp_ge (tgt := 14) hx hb d_Or_isLand_7 (by decide) (fun c_7 => ?_) (fun c_7 => ?_)
    · have hM := itT hM c_7
      refine lv_iconst (v := 0) hx hb d_Or_isLand_14 (by decide) ?_
      cases hM
      exact rt_z S hr hlocks hP hD hS d_Or_isLand_15
    · have hM := itF hM c_7
      refine lv_iconst (v := 1) hx hb d_Or_isLand_10 (by decide) ?_
      refine lv_goto (tgt := 15) hx hb d_Or_isLand_11 (by decide) ?_
      cases hM
      exact rt_z S hr hlocks hP hD hS d_Or_isLand_15
def rm_Or_isCents : Room := { frames := 0, cells := 0, slots := 0, locals := 0 }
set_option maxHeartbeats 4000000 in
set_option maxRecDepth 100000 in
theorem c_Or_isCents (l : Launch) (D : va_G) (cT : Nat → ClassId) (p1 : Int64) {rr : Bool} (hM : m_Or_isCents p1 = some rr) : Ct l y_Or_isCents (WS y_Or_isCents b_Or_isCents 2 (some .boolean)) rm_Or_isCents D cT [.long p1] [] (some (.int (bI rr))) [] 0 0 := by
  intro sz
  refine Met.ofW (cc := b_Or_isCents) (maxL := 2) (ret := (some .boolean)) (by decide) rfl ?_
  intro p e s m args below meth c s₁ B hml hv
  obtain ⟨rfl, hsz, hP, hE, hD0⟩ := hv
  have hx := B.exec
  have hb := B.bytes
  have hr := B.returns
  have hts : ∀ w ∈ TB, w.before _ s = true := fun w h => atoms_spec (ws := WS y_Or_isCents b_Or_isCents 2 (some .boolean)) B.pre w (List.mem_cons_of_mem _ h)
  have hown : s.vm.findClass R_Or = some m.cls := findClass_of_methodNamed B.named
  have hlocks := B.notSynchronized
  have hK := hE.1
  have hN := hE.2
  subst hsz
  have hD := hD0.self (sz := s.heap.size)
  generalize hAe : va_A [] s.heap.size = A at hD ⊢
  have hA : ∀ q : Nat, s.heap.size ≤ q → A q := fun q h => by rw [← hAe]; exact Or.inr h
  have hS : va_S A s.heap s.heap [] := va_S.rf
  have hl := lv_entry ([.long p1]) (n := 2) (Nat.le_of_ble_eq_true rfl)
  rw [lg_entry_eq]
  generalize (lg_sl ([.long p1]) ++ List.replicate (2 - (lg_sl ([.long p1])).length) Slot.unset).toArray = ls at hl ⊢
  have hl : lv_has ls 2 [(0, .long p1)] := hl
  have S : CallFix p m c b_Or_isCents 2 s _ TB R_Or := ⟨hx, hb, hml, hown, hts⟩
  unfold m_Or_isCents at hM
  refine lv_lload_n hx hb d_Or_isCents_0 rfl (lv_at hl 0 rfl) ?_
  refine lv_lconst (v := 0) hx hb d_Or_isCents_1 (by decide) ?_
  refine W.lcmp hx hb d_Or_isCents_2 ?_
  refine lv_if_lt (tgt := 18) hx hb d_Or_isCents_3 (by decide) (fun c_3 => ?_) (fun c_3 => ?_)
  · have hM := itT hM c_3
    refine lv_iconst (v := 0) hx hb d_Or_isCents_18 (by decide) ?_
    cases hM
    exact rt_z S hr hlocks hP hD hS d_Or_isCents_19
  · have hM := itF hM c_3
    refine lv_lload_n hx hb d_Or_isCents_6 rfl (lv_at hl 0 rfl) ?_
    refine lv_ldc2 (v := 1000000000) hx hb hown (hts _ iw_1) d_Or_isCents_7 ?_
    refine W.lcmp hx hb d_Or_isCents_10 ?_
    refine lv_if_gt (tgt := 18) hx hb d_Or_isCents_11 (by decide) (fun c_11 => ?_) (fun c_11 => ?_)
    · have hM := itT hM c_11
      refine lv_iconst (v := 0) hx hb d_Or_isCents_18 (by decide) ?_
      cases hM
      exact rt_z S hr hlocks hP hD hS d_Or_isCents_19
    · have hM := itF hM c_11
      refine lv_iconst (v := 1) hx hb d_Or_isCents_14 (by decide) ?_
      refine lv_goto (tgt := 19) hx hb d_Or_isCents_15 (by decide) ?_
      cases hM
      exact rt_z S hr hlocks hP hD hS d_Or_isCents_19
def rm_Or_isProcess : Room := { frames := 0, cells := 0, slots := 0, locals := 0 }
set_option maxHeartbeats 4000000 in
set_option maxRecDepth 100000 in
theorem c_Or_isProcess (l : Launch) (D : va_G) (cT : Nat → ClassId) (p1 : Int32) {rr : Bool} (hM : m_Or_isProcess p1 = some rr) : Ct l y_Or_isProcess (WS y_Or_isProcess b_Or_isProcess 1 (some .boolean)) rm_Or_isProcess D cT [.int p1] [] (some (.int (bI rr))) [] 0 0 := by
  intro sz
  refine Met.ofW (cc := b_Or_isProcess) (maxL := 1) (ret := (some .boolean)) (by decide) rfl ?_
  intro p e s m args below meth c s₁ B hml hv
  obtain ⟨rfl, hsz, hP, hE, hD0⟩ := hv
  have hx := B.exec
  have hb := B.bytes
  have hr := B.returns
  have hts : ∀ w ∈ TB, w.before _ s = true := fun w h => atoms_spec (ws := WS y_Or_isProcess b_Or_isProcess 1 (some .boolean)) B.pre w (List.mem_cons_of_mem _ h)
  have hown : s.vm.findClass R_Or = some m.cls := findClass_of_methodNamed B.named
  have hlocks := B.notSynchronized
  have hK := hE.1
  have hN := hE.2
  subst hsz
  have hD := hD0.self (sz := s.heap.size)
  generalize hAe : va_A [] s.heap.size = A at hD ⊢
  have hA : ∀ q : Nat, s.heap.size ≤ q → A q := fun q h => by rw [← hAe]; exact Or.inr h
  have hS : va_S A s.heap s.heap [] := va_S.rf
  have hl := lv_entry ([.int p1]) (n := 1) (Nat.le_of_ble_eq_true rfl)
  rw [lg_entry_eq]
  generalize (lg_sl ([.int p1]) ++ List.replicate (1 - (lg_sl ([.int p1])).length) Slot.unset).toArray = ls at hl ⊢
  have hl : lv_has ls 1 [(0, .int p1)] := hl
  have S : CallFix p m c b_Or_isProcess 1 s _ TB R_Or := ⟨hx, hb, hml, hown, hts⟩
  unfold m_Or_isProcess at hM
  refine lv_iload_n hx hb d_Or_isProcess_0 rfl (lv_at hl 0 rfl) ?_
  refine lv_if_lt (tgt := 14) hx hb d_Or_isProcess_1 (by decide) (fun c_1 => ?_) (fun c_1 => ?_)
  · have hM := itT hM c_1
    refine lv_iconst (v := 0) hx hb d_Or_isProcess_14 (by decide) ?_
    cases hM
    exact rt_z S hr hlocks hP hD hS d_Or_isProcess_15
  · have hM := itF hM c_1
    refine lv_iload_n hx hb d_Or_isProcess_4 rfl (lv_at hl 0 rfl) ?_
    refine lv_bipush (v := 15) hx hb d_Or_isProcess_5 (by decide) ?_
    refine lv_icmp_gt (tgt := 14) hx hb d_Or_isProcess_7 (by decide) (fun c_7 => ?_) (fun c_7 => ?_)
    · have hM := itT hM c_7
      refine lv_iconst (v := 0) hx hb d_Or_isProcess_14 (by decide) ?_
      cases hM
      exact rt_z S hr hlocks hP hD hS d_Or_isProcess_15
    · have hM := itF hM c_7
      refine lv_iconst (v := 1) hx hb d_Or_isProcess_10 (by decide) ?_
      refine lv_goto (tgt := 15) hx hb d_Or_isProcess_11 (by decide) ?_
      cases hM
      exact rt_z S hr hlocks hP hD hS d_Or_isProcess_15
def rm_Or_isDay : Room := { frames := 0, cells := 0, slots := 0, locals := 0 }
set_option maxHeartbeats 4000000 in
set_option maxRecDepth 100000 in
theorem c_Or_isDay (l : Launch) (D : va_G) (cT : Nat → ClassId) (p1 : Int32) {rr : Bool} (hM : m_Or_isDay p1 = some rr) : Ct l y_Or_isDay (WS y_Or_isDay b_Or_isDay 1 (some .boolean)) rm_Or_isDay D cT [.int p1] [] (some (.int (bI rr))) [] 0 0 := by
  intro sz
  refine Met.ofW (cc := b_Or_isDay) (maxL := 1) (ret := (some .boolean)) (by decide) rfl ?_
  intro p e s m args below meth c s₁ B hml hv
  obtain ⟨rfl, hsz, hP, hE, hD0⟩ := hv
  have hx := B.exec
  have hb := B.bytes
  have hr := B.returns
  have hts : ∀ w ∈ TB, w.before _ s = true := fun w h => atoms_spec (ws := WS y_Or_isDay b_Or_isDay 1 (some .boolean)) B.pre w (List.mem_cons_of_mem _ h)
  have hown : s.vm.findClass R_Or = some m.cls := findClass_of_methodNamed B.named
  have hlocks := B.notSynchronized
  have hK := hE.1
  have hN := hE.2
  subst hsz
  have hD := hD0.self (sz := s.heap.size)
  generalize hAe : va_A [] s.heap.size = A at hD ⊢
  have hA : ∀ q : Nat, s.heap.size ≤ q → A q := fun q h => by rw [← hAe]; exact Or.inr h
  have hS : va_S A s.heap s.heap [] := va_S.rf
  have hl := lv_entry ([.int p1]) (n := 1) (Nat.le_of_ble_eq_true rfl)
  rw [lg_entry_eq]
  generalize (lg_sl ([.int p1]) ++ List.replicate (1 - (lg_sl ([.int p1])).length) Slot.unset).toArray = ls at hl ⊢
  have hl : lv_has ls 1 [(0, .int p1)] := hl
  have S : CallFix p m c b_Or_isDay 1 s _ TB R_Or := ⟨hx, hb, hml, hown, hts⟩
  unfold m_Or_isDay at hM
  refine lv_iload_n hx hb d_Or_isDay_0 rfl (lv_at hl 0 rfl) ?_
  refine lv_if_lt (tgt := 14) hx hb d_Or_isDay_1 (by decide) (fun c_1 => ?_) (fun c_1 => ?_)
  · have hM := itT hM c_1
    refine lv_iconst (v := 0) hx hb d_Or_isDay_14 (by decide) ?_
    cases hM
    exact rt_z S hr hlocks hP hD hS d_Or_isDay_15
  · have hM := itF hM c_1
    refine lv_iload_n hx hb d_Or_isDay_4 rfl (lv_at hl 0 rfl) ?_
    refine lv_ldc (v := 100000) hx hb hown (hts _ iw_2) d_Or_isDay_5 ?_
    refine lv_icmp_gt (tgt := 14) hx hb d_Or_isDay_7 (by decide) (fun c_7 => ?_) (fun c_7 => ?_)
    · have hM := itT hM c_7
      refine lv_iconst (v := 0) hx hb d_Or_isDay_14 (by decide) ?_
      cases hM
      exact rt_z S hr hlocks hP hD hS d_Or_isDay_15
    · have hM := itF hM c_7
      refine lv_iconst (v := 1) hx hb d_Or_isDay_10 (by decide) ?_
      refine lv_goto (tgt := 15) hx hb d_Or_isDay_11 (by decide) ?_
      cases hM
      exact rt_z S hr hlocks hP hD hS d_Or_isDay_15
def rm_Or_isDigit : Room := { frames := 0, cells := 0, slots := 0, locals := 0 }
set_option maxHeartbeats 4000000 in
set_option maxRecDepth 100000 in
theorem c_Or_isDigit (l : Launch) (D : va_G) (cT : Nat → ClassId) (p1 : Int32) {rr : Bool} (hM : m_Or_isDigit p1 = some rr) : Ct l y_Or_isDigit (WS y_Or_isDigit b_Or_isDigit 1 (some .boolean)) rm_Or_isDigit D cT [.int p1] [] (some (.int (bI rr))) [] 0 0 := by
  intro sz
  refine Met.ofW (cc := b_Or_isDigit) (maxL := 1) (ret := (some .boolean)) (by decide) rfl ?_
  intro p e s m args below meth c s₁ B hml hv
  obtain ⟨rfl, hsz, hP, hE, hD0⟩ := hv
  have hx := B.exec
  have hb := B.bytes
  have hr := B.returns
  have hts : ∀ w ∈ TB, w.before _ s = true := fun w h => atoms_spec (ws := WS y_Or_isDigit b_Or_isDigit 1 (some .boolean)) B.pre w (List.mem_cons_of_mem _ h)
  have hown : s.vm.findClass R_Or = some m.cls := findClass_of_methodNamed B.named
  have hlocks := B.notSynchronized
  have hK := hE.1
  have hN := hE.2
  subst hsz
  have hD := hD0.self (sz := s.heap.size)
  generalize hAe : va_A [] s.heap.size = A at hD ⊢
  have hA : ∀ q : Nat, s.heap.size ≤ q → A q := fun q h => by rw [← hAe]; exact Or.inr h
  have hS : va_S A s.heap s.heap [] := va_S.rf
  have hl := lv_entry ([.int p1]) (n := 1) (Nat.le_of_ble_eq_true rfl)
  rw [lg_entry_eq]
  generalize (lg_sl ([.int p1]) ++ List.replicate (1 - (lg_sl ([.int p1])).length) Slot.unset).toArray = ls at hl ⊢
  have hl : lv_has ls 1 [(0, .int p1)] := hl
  have S : CallFix p m c b_Or_isDigit 1 s _ TB R_Or := ⟨hx, hb, hml, hown, hts⟩
  unfold m_Or_isDigit at hM
  refine lv_iload_n hx hb d_Or_isDigit_0 rfl (lv_at hl 0 rfl) ?_
  refine lv_bipush (v := 48) hx hb d_Or_isDigit_1 (by decide) ?_
  refine lv_icmp_lt (tgt := 16) hx hb d_Or_isDigit_3 (by decide) (fun c_3 => ?_) (fun c_3 => ?_)
  · have hM := itT hM c_3
    refine lv_iconst (v := 0) hx hb d_Or_isDigit_16 (by decide) ?_
    cases hM
    exact rt_z S hr hlocks hP hD hS d_Or_isDigit_17
  · have hM := itF hM c_3
    refine lv_iload_n hx hb d_Or_isDigit_6 rfl (lv_at hl 0 rfl) ?_
    refine lv_bipush (v := 57) hx hb d_Or_isDigit_7 (by decide) ?_
    refine lv_icmp_gt (tgt := 16) hx hb d_Or_isDigit_9 (by decide) (fun c_9 => ?_) (fun c_9 => ?_)
    · have hM := itT hM c_9
      refine lv_iconst (v := 0) hx hb d_Or_isDigit_16 (by decide) ?_
      cases hM
      exact rt_z S hr hlocks hP hD hS d_Or_isDigit_17
    · have hM := itF hM c_9
      refine lv_iconst (v := 1) hx hb d_Or_isDigit_12 (by decide) ?_
      refine lv_goto (tgt := 17) hx hb d_Or_isDigit_13 (by decide) ?_
      cases hM
      exact rt_z S hr hlocks hP hD hS d_Or_isDigit_17
def rm_Or_isLetter : Room := { frames := 0, cells := 0, slots := 0, locals := 0 }
set_option maxHeartbeats 4000000 in
set_option maxRecDepth 100000 in
theorem c_Or_isLetter (l : Launch) (D : va_G) (cT : Nat → ClassId) (p1 : Int32) {rr : Bool} (hM : m_Or_isLetter p1 = some rr) : Ct l y_Or_isLetter (WS y_Or_isLetter b_Or_isLetter 1 (some .boolean)) rm_Or_isLetter D cT [.int p1] [] (some (.int (bI rr))) [] 0 0 := by
  intro sz
  refine Met.ofW (cc := b_Or_isLetter) (maxL := 1) (ret := (some .boolean)) (by decide) rfl ?_
  intro p e s m args below meth c s₁ B hml hv
  obtain ⟨rfl, hsz, hP, hE, hD0⟩ := hv
  have hx := B.exec
  have hb := B.bytes
  have hr := B.returns
  have hts : ∀ w ∈ TB, w.before _ s = true := fun w h => atoms_spec (ws := WS y_Or_isLetter b_Or_isLetter 1 (some .boolean)) B.pre w (List.mem_cons_of_mem _ h)
  have hown : s.vm.findClass R_Or = some m.cls := findClass_of_methodNamed B.named
  have hlocks := B.notSynchronized
  have hK := hE.1
  have hN := hE.2
  subst hsz
  have hD := hD0.self (sz := s.heap.size)
  generalize hAe : va_A [] s.heap.size = A at hD ⊢
  have hA : ∀ q : Nat, s.heap.size ≤ q → A q := fun q h => by rw [← hAe]; exact Or.inr h
  have hS : va_S A s.heap s.heap [] := va_S.rf
  have hl := lv_entry ([.int p1]) (n := 1) (Nat.le_of_ble_eq_true rfl)
  rw [lg_entry_eq]
  generalize (lg_sl ([.int p1]) ++ List.replicate (1 - (lg_sl ([.int p1])).length) Slot.unset).toArray = ls at hl ⊢
  have hl : lv_has ls 1 [(0, .int p1)] := hl
  have S : CallFix p m c b_Or_isLetter 1 s _ TB R_Or := ⟨hx, hb, hml, hown, hts⟩
  unfold m_Or_isLetter at hM
  refine lv_iload_n hx hb d_Or_isLetter_0 rfl (lv_at hl 0 rfl) ?_
  refine lv_bipush (v := 65) hx hb d_Or_isLetter_1 (by decide) ?_
  refine lv_icmp_lt (tgt := 16) hx hb d_Or_isLetter_3 (by decide) (fun c_3 => ?_) (fun c_3 => ?_)
  · have hM := itT hM c_3
    refine lv_iconst (v := 0) hx hb d_Or_isLetter_16 (by decide) ?_
    cases hM
    exact rt_z S hr hlocks hP hD hS d_Or_isLetter_17
  · have hM := itF hM c_3
    refine lv_iload_n hx hb d_Or_isLetter_6 rfl (lv_at hl 0 rfl) ?_
    refine lv_bipush (v := 90) hx hb d_Or_isLetter_7 (by decide) ?_
    refine lv_icmp_gt (tgt := 16) hx hb d_Or_isLetter_9 (by decide) (fun c_9 => ?_) (fun c_9 => ?_)
    · have hM := itT hM c_9
      refine lv_iconst (v := 0) hx hb d_Or_isLetter_16 (by decide) ?_
      cases hM
      exact rt_z S hr hlocks hP hD hS d_Or_isLetter_17
    · have hM := itF hM c_9
      refine lv_iconst (v := 1) hx hb d_Or_isLetter_12 (by decide) ?_
      refine lv_goto (tgt := 17) hx hb d_Or_isLetter_13 (by decide) ?_
      cases hM
      exact rt_z S hr hlocks hP hD hS d_Or_isLetter_17
def rm_Or_hasBit : Room := { frames := 0, cells := 0, slots := 0, locals := 0 }
set_option maxHeartbeats 4000000 in
set_option maxRecDepth 100000 in
theorem c_Or_hasBit (l : Launch) (D : va_G) (cT : Nat → ClassId) (p1 : Int32) (p2 : Int32) {rr : Bool} (hM : m_Or_hasBit p1 p2 = some rr) : Ct l y_Or_hasBit (WS y_Or_hasBit b_Or_hasBit 2 (some .boolean)) rm_Or_hasBit D cT [.int p1, .int p2] [] (some (.int (bI rr))) [] 0 0 := by
  intro sz
  refine Met.ofW (cc := b_Or_hasBit) (maxL := 2) (ret := (some .boolean)) (by decide) rfl ?_
  intro p e s m args below meth c s₁ B hml hv
  obtain ⟨rfl, hsz, hP, hE, hD0⟩ := hv
  have hx := B.exec
  have hb := B.bytes
  have hr := B.returns
  have hts : ∀ w ∈ TB, w.before _ s = true := fun w h => atoms_spec (ws := WS y_Or_hasBit b_Or_hasBit 2 (some .boolean)) B.pre w (List.mem_cons_of_mem _ h)
  have hown : s.vm.findClass R_Or = some m.cls := findClass_of_methodNamed B.named
  have hlocks := B.notSynchronized
  have hK := hE.1
  have hN := hE.2
  subst hsz
  have hD := hD0.self (sz := s.heap.size)
  generalize hAe : va_A [] s.heap.size = A at hD ⊢
  have hA : ∀ q : Nat, s.heap.size ≤ q → A q := fun q h => by rw [← hAe]; exact Or.inr h
  have hS : va_S A s.heap s.heap [] := va_S.rf
  have hl := lv_entry ([.int p1, .int p2]) (n := 2) (Nat.le_of_ble_eq_true rfl)
  rw [lg_entry_eq]
  generalize (lg_sl ([.int p1, .int p2]) ++ List.replicate (2 - (lg_sl ([.int p1, .int p2])).length) Slot.unset).toArray = ls at hl ⊢
  have hl : lv_has ls 2 [(0, .int p1), (1, .int p2)] := hl
  have S : CallFix p m c b_Or_hasBit 2 s _ TB R_Or := ⟨hx, hb, hml, hown, hts⟩
  unfold m_Or_hasBit at hM
  refine lv_iload_n hx hb d_Or_hasBit_0 rfl (lv_at hl 0 rfl) ?_
  refine lv_iload_n hx hb d_Or_hasBit_1 rfl (lv_at hl 1 rfl) ?_
  refine lv_ishr hx hb d_Or_hasBit_2 ?_
  refine lv_iconst (v := 1) hx hb d_Or_hasBit_3 (by decide) ?_
  refine lv_iand hx hb d_Or_hasBit_4 ?_
  refine lv_iconst (v := 1) hx hb d_Or_hasBit_5 (by decide) ?_
  refine lv_icmp_ne (tgt := 13) hx hb d_Or_hasBit_6 (by decide) (fun c_6 => ?_) (fun c_6 => ?_)
  · have hM := itF hM c_6
    refine lv_iconst (v := 0) hx hb d_Or_hasBit_13 (by decide) ?_
    cases hM
    exact rt_z S hr hlocks hP hD hS d_Or_hasBit_14
  · have hM := itT hM c_6
    refine lv_iconst (v := 1) hx hb d_Or_hasBit_9 (by decide) ?_
    refine lv_goto (tgt := 14) hx hb d_Or_hasBit_10 (by decide) ?_
    cases hM
    exact rt_z S hr hlocks hP hD hS d_Or_hasBit_14
def rm_Or_beginning : Room := { frames := 0, cells := 0, slots := 0, locals := 0 }
set_option maxHeartbeats 4000000 in
set_option maxRecDepth 100000 in
theorem w_Or_beginning_4 {p : Program} {l : Launch} {e : Env} {s : State} {m : MethodId} {args : Array Value} {below : List Frame} {meth : Method} {c : Code} {D : va_G} {cT : Nat → ClassId} {A : Nat → Prop} (S : CallFix p m c b_Or_beginning 4 s args TB R_Or) (hr : meth.sig.returnType = (some .int)) (hlocks : meth.locks = false) (hE : EN D cT s) (hA : ∀ q, s.heap.size ≤ q → A q) {p1 : Int32} {p2 : Int32} {rr : Int32} : ∀ (n : Nat) (x2 : Int32) (x3 : Int32), k_Or_beginning_4 p1 p2  n x2 x3 = some rr → ∀ (H : Heap) (locs : List Loc) (ls : Array Slot), va_P D classes [] H → va_D A [] → va_S A s.heap H locs → lv_has ls 4 [(2, .int x2), (3, .int x3)] → W p l e (headSpec (WS y_Or_beginning b_Or_beginning 4 (some .int)) rm_Or_beginning).room s m args below meth c H locs 0 0 (MQ below (qW D A [] (some (.int rr))) args s 0 0 A) (F0 m 4 ls []) := by
  obtain ⟨hx, hb, hml, hown, hts⟩ := id S
  have hK := hE.1
  have hN := hE.2
  intro n
  induction n with
  | zero =>
    intro x2 x3 hM
    rw [k_Or_beginning_4_z] at hM
    cases hM
  | succ n ih =>
    intro x2 x3 hM H locs ls hP hD hS hl
    rw [k_Or_beginning_4_s] at hM
    refine lv_iload_n hx hb d_Or_beginning_4 rfl (lv_at hl 1 rfl) ?_
    refine lv_bipush (v := 6) hx hb d_Or_beginning_5 (by decide) ?_
    refine lv_icmp_ge (tgt := 21) hx hb d_Or_beginning_7 (by decide) (fun c_7 => ?_) (fun c_7 => ?_)
    · have hM := itT hM c_7
      refine lv_iload_n hx hb d_Or_beginning_21 rfl (lv_at hl 0 rfl) ?_
      cases hM
      exact rt_i S hr hlocks hP hD hS d_Or_beginning_22
    · have hM := itF hM c_7
      refine lv_iload_n hx hb d_Or_beginning_10 rfl (lv_at hl 0 rfl) ?_
      refine lv_bipush (v := 10) hx hb d_Or_beginning_11 (by decide) ?_
      refine lv_idiv hx hb d_Or_beginning_13 (by decide) ?_
      refine lv_istore_n (lv' := [(2, .int (x2 / 10)), (3, .int x3)]) hx hb d_Or_beginning_14 rfl hl (by decide) rfl (fun ls hl => ?_)
      refine lv_iinc (v := x3 + 1) (lv' := [(3, .int (x3 + 1)), (2, .int (x2 / 10))]) hx hb d_Or_beginning_15 hl (k := 1) rfl rfl (by decide) rfl (fun ls hl => ?_)
      refine lv_goto (tgt := 4) hx hb d_Or_beginning_18 (by decide) ?_
      exact ih (x2 / 10) (x3 + 1) hM _ _ _ hP hD hS (lv_sub hl [1, 0] rfl)
set_option maxHeartbeats 4000000 in
set_option maxRecDepth 100000 in
theorem c_Or_beginning (l : Launch) (D : va_G) (cT : Nat → ClassId) (p1 : Int32) (p2 : Int32) {rr : Int32} (hM : m_Or_beginning p1 p2 = some rr) : Ct l y_Or_beginning (WS y_Or_beginning b_Or_beginning 4 (some .int)) rm_Or_beginning D cT [.int p1, .int p2] [] (some (.int rr)) [] 0 0 := by
  intro sz
  refine Met.ofW (cc := b_Or_beginning) (maxL := 4) (ret := (some .int)) (by decide) rfl ?_
  intro p e s m args below meth c s₁ B hml hv
  obtain ⟨rfl, hsz, hP, hE, hD0⟩ := hv
  have hx := B.exec
  have hb := B.bytes
  have hr := B.returns
  have hts : ∀ w ∈ TB, w.before _ s = true := fun w h => atoms_spec (ws := WS y_Or_beginning b_Or_beginning 4 (some .int)) B.pre w (List.mem_cons_of_mem _ h)
  have hown : s.vm.findClass R_Or = some m.cls := findClass_of_methodNamed B.named
  have hlocks := B.notSynchronized
  have hK := hE.1
  have hN := hE.2
  subst hsz
  have hD := hD0.self (sz := s.heap.size)
  generalize hAe : va_A [] s.heap.size = A at hD ⊢
  have hA : ∀ q : Nat, s.heap.size ≤ q → A q := fun q h => by rw [← hAe]; exact Or.inr h
  have hS : va_S A s.heap s.heap [] := va_S.rf
  have hl := lv_entry ([.int p1, .int p2]) (n := 4) (Nat.le_of_ble_eq_true rfl)
  rw [lg_entry_eq]
  generalize (lg_sl ([.int p1, .int p2]) ++ List.replicate (4 - (lg_sl ([.int p1, .int p2])).length) Slot.unset).toArray = ls at hl ⊢
  have hl : lv_has ls 4 [(0, .int p1), (1, .int p2)] := hl
  have S : CallFix p m c b_Or_beginning 4 s _ TB R_Or := ⟨hx, hb, hml, hown, hts⟩
  unfold m_Or_beginning at hM
  refine lv_iload_n hx hb d_Or_beginning_0 rfl (lv_at hl 0 rfl) ?_
  refine lv_istore_n (lv' := [(2, .int p1), (0, .int p1), (1, .int p2)]) hx hb d_Or_beginning_1 rfl hl (by decide) rfl (fun ls hl => ?_)
  refine lv_iload_n hx hb d_Or_beginning_2 rfl (lv_at hl 2 rfl) ?_
  refine lv_istore_n (lv' := [(3, .int p2), (2, .int p1), (0, .int p1), (1, .int p2)]) hx hb d_Or_beginning_3 rfl hl (by decide) rfl (fun ls hl => ?_)
  exact w_Or_beginning_4 S hr hlocks hE hA 2000 p1 p2 hM _ _ _ hP hD hS (lv_sub hl [1, 0] rfl)
def rm_Or_greatestDivisor : Room := { frames := 0, cells := 0, slots := 0, locals := 0 }
set_option maxHeartbeats 4000000 in
set_option maxRecDepth 100000 in
theorem w_Or_greatestDivisor_9 {p : Program} {l : Launch} {e : Env} {s : State} {m : MethodId} {args : Array Value} {below : List Frame} {meth : Method} {c : Code} {D : va_G} {cT : Nat → ClassId} {A : Nat → Prop} (S : CallFix p m c b_Or_greatestDivisor 11 s args TB R_Or) (hr : meth.sig.returnType = (some .long)) (hlocks : meth.locks = false) (hE : EN D cT s) (hA : ∀ q, s.heap.size ≤ q → A q) {p1 : Int64} {p2 : Int64} {rr : Int64} : ∀ (n : Nat) (x4 : Int64) (x6 : Int64) (x8 : Int32), k_Or_greatestDivisor_9 p1 p2  n x4 x6 x8 = some rr → ∀ (H : Heap) (locs : List Loc) (ls : Array Slot), va_P D classes [] H → va_D A [] → va_S A s.heap H locs → lv_has ls 11 [(4, .long x4), (6, .long x6), (8, .int x8)] → W p l e (headSpec (WS y_Or_greatestDivisor b_Or_greatestDivisor 11 (some .long)) rm_Or_greatestDivisor).room s m args below meth c H locs 0 0 (MQ below (qW D A [] (some (.long rr))) args s 0 0 A) (F0 m 9 ls []) := by
  obtain ⟨hx, hb, hml, hown, hts⟩ := id S
  have hK := hE.1
  have hN := hE.2
  intro n
  induction n with
  | zero =>
    intro x4 x6 x8 hM
    rw [k_Or_greatestDivisor_9_z] at hM
    cases hM
  | succ n ih =>
    intro x4 x6 x8 hM H locs ls hP hD hS hl
    rw [k_Or_greatestDivisor_9_s] at hM
    refine lv_iload hx hb d_Or_greatestDivisor_9 (lv_at hl 2 rfl) ?_
    refine lv_bipush (v := 100) hx hb d_Or_greatestDivisor_11 (by decide) ?_
    refine lv_icmp_ge (tgt := 44) hx hb d_Or_greatestDivisor_13 (by decide) (fun c_13 => ?_) (fun c_13 => ?_)
    · have hM := itT hM c_13
      refine lv_lload hx hb d_Or_greatestDivisor_44 (lv_at hl 0 rfl) ?_
      cases hM
      exact rt_j S hr hlocks hP hD hS d_Or_greatestDivisor_46
    · have hM := itF hM c_13
      refine lv_lload hx hb d_Or_greatestDivisor_16 (lv_at hl 1 rfl) ?_
      refine lv_lconst (v := 0) hx hb d_Or_greatestDivisor_18 (by decide) ?_
      refine W.lcmp hx hb d_Or_greatestDivisor_19 ?_
      refine lv_if_eq (tgt := 44) hx hb d_Or_greatestDivisor_20 (by decide) (fun c_20 => ?_) (fun c_20 => ?_)
      · have hM := itT hM c_20
        refine lv_lload hx hb d_Or_greatestDivisor_44 (lv_at hl 0 rfl) ?_
        cases hM
        exact rt_j S hr hlocks hP hD hS d_Or_greatestDivisor_46
      · have hM := itF hM c_20
        refine lv_lload hx hb d_Or_greatestDivisor_23 (lv_at hl 0 rfl) ?_
        refine lv_lload hx hb d_Or_greatestDivisor_25 (lv_at hl 1 rfl) ?_
        obtain ⟨hz_27, hM⟩ := nzTJ hM
        refine lv_lrem hx hb d_Or_greatestDivisor_27 hz_27 ?_
        refine lv_lstore (lv' := [(9, .long (x4 - x4 / x6 * x6)), (4, .long x4), (6, .long x6), (8, .int x8)]) hx hb d_Or_greatestDivisor_28 hl (by decide) rfl (fun ls hl => ?_)
        refine lv_lload hx hb d_Or_greatestDivisor_30 (lv_at hl 2 rfl) ?_
        refine lv_lstore (lv' := [(4, .long x6), (9, .long (x4 - x4 / x6 * x6)), (6, .long x6), (8, .int x8)]) hx hb d_Or_greatestDivisor_32 hl (by decide) rfl (fun ls hl => ?_)
        refine lv_lload hx hb d_Or_greatestDivisor_34 (lv_at hl 1 rfl) ?_
        refine lv_lstore (lv' := [(6, .long (x4 - x4 / x6 * x6)), (4, .long x6), (9, .long (x4 - x4 / x6 * x6)), (8, .int x8)]) hx hb d_Or_greatestDivisor_36 hl (by decide) rfl (fun ls hl => ?_)
        refine lv_iinc (v := x8 + 1) (lv' := [(8, .int (x8 + 1)), (6, .long (x4 - x4 / x6 * x6)), (4, .long x6), (9, .long (x4 - x4 / x6 * x6))]) hx hb d_Or_greatestDivisor_38 hl (k := 3) rfl rfl (by decide) rfl (fun ls hl => ?_)
        refine lv_goto (tgt := 9) hx hb d_Or_greatestDivisor_41 (by decide) ?_
        exact ih x6 (x4 - x4 / x6 * x6) (x8 + 1) hM _ _ _ hP hD hS (lv_sub hl [2, 1, 0] rfl)
set_option maxHeartbeats 4000000 in
set_option maxRecDepth 100000 in
theorem c_Or_greatestDivisor (l : Launch) (D : va_G) (cT : Nat → ClassId) (p1 : Int64) (p2 : Int64) {rr : Int64} (hM : m_Or_greatestDivisor p1 p2 = some rr) : Ct l y_Or_greatestDivisor (WS y_Or_greatestDivisor b_Or_greatestDivisor 11 (some .long)) rm_Or_greatestDivisor D cT [.long p1, .long p2] [] (some (.long rr)) [] 0 0 := by
  intro sz
  refine Met.ofW (cc := b_Or_greatestDivisor) (maxL := 11) (ret := (some .long)) (by decide) rfl ?_
  intro p e s m args below meth c s₁ B hml hv
  obtain ⟨rfl, hsz, hP, hE, hD0⟩ := hv
  have hx := B.exec
  have hb := B.bytes
  have hr := B.returns
  have hts : ∀ w ∈ TB, w.before _ s = true := fun w h => atoms_spec (ws := WS y_Or_greatestDivisor b_Or_greatestDivisor 11 (some .long)) B.pre w (List.mem_cons_of_mem _ h)
  have hown : s.vm.findClass R_Or = some m.cls := findClass_of_methodNamed B.named
  have hlocks := B.notSynchronized
  have hK := hE.1
  have hN := hE.2
  subst hsz
  have hD := hD0.self (sz := s.heap.size)
  generalize hAe : va_A [] s.heap.size = A at hD ⊢
  have hA : ∀ q : Nat, s.heap.size ≤ q → A q := fun q h => by rw [← hAe]; exact Or.inr h
  have hS : va_S A s.heap s.heap [] := va_S.rf
  have hl := lv_entry ([.long p1, .long p2]) (n := 11) (Nat.le_of_ble_eq_true rfl)
  rw [lg_entry_eq]
  generalize (lg_sl ([.long p1, .long p2]) ++ List.replicate (11 - (lg_sl ([.long p1, .long p2])).length) Slot.unset).toArray = ls at hl ⊢
  have hl : lv_has ls 11 [(0, .long p1), (2, .long p2)] := hl
  have S : CallFix p m c b_Or_greatestDivisor 11 s _ TB R_Or := ⟨hx, hb, hml, hown, hts⟩
  unfold m_Or_greatestDivisor at hM
  refine lv_lload_n hx hb d_Or_greatestDivisor_0 rfl (lv_at hl 0 rfl) ?_
  refine lv_lstore (lv' := [(4, .long p1), (0, .long p1), (2, .long p2)]) hx hb d_Or_greatestDivisor_1 hl (by decide) rfl (fun ls hl => ?_)
  refine lv_lload_n hx hb d_Or_greatestDivisor_3 rfl (lv_at hl 2 rfl) ?_
  refine lv_lstore (lv' := [(6, .long p2), (4, .long p1), (0, .long p1), (2, .long p2)]) hx hb d_Or_greatestDivisor_4 hl (by decide) rfl (fun ls hl => ?_)
  refine lv_iconst (v := 0) hx hb d_Or_greatestDivisor_6 (by decide) ?_
  refine lv_istore (lv' := [(8, .int 0), (6, .long p2), (4, .long p1), (0, .long p1), (2, .long p2)]) hx hb d_Or_greatestDivisor_7 hl (by decide) rfl (fun ls hl => ?_)
  exact w_Or_greatestDivisor_9 S hr hlocks hE hA 2000 p1 p2 0 hM _ _ _ hP hD hS (lv_sub hl [2, 1, 0] rfl)
end
