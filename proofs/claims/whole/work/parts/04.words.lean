theorem i_Or : ∀ w ∈ u_ws R_Or F_Or 11, w ∈ TB := fun w h => TB_in ((by decide +kernel : ∀ w ∈ u_ws R_Or F_Or 11, w ∈ lw_tbl) w h) ((by decide +kernel : ∀ w ∈ u_ws R_Or F_Or 11, goodWord w = true) w h)
theorem i_Text : ∀ w ∈ u_ws R_Text F_Text 3, w ∈ TB := fun w h => TB_in ((by decide +kernel : ∀ w ∈ u_ws R_Text F_Text 3, w ∈ lw_tbl) w h) ((by decide +kernel : ∀ w ∈ u_ws R_Text F_Text 3, goodWord w = true) w h)
theorem i_Rows : ∀ w ∈ u_ws R_Rows F_Rows 3, w ∈ TB := fun w h => TB_in ((by decide +kernel : ∀ w ∈ u_ws R_Rows F_Rows 3, w ∈ lw_tbl) w h) ((by decide +kernel : ∀ w ∈ u_ws R_Rows F_Rows 3, goodWord w = true) w h)
theorem i_Parts : ∀ w ∈ u_ws R_Parts F_Parts 4, w ∈ TB := fun w h => TB_in ((by decide +kernel : ∀ w ∈ u_ws R_Parts F_Parts 4, w ∈ lw_tbl) w h) ((by decide +kernel : ∀ w ∈ u_ws R_Parts F_Parts 4, goodWord w = true) w h)
theorem i_Lands : ∀ w ∈ u_ws R_Lands F_Lands 3, w ∈ TB := fun w h => TB_in ((by decide +kernel : ∀ w ∈ u_ws R_Lands F_Lands 3, w ∈ lw_tbl) w h) ((by decide +kernel : ∀ w ∈ u_ws R_Lands F_Lands 3, goodWord w = true) w h)
theorem i_Proofs : ∀ w ∈ u_ws R_Proofs F_Proofs 4, w ∈ TB := fun w h => TB_in ((by decide +kernel : ∀ w ∈ u_ws R_Proofs F_Proofs 4, w ∈ lw_tbl) w h) ((by decide +kernel : ∀ w ∈ u_ws R_Proofs F_Proofs 4, goodWord w = true) w h)
theorem i_Md : ∀ w ∈ u_ws R_Md F_Md 27, w ∈ TB := fun w h => TB_in ((by decide +kernel : ∀ w ∈ u_ws R_Md F_Md 27, w ∈ lw_tbl) w h) ((by decide +kernel : ∀ w ∈ u_ws R_Md F_Md 27, goodWord w = true) w h)
theorem iw_0 : (Cond.constant R_Or 219 999999) ∈ TB := TB_in (tb2 (i := 23) rfl) rfl
theorem iw_1 : (Cond.constantLong R_Or 220 1000000000) ∈ TB := TB_in (tb2 (i := 30) rfl) rfl
theorem iw_2 : (Cond.constant R_Or 222 100000) ∈ TB := TB_in (tb2 (i := 226) rfl) rfl
theorem iw_3 : (Cond.fieldLink R_Text 9 R_Text "signs" "[C") ∈ TB := TB_in (tb1 (i := 30) rfl) rfl
theorem iw_4 : (Cond.fieldLink R_Text 15 R_Text "length" "I") ∈ TB := TB_in (tb1 (i := 32) rfl) rfl
theorem iw_5 : (Cond.fieldLink R_Text 19 R_Text "place" "I") ∈ TB := TB_in (tb1 (i := 34) rfl) rfl
theorem iw_6 : (Cond.constant R_Text 26 999999) ∈ TB := TB_in (tb1 (i := 176) rfl) rfl
theorem iw_7 : (Cond.fieldLink R_Rows 9 R_Rows "signs" "[C") ∈ TB := TB_in (tb1 (i := 49) rfl) rfl
theorem iw_8 : (Cond.methodLink R_Rows 22 arraycopyName) ∈ TB := TB_in (tb1 (i := 200) rfl) rfl
theorem iw_9 : (Cond.native arraycopyName) ∈ TB := TB_in (tb1 (i := 202) rfl) rfl
theorem iw_10 : (Cond.static arraycopyName) ∈ TB := TB_in (tb1 (i := 201) rfl) rfl
theorem iw_11 : (Cond.initialized "java/lang/System") ∈ TB := TB_in (tb1 (i := 8) rfl) rfl
theorem iw_12 : (Cond.fieldLink R_Rows 15 R_Rows "length" "I") ∈ TB := TB_in (tb1 (i := 51) rfl) rfl
theorem iw_13 : (Cond.fieldLink R_Rows 19 R_Rows "size" "I") ∈ TB := TB_in (tb1 (i := 53) rfl) rfl
theorem iw_14 : (Cond.fieldLink R_Parts 9 R_Parts "codes" "[I") ∈ TB := TB_in (tb1 (i := 68) rfl) rfl
theorem iw_15 : (Cond.fieldLink R_Parts 22 R_Parts "size" "I") ∈ TB := TB_in (tb1 (i := 71) rfl) rfl
theorem iw_16 : (Cond.fieldLink R_Parts 15 R_Parts "landOf" "[I") ∈ TB := TB_in (tb1 (i := 69) rfl) rfl
theorem iw_17 : (Cond.fieldLink R_Parts 18 R_Parts "centsOf" "[J") ∈ TB := TB_in (tb1 (i := 70) rfl) rfl
theorem iw_18 : (Cond.fieldLink R_Lands 9 R_Lands "joined" "[I") ∈ TB := TB_in (tb1 (i := 90) rfl) rfl
theorem iw_19 : (Cond.fieldLink R_Lands 15 R_Lands "pairs" "I") ∈ TB := TB_in (tb1 (i := 91) rfl) rfl
theorem iw_20 : (Cond.fieldLink R_Lands 19 R_Lands "isFull" "Z") ∈ TB := TB_in (tb1 (i := 93) rfl) rfl
theorem iw_21 : (Cond.fieldLink R_Proofs 9 R_Proofs "kinds" "[I") ∈ TB := TB_in (tb1 (i := 108) rfl) rfl
theorem iw_22 : (Cond.fieldLink R_Proofs 21 R_Proofs "size" "I") ∈ TB := TB_in (tb1 (i := 111) rfl) rfl
theorem iw_23 : (Cond.fieldLink R_Proofs 15 R_Proofs "firstDays" "[I") ∈ TB := TB_in (tb1 (i := 109) rfl) rfl
theorem iw_24 : (Cond.fieldLink R_Proofs 18 R_Proofs "lastDays" "[I") ∈ TB := TB_in (tb1 (i := 110) rfl) rfl
theorem iw_25 : (Cond.constantLong R_Proofs 25 1000000) ∈ TB := TB_in (tb3 (i := 5) rfl) rfl
theorem iw_26 : (Cond.fieldLink R_Or 26 R_Or "parts" "LOriginRules$Parts;") ∈ TB := TB_in (tb1 (i := 124) rfl) rfl
theorem iw_27 : (Cond.fieldLink R_Or 33 R_Or "lands" "LOriginRules$Lands;") ∈ TB := TB_in (tb1 (i := 125) rfl) rfl
theorem iw_28 : (Cond.constantLong R_Or 217 100) ∈ TB := TB_in (tb2 (i := 180) rfl) rfl
theorem iw_29 : (Cond.fieldLink R_Or 54 R_Or "toleranceDown" "I") ∈ TB := TB_in (tb1 (i := 130) rfl) rfl
theorem iw_30 : (Cond.fieldLink R_Or 51 R_Or "toleranceUp" "I") ∈ TB := TB_in (tb1 (i := 129) rfl) rfl
theorem iw_31 : (Cond.fieldLink R_Or 19 R_Or "rows" "LOriginRules$Rows;") ∈ TB := TB_in (tb1 (i := 123) rfl) rfl
theorem iw_32 : (Cond.fieldLink R_Or 44 R_Or "processesDone" "I") ∈ TB := TB_in (tb1 (i := 127) rfl) rfl
theorem iw_33 : (Cond.fieldLink R_Or 61 R_Or "asked" "I") ∈ TB := TB_in (tb1 (i := 132) rfl) rfl
theorem iw_34 : (Cond.fieldLink R_Or 57 R_Or "answers" "[I") ∈ TB := TB_in (tb1 (i := 131) rfl) rfl
theorem iw_35 : (Cond.fieldLink R_Or 10 R_Or "text" "LOriginRules$Text;") ∈ TB := TB_in (tb1 (i := 122) rfl) rfl
theorem iw_36 : (Cond.fieldLink R_Or 48 R_Or "processesBarred" "I") ∈ TB := TB_in (tb1 (i := 128) rfl) rfl
theorem iw_37 : (Cond.fieldLink R_Or 40 R_Or "proofs" "LOriginRules$Proofs;") ∈ TB := TB_in (tb1 (i := 126) rfl) rfl
theorem iw_38 : (Cond.methodLink R_Or 159 Lib.MathLoose.max_long.x) ∈ TB := TB_in (tb2 (i := 213) rfl) rfl
theorem iw_39 : (Cond.static Lib.MathLoose.max_long.x) ∈ TB := TB_in (tb2 (i := 214) rfl) rfl
theorem iw_40 : (Cond.initialized "java/lang/Math") ∈ TB := TB_in (tb1 (i := 15) rfl) rfl
theorem iw_41 : (Cond.code Lib.MathLoose.max_long.x Lib.MathLoose.max_long.code 4 (some .long)) ∈ TB := TB_in (tb2 (i := 215) rfl) rfl
theorem iw_42 : (Cond.constantLong R_Md 155 100000) ∈ TB := TB_in (tb3 (i := 223) rfl) rfl
theorem iw_43 : (Cond.fieldLink R_Md 61 R_Md "thrown" "I") ∈ TB := TB_in (tb3 (i := 20) rfl) rfl
theorem iw_44 : (Cond.constantLong R_Md 64 33) ∈ TB := TB_in (tb3 (i := 111) rfl) rfl
theorem iw_45 : (Cond.constantLong R_Md 66 126) ∈ TB := TB_in (tb3 (i := 112) rfl) rfl
theorem iw_46 : (Cond.fieldLink R_Md 72 R_Md "signs" "I") ∈ TB := TB_in (tb3 (i := 22) rfl) rfl
theorem iw_47 : (Cond.fieldLink R_Md 7 R_Md "text" "[I") ∈ TB := TB_in (tb3 (i := 21) rfl) rfl
theorem iw_48 : (Cond.fieldLink R_Md 19 R_Md "tried" "[I") ∈ TB := TB_in (tb3 (i := 26) rfl) rfl
theorem iw_49 : (Cond.fieldLink R_Md 86 R_Md "rows" "I") ∈ TB := TB_in (tb3 (i := 25) rfl) rfl
theorem iw_50 : (Cond.fieldLink R_Md 13 R_Md "read" "[I") ∈ TB := TB_in (tb3 (i := 23) rfl) rfl
theorem iw_51 : (Cond.fieldLink R_Md 16 R_Md "begins" "[I") ∈ TB := TB_in (tb3 (i := 24) rfl) rfl
theorem iw_52 : (Cond.constant R_Md 89 100000) ∈ TB := TB_in (tb3 (i := 186) rfl) rfl
theorem iw_53 : (Cond.constantLong R_Md 93 999999) ∈ TB := TB_in (tb3 (i := 133) rfl) rfl
theorem iw_54 : (Cond.constantLong R_Md 95 9) ∈ TB := TB_in (tb3 (i := 134) rfl) rfl
theorem iw_55 : (Cond.constantLong R_Md 97 1000000000) ∈ TB := TB_in (tb3 (i := 135) rfl) rfl
theorem iw_56 : (Cond.fieldLink R_Md 103 R_Md "parts" "I") ∈ TB := TB_in (tb3 (i := 27) rfl) rfl
theorem iw_57 : (Cond.fieldLink R_Md 22 R_Md "partCode" "[I") ∈ TB := TB_in (tb3 (i := 28) rfl) rfl
theorem iw_58 : (Cond.fieldLink R_Md 25 R_Md "partLand" "[I") ∈ TB := TB_in (tb3 (i := 29) rfl) rfl
theorem iw_59 : (Cond.fieldLink R_Md 28 R_Md "partCents" "[J") ∈ TB := TB_in (tb3 (i := 30) rfl) rfl
theorem iw_60 : (Cond.fieldLink R_Md 106 R_Md "done" "I") ∈ TB := TB_in (tb3 (i := 31) rfl) rfl
theorem iw_61 : (Cond.constantLong R_Md 109 15) ∈ TB := TB_in (tb3 (i := 148) rfl) rfl
theorem iw_62 : (Cond.fieldLink R_Md 111 R_Md "barred" "I") ∈ TB := TB_in (tb3 (i := 32) rfl) rfl
theorem iw_63 : (Cond.fieldLink R_Md 32 R_Md "joined" "[Z") ∈ TB := TB_in (tb3 (i := 33) rfl) rfl
theorem iw_64 : (Cond.fieldLink R_Md 114 R_Md "pairs" "I") ∈ TB := TB_in (tb3 (i := 34) rfl) rfl
theorem iw_65 : (Cond.fieldLink R_Md 117 R_Md "full" "Z") ∈ TB := TB_in (tb3 (i := 35) rfl) rfl
theorem iw_66 : (Cond.constantLong R_Md 121 1000) ∈ TB := TB_in (tb3 (i := 165) rfl) rfl
theorem iw_67 : (Cond.fieldLink R_Md 123 R_Md "up" "I") ∈ TB := TB_in (tb3 (i := 36) rfl) rfl
theorem iw_68 : (Cond.fieldLink R_Md 36 R_Md "down" "I") ∈ TB := TB_in (tb3 (i := 37) rfl) rfl
theorem iw_69 : (Cond.constantLong R_Md 133 100) ∈ TB := TB_in (tb3 (i := 199) rfl) rfl
theorem iw_70 : (Cond.fieldLink R_Md 52 R_Md "live" "[Z") ∈ TB := TB_in (tb3 (i := 44) rfl) rfl
theorem iw_71 : (Cond.fieldLink R_Md 55 R_Md "any" "[Z") ∈ TB := TB_in (tb3 (i := 45) rfl) rfl
theorem iw_72 : (Cond.fieldLink R_Md 58 R_Md "all" "[Z") ∈ TB := TB_in (tb3 (i := 46) rfl) rfl
theorem iw_73 : (Cond.fieldLink R_Md 142 R_Md "asked" "I") ∈ TB := TB_in (tb3 (i := 42) rfl) rfl
theorem iw_74 : (Cond.fieldLink R_Md 49 R_Md "told" "[I") ∈ TB := TB_in (tb3 (i := 43) rfl) rfl
theorem iw_75 : (Cond.fieldLink R_Md 160 R_Md "proofs" "I") ∈ TB := TB_in (tb3 (i := 38) rfl) rfl
theorem iw_76 : (Cond.fieldLink R_Md 40 R_Md "proofKind" "[I") ∈ TB := TB_in (tb3 (i := 39) rfl) rfl
theorem iw_77 : (Cond.fieldLink R_Md 43 R_Md "proofFrom" "[I") ∈ TB := TB_in (tb3 (i := 40) rfl) rfl
theorem iw_78 : (Cond.fieldLink R_Md 46 R_Md "proofTo" "[I") ∈ TB := TB_in (tb3 (i := 41) rfl) rfl
theorem iw_79 : (Cond.constantLong R_Md 163 1000000) ∈ TB := TB_in (tb3 (i := 228) rfl) rfl
theorem iw_80 : (Cond.methodLink R_Text 3 objectInit) ∈ TB := TB_in (tb1 (i := 29) rfl) rfl
theorem iw_81 : (Cond.instanceMethod objectInit) ∈ TB := TB_in (tb1 (i := 22) rfl) rfl
theorem iw_82 : (Cond.code objectInit ⟨#[0xb1]⟩ 1 none) ∈ TB := TB_in (tb1 (i := 23) rfl) rfl
theorem iw_83 : (Cond.arrayClass .char) ∈ TB := TB_in (tb1 (i := 42) rfl) rfl
theorem iw_84 : (Cond.methodLink R_Rows 3 objectInit) ∈ TB := TB_in (tb1 (i := 48) rfl) rfl
theorem iw_85 : (Cond.methodLink R_Parts 3 objectInit) ∈ TB := TB_in (tb1 (i := 67) rfl) rfl
theorem iw_86 : (Cond.arrayClass .int) ∈ TB := TB_in (tb1 (i := 82) rfl) rfl
theorem iw_87 : (Cond.arrayClass .long) ∈ TB := TB_in (tb1 (i := 83) rfl) rfl
theorem iw_88 : (Cond.methodLink R_Lands 3 objectInit) ∈ TB := TB_in (tb1 (i := 89) rfl) rfl
theorem iw_89 : (Cond.methodLink R_Proofs 3 objectInit) ∈ TB := TB_in (tb1 (i := 107) rfl) rfl
theorem iw_90 : (Cond.methodLink R_Or 1 objectInit) ∈ TB := TB_in (tb1 (i := 21) rfl) rfl
theorem iw_91 : (Cond.classLink R_Or 7 R_Text) ∈ TB := TB_in (tb1 (i := 24) rfl) rfl
theorem iw_92 : (Cond.instantiable R_Text 3) ∈ TB := TB_in (tb1 (i := 25) rfl) rfl
theorem iw_93 : (Cond.initialized R_Text) ∈ TB := TB_in (tb1 (i := 2) rfl) rfl
theorem iw_94 : (Cond.classLink R_Or 16 R_Rows) ∈ TB := TB_in (tb1 (i := 43) rfl) rfl
theorem iw_95 : (Cond.instantiable R_Rows 3) ∈ TB := TB_in (tb1 (i := 44) rfl) rfl
theorem iw_96 : (Cond.initialized R_Rows) ∈ TB := TB_in (tb1 (i := 3) rfl) rfl
theorem iw_97 : (Cond.classLink R_Or 23 R_Parts) ∈ TB := TB_in (tb1 (i := 62) rfl) rfl
theorem iw_98 : (Cond.instantiable R_Parts 4) ∈ TB := TB_in (tb1 (i := 63) rfl) rfl
theorem iw_99 : (Cond.initialized R_Parts) ∈ TB := TB_in (tb1 (i := 4) rfl) rfl
theorem iw_100 : (Cond.classLink R_Or 30 R_Lands) ∈ TB := TB_in (tb1 (i := 84) rfl) rfl
theorem iw_101 : (Cond.instantiable R_Lands 3) ∈ TB := TB_in (tb1 (i := 85) rfl) rfl
theorem iw_102 : (Cond.initialized R_Lands) ∈ TB := TB_in (tb1 (i := 5) rfl) rfl
theorem iw_103 : (Cond.classLink R_Or 37 R_Proofs) ∈ TB := TB_in (tb1 (i := 102) rfl) rfl
theorem iw_104 : (Cond.instantiable R_Proofs 4) ∈ TB := TB_in (tb1 (i := 103) rfl) rfl
theorem iw_105 : (Cond.initialized R_Proofs) ∈ TB := TB_in (tb1 (i := 6) rfl) rfl
theorem iw_106 : (Cond.methodLink R_Md 1 objectInit) ∈ TB := TB_in (tb3 (i := 19) rfl) rfl
theorem iw_107 : (Cond.arrayClass .boolean) ∈ TB := TB_in (tb3 (i := 102) rfl) rfl
theorem iw_108 : (Cond.classLink R_Or 94 "java/lang/IllegalArgumentException") ∈ TB := TB_in (tb2 (i := 31) rfl) rfl
theorem iw_109 : (Cond.initialized "java/lang/IllegalArgumentException") ∈ TB := TB_in (tb1 (i := 12) rfl) rfl
theorem iw_110 : (Cond.classLink R_Or 104 "java/lang/IllegalStateException") ∈ TB := TB_in (tb2 (i := 99) rfl) rfl
theorem iw_111 : (Cond.initialized "java/lang/IllegalStateException") ∈ TB := TB_in (tb1 (i := 13) rfl) rfl
theorem iw_112 : (Cond.classLink R_Or 143 "java/lang/ArithmeticException") ∈ TB := TB_in (tb2 (i := 194) rfl) rfl
theorem iw_113 : (Cond.initialized "java/lang/ArithmeticException") ∈ TB := TB_in (tb1 (i := 14) rfl) rfl
theorem iw_114 : (Cond.code y_Or_isDigit b_Or_isDigit 1 (some .boolean)) ∈ TB := TB_in (tb1 (i := 183) rfl) rfl
theorem iw_115 : (Cond.static y_Or_isDigit) ∈ TB := TB_in (tb1 (i := 182) rfl) rfl
theorem iw_116 : (Cond.initialized R_Or) ∈ TB := TB_in (tb1 (i := 1) rfl) rfl
theorem iw_117 : (Cond.code y_Text_passesSign b_Text_passesSign 2 (some .boolean)) ∈ TB := TB_in (tb1 (i := 187) rfl) rfl
theorem iw_118 : (Cond.methodLink R_Text 31 y_Text_passesSign) ∈ TB := TB_in (tb1 (i := 184) rfl) rfl
theorem iw_119 : (Cond.instanceMethod y_Text_passesSign) ∈ TB := TB_in (tb1 (i := 186) rfl) rfl
theorem iw_120 : (Cond.selects R_Text y_Text_passesSign y_Text_passesSign) ∈ TB := TB_in (by decide +kernel) rfl
theorem iw_121 : (Cond.code y_Text_passesDigits b_Text_passesDigits 5 (some .boolean)) ∈ TB := TB_in (tb1 (i := 180) rfl) rfl
theorem iw_122 : (Cond.methodLink R_Text 27 y_Text_passesDigits) ∈ TB := TB_in (tb1 (i := 177) rfl) rfl
theorem iw_123 : (Cond.instanceMethod y_Text_passesDigits) ∈ TB := TB_in (tb1 (i := 179) rfl) rfl
theorem iw_124 : (Cond.selects R_Text y_Text_passesDigits y_Text_passesDigits) ∈ TB := TB_in (by decide +kernel) rfl
theorem iw_125 : (Cond.code y_Text_passesFactor b_Text_passesFactor 1 (some .boolean)) ∈ TB := TB_in (tb1 (i := 195) rfl) rfl
theorem iw_126 : (Cond.methodLink R_Text 38 y_Text_passesFactor) ∈ TB := TB_in (tb1 (i := 192) rfl) rfl
theorem iw_127 : (Cond.instanceMethod y_Text_passesFactor) ∈ TB := TB_in (tb1 (i := 194) rfl) rfl
theorem iw_128 : (Cond.selects R_Text y_Text_passesFactor y_Text_passesFactor) ∈ TB := TB_in (by decide +kernel) rfl
theorem iw_129 : (Cond.code y_Text_passesRule b_Text_passesRule 3 (some .boolean)) ∈ TB := TB_in (tb1 (i := 191) rfl) rfl
theorem iw_130 : (Cond.methodLink R_Text 35 y_Text_passesRule) ∈ TB := TB_in (tb1 (i := 188) rfl) rfl
theorem iw_131 : (Cond.instanceMethod y_Text_passesRule) ∈ TB := TB_in (tb1 (i := 190) rfl) rfl
theorem iw_132 : (Cond.selects R_Text y_Text_passesRule y_Text_passesRule) ∈ TB := TB_in (by decide +kernel) rfl
theorem iw_133 : (Cond.code y_Text_passesRow b_Text_passesRow 1 (some .boolean)) ∈ TB := TB_in (tb1 (i := 175) rfl) rfl
theorem iw_134 : (Cond.methodLink R_Text 22 y_Text_passesRow) ∈ TB := TB_in (tb1 (i := 172) rfl) rfl
theorem iw_135 : (Cond.instanceMethod y_Text_passesRow) ∈ TB := TB_in (tb1 (i := 174) rfl) rfl
theorem iw_136 : (Cond.selects R_Text y_Text_passesRow y_Text_passesRow) ∈ TB := TB_in (by decide +kernel) rfl
theorem iw_137 : (Cond.code y_Or_beginning b_Or_beginning 4 (some .int)) ∈ TB := TB_in (tb2 (i := 145) rfl) rfl
theorem iw_138 : (Cond.static y_Or_beginning) ∈ TB := TB_in (tb2 (i := 144) rfl) rfl
theorem iw_139 : (Cond.code y_Rows_numberAt b_Rows_numberAt 4 (some .int)) ∈ TB := TB_in (tb2 (i := 149) rfl) rfl
theorem iw_140 : (Cond.methodLink R_Rows 32 y_Rows_numberAt) ∈ TB := TB_in (tb2 (i := 146) rfl) rfl
theorem iw_141 : (Cond.instanceMethod y_Rows_numberAt) ∈ TB := TB_in (tb2 (i := 147) rfl) rfl
theorem iw_142 : (Cond.selects R_Rows y_Rows_numberAt y_Rows_numberAt) ∈ TB := TB_in (tb2 (i := 148) rfl) rfl
theorem iw_143 : (Cond.code y_Or_hasBit b_Or_hasBit 2 (some .boolean)) ∈ TB := TB_in (tb1 (i := 220) rfl) rfl
theorem iw_144 : (Cond.static y_Or_hasBit) ∈ TB := TB_in (tb1 (i := 219) rfl) rfl
theorem iw_145 : (Cond.code y_Lands_ownLands b_Lands_ownLands 4 (some .int)) ∈ TB := TB_in (tb2 (i := 4) rfl) rfl
theorem iw_146 : (Cond.methodLink R_Or 148 y_Lands_ownLands) ∈ TB := TB_in (tb2 (i := 1) rfl) rfl
theorem iw_147 : (Cond.instanceMethod y_Lands_ownLands) ∈ TB := TB_in (tb2 (i := 2) rfl) rfl
theorem iw_148 : (Cond.selects R_Lands y_Lands_ownLands y_Lands_ownLands) ∈ TB := TB_in (tb2 (i := 3) rfl) rfl
theorem iw_149 : (Cond.code y_Parts_foreignCents b_Parts_foreignCents 5 (some .long)) ∈ TB := TB_in (tb2 (i := 179) rfl) rfl
theorem iw_150 : (Cond.methodLink R_Or 151 y_Parts_foreignCents) ∈ TB := TB_in (tb2 (i := 176) rfl) rfl
theorem iw_151 : (Cond.instanceMethod y_Parts_foreignCents) ∈ TB := TB_in (tb2 (i := 177) rfl) rfl
theorem iw_152 : (Cond.selects R_Parts y_Parts_foreignCents y_Parts_foreignCents) ∈ TB := TB_in (tb2 (i := 178) rfl) rfl
theorem iw_153 : (Cond.code y_Parts_foreignCentsAlike b_Parts_foreignCentsAlike 8 (some .long)) ∈ TB := TB_in (tb2 (i := 169) rfl) rfl
theorem iw_154 : (Cond.methodLink R_Or 213 y_Parts_foreignCentsAlike) ∈ TB := TB_in (tb2 (i := 166) rfl) rfl
theorem iw_155 : (Cond.instanceMethod y_Parts_foreignCentsAlike) ∈ TB := TB_in (tb2 (i := 167) rfl) rfl
theorem iw_156 : (Cond.selects R_Parts y_Parts_foreignCentsAlike y_Parts_foreignCentsAlike) ∈ TB := TB_in (tb2 (i := 168) rfl) rfl
theorem iw_157 : (Cond.methodLink R_Or 206 y_Rows_numberAt) ∈ TB := TB_in (tb2 (i := 171) rfl) rfl
theorem iw_158 : (Cond.methodLink R_Or 118 y_Or_hasBit) ∈ TB := TB_in (tb1 (i := 218) rfl) rfl
theorem iw_159 : (Cond.code y_Or_isShareWithin b_Or_isShareWithin 6 (some .boolean)) ∈ TB := TB_in (tb2 (i := 175) rfl) rfl
theorem iw_160 : (Cond.methodLink R_Or 209 y_Or_isShareWithin) ∈ TB := TB_in (tb2 (i := 172) rfl) rfl
theorem iw_161 : (Cond.instanceMethod y_Or_isShareWithin) ∈ TB := TB_in (tb2 (i := 174) rfl) rfl
theorem iw_162 : (Cond.selects R_Or y_Or_isShareWithin y_Or_isShareWithin) ∈ TB := TB_in (by decide +kernel) rfl
theorem iw_163 : (Cond.code y_Or_isChanged b_Or_isChanged 7 (some .boolean)) ∈ TB := TB_in (tb2 (i := 165) rfl) rfl
theorem iw_164 : (Cond.methodLink R_Or 203 y_Or_isChanged) ∈ TB := TB_in (tb2 (i := 162) rfl) rfl
theorem iw_165 : (Cond.instanceMethod y_Or_isChanged) ∈ TB := TB_in (tb2 (i := 164) rfl) rfl
theorem iw_166 : (Cond.selects R_Or y_Or_isChanged y_Or_isChanged) ∈ TB := TB_in (by decide +kernel) rfl
theorem iw_167 : (Cond.code y_Or_isLetter b_Or_isLetter 1 (some .boolean)) ∈ TB := TB_in (tb2 (i := 157) rfl) rfl
theorem iw_168 : (Cond.methodLink R_Or 192 y_Or_isLetter) ∈ TB := TB_in (tb2 (i := 155) rfl) rfl
theorem iw_169 : (Cond.static y_Or_isLetter) ∈ TB := TB_in (tb2 (i := 156) rfl) rfl
theorem iw_170 : (Cond.code y_Or_factorHolds b_Or_factorHolds 7 (some .boolean)) ∈ TB := TB_in (tb2 (i := 161) rfl) rfl
theorem iw_171 : (Cond.methodLink R_Or 196 y_Or_factorHolds) ∈ TB := TB_in (tb2 (i := 158) rfl) rfl
theorem iw_172 : (Cond.instanceMethod y_Or_factorHolds) ∈ TB := TB_in (tb2 (i := 160) rfl) rfl
theorem iw_173 : (Cond.selects R_Or y_Or_factorHolds y_Or_factorHolds) ∈ TB := TB_in (by decide +kernel) rfl
theorem iw_174 : (Cond.code y_Or_keepAnswer b_Or_keepAnswer 3 none) ∈ TB := TB_in (tb2 (i := 184) rfl) rfl
theorem iw_175 : (Cond.methodLink R_Or 199 y_Or_keepAnswer) ∈ TB := TB_in (tb2 (i := 181) rfl) rfl
theorem iw_176 : (Cond.instanceMethod y_Or_keepAnswer) ∈ TB := TB_in (tb2 (i := 183) rfl) rfl
theorem iw_177 : (Cond.selects R_Or y_Or_keepAnswer y_Or_keepAnswer) ∈ TB := TB_in (by decide +kernel) rfl
theorem iw_178 : (Cond.code y_Text_add b_Text_add 2 none) ∈ TB := TB_in (tb1 (i := 163) rfl) rfl
theorem iw_179 : (Cond.methodLink R_Or 67 y_Text_add) ∈ TB := TB_in (tb1 (i := 160) rfl) rfl
theorem iw_180 : (Cond.instanceMethod y_Text_add) ∈ TB := TB_in (tb1 (i := 161) rfl) rfl
theorem iw_181 : (Cond.selects R_Text y_Text_add y_Text_add) ∈ TB := TB_in (tb1 (i := 162) rfl) rfl
theorem iw_182 : (Cond.code y_Text_rowsOrWrongPlace b_Text_rowsOrWrongPlace 2 (some .int)) ∈ TB := TB_in (tb1 (i := 171) rfl) rfl
theorem iw_183 : (Cond.methodLink R_Or 71 y_Text_rowsOrWrongPlace) ∈ TB := TB_in (tb1 (i := 168) rfl) rfl
theorem iw_184 : (Cond.instanceMethod y_Text_rowsOrWrongPlace) ∈ TB := TB_in (tb1 (i := 169) rfl) rfl
theorem iw_185 : (Cond.selects R_Text y_Text_rowsOrWrongPlace y_Text_rowsOrWrongPlace) ∈ TB := TB_in (tb1 (i := 170) rfl) rfl
theorem iw_186 : (Cond.code y_Rows_replace b_Rows_replace 4 none) ∈ TB := TB_in (tb1 (i := 199) rfl) rfl
theorem iw_187 : (Cond.methodLink R_Or 79 y_Rows_replace) ∈ TB := TB_in (tb1 (i := 196) rfl) rfl
theorem iw_188 : (Cond.instanceMethod y_Rows_replace) ∈ TB := TB_in (tb1 (i := 197) rfl) rfl
theorem iw_189 : (Cond.selects R_Rows y_Rows_replace y_Rows_replace) ∈ TB := TB_in (tb1 (i := 198) rfl) rfl
theorem iw_190 : (Cond.code y_Parts_forget b_Parts_forget 2 (some .int)) ∈ TB := TB_in (tb1 (i := 210) rfl) rfl
theorem iw_191 : (Cond.methodLink R_Or 112 y_Parts_forget) ∈ TB := TB_in (tb1 (i := 207) rfl) rfl
theorem iw_192 : (Cond.instanceMethod y_Parts_forget) ∈ TB := TB_in (tb1 (i := 208) rfl) rfl
theorem iw_193 : (Cond.selects R_Parts y_Parts_forget y_Parts_forget) ∈ TB := TB_in (tb1 (i := 209) rfl) rfl
theorem iw_194 : (Cond.code y_Or_isProcess b_Or_isProcess 1 (some .boolean)) ∈ TB := TB_in (tb1 (i := 217) rfl) rfl
theorem iw_195 : (Cond.methodLink R_Or 115 y_Or_isProcess) ∈ TB := TB_in (tb1 (i := 215) rfl) rfl
theorem iw_196 : (Cond.static y_Or_isProcess) ∈ TB := TB_in (tb1 (i := 216) rfl) rfl
theorem iw_197 : (Cond.code y_Parts_foreignParts b_Parts_foreignParts 4 (some .int)) ∈ TB := TB_in (tb2 (i := 9) rfl) rfl
theorem iw_198 : (Cond.methodLink R_Or 184 y_Parts_foreignParts) ∈ TB := TB_in (tb2 (i := 6) rfl) rfl
theorem iw_199 : (Cond.instanceMethod y_Parts_foreignParts) ∈ TB := TB_in (tb2 (i := 7) rfl) rfl
theorem iw_200 : (Cond.selects R_Parts y_Parts_foreignParts y_Parts_foreignParts) ∈ TB := TB_in (tb2 (i := 8) rfl) rfl
theorem iw_201 : (Cond.code y_Or_isCode b_Or_isCode 1 (some .boolean)) ∈ TB := TB_in (tb2 (i := 22) rfl) rfl
theorem iw_202 : (Cond.methodLink R_Or 83 y_Or_isCode) ∈ TB := TB_in (tb2 (i := 20) rfl) rfl
theorem iw_203 : (Cond.static y_Or_isCode) ∈ TB := TB_in (tb2 (i := 21) rfl) rfl
theorem iw_204 : (Cond.code y_Or_isLand b_Or_isLand 1 (some .boolean)) ∈ TB := TB_in (tb2 (i := 26) rfl) rfl
theorem iw_205 : (Cond.methodLink R_Or 87 y_Or_isLand) ∈ TB := TB_in (tb2 (i := 24) rfl) rfl
theorem iw_206 : (Cond.static y_Or_isLand) ∈ TB := TB_in (tb2 (i := 25) rfl) rfl
theorem iw_207 : (Cond.code y_Or_isCents b_Or_isCents 2 (some .boolean)) ∈ TB := TB_in (tb2 (i := 29) rfl) rfl
theorem iw_208 : (Cond.methodLink R_Or 90 y_Or_isCents) ∈ TB := TB_in (tb2 (i := 27) rfl) rfl
theorem iw_209 : (Cond.static y_Or_isCents) ∈ TB := TB_in (tb2 (i := 28) rfl) rfl
theorem iw_210 : (Cond.code y_Parts_add b_Parts_add 5 (some .int)) ∈ TB := TB_in (tb2 (i := 118) rfl) rfl
theorem iw_211 : (Cond.methodLink R_Or 109 y_Parts_add) ∈ TB := TB_in (tb2 (i := 115) rfl) rfl
theorem iw_212 : (Cond.instanceMethod y_Parts_add) ∈ TB := TB_in (tb2 (i := 116) rfl) rfl
theorem iw_213 : (Cond.selects R_Parts y_Parts_add y_Parts_add) ∈ TB := TB_in (tb2 (i := 117) rfl) rfl
theorem iw_214 : (Cond.code y_Lands_addPair b_Lands_addPair 3 (some .boolean)) ∈ TB := TB_in (tb2 (i := 130) rfl) rfl
theorem iw_215 : (Cond.methodLink R_Or 124 y_Lands_addPair) ∈ TB := TB_in (tb2 (i := 127) rfl) rfl
theorem iw_216 : (Cond.instanceMethod y_Lands_addPair) ∈ TB := TB_in (tb2 (i := 128) rfl) rfl
theorem iw_217 : (Cond.selects R_Lands y_Lands_addPair y_Lands_addPair) ∈ TB := TB_in (tb2 (i := 129) rfl) rfl
theorem iw_218 : (Cond.code y_Rows_startFor b_Rows_startFor 7 (some .int)) ∈ TB := TB_in (tb2 (i := 142) rfl) rfl
theorem iw_219 : (Cond.methodLink R_Or 133 y_Rows_startFor) ∈ TB := TB_in (tb2 (i := 139) rfl) rfl
theorem iw_220 : (Cond.instanceMethod y_Rows_startFor) ∈ TB := TB_in (tb2 (i := 140) rfl) rfl
theorem iw_221 : (Cond.selects R_Rows y_Rows_startFor y_Rows_startFor) ∈ TB := TB_in (tb2 (i := 141) rfl) rfl
theorem iw_222 : (Cond.code y_Or_ruleHolds b_Or_ruleHolds 10 (some .boolean)) ∈ TB := TB_in (tb2 (i := 154) rfl) rfl
theorem iw_223 : (Cond.methodLink R_Or 137 y_Or_ruleHolds) ∈ TB := TB_in (tb2 (i := 151) rfl) rfl
theorem iw_224 : (Cond.instanceMethod y_Or_ruleHolds) ∈ TB := TB_in (tb2 (i := 153) rfl) rfl
theorem iw_225 : (Cond.selects R_Or y_Or_ruleHolds y_Or_ruleHolds) ∈ TB := TB_in (by decide +kernel) rfl
theorem iw_226 : (Cond.code y_Or_greatestDivisor b_Or_greatestDivisor 11 (some .long)) ∈ TB := TB_in (tb2 (i := 212) rfl) rfl
theorem iw_227 : (Cond.methodLink R_Or 155 y_Or_greatestDivisor) ∈ TB := TB_in (tb2 (i := 210) rfl) rfl
theorem iw_228 : (Cond.static y_Or_greatestDivisor) ∈ TB := TB_in (tb2 (i := 211) rfl) rfl
theorem iw_229 : (Cond.code y_Or_isDay b_Or_isDay 1 (some .boolean)) ∈ TB := TB_in (tb2 (i := 225) rfl) rfl
theorem iw_230 : (Cond.methodLink R_Or 164 y_Or_isDay) ∈ TB := TB_in (tb2 (i := 223) rfl) rfl
theorem iw_231 : (Cond.static y_Or_isDay) ∈ TB := TB_in (tb2 (i := 224) rfl) rfl
theorem iw_232 : (Cond.code y_Proofs_add b_Proofs_add 4 (some .int)) ∈ TB := TB_in (tb2 (i := 232) rfl) rfl
theorem iw_233 : (Cond.methodLink R_Or 172 y_Proofs_add) ∈ TB := TB_in (tb2 (i := 229) rfl) rfl
theorem iw_234 : (Cond.instanceMethod y_Proofs_add) ∈ TB := TB_in (tb2 (i := 230) rfl) rfl
theorem iw_235 : (Cond.selects R_Proofs y_Proofs_add y_Proofs_add) ∈ TB := TB_in (tb2 (i := 231) rfl) rfl
theorem iw_236 : (Cond.code y_Proofs_isGood b_Proofs_isGood 6 (some .boolean)) ∈ TB := TB_in (tb3 (i := 4) rfl) rfl
theorem iw_237 : (Cond.methodLink R_Or 177 y_Proofs_isGood) ∈ TB := TB_in (tb3 (i := 1) rfl) rfl
theorem iw_238 : (Cond.instanceMethod y_Proofs_isGood) ∈ TB := TB_in (tb3 (i := 2) rfl) rfl
theorem iw_239 : (Cond.selects R_Proofs y_Proofs_isGood y_Proofs_isGood) ∈ TB := TB_in (tb3 (i := 3) rfl) rfl
theorem iw_240 : (Cond.code y_Md_in b_Md_in 6 (some .boolean)) ∈ TB := TB_in (tb3 (i := 115) rfl) rfl
theorem iw_241 : (Cond.methodLink R_Md 68 y_Md_in) ∈ TB := TB_in (tb3 (i := 113) rfl) rfl
theorem iw_242 : (Cond.static y_Md_in) ∈ TB := TB_in (tb3 (i := 114) rfl) rfl
theorem iw_243 : (Cond.initialized R_Md) ∈ TB := TB_in (tb1 (i := 7) rfl) rfl
theorem iw_244 : (Cond.code y_Md_isDigit b_Md_isDigit 1 (some .boolean)) ∈ TB := TB_in (tb3 (i := 122) rfl) rfl
theorem iw_245 : (Cond.methodLink R_Md 75 y_Md_isDigit) ∈ TB := TB_in (tb3 (i := 120) rfl) rfl
theorem iw_246 : (Cond.static y_Md_isDigit) ∈ TB := TB_in (tb3 (i := 121) rfl) rfl
theorem iw_247 : (Cond.code y_Md_behind b_Md_behind 2 (some .int)) ∈ TB := TB_in (tb3 (i := 128) rfl) rfl
theorem iw_248 : (Cond.methodLink R_Md 83 y_Md_behind) ∈ TB := TB_in (tb3 (i := 126) rfl) rfl
theorem iw_249 : (Cond.static y_Md_behind) ∈ TB := TB_in (tb3 (i := 127) rfl) rfl
theorem iw_250 : (Cond.code y_Md_ahead b_Md_ahead 2 (some .int)) ∈ TB := TB_in (tb3 (i := 125) rfl) rfl
theorem iw_251 : (Cond.methodLink R_Md 79 y_Md_ahead) ∈ TB := TB_in (tb3 (i := 123) rfl) rfl
theorem iw_252 : (Cond.static y_Md_ahead) ∈ TB := TB_in (tb3 (i := 124) rfl) rfl
theorem iw_253 : (Cond.code y_Md_begin b_Md_begin 7 (some .int)) ∈ TB := TB_in (tb3 (i := 185) rfl) rfl
theorem iw_254 : (Cond.methodLink R_Md 90 y_Md_begin) ∈ TB := TB_in (tb3 (i := 182) rfl) rfl
theorem iw_255 : (Cond.instanceMethod y_Md_begin) ∈ TB := TB_in (tb3 (i := 184) rfl) rfl
theorem iw_256 : (Cond.selects R_Md y_Md_begin y_Md_begin) ∈ TB := TB_in (by decide +kernel) rfl
theorem iw_257 : (Cond.code y_Md_refuse b_Md_refuse 2 (some .int)) ∈ TB := TB_in (tb3 (i := 139) rfl) rfl
theorem iw_258 : (Cond.methodLink R_Md 99 y_Md_refuse) ∈ TB := TB_in (tb3 (i := 136) rfl) rfl
theorem iw_259 : (Cond.instanceMethod y_Md_refuse) ∈ TB := TB_in (tb3 (i := 138) rfl) rfl
theorem iw_260 : (Cond.selects R_Md y_Md_refuse y_Md_refuse) ∈ TB := TB_in (by decide +kernel) rfl
theorem iw_261 : (Cond.code y_Md_isOwn b_Md_isOwn 6 (some .boolean)) ∈ TB := TB_in (tb3 (i := 173) rfl) rfl
theorem iw_262 : (Cond.methodLink R_Md 126 y_Md_isOwn) ∈ TB := TB_in (tb3 (i := 170) rfl) rfl
theorem iw_263 : (Cond.instanceMethod y_Md_isOwn) ∈ TB := TB_in (tb3 (i := 172) rfl) rfl
theorem iw_264 : (Cond.selects R_Md y_Md_isOwn y_Md_isOwn) ∈ TB := TB_in (by decide +kernel) rfl
theorem iw_265 : (Cond.code y_Md_isOther b_Md_isOther 10 (some .boolean)) ∈ TB := TB_in (tb3 (i := 198) rfl) rfl
theorem iw_266 : (Cond.methodLink R_Md 129 y_Md_isOther) ∈ TB := TB_in (tb3 (i := 195) rfl) rfl
theorem iw_267 : (Cond.instanceMethod y_Md_isOther) ∈ TB := TB_in (tb3 (i := 197) rfl) rfl
theorem iw_268 : (Cond.selects R_Md y_Md_isOther y_Md_isOther) ∈ TB := TB_in (by decide +kernel) rfl
theorem iw_269 : (Cond.code y_Md_foreign b_Md_foreign 4 (some .long)) ∈ TB := TB_in (tb3 (i := 203) rfl) rfl
theorem iw_270 : (Cond.methodLink R_Md 135 y_Md_foreign) ∈ TB := TB_in (tb3 (i := 200) rfl) rfl
theorem iw_271 : (Cond.instanceMethod y_Md_foreign) ∈ TB := TB_in (tb3 (i := 202) rfl) rfl
theorem iw_272 : (Cond.selects R_Md y_Md_foreign y_Md_foreign) ∈ TB := TB_in (by decide +kernel) rfl
theorem iw_273 : (Cond.code y_Md_numberAt b_Md_numberAt 4 (some .int)) ∈ TB := TB_in (tb3 (i := 207) rfl) rfl
theorem iw_274 : (Cond.methodLink R_Md 139 y_Md_numberAt) ∈ TB := TB_in (tb3 (i := 204) rfl) rfl
theorem iw_275 : (Cond.instanceMethod y_Md_numberAt) ∈ TB := TB_in (tb3 (i := 206) rfl) rfl
theorem iw_276 : (Cond.selects R_Md y_Md_numberAt y_Md_numberAt) ∈ TB := TB_in (by decide +kernel) rfl
theorem iw_277 : (Cond.code y_Md_holds b_Md_holds 5 (some .boolean)) ∈ TB := TB_in (tb3 (i := 194) rfl) rfl
theorem iw_278 : (Cond.methodLink R_Md 145 y_Md_holds) ∈ TB := TB_in (tb3 (i := 191) rfl) rfl
theorem iw_279 : (Cond.instanceMethod y_Md_holds) ∈ TB := TB_in (tb3 (i := 193) rfl) rfl
theorem iw_280 : (Cond.selects R_Md y_Md_holds y_Md_holds) ∈ TB := TB_in (by decide +kernel) rfl
theorem iw_281 : (Cond.code y_Md_rowOf b_Md_rowOf 6 (some .int)) ∈ TB := TB_in (tb3 (i := 181) rfl) rfl
theorem iw_282 : (Cond.methodLink R_Md 149 y_Md_rowOf) ∈ TB := TB_in (tb3 (i := 178) rfl) rfl
theorem iw_283 : (Cond.instanceMethod y_Md_rowOf) ∈ TB := TB_in (tb3 (i := 180) rfl) rfl
theorem iw_284 : (Cond.selects R_Md y_Md_rowOf y_Md_rowOf) ∈ TB := TB_in (by decide +kernel) rfl
theorem iw_285 : (Cond.code y_Md_ruled b_Md_ruled 10 (some .boolean)) ∈ TB := TB_in (tb3 (i := 190) rfl) rfl
theorem iw_286 : (Cond.methodLink R_Md 152 y_Md_ruled) ∈ TB := TB_in (tb3 (i := 187) rfl) rfl
theorem iw_287 : (Cond.instanceMethod y_Md_ruled) ∈ TB := TB_in (tb3 (i := 189) rfl) rfl
theorem iw_288 : (Cond.selects R_Md y_Md_ruled y_Md_ruled) ∈ TB := TB_in (by decide +kernel) rfl
theorem iw_289 : (Cond.code y_Md_isDay b_Md_isDay 1 (some .boolean)) ∈ TB := TB_in (tb3 (i := 222) rfl) rfl
theorem iw_290 : (Cond.methodLink R_Md 157 y_Md_isDay) ∈ TB := TB_in (tb3 (i := 220) rfl) rfl
theorem iw_291 : (Cond.static y_Md_isDay) ∈ TB := TB_in (tb3 (i := 221) rfl) rfl
theorem iw_292 : (Cond.code y_Text_init b_Text_init 1 none) ∈ TB := TB_in (tb1 (i := 28) rfl) rfl
theorem iw_293 : (Cond.instanceMethod y_Text_init) ∈ TB := TB_in (tb1 (i := 27) rfl) rfl
theorem iw_294 : (Cond.code y_Rows_init b_Rows_init 1 none) ∈ TB := TB_in (tb1 (i := 47) rfl) rfl
theorem iw_295 : (Cond.instanceMethod y_Rows_init) ∈ TB := TB_in (tb1 (i := 46) rfl) rfl
theorem iw_296 : (Cond.code y_Parts_init b_Parts_init 1 none) ∈ TB := TB_in (tb1 (i := 66) rfl) rfl
theorem iw_297 : (Cond.instanceMethod y_Parts_init) ∈ TB := TB_in (tb1 (i := 65) rfl) rfl
theorem iw_298 : (Cond.code y_Lands_init b_Lands_init 1 none) ∈ TB := TB_in (tb1 (i := 88) rfl) rfl
theorem iw_299 : (Cond.instanceMethod y_Lands_init) ∈ TB := TB_in (tb1 (i := 87) rfl) rfl
theorem iw_300 : (Cond.code y_Proofs_init b_Proofs_init 1 none) ∈ TB := TB_in (tb1 (i := 106) rfl) rfl
theorem iw_301 : (Cond.instanceMethod y_Proofs_init) ∈ TB := TB_in (tb1 (i := 105) rfl) rfl
theorem gw_0 : gSN R_Text 41 R_Or y_Or_isDigit b_Or_isDigit 1 (some .boolean) 1 := ⟨⟨iw_114, iw_115, iw_116, nl_9⟩, by decide +kernel⟩
theorem gw_1 : gV R_Text 31 R_Text y_Text_passesSign b_Text_passesSign 2 (some .boolean) 1 := gV_of iw_118 iw_119 iw_120 iw_93 iw_117 (by decide +kernel)
theorem gw_2 : gV R_Text 27 R_Text y_Text_passesDigits b_Text_passesDigits 5 (some .boolean) 2 := gV_of iw_122 iw_123 iw_124 iw_93 iw_121 (by decide +kernel)
theorem gw_3 : gV R_Text 38 R_Text y_Text_passesFactor b_Text_passesFactor 1 (some .boolean) 0 := gV_of iw_126 iw_127 iw_128 iw_93 iw_125 (by decide +kernel)
theorem gw_4 : gV R_Text 35 R_Text y_Text_passesRule b_Text_passesRule 3 (some .boolean) 0 := gV_of iw_130 iw_131 iw_132 iw_93 iw_129 (by decide +kernel)
theorem gw_5 : gV R_Text 22 R_Text y_Text_passesRow b_Text_passesRow 1 (some .boolean) 0 := gV_of iw_134 iw_135 iw_136 iw_93 iw_133 (by decide +kernel)
theorem gw_6 : gSN R_Rows 36 R_Or y_Or_isDigit b_Or_isDigit 1 (some .boolean) 1 := ⟨⟨iw_114, iw_115, iw_116, nl_10⟩, by decide +kernel⟩
theorem gw_7 : gSN R_Rows 28 R_Or y_Or_beginning b_Or_beginning 4 (some .int) 2 := ⟨⟨iw_137, iw_138, iw_116, nl_11⟩, by decide +kernel⟩
theorem gw_8 : gV R_Rows 32 R_Rows y_Rows_numberAt b_Rows_numberAt 4 (some .int) 1 := gV_of iw_140 iw_141 iw_142 iw_96 iw_139 (by decide +kernel)
theorem gw_9 : gSN R_Parts 26 R_Or y_Or_hasBit b_Or_hasBit 2 (some .boolean) 2 := ⟨⟨iw_143, iw_144, iw_116, nl_12⟩, by decide +kernel⟩
theorem gw_10 : gSN R_Parts 30 R_Or y_Or_beginning b_Or_beginning 4 (some .int) 2 := ⟨⟨iw_137, iw_138, iw_116, nl_13⟩, by decide +kernel⟩
theorem gw_11 : gSN R_Lands 23 R_Or y_Or_hasBit b_Or_hasBit 2 (some .boolean) 2 := ⟨⟨iw_143, iw_144, iw_116, nl_14⟩, by decide +kernel⟩
theorem gw_12 : gV R_Or 148 R_Lands y_Lands_ownLands b_Lands_ownLands 4 (some .int) 0 := gV_of iw_146 iw_147 iw_148 iw_102 iw_145 (by decide +kernel)
theorem gw_13 : gV R_Or 151 R_Parts y_Parts_foreignCents b_Parts_foreignCents 5 (some .long) 1 := gV_of iw_150 iw_151 iw_152 iw_99 iw_149 (by decide +kernel)
theorem gw_14 : gV R_Or 213 R_Parts y_Parts_foreignCentsAlike b_Parts_foreignCentsAlike 8 (some .long) 3 := gV_of iw_154 iw_155 iw_156 iw_99 iw_153 (by decide +kernel)
theorem gw_15 : gV R_Or 206 R_Rows y_Rows_numberAt b_Rows_numberAt 4 (some .int) 1 := gV_of iw_157 iw_141 iw_142 iw_96 iw_139 (by decide +kernel)
theorem gw_16 : gS R_Or 118 y_Or_hasBit b_Or_hasBit 2 (some .boolean) 2 := gS_of iw_158 iw_144 iw_116 iw_143 (by decide +kernel)
theorem gw_17 : gV R_Or 209 R_Or y_Or_isShareWithin b_Or_isShareWithin 6 (some .boolean) 2 := gV_of iw_160 iw_161 iw_162 iw_116 iw_159 (by decide +kernel)
theorem gw_18 : gV R_Or 203 R_Or y_Or_isChanged b_Or_isChanged 7 (some .boolean) 3 := gV_of iw_164 iw_165 iw_166 iw_116 iw_163 (by decide +kernel)
theorem gw_19 : gS R_Or 192 y_Or_isLetter b_Or_isLetter 1 (some .boolean) 1 := gS_of iw_168 iw_169 iw_116 iw_167 (by decide +kernel)
theorem gw_20 : gV R_Or 196 R_Or y_Or_factorHolds b_Or_factorHolds 7 (some .boolean) 3 := gV_of iw_171 iw_172 iw_173 iw_116 iw_170 (by decide +kernel)
theorem gw_21 : gV R_Or 199 R_Or y_Or_keepAnswer b_Or_keepAnswer 3 none 2 := gV_of iw_175 iw_176 iw_177 iw_116 iw_174 (by decide +kernel)
theorem gw_22 : gV R_Or 67 R_Text y_Text_add b_Text_add 2 none 1 := gV_of iw_179 iw_180 iw_181 iw_93 iw_178 (by decide +kernel)
theorem gw_23 : gV R_Or 71 R_Text y_Text_rowsOrWrongPlace b_Text_rowsOrWrongPlace 2 (some .int) 0 := gV_of iw_183 iw_184 iw_185 iw_93 iw_182 (by decide +kernel)
theorem gw_24 : gV R_Or 79 R_Rows y_Rows_replace b_Rows_replace 4 none 3 := gV_of iw_187 iw_188 iw_189 iw_96 iw_186 (by decide +kernel)
theorem gw_25 : gV R_Or 112 R_Parts y_Parts_forget b_Parts_forget 2 (some .int) 0 := gV_of iw_191 iw_192 iw_193 iw_99 iw_190 (by decide +kernel)
theorem gw_26 : gS R_Or 115 y_Or_isProcess b_Or_isProcess 1 (some .boolean) 1 := gS_of iw_195 iw_196 iw_116 iw_194 (by decide +kernel)
theorem gw_27 : gV R_Or 184 R_Parts y_Parts_foreignParts b_Parts_foreignParts 4 (some .int) 1 := gV_of iw_198 iw_199 iw_200 iw_99 iw_197 (by decide +kernel)
theorem gw_28 : gS R_Or 83 y_Or_isCode b_Or_isCode 1 (some .boolean) 1 := gS_of iw_202 iw_203 iw_116 iw_201 (by decide +kernel)
theorem gw_29 : gS R_Or 87 y_Or_isLand b_Or_isLand 1 (some .boolean) 1 := gS_of iw_205 iw_206 iw_116 iw_204 (by decide +kernel)
theorem gw_30 : gS R_Or 90 y_Or_isCents b_Or_isCents 2 (some .boolean) 1 := gS_of iw_208 iw_209 iw_116 iw_207 (by decide +kernel)
theorem gw_31 : gV R_Or 109 R_Parts y_Parts_add b_Parts_add 5 (some .int) 3 := gV_of iw_211 iw_212 iw_213 iw_99 iw_210 (by decide +kernel)
theorem gw_32 : gV R_Or 124 R_Lands y_Lands_addPair b_Lands_addPair 3 (some .boolean) 2 := gV_of iw_215 iw_216 iw_217 iw_102 iw_214 (by decide +kernel)
theorem gw_33 : gV R_Or 133 R_Rows y_Rows_startFor b_Rows_startFor 7 (some .int) 1 := gV_of iw_219 iw_220 iw_221 iw_96 iw_218 (by decide +kernel)
theorem gw_34 : gV R_Or 137 R_Or y_Or_ruleHolds b_Or_ruleHolds 10 (some .boolean) 3 := gV_of iw_223 iw_224 iw_225 iw_116 iw_222 (by decide +kernel)
theorem gw_35 : gS R_Or 155 y_Or_greatestDivisor b_Or_greatestDivisor 11 (some .long) 2 := gS_of iw_227 iw_228 iw_116 iw_226 (by decide +kernel)
theorem gw_36 : gS R_Or 164 y_Or_isDay b_Or_isDay 1 (some .boolean) 1 := gS_of iw_230 iw_231 iw_116 iw_229 (by decide +kernel)
theorem gw_37 : gV R_Or 172 R_Proofs y_Proofs_add b_Proofs_add 4 (some .int) 3 := gV_of iw_233 iw_234 iw_235 iw_105 iw_232 (by decide +kernel)
theorem gw_38 : gV R_Or 177 R_Proofs y_Proofs_isGood b_Proofs_isGood 6 (some .boolean) 3 := gV_of iw_237 iw_238 iw_239 iw_105 iw_236 (by decide +kernel)
theorem gw_39 : gS R_Md 68 y_Md_in b_Md_in 6 (some .boolean) 3 := gS_of iw_241 iw_242 iw_243 iw_240 (by decide +kernel)
theorem gw_40 : gS R_Md 75 y_Md_isDigit b_Md_isDigit 1 (some .boolean) 1 := gS_of iw_245 iw_246 iw_243 iw_244 (by decide +kernel)
theorem gw_41 : gS R_Md 83 y_Md_behind b_Md_behind 2 (some .int) 2 := gS_of iw_248 iw_249 iw_243 iw_247 (by decide +kernel)
theorem gw_42 : gS R_Md 79 y_Md_ahead b_Md_ahead 2 (some .int) 2 := gS_of iw_251 iw_252 iw_243 iw_250 (by decide +kernel)
theorem gw_43 : gV R_Md 90 R_Md y_Md_begin b_Md_begin 7 (some .int) 2 := gV_of iw_254 iw_255 iw_256 iw_243 iw_253 (by decide +kernel)
theorem gw_44 : gV R_Md 99 R_Md y_Md_refuse b_Md_refuse 2 (some .int) 1 := gV_of iw_258 iw_259 iw_260 iw_243 iw_257 (by decide +kernel)
theorem gw_45 : gV R_Md 126 R_Md y_Md_isOwn b_Md_isOwn 6 (some .boolean) 1 := gV_of iw_262 iw_263 iw_264 iw_243 iw_261 (by decide +kernel)
theorem gw_46 : gV R_Md 129 R_Md y_Md_isOther b_Md_isOther 10 (some .boolean) 3 := gV_of iw_266 iw_267 iw_268 iw_243 iw_265 (by decide +kernel)
theorem gw_47 : gV R_Md 135 R_Md y_Md_foreign b_Md_foreign 4 (some .long) 0 := gV_of iw_270 iw_271 iw_272 iw_243 iw_269 (by decide +kernel)
theorem gw_48 : gV R_Md 139 R_Md y_Md_numberAt b_Md_numberAt 4 (some .int) 1 := gV_of iw_274 iw_275 iw_276 iw_243 iw_273 (by decide +kernel)
theorem gw_49 : gV R_Md 145 R_Md y_Md_holds b_Md_holds 5 (some .boolean) 3 := gV_of iw_278 iw_279 iw_280 iw_243 iw_277 (by decide +kernel)
theorem gw_50 : gV R_Md 149 R_Md y_Md_rowOf b_Md_rowOf 6 (some .int) 1 := gV_of iw_282 iw_283 iw_284 iw_243 iw_281 (by decide +kernel)
theorem gw_51 : gV R_Md 152 R_Md y_Md_ruled b_Md_ruled 10 (some .boolean) 3 := gV_of iw_286 iw_287 iw_288 iw_243 iw_285 (by decide +kernel)
theorem gw_52 : gS R_Md 157 y_Md_isDay b_Md_isDay 1 (some .boolean) 1 := gS_of iw_290 iw_291 iw_243 iw_289 (by decide +kernel)
theorem gw_53 : gIN R_Or 9 R_Or y_Text_init b_Text_init 1 := ⟨⟨iw_292, iw_293, iw_93, nl_15⟩, rfl, by decide +kernel⟩
theorem gw_54 : gIN R_Or 18 R_Or y_Rows_init b_Rows_init 1 := ⟨⟨iw_294, iw_295, iw_96, nl_16⟩, rfl, by decide +kernel⟩
theorem gw_55 : gIN R_Or 25 R_Or y_Parts_init b_Parts_init 1 := ⟨⟨iw_296, iw_297, iw_99, nl_17⟩, rfl, by decide +kernel⟩
theorem gw_56 : gIN R_Or 32 R_Or y_Lands_init b_Lands_init 1 := ⟨⟨iw_298, iw_299, iw_102, nl_18⟩, rfl, by decide +kernel⟩
theorem gw_57 : gIN R_Or 39 R_Or y_Proofs_init b_Proofs_init 1 := ⟨⟨iw_300, iw_301, iw_105, nl_19⟩, rfl, by decide +kernel⟩
