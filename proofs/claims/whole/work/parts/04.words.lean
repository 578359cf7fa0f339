theorem i_Or : ∀ w ∈ u_ws R_Or F_Or 11, w ∈ TB := fun w h => TB_in ((by decide +kernel : ∀ w ∈ u_ws R_Or F_Or 11, w ∈ lw_tbl) w h) ((by decide +kernel : ∀ w ∈ u_ws R_Or F_Or 11, goodWord w = true) w h)
theorem i_Text : ∀ w ∈ u_ws R_Text F_Text 3, w ∈ TB := fun w h => TB_in ((by decide +kernel : ∀ w ∈ u_ws R_Text F_Text 3, w ∈ lw_tbl) w h) ((by decide +kernel : ∀ w ∈ u_ws R_Text F_Text 3, goodWord w = true) w h)
theorem i_Rows : ∀ w ∈ u_ws R_Rows F_Rows 3, w ∈ TB := fun w h => TB_in ((by decide +kernel : ∀ w ∈ u_ws R_Rows F_Rows 3, w ∈ lw_tbl) w h) ((by decide +kernel : ∀ w ∈ u_ws R_Rows F_Rows 3, goodWord w = true) w h)
theorem i_Parts : ∀ w ∈ u_ws R_Parts F_Parts 4, w ∈ TB := fun w h => TB_in ((by decide +kernel : ∀ w ∈ u_ws R_Parts F_Parts 4, w ∈ lw_tbl) w h) ((by decide +kernel : ∀ w ∈ u_ws R_Parts F_Parts 4, goodWord w = true) w h)
theorem i_Lands : ∀ w ∈ u_ws R_Lands F_Lands 3, w ∈ TB := fun w h => TB_in ((by decide +kernel : ∀ w ∈ u_ws R_Lands F_Lands 3, w ∈ lw_tbl) w h) ((by decide +kernel : ∀ w ∈ u_ws R_Lands F_Lands 3, goodWord w = true) w h)
theorem i_Proofs : ∀ w ∈ u_ws R_Proofs F_Proofs 4, w ∈ TB := fun w h => TB_in ((by decide +kernel : ∀ w ∈ u_ws R_Proofs F_Proofs 4, w ∈ lw_tbl) w h) ((by decide +kernel : ∀ w ∈ u_ws R_Proofs F_Proofs 4, goodWord w = true) w h)
theorem i_Md : ∀ w ∈ u_ws R_Md F_Md 27, w ∈ TB := fun w h => TB_in ((by decide +kernel : ∀ w ∈ u_ws R_Md F_Md 27, w ∈ lw_tbl) w h) ((by decide +kernel : ∀ w ∈ u_ws R_Md F_Md 27, goodWord w = true) w h)
theorem iw_8178fd4a : (Cond.constant R_Or 219 999999) ∈ TB := TB_in (tb2 (i := 23) rfl) rfl
theorem iw_1859ecce : (Cond.constantLong R_Or 220 1000000000) ∈ TB := TB_in (tb2 (i := 30) rfl) rfl
theorem iw_d6934595 : (Cond.constant R_Or 222 100000) ∈ TB := TB_in (tb2 (i := 226) rfl) rfl
theorem iw_c5707c1f : (Cond.fieldLink R_Text 9 R_Text "signs" "[C") ∈ TB := TB_in (tb1 (i := 30) rfl) rfl
theorem iw_f5700a61 : (Cond.fieldLink R_Text 15 R_Text "length" "I") ∈ TB := TB_in (tb1 (i := 32) rfl) rfl
theorem iw_acadda54 : (Cond.fieldLink R_Text 19 R_Text "place" "I") ∈ TB := TB_in (tb1 (i := 34) rfl) rfl
theorem iw_8a0f9f54 : (Cond.constant R_Text 26 999999) ∈ TB := TB_in (tb1 (i := 176) rfl) rfl
theorem iw_aa0f13bd : (Cond.fieldLink R_Rows 9 R_Rows "signs" "[C") ∈ TB := TB_in (tb1 (i := 49) rfl) rfl
theorem iw_54d89c8f : (Cond.methodLink R_Rows 22 arraycopyName) ∈ TB := TB_in (tb1 (i := 200) rfl) rfl
theorem iw_b8e2a615 : (Cond.native arraycopyName) ∈ TB := TB_in (tb1 (i := 202) rfl) rfl
theorem iw_0f5f9aba : (Cond.static arraycopyName) ∈ TB := TB_in (tb1 (i := 201) rfl) rfl
theorem iw_4e16621c : (Cond.initialized "java/lang/System") ∈ TB := TB_in (tb1 (i := 8) rfl) rfl
theorem iw_fbab842c : (Cond.fieldLink R_Rows 15 R_Rows "length" "I") ∈ TB := TB_in (tb1 (i := 51) rfl) rfl
theorem iw_6e8f895f : (Cond.fieldLink R_Rows 19 R_Rows "size" "I") ∈ TB := TB_in (tb1 (i := 53) rfl) rfl
theorem iw_f06cb5b8 : (Cond.fieldLink R_Parts 9 R_Parts "codes" "[I") ∈ TB := TB_in (tb1 (i := 68) rfl) rfl
theorem iw_3f426869 : (Cond.fieldLink R_Parts 22 R_Parts "size" "I") ∈ TB := TB_in (tb1 (i := 71) rfl) rfl
theorem iw_e4ab4480 : (Cond.fieldLink R_Parts 15 R_Parts "landOf" "[I") ∈ TB := TB_in (tb1 (i := 69) rfl) rfl
theorem iw_35ba64e4 : (Cond.fieldLink R_Parts 18 R_Parts "centsOf" "[J") ∈ TB := TB_in (tb1 (i := 70) rfl) rfl
theorem iw_afbce97e : (Cond.fieldLink R_Lands 9 R_Lands "joined" "[I") ∈ TB := TB_in (tb1 (i := 90) rfl) rfl
theorem iw_6dc4242d : (Cond.fieldLink R_Lands 15 R_Lands "pairs" "I") ∈ TB := TB_in (tb1 (i := 91) rfl) rfl
theorem iw_983c19f6 : (Cond.fieldLink R_Lands 19 R_Lands "isFull" "Z") ∈ TB := TB_in (tb1 (i := 93) rfl) rfl
theorem iw_4bf07af3 : (Cond.fieldLink R_Proofs 9 R_Proofs "kinds" "[I") ∈ TB := TB_in (tb1 (i := 108) rfl) rfl
theorem iw_dffe7d9b : (Cond.fieldLink R_Proofs 21 R_Proofs "size" "I") ∈ TB := TB_in (tb1 (i := 111) rfl) rfl
theorem iw_9b8324db : (Cond.fieldLink R_Proofs 15 R_Proofs "firstDays" "[I") ∈ TB := TB_in (tb1 (i := 109) rfl) rfl
theorem iw_bd04cf5e : (Cond.fieldLink R_Proofs 18 R_Proofs "lastDays" "[I") ∈ TB := TB_in (tb1 (i := 110) rfl) rfl
theorem iw_de725722 : (Cond.constantLong R_Proofs 25 1000000) ∈ TB := TB_in (tb3 (i := 5) rfl) rfl
theorem iw_4820ce3a : (Cond.fieldLink R_Or 26 R_Or "parts" "LOriginRules$Parts;") ∈ TB := TB_in (tb1 (i := 124) rfl) rfl
theorem iw_d5228362 : (Cond.fieldLink R_Or 33 R_Or "lands" "LOriginRules$Lands;") ∈ TB := TB_in (tb1 (i := 125) rfl) rfl
theorem iw_ac817fff : (Cond.constantLong R_Or 217 100) ∈ TB := TB_in (tb2 (i := 180) rfl) rfl
theorem iw_572302aa : (Cond.fieldLink R_Or 54 R_Or "toleranceDown" "I") ∈ TB := TB_in (tb1 (i := 130) rfl) rfl
theorem iw_ca124b6b : (Cond.fieldLink R_Or 51 R_Or "toleranceUp" "I") ∈ TB := TB_in (tb1 (i := 129) rfl) rfl
theorem iw_1ffb187c : (Cond.fieldLink R_Or 19 R_Or "rows" "LOriginRules$Rows;") ∈ TB := TB_in (tb1 (i := 123) rfl) rfl
theorem iw_9350811e : (Cond.fieldLink R_Or 44 R_Or "processesDone" "I") ∈ TB := TB_in (tb1 (i := 127) rfl) rfl
theorem iw_93c980ea : (Cond.fieldLink R_Or 61 R_Or "asked" "I") ∈ TB := TB_in (tb1 (i := 132) rfl) rfl
theorem iw_9424b9ac : (Cond.fieldLink R_Or 57 R_Or "answers" "[I") ∈ TB := TB_in (tb1 (i := 131) rfl) rfl
theorem iw_fe8faaa1 : (Cond.fieldLink R_Or 10 R_Or "text" "LOriginRules$Text;") ∈ TB := TB_in (tb1 (i := 122) rfl) rfl
theorem iw_e07d8303 : (Cond.fieldLink R_Or 48 R_Or "processesBarred" "I") ∈ TB := TB_in (tb1 (i := 128) rfl) rfl
theorem iw_653e2ba4 : (Cond.fieldLink R_Or 40 R_Or "proofs" "LOriginRules$Proofs;") ∈ TB := TB_in (tb1 (i := 126) rfl) rfl
theorem iw_46cd70fe : (Cond.methodLink R_Or 159 Lib.MathLoose.max_long.x) ∈ TB := TB_in (tb2 (i := 213) rfl) rfl
theorem iw_79af137a : (Cond.static Lib.MathLoose.max_long.x) ∈ TB := TB_in (tb2 (i := 214) rfl) rfl
theorem iw_c6cef573 : (Cond.initialized "java/lang/Math") ∈ TB := TB_in (tb1 (i := 15) rfl) rfl
theorem iw_cf8444e6 : (Cond.code Lib.MathLoose.max_long.x Lib.MathLoose.max_long.code 4 (some .long)) ∈ TB := TB_in (tb2 (i := 215) rfl) rfl
theorem iw_59b7950d : (Cond.constantLong R_Md 155 100000) ∈ TB := TB_in (tb3 (i := 223) rfl) rfl
theorem iw_02e0a66b : (Cond.fieldLink R_Md 61 R_Md "thrown" "I") ∈ TB := TB_in (tb3 (i := 20) rfl) rfl
theorem iw_55630b01 : (Cond.constantLong R_Md 64 33) ∈ TB := TB_in (tb3 (i := 111) rfl) rfl
theorem iw_3984c4f9 : (Cond.constantLong R_Md 66 126) ∈ TB := TB_in (tb3 (i := 112) rfl) rfl
theorem iw_e9a7d4dc : (Cond.fieldLink R_Md 72 R_Md "signs" "I") ∈ TB := TB_in (tb3 (i := 22) rfl) rfl
theorem iw_ab7e1e7c : (Cond.fieldLink R_Md 7 R_Md "text" "[I") ∈ TB := TB_in (tb3 (i := 21) rfl) rfl
theorem iw_e67b3895 : (Cond.fieldLink R_Md 19 R_Md "tried" "[I") ∈ TB := TB_in (tb3 (i := 26) rfl) rfl
theorem iw_fa3d8e22 : (Cond.fieldLink R_Md 86 R_Md "rows" "I") ∈ TB := TB_in (tb3 (i := 25) rfl) rfl
theorem iw_5c31a89b : (Cond.fieldLink R_Md 13 R_Md "read" "[I") ∈ TB := TB_in (tb3 (i := 23) rfl) rfl
theorem iw_e84298a0 : (Cond.fieldLink R_Md 16 R_Md "begins" "[I") ∈ TB := TB_in (tb3 (i := 24) rfl) rfl
theorem iw_5d4fc341 : (Cond.constant R_Md 89 100000) ∈ TB := TB_in (tb3 (i := 186) rfl) rfl
theorem iw_e904c95f : (Cond.constantLong R_Md 93 999999) ∈ TB := TB_in (tb3 (i := 133) rfl) rfl
theorem iw_e09a32be : (Cond.constantLong R_Md 95 9) ∈ TB := TB_in (tb3 (i := 134) rfl) rfl
theorem iw_e790f6c3 : (Cond.constantLong R_Md 97 1000000000) ∈ TB := TB_in (tb3 (i := 135) rfl) rfl
theorem iw_b1d571b6 : (Cond.fieldLink R_Md 103 R_Md "parts" "I") ∈ TB := TB_in (tb3 (i := 27) rfl) rfl
theorem iw_354374c0 : (Cond.fieldLink R_Md 22 R_Md "partCode" "[I") ∈ TB := TB_in (tb3 (i := 28) rfl) rfl
theorem iw_533296a2 : (Cond.fieldLink R_Md 25 R_Md "partLand" "[I") ∈ TB := TB_in (tb3 (i := 29) rfl) rfl
theorem iw_6df2108a : (Cond.fieldLink R_Md 28 R_Md "partCents" "[J") ∈ TB := TB_in (tb3 (i := 30) rfl) rfl
theorem iw_e22844af : (Cond.fieldLink R_Md 106 R_Md "done" "I") ∈ TB := TB_in (tb3 (i := 31) rfl) rfl
theorem iw_5813e56f : (Cond.constantLong R_Md 109 15) ∈ TB := TB_in (tb3 (i := 148) rfl) rfl
theorem iw_def30ded : (Cond.fieldLink R_Md 111 R_Md "barred" "I") ∈ TB := TB_in (tb3 (i := 32) rfl) rfl
theorem iw_dd8f0bdf : (Cond.fieldLink R_Md 32 R_Md "joined" "[Z") ∈ TB := TB_in (tb3 (i := 33) rfl) rfl
theorem iw_6cf49e60 : (Cond.fieldLink R_Md 114 R_Md "pairs" "I") ∈ TB := TB_in (tb3 (i := 34) rfl) rfl
theorem iw_603e64eb : (Cond.fieldLink R_Md 117 R_Md "full" "Z") ∈ TB := TB_in (tb3 (i := 35) rfl) rfl
theorem iw_58ed93c2 : (Cond.constantLong R_Md 121 1000) ∈ TB := TB_in (tb3 (i := 165) rfl) rfl
theorem iw_6b83eb21 : (Cond.fieldLink R_Md 123 R_Md "up" "I") ∈ TB := TB_in (tb3 (i := 36) rfl) rfl
theorem iw_cb5b158b : (Cond.fieldLink R_Md 36 R_Md "down" "I") ∈ TB := TB_in (tb3 (i := 37) rfl) rfl
theorem iw_8f291875 : (Cond.constantLong R_Md 133 100) ∈ TB := TB_in (tb3 (i := 199) rfl) rfl
theorem iw_18af1f89 : (Cond.fieldLink R_Md 52 R_Md "live" "[Z") ∈ TB := TB_in (tb3 (i := 44) rfl) rfl
theorem iw_de31fd56 : (Cond.fieldLink R_Md 55 R_Md "any" "[Z") ∈ TB := TB_in (tb3 (i := 45) rfl) rfl
theorem iw_dc4556d9 : (Cond.fieldLink R_Md 58 R_Md "all" "[Z") ∈ TB := TB_in (tb3 (i := 46) rfl) rfl
theorem iw_7f615671 : (Cond.fieldLink R_Md 142 R_Md "asked" "I") ∈ TB := TB_in (tb3 (i := 42) rfl) rfl
theorem iw_20cf8089 : (Cond.fieldLink R_Md 49 R_Md "told" "[I") ∈ TB := TB_in (tb3 (i := 43) rfl) rfl
theorem iw_dcc6e048 : (Cond.fieldLink R_Md 160 R_Md "proofs" "I") ∈ TB := TB_in (tb3 (i := 38) rfl) rfl
theorem iw_ef4c06bf : (Cond.fieldLink R_Md 40 R_Md "proofKind" "[I") ∈ TB := TB_in (tb3 (i := 39) rfl) rfl
theorem iw_52fde5d1 : (Cond.fieldLink R_Md 43 R_Md "proofFrom" "[I") ∈ TB := TB_in (tb3 (i := 40) rfl) rfl
theorem iw_99e5738c : (Cond.fieldLink R_Md 46 R_Md "proofTo" "[I") ∈ TB := TB_in (tb3 (i := 41) rfl) rfl
theorem iw_ed3e05c4 : (Cond.constantLong R_Md 163 1000000) ∈ TB := TB_in (tb3 (i := 228) rfl) rfl
theorem iw_c7afea35 : (Cond.classLink R_Or 94 "java/lang/IllegalArgumentException") ∈ TB := TB_in (tb2 (i := 31) rfl) rfl
theorem iw_d0f19f4e : (Cond.initialized "java/lang/IllegalArgumentException") ∈ TB := TB_in (tb1 (i := 12) rfl) rfl
theorem iw_cfd4a4e2 : (Cond.classLink R_Or 104 "java/lang/IllegalStateException") ∈ TB := TB_in (tb2 (i := 99) rfl) rfl
theorem iw_89165b4d : (Cond.initialized "java/lang/IllegalStateException") ∈ TB := TB_in (tb1 (i := 13) rfl) rfl
theorem iw_52e38491 : (Cond.classLink R_Or 143 "java/lang/ArithmeticException") ∈ TB := TB_in (tb2 (i := 194) rfl) rfl
theorem iw_078e133a : (Cond.initialized "java/lang/ArithmeticException") ∈ TB := TB_in (tb1 (i := 14) rfl) rfl
theorem iw_f86c24f2 : (Cond.methodLink R_Text 3 objectInit) ∈ TB := TB_in (tb1 (i := 29) rfl) rfl
theorem iw_449f795d : (Cond.instanceMethod objectInit) ∈ TB := TB_in (tb1 (i := 22) rfl) rfl
theorem iw_679af842 : (Cond.code objectInit ⟨#[0xb1]⟩ 1 none) ∈ TB := TB_in (tb1 (i := 23) rfl) rfl
theorem iw_05249af3 : (Cond.arrayClass .char) ∈ TB := TB_in (tb1 (i := 42) rfl) rfl
theorem iw_af8abbf2 : (Cond.methodLink R_Rows 3 objectInit) ∈ TB := TB_in (tb1 (i := 48) rfl) rfl
theorem iw_3fe1c3d9 : (Cond.methodLink R_Parts 3 objectInit) ∈ TB := TB_in (tb1 (i := 67) rfl) rfl
theorem iw_c201d5c8 : (Cond.arrayClass .int) ∈ TB := TB_in (tb1 (i := 82) rfl) rfl
theorem iw_2603678b : (Cond.arrayClass .long) ∈ TB := TB_in (tb1 (i := 83) rfl) rfl
theorem iw_caac1f5e : (Cond.methodLink R_Lands 3 objectInit) ∈ TB := TB_in (tb1 (i := 89) rfl) rfl
theorem iw_78fc55ae : (Cond.methodLink R_Proofs 3 objectInit) ∈ TB := TB_in (tb1 (i := 107) rfl) rfl
theorem iw_4c3b4a54 : (Cond.methodLink R_Or 1 objectInit) ∈ TB := TB_in (tb1 (i := 21) rfl) rfl
theorem iw_f35e6a70 : (Cond.classLink R_Or 7 R_Text) ∈ TB := TB_in (tb1 (i := 24) rfl) rfl
theorem iw_311979f7 : (Cond.instantiable R_Text 3) ∈ TB := TB_in (tb1 (i := 25) rfl) rfl
theorem iw_3efa0cc1 : (Cond.initialized R_Text) ∈ TB := TB_in (tb1 (i := 2) rfl) rfl
theorem iw_1e9a48e8 : (Cond.classLink R_Or 16 R_Rows) ∈ TB := TB_in (tb1 (i := 43) rfl) rfl
theorem iw_11f2aa56 : (Cond.instantiable R_Rows 3) ∈ TB := TB_in (tb1 (i := 44) rfl) rfl
theorem iw_0b520e0b : (Cond.initialized R_Rows) ∈ TB := TB_in (tb1 (i := 3) rfl) rfl
theorem iw_7e03937c : (Cond.classLink R_Or 23 R_Parts) ∈ TB := TB_in (tb1 (i := 62) rfl) rfl
theorem iw_3e03a4ad : (Cond.instantiable R_Parts 4) ∈ TB := TB_in (tb1 (i := 63) rfl) rfl
theorem iw_5b0ddd57 : (Cond.initialized R_Parts) ∈ TB := TB_in (tb1 (i := 4) rfl) rfl
theorem iw_fb5026ba : (Cond.classLink R_Or 30 R_Lands) ∈ TB := TB_in (tb1 (i := 84) rfl) rfl
theorem iw_7919b50d : (Cond.instantiable R_Lands 3) ∈ TB := TB_in (tb1 (i := 85) rfl) rfl
theorem iw_8e119763 : (Cond.initialized R_Lands) ∈ TB := TB_in (tb1 (i := 5) rfl) rfl
theorem iw_bb0e2223 : (Cond.classLink R_Or 37 R_Proofs) ∈ TB := TB_in (tb1 (i := 102) rfl) rfl
theorem iw_67055524 : (Cond.instantiable R_Proofs 4) ∈ TB := TB_in (tb1 (i := 103) rfl) rfl
theorem iw_41f87340 : (Cond.initialized R_Proofs) ∈ TB := TB_in (tb1 (i := 6) rfl) rfl
theorem iw_72ccd703 : (Cond.methodLink R_Md 1 objectInit) ∈ TB := TB_in (tb3 (i := 19) rfl) rfl
theorem iw_6307cb4f : (Cond.arrayClass .boolean) ∈ TB := TB_in (tb3 (i := 102) rfl) rfl
theorem iw_6ff28cd6 : (Cond.code y_Or_isDigit b_Or_isDigit 1 (some .boolean)) ∈ TB := TB_in (tb1 (i := 183) rfl) rfl
theorem iw_dadeed96 : (Cond.static y_Or_isDigit) ∈ TB := TB_in (tb1 (i := 182) rfl) rfl
theorem iw_16f0de2c : (Cond.initialized R_Or) ∈ TB := TB_in (tb1 (i := 1) rfl) rfl
theorem iw_06af8c0e : (Cond.code y_Text_passesSign b_Text_passesSign 2 (some .boolean)) ∈ TB := TB_in (tb1 (i := 187) rfl) rfl
theorem iw_46ec1b18 : (Cond.methodLink R_Text 31 y_Text_passesSign) ∈ TB := TB_in (tb1 (i := 184) rfl) rfl
theorem iw_7b67b03d : (Cond.instanceMethod y_Text_passesSign) ∈ TB := TB_in (tb1 (i := 186) rfl) rfl
theorem iw_9278137a : (Cond.selects R_Text y_Text_passesSign y_Text_passesSign) ∈ TB := TB_in (by decide +kernel) rfl
theorem iw_271ca95c : (Cond.code y_Text_passesDigits b_Text_passesDigits 5 (some .boolean)) ∈ TB := TB_in (tb1 (i := 180) rfl) rfl
theorem iw_dae874ba : (Cond.methodLink R_Text 27 y_Text_passesDigits) ∈ TB := TB_in (tb1 (i := 177) rfl) rfl
theorem iw_f0d94cf7 : (Cond.instanceMethod y_Text_passesDigits) ∈ TB := TB_in (tb1 (i := 179) rfl) rfl
theorem iw_467e1d7a : (Cond.selects R_Text y_Text_passesDigits y_Text_passesDigits) ∈ TB := TB_in (by decide +kernel) rfl
theorem iw_48eac344 : (Cond.code y_Text_passesFactor b_Text_passesFactor 1 (some .boolean)) ∈ TB := TB_in (tb1 (i := 195) rfl) rfl
theorem iw_66237d65 : (Cond.methodLink R_Text 38 y_Text_passesFactor) ∈ TB := TB_in (tb1 (i := 192) rfl) rfl
theorem iw_fd09eb7b : (Cond.instanceMethod y_Text_passesFactor) ∈ TB := TB_in (tb1 (i := 194) rfl) rfl
theorem iw_64efdebb : (Cond.selects R_Text y_Text_passesFactor y_Text_passesFactor) ∈ TB := TB_in (by decide +kernel) rfl
theorem iw_379ede49 : (Cond.code y_Text_passesRule b_Text_passesRule 3 (some .boolean)) ∈ TB := TB_in (tb1 (i := 191) rfl) rfl
theorem iw_b6cd1723 : (Cond.methodLink R_Text 35 y_Text_passesRule) ∈ TB := TB_in (tb1 (i := 188) rfl) rfl
theorem iw_0a8c0d12 : (Cond.instanceMethod y_Text_passesRule) ∈ TB := TB_in (tb1 (i := 190) rfl) rfl
theorem iw_2df17aae : (Cond.selects R_Text y_Text_passesRule y_Text_passesRule) ∈ TB := TB_in (by decide +kernel) rfl
theorem iw_80b34d54 : (Cond.code y_Text_passesRow b_Text_passesRow 1 (some .boolean)) ∈ TB := TB_in (tb1 (i := 175) rfl) rfl
theorem iw_42ced33b : (Cond.methodLink R_Text 22 y_Text_passesRow) ∈ TB := TB_in (tb1 (i := 172) rfl) rfl
theorem iw_bbf70163 : (Cond.instanceMethod y_Text_passesRow) ∈ TB := TB_in (tb1 (i := 174) rfl) rfl
theorem iw_59589309 : (Cond.selects R_Text y_Text_passesRow y_Text_passesRow) ∈ TB := TB_in (by decide +kernel) rfl
theorem iw_e3ccb8ea : (Cond.code y_Or_beginning b_Or_beginning 4 (some .int)) ∈ TB := TB_in (tb2 (i := 145) rfl) rfl
theorem iw_87ef414d : (Cond.static y_Or_beginning) ∈ TB := TB_in (tb2 (i := 144) rfl) rfl
theorem iw_fe28dd77 : (Cond.code y_Rows_numberAt b_Rows_numberAt 4 (some .int)) ∈ TB := TB_in (tb2 (i := 149) rfl) rfl
theorem iw_18b5adf7 : (Cond.methodLink R_Rows 32 y_Rows_numberAt) ∈ TB := TB_in (tb2 (i := 146) rfl) rfl
theorem iw_02303473 : (Cond.instanceMethod y_Rows_numberAt) ∈ TB := TB_in (tb2 (i := 147) rfl) rfl
theorem iw_b665462e : (Cond.selects R_Rows y_Rows_numberAt y_Rows_numberAt) ∈ TB := TB_in (tb2 (i := 148) rfl) rfl
theorem iw_9dc4ea34 : (Cond.code y_Or_hasBit b_Or_hasBit 2 (some .boolean)) ∈ TB := TB_in (tb1 (i := 220) rfl) rfl
theorem iw_3bfc59c1 : (Cond.static y_Or_hasBit) ∈ TB := TB_in (tb1 (i := 219) rfl) rfl
theorem iw_1c936865 : (Cond.code y_Lands_ownLands b_Lands_ownLands 4 (some .int)) ∈ TB := TB_in (tb2 (i := 4) rfl) rfl
theorem iw_0dacf51b : (Cond.methodLink R_Or 148 y_Lands_ownLands) ∈ TB := TB_in (tb2 (i := 1) rfl) rfl
theorem iw_b115e8c1 : (Cond.instanceMethod y_Lands_ownLands) ∈ TB := TB_in (tb2 (i := 2) rfl) rfl
theorem iw_4e9b25d1 : (Cond.selects R_Lands y_Lands_ownLands y_Lands_ownLands) ∈ TB := TB_in (tb2 (i := 3) rfl) rfl
theorem iw_9bceba6b : (Cond.code y_Parts_foreignCents b_Parts_foreignCents 5 (some .long)) ∈ TB := TB_in (tb2 (i := 179) rfl) rfl
theorem iw_4635b8fb : (Cond.methodLink R_Or 151 y_Parts_foreignCents) ∈ TB := TB_in (tb2 (i := 176) rfl) rfl
theorem iw_7b98d9cc : (Cond.instanceMethod y_Parts_foreignCents) ∈ TB := TB_in (tb2 (i := 177) rfl) rfl
theorem iw_a59018ad : (Cond.selects R_Parts y_Parts_foreignCents y_Parts_foreignCents) ∈ TB := TB_in (tb2 (i := 178) rfl) rfl
theorem iw_8ee9c6c4 : (Cond.code y_Parts_foreignCentsAlike b_Parts_foreignCentsAlike 8 (some .long)) ∈ TB := TB_in (tb2 (i := 169) rfl) rfl
theorem iw_a8a9c8f9 : (Cond.methodLink R_Or 213 y_Parts_foreignCentsAlike) ∈ TB := TB_in (tb2 (i := 166) rfl) rfl
theorem iw_dba5a9a4 : (Cond.instanceMethod y_Parts_foreignCentsAlike) ∈ TB := TB_in (tb2 (i := 167) rfl) rfl
theorem iw_7af66a42 : (Cond.selects R_Parts y_Parts_foreignCentsAlike y_Parts_foreignCentsAlike) ∈ TB := TB_in (tb2 (i := 168) rfl) rfl
theorem iw_4e81077b : (Cond.methodLink R_Or 206 y_Rows_numberAt) ∈ TB := TB_in (tb2 (i := 171) rfl) rfl
theorem iw_61bb3d38 : (Cond.methodLink R_Or 118 y_Or_hasBit) ∈ TB := TB_in (tb1 (i := 218) rfl) rfl
theorem iw_0e654c0b : (Cond.code y_Or_isShareWithin b_Or_isShareWithin 6 (some .boolean)) ∈ TB := TB_in (tb2 (i := 175) rfl) rfl
theorem iw_2d718697 : (Cond.methodLink R_Or 209 y_Or_isShareWithin) ∈ TB := TB_in (tb2 (i := 172) rfl) rfl
theorem iw_4d4a9013 : (Cond.instanceMethod y_Or_isShareWithin) ∈ TB := TB_in (tb2 (i := 174) rfl) rfl
theorem iw_5af62345 : (Cond.selects R_Or y_Or_isShareWithin y_Or_isShareWithin) ∈ TB := TB_in (by decide +kernel) rfl
theorem iw_466bbff7 : (Cond.code y_Or_isChanged b_Or_isChanged 7 (some .boolean)) ∈ TB := TB_in (tb2 (i := 165) rfl) rfl
theorem iw_e0d05541 : (Cond.methodLink R_Or 203 y_Or_isChanged) ∈ TB := TB_in (tb2 (i := 162) rfl) rfl
theorem iw_fe47242d : (Cond.instanceMethod y_Or_isChanged) ∈ TB := TB_in (tb2 (i := 164) rfl) rfl
theorem iw_def2d9a1 : (Cond.selects R_Or y_Or_isChanged y_Or_isChanged) ∈ TB := TB_in (by decide +kernel) rfl
theorem iw_53e9c391 : (Cond.code y_Or_isLetter b_Or_isLetter 1 (some .boolean)) ∈ TB := TB_in (tb2 (i := 157) rfl) rfl
theorem iw_12398780 : (Cond.methodLink R_Or 192 y_Or_isLetter) ∈ TB := TB_in (tb2 (i := 155) rfl) rfl
theorem iw_7fc00145 : (Cond.static y_Or_isLetter) ∈ TB := TB_in (tb2 (i := 156) rfl) rfl
theorem iw_65f9f3d2 : (Cond.code y_Or_factorHolds b_Or_factorHolds 7 (some .boolean)) ∈ TB := TB_in (tb2 (i := 161) rfl) rfl
theorem iw_666ace7c : (Cond.methodLink R_Or 196 y_Or_factorHolds) ∈ TB := TB_in (tb2 (i := 158) rfl) rfl
theorem iw_95f2191c : (Cond.instanceMethod y_Or_factorHolds) ∈ TB := TB_in (tb2 (i := 160) rfl) rfl
theorem iw_541341bb : (Cond.selects R_Or y_Or_factorHolds y_Or_factorHolds) ∈ TB := TB_in (by decide +kernel) rfl
theorem iw_0de300d2 : (Cond.code y_Or_keepAnswer b_Or_keepAnswer 3 none) ∈ TB := TB_in (tb2 (i := 184) rfl) rfl
theorem iw_272d44c0 : (Cond.methodLink R_Or 199 y_Or_keepAnswer) ∈ TB := TB_in (tb2 (i := 181) rfl) rfl
theorem iw_7c4895da : (Cond.instanceMethod y_Or_keepAnswer) ∈ TB := TB_in (tb2 (i := 183) rfl) rfl
theorem iw_4e6aee69 : (Cond.selects R_Or y_Or_keepAnswer y_Or_keepAnswer) ∈ TB := TB_in (by decide +kernel) rfl
theorem iw_a61c5150 : (Cond.code y_Text_add b_Text_add 2 none) ∈ TB := TB_in (tb1 (i := 163) rfl) rfl
theorem iw_3f35e465 : (Cond.methodLink R_Or 67 y_Text_add) ∈ TB := TB_in (tb1 (i := 160) rfl) rfl
theorem iw_05dcd35e : (Cond.instanceMethod y_Text_add) ∈ TB := TB_in (tb1 (i := 161) rfl) rfl
theorem iw_82e96641 : (Cond.selects R_Text y_Text_add y_Text_add) ∈ TB := TB_in (tb1 (i := 162) rfl) rfl
theorem iw_e63cc557 : (Cond.code y_Text_rowsOrWrongPlace b_Text_rowsOrWrongPlace 2 (some .int)) ∈ TB := TB_in (tb1 (i := 171) rfl) rfl
theorem iw_85286c8d : (Cond.methodLink R_Or 71 y_Text_rowsOrWrongPlace) ∈ TB := TB_in (tb1 (i := 168) rfl) rfl
theorem iw_b7de9966 : (Cond.instanceMethod y_Text_rowsOrWrongPlace) ∈ TB := TB_in (tb1 (i := 169) rfl) rfl
theorem iw_0a81c79a : (Cond.selects R_Text y_Text_rowsOrWrongPlace y_Text_rowsOrWrongPlace) ∈ TB := TB_in (tb1 (i := 170) rfl) rfl
theorem iw_f3a6e5d5 : (Cond.code y_Rows_replace b_Rows_replace 4 none) ∈ TB := TB_in (tb1 (i := 199) rfl) rfl
theorem iw_1d7dcd18 : (Cond.methodLink R_Or 79 y_Rows_replace) ∈ TB := TB_in (tb1 (i := 196) rfl) rfl
theorem iw_f58e766b : (Cond.instanceMethod y_Rows_replace) ∈ TB := TB_in (tb1 (i := 197) rfl) rfl
theorem iw_5a55bfc9 : (Cond.selects R_Rows y_Rows_replace y_Rows_replace) ∈ TB := TB_in (tb1 (i := 198) rfl) rfl
theorem iw_eef640db : (Cond.code y_Parts_forget b_Parts_forget 2 (some .int)) ∈ TB := TB_in (tb1 (i := 210) rfl) rfl
theorem iw_f643c97e : (Cond.methodLink R_Or 112 y_Parts_forget) ∈ TB := TB_in (tb1 (i := 207) rfl) rfl
theorem iw_52039dfd : (Cond.instanceMethod y_Parts_forget) ∈ TB := TB_in (tb1 (i := 208) rfl) rfl
theorem iw_398446bf : (Cond.selects R_Parts y_Parts_forget y_Parts_forget) ∈ TB := TB_in (tb1 (i := 209) rfl) rfl
theorem iw_b85bed7a : (Cond.code y_Or_isProcess b_Or_isProcess 1 (some .boolean)) ∈ TB := TB_in (tb1 (i := 217) rfl) rfl
theorem iw_a10a7ab4 : (Cond.methodLink R_Or 115 y_Or_isProcess) ∈ TB := TB_in (tb1 (i := 215) rfl) rfl
theorem iw_165fccb4 : (Cond.static y_Or_isProcess) ∈ TB := TB_in (tb1 (i := 216) rfl) rfl
theorem iw_fb51929c : (Cond.code y_Parts_foreignParts b_Parts_foreignParts 4 (some .int)) ∈ TB := TB_in (tb2 (i := 9) rfl) rfl
theorem iw_26af6749 : (Cond.methodLink R_Or 184 y_Parts_foreignParts) ∈ TB := TB_in (tb2 (i := 6) rfl) rfl
theorem iw_024e93d4 : (Cond.instanceMethod y_Parts_foreignParts) ∈ TB := TB_in (tb2 (i := 7) rfl) rfl
theorem iw_d921c00f : (Cond.selects R_Parts y_Parts_foreignParts y_Parts_foreignParts) ∈ TB := TB_in (tb2 (i := 8) rfl) rfl
theorem iw_f67b4bd1 : (Cond.code y_Or_isCode b_Or_isCode 1 (some .boolean)) ∈ TB := TB_in (tb2 (i := 22) rfl) rfl
theorem iw_da37cbe4 : (Cond.methodLink R_Or 83 y_Or_isCode) ∈ TB := TB_in (tb2 (i := 20) rfl) rfl
theorem iw_3a419bb6 : (Cond.static y_Or_isCode) ∈ TB := TB_in (tb2 (i := 21) rfl) rfl
theorem iw_6e0bf4a8 : (Cond.code y_Or_isLand b_Or_isLand 1 (some .boolean)) ∈ TB := TB_in (tb2 (i := 26) rfl) rfl
theorem iw_7b924591 : (Cond.methodLink R_Or 87 y_Or_isLand) ∈ TB := TB_in (tb2 (i := 24) rfl) rfl
theorem iw_8824e4a2 : (Cond.static y_Or_isLand) ∈ TB := TB_in (tb2 (i := 25) rfl) rfl
theorem iw_712e4e34 : (Cond.code y_Or_isCents b_Or_isCents 2 (some .boolean)) ∈ TB := TB_in (tb2 (i := 29) rfl) rfl
theorem iw_b00b0c8f : (Cond.methodLink R_Or 90 y_Or_isCents) ∈ TB := TB_in (tb2 (i := 27) rfl) rfl
theorem iw_5314158e : (Cond.static y_Or_isCents) ∈ TB := TB_in (tb2 (i := 28) rfl) rfl
theorem iw_b5daf9e9 : (Cond.code y_Parts_add b_Parts_add 5 (some .int)) ∈ TB := TB_in (tb2 (i := 118) rfl) rfl
theorem iw_552d0343 : (Cond.methodLink R_Or 109 y_Parts_add) ∈ TB := TB_in (tb2 (i := 115) rfl) rfl
theorem iw_d9cad61b : (Cond.instanceMethod y_Parts_add) ∈ TB := TB_in (tb2 (i := 116) rfl) rfl
theorem iw_dd9100df : (Cond.selects R_Parts y_Parts_add y_Parts_add) ∈ TB := TB_in (tb2 (i := 117) rfl) rfl
theorem iw_898dd3f5 : (Cond.code y_Lands_addPair b_Lands_addPair 3 (some .boolean)) ∈ TB := TB_in (tb2 (i := 130) rfl) rfl
theorem iw_020dbf62 : (Cond.methodLink R_Or 124 y_Lands_addPair) ∈ TB := TB_in (tb2 (i := 127) rfl) rfl
theorem iw_896fa685 : (Cond.instanceMethod y_Lands_addPair) ∈ TB := TB_in (tb2 (i := 128) rfl) rfl
theorem iw_fbb58a1c : (Cond.selects R_Lands y_Lands_addPair y_Lands_addPair) ∈ TB := TB_in (tb2 (i := 129) rfl) rfl
theorem iw_ce786775 : (Cond.code y_Rows_startFor b_Rows_startFor 7 (some .int)) ∈ TB := TB_in (tb2 (i := 142) rfl) rfl
theorem iw_9295d46e : (Cond.methodLink R_Or 133 y_Rows_startFor) ∈ TB := TB_in (tb2 (i := 139) rfl) rfl
theorem iw_5f68b569 : (Cond.instanceMethod y_Rows_startFor) ∈ TB := TB_in (tb2 (i := 140) rfl) rfl
theorem iw_3c1419b4 : (Cond.selects R_Rows y_Rows_startFor y_Rows_startFor) ∈ TB := TB_in (tb2 (i := 141) rfl) rfl
theorem iw_12bacb5c : (Cond.code y_Or_ruleHolds b_Or_ruleHolds 10 (some .boolean)) ∈ TB := TB_in (tb2 (i := 154) rfl) rfl
theorem iw_b5b6593b : (Cond.methodLink R_Or 137 y_Or_ruleHolds) ∈ TB := TB_in (tb2 (i := 151) rfl) rfl
theorem iw_7060352d : (Cond.instanceMethod y_Or_ruleHolds) ∈ TB := TB_in (tb2 (i := 153) rfl) rfl
theorem iw_4deb83ab : (Cond.selects R_Or y_Or_ruleHolds y_Or_ruleHolds) ∈ TB := TB_in (by decide +kernel) rfl
theorem iw_c33405df : (Cond.code y_Or_greatestDivisor b_Or_greatestDivisor 11 (some .long)) ∈ TB := TB_in (tb2 (i := 212) rfl) rfl
theorem iw_231cf8e9 : (Cond.methodLink R_Or 155 y_Or_greatestDivisor) ∈ TB := TB_in (tb2 (i := 210) rfl) rfl
theorem iw_686c501c : (Cond.static y_Or_greatestDivisor) ∈ TB := TB_in (tb2 (i := 211) rfl) rfl
theorem iw_917baf64 : (Cond.code y_Or_isDay b_Or_isDay 1 (some .boolean)) ∈ TB := TB_in (tb2 (i := 225) rfl) rfl
theorem iw_d9428807 : (Cond.methodLink R_Or 164 y_Or_isDay) ∈ TB := TB_in (tb2 (i := 223) rfl) rfl
theorem iw_983b1223 : (Cond.static y_Or_isDay) ∈ TB := TB_in (tb2 (i := 224) rfl) rfl
theorem iw_b596d366 : (Cond.code y_Proofs_add b_Proofs_add 4 (some .int)) ∈ TB := TB_in (tb2 (i := 232) rfl) rfl
theorem iw_525a5e89 : (Cond.methodLink R_Or 172 y_Proofs_add) ∈ TB := TB_in (tb2 (i := 229) rfl) rfl
theorem iw_9ace69cc : (Cond.instanceMethod y_Proofs_add) ∈ TB := TB_in (tb2 (i := 230) rfl) rfl
theorem iw_e13a14f7 : (Cond.selects R_Proofs y_Proofs_add y_Proofs_add) ∈ TB := TB_in (tb2 (i := 231) rfl) rfl
theorem iw_c33a7978 : (Cond.code y_Proofs_isGood b_Proofs_isGood 6 (some .boolean)) ∈ TB := TB_in (tb3 (i := 4) rfl) rfl
theorem iw_5a1d8066 : (Cond.methodLink R_Or 177 y_Proofs_isGood) ∈ TB := TB_in (tb3 (i := 1) rfl) rfl
theorem iw_cde2bd19 : (Cond.instanceMethod y_Proofs_isGood) ∈ TB := TB_in (tb3 (i := 2) rfl) rfl
theorem iw_e8d03c56 : (Cond.selects R_Proofs y_Proofs_isGood y_Proofs_isGood) ∈ TB := TB_in (tb3 (i := 3) rfl) rfl
theorem iw_6e437c42 : (Cond.code y_Md_in b_Md_in 6 (some .boolean)) ∈ TB := TB_in (tb3 (i := 115) rfl) rfl
theorem iw_0a614872 : (Cond.methodLink R_Md 68 y_Md_in) ∈ TB := TB_in (tb3 (i := 113) rfl) rfl
theorem iw_fa565dbb : (Cond.static y_Md_in) ∈ TB := TB_in (tb3 (i := 114) rfl) rfl
theorem iw_b5246c44 : (Cond.initialized R_Md) ∈ TB := TB_in (tb1 (i := 7) rfl) rfl
theorem iw_73d07431 : (Cond.code y_Md_isDigit b_Md_isDigit 1 (some .boolean)) ∈ TB := TB_in (tb3 (i := 122) rfl) rfl
theorem iw_b41b300b : (Cond.methodLink R_Md 75 y_Md_isDigit) ∈ TB := TB_in (tb3 (i := 120) rfl) rfl
theorem iw_245c6b29 : (Cond.static y_Md_isDigit) ∈ TB := TB_in (tb3 (i := 121) rfl) rfl
theorem iw_aa63775e : (Cond.code y_Md_behind b_Md_behind 2 (some .int)) ∈ TB := TB_in (tb3 (i := 128) rfl) rfl
theorem iw_2a272ca6 : (Cond.methodLink R_Md 83 y_Md_behind) ∈ TB := TB_in (tb3 (i := 126) rfl) rfl
theorem iw_56d10011 : (Cond.static y_Md_behind) ∈ TB := TB_in (tb3 (i := 127) rfl) rfl
theorem iw_31f99ff4 : (Cond.code y_Md_ahead b_Md_ahead 2 (some .int)) ∈ TB := TB_in (tb3 (i := 125) rfl) rfl
theorem iw_c7c76467 : (Cond.methodLink R_Md 79 y_Md_ahead) ∈ TB := TB_in (tb3 (i := 123) rfl) rfl
theorem iw_0d2d9502 : (Cond.static y_Md_ahead) ∈ TB := TB_in (tb3 (i := 124) rfl) rfl
theorem iw_fa8fe85c : (Cond.code y_Md_begin b_Md_begin 7 (some .int)) ∈ TB := TB_in (tb3 (i := 185) rfl) rfl
theorem iw_c335f9d0 : (Cond.methodLink R_Md 90 y_Md_begin) ∈ TB := TB_in (tb3 (i := 182) rfl) rfl
theorem iw_e4d3a0fa : (Cond.instanceMethod y_Md_begin) ∈ TB := TB_in (tb3 (i := 184) rfl) rfl
theorem iw_43fd5cde : (Cond.selects R_Md y_Md_begin y_Md_begin) ∈ TB := TB_in (by decide +kernel) rfl
theorem iw_667de1a5 : (Cond.code y_Md_refuse b_Md_refuse 2 (some .int)) ∈ TB := TB_in (tb3 (i := 139) rfl) rfl
theorem iw_3b4feef5 : (Cond.methodLink R_Md 99 y_Md_refuse) ∈ TB := TB_in (tb3 (i := 136) rfl) rfl
theorem iw_455b0c72 : (Cond.instanceMethod y_Md_refuse) ∈ TB := TB_in (tb3 (i := 138) rfl) rfl
theorem iw_50a13a79 : (Cond.selects R_Md y_Md_refuse y_Md_refuse) ∈ TB := TB_in (by decide +kernel) rfl
theorem iw_4da44544 : (Cond.code y_Md_isOwn b_Md_isOwn 6 (some .boolean)) ∈ TB := TB_in (tb3 (i := 173) rfl) rfl
theorem iw_74e16c2f : (Cond.methodLink R_Md 126 y_Md_isOwn) ∈ TB := TB_in (tb3 (i := 170) rfl) rfl
theorem iw_fb1628a6 : (Cond.instanceMethod y_Md_isOwn) ∈ TB := TB_in (tb3 (i := 172) rfl) rfl
theorem iw_8c96ad3a : (Cond.selects R_Md y_Md_isOwn y_Md_isOwn) ∈ TB := TB_in (by decide +kernel) rfl
theorem iw_cb0d5285 : (Cond.code y_Md_isOther b_Md_isOther 10 (some .boolean)) ∈ TB := TB_in (tb3 (i := 198) rfl) rfl
theorem iw_35b49af0 : (Cond.methodLink R_Md 129 y_Md_isOther) ∈ TB := TB_in (tb3 (i := 195) rfl) rfl
theorem iw_e955fc72 : (Cond.instanceMethod y_Md_isOther) ∈ TB := TB_in (tb3 (i := 197) rfl) rfl
theorem iw_ae6a36c5 : (Cond.selects R_Md y_Md_isOther y_Md_isOther) ∈ TB := TB_in (by decide +kernel) rfl
theorem iw_af7b0364 : (Cond.code y_Md_foreign b_Md_foreign 4 (some .long)) ∈ TB := TB_in (tb3 (i := 203) rfl) rfl
theorem iw_0a0b4ba3 : (Cond.methodLink R_Md 135 y_Md_foreign) ∈ TB := TB_in (tb3 (i := 200) rfl) rfl
theorem iw_797fddde : (Cond.instanceMethod y_Md_foreign) ∈ TB := TB_in (tb3 (i := 202) rfl) rfl
theorem iw_a02830fd : (Cond.selects R_Md y_Md_foreign y_Md_foreign) ∈ TB := TB_in (by decide +kernel) rfl
theorem iw_9a9fbd10 : (Cond.code y_Md_numberAt b_Md_numberAt 4 (some .int)) ∈ TB := TB_in (tb3 (i := 207) rfl) rfl
theorem iw_cff2ca36 : (Cond.methodLink R_Md 139 y_Md_numberAt) ∈ TB := TB_in (tb3 (i := 204) rfl) rfl
theorem iw_c5411207 : (Cond.instanceMethod y_Md_numberAt) ∈ TB := TB_in (tb3 (i := 206) rfl) rfl
theorem iw_86e44062 : (Cond.selects R_Md y_Md_numberAt y_Md_numberAt) ∈ TB := TB_in (by decide +kernel) rfl
theorem iw_893fd7a5 : (Cond.code y_Md_holds b_Md_holds 5 (some .boolean)) ∈ TB := TB_in (tb3 (i := 194) rfl) rfl
theorem iw_4066d9bf : (Cond.methodLink R_Md 145 y_Md_holds) ∈ TB := TB_in (tb3 (i := 191) rfl) rfl
theorem iw_a8b69257 : (Cond.instanceMethod y_Md_holds) ∈ TB := TB_in (tb3 (i := 193) rfl) rfl
theorem iw_64eee434 : (Cond.selects R_Md y_Md_holds y_Md_holds) ∈ TB := TB_in (by decide +kernel) rfl
theorem iw_37e7b26f : (Cond.code y_Md_rowOf b_Md_rowOf 6 (some .int)) ∈ TB := TB_in (tb3 (i := 181) rfl) rfl
theorem iw_9dccc9c2 : (Cond.methodLink R_Md 149 y_Md_rowOf) ∈ TB := TB_in (tb3 (i := 178) rfl) rfl
theorem iw_bf9bfc5f : (Cond.instanceMethod y_Md_rowOf) ∈ TB := TB_in (tb3 (i := 180) rfl) rfl
theorem iw_03218ddb : (Cond.selects R_Md y_Md_rowOf y_Md_rowOf) ∈ TB := TB_in (by decide +kernel) rfl
theorem iw_066c1bb3 : (Cond.code y_Md_ruled b_Md_ruled 10 (some .boolean)) ∈ TB := TB_in (tb3 (i := 190) rfl) rfl
theorem iw_6e6f18b3 : (Cond.methodLink R_Md 152 y_Md_ruled) ∈ TB := TB_in (tb3 (i := 187) rfl) rfl
theorem iw_5a34c1c7 : (Cond.instanceMethod y_Md_ruled) ∈ TB := TB_in (tb3 (i := 189) rfl) rfl
theorem iw_d1914dcd : (Cond.selects R_Md y_Md_ruled y_Md_ruled) ∈ TB := TB_in (by decide +kernel) rfl
theorem iw_5a3a5714 : (Cond.code y_Md_isDay b_Md_isDay 1 (some .boolean)) ∈ TB := TB_in (tb3 (i := 222) rfl) rfl
theorem iw_447102e0 : (Cond.methodLink R_Md 157 y_Md_isDay) ∈ TB := TB_in (tb3 (i := 220) rfl) rfl
theorem iw_693be647 : (Cond.static y_Md_isDay) ∈ TB := TB_in (tb3 (i := 221) rfl) rfl
theorem iw_bfff8780 : (Cond.code y_Text_init b_Text_init 1 none) ∈ TB := TB_in (tb1 (i := 28) rfl) rfl
theorem iw_9e1fc28a : (Cond.instanceMethod y_Text_init) ∈ TB := TB_in (tb1 (i := 27) rfl) rfl
theorem iw_a0c3bdaa : (Cond.code y_Rows_init b_Rows_init 1 none) ∈ TB := TB_in (tb1 (i := 47) rfl) rfl
theorem iw_60887360 : (Cond.instanceMethod y_Rows_init) ∈ TB := TB_in (tb1 (i := 46) rfl) rfl
theorem iw_fd5cb3e1 : (Cond.code y_Parts_init b_Parts_init 1 none) ∈ TB := TB_in (tb1 (i := 66) rfl) rfl
theorem iw_71cc207f : (Cond.instanceMethod y_Parts_init) ∈ TB := TB_in (tb1 (i := 65) rfl) rfl
theorem iw_9517b0e3 : (Cond.code y_Lands_init b_Lands_init 1 none) ∈ TB := TB_in (tb1 (i := 88) rfl) rfl
theorem iw_6ab4b18b : (Cond.instanceMethod y_Lands_init) ∈ TB := TB_in (tb1 (i := 87) rfl) rfl
theorem iw_86e43cc1 : (Cond.code y_Proofs_init b_Proofs_init 1 none) ∈ TB := TB_in (tb1 (i := 106) rfl) rfl
theorem iw_a7c20dfe : (Cond.instanceMethod y_Proofs_init) ∈ TB := TB_in (tb1 (i := 105) rfl) rfl
theorem gw_170cc491 : gSN R_Text 41 R_Or y_Or_isDigit b_Or_isDigit 1 (some .boolean) 1 := ⟨⟨iw_6ff28cd6, iw_dadeed96, iw_16f0de2c, nl_7e6bd625⟩, by decide +kernel⟩
theorem gw_e34063ef : gV R_Text 31 R_Text y_Text_passesSign b_Text_passesSign 2 (some .boolean) 1 := gV_of iw_46ec1b18 iw_7b67b03d iw_9278137a iw_3efa0cc1 iw_06af8c0e (by decide +kernel)
theorem gw_0ad72b6e : gV R_Text 27 R_Text y_Text_passesDigits b_Text_passesDigits 5 (some .boolean) 2 := gV_of iw_dae874ba iw_f0d94cf7 iw_467e1d7a iw_3efa0cc1 iw_271ca95c (by decide +kernel)
theorem gw_4d338c41 : gV R_Text 38 R_Text y_Text_passesFactor b_Text_passesFactor 1 (some .boolean) 0 := gV_of iw_66237d65 iw_fd09eb7b iw_64efdebb iw_3efa0cc1 iw_48eac344 (by decide +kernel)
theorem gw_6f92a4a9 : gV R_Text 35 R_Text y_Text_passesRule b_Text_passesRule 3 (some .boolean) 0 := gV_of iw_b6cd1723 iw_0a8c0d12 iw_2df17aae iw_3efa0cc1 iw_379ede49 (by decide +kernel)
theorem gw_30ac3f92 : gV R_Text 22 R_Text y_Text_passesRow b_Text_passesRow 1 (some .boolean) 0 := gV_of iw_42ced33b iw_bbf70163 iw_59589309 iw_3efa0cc1 iw_80b34d54 (by decide +kernel)
theorem gw_9e98a0ea : gSN R_Rows 36 R_Or y_Or_isDigit b_Or_isDigit 1 (some .boolean) 1 := ⟨⟨iw_6ff28cd6, iw_dadeed96, iw_16f0de2c, nl_7097d630⟩, by decide +kernel⟩
theorem gw_227ff094 : gSN R_Rows 28 R_Or y_Or_beginning b_Or_beginning 4 (some .int) 2 := ⟨⟨iw_e3ccb8ea, iw_87ef414d, iw_16f0de2c, nl_bae23447⟩, by decide +kernel⟩
theorem gw_fe3e403b : gV R_Rows 32 R_Rows y_Rows_numberAt b_Rows_numberAt 4 (some .int) 1 := gV_of iw_18b5adf7 iw_02303473 iw_b665462e iw_0b520e0b iw_fe28dd77 (by decide +kernel)
theorem gw_791aebbf : gSN R_Parts 26 R_Or y_Or_hasBit b_Or_hasBit 2 (some .boolean) 2 := ⟨⟨iw_9dc4ea34, iw_3bfc59c1, iw_16f0de2c, nl_6d37ef55⟩, by decide +kernel⟩
theorem gw_e3cd9dde : gSN R_Parts 30 R_Or y_Or_beginning b_Or_beginning 4 (some .int) 2 := ⟨⟨iw_e3ccb8ea, iw_87ef414d, iw_16f0de2c, nl_82e24bf8⟩, by decide +kernel⟩
theorem gw_2d3f3edb : gSN R_Lands 23 R_Or y_Or_hasBit b_Or_hasBit 2 (some .boolean) 2 := ⟨⟨iw_9dc4ea34, iw_3bfc59c1, iw_16f0de2c, nl_bc7b168b⟩, by decide +kernel⟩
theorem gw_7c92819f : gV R_Or 148 R_Lands y_Lands_ownLands b_Lands_ownLands 4 (some .int) 0 := gV_of iw_0dacf51b iw_b115e8c1 iw_4e9b25d1 iw_8e119763 iw_1c936865 (by decide +kernel)
theorem gw_3e69858b : gV R_Or 151 R_Parts y_Parts_foreignCents b_Parts_foreignCents 5 (some .long) 1 := gV_of iw_4635b8fb iw_7b98d9cc iw_a59018ad iw_5b0ddd57 iw_9bceba6b (by decide +kernel)
theorem gw_6886e95e : gV R_Or 213 R_Parts y_Parts_foreignCentsAlike b_Parts_foreignCentsAlike 8 (some .long) 3 := gV_of iw_a8a9c8f9 iw_dba5a9a4 iw_7af66a42 iw_5b0ddd57 iw_8ee9c6c4 (by decide +kernel)
theorem gw_208b8cab : gV R_Or 206 R_Rows y_Rows_numberAt b_Rows_numberAt 4 (some .int) 1 := gV_of iw_4e81077b iw_02303473 iw_b665462e iw_0b520e0b iw_fe28dd77 (by decide +kernel)
theorem gw_b05a7136 : gS R_Or 118 y_Or_hasBit b_Or_hasBit 2 (some .boolean) 2 := gS_of iw_61bb3d38 iw_3bfc59c1 iw_16f0de2c iw_9dc4ea34 (by decide +kernel)
theorem gw_f7ca5989 : gV R_Or 209 R_Or y_Or_isShareWithin b_Or_isShareWithin 6 (some .boolean) 2 := gV_of iw_2d718697 iw_4d4a9013 iw_5af62345 iw_16f0de2c iw_0e654c0b (by decide +kernel)
theorem gw_7847cc4d : gV R_Or 203 R_Or y_Or_isChanged b_Or_isChanged 7 (some .boolean) 3 := gV_of iw_e0d05541 iw_fe47242d iw_def2d9a1 iw_16f0de2c iw_466bbff7 (by decide +kernel)
theorem gw_6045f965 : gS R_Or 192 y_Or_isLetter b_Or_isLetter 1 (some .boolean) 1 := gS_of iw_12398780 iw_7fc00145 iw_16f0de2c iw_53e9c391 (by decide +kernel)
theorem gw_e73b29bc : gV R_Or 196 R_Or y_Or_factorHolds b_Or_factorHolds 7 (some .boolean) 3 := gV_of iw_666ace7c iw_95f2191c iw_541341bb iw_16f0de2c iw_65f9f3d2 (by decide +kernel)
theorem gw_154b8a27 : gV R_Or 199 R_Or y_Or_keepAnswer b_Or_keepAnswer 3 none 2 := gV_of iw_272d44c0 iw_7c4895da iw_4e6aee69 iw_16f0de2c iw_0de300d2 (by decide +kernel)
theorem gw_a819cac7 : gV R_Or 67 R_Text y_Text_add b_Text_add 2 none 1 := gV_of iw_3f35e465 iw_05dcd35e iw_82e96641 iw_3efa0cc1 iw_a61c5150 (by decide +kernel)
theorem gw_61af03ce : gV R_Or 71 R_Text y_Text_rowsOrWrongPlace b_Text_rowsOrWrongPlace 2 (some .int) 0 := gV_of iw_85286c8d iw_b7de9966 iw_0a81c79a iw_3efa0cc1 iw_e63cc557 (by decide +kernel)
theorem gw_6a9dd894 : gV R_Or 79 R_Rows y_Rows_replace b_Rows_replace 4 none 3 := gV_of iw_1d7dcd18 iw_f58e766b iw_5a55bfc9 iw_0b520e0b iw_f3a6e5d5 (by decide +kernel)
theorem gw_d2bbfa48 : gV R_Or 112 R_Parts y_Parts_forget b_Parts_forget 2 (some .int) 0 := gV_of iw_f643c97e iw_52039dfd iw_398446bf iw_5b0ddd57 iw_eef640db (by decide +kernel)
theorem gw_5add798e : gS R_Or 115 y_Or_isProcess b_Or_isProcess 1 (some .boolean) 1 := gS_of iw_a10a7ab4 iw_165fccb4 iw_16f0de2c iw_b85bed7a (by decide +kernel)
theorem gw_b71da9c0 : gV R_Or 184 R_Parts y_Parts_foreignParts b_Parts_foreignParts 4 (some .int) 1 := gV_of iw_26af6749 iw_024e93d4 iw_d921c00f iw_5b0ddd57 iw_fb51929c (by decide +kernel)
theorem gw_078e8e0a : gS R_Or 83 y_Or_isCode b_Or_isCode 1 (some .boolean) 1 := gS_of iw_da37cbe4 iw_3a419bb6 iw_16f0de2c iw_f67b4bd1 (by decide +kernel)
theorem gw_1f2c9aaf : gS R_Or 87 y_Or_isLand b_Or_isLand 1 (some .boolean) 1 := gS_of iw_7b924591 iw_8824e4a2 iw_16f0de2c iw_6e0bf4a8 (by decide +kernel)
theorem gw_25f3dde8 : gS R_Or 90 y_Or_isCents b_Or_isCents 2 (some .boolean) 1 := gS_of iw_b00b0c8f iw_5314158e iw_16f0de2c iw_712e4e34 (by decide +kernel)
theorem gw_b4d7b3f4 : gV R_Or 109 R_Parts y_Parts_add b_Parts_add 5 (some .int) 3 := gV_of iw_552d0343 iw_d9cad61b iw_dd9100df iw_5b0ddd57 iw_b5daf9e9 (by decide +kernel)
theorem gw_8a054705 : gV R_Or 124 R_Lands y_Lands_addPair b_Lands_addPair 3 (some .boolean) 2 := gV_of iw_020dbf62 iw_896fa685 iw_fbb58a1c iw_8e119763 iw_898dd3f5 (by decide +kernel)
theorem gw_1de24a5f : gV R_Or 133 R_Rows y_Rows_startFor b_Rows_startFor 7 (some .int) 1 := gV_of iw_9295d46e iw_5f68b569 iw_3c1419b4 iw_0b520e0b iw_ce786775 (by decide +kernel)
theorem gw_a5cf097e : gV R_Or 137 R_Or y_Or_ruleHolds b_Or_ruleHolds 10 (some .boolean) 3 := gV_of iw_b5b6593b iw_7060352d iw_4deb83ab iw_16f0de2c iw_12bacb5c (by decide +kernel)
theorem gw_3e08720a : gS R_Or 155 y_Or_greatestDivisor b_Or_greatestDivisor 11 (some .long) 2 := gS_of iw_231cf8e9 iw_686c501c iw_16f0de2c iw_c33405df (by decide +kernel)
theorem gw_11477108 : gS R_Or 164 y_Or_isDay b_Or_isDay 1 (some .boolean) 1 := gS_of iw_d9428807 iw_983b1223 iw_16f0de2c iw_917baf64 (by decide +kernel)
theorem gw_65262eac : gV R_Or 172 R_Proofs y_Proofs_add b_Proofs_add 4 (some .int) 3 := gV_of iw_525a5e89 iw_9ace69cc iw_e13a14f7 iw_41f87340 iw_b596d366 (by decide +kernel)
theorem gw_a3c58452 : gV R_Or 177 R_Proofs y_Proofs_isGood b_Proofs_isGood 6 (some .boolean) 3 := gV_of iw_5a1d8066 iw_cde2bd19 iw_e8d03c56 iw_41f87340 iw_c33a7978 (by decide +kernel)
theorem gw_156fe5e1 : gS R_Md 68 y_Md_in b_Md_in 6 (some .boolean) 3 := gS_of iw_0a614872 iw_fa565dbb iw_b5246c44 iw_6e437c42 (by decide +kernel)
theorem gw_6bb5f010 : gS R_Md 75 y_Md_isDigit b_Md_isDigit 1 (some .boolean) 1 := gS_of iw_b41b300b iw_245c6b29 iw_b5246c44 iw_73d07431 (by decide +kernel)
theorem gw_de64042a : gS R_Md 83 y_Md_behind b_Md_behind 2 (some .int) 2 := gS_of iw_2a272ca6 iw_56d10011 iw_b5246c44 iw_aa63775e (by decide +kernel)
theorem gw_b3cd9ea9 : gS R_Md 79 y_Md_ahead b_Md_ahead 2 (some .int) 2 := gS_of iw_c7c76467 iw_0d2d9502 iw_b5246c44 iw_31f99ff4 (by decide +kernel)
theorem gw_0091ed7e : gV R_Md 90 R_Md y_Md_begin b_Md_begin 7 (some .int) 2 := gV_of iw_c335f9d0 iw_e4d3a0fa iw_43fd5cde iw_b5246c44 iw_fa8fe85c (by decide +kernel)
theorem gw_bf6ef857 : gV R_Md 99 R_Md y_Md_refuse b_Md_refuse 2 (some .int) 1 := gV_of iw_3b4feef5 iw_455b0c72 iw_50a13a79 iw_b5246c44 iw_667de1a5 (by decide +kernel)
theorem gw_5c48b2f4 : gV R_Md 126 R_Md y_Md_isOwn b_Md_isOwn 6 (some .boolean) 1 := gV_of iw_74e16c2f iw_fb1628a6 iw_8c96ad3a iw_b5246c44 iw_4da44544 (by decide +kernel)
theorem gw_41ff44ba : gV R_Md 129 R_Md y_Md_isOther b_Md_isOther 10 (some .boolean) 3 := gV_of iw_35b49af0 iw_e955fc72 iw_ae6a36c5 iw_b5246c44 iw_cb0d5285 (by decide +kernel)
theorem gw_bf106f43 : gV R_Md 135 R_Md y_Md_foreign b_Md_foreign 4 (some .long) 0 := gV_of iw_0a0b4ba3 iw_797fddde iw_a02830fd iw_b5246c44 iw_af7b0364 (by decide +kernel)
theorem gw_13453823 : gV R_Md 139 R_Md y_Md_numberAt b_Md_numberAt 4 (some .int) 1 := gV_of iw_cff2ca36 iw_c5411207 iw_86e44062 iw_b5246c44 iw_9a9fbd10 (by decide +kernel)
theorem gw_e3d5f749 : gV R_Md 145 R_Md y_Md_holds b_Md_holds 5 (some .boolean) 3 := gV_of iw_4066d9bf iw_a8b69257 iw_64eee434 iw_b5246c44 iw_893fd7a5 (by decide +kernel)
theorem gw_d8cb0deb : gV R_Md 149 R_Md y_Md_rowOf b_Md_rowOf 6 (some .int) 1 := gV_of iw_9dccc9c2 iw_bf9bfc5f iw_03218ddb iw_b5246c44 iw_37e7b26f (by decide +kernel)
theorem gw_624680fc : gV R_Md 152 R_Md y_Md_ruled b_Md_ruled 10 (some .boolean) 3 := gV_of iw_6e6f18b3 iw_5a34c1c7 iw_d1914dcd iw_b5246c44 iw_066c1bb3 (by decide +kernel)
theorem gw_7a84469f : gS R_Md 157 y_Md_isDay b_Md_isDay 1 (some .boolean) 1 := gS_of iw_447102e0 iw_693be647 iw_b5246c44 iw_5a3a5714 (by decide +kernel)
theorem gw_330c8beb : gIN R_Or 9 R_Or y_Text_init b_Text_init 1 := ⟨⟨iw_bfff8780, iw_9e1fc28a, iw_3efa0cc1, nl_150b9aff⟩, rfl, by decide +kernel⟩
theorem gw_0957fd1b : gIN R_Or 18 R_Or y_Rows_init b_Rows_init 1 := ⟨⟨iw_a0c3bdaa, iw_60887360, iw_0b520e0b, nl_6ab6feb1⟩, rfl, by decide +kernel⟩
theorem gw_ecb16bbf : gIN R_Or 25 R_Or y_Parts_init b_Parts_init 1 := ⟨⟨iw_fd5cb3e1, iw_71cc207f, iw_5b0ddd57, nl_191d04a3⟩, rfl, by decide +kernel⟩
theorem gw_e845f726 : gIN R_Or 32 R_Or y_Lands_init b_Lands_init 1 := ⟨⟨iw_9517b0e3, iw_6ab4b18b, iw_8e119763, nl_b914422e⟩, rfl, by decide +kernel⟩
theorem gw_ddce124a : gIN R_Or 39 R_Or y_Proofs_init b_Proofs_init 1 := ⟨⟨iw_86e43cc1, iw_a7c20dfe, iw_41f87340, nl_693e1e15⟩, rfl, by decide +kernel⟩
