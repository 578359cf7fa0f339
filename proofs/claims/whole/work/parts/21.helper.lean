theorem iw_c2c9bcb9 : (Cond.classLink R_Law 13 "java/lang/IllegalArgumentException") ∈ TB := TB_in (tb2 (i := 14) rfl) rfl
theorem iw_cd8e4cac : (Cond.classLink R_Law 15 "java/lang/IllegalStateException") ∈ TB := TB_in (tb2 (i := 15) rfl) rfl
theorem iw_1406e3bb : (Cond.classLink R_Law 29 "java/lang/ArithmeticException") ∈ TB := TB_in (tb2 (i := 188) rfl) rfl
theorem iw_14dbc7c5 : (Cond.constantLong R_Law 56 4294967295) ∈ TB := TB_in (tb3 (i := 233) rfl) rfl
theorem iw_64cd90fc : (Cond.instantiable R_Or 11) ∈ TB := TB_in (tb1 (i := 17) rfl) rfl
theorem iw_4dc08179 : (Cond.instantiable R_Md 27) ∈ TB := TB_in (tb3 (i := 15) rfl) rfl
theorem iw_2871d640 : (Cond.arrayClass .byte) ∈ TB := TB_in (tb2 (i := 98) rfl) rfl
theorem iw_5c050ea8 : (Cond.classLink R_Law 8 R_Or) ∈ TB := TB_in (tb1 (i := 16) rfl) rfl
theorem iw_6717a320 : (Cond.classLink R_Law 44 R_Md) ∈ TB := TB_in (tb3 (i := 14) rfl) rfl
theorem iw_5f42ee0b : (Cond.code y_Or_part b_Or_part 5 (some .int)) ∈ TB := TB_in (tb2 (i := 19) rfl) rfl
theorem iw_ea6e8853 : (Cond.methodLink R_Law 7 y_Or_part) ∈ TB := TB_in (tb2 (i := 16) rfl) rfl
theorem iw_16562bbf : (Cond.instanceMethod y_Or_part) ∈ TB := TB_in (tb2 (i := 17) rfl) rfl
theorem iw_dd2f7829 : (Cond.selects R_Or y_Or_part y_Or_part) ∈ TB := TB_in (tb2 (i := 18) rfl) rfl
theorem iw_94d47633 : (Cond.code y_Or_join b_Or_join 3 (some .int)) ∈ TB := TB_in (tb2 (i := 125) rfl) rfl
theorem iw_262fe315 : (Cond.methodLink R_Law 17 y_Or_join) ∈ TB := TB_in (tb2 (i := 122) rfl) rfl
theorem iw_1a277595 : (Cond.instanceMethod y_Or_join) ∈ TB := TB_in (tb2 (i := 123) rfl) rfl
theorem iw_6bb71b15 : (Cond.selects R_Or y_Or_join y_Or_join) ∈ TB := TB_in (tb2 (i := 124) rfl) rfl
theorem iw_baaf6f23 : (Cond.code y_Or_verdict b_Or_verdict 5 (some .int)) ∈ TB := TB_in (tb2 (i := 137) rfl) rfl
theorem iw_a850a2a5 : (Cond.methodLink R_Law 21 y_Or_verdict) ∈ TB := TB_in (tb2 (i := 134) rfl) rfl
theorem iw_a96d12f2 : (Cond.instanceMethod y_Or_verdict) ∈ TB := TB_in (tb2 (i := 135) rfl) rfl
theorem iw_57f1b679 : (Cond.selects R_Or y_Or_verdict y_Or_verdict) ∈ TB := TB_in (tb2 (i := 136) rfl) rfl
theorem iw_596a01a0 : (Cond.code y_Or_share b_Or_share 8 (some .long)) ∈ TB := TB_in (tb2 (i := 192) rfl) rfl
theorem iw_accb752e : (Cond.methodLink R_Law 25 y_Or_share) ∈ TB := TB_in (tb2 (i := 189) rfl) rfl
theorem iw_77d08efc : (Cond.instanceMethod y_Or_share) ∈ TB := TB_in (tb2 (i := 190) rfl) rfl
theorem iw_2e5ec655 : (Cond.selects R_Or y_Or_share y_Or_share) ∈ TB := TB_in (tb2 (i := 191) rfl) rfl
theorem iw_60e4ad7f : (Cond.code y_Or_proof b_Or_proof 4 (some .int)) ∈ TB := TB_in (tb2 (i := 222) rfl) rfl
theorem iw_8f01e2cf : (Cond.methodLink R_Law 31 y_Or_proof) ∈ TB := TB_in (tb2 (i := 219) rfl) rfl
theorem iw_14d0cfed : (Cond.instanceMethod y_Or_proof) ∈ TB := TB_in (tb2 (i := 220) rfl) rfl
theorem iw_605b6586 : (Cond.selects R_Or y_Or_proof y_Or_proof) ∈ TB := TB_in (tb2 (i := 221) rfl) rfl
theorem iw_1a532549 : (Cond.code y_Or_good b_Or_good 5 (some .boolean)) ∈ TB := TB_in (tb2 (i := 239) rfl) rfl
theorem iw_12203432 : (Cond.methodLink R_Law 35 y_Or_good) ∈ TB := TB_in (tb2 (i := 236) rfl) rfl
theorem iw_341fd5eb : (Cond.instanceMethod y_Or_good) ∈ TB := TB_in (tb2 (i := 237) rfl) rfl
theorem iw_169ef8ca : (Cond.selects R_Or y_Or_good y_Or_good) ∈ TB := TB_in (tb2 (i := 238) rfl) rfl
theorem iw_3144791b : (Cond.code y_Or_own b_Or_own 2 (some .boolean)) ∈ TB := TB_in (tb3 (i := 12) rfl) rfl
theorem iw_f94d2752 : (Cond.methodLink R_Law 39 y_Or_own) ∈ TB := TB_in (tb3 (i := 9) rfl) rfl
theorem iw_25289461 : (Cond.instanceMethod y_Or_own) ∈ TB := TB_in (tb3 (i := 10) rfl) rfl
theorem iw_f7268205 : (Cond.selects R_Or y_Or_own y_Or_own) ∈ TB := TB_in (tb3 (i := 11) rfl) rfl
theorem iw_df22706e : (Cond.code y_Or_sign b_Or_sign 2 (some .boolean)) ∈ TB := TB_in (tb1 (i := 159) rfl) rfl
theorem iw_ed1230f4 : (Cond.methodLink R_Law 47 y_Or_sign) ∈ TB := TB_in (tb1 (i := 156) rfl) rfl
theorem iw_673290db : (Cond.instanceMethod y_Or_sign) ∈ TB := TB_in (tb1 (i := 157) rfl) rfl
theorem iw_8c1cc862 : (Cond.selects R_Or y_Or_sign y_Or_sign) ∈ TB := TB_in (tb1 (i := 158) rfl) rfl
theorem iw_d6b234b1 : (Cond.code y_Md_sign b_Md_sign 2 (some .boolean)) ∈ TB := TB_in (tb3 (i := 110) rfl) rfl
theorem iw_c314e8b2 : (Cond.methodLink R_Law 50 y_Md_sign) ∈ TB := TB_in (tb3 (i := 107) rfl) rfl
theorem iw_1c4ec2fc : (Cond.instanceMethod y_Md_sign) ∈ TB := TB_in (tb3 (i := 108) rfl) rfl
theorem iw_a3de3f9e : (Cond.selects R_Md y_Md_sign y_Md_sign) ∈ TB := TB_in (tb3 (i := 109) rfl) rfl
theorem iw_9c539cea : (Cond.code y_Or_read b_Or_read 2 (some .int)) ∈ TB := TB_in (tb1 (i := 167) rfl) rfl
theorem iw_17d15ff0 : (Cond.methodLink R_Law 51 y_Or_read) ∈ TB := TB_in (tb1 (i := 164) rfl) rfl
theorem iw_3537f37d : (Cond.instanceMethod y_Or_read) ∈ TB := TB_in (tb1 (i := 165) rfl) rfl
theorem iw_f47cc539 : (Cond.selects R_Or y_Or_read y_Or_read) ∈ TB := TB_in (tb1 (i := 166) rfl) rfl
theorem iw_611144bd : (Cond.code y_Md_read b_Md_read 12 (some .int)) ∈ TB := TB_in (tb3 (i := 119) rfl) rfl
theorem iw_060bba04 : (Cond.methodLink R_Law 55 y_Md_read) ∈ TB := TB_in (tb3 (i := 116) rfl) rfl
theorem iw_8d3ecd07 : (Cond.instanceMethod y_Md_read) ∈ TB := TB_in (tb3 (i := 117) rfl) rfl
theorem iw_808d148a : (Cond.selects R_Md y_Md_read y_Md_read) ∈ TB := TB_in (tb3 (i := 118) rfl) rfl
theorem iw_757c8af0 : (Cond.codeWith y_Law_part b_Law_part 7 (some .int) [(0, 12, 15, 13), (0, 12, 19, 15)]) ∈ TB := TB_in (tb2 (i := 13) rfl) rfl
theorem iw_915ef7a4 : (Cond.methodLink R_Law 58 y_Law_part) ∈ TB := TB_in (tb2 (i := 11) rfl) rfl
theorem iw_8617affb : (Cond.static y_Law_part) ∈ TB := TB_in (tb2 (i := 12) rfl) rfl
theorem iw_edf5dd1d : (Cond.initialized R_Law) ∈ TB := TB_in (tb1 (i := 0) rfl) rfl
theorem iw_447af2fe : (Cond.code y_Md_part b_Md_part 5 (some .int)) ∈ TB := TB_in (tb3 (i := 132) rfl) rfl
theorem iw_c2b422f1 : (Cond.methodLink R_Law 63 y_Md_part) ∈ TB := TB_in (tb3 (i := 129) rfl) rfl
theorem iw_e65ccfe7 : (Cond.instanceMethod y_Md_part) ∈ TB := TB_in (tb3 (i := 130) rfl) rfl
theorem iw_e04fc9ca : (Cond.selects R_Md y_Md_part y_Md_part) ∈ TB := TB_in (tb3 (i := 131) rfl) rfl
theorem iw_c19943b8 : (Cond.code y_Md_thrown b_Md_thrown 1 (some .int)) ∈ TB := TB_in (tb3 (i := 106) rfl) rfl
theorem iw_6966f28f : (Cond.methodLink R_Law 64 y_Md_thrown) ∈ TB := TB_in (tb3 (i := 103) rfl) rfl
theorem iw_aed60338 : (Cond.instanceMethod y_Md_thrown) ∈ TB := TB_in (tb3 (i := 104) rfl) rfl
theorem iw_2b74c564 : (Cond.selects R_Md y_Md_thrown y_Md_thrown) ∈ TB := TB_in (tb3 (i := 105) rfl) rfl
theorem iw_05d98fe5 : (Cond.code y_Or_clear b_Or_clear 1 (some .int)) ∈ TB := TB_in (tb1 (i := 206) rfl) rfl
theorem iw_86d425dc : (Cond.methodLink R_Law 67 y_Or_clear) ∈ TB := TB_in (tb1 (i := 203) rfl) rfl
theorem iw_3fab35f0 : (Cond.instanceMethod y_Or_clear) ∈ TB := TB_in (tb1 (i := 204) rfl) rfl
theorem iw_750e75ee : (Cond.selects R_Or y_Or_clear y_Or_clear) ∈ TB := TB_in (tb1 (i := 205) rfl) rfl
theorem iw_c9366b9a : (Cond.code y_Md_clear b_Md_clear 2 (some .int)) ∈ TB := TB_in (tb3 (i := 143) rfl) rfl
theorem iw_b1902b63 : (Cond.methodLink R_Law 70 y_Md_clear) ∈ TB := TB_in (tb3 (i := 140) rfl) rfl
theorem iw_127fab3e : (Cond.instanceMethod y_Md_clear) ∈ TB := TB_in (tb3 (i := 141) rfl) rfl
theorem iw_235ffb14 : (Cond.selects R_Md y_Md_clear y_Md_clear) ∈ TB := TB_in (tb3 (i := 142) rfl) rfl
theorem iw_29a867ab : (Cond.code y_Or_process b_Or_process 2 (some .boolean)) ∈ TB := TB_in (tb1 (i := 214) rfl) rfl
theorem iw_4b2001c7 : (Cond.methodLink R_Law 71 y_Or_process) ∈ TB := TB_in (tb1 (i := 211) rfl) rfl
theorem iw_9920e606 : (Cond.instanceMethod y_Or_process) ∈ TB := TB_in (tb1 (i := 212) rfl) rfl
theorem iw_72e0be6b : (Cond.selects R_Or y_Or_process y_Or_process) ∈ TB := TB_in (tb1 (i := 213) rfl) rfl
theorem iw_a164cfba : (Cond.code y_Md_process b_Md_process 2 (some .boolean)) ∈ TB := TB_in (tb3 (i := 147) rfl) rfl
theorem iw_a460e6c6 : (Cond.methodLink R_Law 74 y_Md_process) ∈ TB := TB_in (tb3 (i := 144) rfl) rfl
theorem iw_e8f8310a : (Cond.instanceMethod y_Md_process) ∈ TB := TB_in (tb3 (i := 145) rfl) rfl
theorem iw_cc0e9971 : (Cond.selects R_Md y_Md_process y_Md_process) ∈ TB := TB_in (tb3 (i := 146) rfl) rfl
theorem iw_83a17e8a : (Cond.code y_Or_bar b_Or_bar 3 (some .boolean)) ∈ TB := TB_in (tb1 (i := 224) rfl) rfl
theorem iw_1922eb82 : (Cond.methodLink R_Law 75 y_Or_bar) ∈ TB := TB_in (tb1 (i := 221) rfl) rfl
theorem iw_23d57577 : (Cond.instanceMethod y_Or_bar) ∈ TB := TB_in (tb1 (i := 222) rfl) rfl
theorem iw_8e8f385a : (Cond.selects R_Or y_Or_bar y_Or_bar) ∈ TB := TB_in (tb1 (i := 223) rfl) rfl
theorem iw_63653bd1 : (Cond.code y_Md_bar b_Md_bar 3 (some .boolean)) ∈ TB := TB_in (tb3 (i := 152) rfl) rfl
theorem iw_a72625e9 : (Cond.methodLink R_Law 79 y_Md_bar) ∈ TB := TB_in (tb3 (i := 149) rfl) rfl
theorem iw_a3778aae : (Cond.instanceMethod y_Md_bar) ∈ TB := TB_in (tb3 (i := 150) rfl) rfl
theorem iw_7d7c57ef : (Cond.selects R_Md y_Md_bar y_Md_bar) ∈ TB := TB_in (tb3 (i := 151) rfl) rfl
theorem iw_62867272 : (Cond.codeWith y_Law_join b_Law_join 5 (some .int) [(0, 10, 13, 13)]) ∈ TB := TB_in (tb2 (i := 121) rfl) rfl
theorem iw_f38212ac : (Cond.methodLink R_Law 80 y_Law_join) ∈ TB := TB_in (tb2 (i := 119) rfl) rfl
theorem iw_2e2059f7 : (Cond.static y_Law_join) ∈ TB := TB_in (tb2 (i := 120) rfl) rfl
theorem iw_05afe33b : (Cond.code y_Md_join b_Md_join 3 (some .int)) ∈ TB := TB_in (tb3 (i := 156) rfl) rfl
theorem iw_a0dd0122 : (Cond.methodLink R_Law 83 y_Md_join) ∈ TB := TB_in (tb3 (i := 153) rfl) rfl
theorem iw_5abd96ad : (Cond.instanceMethod y_Md_join) ∈ TB := TB_in (tb3 (i := 154) rfl) rfl
theorem iw_461b9435 : (Cond.selects R_Md y_Md_join y_Md_join) ∈ TB := TB_in (tb3 (i := 155) rfl) rfl
theorem iw_89bd7222 : (Cond.code y_Or_full b_Or_full 2 (some .boolean)) ∈ TB := TB_in (tb1 (i := 228) rfl) rfl
theorem iw_b8e445e6 : (Cond.methodLink R_Law 84 y_Or_full) ∈ TB := TB_in (tb1 (i := 225) rfl) rfl
theorem iw_6de4e2bb : (Cond.instanceMethod y_Or_full) ∈ TB := TB_in (tb1 (i := 226) rfl) rfl
theorem iw_693fbbef : (Cond.selects R_Or y_Or_full y_Or_full) ∈ TB := TB_in (tb1 (i := 227) rfl) rfl
theorem iw_336672bc : (Cond.code y_Md_full b_Md_full 3 (some .boolean)) ∈ TB := TB_in (tb3 (i := 160) rfl) rfl
theorem iw_2f4918ec : (Cond.methodLink R_Law 88 y_Md_full) ∈ TB := TB_in (tb3 (i := 157) rfl) rfl
theorem iw_647a4a9f : (Cond.instanceMethod y_Md_full) ∈ TB := TB_in (tb3 (i := 158) rfl) rfl
theorem iw_dc1208f3 : (Cond.selects R_Md y_Md_full y_Md_full) ∈ TB := TB_in (tb3 (i := 159) rfl) rfl
theorem iw_ba0c8592 : (Cond.code y_Or_tolerance b_Or_tolerance 3 (some .boolean)) ∈ TB := TB_in (tb1 (i := 232) rfl) rfl
theorem iw_a07be883 : (Cond.methodLink R_Law 89 y_Or_tolerance) ∈ TB := TB_in (tb1 (i := 229) rfl) rfl
theorem iw_631f255f : (Cond.instanceMethod y_Or_tolerance) ∈ TB := TB_in (tb1 (i := 230) rfl) rfl
theorem iw_38b19c42 : (Cond.selects R_Or y_Or_tolerance y_Or_tolerance) ∈ TB := TB_in (tb1 (i := 231) rfl) rfl
theorem iw_172f798f : (Cond.code y_Md_tolerance b_Md_tolerance 3 (some .boolean)) ∈ TB := TB_in (tb3 (i := 164) rfl) rfl
theorem iw_e0180db5 : (Cond.methodLink R_Law 93 y_Md_tolerance) ∈ TB := TB_in (tb3 (i := 161) rfl) rfl
theorem iw_2a6e2678 : (Cond.instanceMethod y_Md_tolerance) ∈ TB := TB_in (tb3 (i := 162) rfl) rfl
theorem iw_9e5e9a24 : (Cond.selects R_Md y_Md_tolerance y_Md_tolerance) ∈ TB := TB_in (tb3 (i := 163) rfl) rfl
theorem iw_ced6335c : (Cond.codeWith y_Law_verdict b_Law_verdict 6 (some .int) [(0, 11, 14, 13)]) ∈ TB := TB_in (tb2 (i := 133) rfl) rfl
theorem iw_6c7c40d1 : (Cond.methodLink R_Law 94 y_Law_verdict) ∈ TB := TB_in (tb2 (i := 131) rfl) rfl
theorem iw_b339cc16 : (Cond.static y_Law_verdict) ∈ TB := TB_in (tb2 (i := 132) rfl) rfl
theorem iw_b98ee7df : (Cond.code y_Md_verdict b_Md_verdict 5 (some .int)) ∈ TB := TB_in (tb3 (i := 177) rfl) rfl
theorem iw_3669265b : (Cond.methodLink R_Law 97 y_Md_verdict) ∈ TB := TB_in (tb3 (i := 174) rfl) rfl
theorem iw_6414164b : (Cond.instanceMethod y_Md_verdict) ∈ TB := TB_in (tb3 (i := 175) rfl) rfl
theorem iw_5974e2d6 : (Cond.selects R_Md y_Md_verdict y_Md_verdict) ∈ TB := TB_in (tb3 (i := 176) rfl) rfl
theorem iw_1bf1cbda : (Cond.code y_Or_why b_Or_why 2 (some .int)) ∈ TB := TB_in (tb1 (i := 236) rfl) rfl
theorem iw_c2a9ca17 : (Cond.methodLink R_Law 98 y_Or_why) ∈ TB := TB_in (tb1 (i := 233) rfl) rfl
theorem iw_73a2c31a : (Cond.instanceMethod y_Or_why) ∈ TB := TB_in (tb1 (i := 234) rfl) rfl
theorem iw_82f64284 : (Cond.selects R_Or y_Or_why y_Or_why) ∈ TB := TB_in (tb1 (i := 235) rfl) rfl
theorem iw_6f596291 : (Cond.code y_Md_why b_Md_why 2 (some .int)) ∈ TB := TB_in (tb3 (i := 211) rfl) rfl
theorem iw_44b692fa : (Cond.methodLink R_Law 102 y_Md_why) ∈ TB := TB_in (tb3 (i := 208) rfl) rfl
theorem iw_a021ed05 : (Cond.instanceMethod y_Md_why) ∈ TB := TB_in (tb3 (i := 209) rfl) rfl
theorem iw_12c17eb5 : (Cond.selects R_Md y_Md_why y_Md_why) ∈ TB := TB_in (tb3 (i := 210) rfl) rfl
theorem iw_b6cbbd7e : (Cond.codeWith y_Law_share b_Law_share 6 (some .int) [(0, 10, 13, 13), (0, 10, 17, 29)]) ∈ TB := TB_in (tb2 (i := 187) rfl) rfl
theorem iw_7891f393 : (Cond.methodLink R_Law 103 y_Law_share) ∈ TB := TB_in (tb2 (i := 185) rfl) rfl
theorem iw_187aa3c5 : (Cond.static y_Law_share) ∈ TB := TB_in (tb2 (i := 186) rfl) rfl
theorem iw_a7a66aca : (Cond.code y_Md_share b_Md_share 12 (some .long)) ∈ TB := TB_in (tb3 (i := 215) rfl) rfl
theorem iw_954df555 : (Cond.methodLink R_Law 106 y_Md_share) ∈ TB := TB_in (tb3 (i := 212) rfl) rfl
theorem iw_708174bd : (Cond.instanceMethod y_Md_share) ∈ TB := TB_in (tb3 (i := 213) rfl) rfl
theorem iw_3dccd841 : (Cond.selects R_Md y_Md_share y_Md_share) ∈ TB := TB_in (tb3 (i := 214) rfl) rfl
theorem iw_cbc4e4d8 : (Cond.codeWith y_Law_proof b_Law_proof 6 (some .int) [(0, 12, 15, 13), (0, 12, 19, 15)]) ∈ TB := TB_in (tb2 (i := 218) rfl) rfl
theorem iw_88960829 : (Cond.methodLink R_Law 107 y_Law_proof) ∈ TB := TB_in (tb2 (i := 216) rfl) rfl
theorem iw_b5516771 : (Cond.static y_Law_proof) ∈ TB := TB_in (tb2 (i := 217) rfl) rfl
theorem iw_2291cc62 : (Cond.code y_Md_proof b_Md_proof 4 (some .int)) ∈ TB := TB_in (tb3 (i := 219) rfl) rfl
theorem iw_58ede1b5 : (Cond.methodLink R_Law 110 y_Md_proof) ∈ TB := TB_in (tb3 (i := 216) rfl) rfl
theorem iw_bd278aa8 : (Cond.instanceMethod y_Md_proof) ∈ TB := TB_in (tb3 (i := 217) rfl) rfl
theorem iw_bb47c7ca : (Cond.selects R_Md y_Md_proof y_Md_proof) ∈ TB := TB_in (tb3 (i := 218) rfl) rfl
theorem iw_718e62d7 : (Cond.codeWith y_Law_good b_Law_good 7 (some .int) [(0, 20, 23, 13)]) ∈ TB := TB_in (tb2 (i := 235) rfl) rfl
theorem iw_916463b0 : (Cond.methodLink R_Law 111 y_Law_good) ∈ TB := TB_in (tb2 (i := 233) rfl) rfl
theorem iw_8ae1a428 : (Cond.static y_Law_good) ∈ TB := TB_in (tb2 (i := 234) rfl) rfl
theorem iw_c9884f68 : (Cond.code y_Md_good b_Md_good 5 (some .boolean)) ∈ TB := TB_in (tb3 (i := 227) rfl) rfl
theorem iw_07bd6fb2 : (Cond.methodLink R_Law 114 y_Md_good) ∈ TB := TB_in (tb3 (i := 224) rfl) rfl
theorem iw_26edea18 : (Cond.instanceMethod y_Md_good) ∈ TB := TB_in (tb3 (i := 225) rfl) rfl
theorem iw_c1ccc091 : (Cond.selects R_Md y_Md_good y_Md_good) ∈ TB := TB_in (tb3 (i := 226) rfl) rfl
theorem iw_be83cbbf : (Cond.codeWith y_Law_own b_Law_own 4 (some .int) [(0, 16, 19, 13)]) ∈ TB := TB_in (tb3 (i := 8) rfl) rfl
theorem iw_ec3a7f7d : (Cond.methodLink R_Law 115 y_Law_own) ∈ TB := TB_in (tb3 (i := 6) rfl) rfl
theorem iw_732117d7 : (Cond.static y_Law_own) ∈ TB := TB_in (tb3 (i := 7) rfl) rfl
theorem iw_6178a80e : (Cond.code y_Md_own b_Md_own 2 (some .boolean)) ∈ TB := TB_in (tb3 (i := 169) rfl) rfl
theorem iw_94d5ed53 : (Cond.methodLink R_Law 118 y_Md_own) ∈ TB := TB_in (tb3 (i := 166) rfl) rfl
theorem iw_65378607 : (Cond.instanceMethod y_Md_own) ∈ TB := TB_in (tb3 (i := 167) rfl) rfl
theorem iw_83ad5bc5 : (Cond.selects R_Md y_Md_own y_Md_own) ∈ TB := TB_in (tb3 (i := 168) rfl) rfl
theorem iw_9689c6cb : (Cond.code y_Or_count b_Or_count 2 (some .int)) ∈ TB := TB_in (tb2 (i := 0) rfl) rfl
theorem iw_24c34bab : (Cond.methodLink R_Law 119 y_Or_count) ∈ TB := TB_in (tb1 (i := 237) rfl) rfl
theorem iw_87046ec1 : (Cond.instanceMethod y_Or_count) ∈ TB := TB_in (tb1 (i := 238) rfl) rfl
theorem iw_e61519d0 : (Cond.selects R_Or y_Or_count y_Or_count) ∈ TB := TB_in (tb1 (i := 239) rfl) rfl
theorem iw_ec208676 : (Cond.code y_Md_count b_Md_count 4 (some .int)) ∈ TB := TB_in (tb3 (i := 232) rfl) rfl
theorem iw_1e61873e : (Cond.methodLink R_Law 122 y_Md_count) ∈ TB := TB_in (tb3 (i := 229) rfl) rfl
theorem iw_6de4cb27 : (Cond.instanceMethod y_Md_count) ∈ TB := TB_in (tb3 (i := 230) rfl) rfl
theorem iw_4a0a562f : (Cond.selects R_Md y_Md_count y_Md_count) ∈ TB := TB_in (tb3 (i := 231) rfl) rfl
theorem iw_9dc6ee18 : (Cond.code y_Or_init b_Or_init 1 none) ∈ TB := TB_in (tb1 (i := 20) rfl) rfl
theorem iw_392f22ac : (Cond.instanceMethod y_Or_init) ∈ TB := TB_in (tb1 (i := 19) rfl) rfl
theorem iw_10ef4262 : (Cond.methodLink R_Law 43 y_Or_init) ∈ TB := TB_in (tb1 (i := 18) rfl) rfl
theorem iw_06b31eeb : (Cond.code y_Md_init b_Md_init 1 none) ∈ TB := TB_in (tb3 (i := 18) rfl) rfl
theorem iw_81f282f1 : (Cond.instanceMethod y_Md_init) ∈ TB := TB_in (tb3 (i := 17) rfl) rfl
theorem iw_890d8b9f : (Cond.methodLink R_Law 46 y_Md_init) ∈ TB := TB_in (tb3 (i := 16) rfl) rfl
def NCL : List (String × String) := [("java/lang/IllegalStateException", "java/lang/IllegalArgumentException"), ("java/lang/ArithmeticException", "java/lang/IllegalArgumentException")]
theorem nc_0 : ("java/lang/IllegalStateException", "java/lang/IllegalArgumentException") ∈ NCL := List.mem_of_getElem? (i := 0) rfl
theorem nc_1 : ("java/lang/ArithmeticException", "java/lang/IllegalArgumentException") ∈ NCL := List.mem_of_getElem? (i := 1) rfl
-- helpers of the law: static methods with a table of handlers
abbrev WH (y : MethodName) (b : ByteArray) (n : Nat) (ret : Option FieldType) (hh : List (Nat × Nat × Nat × Nat)) : List Cond := Cond.codeWith y b n ret hh :: TB
def NC (U : State) : Prop := ∀ a b, (a, b) ∈ NCL → va_Nc a b U
def pcH (D : va_G) (cT : Nat → ClassId) (av : List Value) (wc : va_W) (sz : Nat) : Array Value → State → Prop := va_Pc av (fun U => U.heap.size = sz ∧ va_P D classes wc U.heap ∧ EN D cT U ∧ va_D (fun _ => True) wc ∧ TE (va_A wc sz) U ∧ NC U)
def CtH (l : Launch) (y : MethodName) (ws : List Cond) (rm : Room) (D : va_G) (cT : Nat → ClassId) (av : List Value) (wc : va_W) (r : Option Value) (w1 : va_W) (mc ms : Nat) : Prop :=
  ∀ sz : Nat, Met l y ws rm (pcH D cT av wc sz) (qW D (va_A wc sz) w1 r) mc ms (va_A wc sz)
theorem NC.warm {s U : State} (hW : s.WarmedH U.vm) (h : NC s) : NC U := fun a b hab => (h a b hab).moved hW.alike
theorem pcH.blind {D : va_G} {cT : Nat → ClassId} {av : List Value} {wc : va_W} {sz : Nat} : FrameBlind (pcH D cT av wc sz) := fun a U g mk q => by
  obtain ⟨q0, q1, qP, qE, qD, qT, qN⟩ := q
  exact ⟨q0, q1, qP, qE.calling g mk a, qD, qT.calling g mk a, fun a' b' hab => va_Nc.moved (u := U) (U := U.calling g mk a) (Vm.Alike.refl U.vm) (qN a' b' hab)⟩
theorem tab_of {p : Program} {l : Launch} {y : MethodName} {S : Spec} {cc bytes : ByteArray} {maxL maxL' : Nat} {ret ret' : Option FieldType} {e : Env} {s s₁ : State} {m : MethodId} {args args' : Array Value} {below : List Frame} {meth : Method} {c : Code} {hh : List (Nat × Nat × Nat × Nat)}
    (B : BodyLoose p l y S cc maxL ret e s m args below meth c s₁) (h : (Cond.codeWith y bytes maxL' ret' hh).before args' s = true) : c.exceptionTable.toList = hh.map (fun h => ⟨h.1, h.2.1, h.2.2.1, h.2.2.2⟩) := by
  obtain ⟨m9, meth9, c9, hn9, h1, h2, -, -, h6, -⟩ := Cond.codeWith_spec h
  cases Option.some.inj (hn9.symm.trans B.named)
  cases Option.some.inj (h1.symm.trans B.method)
  cases Option.some.inj (h2.symm.trans (Stand.of_body B).code)
  rw [← h6, List.map_map]
  exact (List.map_id _).symm
section TRY
variable {p : Program} {l : Launch} {e : Env} {R : Room} {s : State} {m : MethodId} {args : Array Value} {below : List Frame} {meth : Method} {c : Code} {H : Heap} {locs : List Loc} {cells slots : Nat} {Q : State → Prop}
variable {pc : Nat} {ls : Array Slot} {st0 rest : List Value} {D : va_G} {cT : Nat → ClassId} {A : Nat → Prop} {ws wc wr w1 w2 : va_W} {r : Option Value}
variable {cc : ByteArray} {nL : Nat} {own C : String} {index : Nat} {y : MethodName} {bytes : ByteArray} {maxL : Nat} {ret : Option FieldType} {rm : Room} {n mc ms : Nat} {b : Nat} {As : List Value} {E : String}
theorem ex_tryV (S : CallFix p m c cc nL s args TB own) (hE : EN D cT s) (hTE : TE A s) (hM : CtX l y (WS y bytes maxL ret) rm D cT (.ref b :: As) wc E mc ms) (hg : gV own index C y bytes maxL ret n) (hrc : rm.cells = mc) (hrs : rm.slots = ms) (hRm : rm.frames + 1 ≤ R.frames ∧ 8 + (maxL + 11) + rm.locals ≤ R.locals)
    {ci : Nat} {qc : vw_C} (hci : classes[ci]? = some qc) (hqc : qc.1 = C) {k0 : Nat} {fs : List Value} (hk0 : wc[k0]? = some (b, .inr (ci, fs))) (hn0 : As.length = n) (hsz : ls.size = nL) (hst : st0 = As.reverse ++ .ref b :: rest) (hW : (rest.map fun v => v.category).sum ≤ 8) (hdg : decode cc pc = .ok (.invokevirtual index, 3)) (hf : cells + mc ≤ R.cells ∧ slots + ms ≤ R.slots)
    (hP : va_P D classes ws H) (hD : va_D A ws) (hS : va_S A s.heap H locs) (hA : ∀ q, s.heap.size ≤ q → A q) (isC : List Nat) (hC : isC.map (fun i => ws[i]?) = wc.map some) (hnC : va_nd isC = true)
    (kk : ∀ (H1 : Heap) (q : Addr) (ce : Cell), va_P D classes ws H1 → va_S A s.heap H1 locs → H1[q]? = some ce → ce.vm = .none → s.vm.findClass E = some ce.cls → WX p l e R s m args below meth c H1 locs (cells + mc) (slots + ms) Q (F0 m pc ls rest) q) : W p l e R s m args below meth c H locs cells slots Q (F0 m pc ls st0) := by
  have hPc : va_P D classes wc H := hP.sub isC (fm_of_map hC)
  have hDc : va_D A wc := hD.sub isC hnC hC
  have hF := va_free hD hS hA isC hC
  subst hqc
  refine ex_runV (As := As) (rest := rest) S (hM H.size) (cwV n S.2.2.2.2 hg.1 rfl hrc hrs hg.2 hRm) ⟨pcX.blind, va_recv hE.1 hPc hci hk0, fun U hU hW => ⟨rfl, by rw [hU], by rw [hU]; exact hPc, hE.warm hW, hDc.weaken (fun _ _ _ _ => trivial), hTE.pre hS hF hU hW⟩⟩ hn0 hsz hst hW hdg hf (fun H1 q ce hz hq h1 h2 h3 => ?_)
  exact kk H1 q ce (hP.kept (fun k x hx => hq x.1 ((hP k x hx).lt))) ⟨Nat.le_trans hS.1 hz, fun x g1 g2 => (hq x (Nat.lt_of_lt_of_le g1 hS.1)).trans (hS.2.1 x g1 g2), hS.2.2⟩ h1 h2 h3
def gH (own : String) (index : Nat) (y : MethodName) (b : ByteArray) (n : Nat) (ret : Option FieldType) (hh : List (Nat × Nat × Nat × Nat)) (k : Nat) : Prop := (Cond.codeWith y b n ret hh ∈ TB ∧ Cond.methodLink own index y ∈ TB ∧ Cond.static y ∈ TB ∧ Cond.initialized y.cls ∈ TB) ∧ (y.cls ≠ "java/lang/invoke/MethodHandle" ∧ y.cls ≠ "java/lang/invoke/VarHandle") ∧ (parseMethodDescriptor y.desc).map (fun d => d.parameters.length) = some k
/-- the law calls a helper -/
theorem cl_H {hh : List (Nat × Nat × Nat × Nat)} (S : CallFix p m c cc nL s args TB own) (hE : EN D cT s) (hTE : TE A s) (hNc : NC s) (hM : CtH l y (WH y bytes maxL ret hh) rm D cT As wc r w1 mc ms) (hg : gH own index y bytes maxL ret hh n) (hrc : rm.cells = mc) (hrs : rm.slots = ms) (hRm : rm.frames + 1 ≤ R.frames ∧ 8 + (maxL + 11) + rm.locals ≤ R.locals)
    (hn0 : As.length = n) (hsz : ls.size = nL) (hst : st0 = As.reverse ++ rest) (hW : (rest.map fun v => v.category).sum ≤ 8) (hdg : decode cc pc = .ok (.invokestatic index, 3)) (hf : cells + mc ≤ R.cells ∧ slots + ms ≤ R.slots)
    (hP : va_P D classes ws H) (hD : va_D A ws) (hS : va_S A s.heap H locs) (hA : ∀ q, s.heap.size ≤ q → A q) (isC isR isO : List Nat) (hC : isC.map (fun i => ws[i]?) = wc.map some) (hR : isR.map (fun i => ws[i]?) = wr.map some) (hn : va_nd isR = true) (hdis : ∀ i ∈ isR, i ∉ isC) (hO : isO.map (fun i => (wr ++ w1)[i]?) = w2.map some) (hnO : va_nd isO = true) (hnC : va_nd isC = true)
    (kk : ∀ (H1 : Heap) (locs1 : List Loc), va_P D classes w2 H1 → va_D A w2 → va_S A s.heap H1 locs1 → W p l e R s m args below meth c H1 locs1 (cells + mc) (slots + ms) Q (F0 m (pc + 3) ls (r.toList ++ rest))) : W p l e R s m args below meth c H locs cells slots Q (F0 m pc ls st0) := by
  subst hst
  obtain ⟨hx, hb, hml, hown, hts⟩ := S
  obtain ⟨⟨g1, g2, g3, g4⟩, hy, g6⟩ := hg
  have hPc : va_P D classes wc H := hP.sub isC (fm_of_map hC)
  have hDc : va_D A wc := hD.sub isC hnC hC
  have hF := va_free hD hS hA isC hC
  have hG : GoodIn TB (WH y bytes maxL ret hh) := fun w hw => by
    rcases List.mem_cons.mp hw with rfl | hw
    · exact ⟨g1, TB_good _ g1⟩
    · exact ⟨hw, TB_good _ hw⟩
  have hws := pay_in hts hG
  have hini := hts _ g4
  have hK : Back l R p e below s args y 3 8 (PreOf R mc ms (pcH D cT As wc H.size)) (PostOf (qW D (va_A wc H.size) w1 r) mc ms (va_A wc H.size)) :=
    va_backW (hh := hh) (bytes := bytes) (maxL := maxL) (ret := ret) (hM H.size) pcH.blind hrc hrs hRm.1 hRm.2 hws List.mem_cons_self (fun a' U hW => word_at hW (Or.inl (by first | rfl | simp [Cond.onTables, Cond.keeps, Cond.steady])) hini)
  intro T hT X
  obtain ⟨mk, methM, cM, hnamed, hmethM, -, -, -, -, -, -, hsigM⟩ := Cond.codeWith_spec (hts _ g1)
  have hstatic : methM.isStatic = true := Cond.static_spec hnamed hmethM (hts _ g3)
  obtain ⟨kP, hkP, -⟩ := className_of_methodNamed hnamed
  have hinitP : kP.init = .initialized := Cond.initialized_spec (findClass_of_methodNamed hnamed) hkP hini
  have hlen : As.length = methM.sig.parameters.length := by
    rw [hn0]
    rw [hsigM] at g6
    exact (Option.some.inj g6).symm
  have hdg' : decode c.code pc = .ok (.invokestatic index, 3) := by rw [hb]; exact hdg
  obtain ⟨vm₁, X₁, hstep₁⟩ := X.invokestatic hx hown (hts _ g2) hnamed hmethM hstatic hkP hinitP hy (g := F0 m pc ls (As.reverse ++ rest)) rfl (argsL := As) (rest := rest) hlen rfl hdg'
  have hW₁ := X₁.warmed
  obtain ⟨v, B, X', ⟨g', mk', t, L, e1, e2, ⟨⟨hv, hp, hd⟩, hz, hk⟩, h1, hL, h2, h3⟩, hsteps⟩ := hK m meth c ⟨T.setVm vm₁, locs, cells, slots⟩ (F0 m pc ls rest) (.invokestatic index) mk As.toArray X₁ rfl (hsz.trans hml.symm) hdg' (lv_room hW) (X₁.named hnamed)
    ⟨hf.1, hf.2, rfl, by show (T.setVm vm₁).heap.size = H.size; rw [← hT]; rfl, by show va_P D classes wc T.heap; rw [hT]; exact hPc, hE.warm (U := T.setVm vm₁) hW₁, hDc.weaken (fun _ _ _ _ => trivial), hTE.pre hS hF (U := T.setVm vm₁) hT hW₁, hNc.warm (U := T.setVm vm₁) hW₁⟩
  cases hv
  have hz' : H.size ≤ t.heap.size := by rw [← hT]; exact hz
  have hk' : ∀ q : Nat, q < H.size → ¬ va_A wc H.size q → t.heap[q]? = H[q]? := fun q a1 a2 => by rw [← hT] at a1 ⊢; exact hk q a1 a2
  obtain ⟨hP2, hD2⟩ := va_join hP hD isC isR hC hR hn hdis hk' hF hp hd
  have hP3 := hP2.sub (ws' := w2) isO (fm_of_map hO)
  have hD3 := hD2.sub (ws' := w2) isO hnO hO
  obtain ⟨U', l2, c2, s2⟩ := B
  dsimp only [Pt.U, Pt.locs, Pt.cells, Pt.slots] at X' e1 e2 h1 h2 h3 hsteps
  subst h1; subst h2; subst h3
  obtain ⟨t2, a1, b1⟩ := kk U'.heap (locs ++ L) (by rw [e1]; exact hP3) hD3
    ⟨Nat.le_trans hS.1 (by rw [e1]; exact hz'), fun q g1 g2 => by rw [e1, hk' q (Nat.lt_of_lt_of_le g1 hS.1) (fun z => g2 (hF q z))]; exact hS.2.1 q g1 g2, fun q hq => by
      rcases List.mem_append.mp hq with h | h
      · exact hS.2.2 q h
      · exact hF _ (hL q h)⟩ U' rfl X'
  exact ⟨t2, hstep₁ _ fun acts => by rw [doInvoke_state]; exact hsteps.trans a1, b1⟩
end TRY
def bx1 {α0 δ : Type} (x : Option (Nat ⊕ (α0))) (h : Nat → Option δ) (f : α0 → Option δ) : Option δ := match x with
  | some (.inr a0) => f a0
  | some (.inl e) => h e
  | none => none
theorem bx1T {α0 δ : Type} {x : Option (Nat ⊕ (α0))} {h : Nat → Option δ} {f : α0 → Option δ} {r : δ} (hq : bx1 x h f = some r) : (∃ a0, x = some (.inr a0) ∧ f a0 = some r) ∨ (∃ e, x = some (.inl e) ∧ h e = some r) := by
  cases x with
  | none => exact absurd (show (none : Option δ) = some r from hq) (by simp)
  | some z => cases z with
    | inl e => exact Or.inr ⟨e, rfl, hq⟩
    | inr q => exact Or.inl ⟨q, rfl, hq⟩
def bx2 {α0 α1 δ : Type} (x : Option (Nat ⊕ (α0 × α1))) (h : Nat → Option δ) (f : α0 → α1 → Option δ) : Option δ := match x with
  | some (.inr (a0, a1)) => f a0 a1
  | some (.inl e) => h e
  | none => none
theorem bx2T {α0 α1 δ : Type} {x : Option (Nat ⊕ (α0 × α1))} {h : Nat → Option δ} {f : α0 → α1 → Option δ} {r : δ} (hq : bx2 x h f = some r) : (∃ a0 a1, x = some (.inr (a0, a1)) ∧ f a0 a1 = some r) ∨ (∃ e, x = some (.inl e) ∧ h e = some r) := by
  cases x with
  | none => exact absurd (show (none : Option δ) = some r from hq) (by simp)
  | some z => cases z with
    | inl e => exact Or.inr ⟨e, rfl, hq⟩
    | inr q => exact Or.inl ⟨q.1, q.2, rfl, hq⟩
def bx3 {α0 α1 α2 δ : Type} (x : Option (Nat ⊕ (α0 × α1 × α2))) (h : Nat → Option δ) (f : α0 → α1 → α2 → Option δ) : Option δ := match x with
  | some (.inr (a0, a1, a2)) => f a0 a1 a2
  | some (.inl e) => h e
  | none => none
theorem bx3T {α0 α1 α2 δ : Type} {x : Option (Nat ⊕ (α0 × α1 × α2))} {h : Nat → Option δ} {f : α0 → α1 → α2 → Option δ} {r : δ} (hq : bx3 x h f = some r) : (∃ a0 a1 a2, x = some (.inr (a0, a1, a2)) ∧ f a0 a1 a2 = some r) ∨ (∃ e, x = some (.inl e) ∧ h e = some r) := by
  cases x with
  | none => exact absurd (show (none : Option δ) = some r from hq) (by simp)
  | some z => cases z with
    | inl e => exact Or.inr ⟨e, rfl, hq⟩
    | inr q => exact Or.inl ⟨q.1, q.2.1, q.2.2, rfl, hq⟩
def bx4 {α0 α1 α2 α3 δ : Type} (x : Option (Nat ⊕ (α0 × α1 × α2 × α3))) (h : Nat → Option δ) (f : α0 → α1 → α2 → α3 → Option δ) : Option δ := match x with
  | some (.inr (a0, a1, a2, a3)) => f a0 a1 a2 a3
  | some (.inl e) => h e
  | none => none
theorem bx4T {α0 α1 α2 α3 δ : Type} {x : Option (Nat ⊕ (α0 × α1 × α2 × α3))} {h : Nat → Option δ} {f : α0 → α1 → α2 → α3 → Option δ} {r : δ} (hq : bx4 x h f = some r) : (∃ a0 a1 a2 a3, x = some (.inr (a0, a1, a2, a3)) ∧ f a0 a1 a2 a3 = some r) ∨ (∃ e, x = some (.inl e) ∧ h e = some r) := by
  cases x with
  | none => exact absurd (show (none : Option δ) = some r from hq) (by simp)
  | some z => cases z with
    | inl e => exact Or.inr ⟨e, rfl, hq⟩
    | inr q => exact Or.inl ⟨q.1, q.2.1, q.2.2.1, q.2.2.2, rfl, hq⟩
def bx5 {α0 α1 α2 α3 α4 δ : Type} (x : Option (Nat ⊕ (α0 × α1 × α2 × α3 × α4))) (h : Nat → Option δ) (f : α0 → α1 → α2 → α3 → α4 → Option δ) : Option δ := match x with
  | some (.inr (a0, a1, a2, a3, a4)) => f a0 a1 a2 a3 a4
  | some (.inl e) => h e
  | none => none
theorem bx5T {α0 α1 α2 α3 α4 δ : Type} {x : Option (Nat ⊕ (α0 × α1 × α2 × α3 × α4))} {h : Nat → Option δ} {f : α0 → α1 → α2 → α3 → α4 → Option δ} {r : δ} (hq : bx5 x h f = some r) : (∃ a0 a1 a2 a3 a4, x = some (.inr (a0, a1, a2, a3, a4)) ∧ f a0 a1 a2 a3 a4 = some r) ∨ (∃ e, x = some (.inl e) ∧ h e = some r) := by
  cases x with
  | none => exact absurd (show (none : Option δ) = some r from hq) (by simp)
  | some z => cases z with
    | inl e => exact Or.inr ⟨e, rfl, hq⟩
    | inr q => exact Or.inl ⟨q.1, q.2.1, q.2.2.1, q.2.2.2.1, q.2.2.2.2, rfl, hq⟩
def bx6 {α0 α1 α2 α3 α4 α5 δ : Type} (x : Option (Nat ⊕ (α0 × α1 × α2 × α3 × α4 × α5))) (h : Nat → Option δ) (f : α0 → α1 → α2 → α3 → α4 → α5 → Option δ) : Option δ := match x with
  | some (.inr (a0, a1, a2, a3, a4, a5)) => f a0 a1 a2 a3 a4 a5
  | some (.inl e) => h e
  | none => none
theorem bx6T {α0 α1 α2 α3 α4 α5 δ : Type} {x : Option (Nat ⊕ (α0 × α1 × α2 × α3 × α4 × α5))} {h : Nat → Option δ} {f : α0 → α1 → α2 → α3 → α4 → α5 → Option δ} {r : δ} (hq : bx6 x h f = some r) : (∃ a0 a1 a2 a3 a4 a5, x = some (.inr (a0, a1, a2, a3, a4, a5)) ∧ f a0 a1 a2 a3 a4 a5 = some r) ∨ (∃ e, x = some (.inl e) ∧ h e = some r) := by
  cases x with
  | none => exact absurd (show (none : Option δ) = some r from hq) (by simp)
  | some z => cases z with
    | inl e => exact Or.inr ⟨e, rfl, hq⟩
    | inr q => exact Or.inl ⟨q.1, q.2.1, q.2.2.1, q.2.2.2.1, q.2.2.2.2.1, q.2.2.2.2.2, rfl, hq⟩
def bx7 {α0 α1 α2 α3 α4 α5 α6 δ : Type} (x : Option (Nat ⊕ (α0 × α1 × α2 × α3 × α4 × α5 × α6))) (h : Nat → Option δ) (f : α0 → α1 → α2 → α3 → α4 → α5 → α6 → Option δ) : Option δ := match x with
  | some (.inr (a0, a1, a2, a3, a4, a5, a6)) => f a0 a1 a2 a3 a4 a5 a6
  | some (.inl e) => h e
  | none => none
theorem bx7T {α0 α1 α2 α3 α4 α5 α6 δ : Type} {x : Option (Nat ⊕ (α0 × α1 × α2 × α3 × α4 × α5 × α6))} {h : Nat → Option δ} {f : α0 → α1 → α2 → α3 → α4 → α5 → α6 → Option δ} {r : δ} (hq : bx7 x h f = some r) : (∃ a0 a1 a2 a3 a4 a5 a6, x = some (.inr (a0, a1, a2, a3, a4, a5, a6)) ∧ f a0 a1 a2 a3 a4 a5 a6 = some r) ∨ (∃ e, x = some (.inl e) ∧ h e = some r) := by
  cases x with
  | none => exact absurd (show (none : Option δ) = some r from hq) (by simp)
  | some z => cases z with
    | inl e => exact Or.inr ⟨e, rfl, hq⟩
    | inr q => exact Or.inl ⟨q.1, q.2.1, q.2.2.1, q.2.2.2.1, q.2.2.2.2.1, q.2.2.2.2.2.1, q.2.2.2.2.2.2, rfl, hq⟩
theorem xl_0 : (Cond.castable "java/lang/IllegalArgumentException" "java/lang/IllegalArgumentException") ∈ XL := List.mem_filter.mpr ⟨tb2 (i := 33) rfl, rfl⟩
theorem xl_1 : (Cond.castable "java/lang/IllegalStateException" "java/lang/IllegalStateException") ∈ XL := List.mem_filter.mpr ⟨tb2 (i := 101) rfl, rfl⟩
theorem xl_2 : (Cond.castable "java/lang/ArithmeticException" "java/lang/ArithmeticException") ∈ XL := List.mem_filter.mpr ⟨tb2 (i := 196) rfl, rfl⟩
theorem gw_7a5c62b4 : gV R_Law 7 R_Or y_Or_part b_Or_part 5 (some .int) 3 := gV_of iw_ea6e8853 iw_16562bbf iw_dd2f7829 iw_16f0de2c iw_5f42ee0b (by decide +kernel)
theorem gw_10fa32bb : gV R_Law 17 R_Or y_Or_join b_Or_join 3 (some .int) 2 := gV_of iw_262fe315 iw_1a277595 iw_6bb71b15 iw_16f0de2c iw_94d47633 (by decide +kernel)
theorem gw_11937614 : gV R_Law 21 R_Or y_Or_verdict b_Or_verdict 5 (some .int) 2 := gV_of iw_a850a2a5 iw_a96d12f2 iw_57f1b679 iw_16f0de2c iw_baaf6f23 (by decide +kernel)
theorem gw_ad42f523 : gV R_Law 25 R_Or y_Or_share b_Or_share 8 (some .long) 2 := gV_of iw_accb752e iw_77d08efc iw_2e5ec655 iw_16f0de2c iw_596a01a0 (by decide +kernel)
theorem gw_0f9906c0 : gV R_Law 31 R_Or y_Or_proof b_Or_proof 4 (some .int) 3 := gV_of iw_8f01e2cf iw_14d0cfed iw_605b6586 iw_16f0de2c iw_60e4ad7f (by decide +kernel)
theorem gw_b91df546 : gV R_Law 35 R_Or y_Or_good b_Or_good 5 (some .boolean) 3 := gV_of iw_12203432 iw_341fd5eb iw_169ef8ca iw_16f0de2c iw_1a532549 (by decide +kernel)
theorem gw_68a0c40f : gV R_Law 39 R_Or y_Or_own b_Or_own 2 (some .boolean) 1 := gV_of iw_f94d2752 iw_25289461 iw_f7268205 iw_16f0de2c iw_3144791b (by decide +kernel)
theorem gw_a37e6fb6 : gV R_Law 47 R_Or y_Or_sign b_Or_sign 2 (some .boolean) 1 := gV_of iw_ed1230f4 iw_673290db iw_8c1cc862 iw_16f0de2c iw_df22706e (by decide +kernel)
theorem gw_a7661ba4 : gV R_Law 50 R_Md y_Md_sign b_Md_sign 2 (some .boolean) 1 := gV_of iw_c314e8b2 iw_1c4ec2fc iw_a3de3f9e iw_b5246c44 iw_d6b234b1 (by decide +kernel)
theorem gw_e84ab4d9 : gV R_Law 51 R_Or y_Or_read b_Or_read 2 (some .int) 0 := gV_of iw_17d15ff0 iw_3537f37d iw_f47cc539 iw_16f0de2c iw_9c539cea (by decide +kernel)
theorem gw_1b921a89 : gV R_Law 55 R_Md y_Md_read b_Md_read 12 (some .int) 0 := gV_of iw_060bba04 iw_8d3ecd07 iw_808d148a iw_b5246c44 iw_611144bd (by decide +kernel)
theorem gw_b3bf2a8e : gH R_Law 58 y_Law_part b_Law_part 7 (some .int) [(0, 12, 15, 13), (0, 12, 19, 15)] 5 := ⟨⟨iw_757c8af0, iw_915ef7a4, iw_8617affb, iw_edf5dd1d⟩, by decide +kernel, by decide +kernel⟩
theorem gw_646ef691 : gV R_Law 63 R_Md y_Md_part b_Md_part 5 (some .int) 3 := gV_of iw_c2b422f1 iw_e65ccfe7 iw_e04fc9ca iw_b5246c44 iw_447af2fe (by decide +kernel)
theorem gw_ba35c1bc : gV R_Law 64 R_Md y_Md_thrown b_Md_thrown 1 (some .int) 0 := gV_of iw_6966f28f iw_aed60338 iw_2b74c564 iw_b5246c44 iw_c19943b8 (by decide +kernel)
theorem gw_592a332a : gV R_Law 67 R_Or y_Or_clear b_Or_clear 1 (some .int) 0 := gV_of iw_86d425dc iw_3fab35f0 iw_750e75ee iw_16f0de2c iw_05d98fe5 (by decide +kernel)
theorem gw_ddf4c18a : gV R_Law 70 R_Md y_Md_clear b_Md_clear 2 (some .int) 0 := gV_of iw_b1902b63 iw_127fab3e iw_235ffb14 iw_b5246c44 iw_c9366b9a (by decide +kernel)
theorem gw_ae55ca99 : gV R_Law 71 R_Or y_Or_process b_Or_process 2 (some .boolean) 1 := gV_of iw_4b2001c7 iw_9920e606 iw_72e0be6b iw_16f0de2c iw_29a867ab (by decide +kernel)
theorem gw_f1a19673 : gV R_Law 74 R_Md y_Md_process b_Md_process 2 (some .boolean) 1 := gV_of iw_a460e6c6 iw_e8f8310a iw_cc0e9971 iw_b5246c44 iw_a164cfba (by decide +kernel)
theorem gw_4788a7b4 : gV R_Law 75 R_Or y_Or_bar b_Or_bar 3 (some .boolean) 2 := gV_of iw_1922eb82 iw_23d57577 iw_8e8f385a iw_16f0de2c iw_83a17e8a (by decide +kernel)
theorem gw_0722ebad : gV R_Law 79 R_Md y_Md_bar b_Md_bar 3 (some .boolean) 2 := gV_of iw_a72625e9 iw_a3778aae iw_7d7c57ef iw_b5246c44 iw_63653bd1 (by decide +kernel)
theorem gw_c76b6aa7 : gH R_Law 80 y_Law_join b_Law_join 5 (some .int) [(0, 10, 13, 13)] 4 := ⟨⟨iw_62867272, iw_f38212ac, iw_2e2059f7, iw_edf5dd1d⟩, by decide +kernel, by decide +kernel⟩
theorem gw_fa1eb7dc : gV R_Law 83 R_Md y_Md_join b_Md_join 3 (some .int) 2 := gV_of iw_a0dd0122 iw_5abd96ad iw_461b9435 iw_b5246c44 iw_05afe33b (by decide +kernel)
theorem gw_ee49ca2a : gV R_Law 84 R_Or y_Or_full b_Or_full 2 (some .boolean) 1 := gV_of iw_b8e445e6 iw_6de4e2bb iw_693fbbef iw_16f0de2c iw_89bd7222 (by decide +kernel)
theorem gw_9574c9a0 : gV R_Law 88 R_Md y_Md_full b_Md_full 3 (some .boolean) 1 := gV_of iw_2f4918ec iw_647a4a9f iw_dc1208f3 iw_b5246c44 iw_336672bc (by decide +kernel)
theorem gw_e29df6ba : gV R_Law 89 R_Or y_Or_tolerance b_Or_tolerance 3 (some .boolean) 2 := gV_of iw_a07be883 iw_631f255f iw_38b19c42 iw_16f0de2c iw_ba0c8592 (by decide +kernel)
theorem gw_61901fda : gV R_Law 93 R_Md y_Md_tolerance b_Md_tolerance 3 (some .boolean) 2 := gV_of iw_e0180db5 iw_2a6e2678 iw_9e5e9a24 iw_b5246c44 iw_172f798f (by decide +kernel)
theorem gw_60a98cdf : gH R_Law 94 y_Law_verdict b_Law_verdict 6 (some .int) [(0, 11, 14, 13)] 4 := ⟨⟨iw_ced6335c, iw_6c7c40d1, iw_b339cc16, iw_edf5dd1d⟩, by decide +kernel, by decide +kernel⟩
theorem gw_21ffee6a : gV R_Law 97 R_Md y_Md_verdict b_Md_verdict 5 (some .int) 2 := gV_of iw_3669265b iw_6414164b iw_5974e2d6 iw_b5246c44 iw_b98ee7df (by decide +kernel)
theorem gw_0bfc8029 : gV R_Law 98 R_Or y_Or_why b_Or_why 2 (some .int) 1 := gV_of iw_c2a9ca17 iw_73a2c31a iw_82f64284 iw_16f0de2c iw_1bf1cbda (by decide +kernel)
theorem gw_bd02ee3c : gV R_Law 102 R_Md y_Md_why b_Md_why 2 (some .int) 1 := gV_of iw_44b692fa iw_a021ed05 iw_12c17eb5 iw_b5246c44 iw_6f596291 (by decide +kernel)
theorem gw_c7d312c3 : gH R_Law 103 y_Law_share b_Law_share 6 (some .int) [(0, 10, 13, 13), (0, 10, 17, 29)] 4 := ⟨⟨iw_b6cbbd7e, iw_7891f393, iw_187aa3c5, iw_edf5dd1d⟩, by decide +kernel, by decide +kernel⟩
theorem gw_9786794a : gV R_Law 106 R_Md y_Md_share b_Md_share 12 (some .long) 2 := gV_of iw_954df555 iw_708174bd iw_3dccd841 iw_b5246c44 iw_a7a66aca (by decide +kernel)
theorem gw_ce3bb3ba : gH R_Law 107 y_Law_proof b_Law_proof 6 (some .int) [(0, 12, 15, 13), (0, 12, 19, 15)] 5 := ⟨⟨iw_cbc4e4d8, iw_88960829, iw_b5516771, iw_edf5dd1d⟩, by decide +kernel, by decide +kernel⟩
theorem gw_ac16a07f : gV R_Law 110 R_Md y_Md_proof b_Md_proof 4 (some .int) 3 := gV_of iw_58ede1b5 iw_bd278aa8 iw_bb47c7ca iw_b5246c44 iw_2291cc62 (by decide +kernel)
theorem gw_4d19c659 : gH R_Law 111 y_Law_good b_Law_good 7 (some .int) [(0, 20, 23, 13)] 5 := ⟨⟨iw_718e62d7, iw_916463b0, iw_8ae1a428, iw_edf5dd1d⟩, by decide +kernel, by decide +kernel⟩
theorem gw_60fa6b7c : gV R_Law 114 R_Md y_Md_good b_Md_good 5 (some .boolean) 3 := gV_of iw_07bd6fb2 iw_26edea18 iw_c1ccc091 iw_b5246c44 iw_c9884f68 (by decide +kernel)
theorem gw_8490ddbf : gH R_Law 115 y_Law_own b_Law_own 4 (some .int) [(0, 16, 19, 13)] 3 := ⟨⟨iw_be83cbbf, iw_ec3a7f7d, iw_732117d7, iw_edf5dd1d⟩, by decide +kernel, by decide +kernel⟩
theorem gw_ab3105fb : gV R_Law 118 R_Md y_Md_own b_Md_own 2 (some .boolean) 1 := gV_of iw_94d5ed53 iw_65378607 iw_83ad5bc5 iw_b5246c44 iw_6178a80e (by decide +kernel)
theorem gw_5e3c88f9 : gV R_Law 119 R_Or y_Or_count b_Or_count 2 (some .int) 1 := gV_of iw_24c34bab iw_87046ec1 iw_e61519d0 iw_16f0de2c iw_9689c6cb (by decide +kernel)
theorem gw_826082b5 : gV R_Law 122 R_Md y_Md_count b_Md_count 4 (some .int) 1 := gV_of iw_1e61873e iw_6de4cb27 iw_4a0a562f iw_b5246c44 iw_ec208676 (by decide +kernel)
theorem gw_544ae75a : gI R_Law 43 y_Or_init b_Or_init 1 := ⟨⟨iw_9dc6ee18, iw_392f22ac, iw_16f0de2c, iw_10ef4262⟩, rfl, by decide +kernel⟩
theorem gw_e5d0716c : gI R_Law 46 y_Md_init b_Md_init 1 := ⟨⟨iw_06b31eeb, iw_81f282f1, iw_b5246c44, iw_890d8b9f⟩, rfl, by decide +kernel⟩
