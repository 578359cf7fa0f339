theorem d_Md_init_0 : decode b_Md_init 0 = .ok (.aload_n 0, 1) := by decide +kernel
theorem d_Md_init_1 : decode b_Md_init 1 = .ok (.invokespecial 1, 3) := by decide +kernel
theorem d_Md_init_4 : decode b_Md_init 4 = .ok (.aload_n 0, 1) := by decide +kernel
theorem d_Md_init_5 : decode b_Md_init 5 = .ok (.sipush 300, 3) := by decide +kernel
theorem d_Md_init_8 : decode b_Md_init 8 = .ok (.newarray .int, 2) := by decide +kernel
theorem d_Md_init_10 : decode b_Md_init 10 = .ok (.putfield 7, 3) := by decide +kernel
theorem d_Md_init_13 : decode b_Md_init 13 = .ok (.aload_n 0, 1) := by decide +kernel
theorem d_Md_init_14 : decode b_Md_init 14 = .ok (.sipush 300, 3) := by decide +kernel
theorem d_Md_init_17 : decode b_Md_init 17 = .ok (.newarray .int, 2) := by decide +kernel
theorem d_Md_init_19 : decode b_Md_init 19 = .ok (.putfield 13, 3) := by decide +kernel
theorem d_Md_init_22 : decode b_Md_init 22 = .ok (.aload_n 0, 1) := by decide +kernel
theorem d_Md_init_23 : decode b_Md_init 23 = .ok (.bipush 21, 2) := by decide +kernel
theorem d_Md_init_25 : decode b_Md_init 25 = .ok (.newarray .int, 2) := by decide +kernel
theorem d_Md_init_27 : decode b_Md_init 27 = .ok (.putfield 16, 3) := by decide +kernel
theorem d_Md_init_30 : decode b_Md_init 30 = .ok (.aload_n 0, 1) := by decide +kernel
theorem d_Md_init_31 : decode b_Md_init 31 = .ok (.bipush 21, 2) := by decide +kernel
theorem d_Md_init_33 : decode b_Md_init 33 = .ok (.newarray .int, 2) := by decide +kernel
theorem d_Md_init_35 : decode b_Md_init 35 = .ok (.putfield 19, 3) := by decide +kernel
theorem d_Md_init_38 : decode b_Md_init 38 = .ok (.aload_n 0, 1) := by decide +kernel
theorem d_Md_init_39 : decode b_Md_init 39 = .ok (.bipush 12, 2) := by decide +kernel
theorem d_Md_init_41 : decode b_Md_init 41 = .ok (.newarray .int, 2) := by decide +kernel
theorem d_Md_init_43 : decode b_Md_init 43 = .ok (.putfield 22, 3) := by decide +kernel
theorem d_Md_init_46 : decode b_Md_init 46 = .ok (.aload_n 0, 1) := by decide +kernel
theorem d_Md_init_47 : decode b_Md_init 47 = .ok (.bipush 12, 2) := by decide +kernel
theorem d_Md_init_49 : decode b_Md_init 49 = .ok (.newarray .int, 2) := by decide +kernel
theorem d_Md_init_51 : decode b_Md_init 51 = .ok (.putfield 25, 3) := by decide +kernel
theorem d_Md_init_54 : decode b_Md_init 54 = .ok (.aload_n 0, 1) := by decide +kernel
theorem d_Md_init_55 : decode b_Md_init 55 = .ok (.bipush 12, 2) := by decide +kernel
theorem d_Md_init_57 : decode b_Md_init 57 = .ok (.newarray .long, 2) := by decide +kernel
theorem d_Md_init_59 : decode b_Md_init 59 = .ok (.putfield 28, 3) := by decide +kernel
theorem d_Md_init_62 : decode b_Md_init 62 = .ok (.aload_n 0, 1) := by decide +kernel
theorem d_Md_init_63 : decode b_Md_init 63 = .ok (.bipush 100, 2) := by decide +kernel
theorem d_Md_init_65 : decode b_Md_init 65 = .ok (.newarray .boolean, 2) := by decide +kernel
theorem d_Md_init_67 : decode b_Md_init 67 = .ok (.putfield 32, 3) := by decide +kernel
theorem d_Md_init_70 : decode b_Md_init 70 = .ok (.aload_n 0, 1) := by decide +kernel
theorem d_Md_init_71 : decode b_Md_init 71 = .ok (.iconst 1, 1) := by decide +kernel
theorem d_Md_init_72 : decode b_Md_init 72 = .ok (.putfield 36, 3) := by decide +kernel
theorem d_Md_init_75 : decode b_Md_init 75 = .ok (.aload_n 0, 1) := by decide +kernel
theorem d_Md_init_76 : decode b_Md_init 76 = .ok (.bipush 20, 2) := by decide +kernel
theorem d_Md_init_78 : decode b_Md_init 78 = .ok (.newarray .int, 2) := by decide +kernel
theorem d_Md_init_80 : decode b_Md_init 80 = .ok (.putfield 40, 3) := by decide +kernel
theorem d_Md_init_83 : decode b_Md_init 83 = .ok (.aload_n 0, 1) := by decide +kernel
theorem d_Md_init_84 : decode b_Md_init 84 = .ok (.bipush 20, 2) := by decide +kernel
theorem d_Md_init_86 : decode b_Md_init 86 = .ok (.newarray .int, 2) := by decide +kernel
theorem d_Md_init_88 : decode b_Md_init 88 = .ok (.putfield 43, 3) := by decide +kernel
theorem d_Md_init_91 : decode b_Md_init 91 = .ok (.aload_n 0, 1) := by decide +kernel
theorem d_Md_init_92 : decode b_Md_init 92 = .ok (.bipush 20, 2) := by decide +kernel
theorem d_Md_init_94 : decode b_Md_init 94 = .ok (.newarray .int, 2) := by decide +kernel
theorem d_Md_init_96 : decode b_Md_init 96 = .ok (.putfield 46, 3) := by decide +kernel
theorem d_Md_init_99 : decode b_Md_init 99 = .ok (.aload_n 0, 1) := by decide +kernel
theorem d_Md_init_100 : decode b_Md_init 100 = .ok (.sipush 300, 3) := by decide +kernel
theorem d_Md_init_103 : decode b_Md_init 103 = .ok (.newarray .int, 2) := by decide +kernel
theorem d_Md_init_105 : decode b_Md_init 105 = .ok (.putfield 49, 3) := by decide +kernel
theorem d_Md_init_108 : decode b_Md_init 108 = .ok (.aload_n 0, 1) := by decide +kernel
theorem d_Md_init_109 : decode b_Md_init 109 = .ok (.bipush 9, 2) := by decide +kernel
theorem d_Md_init_111 : decode b_Md_init 111 = .ok (.newarray .boolean, 2) := by decide +kernel
theorem d_Md_init_113 : decode b_Md_init 113 = .ok (.putfield 52, 3) := by decide +kernel
theorem d_Md_init_116 : decode b_Md_init 116 = .ok (.aload_n 0, 1) := by decide +kernel
theorem d_Md_init_117 : decode b_Md_init 117 = .ok (.bipush 9, 2) := by decide +kernel
theorem d_Md_init_119 : decode b_Md_init 119 = .ok (.newarray .boolean, 2) := by decide +kernel
theorem d_Md_init_121 : decode b_Md_init 121 = .ok (.putfield 55, 3) := by decide +kernel
theorem d_Md_init_124 : decode b_Md_init 124 = .ok (.aload_n 0, 1) := by decide +kernel
theorem d_Md_init_125 : decode b_Md_init 125 = .ok (.bipush 9, 2) := by decide +kernel
theorem d_Md_init_127 : decode b_Md_init 127 = .ok (.newarray .boolean, 2) := by decide +kernel
theorem d_Md_init_129 : decode b_Md_init 129 = .ok (.putfield 58, 3) := by decide +kernel
theorem d_Md_init_132 : decode b_Md_init 132 = .ok (.return_, 1) := by decide +kernel
theorem d_Md_thrown_0 : decode b_Md_thrown 0 = .ok (.aload_n 0, 1) := by decide +kernel
theorem d_Md_thrown_1 : decode b_Md_thrown 1 = .ok (.getfield 61, 3) := by decide +kernel
theorem d_Md_thrown_4 : decode b_Md_thrown 4 = .ok (.ireturn, 1) := by decide +kernel
theorem d_Md_refuse_0 : decode b_Md_refuse 0 = .ok (.aload_n 0, 1) := by decide +kernel
theorem d_Md_refuse_1 : decode b_Md_refuse 1 = .ok (.iload_n 1, 1) := by decide +kernel
theorem d_Md_refuse_2 : decode b_Md_refuse 2 = .ok (.putfield 61, 3) := by decide +kernel
theorem d_Md_refuse_5 : decode b_Md_refuse 5 = .ok (.iconst 0, 1) := by decide +kernel
theorem d_Md_refuse_6 : decode b_Md_refuse 6 = .ok (.ireturn, 1) := by decide +kernel
theorem d_Md_in_0 : decode b_Md_in 0 = .ok (.lload_n 0, 1) := by decide +kernel
theorem d_Md_in_1 : decode b_Md_in 1 = .ok (.lload_n 2, 1) := by decide +kernel
theorem d_Md_in_2 : decode b_Md_in 2 = .ok (.lcmp, 1) := by decide +kernel
theorem d_Md_in_3 : decode b_Md_in 3 = .ok (.ifCond .lt 14, 3) := by decide +kernel
theorem d_Md_in_6 : decode b_Md_in 6 = .ok (.lload_n 0, 1) := by decide +kernel
theorem d_Md_in_7 : decode b_Md_in 7 = .ok (.lload 4, 2) := by decide +kernel
theorem d_Md_in_9 : decode b_Md_in 9 = .ok (.lcmp, 1) := by decide +kernel
theorem d_Md_in_10 : decode b_Md_in 10 = .ok (.ifCond .gt 7, 3) := by decide +kernel
theorem d_Md_in_13 : decode b_Md_in 13 = .ok (.iconst 1, 1) := by decide +kernel
theorem d_Md_in_14 : decode b_Md_in 14 = .ok (.goto 4, 3) := by decide +kernel
theorem d_Md_in_17 : decode b_Md_in 17 = .ok (.iconst 0, 1) := by decide +kernel
theorem d_Md_in_18 : decode b_Md_in 18 = .ok (.ireturn, 1) := by decide +kernel
theorem d_Md_isDigit_0 : decode b_Md_isDigit 0 = .ok (.iload_n 0, 1) := by decide +kernel
theorem d_Md_isDigit_1 : decode b_Md_isDigit 1 = .ok (.bipush 48, 2) := by decide +kernel
theorem d_Md_isDigit_3 : decode b_Md_isDigit 3 = .ok (.if_icmp .lt 13, 3) := by decide +kernel
theorem d_Md_isDigit_6 : decode b_Md_isDigit 6 = .ok (.iload_n 0, 1) := by decide +kernel
theorem d_Md_isDigit_7 : decode b_Md_isDigit 7 = .ok (.bipush 57, 2) := by decide +kernel
theorem d_Md_isDigit_9 : decode b_Md_isDigit 9 = .ok (.if_icmp .gt 7, 3) := by decide +kernel
theorem d_Md_isDigit_12 : decode b_Md_isDigit 12 = .ok (.iconst 1, 1) := by decide +kernel
theorem d_Md_isDigit_13 : decode b_Md_isDigit 13 = .ok (.goto 4, 3) := by decide +kernel
theorem d_Md_isDigit_16 : decode b_Md_isDigit 16 = .ok (.iconst 0, 1) := by decide +kernel
theorem d_Md_isDigit_17 : decode b_Md_isDigit 17 = .ok (.ireturn, 1) := by decide +kernel
theorem d_Md_sign_0 : decode b_Md_sign 0 = .ok (.aload_n 0, 1) := by decide +kernel
theorem d_Md_sign_1 : decode b_Md_sign 1 = .ok (.iconst 0, 1) := by decide +kernel
theorem d_Md_sign_2 : decode b_Md_sign 2 = .ok (.putfield 61, 3) := by decide +kernel
theorem d_Md_sign_5 : decode b_Md_sign 5 = .ok (.iload_n 1, 1) := by decide +kernel
theorem d_Md_sign_6 : decode b_Md_sign 6 = .ok (.i2l, 1) := by decide +kernel
theorem d_Md_sign_7 : decode b_Md_sign 7 = .ok (.ldc2_w 64, 3) := by decide +kernel
theorem d_Md_sign_10 : decode b_Md_sign 10 = .ok (.ldc2_w 66, 3) := by decide +kernel
theorem d_Md_sign_13 : decode b_Md_sign 13 = .ok (.invokestatic 68, 3) := by decide +kernel
theorem d_Md_sign_16 : decode b_Md_sign 16 = .ok (.ifCond .eq 13, 3) := by decide +kernel
theorem d_Md_sign_19 : decode b_Md_sign 19 = .ok (.aload_n 0, 1) := by decide +kernel
theorem d_Md_sign_20 : decode b_Md_sign 20 = .ok (.getfield 72, 3) := by decide +kernel
theorem d_Md_sign_23 : decode b_Md_sign 23 = .ok (.sipush 300, 3) := by decide +kernel
theorem d_Md_sign_26 : decode b_Md_sign 26 = .ok (.if_icmp .ne 5, 3) := by decide +kernel
theorem d_Md_sign_29 : decode b_Md_sign 29 = .ok (.iconst 0, 1) := by decide +kernel
theorem d_Md_sign_30 : decode b_Md_sign 30 = .ok (.ireturn, 1) := by decide +kernel
theorem d_Md_sign_31 : decode b_Md_sign 31 = .ok (.aload_n 0, 1) := by decide +kernel
theorem d_Md_sign_32 : decode b_Md_sign 32 = .ok (.getfield 7, 3) := by decide +kernel
theorem d_Md_sign_35 : decode b_Md_sign 35 = .ok (.aload_n 0, 1) := by decide +kernel
theorem d_Md_sign_36 : decode b_Md_sign 36 = .ok (.getfield 72, 3) := by decide +kernel
theorem d_Md_sign_39 : decode b_Md_sign 39 = .ok (.iload_n 1, 1) := by decide +kernel
theorem d_Md_sign_40 : decode b_Md_sign 40 = .ok (.iastore, 1) := by decide +kernel
theorem d_Md_sign_41 : decode b_Md_sign 41 = .ok (.aload_n 0, 1) := by decide +kernel
theorem d_Md_sign_42 : decode b_Md_sign 42 = .ok (.dup, 1) := by decide +kernel
theorem d_Md_sign_43 : decode b_Md_sign 43 = .ok (.getfield 72, 3) := by decide +kernel
theorem d_Md_sign_46 : decode b_Md_sign 46 = .ok (.iconst 1, 1) := by decide +kernel
theorem d_Md_sign_47 : decode b_Md_sign 47 = .ok (.iadd, 1) := by decide +kernel
theorem d_Md_sign_48 : decode b_Md_sign 48 = .ok (.putfield 72, 3) := by decide +kernel
theorem d_Md_sign_51 : decode b_Md_sign 51 = .ok (.iconst 1, 1) := by decide +kernel
theorem d_Md_sign_52 : decode b_Md_sign 52 = .ok (.ireturn, 1) := by decide +kernel
theorem d_Md_behind_0 : decode b_Md_behind 0 = .ok (.iload_n 0, 1) := by decide +kernel
theorem d_Md_behind_1 : decode b_Md_behind 1 = .ok (.bipush 38, 2) := by decide +kernel
theorem d_Md_behind_3 : decode b_Md_behind 3 = .ok (.if_icmp .eq 9, 3) := by decide +kernel
theorem d_Md_behind_6 : decode b_Md_behind 6 = .ok (.iload_n 0, 1) := by decide +kernel
theorem d_Md_behind_7 : decode b_Md_behind 7 = .ok (.bipush 124, 2) := by decide +kernel
theorem d_Md_behind_9 : decode b_Md_behind 9 = .ok (.if_icmp .ne 7, 3) := by decide +kernel
theorem d_Md_behind_12 : decode b_Md_behind 12 = .ok (.iconst 2, 1) := by decide +kernel
theorem d_Md_behind_13 : decode b_Md_behind 13 = .ok (.goto 32, 3) := by decide +kernel
theorem d_Md_behind_16 : decode b_Md_behind 16 = .ok (.iload_n 0, 1) := by decide +kernel
theorem d_Md_behind_17 : decode b_Md_behind 17 = .ok (.bipush 41, 2) := by decide +kernel
theorem d_Md_behind_19 : decode b_Md_behind 19 = .ok (.if_icmp .ne 11, 3) := by decide +kernel
theorem d_Md_behind_22 : decode b_Md_behind 22 = .ok (.iload_n 1, 1) := by decide +kernel
theorem d_Md_behind_23 : decode b_Md_behind 23 = .ok (.ifCond .le 7, 3) := by decide +kernel
theorem d_Md_behind_26 : decode b_Md_behind 26 = .ok (.iconst 3, 1) := by decide +kernel
theorem d_Md_behind_27 : decode b_Md_behind 27 = .ok (.goto 18, 3) := by decide +kernel
theorem d_Md_behind_30 : decode b_Md_behind 30 = .ok (.iload_n 0, 1) := by decide +kernel
theorem d_Md_behind_31 : decode b_Md_behind 31 = .ok (.bipush 59, 2) := by decide +kernel
theorem d_Md_behind_33 : decode b_Md_behind 33 = .ok (.if_icmp .ne 11, 3) := by decide +kernel
theorem d_Md_behind_36 : decode b_Md_behind 36 = .ok (.iload_n 1, 1) := by decide +kernel
theorem d_Md_behind_37 : decode b_Md_behind 37 = .ok (.ifCond .ne 7, 3) := by decide +kernel
theorem d_Md_behind_40 : decode b_Md_behind 40 = .ok (.iconst 0, 1) := by decide +kernel
theorem d_Md_behind_41 : decode b_Md_behind 41 = .ok (.goto 4, 3) := by decide +kernel
theorem d_Md_behind_44 : decode b_Md_behind 44 = .ok (.iconst (-1), 1) := by decide +kernel
theorem d_Md_behind_45 : decode b_Md_behind 45 = .ok (.ireturn, 1) := by decide +kernel
theorem d_Md_ahead_0 : decode b_Md_ahead 0 = .ok (.iload_n 0, 1) := by decide +kernel
theorem d_Md_ahead_1 : decode b_Md_ahead 1 = .ok (.bipush 87, 2) := by decide +kernel
theorem d_Md_ahead_3 : decode b_Md_ahead 3 = .ok (.if_icmp .eq 21, 3) := by decide +kernel
theorem d_Md_ahead_6 : decode b_Md_ahead 6 = .ok (.iload_n 0, 1) := by decide +kernel
theorem d_Md_ahead_7 : decode b_Md_ahead 7 = .ok (.bipush 67, 2) := by decide +kernel
theorem d_Md_ahead_9 : decode b_Md_ahead 9 = .ok (.if_icmp .eq 15, 3) := by decide +kernel
theorem d_Md_ahead_12 : decode b_Md_ahead 12 = .ok (.iload_n 0, 1) := by decide +kernel
theorem d_Md_ahead_13 : decode b_Md_ahead 13 = .ok (.bipush 72, 2) := by decide +kernel
theorem d_Md_ahead_15 : decode b_Md_ahead 15 = .ok (.if_icmp .eq 9, 3) := by decide +kernel
theorem d_Md_ahead_18 : decode b_Md_ahead 18 = .ok (.iload_n 0, 1) := by decide +kernel
theorem d_Md_ahead_19 : decode b_Md_ahead 19 = .ok (.bipush 83, 2) := by decide +kernel
theorem d_Md_ahead_21 : decode b_Md_ahead 21 = .ok (.if_icmp .ne 5, 3) := by decide +kernel
theorem d_Md_ahead_24 : decode b_Md_ahead 24 = .ok (.iconst 3, 1) := by decide +kernel
theorem d_Md_ahead_25 : decode b_Md_ahead 25 = .ok (.ireturn, 1) := by decide +kernel
theorem d_Md_ahead_26 : decode b_Md_ahead 26 = .ok (.iload_n 0, 1) := by decide +kernel
theorem d_Md_ahead_27 : decode b_Md_ahead 27 = .ok (.bipush 86, 2) := by decide +kernel
theorem d_Md_ahead_29 : decode b_Md_ahead 29 = .ok (.if_icmp .ne 7, 3) := by decide +kernel
theorem d_Md_ahead_32 : decode b_Md_ahead 32 = .ok (.iconst 4, 1) := by decide +kernel
theorem d_Md_ahead_33 : decode b_Md_ahead 33 = .ok (.goto 30, 3) := by decide +kernel
theorem d_Md_ahead_36 : decode b_Md_ahead 36 = .ok (.iload_n 0, 1) := by decide +kernel
theorem d_Md_ahead_37 : decode b_Md_ahead 37 = .ok (.bipush 80, 2) := by decide +kernel
theorem d_Md_ahead_39 : decode b_Md_ahead 39 = .ok (.if_icmp .ne 7, 3) := by decide +kernel
theorem d_Md_ahead_42 : decode b_Md_ahead 42 = .ok (.iconst 5, 1) := by decide +kernel
theorem d_Md_ahead_43 : decode b_Md_ahead 43 = .ok (.goto 20, 3) := by decide +kernel
theorem d_Md_ahead_46 : decode b_Md_ahead 46 = .ok (.iload_n 0, 1) := by decide +kernel
theorem d_Md_ahead_47 : decode b_Md_ahead 47 = .ok (.bipush 40, 2) := by decide +kernel
theorem d_Md_ahead_49 : decode b_Md_ahead 49 = .ok (.if_icmp .ne 13, 3) := by decide +kernel
theorem d_Md_ahead_52 : decode b_Md_ahead 52 = .ok (.iload_n 1, 1) := by decide +kernel
theorem d_Md_ahead_53 : decode b_Md_ahead 53 = .ok (.bipush 8, 2) := by decide +kernel
theorem d_Md_ahead_55 : decode b_Md_ahead 55 = .ok (.if_icmp .ge 7, 3) := by decide +kernel
theorem d_Md_ahead_58 : decode b_Md_ahead 58 = .ok (.iconst 2, 1) := by decide +kernel
theorem d_Md_ahead_59 : decode b_Md_ahead 59 = .ok (.goto 4, 3) := by decide +kernel
theorem d_Md_ahead_62 : decode b_Md_ahead 62 = .ok (.iconst (-1), 1) := by decide +kernel
theorem d_Md_ahead_63 : decode b_Md_ahead 63 = .ok (.ireturn, 1) := by decide +kernel
theorem d_Md_read_0 : decode b_Md_read 0 = .ok (.aload_n 0, 1) := by decide +kernel
theorem d_Md_read_1 : decode b_Md_read 1 = .ok (.iconst 0, 1) := by decide +kernel
theorem d_Md_read_2 : decode b_Md_read 2 = .ok (.putfield 61, 3) := by decide +kernel
theorem d_Md_read_5 : decode b_Md_read 5 = .ok (.iconst 0, 1) := by decide +kernel
theorem d_Md_read_6 : decode b_Md_read 6 = .ok (.istore_n 1, 1) := by decide +kernel
theorem d_Md_read_7 : decode b_Md_read 7 = .ok (.iconst 0, 1) := by decide +kernel
theorem d_Md_read_8 : decode b_Md_read 8 = .ok (.istore_n 2, 1) := by decide +kernel
theorem d_Md_read_9 : decode b_Md_read 9 = .ok (.iconst 0, 1) := by decide +kernel
theorem d_Md_read_10 : decode b_Md_read 10 = .ok (.istore_n 3, 1) := by decide +kernel
theorem d_Md_read_11 : decode b_Md_read 11 = .ok (.iconst 0, 1) := by decide +kernel
theorem d_Md_read_12 : decode b_Md_read 12 = .ok (.istore 4, 2) := by decide +kernel
theorem d_Md_read_14 : decode b_Md_read 14 = .ok (.iconst 0, 1) := by decide +kernel
theorem d_Md_read_15 : decode b_Md_read 15 = .ok (.istore 5, 2) := by decide +kernel
theorem d_Md_read_17 : decode b_Md_read 17 = .ok (.iconst (-1), 1) := by decide +kernel
theorem d_Md_read_18 : decode b_Md_read 18 = .ok (.istore 6, 2) := by decide +kernel
theorem d_Md_read_20 : decode b_Md_read 20 = .ok (.iconst 0, 1) := by decide +kernel
theorem d_Md_read_21 : decode b_Md_read 21 = .ok (.istore 7, 2) := by decide +kernel
theorem d_Md_read_23 : decode b_Md_read 23 = .ok (.iload 7, 2) := by decide +kernel
theorem d_Md_read_25 : decode b_Md_read 25 = .ok (.aload_n 0, 1) := by decide +kernel
theorem d_Md_read_26 : decode b_Md_read 26 = .ok (.getfield 72, 3) := by decide +kernel
theorem d_Md_read_29 : decode b_Md_read 29 = .ok (.if_icmp .ge 296, 3) := by decide +kernel
theorem d_Md_read_32 : decode b_Md_read 32 = .ok (.iload 6, 2) := by decide +kernel
theorem d_Md_read_34 : decode b_Md_read 34 = .ok (.ifCond .ge 291, 3) := by decide +kernel
theorem d_Md_read_37 : decode b_Md_read 37 = .ok (.aload_n 0, 1) := by decide +kernel
theorem d_Md_read_38 : decode b_Md_read 38 = .ok (.getfield 7, 3) := by decide +kernel
theorem d_Md_read_41 : decode b_Md_read 41 = .ok (.iload 7, 2) := by decide +kernel
theorem d_Md_read_43 : decode b_Md_read 43 = .ok (.iaload, 1) := by decide +kernel
theorem d_Md_read_44 : decode b_Md_read 44 = .ok (.istore 8, 2) := by decide +kernel
theorem d_Md_read_46 : decode b_Md_read 46 = .ok (.iload 8, 2) := by decide +kernel
theorem d_Md_read_48 : decode b_Md_read 48 = .ok (.invokestatic 75, 3) := by decide +kernel
theorem d_Md_read_51 : decode b_Md_read 51 = .ok (.istore 9, 2) := by decide +kernel
theorem d_Md_read_53 : decode b_Md_read 53 = .ok (.iconst (-1), 1) := by decide +kernel
theorem d_Md_read_54 : decode b_Md_read 54 = .ok (.istore 10, 2) := by decide +kernel
theorem d_Md_read_56 : decode b_Md_read 56 = .ok (.iload_n 1, 1) := by decide +kernel
theorem d_Md_read_57 : decode b_Md_read 57 = .ok (.ifCond .ne 7, 3) := by decide +kernel
theorem d_Md_read_60 : decode b_Md_read 60 = .ok (.iconst 1, 1) := by decide +kernel
theorem d_Md_read_61 : decode b_Md_read 61 = .ok (.goto 4, 3) := by decide +kernel
theorem d_Md_read_64 : decode b_Md_read 64 = .ok (.iconst 0, 1) := by decide +kernel
theorem d_Md_read_65 : decode b_Md_read 65 = .ok (.istore 11, 2) := by decide +kernel
theorem d_Md_read_67 : decode b_Md_read 67 = .ok (.iload 11, 2) := by decide +kernel
theorem d_Md_read_69 : decode b_Md_read 69 = .ok (.ifCond .eq 36, 3) := by decide +kernel
theorem d_Md_read_72 : decode b_Md_read 72 = .ok (.aload_n 0, 1) := by decide +kernel
theorem d_Md_read_73 : decode b_Md_read 73 = .ok (.getfield 19, 3) := by decide +kernel
theorem d_Md_read_76 : decode b_Md_read 76 = .ok (.iload 5, 2) := by decide +kernel
theorem d_Md_read_78 : decode b_Md_read 78 = .ok (.iload 7, 2) := by decide +kernel
theorem d_Md_read_80 : decode b_Md_read 80 = .ok (.iastore, 1) := by decide +kernel
theorem d_Md_read_81 : decode b_Md_read 81 = .ok (.iload 9, 2) := by decide +kernel
theorem d_Md_read_83 : decode b_Md_read 83 = .ok (.ifCond .eq 14, 3) := by decide +kernel
theorem d_Md_read_86 : decode b_Md_read 86 = .ok (.iload 5, 2) := by decide +kernel
theorem d_Md_read_88 : decode b_Md_read 88 = .ok (.bipush 20, 2) := by decide +kernel
theorem d_Md_read_90 : decode b_Md_read 90 = .ok (.if_icmp .ge 7, 3) := by decide +kernel
theorem d_Md_read_93 : decode b_Md_read 93 = .ok (.iconst 1, 1) := by decide +kernel
theorem d_Md_read_94 : decode b_Md_read 94 = .ok (.goto 4, 3) := by decide +kernel
theorem d_Md_read_97 : decode b_Md_read 97 = .ok (.iconst (-1), 1) := by decide +kernel
theorem d_Md_read_98 : decode b_Md_read 98 = .ok (.istore 10, 2) := by decide +kernel
theorem d_Md_read_100 : decode b_Md_read 100 = .ok (.iconst 1, 1) := by decide +kernel
theorem d_Md_read_101 : decode b_Md_read 101 = .ok (.istore_n 3, 1) := by decide +kernel
theorem d_Md_read_102 : decode b_Md_read 102 = .ok (.goto 150, 3) := by decide +kernel
theorem d_Md_read_105 : decode b_Md_read 105 = .ok (.iload_n 1, 1) := by decide +kernel
theorem d_Md_read_106 : decode b_Md_read 106 = .ok (.iconst 1, 1) := by decide +kernel
theorem d_Md_read_107 : decode b_Md_read 107 = .ok (.if_icmp .ne 38, 3) := by decide +kernel
theorem d_Md_read_110 : decode b_Md_read 110 = .ok (.iload 9, 2) := by decide +kernel
theorem d_Md_read_112 : decode b_Md_read 112 = .ok (.ifCond .eq 13, 3) := by decide +kernel
theorem d_Md_read_115 : decode b_Md_read 115 = .ok (.iload_n 3, 1) := by decide +kernel
theorem d_Md_read_116 : decode b_Md_read 116 = .ok (.bipush 6, 2) := by decide +kernel
theorem d_Md_read_118 : decode b_Md_read 118 = .ok (.if_icmp .ge 7, 3) := by decide +kernel
theorem d_Md_read_121 : decode b_Md_read 121 = .ok (.iconst 1, 1) := by decide +kernel
theorem d_Md_read_122 : decode b_Md_read 122 = .ok (.goto 15, 3) := by decide +kernel
theorem d_Md_read_125 : decode b_Md_read 125 = .ok (.iload 8, 2) := by decide +kernel
theorem d_Md_read_127 : decode b_Md_read 127 = .ok (.bipush 58, 2) := by decide +kernel
theorem d_Md_read_129 : decode b_Md_read 129 = .ok (.if_icmp .ne 7, 3) := by decide +kernel
theorem d_Md_read_132 : decode b_Md_read 132 = .ok (.iconst 2, 1) := by decide +kernel
theorem d_Md_read_133 : decode b_Md_read 133 = .ok (.goto 4, 3) := by decide +kernel
theorem d_Md_read_136 : decode b_Md_read 136 = .ok (.iconst (-1), 1) := by decide +kernel
theorem d_Md_read_137 : decode b_Md_read 137 = .ok (.istore 10, 2) := by decide +kernel
theorem d_Md_read_139 : decode b_Md_read 139 = .ok (.iinc 3 1, 3) := by decide +kernel
theorem d_Md_read_142 : decode b_Md_read 142 = .ok (.goto 110, 3) := by decide +kernel
theorem d_Md_read_145 : decode b_Md_read 145 = .ok (.iload_n 1, 1) := by decide +kernel
theorem d_Md_read_146 : decode b_Md_read 146 = .ok (.iconst 2, 1) := by decide +kernel
theorem d_Md_read_147 : decode b_Md_read 147 = .ok (.if_icmp .ne 19, 3) := by decide +kernel
theorem d_Md_read_150 : decode b_Md_read 150 = .ok (.iload 8, 2) := by decide +kernel
theorem d_Md_read_152 : decode b_Md_read 152 = .ok (.iload_n 2, 1) := by decide +kernel
theorem d_Md_read_153 : decode b_Md_read 153 = .ok (.invokestatic 79, 3) := by decide +kernel
theorem d_Md_read_156 : decode b_Md_read 156 = .ok (.istore 10, 2) := by decide +kernel
theorem d_Md_read_158 : decode b_Md_read 158 = .ok (.iconst 0, 1) := by decide +kernel
theorem d_Md_read_159 : decode b_Md_read 159 = .ok (.istore_n 3, 1) := by decide +kernel
theorem d_Md_read_160 : decode b_Md_read 160 = .ok (.iconst 0, 1) := by decide +kernel
theorem d_Md_read_161 : decode b_Md_read 161 = .ok (.istore 4, 2) := by decide +kernel
theorem d_Md_read_163 : decode b_Md_read 163 = .ok (.goto 89, 3) := by decide +kernel
theorem d_Md_read_166 : decode b_Md_read 166 = .ok (.iload_n 1, 1) := by decide +kernel
theorem d_Md_read_167 : decode b_Md_read 167 = .ok (.iconst 3, 1) := by decide +kernel
theorem d_Md_read_168 : decode b_Md_read 168 = .ok (.if_icmp .ne 14, 3) := by decide +kernel
theorem d_Md_read_171 : decode b_Md_read 171 = .ok (.iload 8, 2) := by decide +kernel
theorem d_Md_read_173 : decode b_Md_read 173 = .ok (.iload_n 2, 1) := by decide +kernel
theorem d_Md_read_174 : decode b_Md_read 174 = .ok (.invokestatic 83, 3) := by decide +kernel
theorem d_Md_read_177 : decode b_Md_read 177 = .ok (.istore 10, 2) := by decide +kernel
theorem d_Md_read_179 : decode b_Md_read 179 = .ok (.goto 73, 3) := by decide +kernel
theorem d_Md_read_182 : decode b_Md_read 182 = .ok (.iload 9, 2) := by decide +kernel
theorem d_Md_read_184 : decode b_Md_read 184 = .ok (.ifCond .eq 39, 3) := by decide +kernel
theorem d_Md_read_187 : decode b_Md_read 187 = .ok (.iload_n 3, 1) := by decide +kernel
theorem d_Md_read_188 : decode b_Md_read 188 = .ok (.iload_n 1, 1) := by decide +kernel
theorem d_Md_read_189 : decode b_Md_read 189 = .ok (.iconst 4, 1) := by decide +kernel
theorem d_Md_read_190 : decode b_Md_read 190 = .ok (.if_icmp .ne 7, 3) := by decide +kernel
theorem d_Md_read_193 : decode b_Md_read 193 = .ok (.iconst 3, 1) := by decide +kernel
theorem d_Md_read_194 : decode b_Md_read 194 = .ok (.goto 4, 3) := by decide +kernel
theorem d_Md_read_197 : decode b_Md_read 197 = .ok (.iconst 2, 1) := by decide +kernel
theorem d_Md_read_198 : decode b_Md_read 198 = .ok (.if_icmp .ge 25, 3) := by decide +kernel
theorem d_Md_read_201 : decode b_Md_read 201 = .ok (.iload_n 1, 1) := by decide +kernel
theorem d_Md_read_202 : decode b_Md_read 202 = .ok (.istore 10, 2) := by decide +kernel
theorem d_Md_read_204 : decode b_Md_read 204 = .ok (.iinc 3 1, 3) := by decide +kernel
theorem d_Md_read_207 : decode b_Md_read 207 = .ok (.bipush 10, 2) := by decide +kernel
theorem d_Md_read_209 : decode b_Md_read 209 = .ok (.iload 4, 2) := by decide +kernel
theorem d_Md_read_211 : decode b_Md_read 211 = .ok (.imul, 1) := by decide +kernel
theorem d_Md_read_212 : decode b_Md_read 212 = .ok (.iload 8, 2) := by decide +kernel
theorem d_Md_read_214 : decode b_Md_read 214 = .ok (.iadd, 1) := by decide +kernel
theorem d_Md_read_215 : decode b_Md_read 215 = .ok (.bipush 48, 2) := by decide +kernel
theorem d_Md_read_217 : decode b_Md_read 217 = .ok (.isub, 1) := by decide +kernel
theorem d_Md_read_218 : decode b_Md_read 218 = .ok (.istore 4, 2) := by decide +kernel
theorem d_Md_read_220 : decode b_Md_read 220 = .ok (.goto 32, 3) := by decide +kernel
theorem d_Md_read_223 : decode b_Md_read 223 = .ok (.iload_n 3, 1) := by decide +kernel
theorem d_Md_read_224 : decode b_Md_read 224 = .ok (.ifCond .le 28, 3) := by decide +kernel
theorem d_Md_read_227 : decode b_Md_read 227 = .ok (.iload 4, 2) := by decide +kernel
theorem d_Md_read_229 : decode b_Md_read 229 = .ok (.iload_n 1, 1) := by decide +kernel
theorem d_Md_read_230 : decode b_Md_read 230 = .ok (.iconst 4, 1) := by decide +kernel
theorem d_Md_read_231 : decode b_Md_read 231 = .ok (.if_icmp .ne 8, 3) := by decide +kernel
theorem d_Md_read_234 : decode b_Md_read 234 = .ok (.bipush 100, 2) := by decide +kernel
theorem d_Md_read_236 : decode b_Md_read 236 = .ok (.goto 5, 3) := by decide +kernel
theorem d_Md_read_239 : decode b_Md_read 239 = .ok (.bipush 15, 2) := by decide +kernel
theorem d_Md_read_241 : decode b_Md_read 241 = .ok (.if_icmp .gt 11, 3) := by decide +kernel
theorem d_Md_read_244 : decode b_Md_read 244 = .ok (.iload 8, 2) := by decide +kernel
theorem d_Md_read_246 : decode b_Md_read 246 = .ok (.iload_n 2, 1) := by decide +kernel
theorem d_Md_read_247 : decode b_Md_read 247 = .ok (.invokestatic 83, 3) := by decide +kernel
theorem d_Md_read_250 : decode b_Md_read 250 = .ok (.istore 10, 2) := by decide +kernel
theorem d_Md_read_252 : decode b_Md_read 252 = .ok (.iload 10, 2) := by decide +kernel
theorem d_Md_read_254 : decode b_Md_read 254 = .ok (.ifCond .ge 8, 3) := by decide +kernel
theorem d_Md_read_257 : decode b_Md_read 257 = .ok (.iload 7, 2) := by decide +kernel
theorem d_Md_read_259 : decode b_Md_read 259 = .ok (.goto 5, 3) := by decide +kernel
theorem d_Md_read_262 : decode b_Md_read 262 = .ok (.iload 6, 2) := by decide +kernel
theorem d_Md_read_264 : decode b_Md_read 264 = .ok (.istore 6, 2) := by decide +kernel
theorem d_Md_read_266 : decode b_Md_read 266 = .ok (.iload_n 2, 1) := by decide +kernel
theorem d_Md_read_267 : decode b_Md_read 267 = .ok (.iload 8, 2) := by decide +kernel
theorem d_Md_read_269 : decode b_Md_read 269 = .ok (.bipush 40, 2) := by decide +kernel
theorem d_Md_read_271 : decode b_Md_read 271 = .ok (.if_icmp .ne 7, 3) := by decide +kernel
theorem d_Md_read_274 : decode b_Md_read 274 = .ok (.iconst 1, 1) := by decide +kernel
theorem d_Md_read_275 : decode b_Md_read 275 = .ok (.goto 15, 3) := by decide +kernel
theorem d_Md_read_278 : decode b_Md_read 278 = .ok (.iload 8, 2) := by decide +kernel
theorem d_Md_read_280 : decode b_Md_read 280 = .ok (.bipush 41, 2) := by decide +kernel
theorem d_Md_read_282 : decode b_Md_read 282 = .ok (.if_icmp .ne 7, 3) := by decide +kernel
theorem d_Md_read_285 : decode b_Md_read 285 = .ok (.iconst (-1), 1) := by decide +kernel
theorem d_Md_read_286 : decode b_Md_read 286 = .ok (.goto 4, 3) := by decide +kernel
theorem d_Md_read_289 : decode b_Md_read 289 = .ok (.iconst 0, 1) := by decide +kernel
theorem d_Md_read_290 : decode b_Md_read 290 = .ok (.iadd, 1) := by decide +kernel
theorem d_Md_read_291 : decode b_Md_read 291 = .ok (.istore_n 2, 1) := by decide +kernel
theorem d_Md_read_292 : decode b_Md_read 292 = .ok (.iload 5, 2) := by decide +kernel
theorem d_Md_read_294 : decode b_Md_read 294 = .ok (.iload 10, 2) := by decide +kernel
theorem d_Md_read_296 : decode b_Md_read 296 = .ok (.ifCond .ne 7, 3) := by decide +kernel
theorem d_Md_read_299 : decode b_Md_read 299 = .ok (.iconst 1, 1) := by decide +kernel
theorem d_Md_read_300 : decode b_Md_read 300 = .ok (.goto 4, 3) := by decide +kernel
theorem d_Md_read_303 : decode b_Md_read 303 = .ok (.iconst 0, 1) := by decide +kernel
theorem d_Md_read_304 : decode b_Md_read 304 = .ok (.iadd, 1) := by decide +kernel
theorem d_Md_read_305 : decode b_Md_read 305 = .ok (.istore 5, 2) := by decide +kernel
theorem d_Md_read_307 : decode b_Md_read 307 = .ok (.iload 10, 2) := by decide +kernel
theorem d_Md_read_309 : decode b_Md_read 309 = .ok (.ifCond .ge 7, 3) := by decide +kernel
theorem d_Md_read_312 : decode b_Md_read 312 = .ok (.iload_n 1, 1) := by decide +kernel
theorem d_Md_read_313 : decode b_Md_read 313 = .ok (.goto 5, 3) := by decide +kernel
theorem d_Md_read_316 : decode b_Md_read 316 = .ok (.iload 10, 2) := by decide +kernel
theorem d_Md_read_318 : decode b_Md_read 318 = .ok (.istore_n 1, 1) := by decide +kernel
theorem d_Md_read_319 : decode b_Md_read 319 = .ok (.iinc 7 1, 3) := by decide +kernel
theorem d_Md_read_322 : decode b_Md_read 322 = .ok (.goto (-299), 3) := by decide +kernel
theorem d_Md_read_325 : decode b_Md_read 325 = .ok (.iload 6, 2) := by decide +kernel
theorem d_Md_read_327 : decode b_Md_read 327 = .ok (.ifCond .ge 19, 3) := by decide +kernel
theorem d_Md_read_330 : decode b_Md_read 330 = .ok (.iload_n 1, 1) := by decide +kernel
theorem d_Md_read_331 : decode b_Md_read 331 = .ok (.ifCond .ne 8, 3) := by decide +kernel
theorem d_Md_read_334 : decode b_Md_read 334 = .ok (.iload 5, 2) := by decide +kernel
theorem d_Md_read_336 : decode b_Md_read 336 = .ok (.ifCond .ne 10, 3) := by decide +kernel
theorem d_Md_read_339 : decode b_Md_read 339 = .ok (.aload_n 0, 1) := by decide +kernel
theorem d_Md_read_340 : decode b_Md_read 340 = .ok (.getfield 72, 3) := by decide +kernel
theorem d_Md_read_343 : decode b_Md_read 343 = .ok (.goto 5, 3) := by decide +kernel
theorem d_Md_read_346 : decode b_Md_read 346 = .ok (.iload 6, 2) := by decide +kernel
theorem d_Md_read_348 : decode b_Md_read 348 = .ok (.istore 6, 2) := by decide +kernel
theorem d_Md_read_350 : decode b_Md_read 350 = .ok (.iload 6, 2) := by decide +kernel
theorem d_Md_read_352 : decode b_Md_read 352 = .ok (.ifCond .ge 82, 3) := by decide +kernel
theorem d_Md_read_355 : decode b_Md_read 355 = .ok (.aload_n 0, 1) := by decide +kernel
theorem d_Md_read_356 : decode b_Md_read 356 = .ok (.iload 5, 2) := by decide +kernel
theorem d_Md_read_358 : decode b_Md_read 358 = .ok (.putfield 86, 3) := by decide +kernel
theorem d_Md_read_361 : decode b_Md_read 361 = .ok (.iconst 0, 1) := by decide +kernel
theorem d_Md_read_362 : decode b_Md_read 362 = .ok (.istore 7, 2) := by decide +kernel
theorem d_Md_read_364 : decode b_Md_read 364 = .ok (.iload 7, 2) := by decide +kernel
theorem d_Md_read_366 : decode b_Md_read 366 = .ok (.aload_n 0, 1) := by decide +kernel
theorem d_Md_read_367 : decode b_Md_read 367 = .ok (.getfield 72, 3) := by decide +kernel
theorem d_Md_read_370 : decode b_Md_read 370 = .ok (.if_icmp .ge 23, 3) := by decide +kernel
theorem d_Md_read_373 : decode b_Md_read 373 = .ok (.aload_n 0, 1) := by decide +kernel
theorem d_Md_read_374 : decode b_Md_read 374 = .ok (.getfield 13, 3) := by decide +kernel
theorem d_Md_read_377 : decode b_Md_read 377 = .ok (.iload 7, 2) := by decide +kernel
theorem d_Md_read_379 : decode b_Md_read 379 = .ok (.aload_n 0, 1) := by decide +kernel
theorem d_Md_read_380 : decode b_Md_read 380 = .ok (.getfield 7, 3) := by decide +kernel
theorem d_Md_read_383 : decode b_Md_read 383 = .ok (.iload 7, 2) := by decide +kernel
theorem d_Md_read_385 : decode b_Md_read 385 = .ok (.iaload, 1) := by decide +kernel
theorem d_Md_read_386 : decode b_Md_read 386 = .ok (.iastore, 1) := by decide +kernel
theorem d_Md_read_387 : decode b_Md_read 387 = .ok (.iinc 7 1, 3) := by decide +kernel
theorem d_Md_read_390 : decode b_Md_read 390 = .ok (.goto (-26), 3) := by decide +kernel
theorem d_Md_read_393 : decode b_Md_read 393 = .ok (.aload_n 0, 1) := by decide +kernel
theorem d_Md_read_394 : decode b_Md_read 394 = .ok (.getfield 19, 3) := by decide +kernel
theorem d_Md_read_397 : decode b_Md_read 397 = .ok (.iload 5, 2) := by decide +kernel
theorem d_Md_read_399 : decode b_Md_read 399 = .ok (.aload_n 0, 1) := by decide +kernel
theorem d_Md_read_400 : decode b_Md_read 400 = .ok (.getfield 72, 3) := by decide +kernel
theorem d_Md_read_403 : decode b_Md_read 403 = .ok (.iastore, 1) := by decide +kernel
theorem d_Md_read_404 : decode b_Md_read 404 = .ok (.iconst 0, 1) := by decide +kernel
theorem d_Md_read_405 : decode b_Md_read 405 = .ok (.istore 7, 2) := by decide +kernel
theorem d_Md_read_407 : decode b_Md_read 407 = .ok (.iload 7, 2) := by decide +kernel
theorem d_Md_read_409 : decode b_Md_read 409 = .ok (.iload 5, 2) := by decide +kernel
theorem d_Md_read_411 : decode b_Md_read 411 = .ok (.if_icmp .gt 23, 3) := by decide +kernel
theorem d_Md_read_414 : decode b_Md_read 414 = .ok (.aload_n 0, 1) := by decide +kernel
theorem d_Md_read_415 : decode b_Md_read 415 = .ok (.getfield 16, 3) := by decide +kernel
theorem d_Md_read_418 : decode b_Md_read 418 = .ok (.iload 7, 2) := by decide +kernel
theorem d_Md_read_420 : decode b_Md_read 420 = .ok (.aload_n 0, 1) := by decide +kernel
theorem d_Md_read_421 : decode b_Md_read 421 = .ok (.getfield 19, 3) := by decide +kernel
theorem d_Md_read_424 : decode b_Md_read 424 = .ok (.iload 7, 2) := by decide +kernel
theorem d_Md_read_426 : decode b_Md_read 426 = .ok (.iaload, 1) := by decide +kernel
theorem d_Md_read_427 : decode b_Md_read 427 = .ok (.iastore, 1) := by decide +kernel
theorem d_Md_read_428 : decode b_Md_read 428 = .ok (.iinc 7 1, 3) := by decide +kernel
theorem d_Md_read_431 : decode b_Md_read 431 = .ok (.goto (-24), 3) := by decide +kernel
theorem d_Md_read_434 : decode b_Md_read 434 = .ok (.aload_n 0, 1) := by decide +kernel
theorem d_Md_read_435 : decode b_Md_read 435 = .ok (.iconst 0, 1) := by decide +kernel
theorem d_Md_read_436 : decode b_Md_read 436 = .ok (.putfield 72, 3) := by decide +kernel
theorem d_Md_read_439 : decode b_Md_read 439 = .ok (.iload 6, 2) := by decide +kernel
theorem d_Md_read_441 : decode b_Md_read 441 = .ok (.ifCond .ge 8, 3) := by decide +kernel
theorem d_Md_read_444 : decode b_Md_read 444 = .ok (.iload 5, 2) := by decide +kernel
theorem d_Md_read_446 : decode b_Md_read 446 = .ok (.goto 7, 3) := by decide +kernel
theorem d_Md_read_449 : decode b_Md_read 449 = .ok (.iconst (-1), 1) := by decide +kernel
theorem d_Md_read_450 : decode b_Md_read 450 = .ok (.iload 6, 2) := by decide +kernel
theorem d_Md_read_452 : decode b_Md_read 452 = .ok (.isub, 1) := by decide +kernel
theorem d_Md_read_453 : decode b_Md_read 453 = .ok (.ireturn, 1) := by decide +kernel
theorem d_Md_begin_0 : decode b_Md_begin 0 = .ok (.iconst 0, 1) := by decide +kernel
theorem d_Md_begin_1 : decode b_Md_begin 1 = .ok (.istore_n 3, 1) := by decide +kernel
theorem d_Md_begin_2 : decode b_Md_begin 2 = .ok (.ldc 89, 2) := by decide +kernel
theorem d_Md_begin_4 : decode b_Md_begin 4 = .ok (.istore 4, 2) := by decide +kernel
theorem d_Md_begin_6 : decode b_Md_begin 6 = .ok (.iconst 1, 1) := by decide +kernel
theorem d_Md_begin_7 : decode b_Md_begin 7 = .ok (.istore 5, 2) := by decide +kernel
theorem d_Md_begin_9 : decode b_Md_begin 9 = .ok (.aload_n 0, 1) := by decide +kernel
theorem d_Md_begin_10 : decode b_Md_begin 10 = .ok (.getfield 16, 3) := by decide +kernel
theorem d_Md_begin_13 : decode b_Md_begin 13 = .ok (.iload_n 1, 1) := by decide +kernel
theorem d_Md_begin_14 : decode b_Md_begin 14 = .ok (.iaload, 1) := by decide +kernel
theorem d_Md_begin_15 : decode b_Md_begin 15 = .ok (.istore 6, 2) := by decide +kernel
theorem d_Md_begin_17 : decode b_Md_begin 17 = .ok (.aload_n 0, 1) := by decide +kernel
theorem d_Md_begin_18 : decode b_Md_begin 18 = .ok (.getfield 13, 3) := by decide +kernel
theorem d_Md_begin_21 : decode b_Md_begin 21 = .ok (.iload 6, 2) := by decide +kernel
theorem d_Md_begin_23 : decode b_Md_begin 23 = .ok (.iaload, 1) := by decide +kernel
theorem d_Md_begin_24 : decode b_Md_begin 24 = .ok (.bipush 58, 2) := by decide +kernel
theorem d_Md_begin_26 : decode b_Md_begin 26 = .ok (.if_icmp .eq 51, 3) := by decide +kernel
theorem d_Md_begin_29 : decode b_Md_begin 29 = .ok (.iload 5, 2) := by decide +kernel
theorem d_Md_begin_31 : decode b_Md_begin 31 = .ok (.ifCond .eq 27, 3) := by decide +kernel
theorem d_Md_begin_34 : decode b_Md_begin 34 = .ok (.aload_n 0, 1) := by decide +kernel
theorem d_Md_begin_35 : decode b_Md_begin 35 = .ok (.getfield 13, 3) := by decide +kernel
theorem d_Md_begin_38 : decode b_Md_begin 38 = .ok (.iload 6, 2) := by decide +kernel
theorem d_Md_begin_40 : decode b_Md_begin 40 = .ok (.iaload, 1) := by decide +kernel
theorem d_Md_begin_41 : decode b_Md_begin 41 = .ok (.bipush 48, 2) := by decide +kernel
theorem d_Md_begin_43 : decode b_Md_begin 43 = .ok (.isub, 1) := by decide +kernel
theorem d_Md_begin_44 : decode b_Md_begin 44 = .ok (.iload_n 2, 1) := by decide +kernel
theorem d_Md_begin_45 : decode b_Md_begin 45 = .ok (.iload 4, 2) := by decide +kernel
theorem d_Md_begin_47 : decode b_Md_begin 47 = .ok (.idiv, 1) := by decide +kernel
theorem d_Md_begin_48 : decode b_Md_begin 48 = .ok (.bipush 10, 2) := by decide +kernel
theorem d_Md_begin_50 : decode b_Md_begin 50 = .ok (.irem, 1) := by decide +kernel
theorem d_Md_begin_51 : decode b_Md_begin 51 = .ok (.if_icmp .ne 7, 3) := by decide +kernel
theorem d_Md_begin_54 : decode b_Md_begin 54 = .ok (.iconst 1, 1) := by decide +kernel
theorem d_Md_begin_55 : decode b_Md_begin 55 = .ok (.goto 4, 3) := by decide +kernel
theorem d_Md_begin_58 : decode b_Md_begin 58 = .ok (.iconst 0, 1) := by decide +kernel
theorem d_Md_begin_59 : decode b_Md_begin 59 = .ok (.istore 5, 2) := by decide +kernel
theorem d_Md_begin_61 : decode b_Md_begin 61 = .ok (.iload 4, 2) := by decide +kernel
theorem d_Md_begin_63 : decode b_Md_begin 63 = .ok (.bipush 10, 2) := by decide +kernel
theorem d_Md_begin_65 : decode b_Md_begin 65 = .ok (.idiv, 1) := by decide +kernel
theorem d_Md_begin_66 : decode b_Md_begin 66 = .ok (.istore 4, 2) := by decide +kernel
theorem d_Md_begin_68 : decode b_Md_begin 68 = .ok (.iinc 3 1, 3) := by decide +kernel
theorem d_Md_begin_71 : decode b_Md_begin 71 = .ok (.iinc 6 1, 3) := by decide +kernel
theorem d_Md_begin_74 : decode b_Md_begin 74 = .ok (.goto (-57), 3) := by decide +kernel
theorem d_Md_begin_77 : decode b_Md_begin 77 = .ok (.iload 5, 2) := by decide +kernel
theorem d_Md_begin_79 : decode b_Md_begin 79 = .ok (.ifCond .eq 7, 3) := by decide +kernel
theorem d_Md_begin_82 : decode b_Md_begin 82 = .ok (.iload_n 3, 1) := by decide +kernel
theorem d_Md_begin_83 : decode b_Md_begin 83 = .ok (.goto 4, 3) := by decide +kernel
theorem d_Md_begin_86 : decode b_Md_begin 86 = .ok (.iconst 0, 1) := by decide +kernel
theorem d_Md_begin_87 : decode b_Md_begin 87 = .ok (.ireturn, 1) := by decide +kernel
theorem d_Md_rowOf_0 : decode b_Md_rowOf 0 = .ok (.iconst (-1), 1) := by decide +kernel
theorem d_Md_rowOf_1 : decode b_Md_rowOf 1 = .ok (.istore_n 2, 1) := by decide +kernel
theorem d_Md_rowOf_2 : decode b_Md_rowOf 2 = .ok (.iconst 1, 1) := by decide +kernel
theorem d_Md_rowOf_3 : decode b_Md_rowOf 3 = .ok (.istore_n 3, 1) := by decide +kernel
theorem d_Md_rowOf_4 : decode b_Md_rowOf 4 = .ok (.iconst 0, 1) := by decide +kernel
theorem d_Md_rowOf_5 : decode b_Md_rowOf 5 = .ok (.istore 4, 2) := by decide +kernel
theorem d_Md_rowOf_7 : decode b_Md_rowOf 7 = .ok (.iload 4, 2) := by decide +kernel
theorem d_Md_rowOf_9 : decode b_Md_rowOf 9 = .ok (.aload_n 0, 1) := by decide +kernel
theorem d_Md_rowOf_10 : decode b_Md_rowOf 10 = .ok (.getfield 86, 3) := by decide +kernel
theorem d_Md_rowOf_13 : decode b_Md_rowOf 13 = .ok (.if_icmp .ge 44, 3) := by decide +kernel
theorem d_Md_rowOf_16 : decode b_Md_rowOf 16 = .ok (.aload_n 0, 1) := by decide +kernel
theorem d_Md_rowOf_17 : decode b_Md_rowOf 17 = .ok (.iload 4, 2) := by decide +kernel
theorem d_Md_rowOf_19 : decode b_Md_rowOf 19 = .ok (.iload_n 1, 1) := by decide +kernel
theorem d_Md_rowOf_20 : decode b_Md_rowOf 20 = .ok (.invokevirtual 90, 3) := by decide +kernel
theorem d_Md_rowOf_23 : decode b_Md_rowOf 23 = .ok (.istore 5, 2) := by decide +kernel
theorem d_Md_rowOf_25 : decode b_Md_rowOf 25 = .ok (.iload 5, 2) := by decide +kernel
theorem d_Md_rowOf_27 : decode b_Md_rowOf 27 = .ok (.iload_n 3, 1) := by decide +kernel
theorem d_Md_rowOf_28 : decode b_Md_rowOf 28 = .ok (.if_icmp .lt 8, 3) := by decide +kernel
theorem d_Md_rowOf_31 : decode b_Md_rowOf 31 = .ok (.iload 4, 2) := by decide +kernel
theorem d_Md_rowOf_33 : decode b_Md_rowOf 33 = .ok (.goto 4, 3) := by decide +kernel
theorem d_Md_rowOf_36 : decode b_Md_rowOf 36 = .ok (.iload_n 2, 1) := by decide +kernel
theorem d_Md_rowOf_37 : decode b_Md_rowOf 37 = .ok (.istore_n 2, 1) := by decide +kernel
theorem d_Md_rowOf_38 : decode b_Md_rowOf 38 = .ok (.iload 5, 2) := by decide +kernel
theorem d_Md_rowOf_40 : decode b_Md_rowOf 40 = .ok (.iload_n 3, 1) := by decide +kernel
theorem d_Md_rowOf_41 : decode b_Md_rowOf 41 = .ok (.if_icmp .lt 8, 3) := by decide +kernel
theorem d_Md_rowOf_44 : decode b_Md_rowOf 44 = .ok (.iload 5, 2) := by decide +kernel
theorem d_Md_rowOf_46 : decode b_Md_rowOf 46 = .ok (.goto 4, 3) := by decide +kernel
theorem d_Md_rowOf_49 : decode b_Md_rowOf 49 = .ok (.iload_n 3, 1) := by decide +kernel
theorem d_Md_rowOf_50 : decode b_Md_rowOf 50 = .ok (.istore_n 3, 1) := by decide +kernel
theorem d_Md_rowOf_51 : decode b_Md_rowOf 51 = .ok (.iinc 4 1, 3) := by decide +kernel
theorem d_Md_rowOf_54 : decode b_Md_rowOf 54 = .ok (.goto (-47), 3) := by decide +kernel
theorem d_Md_rowOf_57 : decode b_Md_rowOf 57 = .ok (.iload_n 2, 1) := by decide +kernel
theorem d_Md_rowOf_58 : decode b_Md_rowOf 58 = .ok (.ireturn, 1) := by decide +kernel
theorem d_Md_part_0 : decode b_Md_part 0 = .ok (.iload_n 1, 1) := by decide +kernel
theorem d_Md_part_1 : decode b_Md_part 1 = .ok (.i2l, 1) := by decide +kernel
theorem d_Md_part_2 : decode b_Md_part 2 = .ok (.lconst 1, 1) := by decide +kernel
theorem d_Md_part_3 : decode b_Md_part 3 = .ok (.ldc2_w 93, 3) := by decide +kernel
theorem d_Md_part_6 : decode b_Md_part 6 = .ok (.invokestatic 68, 3) := by decide +kernel
theorem d_Md_part_9 : decode b_Md_part 9 = .ok (.ifCond .eq 26, 3) := by decide +kernel
theorem d_Md_part_12 : decode b_Md_part 12 = .ok (.iload_n 2, 1) := by decide +kernel
theorem d_Md_part_13 : decode b_Md_part 13 = .ok (.i2l, 1) := by decide +kernel
theorem d_Md_part_14 : decode b_Md_part 14 = .ok (.lconst 0, 1) := by decide +kernel
theorem d_Md_part_15 : decode b_Md_part 15 = .ok (.ldc2_w 95, 3) := by decide +kernel
theorem d_Md_part_18 : decode b_Md_part 18 = .ok (.invokestatic 68, 3) := by decide +kernel
theorem d_Md_part_21 : decode b_Md_part 21 = .ok (.ifCond .eq 14, 3) := by decide +kernel
theorem d_Md_part_24 : decode b_Md_part 24 = .ok (.lload_n 3, 1) := by decide +kernel
theorem d_Md_part_25 : decode b_Md_part 25 = .ok (.lconst 0, 1) := by decide +kernel
theorem d_Md_part_26 : decode b_Md_part 26 = .ok (.ldc2_w 97, 3) := by decide +kernel
theorem d_Md_part_29 : decode b_Md_part 29 = .ok (.invokestatic 68, 3) := by decide +kernel
theorem d_Md_part_32 : decode b_Md_part 32 = .ok (.ifCond .ne 9, 3) := by decide +kernel
theorem d_Md_part_35 : decode b_Md_part 35 = .ok (.aload_n 0, 1) := by decide +kernel
theorem d_Md_part_36 : decode b_Md_part 36 = .ok (.iconst 1, 1) := by decide +kernel
theorem d_Md_part_37 : decode b_Md_part 37 = .ok (.invokevirtual 99, 3) := by decide +kernel
theorem d_Md_part_40 : decode b_Md_part 40 = .ok (.ireturn, 1) := by decide +kernel
theorem d_Md_part_41 : decode b_Md_part 41 = .ok (.aload_n 0, 1) := by decide +kernel
theorem d_Md_part_42 : decode b_Md_part 42 = .ok (.getfield 103, 3) := by decide +kernel
theorem d_Md_part_45 : decode b_Md_part 45 = .ok (.bipush 12, 2) := by decide +kernel
theorem d_Md_part_47 : decode b_Md_part 47 = .ok (.if_icmp .ne 9, 3) := by decide +kernel
theorem d_Md_part_50 : decode b_Md_part 50 = .ok (.aload_n 0, 1) := by decide +kernel
theorem d_Md_part_51 : decode b_Md_part 51 = .ok (.iconst 2, 1) := by decide +kernel
theorem d_Md_part_52 : decode b_Md_part 52 = .ok (.invokevirtual 99, 3) := by decide +kernel
theorem d_Md_part_55 : decode b_Md_part 55 = .ok (.ireturn, 1) := by decide +kernel
theorem d_Md_part_56 : decode b_Md_part 56 = .ok (.aload_n 0, 1) := by decide +kernel
theorem d_Md_part_57 : decode b_Md_part 57 = .ok (.iconst 0, 1) := by decide +kernel
theorem d_Md_part_58 : decode b_Md_part 58 = .ok (.putfield 61, 3) := by decide +kernel
theorem d_Md_part_61 : decode b_Md_part 61 = .ok (.aload_n 0, 1) := by decide +kernel
theorem d_Md_part_62 : decode b_Md_part 62 = .ok (.getfield 22, 3) := by decide +kernel
theorem d_Md_part_65 : decode b_Md_part 65 = .ok (.aload_n 0, 1) := by decide +kernel
theorem d_Md_part_66 : decode b_Md_part 66 = .ok (.getfield 103, 3) := by decide +kernel
theorem d_Md_part_69 : decode b_Md_part 69 = .ok (.iload_n 1, 1) := by decide +kernel
theorem d_Md_part_70 : decode b_Md_part 70 = .ok (.iastore, 1) := by decide +kernel
theorem d_Md_part_71 : decode b_Md_part 71 = .ok (.aload_n 0, 1) := by decide +kernel
theorem d_Md_part_72 : decode b_Md_part 72 = .ok (.getfield 25, 3) := by decide +kernel
theorem d_Md_part_75 : decode b_Md_part 75 = .ok (.aload_n 0, 1) := by decide +kernel
theorem d_Md_part_76 : decode b_Md_part 76 = .ok (.getfield 103, 3) := by decide +kernel
theorem d_Md_part_79 : decode b_Md_part 79 = .ok (.iload_n 2, 1) := by decide +kernel
theorem d_Md_part_80 : decode b_Md_part 80 = .ok (.iastore, 1) := by decide +kernel
theorem d_Md_part_81 : decode b_Md_part 81 = .ok (.aload_n 0, 1) := by decide +kernel
theorem d_Md_part_82 : decode b_Md_part 82 = .ok (.getfield 28, 3) := by decide +kernel
theorem d_Md_part_85 : decode b_Md_part 85 = .ok (.aload_n 0, 1) := by decide +kernel
theorem d_Md_part_86 : decode b_Md_part 86 = .ok (.getfield 103, 3) := by decide +kernel
theorem d_Md_part_89 : decode b_Md_part 89 = .ok (.lload_n 3, 1) := by decide +kernel
theorem d_Md_part_90 : decode b_Md_part 90 = .ok (.lastore, 1) := by decide +kernel
theorem d_Md_part_91 : decode b_Md_part 91 = .ok (.aload_n 0, 1) := by decide +kernel
theorem d_Md_part_92 : decode b_Md_part 92 = .ok (.dup, 1) := by decide +kernel
theorem d_Md_part_93 : decode b_Md_part 93 = .ok (.getfield 103, 3) := by decide +kernel
theorem d_Md_part_96 : decode b_Md_part 96 = .ok (.iconst 1, 1) := by decide +kernel
theorem d_Md_part_97 : decode b_Md_part 97 = .ok (.iadd, 1) := by decide +kernel
theorem d_Md_part_98 : decode b_Md_part 98 = .ok (.putfield 103, 3) := by decide +kernel
theorem d_Md_part_101 : decode b_Md_part 101 = .ok (.aload_n 0, 1) := by decide +kernel
theorem d_Md_part_102 : decode b_Md_part 102 = .ok (.getfield 103, 3) := by decide +kernel
theorem d_Md_part_105 : decode b_Md_part 105 = .ok (.ireturn, 1) := by decide +kernel
theorem d_Md_clear_0 : decode b_Md_clear 0 = .ok (.aload_n 0, 1) := by decide +kernel
theorem d_Md_clear_1 : decode b_Md_clear 1 = .ok (.iconst 0, 1) := by decide +kernel
theorem d_Md_clear_2 : decode b_Md_clear 2 = .ok (.putfield 61, 3) := by decide +kernel
theorem d_Md_clear_5 : decode b_Md_clear 5 = .ok (.aload_n 0, 1) := by decide +kernel
theorem d_Md_clear_6 : decode b_Md_clear 6 = .ok (.getfield 103, 3) := by decide +kernel
theorem d_Md_clear_9 : decode b_Md_clear 9 = .ok (.istore_n 1, 1) := by decide +kernel
theorem d_Md_clear_10 : decode b_Md_clear 10 = .ok (.aload_n 0, 1) := by decide +kernel
theorem d_Md_clear_11 : decode b_Md_clear 11 = .ok (.iconst 0, 1) := by decide +kernel
theorem d_Md_clear_12 : decode b_Md_clear 12 = .ok (.putfield 103, 3) := by decide +kernel
theorem d_Md_clear_15 : decode b_Md_clear 15 = .ok (.aload_n 0, 1) := by decide +kernel
theorem d_Md_clear_16 : decode b_Md_clear 16 = .ok (.iconst 0, 1) := by decide +kernel
theorem d_Md_clear_17 : decode b_Md_clear 17 = .ok (.putfield 106, 3) := by decide +kernel
theorem d_Md_clear_20 : decode b_Md_clear 20 = .ok (.iload_n 1, 1) := by decide +kernel
theorem d_Md_clear_21 : decode b_Md_clear 21 = .ok (.ireturn, 1) := by decide +kernel
theorem d_Md_process_0 : decode b_Md_process 0 = .ok (.aload_n 0, 1) := by decide +kernel
theorem d_Md_process_1 : decode b_Md_process 1 = .ok (.iconst 0, 1) := by decide +kernel
theorem d_Md_process_2 : decode b_Md_process 2 = .ok (.putfield 61, 3) := by decide +kernel
theorem d_Md_process_5 : decode b_Md_process 5 = .ok (.iload_n 1, 1) := by decide +kernel
theorem d_Md_process_6 : decode b_Md_process 6 = .ok (.i2l, 1) := by decide +kernel
theorem d_Md_process_7 : decode b_Md_process 7 = .ok (.lconst 0, 1) := by decide +kernel
theorem d_Md_process_8 : decode b_Md_process 8 = .ok (.ldc2_w 109, 3) := by decide +kernel
theorem d_Md_process_11 : decode b_Md_process 11 = .ok (.invokestatic 68, 3) := by decide +kernel
theorem d_Md_process_14 : decode b_Md_process 14 = .ok (.ifCond .eq 15, 3) := by decide +kernel
theorem d_Md_process_17 : decode b_Md_process 17 = .ok (.aload_n 0, 1) := by decide +kernel
theorem d_Md_process_18 : decode b_Md_process 18 = .ok (.getfield 106, 3) := by decide +kernel
theorem d_Md_process_21 : decode b_Md_process 21 = .ok (.iload_n 1, 1) := by decide +kernel
theorem d_Md_process_22 : decode b_Md_process 22 = .ok (.ishr, 1) := by decide +kernel
theorem d_Md_process_23 : decode b_Md_process 23 = .ok (.iconst 1, 1) := by decide +kernel
theorem d_Md_process_24 : decode b_Md_process 24 = .ok (.iand, 1) := by decide +kernel
theorem d_Md_process_25 : decode b_Md_process 25 = .ok (.iconst 1, 1) := by decide +kernel
theorem d_Md_process_26 : decode b_Md_process 26 = .ok (.if_icmp .ne 5, 3) := by decide +kernel
theorem d_Md_process_29 : decode b_Md_process 29 = .ok (.iconst 0, 1) := by decide +kernel
theorem d_Md_process_30 : decode b_Md_process 30 = .ok (.ireturn, 1) := by decide +kernel
theorem d_Md_process_31 : decode b_Md_process 31 = .ok (.aload_n 0, 1) := by decide +kernel
theorem d_Md_process_32 : decode b_Md_process 32 = .ok (.dup, 1) := by decide +kernel
theorem d_Md_process_33 : decode b_Md_process 33 = .ok (.getfield 106, 3) := by decide +kernel
theorem d_Md_process_36 : decode b_Md_process 36 = .ok (.iconst 1, 1) := by decide +kernel
theorem d_Md_process_37 : decode b_Md_process 37 = .ok (.iload_n 1, 1) := by decide +kernel
theorem d_Md_process_38 : decode b_Md_process 38 = .ok (.ishl, 1) := by decide +kernel
theorem d_Md_process_39 : decode b_Md_process 39 = .ok (.ior, 1) := by decide +kernel
theorem d_Md_process_40 : decode b_Md_process 40 = .ok (.putfield 106, 3) := by decide +kernel
theorem d_Md_process_43 : decode b_Md_process 43 = .ok (.iconst 1, 1) := by decide +kernel
theorem d_Md_process_44 : decode b_Md_process 44 = .ok (.ireturn, 1) := by decide +kernel
theorem d_Md_bar_0 : decode b_Md_bar 0 = .ok (.aload_n 0, 1) := by decide +kernel
theorem d_Md_bar_1 : decode b_Md_bar 1 = .ok (.iconst 0, 1) := by decide +kernel
theorem d_Md_bar_2 : decode b_Md_bar 2 = .ok (.putfield 61, 3) := by decide +kernel
theorem d_Md_bar_5 : decode b_Md_bar 5 = .ok (.iload_n 1, 1) := by decide +kernel
theorem d_Md_bar_6 : decode b_Md_bar 6 = .ok (.i2l, 1) := by decide +kernel
theorem d_Md_bar_7 : decode b_Md_bar 7 = .ok (.lconst 0, 1) := by decide +kernel
theorem d_Md_bar_8 : decode b_Md_bar 8 = .ok (.ldc2_w 109, 3) := by decide +kernel
theorem d_Md_bar_11 : decode b_Md_bar 11 = .ok (.invokestatic 68, 3) := by decide +kernel
theorem d_Md_bar_14 : decode b_Md_bar 14 = .ok (.ifCond .eq 24, 3) := by decide +kernel
theorem d_Md_bar_17 : decode b_Md_bar 17 = .ok (.aload_n 0, 1) := by decide +kernel
theorem d_Md_bar_18 : decode b_Md_bar 18 = .ok (.getfield 111, 3) := by decide +kernel
theorem d_Md_bar_21 : decode b_Md_bar 21 = .ok (.iload_n 1, 1) := by decide +kernel
theorem d_Md_bar_22 : decode b_Md_bar 22 = .ok (.ishr, 1) := by decide +kernel
theorem d_Md_bar_23 : decode b_Md_bar 23 = .ok (.iconst 1, 1) := by decide +kernel
theorem d_Md_bar_24 : decode b_Md_bar 24 = .ok (.iand, 1) := by decide +kernel
theorem d_Md_bar_25 : decode b_Md_bar 25 = .ok (.iconst 1, 1) := by decide +kernel
theorem d_Md_bar_26 : decode b_Md_bar 26 = .ok (.if_icmp .ne 7, 3) := by decide +kernel
theorem d_Md_bar_29 : decode b_Md_bar 29 = .ok (.iconst 1, 1) := by decide +kernel
theorem d_Md_bar_30 : decode b_Md_bar 30 = .ok (.goto 4, 3) := by decide +kernel
theorem d_Md_bar_33 : decode b_Md_bar 33 = .ok (.iconst 0, 1) := by decide +kernel
theorem d_Md_bar_34 : decode b_Md_bar 34 = .ok (.iload_n 2, 1) := by decide +kernel
theorem d_Md_bar_35 : decode b_Md_bar 35 = .ok (.if_icmp .ne 5, 3) := by decide +kernel
theorem d_Md_bar_38 : decode b_Md_bar 38 = .ok (.iconst 0, 1) := by decide +kernel
theorem d_Md_bar_39 : decode b_Md_bar 39 = .ok (.ireturn, 1) := by decide +kernel
theorem d_Md_bar_40 : decode b_Md_bar 40 = .ok (.aload_n 0, 1) := by decide +kernel
theorem d_Md_bar_41 : decode b_Md_bar 41 = .ok (.dup, 1) := by decide +kernel
theorem d_Md_bar_42 : decode b_Md_bar 42 = .ok (.getfield 111, 3) := by decide +kernel
theorem d_Md_bar_45 : decode b_Md_bar 45 = .ok (.iconst 1, 1) := by decide +kernel
theorem d_Md_bar_46 : decode b_Md_bar 46 = .ok (.iload_n 1, 1) := by decide +kernel
theorem d_Md_bar_47 : decode b_Md_bar 47 = .ok (.ishl, 1) := by decide +kernel
theorem d_Md_bar_48 : decode b_Md_bar 48 = .ok (.ixor, 1) := by decide +kernel
theorem d_Md_bar_49 : decode b_Md_bar 49 = .ok (.putfield 111, 3) := by decide +kernel
theorem d_Md_bar_52 : decode b_Md_bar 52 = .ok (.iconst 1, 1) := by decide +kernel
theorem d_Md_bar_53 : decode b_Md_bar 53 = .ok (.ireturn, 1) := by decide +kernel
theorem d_Md_join_0 : decode b_Md_join 0 = .ok (.iload_n 1, 1) := by decide +kernel
theorem d_Md_join_1 : decode b_Md_join 1 = .ok (.i2l, 1) := by decide +kernel
theorem d_Md_join_2 : decode b_Md_join 2 = .ok (.lconst 0, 1) := by decide +kernel
theorem d_Md_join_3 : decode b_Md_join 3 = .ok (.ldc2_w 95, 3) := by decide +kernel
theorem d_Md_join_6 : decode b_Md_join 6 = .ok (.invokestatic 68, 3) := by decide +kernel
theorem d_Md_join_9 : decode b_Md_join 9 = .ok (.ifCond .eq 20, 3) := by decide +kernel
theorem d_Md_join_12 : decode b_Md_join 12 = .ok (.iload_n 2, 1) := by decide +kernel
theorem d_Md_join_13 : decode b_Md_join 13 = .ok (.i2l, 1) := by decide +kernel
theorem d_Md_join_14 : decode b_Md_join 14 = .ok (.lconst 0, 1) := by decide +kernel
theorem d_Md_join_15 : decode b_Md_join 15 = .ok (.ldc2_w 95, 3) := by decide +kernel
theorem d_Md_join_18 : decode b_Md_join 18 = .ok (.invokestatic 68, 3) := by decide +kernel
theorem d_Md_join_21 : decode b_Md_join 21 = .ok (.ifCond .eq 8, 3) := by decide +kernel
theorem d_Md_join_24 : decode b_Md_join 24 = .ok (.iload_n 1, 1) := by decide +kernel
theorem d_Md_join_25 : decode b_Md_join 25 = .ok (.iload_n 2, 1) := by decide +kernel
theorem d_Md_join_26 : decode b_Md_join 26 = .ok (.if_icmp .ne 9, 3) := by decide +kernel
theorem d_Md_join_29 : decode b_Md_join 29 = .ok (.aload_n 0, 1) := by decide +kernel
theorem d_Md_join_30 : decode b_Md_join 30 = .ok (.iconst 1, 1) := by decide +kernel
theorem d_Md_join_31 : decode b_Md_join 31 = .ok (.invokevirtual 99, 3) := by decide +kernel
theorem d_Md_join_34 : decode b_Md_join 34 = .ok (.ireturn, 1) := by decide +kernel
theorem d_Md_join_35 : decode b_Md_join 35 = .ok (.aload_n 0, 1) := by decide +kernel
theorem d_Md_join_36 : decode b_Md_join 36 = .ok (.iconst 0, 1) := by decide +kernel
theorem d_Md_join_37 : decode b_Md_join 37 = .ok (.putfield 61, 3) := by decide +kernel
theorem d_Md_join_40 : decode b_Md_join 40 = .ok (.aload_n 0, 1) := by decide +kernel
theorem d_Md_join_41 : decode b_Md_join 41 = .ok (.getfield 32, 3) := by decide +kernel
theorem d_Md_join_44 : decode b_Md_join 44 = .ok (.bipush 10, 2) := by decide +kernel
theorem d_Md_join_46 : decode b_Md_join 46 = .ok (.iload_n 1, 1) := by decide +kernel
theorem d_Md_join_47 : decode b_Md_join 47 = .ok (.imul, 1) := by decide +kernel
theorem d_Md_join_48 : decode b_Md_join 48 = .ok (.iload_n 2, 1) := by decide +kernel
theorem d_Md_join_49 : decode b_Md_join 49 = .ok (.iadd, 1) := by decide +kernel
theorem d_Md_join_50 : decode b_Md_join 50 = .ok (.baload, 1) := by decide +kernel
theorem d_Md_join_51 : decode b_Md_join 51 = .ok (.ifCond .eq 5, 3) := by decide +kernel
theorem d_Md_join_54 : decode b_Md_join 54 = .ok (.iconst 0, 1) := by decide +kernel
theorem d_Md_join_55 : decode b_Md_join 55 = .ok (.ireturn, 1) := by decide +kernel
theorem d_Md_join_56 : decode b_Md_join 56 = .ok (.aload_n 0, 1) := by decide +kernel
theorem d_Md_join_57 : decode b_Md_join 57 = .ok (.getfield 32, 3) := by decide +kernel
theorem d_Md_join_60 : decode b_Md_join 60 = .ok (.bipush 10, 2) := by decide +kernel
theorem d_Md_join_62 : decode b_Md_join 62 = .ok (.iload_n 1, 1) := by decide +kernel
theorem d_Md_join_63 : decode b_Md_join 63 = .ok (.imul, 1) := by decide +kernel
theorem d_Md_join_64 : decode b_Md_join 64 = .ok (.iload_n 2, 1) := by decide +kernel
theorem d_Md_join_65 : decode b_Md_join 65 = .ok (.iadd, 1) := by decide +kernel
theorem d_Md_join_66 : decode b_Md_join 66 = .ok (.iconst 1, 1) := by decide +kernel
theorem d_Md_join_67 : decode b_Md_join 67 = .ok (.bastore, 1) := by decide +kernel
theorem d_Md_join_68 : decode b_Md_join 68 = .ok (.aload_n 0, 1) := by decide +kernel
theorem d_Md_join_69 : decode b_Md_join 69 = .ok (.getfield 32, 3) := by decide +kernel
theorem d_Md_join_72 : decode b_Md_join 72 = .ok (.bipush 10, 2) := by decide +kernel
theorem d_Md_join_74 : decode b_Md_join 74 = .ok (.iload_n 2, 1) := by decide +kernel
theorem d_Md_join_75 : decode b_Md_join 75 = .ok (.imul, 1) := by decide +kernel
theorem d_Md_join_76 : decode b_Md_join 76 = .ok (.iload_n 1, 1) := by decide +kernel
theorem d_Md_join_77 : decode b_Md_join 77 = .ok (.iadd, 1) := by decide +kernel
theorem d_Md_join_78 : decode b_Md_join 78 = .ok (.iconst 1, 1) := by decide +kernel
theorem d_Md_join_79 : decode b_Md_join 79 = .ok (.bastore, 1) := by decide +kernel
theorem d_Md_join_80 : decode b_Md_join 80 = .ok (.aload_n 0, 1) := by decide +kernel
theorem d_Md_join_81 : decode b_Md_join 81 = .ok (.dup, 1) := by decide +kernel
theorem d_Md_join_82 : decode b_Md_join 82 = .ok (.getfield 114, 3) := by decide +kernel
theorem d_Md_join_85 : decode b_Md_join 85 = .ok (.iconst 1, 1) := by decide +kernel
theorem d_Md_join_86 : decode b_Md_join 86 = .ok (.iadd, 1) := by decide +kernel
theorem d_Md_join_87 : decode b_Md_join 87 = .ok (.putfield 114, 3) := by decide +kernel
theorem d_Md_join_90 : decode b_Md_join 90 = .ok (.iconst 1, 1) := by decide +kernel
theorem d_Md_join_91 : decode b_Md_join 91 = .ok (.ireturn, 1) := by decide +kernel
theorem d_Md_full_0 : decode b_Md_full 0 = .ok (.aload_n 0, 1) := by decide +kernel
theorem d_Md_full_1 : decode b_Md_full 1 = .ok (.iconst 0, 1) := by decide +kernel
theorem d_Md_full_2 : decode b_Md_full 2 = .ok (.putfield 61, 3) := by decide +kernel
theorem d_Md_full_5 : decode b_Md_full 5 = .ok (.aload_n 0, 1) := by decide +kernel
theorem d_Md_full_6 : decode b_Md_full 6 = .ok (.getfield 117, 3) := by decide +kernel
theorem d_Md_full_9 : decode b_Md_full 9 = .ok (.iload_n 1, 1) := by decide +kernel
theorem d_Md_full_10 : decode b_Md_full 10 = .ok (.if_icmp .eq 7, 3) := by decide +kernel
theorem d_Md_full_13 : decode b_Md_full 13 = .ok (.iconst 1, 1) := by decide +kernel
theorem d_Md_full_14 : decode b_Md_full 14 = .ok (.goto 4, 3) := by decide +kernel
theorem d_Md_full_17 : decode b_Md_full 17 = .ok (.iconst 0, 1) := by decide +kernel
theorem d_Md_full_18 : decode b_Md_full 18 = .ok (.istore_n 2, 1) := by decide +kernel
theorem d_Md_full_19 : decode b_Md_full 19 = .ok (.aload_n 0, 1) := by decide +kernel
theorem d_Md_full_20 : decode b_Md_full 20 = .ok (.iload_n 1, 1) := by decide +kernel
theorem d_Md_full_21 : decode b_Md_full 21 = .ok (.putfield 117, 3) := by decide +kernel
theorem d_Md_full_24 : decode b_Md_full 24 = .ok (.iload_n 2, 1) := by decide +kernel
theorem d_Md_full_25 : decode b_Md_full 25 = .ok (.ireturn, 1) := by decide +kernel
theorem d_Md_tolerance_0 : decode b_Md_tolerance 0 = .ok (.aload_n 0, 1) := by decide +kernel
theorem d_Md_tolerance_1 : decode b_Md_tolerance 1 = .ok (.iconst 0, 1) := by decide +kernel
theorem d_Md_tolerance_2 : decode b_Md_tolerance 2 = .ok (.putfield 61, 3) := by decide +kernel
theorem d_Md_tolerance_5 : decode b_Md_tolerance 5 = .ok (.iload_n 2, 1) := by decide +kernel
theorem d_Md_tolerance_6 : decode b_Md_tolerance 6 = .ok (.i2l, 1) := by decide +kernel
theorem d_Md_tolerance_7 : decode b_Md_tolerance 7 = .ok (.lconst 1, 1) := by decide +kernel
theorem d_Md_tolerance_8 : decode b_Md_tolerance 8 = .ok (.ldc2_w 121, 3) := by decide +kernel
theorem d_Md_tolerance_11 : decode b_Md_tolerance 11 = .ok (.invokestatic 68, 3) := by decide +kernel
theorem d_Md_tolerance_14 : decode b_Md_tolerance 14 = .ok (.ifCond .eq 14, 3) := by decide +kernel
theorem d_Md_tolerance_17 : decode b_Md_tolerance 17 = .ok (.iload_n 1, 1) := by decide +kernel
theorem d_Md_tolerance_18 : decode b_Md_tolerance 18 = .ok (.i2l, 1) := by decide +kernel
theorem d_Md_tolerance_19 : decode b_Md_tolerance 19 = .ok (.lconst 0, 1) := by decide +kernel
theorem d_Md_tolerance_20 : decode b_Md_tolerance 20 = .ok (.iload_n 2, 1) := by decide +kernel
theorem d_Md_tolerance_21 : decode b_Md_tolerance 21 = .ok (.i2l, 1) := by decide +kernel
theorem d_Md_tolerance_22 : decode b_Md_tolerance 22 = .ok (.invokestatic 68, 3) := by decide +kernel
theorem d_Md_tolerance_25 : decode b_Md_tolerance 25 = .ok (.ifCond .ne 5, 3) := by decide +kernel
theorem d_Md_tolerance_28 : decode b_Md_tolerance 28 = .ok (.iconst 0, 1) := by decide +kernel
theorem d_Md_tolerance_29 : decode b_Md_tolerance 29 = .ok (.ireturn, 1) := by decide +kernel
theorem d_Md_tolerance_30 : decode b_Md_tolerance 30 = .ok (.aload_n 0, 1) := by decide +kernel
theorem d_Md_tolerance_31 : decode b_Md_tolerance 31 = .ok (.iload_n 1, 1) := by decide +kernel
theorem d_Md_tolerance_32 : decode b_Md_tolerance 32 = .ok (.putfield 123, 3) := by decide +kernel
theorem d_Md_tolerance_35 : decode b_Md_tolerance 35 = .ok (.aload_n 0, 1) := by decide +kernel
theorem d_Md_tolerance_36 : decode b_Md_tolerance 36 = .ok (.iload_n 2, 1) := by decide +kernel
theorem d_Md_tolerance_37 : decode b_Md_tolerance 37 = .ok (.putfield 36, 3) := by decide +kernel
theorem d_Md_tolerance_40 : decode b_Md_tolerance 40 = .ok (.iconst 1, 1) := by decide +kernel
theorem d_Md_tolerance_41 : decode b_Md_tolerance 41 = .ok (.ireturn, 1) := by decide +kernel
theorem d_Md_isOwn_0 : decode b_Md_isOwn 0 = .ok (.iconst 1, 1) := by decide +kernel
theorem d_Md_isOwn_1 : decode b_Md_isOwn 1 = .ok (.istore_n 2, 1) := by decide +kernel
theorem d_Md_isOwn_2 : decode b_Md_isOwn 2 = .ok (.iconst 0, 1) := by decide +kernel
theorem d_Md_isOwn_3 : decode b_Md_isOwn 3 = .ok (.istore_n 3, 1) := by decide +kernel
theorem d_Md_isOwn_4 : decode b_Md_isOwn 4 = .ok (.iload_n 3, 1) := by decide +kernel
theorem d_Md_isOwn_5 : decode b_Md_isOwn 5 = .ok (.aload_n 0, 1) := by decide +kernel
theorem d_Md_isOwn_6 : decode b_Md_isOwn 6 = .ok (.getfield 117, 3) := by decide +kernel
theorem d_Md_isOwn_9 : decode b_Md_isOwn 9 = .ok (.ifCond .eq 8, 3) := by decide +kernel
theorem d_Md_isOwn_12 : decode b_Md_isOwn 12 = .ok (.bipush 10, 2) := by decide +kernel
theorem d_Md_isOwn_14 : decode b_Md_isOwn 14 = .ok (.goto 4, 3) := by decide +kernel
theorem d_Md_isOwn_17 : decode b_Md_isOwn 17 = .ok (.iconst 1, 1) := by decide +kernel
theorem d_Md_isOwn_18 : decode b_Md_isOwn 18 = .ok (.if_icmp .ge 66, 3) := by decide +kernel
theorem d_Md_isOwn_21 : decode b_Md_isOwn 21 = .ok (.iload_n 2, 1) := by decide +kernel
theorem d_Md_isOwn_22 : decode b_Md_isOwn 22 = .ok (.istore 4, 2) := by decide +kernel
theorem d_Md_isOwn_24 : decode b_Md_isOwn 24 = .ok (.iconst 0, 1) := by decide +kernel
theorem d_Md_isOwn_25 : decode b_Md_isOwn 25 = .ok (.istore 5, 2) := by decide +kernel
theorem d_Md_isOwn_27 : decode b_Md_isOwn 27 = .ok (.iload 5, 2) := by decide +kernel
theorem d_Md_isOwn_29 : decode b_Md_isOwn 29 = .ok (.bipush 100, 2) := by decide +kernel
theorem d_Md_isOwn_31 : decode b_Md_isOwn 31 = .ok (.if_icmp .ge 47, 3) := by decide +kernel
theorem d_Md_isOwn_34 : decode b_Md_isOwn 34 = .ok (.iload_n 2, 1) := by decide +kernel
theorem d_Md_isOwn_35 : decode b_Md_isOwn 35 = .ok (.aload_n 0, 1) := by decide +kernel
theorem d_Md_isOwn_36 : decode b_Md_isOwn 36 = .ok (.getfield 32, 3) := by decide +kernel
theorem d_Md_isOwn_39 : decode b_Md_isOwn 39 = .ok (.iload 5, 2) := by decide +kernel
theorem d_Md_isOwn_41 : decode b_Md_isOwn 41 = .ok (.baload, 1) := by decide +kernel
theorem d_Md_isOwn_42 : decode b_Md_isOwn 42 = .ok (.ifCond .eq 27, 3) := by decide +kernel
theorem d_Md_isOwn_45 : decode b_Md_isOwn 45 = .ok (.iload 4, 2) := by decide +kernel
theorem d_Md_isOwn_47 : decode b_Md_isOwn 47 = .ok (.iload 5, 2) := by decide +kernel
theorem d_Md_isOwn_49 : decode b_Md_isOwn 49 = .ok (.bipush 10, 2) := by decide +kernel
theorem d_Md_isOwn_51 : decode b_Md_isOwn 51 = .ok (.idiv, 1) := by decide +kernel
theorem d_Md_isOwn_52 : decode b_Md_isOwn 52 = .ok (.ishr, 1) := by decide +kernel
theorem d_Md_isOwn_53 : decode b_Md_isOwn 53 = .ok (.iconst 1, 1) := by decide +kernel
theorem d_Md_isOwn_54 : decode b_Md_isOwn 54 = .ok (.iand, 1) := by decide +kernel
theorem d_Md_isOwn_55 : decode b_Md_isOwn 55 = .ok (.iconst 1, 1) := by decide +kernel
theorem d_Md_isOwn_56 : decode b_Md_isOwn 56 = .ok (.if_icmp .ne 13, 3) := by decide +kernel
theorem d_Md_isOwn_59 : decode b_Md_isOwn 59 = .ok (.iconst 1, 1) := by decide +kernel
theorem d_Md_isOwn_60 : decode b_Md_isOwn 60 = .ok (.iload 5, 2) := by decide +kernel
theorem d_Md_isOwn_62 : decode b_Md_isOwn 62 = .ok (.bipush 10, 2) := by decide +kernel
theorem d_Md_isOwn_64 : decode b_Md_isOwn 64 = .ok (.irem, 1) := by decide +kernel
theorem d_Md_isOwn_65 : decode b_Md_isOwn 65 = .ok (.ishl, 1) := by decide +kernel
theorem d_Md_isOwn_66 : decode b_Md_isOwn 66 = .ok (.goto 4, 3) := by decide +kernel
theorem d_Md_isOwn_69 : decode b_Md_isOwn 69 = .ok (.iconst 0, 1) := by decide +kernel
theorem d_Md_isOwn_70 : decode b_Md_isOwn 70 = .ok (.ior, 1) := by decide +kernel
theorem d_Md_isOwn_71 : decode b_Md_isOwn 71 = .ok (.istore_n 2, 1) := by decide +kernel
theorem d_Md_isOwn_72 : decode b_Md_isOwn 72 = .ok (.iinc 5 1, 3) := by decide +kernel
theorem d_Md_isOwn_75 : decode b_Md_isOwn 75 = .ok (.goto (-48), 3) := by decide +kernel
theorem d_Md_isOwn_78 : decode b_Md_isOwn 78 = .ok (.iinc 3 1, 3) := by decide +kernel
theorem d_Md_isOwn_81 : decode b_Md_isOwn 81 = .ok (.goto (-77), 3) := by decide +kernel
theorem d_Md_isOwn_84 : decode b_Md_isOwn 84 = .ok (.iload_n 2, 1) := by decide +kernel
theorem d_Md_isOwn_85 : decode b_Md_isOwn 85 = .ok (.iload_n 1, 1) := by decide +kernel
theorem d_Md_isOwn_86 : decode b_Md_isOwn 86 = .ok (.ishr, 1) := by decide +kernel
theorem d_Md_isOwn_87 : decode b_Md_isOwn 87 = .ok (.iconst 1, 1) := by decide +kernel
theorem d_Md_isOwn_88 : decode b_Md_isOwn 88 = .ok (.iand, 1) := by decide +kernel
theorem d_Md_isOwn_89 : decode b_Md_isOwn 89 = .ok (.iconst 1, 1) := by decide +kernel
theorem d_Md_isOwn_90 : decode b_Md_isOwn 90 = .ok (.if_icmp .ne 7, 3) := by decide +kernel
theorem d_Md_isOwn_93 : decode b_Md_isOwn 93 = .ok (.iconst 1, 1) := by decide +kernel
theorem d_Md_isOwn_94 : decode b_Md_isOwn 94 = .ok (.goto 4, 3) := by decide +kernel
theorem d_Md_isOwn_97 : decode b_Md_isOwn 97 = .ok (.iconst 0, 1) := by decide +kernel
theorem d_Md_isOwn_98 : decode b_Md_isOwn 98 = .ok (.ireturn, 1) := by decide +kernel
theorem d_Md_own_0 : decode b_Md_own 0 = .ok (.aload_n 0, 1) := by decide +kernel
theorem d_Md_own_1 : decode b_Md_own 1 = .ok (.iload_n 1, 1) := by decide +kernel
theorem d_Md_own_2 : decode b_Md_own 2 = .ok (.i2l, 1) := by decide +kernel
theorem d_Md_own_3 : decode b_Md_own 3 = .ok (.lconst 0, 1) := by decide +kernel
theorem d_Md_own_4 : decode b_Md_own 4 = .ok (.ldc2_w 95, 3) := by decide +kernel
theorem d_Md_own_7 : decode b_Md_own 7 = .ok (.invokestatic 68, 3) := by decide +kernel
theorem d_Md_own_10 : decode b_Md_own 10 = .ok (.ifCond .eq 7, 3) := by decide +kernel
theorem d_Md_own_13 : decode b_Md_own 13 = .ok (.iconst 0, 1) := by decide +kernel
theorem d_Md_own_14 : decode b_Md_own 14 = .ok (.goto 4, 3) := by decide +kernel
theorem d_Md_own_17 : decode b_Md_own 17 = .ok (.iconst 1, 1) := by decide +kernel
theorem d_Md_own_18 : decode b_Md_own 18 = .ok (.putfield 61, 3) := by decide +kernel
theorem d_Md_own_21 : decode b_Md_own 21 = .ok (.aload_n 0, 1) := by decide +kernel
theorem d_Md_own_22 : decode b_Md_own 22 = .ok (.getfield 61, 3) := by decide +kernel
theorem d_Md_own_25 : decode b_Md_own 25 = .ok (.ifCond .ne 15, 3) := by decide +kernel
theorem d_Md_own_28 : decode b_Md_own 28 = .ok (.aload_n 0, 1) := by decide +kernel
theorem d_Md_own_29 : decode b_Md_own 29 = .ok (.iload_n 1, 1) := by decide +kernel
theorem d_Md_own_30 : decode b_Md_own 30 = .ok (.invokevirtual 126, 3) := by decide +kernel
theorem d_Md_own_33 : decode b_Md_own 33 = .ok (.ifCond .eq 7, 3) := by decide +kernel
theorem d_Md_own_36 : decode b_Md_own 36 = .ok (.iconst 1, 1) := by decide +kernel
theorem d_Md_own_37 : decode b_Md_own 37 = .ok (.goto 4, 3) := by decide +kernel
theorem d_Md_own_40 : decode b_Md_own 40 = .ok (.iconst 0, 1) := by decide +kernel
theorem d_Md_own_41 : decode b_Md_own 41 = .ok (.ireturn, 1) := by decide +kernel
theorem d_Md_foreign_0 : decode b_Md_foreign 0 = .ok (.lconst 0, 1) := by decide +kernel
theorem d_Md_foreign_1 : decode b_Md_foreign 1 = .ok (.lstore_n 1, 1) := by decide +kernel
theorem d_Md_foreign_2 : decode b_Md_foreign 2 = .ok (.iconst 0, 1) := by decide +kernel
theorem d_Md_foreign_3 : decode b_Md_foreign 3 = .ok (.istore_n 3, 1) := by decide +kernel
theorem d_Md_foreign_4 : decode b_Md_foreign 4 = .ok (.iload_n 3, 1) := by decide +kernel
theorem d_Md_foreign_5 : decode b_Md_foreign 5 = .ok (.aload_n 0, 1) := by decide +kernel
theorem d_Md_foreign_6 : decode b_Md_foreign 6 = .ok (.getfield 103, 3) := by decide +kernel
theorem d_Md_foreign_9 : decode b_Md_foreign 9 = .ok (.if_icmp .ge 35, 3) := by decide +kernel
theorem d_Md_foreign_12 : decode b_Md_foreign 12 = .ok (.lload_n 1, 1) := by decide +kernel
theorem d_Md_foreign_13 : decode b_Md_foreign 13 = .ok (.aload_n 0, 1) := by decide +kernel
theorem d_Md_foreign_14 : decode b_Md_foreign 14 = .ok (.aload_n 0, 1) := by decide +kernel
theorem d_Md_foreign_15 : decode b_Md_foreign 15 = .ok (.getfield 25, 3) := by decide +kernel
theorem d_Md_foreign_18 : decode b_Md_foreign 18 = .ok (.iload_n 3, 1) := by decide +kernel
theorem d_Md_foreign_19 : decode b_Md_foreign 19 = .ok (.iaload, 1) := by decide +kernel
theorem d_Md_foreign_20 : decode b_Md_foreign 20 = .ok (.invokevirtual 126, 3) := by decide +kernel
theorem d_Md_foreign_23 : decode b_Md_foreign 23 = .ok (.ifCond .eq 7, 3) := by decide +kernel
theorem d_Md_foreign_26 : decode b_Md_foreign 26 = .ok (.lconst 0, 1) := by decide +kernel
theorem d_Md_foreign_27 : decode b_Md_foreign 27 = .ok (.goto 9, 3) := by decide +kernel
theorem d_Md_foreign_30 : decode b_Md_foreign 30 = .ok (.aload_n 0, 1) := by decide +kernel
theorem d_Md_foreign_31 : decode b_Md_foreign 31 = .ok (.getfield 28, 3) := by decide +kernel
theorem d_Md_foreign_34 : decode b_Md_foreign 34 = .ok (.iload_n 3, 1) := by decide +kernel
theorem d_Md_foreign_35 : decode b_Md_foreign 35 = .ok (.laload, 1) := by decide +kernel
theorem d_Md_foreign_36 : decode b_Md_foreign 36 = .ok (.ladd, 1) := by decide +kernel
theorem d_Md_foreign_37 : decode b_Md_foreign 37 = .ok (.lstore_n 1, 1) := by decide +kernel
theorem d_Md_foreign_38 : decode b_Md_foreign 38 = .ok (.iinc 3 1, 3) := by decide +kernel
theorem d_Md_foreign_41 : decode b_Md_foreign 41 = .ok (.goto (-37), 3) := by decide +kernel
theorem d_Md_foreign_44 : decode b_Md_foreign 44 = .ok (.lload_n 1, 1) := by decide +kernel
theorem d_Md_foreign_45 : decode b_Md_foreign 45 = .ok (.lreturn, 1) := by decide +kernel
theorem d_Md_isOther_0 : decode b_Md_isOther 0 = .ok (.lconst 0, 1) := by decide +kernel
theorem d_Md_isOther_1 : decode b_Md_isOther 1 = .ok (.lstore 5, 2) := by decide +kernel
theorem d_Md_isOther_3 : decode b_Md_isOther 3 = .ok (.iconst 0, 1) := by decide +kernel
theorem d_Md_isOther_4 : decode b_Md_isOther 4 = .ok (.istore 7, 2) := by decide +kernel
theorem d_Md_isOther_6 : decode b_Md_isOther 6 = .ok (.iconst 0, 1) := by decide +kernel
theorem d_Md_isOther_7 : decode b_Md_isOther 7 = .ok (.istore 8, 2) := by decide +kernel
theorem d_Md_isOther_9 : decode b_Md_isOther 9 = .ok (.iload 8, 2) := by decide +kernel
theorem d_Md_isOther_11 : decode b_Md_isOther 11 = .ok (.aload_n 0, 1) := by decide +kernel
theorem d_Md_isOther_12 : decode b_Md_isOther 12 = .ok (.getfield 103, 3) := by decide +kernel
theorem d_Md_isOther_15 : decode b_Md_isOther 15 = .ok (.if_icmp .ge 85, 3) := by decide +kernel
theorem d_Md_isOther_18 : decode b_Md_isOther 18 = .ok (.aload_n 0, 1) := by decide +kernel
theorem d_Md_isOther_19 : decode b_Md_isOther 19 = .ok (.aload_n 0, 1) := by decide +kernel
theorem d_Md_isOther_20 : decode b_Md_isOther 20 = .ok (.getfield 25, 3) := by decide +kernel
theorem d_Md_isOther_23 : decode b_Md_isOther 23 = .ok (.iload 8, 2) := by decide +kernel
theorem d_Md_isOther_25 : decode b_Md_isOther 25 = .ok (.iaload, 1) := by decide +kernel
theorem d_Md_isOther_26 : decode b_Md_isOther 26 = .ok (.invokevirtual 126, 3) := by decide +kernel
theorem d_Md_isOther_29 : decode b_Md_isOther 29 = .ok (.ifCond .ne 24, 3) := by decide +kernel
theorem d_Md_isOther_32 : decode b_Md_isOther 32 = .ok (.aload_n 0, 1) := by decide +kernel
theorem d_Md_isOther_33 : decode b_Md_isOther 33 = .ok (.getfield 22, 3) := by decide +kernel
theorem d_Md_isOther_36 : decode b_Md_isOther 36 = .ok (.iload 8, 2) := by decide +kernel
theorem d_Md_isOther_38 : decode b_Md_isOther 38 = .ok (.iaload, 1) := by decide +kernel
theorem d_Md_isOther_39 : decode b_Md_isOther 39 = .ok (.iload 4, 2) := by decide +kernel
theorem d_Md_isOther_41 : decode b_Md_isOther 41 = .ok (.idiv, 1) := by decide +kernel
theorem d_Md_isOther_42 : decode b_Md_isOther 42 = .ok (.iload_n 1, 1) := by decide +kernel
theorem d_Md_isOther_43 : decode b_Md_isOther 43 = .ok (.iload 4, 2) := by decide +kernel
theorem d_Md_isOther_45 : decode b_Md_isOther 45 = .ok (.idiv, 1) := by decide +kernel
theorem d_Md_isOther_46 : decode b_Md_isOther 46 = .ok (.if_icmp .ne 7, 3) := by decide +kernel
theorem d_Md_isOther_49 : decode b_Md_isOther 49 = .ok (.iconst 1, 1) := by decide +kernel
theorem d_Md_isOther_50 : decode b_Md_isOther 50 = .ok (.goto 4, 3) := by decide +kernel
theorem d_Md_isOther_53 : decode b_Md_isOther 53 = .ok (.iconst 0, 1) := by decide +kernel
theorem d_Md_isOther_54 : decode b_Md_isOther 54 = .ok (.istore 9, 2) := by decide +kernel
theorem d_Md_isOther_56 : decode b_Md_isOther 56 = .ok (.lload 5, 2) := by decide +kernel
theorem d_Md_isOther_58 : decode b_Md_isOther 58 = .ok (.iload 9, 2) := by decide +kernel
theorem d_Md_isOther_60 : decode b_Md_isOther 60 = .ok (.ifCond .eq 13, 3) := by decide +kernel
theorem d_Md_isOther_63 : decode b_Md_isOther 63 = .ok (.aload_n 0, 1) := by decide +kernel
theorem d_Md_isOther_64 : decode b_Md_isOther 64 = .ok (.getfield 28, 3) := by decide +kernel
theorem d_Md_isOther_67 : decode b_Md_isOther 67 = .ok (.iload 8, 2) := by decide +kernel
theorem d_Md_isOther_69 : decode b_Md_isOther 69 = .ok (.laload, 1) := by decide +kernel
theorem d_Md_isOther_70 : decode b_Md_isOther 70 = .ok (.goto 4, 3) := by decide +kernel
theorem d_Md_isOther_73 : decode b_Md_isOther 73 = .ok (.lconst 0, 1) := by decide +kernel
theorem d_Md_isOther_74 : decode b_Md_isOther 74 = .ok (.ladd, 1) := by decide +kernel
theorem d_Md_isOther_75 : decode b_Md_isOther 75 = .ok (.lstore 5, 2) := by decide +kernel
theorem d_Md_isOther_77 : decode b_Md_isOther 77 = .ok (.iload 7, 2) := by decide +kernel
theorem d_Md_isOther_79 : decode b_Md_isOther 79 = .ok (.ifCond .ne 8, 3) := by decide +kernel
theorem d_Md_isOther_82 : decode b_Md_isOther 82 = .ok (.iload 9, 2) := by decide +kernel
theorem d_Md_isOther_84 : decode b_Md_isOther 84 = .ok (.ifCond .eq 7, 3) := by decide +kernel
theorem d_Md_isOther_87 : decode b_Md_isOther 87 = .ok (.iconst 1, 1) := by decide +kernel
theorem d_Md_isOther_88 : decode b_Md_isOther 88 = .ok (.goto 4, 3) := by decide +kernel
theorem d_Md_isOther_91 : decode b_Md_isOther 91 = .ok (.iconst 0, 1) := by decide +kernel
theorem d_Md_isOther_92 : decode b_Md_isOther 92 = .ok (.istore 7, 2) := by decide +kernel
theorem d_Md_isOther_94 : decode b_Md_isOther 94 = .ok (.iinc 8 1, 3) := by decide +kernel
theorem d_Md_isOther_97 : decode b_Md_isOther 97 = .ok (.goto (-88), 3) := by decide +kernel
theorem d_Md_isOther_100 : decode b_Md_isOther 100 = .ok (.iload 7, 2) := by decide +kernel
theorem d_Md_isOther_102 : decode b_Md_isOther 102 = .ok (.ifCond .eq 22, 3) := by decide +kernel
theorem d_Md_isOther_105 : decode b_Md_isOther 105 = .ok (.lload 5, 2) := by decide +kernel
theorem d_Md_isOther_107 : decode b_Md_isOther 107 = .ok (.aload_n 0, 1) := by decide +kernel
theorem d_Md_isOther_108 : decode b_Md_isOther 108 = .ok (.getfield 36, 3) := by decide +kernel
theorem d_Md_isOther_111 : decode b_Md_isOther 111 = .ok (.i2l, 1) := by decide +kernel
theorem d_Md_isOther_112 : decode b_Md_isOther 112 = .ok (.lmul, 1) := by decide +kernel
theorem d_Md_isOther_113 : decode b_Md_isOther 113 = .ok (.lload_n 2, 1) := by decide +kernel
theorem d_Md_isOther_114 : decode b_Md_isOther 114 = .ok (.aload_n 0, 1) := by decide +kernel
theorem d_Md_isOther_115 : decode b_Md_isOther 115 = .ok (.getfield 123, 3) := by decide +kernel
theorem d_Md_isOther_118 : decode b_Md_isOther 118 = .ok (.i2l, 1) := by decide +kernel
theorem d_Md_isOther_119 : decode b_Md_isOther 119 = .ok (.lmul, 1) := by decide +kernel
theorem d_Md_isOther_120 : decode b_Md_isOther 120 = .ok (.lcmp, 1) := by decide +kernel
theorem d_Md_isOther_121 : decode b_Md_isOther 121 = .ok (.ifCond .gt 7, 3) := by decide +kernel
theorem d_Md_isOther_124 : decode b_Md_isOther 124 = .ok (.iconst 1, 1) := by decide +kernel
theorem d_Md_isOther_125 : decode b_Md_isOther 125 = .ok (.goto 4, 3) := by decide +kernel
theorem d_Md_isOther_128 : decode b_Md_isOther 128 = .ok (.iconst 0, 1) := by decide +kernel
theorem d_Md_isOther_129 : decode b_Md_isOther 129 = .ok (.ireturn, 1) := by decide +kernel
theorem d_Md_numberAt_0 : decode b_Md_numberAt 0 = .ok (.iconst 0, 1) := by decide +kernel
theorem d_Md_numberAt_1 : decode b_Md_numberAt 1 = .ok (.istore_n 2, 1) := by decide +kernel
theorem d_Md_numberAt_2 : decode b_Md_numberAt 2 = .ok (.iload_n 1, 1) := by decide +kernel
theorem d_Md_numberAt_3 : decode b_Md_numberAt 3 = .ok (.iconst 1, 1) := by decide +kernel
theorem d_Md_numberAt_4 : decode b_Md_numberAt 4 = .ok (.iadd, 1) := by decide +kernel
theorem d_Md_numberAt_5 : decode b_Md_numberAt 5 = .ok (.istore_n 3, 1) := by decide +kernel
theorem d_Md_numberAt_6 : decode b_Md_numberAt 6 = .ok (.aload_n 0, 1) := by decide +kernel
theorem d_Md_numberAt_7 : decode b_Md_numberAt 7 = .ok (.getfield 13, 3) := by decide +kernel
theorem d_Md_numberAt_10 : decode b_Md_numberAt 10 = .ok (.iload_n 3, 1) := by decide +kernel
theorem d_Md_numberAt_11 : decode b_Md_numberAt 11 = .ok (.iaload, 1) := by decide +kernel
theorem d_Md_numberAt_12 : decode b_Md_numberAt 12 = .ok (.invokestatic 75, 3) := by decide +kernel
theorem d_Md_numberAt_15 : decode b_Md_numberAt 15 = .ok (.ifCond .eq 24, 3) := by decide +kernel
theorem d_Md_numberAt_18 : decode b_Md_numberAt 18 = .ok (.bipush 10, 2) := by decide +kernel
theorem d_Md_numberAt_20 : decode b_Md_numberAt 20 = .ok (.iload_n 2, 1) := by decide +kernel
theorem d_Md_numberAt_21 : decode b_Md_numberAt 21 = .ok (.imul, 1) := by decide +kernel
theorem d_Md_numberAt_22 : decode b_Md_numberAt 22 = .ok (.aload_n 0, 1) := by decide +kernel
theorem d_Md_numberAt_23 : decode b_Md_numberAt 23 = .ok (.getfield 13, 3) := by decide +kernel
theorem d_Md_numberAt_26 : decode b_Md_numberAt 26 = .ok (.iload_n 3, 1) := by decide +kernel
theorem d_Md_numberAt_27 : decode b_Md_numberAt 27 = .ok (.iaload, 1) := by decide +kernel
theorem d_Md_numberAt_28 : decode b_Md_numberAt 28 = .ok (.iadd, 1) := by decide +kernel
theorem d_Md_numberAt_29 : decode b_Md_numberAt 29 = .ok (.bipush 48, 2) := by decide +kernel
theorem d_Md_numberAt_31 : decode b_Md_numberAt 31 = .ok (.isub, 1) := by decide +kernel
theorem d_Md_numberAt_32 : decode b_Md_numberAt 32 = .ok (.istore_n 2, 1) := by decide +kernel
theorem d_Md_numberAt_33 : decode b_Md_numberAt 33 = .ok (.iinc 3 1, 3) := by decide +kernel
theorem d_Md_numberAt_36 : decode b_Md_numberAt 36 = .ok (.goto (-30), 3) := by decide +kernel
theorem d_Md_numberAt_39 : decode b_Md_numberAt 39 = .ok (.iload_n 2, 1) := by decide +kernel
theorem d_Md_numberAt_40 : decode b_Md_numberAt 40 = .ok (.ireturn, 1) := by decide +kernel
theorem d_Md_holds_0 : decode b_Md_holds 0 = .ok (.aload_n 0, 1) := by decide +kernel
theorem d_Md_holds_1 : decode b_Md_holds 1 = .ok (.getfield 13, 3) := by decide +kernel
theorem d_Md_holds_4 : decode b_Md_holds 4 = .ok (.iload_n 1, 1) := by decide +kernel
theorem d_Md_holds_5 : decode b_Md_holds 5 = .ok (.iaload, 1) := by decide +kernel
theorem d_Md_holds_6 : decode b_Md_holds 6 = .ok (.lookupswitch 122 #[(67, 63), (72, 73), (83, 82), (86, 90), (87, 50)], 50) := by decide +kernel
theorem d_Md_holds_56 : decode b_Md_holds 56 = .ok (.aload_n 0, 1) := by decide +kernel
theorem d_Md_holds_57 : decode b_Md_holds 57 = .ok (.getfield 103, 3) := by decide +kernel
theorem d_Md_holds_60 : decode b_Md_holds 60 = .ok (.ifCond .ne 7, 3) := by decide +kernel
theorem d_Md_holds_63 : decode b_Md_holds 63 = .ok (.iconst 1, 1) := by decide +kernel
theorem d_Md_holds_64 : decode b_Md_holds 64 = .ok (.goto 4, 3) := by decide +kernel
theorem d_Md_holds_67 : decode b_Md_holds 67 = .ok (.iconst 0, 1) := by decide +kernel
theorem d_Md_holds_68 : decode b_Md_holds 68 = .ok (.ireturn, 1) := by decide +kernel
theorem d_Md_holds_69 : decode b_Md_holds 69 = .ok (.aload_n 0, 1) := by decide +kernel
theorem d_Md_holds_70 : decode b_Md_holds 70 = .ok (.iload_n 2, 1) := by decide +kernel
theorem d_Md_holds_71 : decode b_Md_holds 71 = .ok (.lload_n 3, 1) := by decide +kernel
theorem d_Md_holds_72 : decode b_Md_holds 72 = .ok (.sipush 10000, 3) := by decide +kernel
theorem d_Md_holds_75 : decode b_Md_holds 75 = .ok (.invokevirtual 129, 3) := by decide +kernel
theorem d_Md_holds_78 : decode b_Md_holds 78 = .ok (.ireturn, 1) := by decide +kernel
theorem d_Md_holds_79 : decode b_Md_holds 79 = .ok (.aload_n 0, 1) := by decide +kernel
theorem d_Md_holds_80 : decode b_Md_holds 80 = .ok (.iload_n 2, 1) := by decide +kernel
theorem d_Md_holds_81 : decode b_Md_holds 81 = .ok (.lload_n 3, 1) := by decide +kernel
theorem d_Md_holds_82 : decode b_Md_holds 82 = .ok (.bipush 100, 2) := by decide +kernel
theorem d_Md_holds_84 : decode b_Md_holds 84 = .ok (.invokevirtual 129, 3) := by decide +kernel
theorem d_Md_holds_87 : decode b_Md_holds 87 = .ok (.ireturn, 1) := by decide +kernel
theorem d_Md_holds_88 : decode b_Md_holds 88 = .ok (.aload_n 0, 1) := by decide +kernel
theorem d_Md_holds_89 : decode b_Md_holds 89 = .ok (.iload_n 2, 1) := by decide +kernel
theorem d_Md_holds_90 : decode b_Md_holds 90 = .ok (.lload_n 3, 1) := by decide +kernel
theorem d_Md_holds_91 : decode b_Md_holds 91 = .ok (.iconst 1, 1) := by decide +kernel
theorem d_Md_holds_92 : decode b_Md_holds 92 = .ok (.invokevirtual 129, 3) := by decide +kernel
theorem d_Md_holds_95 : decode b_Md_holds 95 = .ok (.ireturn, 1) := by decide +kernel
theorem d_Md_holds_96 : decode b_Md_holds 96 = .ok (.lload_n 3, 1) := by decide +kernel
theorem d_Md_holds_97 : decode b_Md_holds 97 = .ok (.lconst 0, 1) := by decide +kernel
theorem d_Md_holds_98 : decode b_Md_holds 98 = .ok (.lcmp, 1) := by decide +kernel
theorem d_Md_holds_99 : decode b_Md_holds 99 = .ok (.ifCond .le 27, 3) := by decide +kernel
theorem d_Md_holds_102 : decode b_Md_holds 102 = .ok (.ldc2_w 133, 3) := by decide +kernel
theorem d_Md_holds_105 : decode b_Md_holds 105 = .ok (.aload_n 0, 1) := by decide +kernel
theorem d_Md_holds_106 : decode b_Md_holds 106 = .ok (.invokevirtual 135, 3) := by decide +kernel
theorem d_Md_holds_109 : decode b_Md_holds 109 = .ok (.lmul, 1) := by decide +kernel
theorem d_Md_holds_110 : decode b_Md_holds 110 = .ok (.aload_n 0, 1) := by decide +kernel
theorem d_Md_holds_111 : decode b_Md_holds 111 = .ok (.iload_n 1, 1) := by decide +kernel
theorem d_Md_holds_112 : decode b_Md_holds 112 = .ok (.invokevirtual 139, 3) := by decide +kernel
theorem d_Md_holds_115 : decode b_Md_holds 115 = .ok (.i2l, 1) := by decide +kernel
theorem d_Md_holds_116 : decode b_Md_holds 116 = .ok (.lload_n 3, 1) := by decide +kernel
theorem d_Md_holds_117 : decode b_Md_holds 117 = .ok (.lmul, 1) := by decide +kernel
theorem d_Md_holds_118 : decode b_Md_holds 118 = .ok (.lcmp, 1) := by decide +kernel
theorem d_Md_holds_119 : decode b_Md_holds 119 = .ok (.ifCond .gt 7, 3) := by decide +kernel
theorem d_Md_holds_122 : decode b_Md_holds 122 = .ok (.iconst 1, 1) := by decide +kernel
theorem d_Md_holds_123 : decode b_Md_holds 123 = .ok (.goto 4, 3) := by decide +kernel
theorem d_Md_holds_126 : decode b_Md_holds 126 = .ok (.iconst 0, 1) := by decide +kernel
theorem d_Md_holds_127 : decode b_Md_holds 127 = .ok (.ireturn, 1) := by decide +kernel
theorem d_Md_holds_128 : decode b_Md_holds 128 = .ok (.aload_n 0, 1) := by decide +kernel
theorem d_Md_holds_129 : decode b_Md_holds 129 = .ok (.getfield 106, 3) := by decide +kernel
theorem d_Md_holds_132 : decode b_Md_holds 132 = .ok (.aload_n 0, 1) := by decide +kernel
theorem d_Md_holds_133 : decode b_Md_holds 133 = .ok (.iload_n 1, 1) := by decide +kernel
theorem d_Md_holds_134 : decode b_Md_holds 134 = .ok (.invokevirtual 139, 3) := by decide +kernel
theorem d_Md_holds_137 : decode b_Md_holds 137 = .ok (.ishr, 1) := by decide +kernel
theorem d_Md_holds_138 : decode b_Md_holds 138 = .ok (.iconst 1, 1) := by decide +kernel
theorem d_Md_holds_139 : decode b_Md_holds 139 = .ok (.iand, 1) := by decide +kernel
theorem d_Md_holds_140 : decode b_Md_holds 140 = .ok (.iconst 1, 1) := by decide +kernel
theorem d_Md_holds_141 : decode b_Md_holds 141 = .ok (.if_icmp .ne 7, 3) := by decide +kernel
theorem d_Md_holds_144 : decode b_Md_holds 144 = .ok (.iconst 1, 1) := by decide +kernel
theorem d_Md_holds_145 : decode b_Md_holds 145 = .ok (.goto 4, 3) := by decide +kernel
theorem d_Md_holds_148 : decode b_Md_holds 148 = .ok (.iconst 0, 1) := by decide +kernel
theorem d_Md_holds_149 : decode b_Md_holds 149 = .ok (.ireturn, 1) := by decide +kernel
theorem d_Md_ruled_0 : decode b_Md_ruled 0 = .ok (.iconst 0, 1) := by decide +kernel
theorem d_Md_ruled_1 : decode b_Md_ruled 1 = .ok (.istore 5, 2) := by decide +kernel
theorem d_Md_ruled_3 : decode b_Md_ruled 3 = .ok (.aload_n 0, 1) := by decide +kernel
theorem d_Md_ruled_4 : decode b_Md_ruled 4 = .ok (.getfield 52, 3) := by decide +kernel
theorem d_Md_ruled_7 : decode b_Md_ruled 7 = .ok (.iconst 0, 1) := by decide +kernel
theorem d_Md_ruled_8 : decode b_Md_ruled 8 = .ok (.iconst 1, 1) := by decide +kernel
theorem d_Md_ruled_9 : decode b_Md_ruled 9 = .ok (.bastore, 1) := by decide +kernel
theorem d_Md_ruled_10 : decode b_Md_ruled 10 = .ok (.aload_n 0, 1) := by decide +kernel
theorem d_Md_ruled_11 : decode b_Md_ruled 11 = .ok (.getfield 55, 3) := by decide +kernel
theorem d_Md_ruled_14 : decode b_Md_ruled 14 = .ok (.iconst 0, 1) := by decide +kernel
theorem d_Md_ruled_15 : decode b_Md_ruled 15 = .ok (.iconst 0, 1) := by decide +kernel
theorem d_Md_ruled_16 : decode b_Md_ruled 16 = .ok (.bastore, 1) := by decide +kernel
theorem d_Md_ruled_17 : decode b_Md_ruled 17 = .ok (.aload_n 0, 1) := by decide +kernel
theorem d_Md_ruled_18 : decode b_Md_ruled 18 = .ok (.getfield 58, 3) := by decide +kernel
theorem d_Md_ruled_21 : decode b_Md_ruled 21 = .ok (.iconst 0, 1) := by decide +kernel
theorem d_Md_ruled_22 : decode b_Md_ruled 22 = .ok (.iconst 1, 1) := by decide +kernel
theorem d_Md_ruled_23 : decode b_Md_ruled 23 = .ok (.bastore, 1) := by decide +kernel
theorem d_Md_ruled_24 : decode b_Md_ruled 24 = .ok (.aload_n 0, 1) := by decide +kernel
theorem d_Md_ruled_25 : decode b_Md_ruled 25 = .ok (.iconst 0, 1) := by decide +kernel
theorem d_Md_ruled_26 : decode b_Md_ruled 26 = .ok (.putfield 142, 3) := by decide +kernel
theorem d_Md_ruled_29 : decode b_Md_ruled 29 = .ok (.aload_n 0, 1) := by decide +kernel
theorem d_Md_ruled_30 : decode b_Md_ruled 30 = .ok (.getfield 16, 3) := by decide +kernel
theorem d_Md_ruled_33 : decode b_Md_ruled 33 = .ok (.iload_n 1, 1) := by decide +kernel
theorem d_Md_ruled_34 : decode b_Md_ruled 34 = .ok (.iaload, 1) := by decide +kernel
theorem d_Md_ruled_35 : decode b_Md_ruled 35 = .ok (.istore 6, 2) := by decide +kernel
theorem d_Md_ruled_37 : decode b_Md_ruled 37 = .ok (.aload_n 0, 1) := by decide +kernel
theorem d_Md_ruled_38 : decode b_Md_ruled 38 = .ok (.getfield 13, 3) := by decide +kernel
theorem d_Md_ruled_41 : decode b_Md_ruled 41 = .ok (.iload 6, 2) := by decide +kernel
theorem d_Md_ruled_43 : decode b_Md_ruled 43 = .ok (.iaload, 1) := by decide +kernel
theorem d_Md_ruled_44 : decode b_Md_ruled 44 = .ok (.bipush 58, 2) := by decide +kernel
theorem d_Md_ruled_46 : decode b_Md_ruled 46 = .ok (.if_icmp .eq 9, 3) := by decide +kernel
theorem d_Md_ruled_49 : decode b_Md_ruled 49 = .ok (.iinc 6 1, 3) := by decide +kernel
theorem d_Md_ruled_52 : decode b_Md_ruled 52 = .ok (.goto (-15), 3) := by decide +kernel
theorem d_Md_ruled_55 : decode b_Md_ruled 55 = .ok (.iload 6, 2) := by decide +kernel
theorem d_Md_ruled_57 : decode b_Md_ruled 57 = .ok (.iconst 1, 1) := by decide +kernel
theorem d_Md_ruled_58 : decode b_Md_ruled 58 = .ok (.iadd, 1) := by decide +kernel
theorem d_Md_ruled_59 : decode b_Md_ruled 59 = .ok (.istore 7, 2) := by decide +kernel
theorem d_Md_ruled_61 : decode b_Md_ruled 61 = .ok (.aload_n 0, 1) := by decide +kernel
theorem d_Md_ruled_62 : decode b_Md_ruled 62 = .ok (.getfield 13, 3) := by decide +kernel
theorem d_Md_ruled_65 : decode b_Md_ruled 65 = .ok (.iload 7, 2) := by decide +kernel
theorem d_Md_ruled_67 : decode b_Md_ruled 67 = .ok (.iaload, 1) := by decide +kernel
theorem d_Md_ruled_68 : decode b_Md_ruled 68 = .ok (.bipush 59, 2) := by decide +kernel
theorem d_Md_ruled_70 : decode b_Md_ruled 70 = .ok (.if_icmp .eq 295, 3) := by decide +kernel
theorem d_Md_ruled_73 : decode b_Md_ruled 73 = .ok (.aload_n 0, 1) := by decide +kernel
theorem d_Md_ruled_74 : decode b_Md_ruled 74 = .ok (.getfield 13, 3) := by decide +kernel
theorem d_Md_ruled_77 : decode b_Md_ruled 77 = .ok (.iload 7, 2) := by decide +kernel
theorem d_Md_ruled_79 : decode b_Md_ruled 79 = .ok (.iaload, 1) := by decide +kernel
theorem d_Md_ruled_80 : decode b_Md_ruled 80 = .ok (.istore 8, 2) := by decide +kernel
theorem d_Md_ruled_82 : decode b_Md_ruled 82 = .ok (.aload_n 0, 1) := by decide +kernel
theorem d_Md_ruled_83 : decode b_Md_ruled 83 = .ok (.getfield 52, 3) := by decide +kernel
theorem d_Md_ruled_86 : decode b_Md_ruled 86 = .ok (.iload 5, 2) := by decide +kernel
theorem d_Md_ruled_88 : decode b_Md_ruled 88 = .ok (.baload, 1) := by decide +kernel
theorem d_Md_ruled_89 : decode b_Md_ruled 89 = .ok (.ifCond .eq 27, 3) := by decide +kernel
theorem d_Md_ruled_92 : decode b_Md_ruled 92 = .ok (.aload_n 0, 1) := by decide +kernel
theorem d_Md_ruled_93 : decode b_Md_ruled 93 = .ok (.getfield 55, 3) := by decide +kernel
theorem d_Md_ruled_96 : decode b_Md_ruled 96 = .ok (.iload 5, 2) := by decide +kernel
theorem d_Md_ruled_98 : decode b_Md_ruled 98 = .ok (.baload, 1) := by decide +kernel
theorem d_Md_ruled_99 : decode b_Md_ruled 99 = .ok (.ifCond .ne 17, 3) := by decide +kernel
theorem d_Md_ruled_102 : decode b_Md_ruled 102 = .ok (.aload_n 0, 1) := by decide +kernel
theorem d_Md_ruled_103 : decode b_Md_ruled 103 = .ok (.getfield 58, 3) := by decide +kernel
theorem d_Md_ruled_106 : decode b_Md_ruled 106 = .ok (.iload 5, 2) := by decide +kernel
theorem d_Md_ruled_108 : decode b_Md_ruled 108 = .ok (.baload, 1) := by decide +kernel
theorem d_Md_ruled_109 : decode b_Md_ruled 109 = .ok (.ifCond .eq 7, 3) := by decide +kernel
theorem d_Md_ruled_112 : decode b_Md_ruled 112 = .ok (.iconst 1, 1) := by decide +kernel
theorem d_Md_ruled_113 : decode b_Md_ruled 113 = .ok (.goto 4, 3) := by decide +kernel
theorem d_Md_ruled_116 : decode b_Md_ruled 116 = .ok (.iconst 0, 1) := by decide +kernel
theorem d_Md_ruled_117 : decode b_Md_ruled 117 = .ok (.istore 9, 2) := by decide +kernel
theorem d_Md_ruled_119 : decode b_Md_ruled 119 = .ok (.iload 8, 2) := by decide +kernel
theorem d_Md_ruled_121 : decode b_Md_ruled 121 = .ok (.bipush 40, 2) := by decide +kernel
theorem d_Md_ruled_123 : decode b_Md_ruled 123 = .ok (.if_icmp .ne 34, 3) := by decide +kernel
theorem d_Md_ruled_126 : decode b_Md_ruled 126 = .ok (.iinc 5 1, 3) := by decide +kernel
theorem d_Md_ruled_129 : decode b_Md_ruled 129 = .ok (.aload_n 0, 1) := by decide +kernel
theorem d_Md_ruled_130 : decode b_Md_ruled 130 = .ok (.getfield 52, 3) := by decide +kernel
theorem d_Md_ruled_133 : decode b_Md_ruled 133 = .ok (.iload 5, 2) := by decide +kernel
theorem d_Md_ruled_135 : decode b_Md_ruled 135 = .ok (.iload 9, 2) := by decide +kernel
theorem d_Md_ruled_137 : decode b_Md_ruled 137 = .ok (.bastore, 1) := by decide +kernel
theorem d_Md_ruled_138 : decode b_Md_ruled 138 = .ok (.aload_n 0, 1) := by decide +kernel
theorem d_Md_ruled_139 : decode b_Md_ruled 139 = .ok (.getfield 55, 3) := by decide +kernel
theorem d_Md_ruled_142 : decode b_Md_ruled 142 = .ok (.iload 5, 2) := by decide +kernel
theorem d_Md_ruled_144 : decode b_Md_ruled 144 = .ok (.iconst 0, 1) := by decide +kernel
theorem d_Md_ruled_145 : decode b_Md_ruled 145 = .ok (.bastore, 1) := by decide +kernel
theorem d_Md_ruled_146 : decode b_Md_ruled 146 = .ok (.aload_n 0, 1) := by decide +kernel
theorem d_Md_ruled_147 : decode b_Md_ruled 147 = .ok (.getfield 58, 3) := by decide +kernel
theorem d_Md_ruled_150 : decode b_Md_ruled 150 = .ok (.iload 5, 2) := by decide +kernel
theorem d_Md_ruled_152 : decode b_Md_ruled 152 = .ok (.iconst 1, 1) := by decide +kernel
theorem d_Md_ruled_153 : decode b_Md_ruled 153 = .ok (.bastore, 1) := by decide +kernel
theorem d_Md_ruled_154 : decode b_Md_ruled 154 = .ok (.goto 205, 3) := by decide +kernel
theorem d_Md_ruled_157 : decode b_Md_ruled 157 = .ok (.iload 8, 2) := by decide +kernel
theorem d_Md_ruled_159 : decode b_Md_ruled 159 = .ok (.bipush 41, 2) := by decide +kernel
theorem d_Md_ruled_161 : decode b_Md_ruled 161 = .ok (.if_icmp .ne 67, 3) := by decide +kernel
theorem d_Md_ruled_164 : decode b_Md_ruled 164 = .ok (.iinc 5 (-1), 3) := by decide +kernel
theorem d_Md_ruled_167 : decode b_Md_ruled 167 = .ok (.aload_n 0, 1) := by decide +kernel
theorem d_Md_ruled_168 : decode b_Md_ruled 168 = .ok (.getfield 58, 3) := by decide +kernel
theorem d_Md_ruled_171 : decode b_Md_ruled 171 = .ok (.iload 5, 2) := by decide +kernel
theorem d_Md_ruled_173 : decode b_Md_ruled 173 = .ok (.aload_n 0, 1) := by decide +kernel
theorem d_Md_ruled_174 : decode b_Md_ruled 174 = .ok (.getfield 52, 3) := by decide +kernel
theorem d_Md_ruled_177 : decode b_Md_ruled 177 = .ok (.iload 5, 2) := by decide +kernel
theorem d_Md_ruled_179 : decode b_Md_ruled 179 = .ok (.iconst 1, 1) := by decide +kernel
theorem d_Md_ruled_180 : decode b_Md_ruled 180 = .ok (.iadd, 1) := by decide +kernel
theorem d_Md_ruled_181 : decode b_Md_ruled 181 = .ok (.baload, 1) := by decide +kernel
theorem d_Md_ruled_182 : decode b_Md_ruled 182 = .ok (.ifCond .eq 35, 3) := by decide +kernel
theorem d_Md_ruled_185 : decode b_Md_ruled 185 = .ok (.aload_n 0, 1) := by decide +kernel
theorem d_Md_ruled_186 : decode b_Md_ruled 186 = .ok (.getfield 55, 3) := by decide +kernel
theorem d_Md_ruled_189 : decode b_Md_ruled 189 = .ok (.iload 5, 2) := by decide +kernel
theorem d_Md_ruled_191 : decode b_Md_ruled 191 = .ok (.iconst 1, 1) := by decide +kernel
theorem d_Md_ruled_192 : decode b_Md_ruled 192 = .ok (.iadd, 1) := by decide +kernel
theorem d_Md_ruled_193 : decode b_Md_ruled 193 = .ok (.baload, 1) := by decide +kernel
theorem d_Md_ruled_194 : decode b_Md_ruled 194 = .ok (.ifCond .ne 15, 3) := by decide +kernel
theorem d_Md_ruled_197 : decode b_Md_ruled 197 = .ok (.aload_n 0, 1) := by decide +kernel
theorem d_Md_ruled_198 : decode b_Md_ruled 198 = .ok (.getfield 58, 3) := by decide +kernel
theorem d_Md_ruled_201 : decode b_Md_ruled 201 = .ok (.iload 5, 2) := by decide +kernel
theorem d_Md_ruled_203 : decode b_Md_ruled 203 = .ok (.iconst 1, 1) := by decide +kernel
theorem d_Md_ruled_204 : decode b_Md_ruled 204 = .ok (.iadd, 1) := by decide +kernel
theorem d_Md_ruled_205 : decode b_Md_ruled 205 = .ok (.baload, 1) := by decide +kernel
theorem d_Md_ruled_206 : decode b_Md_ruled 206 = .ok (.ifCond .eq 7, 3) := by decide +kernel
theorem d_Md_ruled_209 : decode b_Md_ruled 209 = .ok (.iconst 1, 1) := by decide +kernel
theorem d_Md_ruled_210 : decode b_Md_ruled 210 = .ok (.goto 14, 3) := by decide +kernel
theorem d_Md_ruled_213 : decode b_Md_ruled 213 = .ok (.iconst 0, 1) := by decide +kernel
theorem d_Md_ruled_214 : decode b_Md_ruled 214 = .ok (.goto 10, 3) := by decide +kernel
theorem d_Md_ruled_217 : decode b_Md_ruled 217 = .ok (.aload_n 0, 1) := by decide +kernel
theorem d_Md_ruled_218 : decode b_Md_ruled 218 = .ok (.getfield 58, 3) := by decide +kernel
theorem d_Md_ruled_221 : decode b_Md_ruled 221 = .ok (.iload 5, 2) := by decide +kernel
theorem d_Md_ruled_223 : decode b_Md_ruled 223 = .ok (.baload, 1) := by decide +kernel
theorem d_Md_ruled_224 : decode b_Md_ruled 224 = .ok (.bastore, 1) := by decide +kernel
theorem d_Md_ruled_225 : decode b_Md_ruled 225 = .ok (.goto 134, 3) := by decide +kernel
theorem d_Md_ruled_228 : decode b_Md_ruled 228 = .ok (.iload 8, 2) := by decide +kernel
theorem d_Md_ruled_230 : decode b_Md_ruled 230 = .ok (.bipush 124, 2) := by decide +kernel
theorem d_Md_ruled_232 : decode b_Md_ruled 232 = .ok (.if_icmp .ne 46, 3) := by decide +kernel
theorem d_Md_ruled_235 : decode b_Md_ruled 235 = .ok (.aload_n 0, 1) := by decide +kernel
theorem d_Md_ruled_236 : decode b_Md_ruled 236 = .ok (.getfield 55, 3) := by decide +kernel
theorem d_Md_ruled_239 : decode b_Md_ruled 239 = .ok (.iload 5, 2) := by decide +kernel
theorem d_Md_ruled_241 : decode b_Md_ruled 241 = .ok (.aload_n 0, 1) := by decide +kernel
theorem d_Md_ruled_242 : decode b_Md_ruled 242 = .ok (.getfield 55, 3) := by decide +kernel
theorem d_Md_ruled_245 : decode b_Md_ruled 245 = .ok (.iload 5, 2) := by decide +kernel
theorem d_Md_ruled_247 : decode b_Md_ruled 247 = .ok (.baload, 1) := by decide +kernel
theorem d_Md_ruled_248 : decode b_Md_ruled 248 = .ok (.ifCond .ne 13, 3) := by decide +kernel
theorem d_Md_ruled_251 : decode b_Md_ruled 251 = .ok (.aload_n 0, 1) := by decide +kernel
theorem d_Md_ruled_252 : decode b_Md_ruled 252 = .ok (.getfield 58, 3) := by decide +kernel
theorem d_Md_ruled_255 : decode b_Md_ruled 255 = .ok (.iload 5, 2) := by decide +kernel
theorem d_Md_ruled_257 : decode b_Md_ruled 257 = .ok (.baload, 1) := by decide +kernel
theorem d_Md_ruled_258 : decode b_Md_ruled 258 = .ok (.ifCond .eq 7, 3) := by decide +kernel
theorem d_Md_ruled_261 : decode b_Md_ruled 261 = .ok (.iconst 1, 1) := by decide +kernel
theorem d_Md_ruled_262 : decode b_Md_ruled 262 = .ok (.goto 4, 3) := by decide +kernel
theorem d_Md_ruled_265 : decode b_Md_ruled 265 = .ok (.iconst 0, 1) := by decide +kernel
theorem d_Md_ruled_266 : decode b_Md_ruled 266 = .ok (.bastore, 1) := by decide +kernel
theorem d_Md_ruled_267 : decode b_Md_ruled 267 = .ok (.aload_n 0, 1) := by decide +kernel
theorem d_Md_ruled_268 : decode b_Md_ruled 268 = .ok (.getfield 58, 3) := by decide +kernel
theorem d_Md_ruled_271 : decode b_Md_ruled 271 = .ok (.iload 5, 2) := by decide +kernel
theorem d_Md_ruled_273 : decode b_Md_ruled 273 = .ok (.iconst 1, 1) := by decide +kernel
theorem d_Md_ruled_274 : decode b_Md_ruled 274 = .ok (.bastore, 1) := by decide +kernel
theorem d_Md_ruled_275 : decode b_Md_ruled 275 = .ok (.goto 84, 3) := by decide +kernel
theorem d_Md_ruled_278 : decode b_Md_ruled 278 = .ok (.iload 9, 2) := by decide +kernel
theorem d_Md_ruled_280 : decode b_Md_ruled 280 = .ok (.ifCond .eq 79, 3) := by decide +kernel
theorem d_Md_ruled_283 : decode b_Md_ruled 283 = .ok (.iload 8, 2) := by decide +kernel
theorem d_Md_ruled_285 : decode b_Md_ruled 285 = .ok (.bipush 38, 2) := by decide +kernel
theorem d_Md_ruled_287 : decode b_Md_ruled 287 = .ok (.if_icmp .eq 72, 3) := by decide +kernel
theorem d_Md_ruled_290 : decode b_Md_ruled 290 = .ok (.iload 8, 2) := by decide +kernel
theorem d_Md_ruled_292 : decode b_Md_ruled 292 = .ok (.invokestatic 75, 3) := by decide +kernel
theorem d_Md_ruled_295 : decode b_Md_ruled 295 = .ok (.ifCond .ne 64, 3) := by decide +kernel
theorem d_Md_ruled_298 : decode b_Md_ruled 298 = .ok (.aload_n 0, 1) := by decide +kernel
theorem d_Md_ruled_299 : decode b_Md_ruled 299 = .ok (.getfield 58, 3) := by decide +kernel
theorem d_Md_ruled_302 : decode b_Md_ruled 302 = .ok (.iload 5, 2) := by decide +kernel
theorem d_Md_ruled_304 : decode b_Md_ruled 304 = .ok (.aload_n 0, 1) := by decide +kernel
theorem d_Md_ruled_305 : decode b_Md_ruled 305 = .ok (.iload 7, 2) := by decide +kernel
theorem d_Md_ruled_307 : decode b_Md_ruled 307 = .ok (.iload_n 2, 1) := by decide +kernel
theorem d_Md_ruled_308 : decode b_Md_ruled 308 = .ok (.lload_n 3, 1) := by decide +kernel
theorem d_Md_ruled_309 : decode b_Md_ruled 309 = .ok (.invokevirtual 145, 3) := by decide +kernel
theorem d_Md_ruled_312 : decode b_Md_ruled 312 = .ok (.bastore, 1) := by decide +kernel
theorem d_Md_ruled_313 : decode b_Md_ruled 313 = .ok (.aload_n 0, 1) := by decide +kernel
theorem d_Md_ruled_314 : decode b_Md_ruled 314 = .ok (.getfield 49, 3) := by decide +kernel
theorem d_Md_ruled_317 : decode b_Md_ruled 317 = .ok (.aload_n 0, 1) := by decide +kernel
theorem d_Md_ruled_318 : decode b_Md_ruled 318 = .ok (.getfield 142, 3) := by decide +kernel
theorem d_Md_ruled_321 : decode b_Md_ruled 321 = .ok (.iconst 2, 1) := by decide +kernel
theorem d_Md_ruled_322 : decode b_Md_ruled 322 = .ok (.iload 7, 2) := by decide +kernel
theorem d_Md_ruled_324 : decode b_Md_ruled 324 = .ok (.aload_n 0, 1) := by decide +kernel
theorem d_Md_ruled_325 : decode b_Md_ruled 325 = .ok (.getfield 16, 3) := by decide +kernel
theorem d_Md_ruled_328 : decode b_Md_ruled 328 = .ok (.iload_n 1, 1) := by decide +kernel
theorem d_Md_ruled_329 : decode b_Md_ruled 329 = .ok (.iaload, 1) := by decide +kernel
theorem d_Md_ruled_330 : decode b_Md_ruled 330 = .ok (.isub, 1) := by decide +kernel
theorem d_Md_ruled_331 : decode b_Md_ruled 331 = .ok (.imul, 1) := by decide +kernel
theorem d_Md_ruled_332 : decode b_Md_ruled 332 = .ok (.aload_n 0, 1) := by decide +kernel
theorem d_Md_ruled_333 : decode b_Md_ruled 333 = .ok (.getfield 58, 3) := by decide +kernel
theorem d_Md_ruled_336 : decode b_Md_ruled 336 = .ok (.iload 5, 2) := by decide +kernel
theorem d_Md_ruled_338 : decode b_Md_ruled 338 = .ok (.baload, 1) := by decide +kernel
theorem d_Md_ruled_339 : decode b_Md_ruled 339 = .ok (.ifCond .eq 7, 3) := by decide +kernel
theorem d_Md_ruled_342 : decode b_Md_ruled 342 = .ok (.iconst 1, 1) := by decide +kernel
theorem d_Md_ruled_343 : decode b_Md_ruled 343 = .ok (.goto 4, 3) := by decide +kernel
theorem d_Md_ruled_346 : decode b_Md_ruled 346 = .ok (.iconst 0, 1) := by decide +kernel
theorem d_Md_ruled_347 : decode b_Md_ruled 347 = .ok (.iadd, 1) := by decide +kernel
theorem d_Md_ruled_348 : decode b_Md_ruled 348 = .ok (.iastore, 1) := by decide +kernel
theorem d_Md_ruled_349 : decode b_Md_ruled 349 = .ok (.aload_n 0, 1) := by decide +kernel
theorem d_Md_ruled_350 : decode b_Md_ruled 350 = .ok (.dup, 1) := by decide +kernel
theorem d_Md_ruled_351 : decode b_Md_ruled 351 = .ok (.getfield 142, 3) := by decide +kernel
theorem d_Md_ruled_354 : decode b_Md_ruled 354 = .ok (.iconst 1, 1) := by decide +kernel
theorem d_Md_ruled_355 : decode b_Md_ruled 355 = .ok (.iadd, 1) := by decide +kernel
theorem d_Md_ruled_356 : decode b_Md_ruled 356 = .ok (.putfield 142, 3) := by decide +kernel
theorem d_Md_ruled_359 : decode b_Md_ruled 359 = .ok (.iinc 7 1, 3) := by decide +kernel
theorem d_Md_ruled_362 : decode b_Md_ruled 362 = .ok (.goto (-301), 3) := by decide +kernel
theorem d_Md_ruled_365 : decode b_Md_ruled 365 = .ok (.aload_n 0, 1) := by decide +kernel
theorem d_Md_ruled_366 : decode b_Md_ruled 366 = .ok (.getfield 55, 3) := by decide +kernel
theorem d_Md_ruled_369 : decode b_Md_ruled 369 = .ok (.iconst 0, 1) := by decide +kernel
theorem d_Md_ruled_370 : decode b_Md_ruled 370 = .ok (.baload, 1) := by decide +kernel
theorem d_Md_ruled_371 : decode b_Md_ruled 371 = .ok (.ifCond .ne 12, 3) := by decide +kernel
theorem d_Md_ruled_374 : decode b_Md_ruled 374 = .ok (.aload_n 0, 1) := by decide +kernel
theorem d_Md_ruled_375 : decode b_Md_ruled 375 = .ok (.getfield 58, 3) := by decide +kernel
theorem d_Md_ruled_378 : decode b_Md_ruled 378 = .ok (.iconst 0, 1) := by decide +kernel
theorem d_Md_ruled_379 : decode b_Md_ruled 379 = .ok (.baload, 1) := by decide +kernel
theorem d_Md_ruled_380 : decode b_Md_ruled 380 = .ok (.ifCond .eq 7, 3) := by decide +kernel
theorem d_Md_ruled_383 : decode b_Md_ruled 383 = .ok (.iconst 1, 1) := by decide +kernel
theorem d_Md_ruled_384 : decode b_Md_ruled 384 = .ok (.goto 4, 3) := by decide +kernel
theorem d_Md_ruled_387 : decode b_Md_ruled 387 = .ok (.iconst 0, 1) := by decide +kernel
theorem d_Md_ruled_388 : decode b_Md_ruled 388 = .ok (.ireturn, 1) := by decide +kernel
theorem d_Md_verdict_0 : decode b_Md_verdict 0 = .ok (.iload_n 1, 1) := by decide +kernel
theorem d_Md_verdict_1 : decode b_Md_verdict 1 = .ok (.i2l, 1) := by decide +kernel
theorem d_Md_verdict_2 : decode b_Md_verdict 2 = .ok (.lconst 1, 1) := by decide +kernel
theorem d_Md_verdict_3 : decode b_Md_verdict 3 = .ok (.ldc2_w 93, 3) := by decide +kernel
theorem d_Md_verdict_6 : decode b_Md_verdict 6 = .ok (.invokestatic 68, 3) := by decide +kernel
theorem d_Md_verdict_9 : decode b_Md_verdict 9 = .ok (.ifCond .eq 14, 3) := by decide +kernel
theorem d_Md_verdict_12 : decode b_Md_verdict 12 = .ok (.lload_n 2, 1) := by decide +kernel
theorem d_Md_verdict_13 : decode b_Md_verdict 13 = .ok (.lconst 0, 1) := by decide +kernel
theorem d_Md_verdict_14 : decode b_Md_verdict 14 = .ok (.ldc2_w 97, 3) := by decide +kernel
theorem d_Md_verdict_17 : decode b_Md_verdict 17 = .ok (.invokestatic 68, 3) := by decide +kernel
theorem d_Md_verdict_20 : decode b_Md_verdict 20 = .ok (.ifCond .ne 9, 3) := by decide +kernel
theorem d_Md_verdict_23 : decode b_Md_verdict 23 = .ok (.aload_n 0, 1) := by decide +kernel
theorem d_Md_verdict_24 : decode b_Md_verdict 24 = .ok (.iconst 1, 1) := by decide +kernel
theorem d_Md_verdict_25 : decode b_Md_verdict 25 = .ok (.invokevirtual 99, 3) := by decide +kernel
theorem d_Md_verdict_28 : decode b_Md_verdict 28 = .ok (.ireturn, 1) := by decide +kernel
theorem d_Md_verdict_29 : decode b_Md_verdict 29 = .ok (.aload_n 0, 1) := by decide +kernel
theorem d_Md_verdict_30 : decode b_Md_verdict 30 = .ok (.iconst 0, 1) := by decide +kernel
theorem d_Md_verdict_31 : decode b_Md_verdict 31 = .ok (.putfield 61, 3) := by decide +kernel
theorem d_Md_verdict_34 : decode b_Md_verdict 34 = .ok (.aload_n 0, 1) := by decide +kernel
theorem d_Md_verdict_35 : decode b_Md_verdict 35 = .ok (.iload_n 1, 1) := by decide +kernel
theorem d_Md_verdict_36 : decode b_Md_verdict 36 = .ok (.invokevirtual 149, 3) := by decide +kernel
theorem d_Md_verdict_39 : decode b_Md_verdict 39 = .ok (.istore 4, 2) := by decide +kernel
theorem d_Md_verdict_41 : decode b_Md_verdict 41 = .ok (.iload 4, 2) := by decide +kernel
theorem d_Md_verdict_43 : decode b_Md_verdict 43 = .ok (.ifCond .ge 5, 3) := by decide +kernel
theorem d_Md_verdict_46 : decode b_Md_verdict 46 = .ok (.iconst 3, 1) := by decide +kernel
theorem d_Md_verdict_47 : decode b_Md_verdict 47 = .ok (.ireturn, 1) := by decide +kernel
theorem d_Md_verdict_48 : decode b_Md_verdict 48 = .ok (.aload_n 0, 1) := by decide +kernel
theorem d_Md_verdict_49 : decode b_Md_verdict 49 = .ok (.getfield 106, 3) := by decide +kernel
theorem d_Md_verdict_52 : decode b_Md_verdict 52 = .ok (.ifCond .eq 19, 3) := by decide +kernel
theorem d_Md_verdict_55 : decode b_Md_verdict 55 = .ok (.aload_n 0, 1) := by decide +kernel
theorem d_Md_verdict_56 : decode b_Md_verdict 56 = .ok (.getfield 106, 3) := by decide +kernel
theorem d_Md_verdict_59 : decode b_Md_verdict 59 = .ok (.aload_n 0, 1) := by decide +kernel
theorem d_Md_verdict_60 : decode b_Md_verdict 60 = .ok (.getfield 111, 3) := by decide +kernel
theorem d_Md_verdict_63 : decode b_Md_verdict 63 = .ok (.iconst (-1), 1) := by decide +kernel
theorem d_Md_verdict_64 : decode b_Md_verdict 64 = .ok (.ixor, 1) := by decide +kernel
theorem d_Md_verdict_65 : decode b_Md_verdict 65 = .ok (.iand, 1) := by decide +kernel
theorem d_Md_verdict_66 : decode b_Md_verdict 66 = .ok (.ifCond .ne 5, 3) := by decide +kernel
theorem d_Md_verdict_69 : decode b_Md_verdict 69 = .ok (.iconst 2, 1) := by decide +kernel
theorem d_Md_verdict_70 : decode b_Md_verdict 70 = .ok (.ireturn, 1) := by decide +kernel
theorem d_Md_verdict_71 : decode b_Md_verdict 71 = .ok (.aload_n 0, 1) := by decide +kernel
theorem d_Md_verdict_72 : decode b_Md_verdict 72 = .ok (.iload 4, 2) := by decide +kernel
theorem d_Md_verdict_74 : decode b_Md_verdict 74 = .ok (.iload_n 1, 1) := by decide +kernel
theorem d_Md_verdict_75 : decode b_Md_verdict 75 = .ok (.lload_n 2, 1) := by decide +kernel
theorem d_Md_verdict_76 : decode b_Md_verdict 76 = .ok (.invokevirtual 152, 3) := by decide +kernel
theorem d_Md_verdict_79 : decode b_Md_verdict 79 = .ok (.ifCond .eq 7, 3) := by decide +kernel
theorem d_Md_verdict_82 : decode b_Md_verdict 82 = .ok (.iconst 1, 1) := by decide +kernel
theorem d_Md_verdict_83 : decode b_Md_verdict 83 = .ok (.goto 4, 3) := by decide +kernel
theorem d_Md_verdict_86 : decode b_Md_verdict 86 = .ok (.iconst 0, 1) := by decide +kernel
theorem d_Md_verdict_87 : decode b_Md_verdict 87 = .ok (.ireturn, 1) := by decide +kernel
theorem d_Md_why_0 : decode b_Md_why 0 = .ok (.aload_n 0, 1) := by decide +kernel
theorem d_Md_why_1 : decode b_Md_why 1 = .ok (.iconst 0, 1) := by decide +kernel
theorem d_Md_why_2 : decode b_Md_why 2 = .ok (.putfield 61, 3) := by decide +kernel
theorem d_Md_why_5 : decode b_Md_why 5 = .ok (.iload_n 1, 1) := by decide +kernel
theorem d_Md_why_6 : decode b_Md_why 6 = .ok (.ifCond .lt 20, 3) := by decide +kernel
theorem d_Md_why_9 : decode b_Md_why 9 = .ok (.iload_n 1, 1) := by decide +kernel
theorem d_Md_why_10 : decode b_Md_why 10 = .ok (.aload_n 0, 1) := by decide +kernel
theorem d_Md_why_11 : decode b_Md_why 11 = .ok (.getfield 142, 3) := by decide +kernel
theorem d_Md_why_14 : decode b_Md_why 14 = .ok (.if_icmp .ge 12, 3) := by decide +kernel
theorem d_Md_why_17 : decode b_Md_why 17 = .ok (.aload_n 0, 1) := by decide +kernel
theorem d_Md_why_18 : decode b_Md_why 18 = .ok (.getfield 49, 3) := by decide +kernel
theorem d_Md_why_21 : decode b_Md_why 21 = .ok (.iload_n 1, 1) := by decide +kernel
theorem d_Md_why_22 : decode b_Md_why 22 = .ok (.iaload, 1) := by decide +kernel
theorem d_Md_why_23 : decode b_Md_why 23 = .ok (.goto 4, 3) := by decide +kernel
theorem d_Md_why_26 : decode b_Md_why 26 = .ok (.iconst (-1), 1) := by decide +kernel
theorem d_Md_why_27 : decode b_Md_why 27 = .ok (.ireturn, 1) := by decide +kernel
theorem d_Md_share_0 : decode b_Md_share 0 = .ok (.lload_n 1, 1) := by decide +kernel
theorem d_Md_share_1 : decode b_Md_share 1 = .ok (.lconst 0, 1) := by decide +kernel
theorem d_Md_share_2 : decode b_Md_share 2 = .ok (.ldc2_w 97, 3) := by decide +kernel
theorem d_Md_share_5 : decode b_Md_share 5 = .ok (.invokestatic 68, 3) := by decide +kernel
theorem d_Md_share_8 : decode b_Md_share 8 = .ok (.ifCond .eq 13, 3) := by decide +kernel
theorem d_Md_share_11 : decode b_Md_share 11 = .ok (.iload_n 3, 1) := by decide +kernel
theorem d_Md_share_12 : decode b_Md_share 12 = .ok (.i2l, 1) := by decide +kernel
theorem d_Md_share_13 : decode b_Md_share 13 = .ok (.lconst 0, 1) := by decide +kernel
theorem d_Md_share_14 : decode b_Md_share 14 = .ok (.lconst 1, 1) := by decide +kernel
theorem d_Md_share_15 : decode b_Md_share 15 = .ok (.invokestatic 68, 3) := by decide +kernel
theorem d_Md_share_18 : decode b_Md_share 18 = .ok (.ifCond .ne 10, 3) := by decide +kernel
theorem d_Md_share_21 : decode b_Md_share 21 = .ok (.aload_n 0, 1) := by decide +kernel
theorem d_Md_share_22 : decode b_Md_share 22 = .ok (.iconst 1, 1) := by decide +kernel
theorem d_Md_share_23 : decode b_Md_share 23 = .ok (.invokevirtual 99, 3) := by decide +kernel
theorem d_Md_share_26 : decode b_Md_share 26 = .ok (.i2l, 1) := by decide +kernel
theorem d_Md_share_27 : decode b_Md_share 27 = .ok (.lreturn, 1) := by decide +kernel
theorem d_Md_share_28 : decode b_Md_share 28 = .ok (.lload_n 1, 1) := by decide +kernel
theorem d_Md_share_29 : decode b_Md_share 29 = .ok (.lconst 0, 1) := by decide +kernel
theorem d_Md_share_30 : decode b_Md_share 30 = .ok (.lcmp, 1) := by decide +kernel
theorem d_Md_share_31 : decode b_Md_share 31 = .ok (.ifCond .ne 10, 3) := by decide +kernel
theorem d_Md_share_34 : decode b_Md_share 34 = .ok (.aload_n 0, 1) := by decide +kernel
theorem d_Md_share_35 : decode b_Md_share 35 = .ok (.iconst 2, 1) := by decide +kernel
theorem d_Md_share_36 : decode b_Md_share 36 = .ok (.invokevirtual 99, 3) := by decide +kernel
theorem d_Md_share_39 : decode b_Md_share 39 = .ok (.i2l, 1) := by decide +kernel
theorem d_Md_share_40 : decode b_Md_share 40 = .ok (.lreturn, 1) := by decide +kernel
theorem d_Md_share_41 : decode b_Md_share 41 = .ok (.aload_n 0, 1) := by decide +kernel
theorem d_Md_share_42 : decode b_Md_share 42 = .ok (.iconst 0, 1) := by decide +kernel
theorem d_Md_share_43 : decode b_Md_share 43 = .ok (.putfield 61, 3) := by decide +kernel
theorem d_Md_share_46 : decode b_Md_share 46 = .ok (.aload_n 0, 1) := by decide +kernel
theorem d_Md_share_47 : decode b_Md_share 47 = .ok (.invokevirtual 135, 3) := by decide +kernel
theorem d_Md_share_50 : decode b_Md_share 50 = .ok (.lstore 4, 2) := by decide +kernel
theorem d_Md_share_52 : decode b_Md_share 52 = .ok (.lload 4, 2) := by decide +kernel
theorem d_Md_share_54 : decode b_Md_share 54 = .ok (.lstore 6, 2) := by decide +kernel
theorem d_Md_share_56 : decode b_Md_share 56 = .ok (.lload_n 1, 1) := by decide +kernel
theorem d_Md_share_57 : decode b_Md_share 57 = .ok (.lstore 8, 2) := by decide +kernel
theorem d_Md_share_59 : decode b_Md_share 59 = .ok (.lload 8, 2) := by decide +kernel
theorem d_Md_share_61 : decode b_Md_share 61 = .ok (.lconst 0, 1) := by decide +kernel
theorem d_Md_share_62 : decode b_Md_share 62 = .ok (.lcmp, 1) := by decide +kernel
theorem d_Md_share_63 : decode b_Md_share 63 = .ok (.ifCond .le 21, 3) := by decide +kernel
theorem d_Md_share_66 : decode b_Md_share 66 = .ok (.lload 6, 2) := by decide +kernel
theorem d_Md_share_68 : decode b_Md_share 68 = .ok (.lload 8, 2) := by decide +kernel
theorem d_Md_share_70 : decode b_Md_share 70 = .ok (.lrem, 1) := by decide +kernel
theorem d_Md_share_71 : decode b_Md_share 71 = .ok (.lstore 10, 2) := by decide +kernel
theorem d_Md_share_73 : decode b_Md_share 73 = .ok (.lload 8, 2) := by decide +kernel
theorem d_Md_share_75 : decode b_Md_share 75 = .ok (.lstore 6, 2) := by decide +kernel
theorem d_Md_share_77 : decode b_Md_share 77 = .ok (.lload 10, 2) := by decide +kernel
theorem d_Md_share_79 : decode b_Md_share 79 = .ok (.lstore 8, 2) := by decide +kernel
theorem d_Md_share_81 : decode b_Md_share 81 = .ok (.goto (-22), 3) := by decide +kernel
theorem d_Md_share_84 : decode b_Md_share 84 = .ok (.iload_n 3, 1) := by decide +kernel
theorem d_Md_share_85 : decode b_Md_share 85 = .ok (.ifCond .ne 11, 3) := by decide +kernel
theorem d_Md_share_88 : decode b_Md_share 88 = .ok (.lload 4, 2) := by decide +kernel
theorem d_Md_share_90 : decode b_Md_share 90 = .ok (.lload 6, 2) := by decide +kernel
theorem d_Md_share_92 : decode b_Md_share 92 = .ok (.ldiv, 1) := by decide +kernel
theorem d_Md_share_93 : decode b_Md_share 93 = .ok (.goto 7, 3) := by decide +kernel
theorem d_Md_share_96 : decode b_Md_share 96 = .ok (.lload_n 1, 1) := by decide +kernel
theorem d_Md_share_97 : decode b_Md_share 97 = .ok (.lload 6, 2) := by decide +kernel
theorem d_Md_share_99 : decode b_Md_share 99 = .ok (.ldiv, 1) := by decide +kernel
theorem d_Md_share_100 : decode b_Md_share 100 = .ok (.lreturn, 1) := by decide +kernel
theorem d_Md_isDay_0 : decode b_Md_isDay 0 = .ok (.iload_n 0, 1) := by decide +kernel
theorem d_Md_isDay_1 : decode b_Md_isDay 1 = .ok (.i2l, 1) := by decide +kernel
theorem d_Md_isDay_2 : decode b_Md_isDay 2 = .ok (.lconst 0, 1) := by decide +kernel
theorem d_Md_isDay_3 : decode b_Md_isDay 3 = .ok (.ldc2_w 155, 3) := by decide +kernel
theorem d_Md_isDay_6 : decode b_Md_isDay 6 = .ok (.invokestatic 68, 3) := by decide +kernel
theorem d_Md_isDay_9 : decode b_Md_isDay 9 = .ok (.ireturn, 1) := by decide +kernel
theorem d_Md_proof_0 : decode b_Md_proof 0 = .ok (.iload_n 1, 1) := by decide +kernel
theorem d_Md_proof_1 : decode b_Md_proof 1 = .ok (.i2l, 1) := by decide +kernel
theorem d_Md_proof_2 : decode b_Md_proof 2 = .ok (.lconst 0, 1) := by decide +kernel
theorem d_Md_proof_3 : decode b_Md_proof 3 = .ok (.lconst 1, 1) := by decide +kernel
theorem d_Md_proof_4 : decode b_Md_proof 4 = .ok (.invokestatic 68, 3) := by decide +kernel
theorem d_Md_proof_7 : decode b_Md_proof 7 = .ok (.ifCond .eq 22, 3) := by decide +kernel
theorem d_Md_proof_10 : decode b_Md_proof 10 = .ok (.iload_n 2, 1) := by decide +kernel
theorem d_Md_proof_11 : decode b_Md_proof 11 = .ok (.invokestatic 157, 3) := by decide +kernel
theorem d_Md_proof_14 : decode b_Md_proof 14 = .ok (.ifCond .eq 15, 3) := by decide +kernel
theorem d_Md_proof_17 : decode b_Md_proof 17 = .ok (.iload_n 3, 1) := by decide +kernel
theorem d_Md_proof_18 : decode b_Md_proof 18 = .ok (.invokestatic 157, 3) := by decide +kernel
theorem d_Md_proof_21 : decode b_Md_proof 21 = .ok (.ifCond .eq 8, 3) := by decide +kernel
theorem d_Md_proof_24 : decode b_Md_proof 24 = .ok (.iload_n 2, 1) := by decide +kernel
theorem d_Md_proof_25 : decode b_Md_proof 25 = .ok (.iload_n 3, 1) := by decide +kernel
theorem d_Md_proof_26 : decode b_Md_proof 26 = .ok (.if_icmp .le 9, 3) := by decide +kernel
theorem d_Md_proof_29 : decode b_Md_proof 29 = .ok (.aload_n 0, 1) := by decide +kernel
theorem d_Md_proof_30 : decode b_Md_proof 30 = .ok (.iconst 1, 1) := by decide +kernel
theorem d_Md_proof_31 : decode b_Md_proof 31 = .ok (.invokevirtual 99, 3) := by decide +kernel
theorem d_Md_proof_34 : decode b_Md_proof 34 = .ok (.ireturn, 1) := by decide +kernel
theorem d_Md_proof_35 : decode b_Md_proof 35 = .ok (.aload_n 0, 1) := by decide +kernel
theorem d_Md_proof_36 : decode b_Md_proof 36 = .ok (.getfield 160, 3) := by decide +kernel
theorem d_Md_proof_39 : decode b_Md_proof 39 = .ok (.bipush 20, 2) := by decide +kernel
theorem d_Md_proof_41 : decode b_Md_proof 41 = .ok (.if_icmp .ne 9, 3) := by decide +kernel
theorem d_Md_proof_44 : decode b_Md_proof 44 = .ok (.aload_n 0, 1) := by decide +kernel
theorem d_Md_proof_45 : decode b_Md_proof 45 = .ok (.iconst 2, 1) := by decide +kernel
theorem d_Md_proof_46 : decode b_Md_proof 46 = .ok (.invokevirtual 99, 3) := by decide +kernel
theorem d_Md_proof_49 : decode b_Md_proof 49 = .ok (.ireturn, 1) := by decide +kernel
theorem d_Md_proof_50 : decode b_Md_proof 50 = .ok (.aload_n 0, 1) := by decide +kernel
theorem d_Md_proof_51 : decode b_Md_proof 51 = .ok (.iconst 0, 1) := by decide +kernel
theorem d_Md_proof_52 : decode b_Md_proof 52 = .ok (.putfield 61, 3) := by decide +kernel
theorem d_Md_proof_55 : decode b_Md_proof 55 = .ok (.aload_n 0, 1) := by decide +kernel
theorem d_Md_proof_56 : decode b_Md_proof 56 = .ok (.getfield 40, 3) := by decide +kernel
theorem d_Md_proof_59 : decode b_Md_proof 59 = .ok (.aload_n 0, 1) := by decide +kernel
theorem d_Md_proof_60 : decode b_Md_proof 60 = .ok (.getfield 160, 3) := by decide +kernel
theorem d_Md_proof_63 : decode b_Md_proof 63 = .ok (.iload_n 1, 1) := by decide +kernel
theorem d_Md_proof_64 : decode b_Md_proof 64 = .ok (.iastore, 1) := by decide +kernel
theorem d_Md_proof_65 : decode b_Md_proof 65 = .ok (.aload_n 0, 1) := by decide +kernel
theorem d_Md_proof_66 : decode b_Md_proof 66 = .ok (.getfield 43, 3) := by decide +kernel
theorem d_Md_proof_69 : decode b_Md_proof 69 = .ok (.aload_n 0, 1) := by decide +kernel
theorem d_Md_proof_70 : decode b_Md_proof 70 = .ok (.getfield 160, 3) := by decide +kernel
theorem d_Md_proof_73 : decode b_Md_proof 73 = .ok (.iload_n 2, 1) := by decide +kernel
theorem d_Md_proof_74 : decode b_Md_proof 74 = .ok (.iastore, 1) := by decide +kernel
theorem d_Md_proof_75 : decode b_Md_proof 75 = .ok (.aload_n 0, 1) := by decide +kernel
theorem d_Md_proof_76 : decode b_Md_proof 76 = .ok (.getfield 46, 3) := by decide +kernel
theorem d_Md_proof_79 : decode b_Md_proof 79 = .ok (.aload_n 0, 1) := by decide +kernel
theorem d_Md_proof_80 : decode b_Md_proof 80 = .ok (.getfield 160, 3) := by decide +kernel
theorem d_Md_proof_83 : decode b_Md_proof 83 = .ok (.iload_n 3, 1) := by decide +kernel
theorem d_Md_proof_84 : decode b_Md_proof 84 = .ok (.iastore, 1) := by decide +kernel
theorem d_Md_proof_85 : decode b_Md_proof 85 = .ok (.aload_n 0, 1) := by decide +kernel
theorem d_Md_proof_86 : decode b_Md_proof 86 = .ok (.dup, 1) := by decide +kernel
theorem d_Md_proof_87 : decode b_Md_proof 87 = .ok (.getfield 160, 3) := by decide +kernel
theorem d_Md_proof_90 : decode b_Md_proof 90 = .ok (.iconst 1, 1) := by decide +kernel
theorem d_Md_proof_91 : decode b_Md_proof 91 = .ok (.iadd, 1) := by decide +kernel
theorem d_Md_proof_92 : decode b_Md_proof 92 = .ok (.putfield 160, 3) := by decide +kernel
theorem d_Md_proof_95 : decode b_Md_proof 95 = .ok (.aload_n 0, 1) := by decide +kernel
theorem d_Md_proof_96 : decode b_Md_proof 96 = .ok (.getfield 160, 3) := by decide +kernel
theorem d_Md_proof_99 : decode b_Md_proof 99 = .ok (.iconst 1, 1) := by decide +kernel
theorem d_Md_proof_100 : decode b_Md_proof 100 = .ok (.isub, 1) := by decide +kernel
theorem d_Md_proof_101 : decode b_Md_proof 101 = .ok (.ireturn, 1) := by decide +kernel
theorem d_Md_good_0 : decode b_Md_good 0 = .ok (.aload_n 0, 1) := by decide +kernel
theorem d_Md_good_1 : decode b_Md_good 1 = .ok (.iload_n 1, 1) := by decide +kernel
theorem d_Md_good_2 : decode b_Md_good 2 = .ok (.ifCond .lt 34, 3) := by decide +kernel
theorem d_Md_good_5 : decode b_Md_good 5 = .ok (.iload_n 1, 1) := by decide +kernel
theorem d_Md_good_6 : decode b_Md_good 6 = .ok (.aload_n 0, 1) := by decide +kernel
theorem d_Md_good_7 : decode b_Md_good 7 = .ok (.getfield 160, 3) := by decide +kernel
theorem d_Md_good_10 : decode b_Md_good 10 = .ok (.if_icmp .ge 26, 3) := by decide +kernel
theorem d_Md_good_13 : decode b_Md_good 13 = .ok (.lload_n 2, 1) := by decide +kernel
theorem d_Md_good_14 : decode b_Md_good 14 = .ok (.lconst 0, 1) := by decide +kernel
theorem d_Md_good_15 : decode b_Md_good 15 = .ok (.ldc2_w 97, 3) := by decide +kernel
theorem d_Md_good_18 : decode b_Md_good 18 = .ok (.invokestatic 68, 3) := by decide +kernel
theorem d_Md_good_21 : decode b_Md_good 21 = .ok (.ifCond .eq 15, 3) := by decide +kernel
theorem d_Md_good_24 : decode b_Md_good 24 = .ok (.iload 4, 2) := by decide +kernel
theorem d_Md_good_26 : decode b_Md_good 26 = .ok (.invokestatic 157, 3) := by decide +kernel
theorem d_Md_good_29 : decode b_Md_good 29 = .ok (.ifCond .eq 7, 3) := by decide +kernel
theorem d_Md_good_32 : decode b_Md_good 32 = .ok (.iconst 0, 1) := by decide +kernel
theorem d_Md_good_33 : decode b_Md_good 33 = .ok (.goto 4, 3) := by decide +kernel
theorem d_Md_good_36 : decode b_Md_good 36 = .ok (.iconst 1, 1) := by decide +kernel
theorem d_Md_good_37 : decode b_Md_good 37 = .ok (.putfield 61, 3) := by decide +kernel
theorem d_Md_good_40 : decode b_Md_good 40 = .ok (.aload_n 0, 1) := by decide +kernel
theorem d_Md_good_41 : decode b_Md_good 41 = .ok (.getfield 61, 3) := by decide +kernel
theorem d_Md_good_44 : decode b_Md_good 44 = .ok (.ifCond .ne 47, 3) := by decide +kernel
theorem d_Md_good_47 : decode b_Md_good 47 = .ok (.aload_n 0, 1) := by decide +kernel
theorem d_Md_good_48 : decode b_Md_good 48 = .ok (.getfield 40, 3) := by decide +kernel
theorem d_Md_good_51 : decode b_Md_good 51 = .ok (.iload_n 1, 1) := by decide +kernel
theorem d_Md_good_52 : decode b_Md_good 52 = .ok (.iaload, 1) := by decide +kernel
theorem d_Md_good_53 : decode b_Md_good 53 = .ok (.iconst 1, 1) := by decide +kernel
theorem d_Md_good_54 : decode b_Md_good 54 = .ok (.if_icmp .eq 11, 3) := by decide +kernel
theorem d_Md_good_57 : decode b_Md_good 57 = .ok (.lload_n 2, 1) := by decide +kernel
theorem d_Md_good_58 : decode b_Md_good 58 = .ok (.ldc2_w 163, 3) := by decide +kernel
theorem d_Md_good_61 : decode b_Md_good 61 = .ok (.lcmp, 1) := by decide +kernel
theorem d_Md_good_62 : decode b_Md_good 62 = .ok (.ifCond .gt 29, 3) := by decide +kernel
theorem d_Md_good_65 : decode b_Md_good 65 = .ok (.iload 4, 2) := by decide +kernel
theorem d_Md_good_67 : decode b_Md_good 67 = .ok (.aload_n 0, 1) := by decide +kernel
theorem d_Md_good_68 : decode b_Md_good 68 = .ok (.getfield 43, 3) := by decide +kernel
theorem d_Md_good_71 : decode b_Md_good 71 = .ok (.iload_n 1, 1) := by decide +kernel
theorem d_Md_good_72 : decode b_Md_good 72 = .ok (.iaload, 1) := by decide +kernel
theorem d_Md_good_73 : decode b_Md_good 73 = .ok (.if_icmp .lt 18, 3) := by decide +kernel
theorem d_Md_good_76 : decode b_Md_good 76 = .ok (.iload 4, 2) := by decide +kernel
theorem d_Md_good_78 : decode b_Md_good 78 = .ok (.aload_n 0, 1) := by decide +kernel
theorem d_Md_good_79 : decode b_Md_good 79 = .ok (.getfield 46, 3) := by decide +kernel
theorem d_Md_good_82 : decode b_Md_good 82 = .ok (.iload_n 1, 1) := by decide +kernel
theorem d_Md_good_83 : decode b_Md_good 83 = .ok (.iaload, 1) := by decide +kernel
theorem d_Md_good_84 : decode b_Md_good 84 = .ok (.if_icmp .gt 7, 3) := by decide +kernel
theorem d_Md_good_87 : decode b_Md_good 87 = .ok (.iconst 1, 1) := by decide +kernel
theorem d_Md_good_88 : decode b_Md_good 88 = .ok (.goto 4, 3) := by decide +kernel
theorem d_Md_good_91 : decode b_Md_good 91 = .ok (.iconst 0, 1) := by decide +kernel
theorem d_Md_good_92 : decode b_Md_good 92 = .ok (.ireturn, 1) := by decide +kernel
theorem d_Md_count_0 : decode b_Md_count 0 = .ok (.aload_n 0, 1) := by decide +kernel
theorem d_Md_count_1 : decode b_Md_count 1 = .ok (.iconst 0, 1) := by decide +kernel
theorem d_Md_count_2 : decode b_Md_count 2 = .ok (.putfield 61, 3) := by decide +kernel
theorem d_Md_count_5 : decode b_Md_count 5 = .ok (.iconst 0, 1) := by decide +kernel
theorem d_Md_count_6 : decode b_Md_count 6 = .ok (.istore_n 2, 1) := by decide +kernel
theorem d_Md_count_7 : decode b_Md_count 7 = .ok (.iconst 0, 1) := by decide +kernel
theorem d_Md_count_8 : decode b_Md_count 8 = .ok (.istore_n 3, 1) := by decide +kernel
theorem d_Md_count_9 : decode b_Md_count 9 = .ok (.iload_n 3, 1) := by decide +kernel
theorem d_Md_count_10 : decode b_Md_count 10 = .ok (.aload_n 0, 1) := by decide +kernel
theorem d_Md_count_11 : decode b_Md_count 11 = .ok (.getfield 103, 3) := by decide +kernel
theorem d_Md_count_14 : decode b_Md_count 14 = .ok (.if_icmp .ge 30, 3) := by decide +kernel
theorem d_Md_count_17 : decode b_Md_count 17 = .ok (.iload_n 2, 1) := by decide +kernel
theorem d_Md_count_18 : decode b_Md_count 18 = .ok (.aload_n 0, 1) := by decide +kernel
theorem d_Md_count_19 : decode b_Md_count 19 = .ok (.aload_n 0, 1) := by decide +kernel
theorem d_Md_count_20 : decode b_Md_count 20 = .ok (.getfield 25, 3) := by decide +kernel
theorem d_Md_count_23 : decode b_Md_count 23 = .ok (.iload_n 3, 1) := by decide +kernel
theorem d_Md_count_24 : decode b_Md_count 24 = .ok (.iaload, 1) := by decide +kernel
theorem d_Md_count_25 : decode b_Md_count 25 = .ok (.invokevirtual 126, 3) := by decide +kernel
theorem d_Md_count_28 : decode b_Md_count 28 = .ok (.ifCond .eq 7, 3) := by decide +kernel
theorem d_Md_count_31 : decode b_Md_count 31 = .ok (.iconst 0, 1) := by decide +kernel
theorem d_Md_count_32 : decode b_Md_count 32 = .ok (.goto 4, 3) := by decide +kernel
theorem d_Md_count_35 : decode b_Md_count 35 = .ok (.iconst 1, 1) := by decide +kernel
theorem d_Md_count_36 : decode b_Md_count 36 = .ok (.iadd, 1) := by decide +kernel
theorem d_Md_count_37 : decode b_Md_count 37 = .ok (.istore_n 2, 1) := by decide +kernel
theorem d_Md_count_38 : decode b_Md_count 38 = .ok (.iinc 3 1, 3) := by decide +kernel
theorem d_Md_count_41 : decode b_Md_count 41 = .ok (.goto (-32), 3) := by decide +kernel
theorem d_Md_count_44 : decode b_Md_count 44 = .ok (.iload_n 1, 1) := by decide +kernel
theorem d_Md_count_45 : decode b_Md_count 45 = .ok (.tableswitch 84 0 7 #[47, 52, 57, 62, 64, 69, 74, 79], 47) := by decide +kernel
theorem d_Md_count_92 : decode b_Md_count 92 = .ok (.aload_n 0, 1) := by decide +kernel
theorem d_Md_count_93 : decode b_Md_count 93 = .ok (.getfield 72, 3) := by decide +kernel
theorem d_Md_count_96 : decode b_Md_count 96 = .ok (.ireturn, 1) := by decide +kernel
theorem d_Md_count_97 : decode b_Md_count 97 = .ok (.aload_n 0, 1) := by decide +kernel
theorem d_Md_count_98 : decode b_Md_count 98 = .ok (.getfield 86, 3) := by decide +kernel
theorem d_Md_count_101 : decode b_Md_count 101 = .ok (.ireturn, 1) := by decide +kernel
theorem d_Md_count_102 : decode b_Md_count 102 = .ok (.aload_n 0, 1) := by decide +kernel
theorem d_Md_count_103 : decode b_Md_count 103 = .ok (.getfield 103, 3) := by decide +kernel
theorem d_Md_count_106 : decode b_Md_count 106 = .ok (.ireturn, 1) := by decide +kernel
theorem d_Md_count_107 : decode b_Md_count 107 = .ok (.iload_n 2, 1) := by decide +kernel
theorem d_Md_count_108 : decode b_Md_count 108 = .ok (.ireturn, 1) := by decide +kernel
theorem d_Md_count_109 : decode b_Md_count 109 = .ok (.aload_n 0, 1) := by decide +kernel
theorem d_Md_count_110 : decode b_Md_count 110 = .ok (.getfield 106, 3) := by decide +kernel
theorem d_Md_count_113 : decode b_Md_count 113 = .ok (.ireturn, 1) := by decide +kernel
theorem d_Md_count_114 : decode b_Md_count 114 = .ok (.aload_n 0, 1) := by decide +kernel
theorem d_Md_count_115 : decode b_Md_count 115 = .ok (.getfield 114, 3) := by decide +kernel
theorem d_Md_count_118 : decode b_Md_count 118 = .ok (.ireturn, 1) := by decide +kernel
theorem d_Md_count_119 : decode b_Md_count 119 = .ok (.aload_n 0, 1) := by decide +kernel
theorem d_Md_count_120 : decode b_Md_count 120 = .ok (.getfield 160, 3) := by decide +kernel
theorem d_Md_count_123 : decode b_Md_count 123 = .ok (.ireturn, 1) := by decide +kernel
theorem d_Md_count_124 : decode b_Md_count 124 = .ok (.aload_n 0, 1) := by decide +kernel
theorem d_Md_count_125 : decode b_Md_count 125 = .ok (.getfield 142, 3) := by decide +kernel
theorem d_Md_count_128 : decode b_Md_count 128 = .ok (.ireturn, 1) := by decide +kernel
theorem d_Md_count_129 : decode b_Md_count 129 = .ok (.iconst (-1), 1) := by decide +kernel
theorem d_Md_count_130 : decode b_Md_count 130 = .ok (.ireturn, 1) := by decide +kernel
