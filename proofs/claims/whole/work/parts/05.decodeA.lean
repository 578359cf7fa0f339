theorem d_Or_init_0 : decode b_Or_init 0 = .ok (.aload_n 0, 1) := by decide +kernel
theorem d_Or_init_1 : decode b_Or_init 1 = .ok (.invokespecial 1, 3) := by decide +kernel
theorem d_Or_init_4 : decode b_Or_init 4 = .ok (.aload_n 0, 1) := by decide +kernel
theorem d_Or_init_5 : decode b_Or_init 5 = .ok (.new 7, 3) := by decide +kernel
theorem d_Or_init_8 : decode b_Or_init 8 = .ok (.dup, 1) := by decide +kernel
theorem d_Or_init_9 : decode b_Or_init 9 = .ok (.invokespecial 9, 3) := by decide +kernel
theorem d_Or_init_12 : decode b_Or_init 12 = .ok (.putfield 10, 3) := by decide +kernel
theorem d_Or_init_15 : decode b_Or_init 15 = .ok (.aload_n 0, 1) := by decide +kernel
theorem d_Or_init_16 : decode b_Or_init 16 = .ok (.new 16, 3) := by decide +kernel
theorem d_Or_init_19 : decode b_Or_init 19 = .ok (.dup, 1) := by decide +kernel
theorem d_Or_init_20 : decode b_Or_init 20 = .ok (.invokespecial 18, 3) := by decide +kernel
theorem d_Or_init_23 : decode b_Or_init 23 = .ok (.putfield 19, 3) := by decide +kernel
theorem d_Or_init_26 : decode b_Or_init 26 = .ok (.aload_n 0, 1) := by decide +kernel
theorem d_Or_init_27 : decode b_Or_init 27 = .ok (.new 23, 3) := by decide +kernel
theorem d_Or_init_30 : decode b_Or_init 30 = .ok (.dup, 1) := by decide +kernel
theorem d_Or_init_31 : decode b_Or_init 31 = .ok (.invokespecial 25, 3) := by decide +kernel
theorem d_Or_init_34 : decode b_Or_init 34 = .ok (.putfield 26, 3) := by decide +kernel
theorem d_Or_init_37 : decode b_Or_init 37 = .ok (.aload_n 0, 1) := by decide +kernel
theorem d_Or_init_38 : decode b_Or_init 38 = .ok (.new 30, 3) := by decide +kernel
theorem d_Or_init_41 : decode b_Or_init 41 = .ok (.dup, 1) := by decide +kernel
theorem d_Or_init_42 : decode b_Or_init 42 = .ok (.invokespecial 32, 3) := by decide +kernel
theorem d_Or_init_45 : decode b_Or_init 45 = .ok (.putfield 33, 3) := by decide +kernel
theorem d_Or_init_48 : decode b_Or_init 48 = .ok (.aload_n 0, 1) := by decide +kernel
theorem d_Or_init_49 : decode b_Or_init 49 = .ok (.new 37, 3) := by decide +kernel
theorem d_Or_init_52 : decode b_Or_init 52 = .ok (.dup, 1) := by decide +kernel
theorem d_Or_init_53 : decode b_Or_init 53 = .ok (.invokespecial 39, 3) := by decide +kernel
theorem d_Or_init_56 : decode b_Or_init 56 = .ok (.putfield 40, 3) := by decide +kernel
theorem d_Or_init_59 : decode b_Or_init 59 = .ok (.aload_n 0, 1) := by decide +kernel
theorem d_Or_init_60 : decode b_Or_init 60 = .ok (.iconst 0, 1) := by decide +kernel
theorem d_Or_init_61 : decode b_Or_init 61 = .ok (.putfield 44, 3) := by decide +kernel
theorem d_Or_init_64 : decode b_Or_init 64 = .ok (.aload_n 0, 1) := by decide +kernel
theorem d_Or_init_65 : decode b_Or_init 65 = .ok (.iconst 0, 1) := by decide +kernel
theorem d_Or_init_66 : decode b_Or_init 66 = .ok (.putfield 48, 3) := by decide +kernel
theorem d_Or_init_69 : decode b_Or_init 69 = .ok (.aload_n 0, 1) := by decide +kernel
theorem d_Or_init_70 : decode b_Or_init 70 = .ok (.iconst 0, 1) := by decide +kernel
theorem d_Or_init_71 : decode b_Or_init 71 = .ok (.putfield 51, 3) := by decide +kernel
theorem d_Or_init_74 : decode b_Or_init 74 = .ok (.aload_n 0, 1) := by decide +kernel
theorem d_Or_init_75 : decode b_Or_init 75 = .ok (.iconst 1, 1) := by decide +kernel
theorem d_Or_init_76 : decode b_Or_init 76 = .ok (.putfield 54, 3) := by decide +kernel
theorem d_Or_init_79 : decode b_Or_init 79 = .ok (.aload_n 0, 1) := by decide +kernel
theorem d_Or_init_80 : decode b_Or_init 80 = .ok (.sipush 149, 3) := by decide +kernel
theorem d_Or_init_83 : decode b_Or_init 83 = .ok (.newarray .int, 2) := by decide +kernel
theorem d_Or_init_85 : decode b_Or_init 85 = .ok (.putfield 57, 3) := by decide +kernel
theorem d_Or_init_88 : decode b_Or_init 88 = .ok (.aload_n 0, 1) := by decide +kernel
theorem d_Or_init_89 : decode b_Or_init 89 = .ok (.iconst 0, 1) := by decide +kernel
theorem d_Or_init_90 : decode b_Or_init 90 = .ok (.putfield 61, 3) := by decide +kernel
theorem d_Or_init_93 : decode b_Or_init 93 = .ok (.return_, 1) := by decide +kernel
theorem d_Or_sign_0 : decode b_Or_sign 0 = .ok (.iload_n 1, 1) := by decide +kernel
theorem d_Or_sign_1 : decode b_Or_sign 1 = .ok (.bipush 33, 2) := by decide +kernel
theorem d_Or_sign_3 : decode b_Or_sign 3 = .ok (.if_icmp .lt 22, 3) := by decide +kernel
theorem d_Or_sign_6 : decode b_Or_sign 6 = .ok (.iload_n 1, 1) := by decide +kernel
theorem d_Or_sign_7 : decode b_Or_sign 7 = .ok (.bipush 126, 2) := by decide +kernel
theorem d_Or_sign_9 : decode b_Or_sign 9 = .ok (.if_icmp .gt 16, 3) := by decide +kernel
theorem d_Or_sign_12 : decode b_Or_sign 12 = .ok (.aload_n 0, 1) := by decide +kernel
theorem d_Or_sign_13 : decode b_Or_sign 13 = .ok (.getfield 10, 3) := by decide +kernel
theorem d_Or_sign_16 : decode b_Or_sign 16 = .ok (.getfield 64, 3) := by decide +kernel
theorem d_Or_sign_19 : decode b_Or_sign 19 = .ok (.sipush 300, 3) := by decide +kernel
theorem d_Or_sign_22 : decode b_Or_sign 22 = .ok (.if_icmp .lt 5, 3) := by decide +kernel
theorem d_Or_sign_25 : decode b_Or_sign 25 = .ok (.iconst 0, 1) := by decide +kernel
theorem d_Or_sign_26 : decode b_Or_sign 26 = .ok (.ireturn, 1) := by decide +kernel
theorem d_Or_sign_27 : decode b_Or_sign 27 = .ok (.aload_n 0, 1) := by decide +kernel
theorem d_Or_sign_28 : decode b_Or_sign 28 = .ok (.getfield 10, 3) := by decide +kernel
theorem d_Or_sign_31 : decode b_Or_sign 31 = .ok (.iload_n 1, 1) := by decide +kernel
theorem d_Or_sign_32 : decode b_Or_sign 32 = .ok (.i2c, 1) := by decide +kernel
theorem d_Or_sign_33 : decode b_Or_sign 33 = .ok (.invokevirtual 67, 3) := by decide +kernel
theorem d_Or_sign_36 : decode b_Or_sign 36 = .ok (.iconst 1, 1) := by decide +kernel
theorem d_Or_sign_37 : decode b_Or_sign 37 = .ok (.ireturn, 1) := by decide +kernel
theorem d_Or_read_0 : decode b_Or_read 0 = .ok (.aload_n 0, 1) := by decide +kernel
theorem d_Or_read_1 : decode b_Or_read 1 = .ok (.getfield 10, 3) := by decide +kernel
theorem d_Or_read_4 : decode b_Or_read 4 = .ok (.invokevirtual 71, 3) := by decide +kernel
theorem d_Or_read_7 : decode b_Or_read 7 = .ok (.istore_n 1, 1) := by decide +kernel
theorem d_Or_read_8 : decode b_Or_read 8 = .ok (.iload_n 1, 1) := by decide +kernel
theorem d_Or_read_9 : decode b_Or_read 9 = .ok (.ifCond .le 25, 3) := by decide +kernel
theorem d_Or_read_12 : decode b_Or_read 12 = .ok (.aload_n 0, 1) := by decide +kernel
theorem d_Or_read_13 : decode b_Or_read 13 = .ok (.getfield 19, 3) := by decide +kernel
theorem d_Or_read_16 : decode b_Or_read 16 = .ok (.aload_n 0, 1) := by decide +kernel
theorem d_Or_read_17 : decode b_Or_read 17 = .ok (.getfield 10, 3) := by decide +kernel
theorem d_Or_read_20 : decode b_Or_read 20 = .ok (.getfield 75, 3) := by decide +kernel
theorem d_Or_read_23 : decode b_Or_read 23 = .ok (.aload_n 0, 1) := by decide +kernel
theorem d_Or_read_24 : decode b_Or_read 24 = .ok (.getfield 10, 3) := by decide +kernel
theorem d_Or_read_27 : decode b_Or_read 27 = .ok (.getfield 64, 3) := by decide +kernel
theorem d_Or_read_30 : decode b_Or_read 30 = .ok (.iload_n 1, 1) := by decide +kernel
theorem d_Or_read_31 : decode b_Or_read 31 = .ok (.invokevirtual 79, 3) := by decide +kernel
theorem d_Or_read_34 : decode b_Or_read 34 = .ok (.aload_n 0, 1) := by decide +kernel
theorem d_Or_read_35 : decode b_Or_read 35 = .ok (.getfield 10, 3) := by decide +kernel
theorem d_Or_read_38 : decode b_Or_read 38 = .ok (.iconst 0, 1) := by decide +kernel
theorem d_Or_read_39 : decode b_Or_read 39 = .ok (.putfield 64, 3) := by decide +kernel
theorem d_Or_read_42 : decode b_Or_read 42 = .ok (.iload_n 1, 1) := by decide +kernel
theorem d_Or_read_43 : decode b_Or_read 43 = .ok (.ireturn, 1) := by decide +kernel
theorem d_Or_part_0 : decode b_Or_part 0 = .ok (.iload_n 1, 1) := by decide +kernel
theorem d_Or_part_1 : decode b_Or_part 1 = .ok (.invokestatic 83, 3) := by decide +kernel
theorem d_Or_part_4 : decode b_Or_part 4 = .ok (.ifCond .eq 17, 3) := by decide +kernel
theorem d_Or_part_7 : decode b_Or_part 7 = .ok (.iload_n 2, 1) := by decide +kernel
theorem d_Or_part_8 : decode b_Or_part 8 = .ok (.invokestatic 87, 3) := by decide +kernel
theorem d_Or_part_11 : decode b_Or_part 11 = .ok (.ifCond .eq 10, 3) := by decide +kernel
theorem d_Or_part_14 : decode b_Or_part 14 = .ok (.lload_n 3, 1) := by decide +kernel
theorem d_Or_part_15 : decode b_Or_part 15 = .ok (.invokestatic 90, 3) := by decide +kernel
theorem d_Or_part_18 : decode b_Or_part 18 = .ok (.ifCond .ne 13, 3) := by decide +kernel
theorem d_Or_part_21 : decode b_Or_part 21 = .ok (.new 94, 3) := by decide +kernel
theorem d_Or_part_24 : decode b_Or_part 24 = .ok (.dup, 1) := by decide +kernel
theorem d_Or_part_25 : decode b_Or_part 25 = .ok (.ldc 96, 2) := by decide +kernel
theorem d_Or_part_27 : decode b_Or_part 27 = .ok (.invokespecial 98, 3) := by decide +kernel
theorem d_Or_part_30 : decode b_Or_part 30 = .ok (.athrow, 1) := by decide +kernel
theorem d_Or_part_31 : decode b_Or_part 31 = .ok (.aload_n 0, 1) := by decide +kernel
theorem d_Or_part_32 : decode b_Or_part 32 = .ok (.getfield 26, 3) := by decide +kernel
theorem d_Or_part_35 : decode b_Or_part 35 = .ok (.getfield 101, 3) := by decide +kernel
theorem d_Or_part_38 : decode b_Or_part 38 = .ok (.bipush 12, 2) := by decide +kernel
theorem d_Or_part_40 : decode b_Or_part 40 = .ok (.if_icmp .lt 13, 3) := by decide +kernel
theorem d_Or_part_43 : decode b_Or_part 43 = .ok (.new 104, 3) := by decide +kernel
theorem d_Or_part_46 : decode b_Or_part 46 = .ok (.dup, 1) := by decide +kernel
theorem d_Or_part_47 : decode b_Or_part 47 = .ok (.ldc 106, 2) := by decide +kernel
theorem d_Or_part_49 : decode b_Or_part 49 = .ok (.invokespecial 108, 3) := by decide +kernel
theorem d_Or_part_52 : decode b_Or_part 52 = .ok (.athrow, 1) := by decide +kernel
theorem d_Or_part_53 : decode b_Or_part 53 = .ok (.aload_n 0, 1) := by decide +kernel
theorem d_Or_part_54 : decode b_Or_part 54 = .ok (.getfield 26, 3) := by decide +kernel
theorem d_Or_part_57 : decode b_Or_part 57 = .ok (.iload_n 1, 1) := by decide +kernel
theorem d_Or_part_58 : decode b_Or_part 58 = .ok (.iload_n 2, 1) := by decide +kernel
theorem d_Or_part_59 : decode b_Or_part 59 = .ok (.lload_n 3, 1) := by decide +kernel
theorem d_Or_part_60 : decode b_Or_part 60 = .ok (.invokevirtual 109, 3) := by decide +kernel
theorem d_Or_part_63 : decode b_Or_part 63 = .ok (.ireturn, 1) := by decide +kernel
theorem d_Or_clear_0 : decode b_Or_clear 0 = .ok (.aload_n 0, 1) := by decide +kernel
theorem d_Or_clear_1 : decode b_Or_clear 1 = .ok (.iconst 0, 1) := by decide +kernel
theorem d_Or_clear_2 : decode b_Or_clear 2 = .ok (.putfield 44, 3) := by decide +kernel
theorem d_Or_clear_5 : decode b_Or_clear 5 = .ok (.aload_n 0, 1) := by decide +kernel
theorem d_Or_clear_6 : decode b_Or_clear 6 = .ok (.getfield 26, 3) := by decide +kernel
theorem d_Or_clear_9 : decode b_Or_clear 9 = .ok (.invokevirtual 112, 3) := by decide +kernel
theorem d_Or_clear_12 : decode b_Or_clear 12 = .ok (.ireturn, 1) := by decide +kernel
theorem d_Or_process_0 : decode b_Or_process 0 = .ok (.iload_n 1, 1) := by decide +kernel
theorem d_Or_process_1 : decode b_Or_process 1 = .ok (.invokestatic 115, 3) := by decide +kernel
theorem d_Or_process_4 : decode b_Or_process 4 = .ok (.ifCond .eq 14, 3) := by decide +kernel
theorem d_Or_process_7 : decode b_Or_process 7 = .ok (.aload_n 0, 1) := by decide +kernel
theorem d_Or_process_8 : decode b_Or_process 8 = .ok (.getfield 44, 3) := by decide +kernel
theorem d_Or_process_11 : decode b_Or_process 11 = .ok (.iload_n 1, 1) := by decide +kernel
theorem d_Or_process_12 : decode b_Or_process 12 = .ok (.invokestatic 118, 3) := by decide +kernel
theorem d_Or_process_15 : decode b_Or_process 15 = .ok (.ifCond .eq 5, 3) := by decide +kernel
theorem d_Or_process_18 : decode b_Or_process 18 = .ok (.iconst 0, 1) := by decide +kernel
theorem d_Or_process_19 : decode b_Or_process 19 = .ok (.ireturn, 1) := by decide +kernel
theorem d_Or_process_20 : decode b_Or_process 20 = .ok (.aload_n 0, 1) := by decide +kernel
theorem d_Or_process_21 : decode b_Or_process 21 = .ok (.dup, 1) := by decide +kernel
theorem d_Or_process_22 : decode b_Or_process 22 = .ok (.getfield 44, 3) := by decide +kernel
theorem d_Or_process_25 : decode b_Or_process 25 = .ok (.iconst 1, 1) := by decide +kernel
theorem d_Or_process_26 : decode b_Or_process 26 = .ok (.iload_n 1, 1) := by decide +kernel
theorem d_Or_process_27 : decode b_Or_process 27 = .ok (.ishl, 1) := by decide +kernel
theorem d_Or_process_28 : decode b_Or_process 28 = .ok (.ior, 1) := by decide +kernel
theorem d_Or_process_29 : decode b_Or_process 29 = .ok (.putfield 44, 3) := by decide +kernel
theorem d_Or_process_32 : decode b_Or_process 32 = .ok (.iconst 1, 1) := by decide +kernel
theorem d_Or_process_33 : decode b_Or_process 33 = .ok (.ireturn, 1) := by decide +kernel
theorem d_Or_bar_0 : decode b_Or_bar 0 = .ok (.iload_n 1, 1) := by decide +kernel
theorem d_Or_bar_1 : decode b_Or_bar 1 = .ok (.invokestatic 115, 3) := by decide +kernel
theorem d_Or_bar_4 : decode b_Or_bar 4 = .ok (.ifCond .eq 15, 3) := by decide +kernel
theorem d_Or_bar_7 : decode b_Or_bar 7 = .ok (.aload_n 0, 1) := by decide +kernel
theorem d_Or_bar_8 : decode b_Or_bar 8 = .ok (.getfield 48, 3) := by decide +kernel
theorem d_Or_bar_11 : decode b_Or_bar 11 = .ok (.iload_n 1, 1) := by decide +kernel
theorem d_Or_bar_12 : decode b_Or_bar 12 = .ok (.invokestatic 118, 3) := by decide +kernel
theorem d_Or_bar_15 : decode b_Or_bar 15 = .ok (.iload_n 2, 1) := by decide +kernel
theorem d_Or_bar_16 : decode b_Or_bar 16 = .ok (.if_icmp .ne 5, 3) := by decide +kernel
theorem d_Or_bar_19 : decode b_Or_bar 19 = .ok (.iconst 0, 1) := by decide +kernel
theorem d_Or_bar_20 : decode b_Or_bar 20 = .ok (.ireturn, 1) := by decide +kernel
theorem d_Or_bar_21 : decode b_Or_bar 21 = .ok (.aload_n 0, 1) := by decide +kernel
theorem d_Or_bar_22 : decode b_Or_bar 22 = .ok (.dup, 1) := by decide +kernel
theorem d_Or_bar_23 : decode b_Or_bar 23 = .ok (.getfield 48, 3) := by decide +kernel
theorem d_Or_bar_26 : decode b_Or_bar 26 = .ok (.iconst 1, 1) := by decide +kernel
theorem d_Or_bar_27 : decode b_Or_bar 27 = .ok (.iload_n 1, 1) := by decide +kernel
theorem d_Or_bar_28 : decode b_Or_bar 28 = .ok (.ishl, 1) := by decide +kernel
theorem d_Or_bar_29 : decode b_Or_bar 29 = .ok (.ixor, 1) := by decide +kernel
theorem d_Or_bar_30 : decode b_Or_bar 30 = .ok (.putfield 48, 3) := by decide +kernel
theorem d_Or_bar_33 : decode b_Or_bar 33 = .ok (.iconst 1, 1) := by decide +kernel
theorem d_Or_bar_34 : decode b_Or_bar 34 = .ok (.ireturn, 1) := by decide +kernel
theorem d_Or_join_0 : decode b_Or_join 0 = .ok (.iload_n 1, 1) := by decide +kernel
theorem d_Or_join_1 : decode b_Or_join 1 = .ok (.invokestatic 87, 3) := by decide +kernel
theorem d_Or_join_4 : decode b_Or_join 4 = .ok (.ifCond .eq 15, 3) := by decide +kernel
theorem d_Or_join_7 : decode b_Or_join 7 = .ok (.iload_n 2, 1) := by decide +kernel
theorem d_Or_join_8 : decode b_Or_join 8 = .ok (.invokestatic 87, 3) := by decide +kernel
theorem d_Or_join_11 : decode b_Or_join 11 = .ok (.ifCond .eq 8, 3) := by decide +kernel
theorem d_Or_join_14 : decode b_Or_join 14 = .ok (.iload_n 1, 1) := by decide +kernel
theorem d_Or_join_15 : decode b_Or_join 15 = .ok (.iload_n 2, 1) := by decide +kernel
theorem d_Or_join_16 : decode b_Or_join 16 = .ok (.if_icmp .ne 13, 3) := by decide +kernel
theorem d_Or_join_19 : decode b_Or_join 19 = .ok (.new 94, 3) := by decide +kernel
theorem d_Or_join_22 : decode b_Or_join 22 = .ok (.dup, 1) := by decide +kernel
theorem d_Or_join_23 : decode b_Or_join 23 = .ok (.ldc 122, 2) := by decide +kernel
theorem d_Or_join_25 : decode b_Or_join 25 = .ok (.invokespecial 98, 3) := by decide +kernel
theorem d_Or_join_28 : decode b_Or_join 28 = .ok (.athrow, 1) := by decide +kernel
theorem d_Or_join_29 : decode b_Or_join 29 = .ok (.aload_n 0, 1) := by decide +kernel
theorem d_Or_join_30 : decode b_Or_join 30 = .ok (.getfield 33, 3) := by decide +kernel
theorem d_Or_join_33 : decode b_Or_join 33 = .ok (.iload_n 1, 1) := by decide +kernel
theorem d_Or_join_34 : decode b_Or_join 34 = .ok (.iload_n 2, 1) := by decide +kernel
theorem d_Or_join_35 : decode b_Or_join 35 = .ok (.invokevirtual 124, 3) := by decide +kernel
theorem d_Or_join_38 : decode b_Or_join 38 = .ok (.ifCond .eq 7, 3) := by decide +kernel
theorem d_Or_join_41 : decode b_Or_join 41 = .ok (.iconst 1, 1) := by decide +kernel
theorem d_Or_join_42 : decode b_Or_join 42 = .ok (.goto 4, 3) := by decide +kernel
theorem d_Or_join_45 : decode b_Or_join 45 = .ok (.iconst 0, 1) := by decide +kernel
theorem d_Or_join_46 : decode b_Or_join 46 = .ok (.ireturn, 1) := by decide +kernel
theorem d_Or_full_0 : decode b_Or_full 0 = .ok (.aload_n 0, 1) := by decide +kernel
theorem d_Or_full_1 : decode b_Or_full 1 = .ok (.getfield 33, 3) := by decide +kernel
theorem d_Or_full_4 : decode b_Or_full 4 = .ok (.getfield 127, 3) := by decide +kernel
theorem d_Or_full_7 : decode b_Or_full 7 = .ok (.iload_n 1, 1) := by decide +kernel
theorem d_Or_full_8 : decode b_Or_full 8 = .ok (.if_icmp .ne 5, 3) := by decide +kernel
theorem d_Or_full_11 : decode b_Or_full 11 = .ok (.iconst 0, 1) := by decide +kernel
theorem d_Or_full_12 : decode b_Or_full 12 = .ok (.ireturn, 1) := by decide +kernel
theorem d_Or_full_13 : decode b_Or_full 13 = .ok (.aload_n 0, 1) := by decide +kernel
theorem d_Or_full_14 : decode b_Or_full 14 = .ok (.getfield 33, 3) := by decide +kernel
theorem d_Or_full_17 : decode b_Or_full 17 = .ok (.iload_n 1, 1) := by decide +kernel
theorem d_Or_full_18 : decode b_Or_full 18 = .ok (.putfield 127, 3) := by decide +kernel
theorem d_Or_full_21 : decode b_Or_full 21 = .ok (.iconst 1, 1) := by decide +kernel
theorem d_Or_full_22 : decode b_Or_full 22 = .ok (.ireturn, 1) := by decide +kernel
theorem d_Or_tolerance_0 : decode b_Or_tolerance 0 = .ok (.iload_n 2, 1) := by decide +kernel
theorem d_Or_tolerance_1 : decode b_Or_tolerance 1 = .ok (.iconst 1, 1) := by decide +kernel
theorem d_Or_tolerance_2 : decode b_Or_tolerance 2 = .ok (.if_icmp .lt 19, 3) := by decide +kernel
theorem d_Or_tolerance_5 : decode b_Or_tolerance 5 = .ok (.iload_n 2, 1) := by decide +kernel
theorem d_Or_tolerance_6 : decode b_Or_tolerance 6 = .ok (.sipush 1000, 3) := by decide +kernel
theorem d_Or_tolerance_9 : decode b_Or_tolerance 9 = .ok (.if_icmp .gt 12, 3) := by decide +kernel
theorem d_Or_tolerance_12 : decode b_Or_tolerance 12 = .ok (.iload_n 1, 1) := by decide +kernel
theorem d_Or_tolerance_13 : decode b_Or_tolerance 13 = .ok (.ifCond .lt 8, 3) := by decide +kernel
theorem d_Or_tolerance_16 : decode b_Or_tolerance 16 = .ok (.iload_n 1, 1) := by decide +kernel
theorem d_Or_tolerance_17 : decode b_Or_tolerance 17 = .ok (.iload_n 2, 1) := by decide +kernel
theorem d_Or_tolerance_18 : decode b_Or_tolerance 18 = .ok (.if_icmp .le 5, 3) := by decide +kernel
theorem d_Or_tolerance_21 : decode b_Or_tolerance 21 = .ok (.iconst 0, 1) := by decide +kernel
theorem d_Or_tolerance_22 : decode b_Or_tolerance 22 = .ok (.ireturn, 1) := by decide +kernel
theorem d_Or_tolerance_23 : decode b_Or_tolerance 23 = .ok (.aload_n 0, 1) := by decide +kernel
theorem d_Or_tolerance_24 : decode b_Or_tolerance 24 = .ok (.iload_n 1, 1) := by decide +kernel
theorem d_Or_tolerance_25 : decode b_Or_tolerance 25 = .ok (.putfield 51, 3) := by decide +kernel
theorem d_Or_tolerance_28 : decode b_Or_tolerance 28 = .ok (.aload_n 0, 1) := by decide +kernel
theorem d_Or_tolerance_29 : decode b_Or_tolerance 29 = .ok (.iload_n 2, 1) := by decide +kernel
theorem d_Or_tolerance_30 : decode b_Or_tolerance 30 = .ok (.putfield 54, 3) := by decide +kernel
theorem d_Or_tolerance_33 : decode b_Or_tolerance 33 = .ok (.iconst 1, 1) := by decide +kernel
theorem d_Or_tolerance_34 : decode b_Or_tolerance 34 = .ok (.ireturn, 1) := by decide +kernel
theorem d_Or_verdict_0 : decode b_Or_verdict 0 = .ok (.iload_n 1, 1) := by decide +kernel
theorem d_Or_verdict_1 : decode b_Or_verdict 1 = .ok (.invokestatic 83, 3) := by decide +kernel
theorem d_Or_verdict_4 : decode b_Or_verdict 4 = .ok (.ifCond .eq 10, 3) := by decide +kernel
theorem d_Or_verdict_7 : decode b_Or_verdict 7 = .ok (.lload_n 2, 1) := by decide +kernel
theorem d_Or_verdict_8 : decode b_Or_verdict 8 = .ok (.invokestatic 90, 3) := by decide +kernel
theorem d_Or_verdict_11 : decode b_Or_verdict 11 = .ok (.ifCond .ne 13, 3) := by decide +kernel
theorem d_Or_verdict_14 : decode b_Or_verdict 14 = .ok (.new 94, 3) := by decide +kernel
theorem d_Or_verdict_17 : decode b_Or_verdict 17 = .ok (.dup, 1) := by decide +kernel
theorem d_Or_verdict_18 : decode b_Or_verdict 18 = .ok (.ldc 131, 2) := by decide +kernel
theorem d_Or_verdict_20 : decode b_Or_verdict 20 = .ok (.invokespecial 98, 3) := by decide +kernel
theorem d_Or_verdict_23 : decode b_Or_verdict 23 = .ok (.athrow, 1) := by decide +kernel
theorem d_Or_verdict_24 : decode b_Or_verdict 24 = .ok (.aload_n 0, 1) := by decide +kernel
theorem d_Or_verdict_25 : decode b_Or_verdict 25 = .ok (.getfield 19, 3) := by decide +kernel
theorem d_Or_verdict_28 : decode b_Or_verdict 28 = .ok (.iload_n 1, 1) := by decide +kernel
theorem d_Or_verdict_29 : decode b_Or_verdict 29 = .ok (.invokevirtual 133, 3) := by decide +kernel
theorem d_Or_verdict_32 : decode b_Or_verdict 32 = .ok (.istore 4, 2) := by decide +kernel
theorem d_Or_verdict_34 : decode b_Or_verdict 34 = .ok (.iload 4, 2) := by decide +kernel
theorem d_Or_verdict_36 : decode b_Or_verdict 36 = .ok (.iconst (-1), 1) := by decide +kernel
theorem d_Or_verdict_37 : decode b_Or_verdict 37 = .ok (.if_icmp .ne 5, 3) := by decide +kernel
theorem d_Or_verdict_40 : decode b_Or_verdict 40 = .ok (.iconst 3, 1) := by decide +kernel
theorem d_Or_verdict_41 : decode b_Or_verdict 41 = .ok (.ireturn, 1) := by decide +kernel
theorem d_Or_verdict_42 : decode b_Or_verdict 42 = .ok (.aload_n 0, 1) := by decide +kernel
theorem d_Or_verdict_43 : decode b_Or_verdict 43 = .ok (.getfield 44, 3) := by decide +kernel
theorem d_Or_verdict_46 : decode b_Or_verdict 46 = .ok (.ifCond .eq 19, 3) := by decide +kernel
theorem d_Or_verdict_49 : decode b_Or_verdict 49 = .ok (.aload_n 0, 1) := by decide +kernel
theorem d_Or_verdict_50 : decode b_Or_verdict 50 = .ok (.getfield 44, 3) := by decide +kernel
theorem d_Or_verdict_53 : decode b_Or_verdict 53 = .ok (.aload_n 0, 1) := by decide +kernel
theorem d_Or_verdict_54 : decode b_Or_verdict 54 = .ok (.getfield 48, 3) := by decide +kernel
theorem d_Or_verdict_57 : decode b_Or_verdict 57 = .ok (.iconst (-1), 1) := by decide +kernel
theorem d_Or_verdict_58 : decode b_Or_verdict 58 = .ok (.ixor, 1) := by decide +kernel
theorem d_Or_verdict_59 : decode b_Or_verdict 59 = .ok (.iand, 1) := by decide +kernel
theorem d_Or_verdict_60 : decode b_Or_verdict 60 = .ok (.ifCond .ne 5, 3) := by decide +kernel
theorem d_Or_verdict_63 : decode b_Or_verdict 63 = .ok (.iconst 2, 1) := by decide +kernel
theorem d_Or_verdict_64 : decode b_Or_verdict 64 = .ok (.ireturn, 1) := by decide +kernel
theorem d_Or_verdict_65 : decode b_Or_verdict 65 = .ok (.aload_n 0, 1) := by decide +kernel
theorem d_Or_verdict_66 : decode b_Or_verdict 66 = .ok (.iload 4, 2) := by decide +kernel
theorem d_Or_verdict_68 : decode b_Or_verdict 68 = .ok (.iload_n 1, 1) := by decide +kernel
theorem d_Or_verdict_69 : decode b_Or_verdict 69 = .ok (.lload_n 2, 1) := by decide +kernel
theorem d_Or_verdict_70 : decode b_Or_verdict 70 = .ok (.invokevirtual 137, 3) := by decide +kernel
theorem d_Or_verdict_73 : decode b_Or_verdict 73 = .ok (.ifCond .eq 7, 3) := by decide +kernel
theorem d_Or_verdict_76 : decode b_Or_verdict 76 = .ok (.iconst 1, 1) := by decide +kernel
theorem d_Or_verdict_77 : decode b_Or_verdict 77 = .ok (.goto 4, 3) := by decide +kernel
theorem d_Or_verdict_80 : decode b_Or_verdict 80 = .ok (.iconst 0, 1) := by decide +kernel
theorem d_Or_verdict_81 : decode b_Or_verdict 81 = .ok (.ireturn, 1) := by decide +kernel
theorem d_Or_why_0 : decode b_Or_why 0 = .ok (.iload_n 1, 1) := by decide +kernel
theorem d_Or_why_1 : decode b_Or_why 1 = .ok (.ifCond .lt 20, 3) := by decide +kernel
theorem d_Or_why_4 : decode b_Or_why 4 = .ok (.iload_n 1, 1) := by decide +kernel
theorem d_Or_why_5 : decode b_Or_why 5 = .ok (.aload_n 0, 1) := by decide +kernel
theorem d_Or_why_6 : decode b_Or_why 6 = .ok (.getfield 61, 3) := by decide +kernel
theorem d_Or_why_9 : decode b_Or_why 9 = .ok (.if_icmp .ge 12, 3) := by decide +kernel
theorem d_Or_why_12 : decode b_Or_why 12 = .ok (.aload_n 0, 1) := by decide +kernel
theorem d_Or_why_13 : decode b_Or_why 13 = .ok (.getfield 57, 3) := by decide +kernel
theorem d_Or_why_16 : decode b_Or_why 16 = .ok (.iload_n 1, 1) := by decide +kernel
theorem d_Or_why_17 : decode b_Or_why 17 = .ok (.iaload, 1) := by decide +kernel
theorem d_Or_why_18 : decode b_Or_why 18 = .ok (.goto 4, 3) := by decide +kernel
theorem d_Or_why_21 : decode b_Or_why 21 = .ok (.iconst (-1), 1) := by decide +kernel
theorem d_Or_why_22 : decode b_Or_why 22 = .ok (.ireturn, 1) := by decide +kernel
theorem d_Or_share_0 : decode b_Or_share 0 = .ok (.lload_n 1, 1) := by decide +kernel
theorem d_Or_share_1 : decode b_Or_share 1 = .ok (.invokestatic 90, 3) := by decide +kernel
theorem d_Or_share_4 : decode b_Or_share 4 = .ok (.ifCond .eq 12, 3) := by decide +kernel
theorem d_Or_share_7 : decode b_Or_share 7 = .ok (.iload_n 3, 1) := by decide +kernel
theorem d_Or_share_8 : decode b_Or_share 8 = .ok (.ifCond .lt 8, 3) := by decide +kernel
theorem d_Or_share_11 : decode b_Or_share 11 = .ok (.iload_n 3, 1) := by decide +kernel
theorem d_Or_share_12 : decode b_Or_share 12 = .ok (.iconst 1, 1) := by decide +kernel
theorem d_Or_share_13 : decode b_Or_share 13 = .ok (.if_icmp .le 13, 3) := by decide +kernel
theorem d_Or_share_16 : decode b_Or_share 16 = .ok (.new 94, 3) := by decide +kernel
theorem d_Or_share_19 : decode b_Or_share 19 = .ok (.dup, 1) := by decide +kernel
theorem d_Or_share_20 : decode b_Or_share 20 = .ok (.ldc 141, 2) := by decide +kernel
theorem d_Or_share_22 : decode b_Or_share 22 = .ok (.invokespecial 98, 3) := by decide +kernel
theorem d_Or_share_25 : decode b_Or_share 25 = .ok (.athrow, 1) := by decide +kernel
theorem d_Or_share_26 : decode b_Or_share 26 = .ok (.lload_n 1, 1) := by decide +kernel
theorem d_Or_share_27 : decode b_Or_share 27 = .ok (.lconst 0, 1) := by decide +kernel
theorem d_Or_share_28 : decode b_Or_share 28 = .ok (.lcmp, 1) := by decide +kernel
theorem d_Or_share_29 : decode b_Or_share 29 = .ok (.ifCond .ne 13, 3) := by decide +kernel
theorem d_Or_share_32 : decode b_Or_share 32 = .ok (.new 143, 3) := by decide +kernel
theorem d_Or_share_35 : decode b_Or_share 35 = .ok (.dup, 1) := by decide +kernel
theorem d_Or_share_36 : decode b_Or_share 36 = .ok (.ldc 145, 2) := by decide +kernel
theorem d_Or_share_38 : decode b_Or_share 38 = .ok (.invokespecial 147, 3) := by decide +kernel
theorem d_Or_share_41 : decode b_Or_share 41 = .ok (.athrow, 1) := by decide +kernel
theorem d_Or_share_42 : decode b_Or_share 42 = .ok (.aload_n 0, 1) := by decide +kernel
theorem d_Or_share_43 : decode b_Or_share 43 = .ok (.getfield 26, 3) := by decide +kernel
theorem d_Or_share_46 : decode b_Or_share 46 = .ok (.aload_n 0, 1) := by decide +kernel
theorem d_Or_share_47 : decode b_Or_share 47 = .ok (.getfield 33, 3) := by decide +kernel
theorem d_Or_share_50 : decode b_Or_share 50 = .ok (.invokevirtual 148, 3) := by decide +kernel
theorem d_Or_share_53 : decode b_Or_share 53 = .ok (.invokevirtual 151, 3) := by decide +kernel
theorem d_Or_share_56 : decode b_Or_share 56 = .ok (.lstore 4, 2) := by decide +kernel
theorem d_Or_share_58 : decode b_Or_share 58 = .ok (.lconst 1, 1) := by decide +kernel
theorem d_Or_share_59 : decode b_Or_share 59 = .ok (.lload 4, 2) := by decide +kernel
theorem d_Or_share_61 : decode b_Or_share 61 = .ok (.lload_n 1, 1) := by decide +kernel
theorem d_Or_share_62 : decode b_Or_share 62 = .ok (.invokestatic 155, 3) := by decide +kernel
theorem d_Or_share_65 : decode b_Or_share 65 = .ok (.invokestatic 159, 3) := by decide +kernel
theorem d_Or_share_68 : decode b_Or_share 68 = .ok (.lstore 6, 2) := by decide +kernel
theorem d_Or_share_70 : decode b_Or_share 70 = .ok (.iload_n 3, 1) := by decide +kernel
theorem d_Or_share_71 : decode b_Or_share 71 = .ok (.ifCond .ne 8, 3) := by decide +kernel
theorem d_Or_share_74 : decode b_Or_share 74 = .ok (.lload 4, 2) := by decide +kernel
theorem d_Or_share_76 : decode b_Or_share 76 = .ok (.goto 4, 3) := by decide +kernel
theorem d_Or_share_79 : decode b_Or_share 79 = .ok (.lload_n 1, 1) := by decide +kernel
theorem d_Or_share_80 : decode b_Or_share 80 = .ok (.lload 6, 2) := by decide +kernel
theorem d_Or_share_82 : decode b_Or_share 82 = .ok (.ldiv, 1) := by decide +kernel
theorem d_Or_share_83 : decode b_Or_share 83 = .ok (.lreturn, 1) := by decide +kernel
theorem d_Or_proof_0 : decode b_Or_proof 0 = .ok (.iload_n 1, 1) := by decide +kernel
theorem d_Or_proof_1 : decode b_Or_proof 1 = .ok (.ifCond .lt 27, 3) := by decide +kernel
theorem d_Or_proof_4 : decode b_Or_proof 4 = .ok (.iload_n 1, 1) := by decide +kernel
theorem d_Or_proof_5 : decode b_Or_proof 5 = .ok (.iconst 1, 1) := by decide +kernel
theorem d_Or_proof_6 : decode b_Or_proof 6 = .ok (.if_icmp .gt 22, 3) := by decide +kernel
theorem d_Or_proof_9 : decode b_Or_proof 9 = .ok (.iload_n 2, 1) := by decide +kernel
theorem d_Or_proof_10 : decode b_Or_proof 10 = .ok (.invokestatic 164, 3) := by decide +kernel
theorem d_Or_proof_13 : decode b_Or_proof 13 = .ok (.ifCond .eq 15, 3) := by decide +kernel
theorem d_Or_proof_16 : decode b_Or_proof 16 = .ok (.iload_n 3, 1) := by decide +kernel
theorem d_Or_proof_17 : decode b_Or_proof 17 = .ok (.invokestatic 164, 3) := by decide +kernel
theorem d_Or_proof_20 : decode b_Or_proof 20 = .ok (.ifCond .eq 8, 3) := by decide +kernel
theorem d_Or_proof_23 : decode b_Or_proof 23 = .ok (.iload_n 2, 1) := by decide +kernel
theorem d_Or_proof_24 : decode b_Or_proof 24 = .ok (.iload_n 3, 1) := by decide +kernel
theorem d_Or_proof_25 : decode b_Or_proof 25 = .ok (.if_icmp .le 13, 3) := by decide +kernel
theorem d_Or_proof_28 : decode b_Or_proof 28 = .ok (.new 94, 3) := by decide +kernel
theorem d_Or_proof_31 : decode b_Or_proof 31 = .ok (.dup, 1) := by decide +kernel
theorem d_Or_proof_32 : decode b_Or_proof 32 = .ok (.ldc 167, 2) := by decide +kernel
theorem d_Or_proof_34 : decode b_Or_proof 34 = .ok (.invokespecial 98, 3) := by decide +kernel
theorem d_Or_proof_37 : decode b_Or_proof 37 = .ok (.athrow, 1) := by decide +kernel
theorem d_Or_proof_38 : decode b_Or_proof 38 = .ok (.aload_n 0, 1) := by decide +kernel
theorem d_Or_proof_39 : decode b_Or_proof 39 = .ok (.getfield 40, 3) := by decide +kernel
theorem d_Or_proof_42 : decode b_Or_proof 42 = .ok (.getfield 169, 3) := by decide +kernel
theorem d_Or_proof_45 : decode b_Or_proof 45 = .ok (.bipush 20, 2) := by decide +kernel
theorem d_Or_proof_47 : decode b_Or_proof 47 = .ok (.if_icmp .lt 13, 3) := by decide +kernel
theorem d_Or_proof_50 : decode b_Or_proof 50 = .ok (.new 104, 3) := by decide +kernel
theorem d_Or_proof_53 : decode b_Or_proof 53 = .ok (.dup, 1) := by decide +kernel
theorem d_Or_proof_54 : decode b_Or_proof 54 = .ok (.ldc 170, 2) := by decide +kernel
theorem d_Or_proof_56 : decode b_Or_proof 56 = .ok (.invokespecial 108, 3) := by decide +kernel
theorem d_Or_proof_59 : decode b_Or_proof 59 = .ok (.athrow, 1) := by decide +kernel
theorem d_Or_proof_60 : decode b_Or_proof 60 = .ok (.aload_n 0, 1) := by decide +kernel
theorem d_Or_proof_61 : decode b_Or_proof 61 = .ok (.getfield 40, 3) := by decide +kernel
theorem d_Or_proof_64 : decode b_Or_proof 64 = .ok (.iload_n 1, 1) := by decide +kernel
theorem d_Or_proof_65 : decode b_Or_proof 65 = .ok (.iload_n 2, 1) := by decide +kernel
theorem d_Or_proof_66 : decode b_Or_proof 66 = .ok (.iload_n 3, 1) := by decide +kernel
theorem d_Or_proof_67 : decode b_Or_proof 67 = .ok (.invokevirtual 172, 3) := by decide +kernel
theorem d_Or_proof_70 : decode b_Or_proof 70 = .ok (.ireturn, 1) := by decide +kernel
theorem d_Or_good_0 : decode b_Or_good 0 = .ok (.iload_n 1, 1) := by decide +kernel
theorem d_Or_good_1 : decode b_Or_good 1 = .ok (.ifCond .lt 29, 3) := by decide +kernel
theorem d_Or_good_4 : decode b_Or_good 4 = .ok (.iload_n 1, 1) := by decide +kernel
theorem d_Or_good_5 : decode b_Or_good 5 = .ok (.aload_n 0, 1) := by decide +kernel
theorem d_Or_good_6 : decode b_Or_good 6 = .ok (.getfield 40, 3) := by decide +kernel
theorem d_Or_good_9 : decode b_Or_good 9 = .ok (.getfield 169, 3) := by decide +kernel
theorem d_Or_good_12 : decode b_Or_good 12 = .ok (.if_icmp .ge 18, 3) := by decide +kernel
theorem d_Or_good_15 : decode b_Or_good 15 = .ok (.lload_n 2, 1) := by decide +kernel
theorem d_Or_good_16 : decode b_Or_good 16 = .ok (.invokestatic 90, 3) := by decide +kernel
theorem d_Or_good_19 : decode b_Or_good 19 = .ok (.ifCond .eq 11, 3) := by decide +kernel
theorem d_Or_good_22 : decode b_Or_good 22 = .ok (.iload 4, 2) := by decide +kernel
theorem d_Or_good_24 : decode b_Or_good 24 = .ok (.invokestatic 164, 3) := by decide +kernel
theorem d_Or_good_27 : decode b_Or_good 27 = .ok (.ifCond .ne 13, 3) := by decide +kernel
theorem d_Or_good_30 : decode b_Or_good 30 = .ok (.new 94, 3) := by decide +kernel
theorem d_Or_good_33 : decode b_Or_good 33 = .ok (.dup, 1) := by decide +kernel
theorem d_Or_good_34 : decode b_Or_good 34 = .ok (.ldc 175, 2) := by decide +kernel
theorem d_Or_good_36 : decode b_Or_good 36 = .ok (.invokespecial 98, 3) := by decide +kernel
theorem d_Or_good_39 : decode b_Or_good 39 = .ok (.athrow, 1) := by decide +kernel
theorem d_Or_good_40 : decode b_Or_good 40 = .ok (.aload_n 0, 1) := by decide +kernel
theorem d_Or_good_41 : decode b_Or_good 41 = .ok (.getfield 40, 3) := by decide +kernel
theorem d_Or_good_44 : decode b_Or_good 44 = .ok (.iload_n 1, 1) := by decide +kernel
theorem d_Or_good_45 : decode b_Or_good 45 = .ok (.lload_n 2, 1) := by decide +kernel
theorem d_Or_good_46 : decode b_Or_good 46 = .ok (.iload 4, 2) := by decide +kernel
theorem d_Or_good_48 : decode b_Or_good 48 = .ok (.invokevirtual 177, 3) := by decide +kernel
theorem d_Or_good_51 : decode b_Or_good 51 = .ok (.ireturn, 1) := by decide +kernel
theorem d_Or_own_0 : decode b_Or_own 0 = .ok (.iload_n 1, 1) := by decide +kernel
theorem d_Or_own_1 : decode b_Or_own 1 = .ok (.invokestatic 87, 3) := by decide +kernel
theorem d_Or_own_4 : decode b_Or_own 4 = .ok (.ifCond .ne 13, 3) := by decide +kernel
theorem d_Or_own_7 : decode b_Or_own 7 = .ok (.new 94, 3) := by decide +kernel
theorem d_Or_own_10 : decode b_Or_own 10 = .ok (.dup, 1) := by decide +kernel
theorem d_Or_own_11 : decode b_Or_own 11 = .ok (.ldc 181, 2) := by decide +kernel
theorem d_Or_own_13 : decode b_Or_own 13 = .ok (.invokespecial 98, 3) := by decide +kernel
theorem d_Or_own_16 : decode b_Or_own 16 = .ok (.athrow, 1) := by decide +kernel
theorem d_Or_own_17 : decode b_Or_own 17 = .ok (.aload_n 0, 1) := by decide +kernel
theorem d_Or_own_18 : decode b_Or_own 18 = .ok (.getfield 33, 3) := by decide +kernel
theorem d_Or_own_21 : decode b_Or_own 21 = .ok (.invokevirtual 148, 3) := by decide +kernel
theorem d_Or_own_24 : decode b_Or_own 24 = .ok (.iload_n 1, 1) := by decide +kernel
theorem d_Or_own_25 : decode b_Or_own 25 = .ok (.invokestatic 118, 3) := by decide +kernel
theorem d_Or_own_28 : decode b_Or_own 28 = .ok (.ireturn, 1) := by decide +kernel
theorem d_Or_count_0 : decode b_Or_count 0 = .ok (.iload_n 1, 1) := by decide +kernel
theorem d_Or_count_1 : decode b_Or_count 1 = .ok (.tableswitch 112 0 7 #[47, 55, 63, 71, 86, 91, 99, 107], 47) := by decide +kernel
theorem d_Or_count_48 : decode b_Or_count 48 = .ok (.aload_n 0, 1) := by decide +kernel
theorem d_Or_count_49 : decode b_Or_count 49 = .ok (.getfield 10, 3) := by decide +kernel
theorem d_Or_count_52 : decode b_Or_count 52 = .ok (.getfield 64, 3) := by decide +kernel
theorem d_Or_count_55 : decode b_Or_count 55 = .ok (.ireturn, 1) := by decide +kernel
theorem d_Or_count_56 : decode b_Or_count 56 = .ok (.aload_n 0, 1) := by decide +kernel
theorem d_Or_count_57 : decode b_Or_count 57 = .ok (.getfield 19, 3) := by decide +kernel
theorem d_Or_count_60 : decode b_Or_count 60 = .ok (.getfield 183, 3) := by decide +kernel
theorem d_Or_count_63 : decode b_Or_count 63 = .ok (.ireturn, 1) := by decide +kernel
theorem d_Or_count_64 : decode b_Or_count 64 = .ok (.aload_n 0, 1) := by decide +kernel
theorem d_Or_count_65 : decode b_Or_count 65 = .ok (.getfield 26, 3) := by decide +kernel
theorem d_Or_count_68 : decode b_Or_count 68 = .ok (.getfield 101, 3) := by decide +kernel
theorem d_Or_count_71 : decode b_Or_count 71 = .ok (.ireturn, 1) := by decide +kernel
theorem d_Or_count_72 : decode b_Or_count 72 = .ok (.aload_n 0, 1) := by decide +kernel
theorem d_Or_count_73 : decode b_Or_count 73 = .ok (.getfield 26, 3) := by decide +kernel
theorem d_Or_count_76 : decode b_Or_count 76 = .ok (.aload_n 0, 1) := by decide +kernel
theorem d_Or_count_77 : decode b_Or_count 77 = .ok (.getfield 33, 3) := by decide +kernel
theorem d_Or_count_80 : decode b_Or_count 80 = .ok (.invokevirtual 148, 3) := by decide +kernel
theorem d_Or_count_83 : decode b_Or_count 83 = .ok (.invokevirtual 184, 3) := by decide +kernel
theorem d_Or_count_86 : decode b_Or_count 86 = .ok (.ireturn, 1) := by decide +kernel
theorem d_Or_count_87 : decode b_Or_count 87 = .ok (.aload_n 0, 1) := by decide +kernel
theorem d_Or_count_88 : decode b_Or_count 88 = .ok (.getfield 44, 3) := by decide +kernel
theorem d_Or_count_91 : decode b_Or_count 91 = .ok (.ireturn, 1) := by decide +kernel
theorem d_Or_count_92 : decode b_Or_count 92 = .ok (.aload_n 0, 1) := by decide +kernel
theorem d_Or_count_93 : decode b_Or_count 93 = .ok (.getfield 33, 3) := by decide +kernel
theorem d_Or_count_96 : decode b_Or_count 96 = .ok (.getfield 187, 3) := by decide +kernel
theorem d_Or_count_99 : decode b_Or_count 99 = .ok (.ireturn, 1) := by decide +kernel
theorem d_Or_count_100 : decode b_Or_count 100 = .ok (.aload_n 0, 1) := by decide +kernel
theorem d_Or_count_101 : decode b_Or_count 101 = .ok (.getfield 40, 3) := by decide +kernel
theorem d_Or_count_104 : decode b_Or_count 104 = .ok (.getfield 169, 3) := by decide +kernel
theorem d_Or_count_107 : decode b_Or_count 107 = .ok (.ireturn, 1) := by decide +kernel
theorem d_Or_count_108 : decode b_Or_count 108 = .ok (.aload_n 0, 1) := by decide +kernel
theorem d_Or_count_109 : decode b_Or_count 109 = .ok (.getfield 61, 3) := by decide +kernel
theorem d_Or_count_112 : decode b_Or_count 112 = .ok (.ireturn, 1) := by decide +kernel
theorem d_Or_count_113 : decode b_Or_count 113 = .ok (.iconst (-1), 1) := by decide +kernel
theorem d_Or_count_114 : decode b_Or_count 114 = .ok (.ireturn, 1) := by decide +kernel
theorem d_Or_ruleHolds_0 : decode b_Or_ruleHolds 0 = .ok (.iconst 0, 1) := by decide +kernel
theorem d_Or_ruleHolds_1 : decode b_Or_ruleHolds 1 = .ok (.istore 5, 2) := by decide +kernel
theorem d_Or_ruleHolds_3 : decode b_Or_ruleHolds 3 = .ok (.iconst 0, 1) := by decide +kernel
theorem d_Or_ruleHolds_4 : decode b_Or_ruleHolds 4 = .ok (.istore 6, 2) := by decide +kernel
theorem d_Or_ruleHolds_6 : decode b_Or_ruleHolds 6 = .ok (.iconst 0, 1) := by decide +kernel
theorem d_Or_ruleHolds_7 : decode b_Or_ruleHolds 7 = .ok (.istore 7, 2) := by decide +kernel
theorem d_Or_ruleHolds_9 : decode b_Or_ruleHolds 9 = .ok (.aload_n 0, 1) := by decide +kernel
theorem d_Or_ruleHolds_10 : decode b_Or_ruleHolds 10 = .ok (.iconst 0, 1) := by decide +kernel
theorem d_Or_ruleHolds_11 : decode b_Or_ruleHolds 11 = .ok (.putfield 61, 3) := by decide +kernel
theorem d_Or_ruleHolds_14 : decode b_Or_ruleHolds 14 = .ok (.iload_n 1, 1) := by decide +kernel
theorem d_Or_ruleHolds_15 : decode b_Or_ruleHolds 15 = .ok (.istore 8, 2) := by decide +kernel
theorem d_Or_ruleHolds_17 : decode b_Or_ruleHolds 17 = .ok (.iload 8, 2) := by decide +kernel
theorem d_Or_ruleHolds_19 : decode b_Or_ruleHolds 19 = .ok (.aload_n 0, 1) := by decide +kernel
theorem d_Or_ruleHolds_20 : decode b_Or_ruleHolds 20 = .ok (.getfield 19, 3) := by decide +kernel
theorem d_Or_ruleHolds_23 : decode b_Or_ruleHolds 23 = .ok (.getfield 190, 3) := by decide +kernel
theorem d_Or_ruleHolds_26 : decode b_Or_ruleHolds 26 = .ok (.if_icmp .ge 155, 3) := by decide +kernel
theorem d_Or_ruleHolds_29 : decode b_Or_ruleHolds 29 = .ok (.aload_n 0, 1) := by decide +kernel
theorem d_Or_ruleHolds_30 : decode b_Or_ruleHolds 30 = .ok (.getfield 19, 3) := by decide +kernel
theorem d_Or_ruleHolds_33 : decode b_Or_ruleHolds 33 = .ok (.getfield 191, 3) := by decide +kernel
theorem d_Or_ruleHolds_36 : decode b_Or_ruleHolds 36 = .ok (.iload 8, 2) := by decide +kernel
theorem d_Or_ruleHolds_38 : decode b_Or_ruleHolds 38 = .ok (.caload, 1) := by decide +kernel
theorem d_Or_ruleHolds_39 : decode b_Or_ruleHolds 39 = .ok (.bipush 59, 2) := by decide +kernel
theorem d_Or_ruleHolds_41 : decode b_Or_ruleHolds 41 = .ok (.if_icmp .eq 140, 3) := by decide +kernel
theorem d_Or_ruleHolds_44 : decode b_Or_ruleHolds 44 = .ok (.aload_n 0, 1) := by decide +kernel
theorem d_Or_ruleHolds_45 : decode b_Or_ruleHolds 45 = .ok (.getfield 19, 3) := by decide +kernel
theorem d_Or_ruleHolds_48 : decode b_Or_ruleHolds 48 = .ok (.getfield 191, 3) := by decide +kernel
theorem d_Or_ruleHolds_51 : decode b_Or_ruleHolds 51 = .ok (.iload 8, 2) := by decide +kernel
theorem d_Or_ruleHolds_53 : decode b_Or_ruleHolds 53 = .ok (.caload, 1) := by decide +kernel
theorem d_Or_ruleHolds_54 : decode b_Or_ruleHolds 54 = .ok (.istore 9, 2) := by decide +kernel
theorem d_Or_ruleHolds_56 : decode b_Or_ruleHolds 56 = .ok (.iload 6, 2) := by decide +kernel
theorem d_Or_ruleHolds_58 : decode b_Or_ruleHolds 58 = .ok (.ifCond .eq 59, 3) := by decide +kernel
theorem d_Or_ruleHolds_61 : decode b_Or_ruleHolds 61 = .ok (.iload 7, 2) := by decide +kernel
theorem d_Or_ruleHolds_63 : decode b_Or_ruleHolds 63 = .ok (.ifCond .ne 28, 3) := by decide +kernel
theorem d_Or_ruleHolds_66 : decode b_Or_ruleHolds 66 = .ok (.iload 9, 2) := by decide +kernel
theorem d_Or_ruleHolds_68 : decode b_Or_ruleHolds 68 = .ok (.bipush 41, 2) := by decide +kernel
theorem d_Or_ruleHolds_70 : decode b_Or_ruleHolds 70 = .ok (.if_icmp .eq 15, 3) := by decide +kernel
theorem d_Or_ruleHolds_73 : decode b_Or_ruleHolds 73 = .ok (.iload 9, 2) := by decide +kernel
theorem d_Or_ruleHolds_75 : decode b_Or_ruleHolds 75 = .ok (.bipush 124, 2) := by decide +kernel
theorem d_Or_ruleHolds_77 : decode b_Or_ruleHolds 77 = .ok (.if_icmp .ne 14, 3) := by decide +kernel
theorem d_Or_ruleHolds_80 : decode b_Or_ruleHolds 80 = .ok (.iload 5, 2) := by decide +kernel
theorem d_Or_ruleHolds_82 : decode b_Or_ruleHolds 82 = .ok (.ifCond .ne 9, 3) := by decide +kernel
theorem d_Or_ruleHolds_85 : decode b_Or_ruleHolds 85 = .ok (.iconst 0, 1) := by decide +kernel
theorem d_Or_ruleHolds_86 : decode b_Or_ruleHolds 86 = .ok (.istore 6, 2) := by decide +kernel
theorem d_Or_ruleHolds_88 : decode b_Or_ruleHolds 88 = .ok (.goto 87, 3) := by decide +kernel
theorem d_Or_ruleHolds_91 : decode b_Or_ruleHolds 91 = .ok (.iload 9, 2) := by decide +kernel
theorem d_Or_ruleHolds_93 : decode b_Or_ruleHolds 93 = .ok (.bipush 40, 2) := by decide +kernel
theorem d_Or_ruleHolds_95 : decode b_Or_ruleHolds 95 = .ok (.if_icmp .ne 9, 3) := by decide +kernel
theorem d_Or_ruleHolds_98 : decode b_Or_ruleHolds 98 = .ok (.iinc 7 1, 3) := by decide +kernel
theorem d_Or_ruleHolds_101 : decode b_Or_ruleHolds 101 = .ok (.goto 74, 3) := by decide +kernel
theorem d_Or_ruleHolds_104 : decode b_Or_ruleHolds 104 = .ok (.iload 9, 2) := by decide +kernel
theorem d_Or_ruleHolds_106 : decode b_Or_ruleHolds 106 = .ok (.bipush 41, 2) := by decide +kernel
theorem d_Or_ruleHolds_108 : decode b_Or_ruleHolds 108 = .ok (.if_icmp .ne 67, 3) := by decide +kernel
theorem d_Or_ruleHolds_111 : decode b_Or_ruleHolds 111 = .ok (.iinc 7 (-1), 3) := by decide +kernel
theorem d_Or_ruleHolds_114 : decode b_Or_ruleHolds 114 = .ok (.goto 61, 3) := by decide +kernel
theorem d_Or_ruleHolds_117 : decode b_Or_ruleHolds 117 = .ok (.iload 9, 2) := by decide +kernel
theorem d_Or_ruleHolds_119 : decode b_Or_ruleHolds 119 = .ok (.invokestatic 192, 3) := by decide +kernel
theorem d_Or_ruleHolds_122 : decode b_Or_ruleHolds 122 = .ok (.ifCond .eq 26, 3) := by decide +kernel
theorem d_Or_ruleHolds_125 : decode b_Or_ruleHolds 125 = .ok (.aload_n 0, 1) := by decide +kernel
theorem d_Or_ruleHolds_126 : decode b_Or_ruleHolds 126 = .ok (.iload 8, 2) := by decide +kernel
theorem d_Or_ruleHolds_128 : decode b_Or_ruleHolds 128 = .ok (.iload_n 2, 1) := by decide +kernel
theorem d_Or_ruleHolds_129 : decode b_Or_ruleHolds 129 = .ok (.lload_n 3, 1) := by decide +kernel
theorem d_Or_ruleHolds_130 : decode b_Or_ruleHolds 130 = .ok (.invokevirtual 196, 3) := by decide +kernel
theorem d_Or_ruleHolds_133 : decode b_Or_ruleHolds 133 = .ok (.istore 5, 2) := by decide +kernel
theorem d_Or_ruleHolds_135 : decode b_Or_ruleHolds 135 = .ok (.aload_n 0, 1) := by decide +kernel
theorem d_Or_ruleHolds_136 : decode b_Or_ruleHolds 136 = .ok (.iload 8, 2) := by decide +kernel
theorem d_Or_ruleHolds_138 : decode b_Or_ruleHolds 138 = .ok (.iload_n 1, 1) := by decide +kernel
theorem d_Or_ruleHolds_139 : decode b_Or_ruleHolds 139 = .ok (.isub, 1) := by decide +kernel
theorem d_Or_ruleHolds_140 : decode b_Or_ruleHolds 140 = .ok (.iload 5, 2) := by decide +kernel
theorem d_Or_ruleHolds_142 : decode b_Or_ruleHolds 142 = .ok (.invokevirtual 199, 3) := by decide +kernel
theorem d_Or_ruleHolds_145 : decode b_Or_ruleHolds 145 = .ok (.goto 30, 3) := by decide +kernel
theorem d_Or_ruleHolds_148 : decode b_Or_ruleHolds 148 = .ok (.iload 9, 2) := by decide +kernel
theorem d_Or_ruleHolds_150 : decode b_Or_ruleHolds 150 = .ok (.bipush 38, 2) := by decide +kernel
theorem d_Or_ruleHolds_152 : decode b_Or_ruleHolds 152 = .ok (.if_icmp .ne 8, 3) := by decide +kernel
theorem d_Or_ruleHolds_155 : decode b_Or_ruleHolds 155 = .ok (.iload 5, 2) := by decide +kernel
theorem d_Or_ruleHolds_157 : decode b_Or_ruleHolds 157 = .ok (.ifCond .eq 15, 3) := by decide +kernel
theorem d_Or_ruleHolds_160 : decode b_Or_ruleHolds 160 = .ok (.iload 9, 2) := by decide +kernel
theorem d_Or_ruleHolds_162 : decode b_Or_ruleHolds 162 = .ok (.bipush 124, 2) := by decide +kernel
theorem d_Or_ruleHolds_164 : decode b_Or_ruleHolds 164 = .ok (.if_icmp .ne 11, 3) := by decide +kernel
theorem d_Or_ruleHolds_167 : decode b_Or_ruleHolds 167 = .ok (.iload 5, 2) := by decide +kernel
theorem d_Or_ruleHolds_169 : decode b_Or_ruleHolds 169 = .ok (.ifCond .eq 6, 3) := by decide +kernel
theorem d_Or_ruleHolds_172 : decode b_Or_ruleHolds 172 = .ok (.iconst 1, 1) := by decide +kernel
theorem d_Or_ruleHolds_173 : decode b_Or_ruleHolds 173 = .ok (.istore 6, 2) := by decide +kernel
theorem d_Or_ruleHolds_175 : decode b_Or_ruleHolds 175 = .ok (.iinc 8 1, 3) := by decide +kernel
theorem d_Or_ruleHolds_178 : decode b_Or_ruleHolds 178 = .ok (.goto (-161), 3) := by decide +kernel
theorem d_Or_ruleHolds_181 : decode b_Or_ruleHolds 181 = .ok (.iload 5, 2) := by decide +kernel
theorem d_Or_ruleHolds_183 : decode b_Or_ruleHolds 183 = .ok (.ireturn, 1) := by decide +kernel
theorem d_Or_keepAnswer_0 : decode b_Or_keepAnswer 0 = .ok (.aload_n 0, 1) := by decide +kernel
theorem d_Or_keepAnswer_1 : decode b_Or_keepAnswer 1 = .ok (.getfield 61, 3) := by decide +kernel
theorem d_Or_keepAnswer_4 : decode b_Or_keepAnswer 4 = .ok (.sipush 149, 3) := by decide +kernel
theorem d_Or_keepAnswer_7 : decode b_Or_keepAnswer 7 = .ok (.if_icmp .ge 35, 3) := by decide +kernel
theorem d_Or_keepAnswer_10 : decode b_Or_keepAnswer 10 = .ok (.aload_n 0, 1) := by decide +kernel
theorem d_Or_keepAnswer_11 : decode b_Or_keepAnswer 11 = .ok (.getfield 57, 3) := by decide +kernel
theorem d_Or_keepAnswer_14 : decode b_Or_keepAnswer 14 = .ok (.aload_n 0, 1) := by decide +kernel
theorem d_Or_keepAnswer_15 : decode b_Or_keepAnswer 15 = .ok (.getfield 61, 3) := by decide +kernel
theorem d_Or_keepAnswer_18 : decode b_Or_keepAnswer 18 = .ok (.iconst 2, 1) := by decide +kernel
theorem d_Or_keepAnswer_19 : decode b_Or_keepAnswer 19 = .ok (.iload_n 1, 1) := by decide +kernel
theorem d_Or_keepAnswer_20 : decode b_Or_keepAnswer 20 = .ok (.imul, 1) := by decide +kernel
theorem d_Or_keepAnswer_21 : decode b_Or_keepAnswer 21 = .ok (.iload_n 2, 1) := by decide +kernel
theorem d_Or_keepAnswer_22 : decode b_Or_keepAnswer 22 = .ok (.ifCond .eq 7, 3) := by decide +kernel
theorem d_Or_keepAnswer_25 : decode b_Or_keepAnswer 25 = .ok (.iconst 1, 1) := by decide +kernel
theorem d_Or_keepAnswer_26 : decode b_Or_keepAnswer 26 = .ok (.goto 4, 3) := by decide +kernel
theorem d_Or_keepAnswer_29 : decode b_Or_keepAnswer 29 = .ok (.iconst 0, 1) := by decide +kernel
theorem d_Or_keepAnswer_30 : decode b_Or_keepAnswer 30 = .ok (.iadd, 1) := by decide +kernel
theorem d_Or_keepAnswer_31 : decode b_Or_keepAnswer 31 = .ok (.iastore, 1) := by decide +kernel
theorem d_Or_keepAnswer_32 : decode b_Or_keepAnswer 32 = .ok (.aload_n 0, 1) := by decide +kernel
theorem d_Or_keepAnswer_33 : decode b_Or_keepAnswer 33 = .ok (.dup, 1) := by decide +kernel
theorem d_Or_keepAnswer_34 : decode b_Or_keepAnswer 34 = .ok (.getfield 61, 3) := by decide +kernel
theorem d_Or_keepAnswer_37 : decode b_Or_keepAnswer 37 = .ok (.iconst 1, 1) := by decide +kernel
theorem d_Or_keepAnswer_38 : decode b_Or_keepAnswer 38 = .ok (.iadd, 1) := by decide +kernel
theorem d_Or_keepAnswer_39 : decode b_Or_keepAnswer 39 = .ok (.putfield 61, 3) := by decide +kernel
theorem d_Or_keepAnswer_42 : decode b_Or_keepAnswer 42 = .ok (.return_, 1) := by decide +kernel
theorem d_Or_factorHolds_0 : decode b_Or_factorHolds 0 = .ok (.aload_n 0, 1) := by decide +kernel
theorem d_Or_factorHolds_1 : decode b_Or_factorHolds 1 = .ok (.getfield 19, 3) := by decide +kernel
theorem d_Or_factorHolds_4 : decode b_Or_factorHolds 4 = .ok (.getfield 191, 3) := by decide +kernel
theorem d_Or_factorHolds_7 : decode b_Or_factorHolds 7 = .ok (.iload_n 1, 1) := by decide +kernel
theorem d_Or_factorHolds_8 : decode b_Or_factorHolds 8 = .ok (.caload, 1) := by decide +kernel
theorem d_Or_factorHolds_9 : decode b_Or_factorHolds 9 = .ok (.istore 5, 2) := by decide +kernel
theorem d_Or_factorHolds_11 : decode b_Or_factorHolds 11 = .ok (.iload 5, 2) := by decide +kernel
theorem d_Or_factorHolds_13 : decode b_Or_factorHolds 13 = .ok (.bipush 87, 2) := by decide +kernel
theorem d_Or_factorHolds_15 : decode b_Or_factorHolds 15 = .ok (.if_icmp .ne 19, 3) := by decide +kernel
theorem d_Or_factorHolds_18 : decode b_Or_factorHolds 18 = .ok (.aload_n 0, 1) := by decide +kernel
theorem d_Or_factorHolds_19 : decode b_Or_factorHolds 19 = .ok (.getfield 26, 3) := by decide +kernel
theorem d_Or_factorHolds_22 : decode b_Or_factorHolds 22 = .ok (.getfield 101, 3) := by decide +kernel
theorem d_Or_factorHolds_25 : decode b_Or_factorHolds 25 = .ok (.ifCond .ne 7, 3) := by decide +kernel
theorem d_Or_factorHolds_28 : decode b_Or_factorHolds 28 = .ok (.iconst 1, 1) := by decide +kernel
theorem d_Or_factorHolds_29 : decode b_Or_factorHolds 29 = .ok (.goto 4, 3) := by decide +kernel
theorem d_Or_factorHolds_32 : decode b_Or_factorHolds 32 = .ok (.iconst 0, 1) := by decide +kernel
theorem d_Or_factorHolds_33 : decode b_Or_factorHolds 33 = .ok (.ireturn, 1) := by decide +kernel
theorem d_Or_factorHolds_34 : decode b_Or_factorHolds 34 = .ok (.iload 5, 2) := by decide +kernel
theorem d_Or_factorHolds_36 : decode b_Or_factorHolds 36 = .ok (.bipush 67, 2) := by decide +kernel
theorem d_Or_factorHolds_38 : decode b_Or_factorHolds 38 = .ok (.if_icmp .ne 11, 3) := by decide +kernel
theorem d_Or_factorHolds_41 : decode b_Or_factorHolds 41 = .ok (.aload_n 0, 1) := by decide +kernel
theorem d_Or_factorHolds_42 : decode b_Or_factorHolds 42 = .ok (.iload_n 2, 1) := by decide +kernel
theorem d_Or_factorHolds_43 : decode b_Or_factorHolds 43 = .ok (.iconst 2, 1) := by decide +kernel
theorem d_Or_factorHolds_44 : decode b_Or_factorHolds 44 = .ok (.lload_n 3, 1) := by decide +kernel
theorem d_Or_factorHolds_45 : decode b_Or_factorHolds 45 = .ok (.invokevirtual 203, 3) := by decide +kernel
theorem d_Or_factorHolds_48 : decode b_Or_factorHolds 48 = .ok (.ireturn, 1) := by decide +kernel
theorem d_Or_factorHolds_49 : decode b_Or_factorHolds 49 = .ok (.iload 5, 2) := by decide +kernel
theorem d_Or_factorHolds_51 : decode b_Or_factorHolds 51 = .ok (.bipush 72, 2) := by decide +kernel
theorem d_Or_factorHolds_53 : decode b_Or_factorHolds 53 = .ok (.if_icmp .ne 11, 3) := by decide +kernel
theorem d_Or_factorHolds_56 : decode b_Or_factorHolds 56 = .ok (.aload_n 0, 1) := by decide +kernel
theorem d_Or_factorHolds_57 : decode b_Or_factorHolds 57 = .ok (.iload_n 2, 1) := by decide +kernel
theorem d_Or_factorHolds_58 : decode b_Or_factorHolds 58 = .ok (.iconst 4, 1) := by decide +kernel
theorem d_Or_factorHolds_59 : decode b_Or_factorHolds 59 = .ok (.lload_n 3, 1) := by decide +kernel
theorem d_Or_factorHolds_60 : decode b_Or_factorHolds 60 = .ok (.invokevirtual 203, 3) := by decide +kernel
theorem d_Or_factorHolds_63 : decode b_Or_factorHolds 63 = .ok (.ireturn, 1) := by decide +kernel
theorem d_Or_factorHolds_64 : decode b_Or_factorHolds 64 = .ok (.iload 5, 2) := by decide +kernel
theorem d_Or_factorHolds_66 : decode b_Or_factorHolds 66 = .ok (.bipush 83, 2) := by decide +kernel
theorem d_Or_factorHolds_68 : decode b_Or_factorHolds 68 = .ok (.if_icmp .ne 12, 3) := by decide +kernel
theorem d_Or_factorHolds_71 : decode b_Or_factorHolds 71 = .ok (.aload_n 0, 1) := by decide +kernel
theorem d_Or_factorHolds_72 : decode b_Or_factorHolds 72 = .ok (.iload_n 2, 1) := by decide +kernel
theorem d_Or_factorHolds_73 : decode b_Or_factorHolds 73 = .ok (.bipush 6, 2) := by decide +kernel
theorem d_Or_factorHolds_75 : decode b_Or_factorHolds 75 = .ok (.lload_n 3, 1) := by decide +kernel
theorem d_Or_factorHolds_76 : decode b_Or_factorHolds 76 = .ok (.invokevirtual 203, 3) := by decide +kernel
theorem d_Or_factorHolds_79 : decode b_Or_factorHolds 79 = .ok (.ireturn, 1) := by decide +kernel
theorem d_Or_factorHolds_80 : decode b_Or_factorHolds 80 = .ok (.aload_n 0, 1) := by decide +kernel
theorem d_Or_factorHolds_81 : decode b_Or_factorHolds 81 = .ok (.getfield 19, 3) := by decide +kernel
theorem d_Or_factorHolds_84 : decode b_Or_factorHolds 84 = .ok (.iload_n 1, 1) := by decide +kernel
theorem d_Or_factorHolds_85 : decode b_Or_factorHolds 85 = .ok (.iconst 1, 1) := by decide +kernel
theorem d_Or_factorHolds_86 : decode b_Or_factorHolds 86 = .ok (.iadd, 1) := by decide +kernel
theorem d_Or_factorHolds_87 : decode b_Or_factorHolds 87 = .ok (.invokevirtual 206, 3) := by decide +kernel
theorem d_Or_factorHolds_90 : decode b_Or_factorHolds 90 = .ok (.istore 6, 2) := by decide +kernel
theorem d_Or_factorHolds_92 : decode b_Or_factorHolds 92 = .ok (.iload 5, 2) := by decide +kernel
theorem d_Or_factorHolds_94 : decode b_Or_factorHolds 94 = .ok (.bipush 86, 2) := by decide +kernel
theorem d_Or_factorHolds_96 : decode b_Or_factorHolds 96 = .ok (.if_icmp .ne 13, 3) := by decide +kernel
theorem d_Or_factorHolds_99 : decode b_Or_factorHolds 99 = .ok (.aload_n 0, 1) := by decide +kernel
theorem d_Or_factorHolds_100 : decode b_Or_factorHolds 100 = .ok (.iload 6, 2) := by decide +kernel
theorem d_Or_factorHolds_102 : decode b_Or_factorHolds 102 = .ok (.lload_n 3, 1) := by decide +kernel
theorem d_Or_factorHolds_103 : decode b_Or_factorHolds 103 = .ok (.invokevirtual 209, 3) := by decide +kernel
theorem d_Or_factorHolds_106 : decode b_Or_factorHolds 106 = .ok (.goto 12, 3) := by decide +kernel
theorem d_Or_factorHolds_109 : decode b_Or_factorHolds 109 = .ok (.aload_n 0, 1) := by decide +kernel
theorem d_Or_factorHolds_110 : decode b_Or_factorHolds 110 = .ok (.getfield 44, 3) := by decide +kernel
theorem d_Or_factorHolds_113 : decode b_Or_factorHolds 113 = .ok (.iload 6, 2) := by decide +kernel
theorem d_Or_factorHolds_115 : decode b_Or_factorHolds 115 = .ok (.invokestatic 118, 3) := by decide +kernel
theorem d_Or_factorHolds_118 : decode b_Or_factorHolds 118 = .ok (.ireturn, 1) := by decide +kernel
theorem d_Or_isChanged_0 : decode b_Or_isChanged 0 = .ok (.aload_n 0, 1) := by decide +kernel
theorem d_Or_isChanged_1 : decode b_Or_isChanged 1 = .ok (.getfield 26, 3) := by decide +kernel
theorem d_Or_isChanged_4 : decode b_Or_isChanged 4 = .ok (.aload_n 0, 1) := by decide +kernel
theorem d_Or_isChanged_5 : decode b_Or_isChanged 5 = .ok (.getfield 33, 3) := by decide +kernel
theorem d_Or_isChanged_8 : decode b_Or_isChanged 8 = .ok (.invokevirtual 148, 3) := by decide +kernel
theorem d_Or_isChanged_11 : decode b_Or_isChanged 11 = .ok (.iload_n 1, 1) := by decide +kernel
theorem d_Or_isChanged_12 : decode b_Or_isChanged 12 = .ok (.iload_n 2, 1) := by decide +kernel
theorem d_Or_isChanged_13 : decode b_Or_isChanged 13 = .ok (.invokevirtual 213, 3) := by decide +kernel
theorem d_Or_isChanged_16 : decode b_Or_isChanged 16 = .ok (.lstore 5, 2) := by decide +kernel
theorem d_Or_isChanged_18 : decode b_Or_isChanged 18 = .ok (.lload 5, 2) := by decide +kernel
theorem d_Or_isChanged_20 : decode b_Or_isChanged 20 = .ok (.aload_n 0, 1) := by decide +kernel
theorem d_Or_isChanged_21 : decode b_Or_isChanged 21 = .ok (.getfield 54, 3) := by decide +kernel
theorem d_Or_isChanged_24 : decode b_Or_isChanged 24 = .ok (.i2l, 1) := by decide +kernel
theorem d_Or_isChanged_25 : decode b_Or_isChanged 25 = .ok (.lmul, 1) := by decide +kernel
theorem d_Or_isChanged_26 : decode b_Or_isChanged 26 = .ok (.aload_n 0, 1) := by decide +kernel
theorem d_Or_isChanged_27 : decode b_Or_isChanged 27 = .ok (.getfield 51, 3) := by decide +kernel
theorem d_Or_isChanged_30 : decode b_Or_isChanged 30 = .ok (.i2l, 1) := by decide +kernel
theorem d_Or_isChanged_31 : decode b_Or_isChanged 31 = .ok (.lload_n 3, 1) := by decide +kernel
theorem d_Or_isChanged_32 : decode b_Or_isChanged 32 = .ok (.lmul, 1) := by decide +kernel
theorem d_Or_isChanged_33 : decode b_Or_isChanged 33 = .ok (.lcmp, 1) := by decide +kernel
theorem d_Or_isChanged_34 : decode b_Or_isChanged 34 = .ok (.ifCond .gt 7, 3) := by decide +kernel
theorem d_Or_isChanged_37 : decode b_Or_isChanged 37 = .ok (.iconst 1, 1) := by decide +kernel
theorem d_Or_isChanged_38 : decode b_Or_isChanged 38 = .ok (.goto 4, 3) := by decide +kernel
theorem d_Or_isChanged_41 : decode b_Or_isChanged 41 = .ok (.iconst 0, 1) := by decide +kernel
theorem d_Or_isChanged_42 : decode b_Or_isChanged 42 = .ok (.ireturn, 1) := by decide +kernel
theorem d_Or_isShareWithin_0 : decode b_Or_isShareWithin 0 = .ok (.aload_n 0, 1) := by decide +kernel
theorem d_Or_isShareWithin_1 : decode b_Or_isShareWithin 1 = .ok (.getfield 26, 3) := by decide +kernel
theorem d_Or_isShareWithin_4 : decode b_Or_isShareWithin 4 = .ok (.aload_n 0, 1) := by decide +kernel
theorem d_Or_isShareWithin_5 : decode b_Or_isShareWithin 5 = .ok (.getfield 33, 3) := by decide +kernel
theorem d_Or_isShareWithin_8 : decode b_Or_isShareWithin 8 = .ok (.invokevirtual 148, 3) := by decide +kernel
theorem d_Or_isShareWithin_11 : decode b_Or_isShareWithin 11 = .ok (.invokevirtual 151, 3) := by decide +kernel
theorem d_Or_isShareWithin_14 : decode b_Or_isShareWithin 14 = .ok (.lstore 4, 2) := by decide +kernel
theorem d_Or_isShareWithin_16 : decode b_Or_isShareWithin 16 = .ok (.lload_n 2, 1) := by decide +kernel
theorem d_Or_isShareWithin_17 : decode b_Or_isShareWithin 17 = .ok (.lconst 0, 1) := by decide +kernel
theorem d_Or_isShareWithin_18 : decode b_Or_isShareWithin 18 = .ok (.lcmp, 1) := by decide +kernel
theorem d_Or_isShareWithin_19 : decode b_Or_isShareWithin 19 = .ok (.ifCond .le 21, 3) := by decide +kernel
theorem d_Or_isShareWithin_22 : decode b_Or_isShareWithin 22 = .ok (.lload 4, 2) := by decide +kernel
theorem d_Or_isShareWithin_24 : decode b_Or_isShareWithin 24 = .ok (.ldc2_w 217, 3) := by decide +kernel
theorem d_Or_isShareWithin_27 : decode b_Or_isShareWithin 27 = .ok (.lmul, 1) := by decide +kernel
theorem d_Or_isShareWithin_28 : decode b_Or_isShareWithin 28 = .ok (.iload_n 1, 1) := by decide +kernel
theorem d_Or_isShareWithin_29 : decode b_Or_isShareWithin 29 = .ok (.i2l, 1) := by decide +kernel
theorem d_Or_isShareWithin_30 : decode b_Or_isShareWithin 30 = .ok (.lload_n 2, 1) := by decide +kernel
theorem d_Or_isShareWithin_31 : decode b_Or_isShareWithin 31 = .ok (.lmul, 1) := by decide +kernel
theorem d_Or_isShareWithin_32 : decode b_Or_isShareWithin 32 = .ok (.lcmp, 1) := by decide +kernel
theorem d_Or_isShareWithin_33 : decode b_Or_isShareWithin 33 = .ok (.ifCond .gt 7, 3) := by decide +kernel
theorem d_Or_isShareWithin_36 : decode b_Or_isShareWithin 36 = .ok (.iconst 1, 1) := by decide +kernel
theorem d_Or_isShareWithin_37 : decode b_Or_isShareWithin 37 = .ok (.goto 4, 3) := by decide +kernel
theorem d_Or_isShareWithin_40 : decode b_Or_isShareWithin 40 = .ok (.iconst 0, 1) := by decide +kernel
theorem d_Or_isShareWithin_41 : decode b_Or_isShareWithin 41 = .ok (.ireturn, 1) := by decide +kernel
theorem d_Or_isCode_0 : decode b_Or_isCode 0 = .ok (.iload_n 0, 1) := by decide +kernel
theorem d_Or_isCode_1 : decode b_Or_isCode 1 = .ok (.iconst 1, 1) := by decide +kernel
theorem d_Or_isCode_2 : decode b_Or_isCode 2 = .ok (.if_icmp .lt 13, 3) := by decide +kernel
theorem d_Or_isCode_5 : decode b_Or_isCode 5 = .ok (.iload_n 0, 1) := by decide +kernel
theorem d_Or_isCode_6 : decode b_Or_isCode 6 = .ok (.ldc 219, 2) := by decide +kernel
theorem d_Or_isCode_8 : decode b_Or_isCode 8 = .ok (.if_icmp .gt 7, 3) := by decide +kernel
theorem d_Or_isCode_11 : decode b_Or_isCode 11 = .ok (.iconst 1, 1) := by decide +kernel
theorem d_Or_isCode_12 : decode b_Or_isCode 12 = .ok (.goto 4, 3) := by decide +kernel
theorem d_Or_isCode_15 : decode b_Or_isCode 15 = .ok (.iconst 0, 1) := by decide +kernel
theorem d_Or_isCode_16 : decode b_Or_isCode 16 = .ok (.ireturn, 1) := by decide +kernel
theorem d_Or_isLand_0 : decode b_Or_isLand 0 = .ok (.iload_n 0, 1) := by decide +kernel
theorem d_Or_isLand_1 : decode b_Or_isLand 1 = .ok (.ifCond .lt 13, 3) := by decide +kernel
theorem d_Or_isLand_4 : decode b_Or_isLand 4 = .ok (.iload_n 0, 1) := by decide +kernel
theorem d_Or_isLand_5 : decode b_Or_isLand 5 = .ok (.bipush 10, 2) := by decide +kernel
theorem d_Or_isLand_7 : decode b_Or_isLand 7 = .ok (.if_icmp .ge 7, 3) := by decide +kernel
theorem d_Or_isLand_10 : decode b_Or_isLand 10 = .ok (.iconst 1, 1) := by decide +kernel
theorem d_Or_isLand_11 : decode b_Or_isLand 11 = .ok (.goto 4, 3) := by decide +kernel
theorem d_Or_isLand_14 : decode b_Or_isLand 14 = .ok (.iconst 0, 1) := by decide +kernel
theorem d_Or_isLand_15 : decode b_Or_isLand 15 = .ok (.ireturn, 1) := by decide +kernel
theorem d_Or_isCents_0 : decode b_Or_isCents 0 = .ok (.lload_n 0, 1) := by decide +kernel
theorem d_Or_isCents_1 : decode b_Or_isCents 1 = .ok (.lconst 0, 1) := by decide +kernel
theorem d_Or_isCents_2 : decode b_Or_isCents 2 = .ok (.lcmp, 1) := by decide +kernel
theorem d_Or_isCents_3 : decode b_Or_isCents 3 = .ok (.ifCond .lt 15, 3) := by decide +kernel
theorem d_Or_isCents_6 : decode b_Or_isCents 6 = .ok (.lload_n 0, 1) := by decide +kernel
theorem d_Or_isCents_7 : decode b_Or_isCents 7 = .ok (.ldc2_w 220, 3) := by decide +kernel
theorem d_Or_isCents_10 : decode b_Or_isCents 10 = .ok (.lcmp, 1) := by decide +kernel
theorem d_Or_isCents_11 : decode b_Or_isCents 11 = .ok (.ifCond .gt 7, 3) := by decide +kernel
theorem d_Or_isCents_14 : decode b_Or_isCents 14 = .ok (.iconst 1, 1) := by decide +kernel
theorem d_Or_isCents_15 : decode b_Or_isCents 15 = .ok (.goto 4, 3) := by decide +kernel
theorem d_Or_isCents_18 : decode b_Or_isCents 18 = .ok (.iconst 0, 1) := by decide +kernel
theorem d_Or_isCents_19 : decode b_Or_isCents 19 = .ok (.ireturn, 1) := by decide +kernel
theorem d_Or_isProcess_0 : decode b_Or_isProcess 0 = .ok (.iload_n 0, 1) := by decide +kernel
theorem d_Or_isProcess_1 : decode b_Or_isProcess 1 = .ok (.ifCond .lt 13, 3) := by decide +kernel
theorem d_Or_isProcess_4 : decode b_Or_isProcess 4 = .ok (.iload_n 0, 1) := by decide +kernel
theorem d_Or_isProcess_5 : decode b_Or_isProcess 5 = .ok (.bipush 15, 2) := by decide +kernel
theorem d_Or_isProcess_7 : decode b_Or_isProcess 7 = .ok (.if_icmp .gt 7, 3) := by decide +kernel
theorem d_Or_isProcess_10 : decode b_Or_isProcess 10 = .ok (.iconst 1, 1) := by decide +kernel
theorem d_Or_isProcess_11 : decode b_Or_isProcess 11 = .ok (.goto 4, 3) := by decide +kernel
theorem d_Or_isProcess_14 : decode b_Or_isProcess 14 = .ok (.iconst 0, 1) := by decide +kernel
theorem d_Or_isProcess_15 : decode b_Or_isProcess 15 = .ok (.ireturn, 1) := by decide +kernel
theorem d_Or_isDay_0 : decode b_Or_isDay 0 = .ok (.iload_n 0, 1) := by decide +kernel
theorem d_Or_isDay_1 : decode b_Or_isDay 1 = .ok (.ifCond .lt 13, 3) := by decide +kernel
theorem d_Or_isDay_4 : decode b_Or_isDay 4 = .ok (.iload_n 0, 1) := by decide +kernel
theorem d_Or_isDay_5 : decode b_Or_isDay 5 = .ok (.ldc 222, 2) := by decide +kernel
theorem d_Or_isDay_7 : decode b_Or_isDay 7 = .ok (.if_icmp .gt 7, 3) := by decide +kernel
theorem d_Or_isDay_10 : decode b_Or_isDay 10 = .ok (.iconst 1, 1) := by decide +kernel
theorem d_Or_isDay_11 : decode b_Or_isDay 11 = .ok (.goto 4, 3) := by decide +kernel
theorem d_Or_isDay_14 : decode b_Or_isDay 14 = .ok (.iconst 0, 1) := by decide +kernel
theorem d_Or_isDay_15 : decode b_Or_isDay 15 = .ok (.ireturn, 1) := by decide +kernel
theorem d_Or_isDigit_0 : decode b_Or_isDigit 0 = .ok (.iload_n 0, 1) := by decide +kernel
theorem d_Or_isDigit_1 : decode b_Or_isDigit 1 = .ok (.bipush 48, 2) := by decide +kernel
theorem d_Or_isDigit_3 : decode b_Or_isDigit 3 = .ok (.if_icmp .lt 13, 3) := by decide +kernel
theorem d_Or_isDigit_6 : decode b_Or_isDigit 6 = .ok (.iload_n 0, 1) := by decide +kernel
theorem d_Or_isDigit_7 : decode b_Or_isDigit 7 = .ok (.bipush 57, 2) := by decide +kernel
theorem d_Or_isDigit_9 : decode b_Or_isDigit 9 = .ok (.if_icmp .gt 7, 3) := by decide +kernel
theorem d_Or_isDigit_12 : decode b_Or_isDigit 12 = .ok (.iconst 1, 1) := by decide +kernel
theorem d_Or_isDigit_13 : decode b_Or_isDigit 13 = .ok (.goto 4, 3) := by decide +kernel
theorem d_Or_isDigit_16 : decode b_Or_isDigit 16 = .ok (.iconst 0, 1) := by decide +kernel
theorem d_Or_isDigit_17 : decode b_Or_isDigit 17 = .ok (.ireturn, 1) := by decide +kernel
theorem d_Or_isLetter_0 : decode b_Or_isLetter 0 = .ok (.iload_n 0, 1) := by decide +kernel
theorem d_Or_isLetter_1 : decode b_Or_isLetter 1 = .ok (.bipush 65, 2) := by decide +kernel
theorem d_Or_isLetter_3 : decode b_Or_isLetter 3 = .ok (.if_icmp .lt 13, 3) := by decide +kernel
theorem d_Or_isLetter_6 : decode b_Or_isLetter 6 = .ok (.iload_n 0, 1) := by decide +kernel
theorem d_Or_isLetter_7 : decode b_Or_isLetter 7 = .ok (.bipush 90, 2) := by decide +kernel
theorem d_Or_isLetter_9 : decode b_Or_isLetter 9 = .ok (.if_icmp .gt 7, 3) := by decide +kernel
theorem d_Or_isLetter_12 : decode b_Or_isLetter 12 = .ok (.iconst 1, 1) := by decide +kernel
theorem d_Or_isLetter_13 : decode b_Or_isLetter 13 = .ok (.goto 4, 3) := by decide +kernel
theorem d_Or_isLetter_16 : decode b_Or_isLetter 16 = .ok (.iconst 0, 1) := by decide +kernel
theorem d_Or_isLetter_17 : decode b_Or_isLetter 17 = .ok (.ireturn, 1) := by decide +kernel
theorem d_Or_hasBit_0 : decode b_Or_hasBit 0 = .ok (.iload_n 0, 1) := by decide +kernel
theorem d_Or_hasBit_1 : decode b_Or_hasBit 1 = .ok (.iload_n 1, 1) := by decide +kernel
theorem d_Or_hasBit_2 : decode b_Or_hasBit 2 = .ok (.ishr, 1) := by decide +kernel
theorem d_Or_hasBit_3 : decode b_Or_hasBit 3 = .ok (.iconst 1, 1) := by decide +kernel
theorem d_Or_hasBit_4 : decode b_Or_hasBit 4 = .ok (.iand, 1) := by decide +kernel
theorem d_Or_hasBit_5 : decode b_Or_hasBit 5 = .ok (.iconst 1, 1) := by decide +kernel
theorem d_Or_hasBit_6 : decode b_Or_hasBit 6 = .ok (.if_icmp .ne 7, 3) := by decide +kernel
theorem d_Or_hasBit_9 : decode b_Or_hasBit 9 = .ok (.iconst 1, 1) := by decide +kernel
theorem d_Or_hasBit_10 : decode b_Or_hasBit 10 = .ok (.goto 4, 3) := by decide +kernel
theorem d_Or_hasBit_13 : decode b_Or_hasBit 13 = .ok (.iconst 0, 1) := by decide +kernel
theorem d_Or_hasBit_14 : decode b_Or_hasBit 14 = .ok (.ireturn, 1) := by decide +kernel
theorem d_Or_beginning_0 : decode b_Or_beginning 0 = .ok (.iload_n 0, 1) := by decide +kernel
theorem d_Or_beginning_1 : decode b_Or_beginning 1 = .ok (.istore_n 2, 1) := by decide +kernel
theorem d_Or_beginning_2 : decode b_Or_beginning 2 = .ok (.iload_n 1, 1) := by decide +kernel
theorem d_Or_beginning_3 : decode b_Or_beginning 3 = .ok (.istore_n 3, 1) := by decide +kernel
theorem d_Or_beginning_4 : decode b_Or_beginning 4 = .ok (.iload_n 3, 1) := by decide +kernel
theorem d_Or_beginning_5 : decode b_Or_beginning 5 = .ok (.bipush 6, 2) := by decide +kernel
theorem d_Or_beginning_7 : decode b_Or_beginning 7 = .ok (.if_icmp .ge 14, 3) := by decide +kernel
theorem d_Or_beginning_10 : decode b_Or_beginning 10 = .ok (.iload_n 2, 1) := by decide +kernel
theorem d_Or_beginning_11 : decode b_Or_beginning 11 = .ok (.bipush 10, 2) := by decide +kernel
theorem d_Or_beginning_13 : decode b_Or_beginning 13 = .ok (.idiv, 1) := by decide +kernel
theorem d_Or_beginning_14 : decode b_Or_beginning 14 = .ok (.istore_n 2, 1) := by decide +kernel
theorem d_Or_beginning_15 : decode b_Or_beginning 15 = .ok (.iinc 3 1, 3) := by decide +kernel
theorem d_Or_beginning_18 : decode b_Or_beginning 18 = .ok (.goto (-14), 3) := by decide +kernel
theorem d_Or_beginning_21 : decode b_Or_beginning 21 = .ok (.iload_n 2, 1) := by decide +kernel
theorem d_Or_beginning_22 : decode b_Or_beginning 22 = .ok (.ireturn, 1) := by decide +kernel
theorem d_Or_greatestDivisor_0 : decode b_Or_greatestDivisor 0 = .ok (.lload_n 0, 1) := by decide +kernel
theorem d_Or_greatestDivisor_1 : decode b_Or_greatestDivisor 1 = .ok (.lstore 4, 2) := by decide +kernel
theorem d_Or_greatestDivisor_3 : decode b_Or_greatestDivisor 3 = .ok (.lload_n 2, 1) := by decide +kernel
theorem d_Or_greatestDivisor_4 : decode b_Or_greatestDivisor 4 = .ok (.lstore 6, 2) := by decide +kernel
theorem d_Or_greatestDivisor_6 : decode b_Or_greatestDivisor 6 = .ok (.iconst 0, 1) := by decide +kernel
theorem d_Or_greatestDivisor_7 : decode b_Or_greatestDivisor 7 = .ok (.istore 8, 2) := by decide +kernel
theorem d_Or_greatestDivisor_9 : decode b_Or_greatestDivisor 9 = .ok (.iload 8, 2) := by decide +kernel
theorem d_Or_greatestDivisor_11 : decode b_Or_greatestDivisor 11 = .ok (.bipush 100, 2) := by decide +kernel
theorem d_Or_greatestDivisor_13 : decode b_Or_greatestDivisor 13 = .ok (.if_icmp .ge 31, 3) := by decide +kernel
theorem d_Or_greatestDivisor_16 : decode b_Or_greatestDivisor 16 = .ok (.lload 6, 2) := by decide +kernel
theorem d_Or_greatestDivisor_18 : decode b_Or_greatestDivisor 18 = .ok (.lconst 0, 1) := by decide +kernel
theorem d_Or_greatestDivisor_19 : decode b_Or_greatestDivisor 19 = .ok (.lcmp, 1) := by decide +kernel
theorem d_Or_greatestDivisor_20 : decode b_Or_greatestDivisor 20 = .ok (.ifCond .eq 24, 3) := by decide +kernel
theorem d_Or_greatestDivisor_23 : decode b_Or_greatestDivisor 23 = .ok (.lload 4, 2) := by decide +kernel
theorem d_Or_greatestDivisor_25 : decode b_Or_greatestDivisor 25 = .ok (.lload 6, 2) := by decide +kernel
theorem d_Or_greatestDivisor_27 : decode b_Or_greatestDivisor 27 = .ok (.lrem, 1) := by decide +kernel
theorem d_Or_greatestDivisor_28 : decode b_Or_greatestDivisor 28 = .ok (.lstore 9, 2) := by decide +kernel
theorem d_Or_greatestDivisor_30 : decode b_Or_greatestDivisor 30 = .ok (.lload 6, 2) := by decide +kernel
theorem d_Or_greatestDivisor_32 : decode b_Or_greatestDivisor 32 = .ok (.lstore 4, 2) := by decide +kernel
theorem d_Or_greatestDivisor_34 : decode b_Or_greatestDivisor 34 = .ok (.lload 9, 2) := by decide +kernel
theorem d_Or_greatestDivisor_36 : decode b_Or_greatestDivisor 36 = .ok (.lstore 6, 2) := by decide +kernel
theorem d_Or_greatestDivisor_38 : decode b_Or_greatestDivisor 38 = .ok (.iinc 8 1, 3) := by decide +kernel
theorem d_Or_greatestDivisor_41 : decode b_Or_greatestDivisor 41 = .ok (.goto (-32), 3) := by decide +kernel
theorem d_Or_greatestDivisor_44 : decode b_Or_greatestDivisor 44 = .ok (.lload 4, 2) := by decide +kernel
theorem d_Or_greatestDivisor_46 : decode b_Or_greatestDivisor 46 = .ok (.lreturn, 1) := by decide +kernel
theorem d_Text_init_0 : decode b_Text_init 0 = .ok (.aload_n 0, 1) := by decide +kernel
theorem d_Text_init_1 : decode b_Text_init 1 = .ok (.invokespecial 3, 3) := by decide +kernel
theorem d_Text_init_4 : decode b_Text_init 4 = .ok (.aload_n 0, 1) := by decide +kernel
theorem d_Text_init_5 : decode b_Text_init 5 = .ok (.sipush 300, 3) := by decide +kernel
theorem d_Text_init_8 : decode b_Text_init 8 = .ok (.newarray .char, 2) := by decide +kernel
theorem d_Text_init_10 : decode b_Text_init 10 = .ok (.putfield 9, 3) := by decide +kernel
theorem d_Text_init_13 : decode b_Text_init 13 = .ok (.aload_n 0, 1) := by decide +kernel
theorem d_Text_init_14 : decode b_Text_init 14 = .ok (.iconst 0, 1) := by decide +kernel
theorem d_Text_init_15 : decode b_Text_init 15 = .ok (.putfield 15, 3) := by decide +kernel
theorem d_Text_init_18 : decode b_Text_init 18 = .ok (.aload_n 0, 1) := by decide +kernel
theorem d_Text_init_19 : decode b_Text_init 19 = .ok (.iconst 0, 1) := by decide +kernel
theorem d_Text_init_20 : decode b_Text_init 20 = .ok (.putfield 19, 3) := by decide +kernel
theorem d_Text_init_23 : decode b_Text_init 23 = .ok (.return_, 1) := by decide +kernel
theorem d_Text_add_0 : decode b_Text_add 0 = .ok (.aload_n 0, 1) := by decide +kernel
theorem d_Text_add_1 : decode b_Text_add 1 = .ok (.getfield 9, 3) := by decide +kernel
theorem d_Text_add_4 : decode b_Text_add 4 = .ok (.aload_n 0, 1) := by decide +kernel
theorem d_Text_add_5 : decode b_Text_add 5 = .ok (.getfield 15, 3) := by decide +kernel
theorem d_Text_add_8 : decode b_Text_add 8 = .ok (.iload_n 1, 1) := by decide +kernel
theorem d_Text_add_9 : decode b_Text_add 9 = .ok (.castore, 1) := by decide +kernel
theorem d_Text_add_10 : decode b_Text_add 10 = .ok (.aload_n 0, 1) := by decide +kernel
theorem d_Text_add_11 : decode b_Text_add 11 = .ok (.dup, 1) := by decide +kernel
theorem d_Text_add_12 : decode b_Text_add 12 = .ok (.getfield 15, 3) := by decide +kernel
theorem d_Text_add_15 : decode b_Text_add 15 = .ok (.iconst 1, 1) := by decide +kernel
theorem d_Text_add_16 : decode b_Text_add 16 = .ok (.iadd, 1) := by decide +kernel
theorem d_Text_add_17 : decode b_Text_add 17 = .ok (.putfield 15, 3) := by decide +kernel
theorem d_Text_add_20 : decode b_Text_add 20 = .ok (.return_, 1) := by decide +kernel
theorem d_Text_rowsOrWrongPlace_0 : decode b_Text_rowsOrWrongPlace 0 = .ok (.aload_n 0, 1) := by decide +kernel
theorem d_Text_rowsOrWrongPlace_1 : decode b_Text_rowsOrWrongPlace 1 = .ok (.iconst 0, 1) := by decide +kernel
theorem d_Text_rowsOrWrongPlace_2 : decode b_Text_rowsOrWrongPlace 2 = .ok (.putfield 19, 3) := by decide +kernel
theorem d_Text_rowsOrWrongPlace_5 : decode b_Text_rowsOrWrongPlace 5 = .ok (.iconst 1, 1) := by decide +kernel
theorem d_Text_rowsOrWrongPlace_6 : decode b_Text_rowsOrWrongPlace 6 = .ok (.istore_n 1, 1) := by decide +kernel
theorem d_Text_rowsOrWrongPlace_7 : decode b_Text_rowsOrWrongPlace 7 = .ok (.iload_n 1, 1) := by decide +kernel
theorem d_Text_rowsOrWrongPlace_8 : decode b_Text_rowsOrWrongPlace 8 = .ok (.bipush 20, 2) := by decide +kernel
theorem d_Text_rowsOrWrongPlace_10 : decode b_Text_rowsOrWrongPlace 10 = .ok (.if_icmp .gt 29, 3) := by decide +kernel
theorem d_Text_rowsOrWrongPlace_13 : decode b_Text_rowsOrWrongPlace 13 = .ok (.aload_n 0, 1) := by decide +kernel
theorem d_Text_rowsOrWrongPlace_14 : decode b_Text_rowsOrWrongPlace 14 = .ok (.invokevirtual 22, 3) := by decide +kernel
theorem d_Text_rowsOrWrongPlace_17 : decode b_Text_rowsOrWrongPlace 17 = .ok (.ifCond .eq 22, 3) := by decide +kernel
theorem d_Text_rowsOrWrongPlace_20 : decode b_Text_rowsOrWrongPlace 20 = .ok (.aload_n 0, 1) := by decide +kernel
theorem d_Text_rowsOrWrongPlace_21 : decode b_Text_rowsOrWrongPlace 21 = .ok (.getfield 19, 3) := by decide +kernel
theorem d_Text_rowsOrWrongPlace_24 : decode b_Text_rowsOrWrongPlace 24 = .ok (.aload_n 0, 1) := by decide +kernel
theorem d_Text_rowsOrWrongPlace_25 : decode b_Text_rowsOrWrongPlace 25 = .ok (.getfield 15, 3) := by decide +kernel
theorem d_Text_rowsOrWrongPlace_28 : decode b_Text_rowsOrWrongPlace 28 = .ok (.if_icmp .ne 5, 3) := by decide +kernel
theorem d_Text_rowsOrWrongPlace_31 : decode b_Text_rowsOrWrongPlace 31 = .ok (.iload_n 1, 1) := by decide +kernel
theorem d_Text_rowsOrWrongPlace_32 : decode b_Text_rowsOrWrongPlace 32 = .ok (.ireturn, 1) := by decide +kernel
theorem d_Text_rowsOrWrongPlace_33 : decode b_Text_rowsOrWrongPlace 33 = .ok (.iinc 1 1, 3) := by decide +kernel
theorem d_Text_rowsOrWrongPlace_36 : decode b_Text_rowsOrWrongPlace 36 = .ok (.goto (-29), 3) := by decide +kernel
theorem d_Text_rowsOrWrongPlace_39 : decode b_Text_rowsOrWrongPlace 39 = .ok (.iconst (-1), 1) := by decide +kernel
theorem d_Text_rowsOrWrongPlace_40 : decode b_Text_rowsOrWrongPlace 40 = .ok (.aload_n 0, 1) := by decide +kernel
theorem d_Text_rowsOrWrongPlace_41 : decode b_Text_rowsOrWrongPlace 41 = .ok (.getfield 19, 3) := by decide +kernel
theorem d_Text_rowsOrWrongPlace_44 : decode b_Text_rowsOrWrongPlace 44 = .ok (.isub, 1) := by decide +kernel
theorem d_Text_rowsOrWrongPlace_45 : decode b_Text_rowsOrWrongPlace 45 = .ok (.ireturn, 1) := by decide +kernel
theorem d_Text_passesRow_0 : decode b_Text_passesRow 0 = .ok (.aload_n 0, 1) := by decide +kernel
theorem d_Text_passesRow_1 : decode b_Text_passesRow 1 = .ok (.bipush 6, 2) := by decide +kernel
theorem d_Text_passesRow_3 : decode b_Text_passesRow 3 = .ok (.ldc 26, 2) := by decide +kernel
theorem d_Text_passesRow_5 : decode b_Text_passesRow 5 = .ok (.invokevirtual 27, 3) := by decide +kernel
theorem d_Text_passesRow_8 : decode b_Text_passesRow 8 = .ok (.ifCond .eq 23, 3) := by decide +kernel
theorem d_Text_passesRow_11 : decode b_Text_passesRow 11 = .ok (.aload_n 0, 1) := by decide +kernel
theorem d_Text_passesRow_12 : decode b_Text_passesRow 12 = .ok (.bipush 58, 2) := by decide +kernel
theorem d_Text_passesRow_14 : decode b_Text_passesRow 14 = .ok (.invokevirtual 31, 3) := by decide +kernel
theorem d_Text_passesRow_17 : decode b_Text_passesRow 17 = .ok (.ifCond .eq 14, 3) := by decide +kernel
theorem d_Text_passesRow_20 : decode b_Text_passesRow 20 = .ok (.aload_n 0, 1) := by decide +kernel
theorem d_Text_passesRow_21 : decode b_Text_passesRow 21 = .ok (.invokevirtual 35, 3) := by decide +kernel
theorem d_Text_passesRow_24 : decode b_Text_passesRow 24 = .ok (.ifCond .eq 7, 3) := by decide +kernel
theorem d_Text_passesRow_27 : decode b_Text_passesRow 27 = .ok (.iconst 1, 1) := by decide +kernel
theorem d_Text_passesRow_28 : decode b_Text_passesRow 28 = .ok (.goto 4, 3) := by decide +kernel
theorem d_Text_passesRow_31 : decode b_Text_passesRow 31 = .ok (.iconst 0, 1) := by decide +kernel
theorem d_Text_passesRow_32 : decode b_Text_passesRow 32 = .ok (.ireturn, 1) := by decide +kernel
theorem d_Text_passesRule_0 : decode b_Text_passesRule 0 = .ok (.iconst 0, 1) := by decide +kernel
theorem d_Text_passesRule_1 : decode b_Text_passesRule 1 = .ok (.istore_n 1, 1) := by decide +kernel
theorem d_Text_passesRule_2 : decode b_Text_passesRule 2 = .ok (.iconst 0, 1) := by decide +kernel
theorem d_Text_passesRule_3 : decode b_Text_passesRule 3 = .ok (.istore_n 2, 1) := by decide +kernel
theorem d_Text_passesRule_4 : decode b_Text_passesRule 4 = .ok (.iload_n 2, 1) := by decide +kernel
theorem d_Text_passesRule_5 : decode b_Text_passesRule 5 = .ok (.aload_n 0, 1) := by decide +kernel
theorem d_Text_passesRule_6 : decode b_Text_passesRule 6 = .ok (.getfield 15, 3) := by decide +kernel
theorem d_Text_passesRule_9 : decode b_Text_passesRule 9 = .ok (.if_icmp .ge 93, 3) := by decide +kernel
theorem d_Text_passesRule_12 : decode b_Text_passesRule 12 = .ok (.iload_n 1, 1) := by decide +kernel
theorem d_Text_passesRule_13 : decode b_Text_passesRule 13 = .ok (.bipush 8, 2) := by decide +kernel
theorem d_Text_passesRule_15 : decode b_Text_passesRule 15 = .ok (.if_icmp .ge 18, 3) := by decide +kernel
theorem d_Text_passesRule_18 : decode b_Text_passesRule 18 = .ok (.aload_n 0, 1) := by decide +kernel
theorem d_Text_passesRule_19 : decode b_Text_passesRule 19 = .ok (.bipush 40, 2) := by decide +kernel
theorem d_Text_passesRule_21 : decode b_Text_passesRule 21 = .ok (.invokevirtual 31, 3) := by decide +kernel
theorem d_Text_passesRule_24 : decode b_Text_passesRule 24 = .ok (.ifCond .eq 9, 3) := by decide +kernel
theorem d_Text_passesRule_27 : decode b_Text_passesRule 27 = .ok (.iinc 1 1, 3) := by decide +kernel
theorem d_Text_passesRule_30 : decode b_Text_passesRule 30 = .ok (.goto (-18), 3) := by decide +kernel
theorem d_Text_passesRule_33 : decode b_Text_passesRule 33 = .ok (.aload_n 0, 1) := by decide +kernel
theorem d_Text_passesRule_34 : decode b_Text_passesRule 34 = .ok (.invokevirtual 38, 3) := by decide +kernel
theorem d_Text_passesRule_37 : decode b_Text_passesRule 37 = .ok (.ifCond .ne 5, 3) := by decide +kernel
theorem d_Text_passesRule_40 : decode b_Text_passesRule 40 = .ok (.iconst 0, 1) := by decide +kernel
theorem d_Text_passesRule_41 : decode b_Text_passesRule 41 = .ok (.ireturn, 1) := by decide +kernel
theorem d_Text_passesRule_42 : decode b_Text_passesRule 42 = .ok (.iload_n 1, 1) := by decide +kernel
theorem d_Text_passesRule_43 : decode b_Text_passesRule 43 = .ok (.ifCond .le 18, 3) := by decide +kernel
theorem d_Text_passesRule_46 : decode b_Text_passesRule 46 = .ok (.aload_n 0, 1) := by decide +kernel
theorem d_Text_passesRule_47 : decode b_Text_passesRule 47 = .ok (.bipush 41, 2) := by decide +kernel
theorem d_Text_passesRule_49 : decode b_Text_passesRule 49 = .ok (.invokevirtual 31, 3) := by decide +kernel
theorem d_Text_passesRule_52 : decode b_Text_passesRule 52 = .ok (.ifCond .eq 9, 3) := by decide +kernel
theorem d_Text_passesRule_55 : decode b_Text_passesRule 55 = .ok (.iinc 1 (-1), 3) := by decide +kernel
theorem d_Text_passesRule_58 : decode b_Text_passesRule 58 = .ok (.goto (-16), 3) := by decide +kernel
theorem d_Text_passesRule_61 : decode b_Text_passesRule 61 = .ok (.iload_n 1, 1) := by decide +kernel
theorem d_Text_passesRule_62 : decode b_Text_passesRule 62 = .ok (.ifCond .ne 14, 3) := by decide +kernel
theorem d_Text_passesRule_65 : decode b_Text_passesRule 65 = .ok (.aload_n 0, 1) := by decide +kernel
theorem d_Text_passesRule_66 : decode b_Text_passesRule 66 = .ok (.bipush 59, 2) := by decide +kernel
theorem d_Text_passesRule_68 : decode b_Text_passesRule 68 = .ok (.invokevirtual 31, 3) := by decide +kernel
theorem d_Text_passesRule_71 : decode b_Text_passesRule 71 = .ok (.ifCond .eq 5, 3) := by decide +kernel
theorem d_Text_passesRule_74 : decode b_Text_passesRule 74 = .ok (.iconst 1, 1) := by decide +kernel
theorem d_Text_passesRule_75 : decode b_Text_passesRule 75 = .ok (.ireturn, 1) := by decide +kernel
theorem d_Text_passesRule_76 : decode b_Text_passesRule 76 = .ok (.aload_n 0, 1) := by decide +kernel
theorem d_Text_passesRule_77 : decode b_Text_passesRule 77 = .ok (.bipush 38, 2) := by decide +kernel
theorem d_Text_passesRule_79 : decode b_Text_passesRule 79 = .ok (.invokevirtual 31, 3) := by decide +kernel
theorem d_Text_passesRule_82 : decode b_Text_passesRule 82 = .ok (.ifCond .ne 14, 3) := by decide +kernel
theorem d_Text_passesRule_85 : decode b_Text_passesRule 85 = .ok (.aload_n 0, 1) := by decide +kernel
theorem d_Text_passesRule_86 : decode b_Text_passesRule 86 = .ok (.bipush 124, 2) := by decide +kernel
theorem d_Text_passesRule_88 : decode b_Text_passesRule 88 = .ok (.invokevirtual 31, 3) := by decide +kernel
theorem d_Text_passesRule_91 : decode b_Text_passesRule 91 = .ok (.ifCond .ne 5, 3) := by decide +kernel
theorem d_Text_passesRule_94 : decode b_Text_passesRule 94 = .ok (.iconst 0, 1) := by decide +kernel
theorem d_Text_passesRule_95 : decode b_Text_passesRule 95 = .ok (.ireturn, 1) := by decide +kernel
theorem d_Text_passesRule_96 : decode b_Text_passesRule 96 = .ok (.iinc 2 1, 3) := by decide +kernel
theorem d_Text_passesRule_99 : decode b_Text_passesRule 99 = .ok (.goto (-95), 3) := by decide +kernel
theorem d_Text_passesRule_102 : decode b_Text_passesRule 102 = .ok (.iconst 0, 1) := by decide +kernel
theorem d_Text_passesRule_103 : decode b_Text_passesRule 103 = .ok (.ireturn, 1) := by decide +kernel
theorem d_Text_passesFactor_0 : decode b_Text_passesFactor 0 = .ok (.aload_n 0, 1) := by decide +kernel
theorem d_Text_passesFactor_1 : decode b_Text_passesFactor 1 = .ok (.bipush 86, 2) := by decide +kernel
theorem d_Text_passesFactor_3 : decode b_Text_passesFactor 3 = .ok (.invokevirtual 31, 3) := by decide +kernel
theorem d_Text_passesFactor_6 : decode b_Text_passesFactor 6 = .ok (.ifCond .eq 11, 3) := by decide +kernel
theorem d_Text_passesFactor_9 : decode b_Text_passesFactor 9 = .ok (.aload_n 0, 1) := by decide +kernel
theorem d_Text_passesFactor_10 : decode b_Text_passesFactor 10 = .ok (.iconst 3, 1) := by decide +kernel
theorem d_Text_passesFactor_11 : decode b_Text_passesFactor 11 = .ok (.bipush 100, 2) := by decide +kernel
theorem d_Text_passesFactor_13 : decode b_Text_passesFactor 13 = .ok (.invokevirtual 27, 3) := by decide +kernel
theorem d_Text_passesFactor_16 : decode b_Text_passesFactor 16 = .ok (.ireturn, 1) := by decide +kernel
theorem d_Text_passesFactor_17 : decode b_Text_passesFactor 17 = .ok (.aload_n 0, 1) := by decide +kernel
theorem d_Text_passesFactor_18 : decode b_Text_passesFactor 18 = .ok (.bipush 80, 2) := by decide +kernel
theorem d_Text_passesFactor_20 : decode b_Text_passesFactor 20 = .ok (.invokevirtual 31, 3) := by decide +kernel
theorem d_Text_passesFactor_23 : decode b_Text_passesFactor 23 = .ok (.ifCond .eq 11, 3) := by decide +kernel
theorem d_Text_passesFactor_26 : decode b_Text_passesFactor 26 = .ok (.aload_n 0, 1) := by decide +kernel
theorem d_Text_passesFactor_27 : decode b_Text_passesFactor 27 = .ok (.iconst 2, 1) := by decide +kernel
theorem d_Text_passesFactor_28 : decode b_Text_passesFactor 28 = .ok (.bipush 15, 2) := by decide +kernel
theorem d_Text_passesFactor_30 : decode b_Text_passesFactor 30 = .ok (.invokevirtual 27, 3) := by decide +kernel
theorem d_Text_passesFactor_33 : decode b_Text_passesFactor 33 = .ok (.ireturn, 1) := by decide +kernel
theorem d_Text_passesFactor_34 : decode b_Text_passesFactor 34 = .ok (.aload_n 0, 1) := by decide +kernel
theorem d_Text_passesFactor_35 : decode b_Text_passesFactor 35 = .ok (.bipush 87, 2) := by decide +kernel
theorem d_Text_passesFactor_37 : decode b_Text_passesFactor 37 = .ok (.invokevirtual 31, 3) := by decide +kernel
theorem d_Text_passesFactor_40 : decode b_Text_passesFactor 40 = .ok (.ifCond .ne 30, 3) := by decide +kernel
theorem d_Text_passesFactor_43 : decode b_Text_passesFactor 43 = .ok (.aload_n 0, 1) := by decide +kernel
theorem d_Text_passesFactor_44 : decode b_Text_passesFactor 44 = .ok (.bipush 67, 2) := by decide +kernel
theorem d_Text_passesFactor_46 : decode b_Text_passesFactor 46 = .ok (.invokevirtual 31, 3) := by decide +kernel
theorem d_Text_passesFactor_49 : decode b_Text_passesFactor 49 = .ok (.ifCond .ne 21, 3) := by decide +kernel
theorem d_Text_passesFactor_52 : decode b_Text_passesFactor 52 = .ok (.aload_n 0, 1) := by decide +kernel
theorem d_Text_passesFactor_53 : decode b_Text_passesFactor 53 = .ok (.bipush 72, 2) := by decide +kernel
theorem d_Text_passesFactor_55 : decode b_Text_passesFactor 55 = .ok (.invokevirtual 31, 3) := by decide +kernel
theorem d_Text_passesFactor_58 : decode b_Text_passesFactor 58 = .ok (.ifCond .ne 12, 3) := by decide +kernel
theorem d_Text_passesFactor_61 : decode b_Text_passesFactor 61 = .ok (.aload_n 0, 1) := by decide +kernel
theorem d_Text_passesFactor_62 : decode b_Text_passesFactor 62 = .ok (.bipush 83, 2) := by decide +kernel
theorem d_Text_passesFactor_64 : decode b_Text_passesFactor 64 = .ok (.invokevirtual 31, 3) := by decide +kernel
theorem d_Text_passesFactor_67 : decode b_Text_passesFactor 67 = .ok (.ifCond .eq 7, 3) := by decide +kernel
theorem d_Text_passesFactor_70 : decode b_Text_passesFactor 70 = .ok (.iconst 1, 1) := by decide +kernel
theorem d_Text_passesFactor_71 : decode b_Text_passesFactor 71 = .ok (.goto 4, 3) := by decide +kernel
theorem d_Text_passesFactor_74 : decode b_Text_passesFactor 74 = .ok (.iconst 0, 1) := by decide +kernel
theorem d_Text_passesFactor_75 : decode b_Text_passesFactor 75 = .ok (.ireturn, 1) := by decide +kernel
theorem d_Text_passesDigits_0 : decode b_Text_passesDigits 0 = .ok (.iconst 0, 1) := by decide +kernel
theorem d_Text_passesDigits_1 : decode b_Text_passesDigits 1 = .ok (.istore_n 3, 1) := by decide +kernel
theorem d_Text_passesDigits_2 : decode b_Text_passesDigits 2 = .ok (.iconst 0, 1) := by decide +kernel
theorem d_Text_passesDigits_3 : decode b_Text_passesDigits 3 = .ok (.istore 4, 2) := by decide +kernel
theorem d_Text_passesDigits_5 : decode b_Text_passesDigits 5 = .ok (.iload_n 3, 1) := by decide +kernel
theorem d_Text_passesDigits_6 : decode b_Text_passesDigits 6 = .ok (.iload_n 1, 1) := by decide +kernel
theorem d_Text_passesDigits_7 : decode b_Text_passesDigits 7 = .ok (.if_icmp .ge 65, 3) := by decide +kernel
theorem d_Text_passesDigits_10 : decode b_Text_passesDigits 10 = .ok (.aload_n 0, 1) := by decide +kernel
theorem d_Text_passesDigits_11 : decode b_Text_passesDigits 11 = .ok (.getfield 19, 3) := by decide +kernel
theorem d_Text_passesDigits_14 : decode b_Text_passesDigits 14 = .ok (.aload_n 0, 1) := by decide +kernel
theorem d_Text_passesDigits_15 : decode b_Text_passesDigits 15 = .ok (.getfield 15, 3) := by decide +kernel
theorem d_Text_passesDigits_18 : decode b_Text_passesDigits 18 = .ok (.if_icmp .ge 54, 3) := by decide +kernel
theorem d_Text_passesDigits_21 : decode b_Text_passesDigits 21 = .ok (.aload_n 0, 1) := by decide +kernel
theorem d_Text_passesDigits_22 : decode b_Text_passesDigits 22 = .ok (.getfield 9, 3) := by decide +kernel
theorem d_Text_passesDigits_25 : decode b_Text_passesDigits 25 = .ok (.aload_n 0, 1) := by decide +kernel
theorem d_Text_passesDigits_26 : decode b_Text_passesDigits 26 = .ok (.getfield 19, 3) := by decide +kernel
theorem d_Text_passesDigits_29 : decode b_Text_passesDigits 29 = .ok (.caload, 1) := by decide +kernel
theorem d_Text_passesDigits_30 : decode b_Text_passesDigits 30 = .ok (.invokestatic 41, 3) := by decide +kernel
theorem d_Text_passesDigits_33 : decode b_Text_passesDigits 33 = .ok (.ifCond .eq 39, 3) := by decide +kernel
theorem d_Text_passesDigits_36 : decode b_Text_passesDigits 36 = .ok (.iload 4, 2) := by decide +kernel
theorem d_Text_passesDigits_38 : decode b_Text_passesDigits 38 = .ok (.bipush 10, 2) := by decide +kernel
theorem d_Text_passesDigits_40 : decode b_Text_passesDigits 40 = .ok (.imul, 1) := by decide +kernel
theorem d_Text_passesDigits_41 : decode b_Text_passesDigits 41 = .ok (.aload_n 0, 1) := by decide +kernel
theorem d_Text_passesDigits_42 : decode b_Text_passesDigits 42 = .ok (.getfield 9, 3) := by decide +kernel
theorem d_Text_passesDigits_45 : decode b_Text_passesDigits 45 = .ok (.aload_n 0, 1) := by decide +kernel
theorem d_Text_passesDigits_46 : decode b_Text_passesDigits 46 = .ok (.getfield 19, 3) := by decide +kernel
theorem d_Text_passesDigits_49 : decode b_Text_passesDigits 49 = .ok (.caload, 1) := by decide +kernel
theorem d_Text_passesDigits_50 : decode b_Text_passesDigits 50 = .ok (.bipush 48, 2) := by decide +kernel
theorem d_Text_passesDigits_52 : decode b_Text_passesDigits 52 = .ok (.isub, 1) := by decide +kernel
theorem d_Text_passesDigits_53 : decode b_Text_passesDigits 53 = .ok (.iadd, 1) := by decide +kernel
theorem d_Text_passesDigits_54 : decode b_Text_passesDigits 54 = .ok (.istore 4, 2) := by decide +kernel
theorem d_Text_passesDigits_56 : decode b_Text_passesDigits 56 = .ok (.iinc 3 1, 3) := by decide +kernel
theorem d_Text_passesDigits_59 : decode b_Text_passesDigits 59 = .ok (.aload_n 0, 1) := by decide +kernel
theorem d_Text_passesDigits_60 : decode b_Text_passesDigits 60 = .ok (.dup, 1) := by decide +kernel
theorem d_Text_passesDigits_61 : decode b_Text_passesDigits 61 = .ok (.getfield 19, 3) := by decide +kernel
theorem d_Text_passesDigits_64 : decode b_Text_passesDigits 64 = .ok (.iconst 1, 1) := by decide +kernel
theorem d_Text_passesDigits_65 : decode b_Text_passesDigits 65 = .ok (.iadd, 1) := by decide +kernel
theorem d_Text_passesDigits_66 : decode b_Text_passesDigits 66 = .ok (.putfield 19, 3) := by decide +kernel
theorem d_Text_passesDigits_69 : decode b_Text_passesDigits 69 = .ok (.goto (-64), 3) := by decide +kernel
theorem d_Text_passesDigits_72 : decode b_Text_passesDigits 72 = .ok (.iload_n 3, 1) := by decide +kernel
theorem d_Text_passesDigits_73 : decode b_Text_passesDigits 73 = .ok (.ifCond .le 13, 3) := by decide +kernel
theorem d_Text_passesDigits_76 : decode b_Text_passesDigits 76 = .ok (.iload 4, 2) := by decide +kernel
theorem d_Text_passesDigits_78 : decode b_Text_passesDigits 78 = .ok (.iload_n 2, 1) := by decide +kernel
theorem d_Text_passesDigits_79 : decode b_Text_passesDigits 79 = .ok (.if_icmp .gt 7, 3) := by decide +kernel
theorem d_Text_passesDigits_82 : decode b_Text_passesDigits 82 = .ok (.iconst 1, 1) := by decide +kernel
theorem d_Text_passesDigits_83 : decode b_Text_passesDigits 83 = .ok (.goto 4, 3) := by decide +kernel
theorem d_Text_passesDigits_86 : decode b_Text_passesDigits 86 = .ok (.iconst 0, 1) := by decide +kernel
theorem d_Text_passesDigits_87 : decode b_Text_passesDigits 87 = .ok (.ireturn, 1) := by decide +kernel
theorem d_Text_passesSign_0 : decode b_Text_passesSign 0 = .ok (.aload_n 0, 1) := by decide +kernel
theorem d_Text_passesSign_1 : decode b_Text_passesSign 1 = .ok (.getfield 19, 3) := by decide +kernel
theorem d_Text_passesSign_4 : decode b_Text_passesSign 4 = .ok (.aload_n 0, 1) := by decide +kernel
theorem d_Text_passesSign_5 : decode b_Text_passesSign 5 = .ok (.getfield 15, 3) := by decide +kernel
theorem d_Text_passesSign_8 : decode b_Text_passesSign 8 = .ok (.if_icmp .ge 16, 3) := by decide +kernel
theorem d_Text_passesSign_11 : decode b_Text_passesSign 11 = .ok (.aload_n 0, 1) := by decide +kernel
theorem d_Text_passesSign_12 : decode b_Text_passesSign 12 = .ok (.getfield 9, 3) := by decide +kernel
theorem d_Text_passesSign_15 : decode b_Text_passesSign 15 = .ok (.aload_n 0, 1) := by decide +kernel
theorem d_Text_passesSign_16 : decode b_Text_passesSign 16 = .ok (.getfield 19, 3) := by decide +kernel
theorem d_Text_passesSign_19 : decode b_Text_passesSign 19 = .ok (.caload, 1) := by decide +kernel
theorem d_Text_passesSign_20 : decode b_Text_passesSign 20 = .ok (.iload_n 1, 1) := by decide +kernel
theorem d_Text_passesSign_21 : decode b_Text_passesSign 21 = .ok (.if_icmp .eq 5, 3) := by decide +kernel
theorem d_Text_passesSign_24 : decode b_Text_passesSign 24 = .ok (.iconst 0, 1) := by decide +kernel
theorem d_Text_passesSign_25 : decode b_Text_passesSign 25 = .ok (.ireturn, 1) := by decide +kernel
theorem d_Text_passesSign_26 : decode b_Text_passesSign 26 = .ok (.aload_n 0, 1) := by decide +kernel
theorem d_Text_passesSign_27 : decode b_Text_passesSign 27 = .ok (.dup, 1) := by decide +kernel
theorem d_Text_passesSign_28 : decode b_Text_passesSign 28 = .ok (.getfield 19, 3) := by decide +kernel
theorem d_Text_passesSign_31 : decode b_Text_passesSign 31 = .ok (.iconst 1, 1) := by decide +kernel
theorem d_Text_passesSign_32 : decode b_Text_passesSign 32 = .ok (.iadd, 1) := by decide +kernel
theorem d_Text_passesSign_33 : decode b_Text_passesSign 33 = .ok (.putfield 19, 3) := by decide +kernel
theorem d_Text_passesSign_36 : decode b_Text_passesSign 36 = .ok (.iconst 1, 1) := by decide +kernel
theorem d_Text_passesSign_37 : decode b_Text_passesSign 37 = .ok (.ireturn, 1) := by decide +kernel
theorem d_Rows_init_0 : decode b_Rows_init 0 = .ok (.aload_n 0, 1) := by decide +kernel
theorem d_Rows_init_1 : decode b_Rows_init 1 = .ok (.invokespecial 3, 3) := by decide +kernel
theorem d_Rows_init_4 : decode b_Rows_init 4 = .ok (.aload_n 0, 1) := by decide +kernel
theorem d_Rows_init_5 : decode b_Rows_init 5 = .ok (.sipush 300, 3) := by decide +kernel
theorem d_Rows_init_8 : decode b_Rows_init 8 = .ok (.newarray .char, 2) := by decide +kernel
theorem d_Rows_init_10 : decode b_Rows_init 10 = .ok (.putfield 9, 3) := by decide +kernel
theorem d_Rows_init_13 : decode b_Rows_init 13 = .ok (.aload_n 0, 1) := by decide +kernel
theorem d_Rows_init_14 : decode b_Rows_init 14 = .ok (.iconst 0, 1) := by decide +kernel
theorem d_Rows_init_15 : decode b_Rows_init 15 = .ok (.putfield 15, 3) := by decide +kernel
theorem d_Rows_init_18 : decode b_Rows_init 18 = .ok (.aload_n 0, 1) := by decide +kernel
theorem d_Rows_init_19 : decode b_Rows_init 19 = .ok (.iconst 0, 1) := by decide +kernel
theorem d_Rows_init_20 : decode b_Rows_init 20 = .ok (.putfield 19, 3) := by decide +kernel
theorem d_Rows_init_23 : decode b_Rows_init 23 = .ok (.return_, 1) := by decide +kernel
theorem d_Rows_replace_0 : decode b_Rows_replace 0 = .ok (.aload_n 1, 1) := by decide +kernel
theorem d_Rows_replace_1 : decode b_Rows_replace 1 = .ok (.iconst 0, 1) := by decide +kernel
theorem d_Rows_replace_2 : decode b_Rows_replace 2 = .ok (.aload_n 0, 1) := by decide +kernel
theorem d_Rows_replace_3 : decode b_Rows_replace 3 = .ok (.getfield 9, 3) := by decide +kernel
theorem d_Rows_replace_6 : decode b_Rows_replace 6 = .ok (.iconst 0, 1) := by decide +kernel
theorem d_Rows_replace_7 : decode b_Rows_replace 7 = .ok (.iload_n 2, 1) := by decide +kernel
theorem d_Rows_replace_8 : decode b_Rows_replace 8 = .ok (.invokestatic 22, 3) := by decide +kernel
theorem d_Rows_replace_11 : decode b_Rows_replace 11 = .ok (.aload_n 0, 1) := by decide +kernel
theorem d_Rows_replace_12 : decode b_Rows_replace 12 = .ok (.iload_n 2, 1) := by decide +kernel
theorem d_Rows_replace_13 : decode b_Rows_replace 13 = .ok (.putfield 15, 3) := by decide +kernel
theorem d_Rows_replace_16 : decode b_Rows_replace 16 = .ok (.aload_n 0, 1) := by decide +kernel
theorem d_Rows_replace_17 : decode b_Rows_replace 17 = .ok (.iload_n 3, 1) := by decide +kernel
theorem d_Rows_replace_18 : decode b_Rows_replace 18 = .ok (.putfield 19, 3) := by decide +kernel
theorem d_Rows_replace_21 : decode b_Rows_replace 21 = .ok (.return_, 1) := by decide +kernel
theorem d_Rows_startFor_0 : decode b_Rows_startFor 0 = .ok (.iconst (-1), 1) := by decide +kernel
theorem d_Rows_startFor_1 : decode b_Rows_startFor 1 = .ok (.istore_n 2, 1) := by decide +kernel
theorem d_Rows_startFor_2 : decode b_Rows_startFor 2 = .ok (.iconst 0, 1) := by decide +kernel
theorem d_Rows_startFor_3 : decode b_Rows_startFor 3 = .ok (.istore_n 3, 1) := by decide +kernel
theorem d_Rows_startFor_4 : decode b_Rows_startFor 4 = .ok (.iconst 0, 1) := by decide +kernel
theorem d_Rows_startFor_5 : decode b_Rows_startFor 5 = .ok (.istore 4, 2) := by decide +kernel
theorem d_Rows_startFor_7 : decode b_Rows_startFor 7 = .ok (.iconst 0, 1) := by decide +kernel
theorem d_Rows_startFor_8 : decode b_Rows_startFor 8 = .ok (.istore 5, 2) := by decide +kernel
theorem d_Rows_startFor_10 : decode b_Rows_startFor 10 = .ok (.iload 5, 2) := by decide +kernel
theorem d_Rows_startFor_12 : decode b_Rows_startFor 12 = .ok (.aload_n 0, 1) := by decide +kernel
theorem d_Rows_startFor_13 : decode b_Rows_startFor 13 = .ok (.getfield 15, 3) := by decide +kernel
theorem d_Rows_startFor_16 : decode b_Rows_startFor 16 = .ok (.if_icmp .ge 76, 3) := by decide +kernel
theorem d_Rows_startFor_19 : decode b_Rows_startFor 19 = .ok (.iload 5, 2) := by decide +kernel
theorem d_Rows_startFor_21 : decode b_Rows_startFor 21 = .ok (.iload 4, 2) := by decide +kernel
theorem d_Rows_startFor_23 : decode b_Rows_startFor 23 = .ok (.isub, 1) := by decide +kernel
theorem d_Rows_startFor_24 : decode b_Rows_startFor 24 = .ok (.istore 6, 2) := by decide +kernel
theorem d_Rows_startFor_26 : decode b_Rows_startFor 26 = .ok (.aload_n 0, 1) := by decide +kernel
theorem d_Rows_startFor_27 : decode b_Rows_startFor 27 = .ok (.getfield 9, 3) := by decide +kernel
theorem d_Rows_startFor_30 : decode b_Rows_startFor 30 = .ok (.iload 5, 2) := by decide +kernel
theorem d_Rows_startFor_32 : decode b_Rows_startFor 32 = .ok (.caload, 1) := by decide +kernel
theorem d_Rows_startFor_33 : decode b_Rows_startFor 33 = .ok (.bipush 59, 2) := by decide +kernel
theorem d_Rows_startFor_35 : decode b_Rows_startFor 35 = .ok (.if_icmp .ne 12, 3) := by decide +kernel
theorem d_Rows_startFor_38 : decode b_Rows_startFor 38 = .ok (.iload 5, 2) := by decide +kernel
theorem d_Rows_startFor_40 : decode b_Rows_startFor 40 = .ok (.iconst 1, 1) := by decide +kernel
theorem d_Rows_startFor_41 : decode b_Rows_startFor 41 = .ok (.iadd, 1) := by decide +kernel
theorem d_Rows_startFor_42 : decode b_Rows_startFor 42 = .ok (.istore 4, 2) := by decide +kernel
theorem d_Rows_startFor_44 : decode b_Rows_startFor 44 = .ok (.goto 42, 3) := by decide +kernel
theorem d_Rows_startFor_47 : decode b_Rows_startFor 47 = .ok (.aload_n 0, 1) := by decide +kernel
theorem d_Rows_startFor_48 : decode b_Rows_startFor 48 = .ok (.getfield 9, 3) := by decide +kernel
theorem d_Rows_startFor_51 : decode b_Rows_startFor 51 = .ok (.iload 5, 2) := by decide +kernel
theorem d_Rows_startFor_53 : decode b_Rows_startFor 53 = .ok (.caload, 1) := by decide +kernel
theorem d_Rows_startFor_54 : decode b_Rows_startFor 54 = .ok (.bipush 58, 2) := by decide +kernel
theorem d_Rows_startFor_56 : decode b_Rows_startFor 56 = .ok (.if_icmp .ne 30, 3) := by decide +kernel
theorem d_Rows_startFor_59 : decode b_Rows_startFor 59 = .ok (.iload 6, 2) := by decide +kernel
theorem d_Rows_startFor_61 : decode b_Rows_startFor 61 = .ok (.iload_n 3, 1) := by decide +kernel
theorem d_Rows_startFor_62 : decode b_Rows_startFor 62 = .ok (.if_icmp .lt 24, 3) := by decide +kernel
theorem d_Rows_startFor_65 : decode b_Rows_startFor 65 = .ok (.iload_n 1, 1) := by decide +kernel
theorem d_Rows_startFor_66 : decode b_Rows_startFor 66 = .ok (.iload 6, 2) := by decide +kernel
theorem d_Rows_startFor_68 : decode b_Rows_startFor 68 = .ok (.invokestatic 28, 3) := by decide +kernel
theorem d_Rows_startFor_71 : decode b_Rows_startFor 71 = .ok (.aload_n 0, 1) := by decide +kernel
theorem d_Rows_startFor_72 : decode b_Rows_startFor 72 = .ok (.iload 4, 2) := by decide +kernel
theorem d_Rows_startFor_74 : decode b_Rows_startFor 74 = .ok (.invokevirtual 32, 3) := by decide +kernel
theorem d_Rows_startFor_77 : decode b_Rows_startFor 77 = .ok (.if_icmp .ne 9, 3) := by decide +kernel
theorem d_Rows_startFor_80 : decode b_Rows_startFor 80 = .ok (.iload 4, 2) := by decide +kernel
theorem d_Rows_startFor_82 : decode b_Rows_startFor 82 = .ok (.istore_n 2, 1) := by decide +kernel
theorem d_Rows_startFor_83 : decode b_Rows_startFor 83 = .ok (.iload 6, 2) := by decide +kernel
theorem d_Rows_startFor_85 : decode b_Rows_startFor 85 = .ok (.istore_n 3, 1) := by decide +kernel
theorem d_Rows_startFor_86 : decode b_Rows_startFor 86 = .ok (.iinc 5 1, 3) := by decide +kernel
theorem d_Rows_startFor_89 : decode b_Rows_startFor 89 = .ok (.goto (-79), 3) := by decide +kernel
theorem d_Rows_startFor_92 : decode b_Rows_startFor 92 = .ok (.iload_n 2, 1) := by decide +kernel
theorem d_Rows_startFor_93 : decode b_Rows_startFor 93 = .ok (.ireturn, 1) := by decide +kernel
theorem d_Rows_numberAt_0 : decode b_Rows_numberAt 0 = .ok (.iconst 0, 1) := by decide +kernel
theorem d_Rows_numberAt_1 : decode b_Rows_numberAt 1 = .ok (.istore_n 2, 1) := by decide +kernel
theorem d_Rows_numberAt_2 : decode b_Rows_numberAt 2 = .ok (.iload_n 1, 1) := by decide +kernel
theorem d_Rows_numberAt_3 : decode b_Rows_numberAt 3 = .ok (.istore_n 3, 1) := by decide +kernel
theorem d_Rows_numberAt_4 : decode b_Rows_numberAt 4 = .ok (.iload_n 3, 1) := by decide +kernel
theorem d_Rows_numberAt_5 : decode b_Rows_numberAt 5 = .ok (.aload_n 0, 1) := by decide +kernel
theorem d_Rows_numberAt_6 : decode b_Rows_numberAt 6 = .ok (.getfield 15, 3) := by decide +kernel
theorem d_Rows_numberAt_9 : decode b_Rows_numberAt 9 = .ok (.if_icmp .ge 36, 3) := by decide +kernel
theorem d_Rows_numberAt_12 : decode b_Rows_numberAt 12 = .ok (.aload_n 0, 1) := by decide +kernel
theorem d_Rows_numberAt_13 : decode b_Rows_numberAt 13 = .ok (.getfield 9, 3) := by decide +kernel
theorem d_Rows_numberAt_16 : decode b_Rows_numberAt 16 = .ok (.iload_n 3, 1) := by decide +kernel
theorem d_Rows_numberAt_17 : decode b_Rows_numberAt 17 = .ok (.caload, 1) := by decide +kernel
theorem d_Rows_numberAt_18 : decode b_Rows_numberAt 18 = .ok (.invokestatic 36, 3) := by decide +kernel
theorem d_Rows_numberAt_21 : decode b_Rows_numberAt 21 = .ok (.ifCond .eq 24, 3) := by decide +kernel
theorem d_Rows_numberAt_24 : decode b_Rows_numberAt 24 = .ok (.iload_n 2, 1) := by decide +kernel
theorem d_Rows_numberAt_25 : decode b_Rows_numberAt 25 = .ok (.bipush 10, 2) := by decide +kernel
theorem d_Rows_numberAt_27 : decode b_Rows_numberAt 27 = .ok (.imul, 1) := by decide +kernel
theorem d_Rows_numberAt_28 : decode b_Rows_numberAt 28 = .ok (.aload_n 0, 1) := by decide +kernel
theorem d_Rows_numberAt_29 : decode b_Rows_numberAt 29 = .ok (.getfield 9, 3) := by decide +kernel
theorem d_Rows_numberAt_32 : decode b_Rows_numberAt 32 = .ok (.iload_n 3, 1) := by decide +kernel
theorem d_Rows_numberAt_33 : decode b_Rows_numberAt 33 = .ok (.caload, 1) := by decide +kernel
theorem d_Rows_numberAt_34 : decode b_Rows_numberAt 34 = .ok (.bipush 48, 2) := by decide +kernel
theorem d_Rows_numberAt_36 : decode b_Rows_numberAt 36 = .ok (.isub, 1) := by decide +kernel
theorem d_Rows_numberAt_37 : decode b_Rows_numberAt 37 = .ok (.iadd, 1) := by decide +kernel
theorem d_Rows_numberAt_38 : decode b_Rows_numberAt 38 = .ok (.istore_n 2, 1) := by decide +kernel
theorem d_Rows_numberAt_39 : decode b_Rows_numberAt 39 = .ok (.iinc 3 1, 3) := by decide +kernel
theorem d_Rows_numberAt_42 : decode b_Rows_numberAt 42 = .ok (.goto (-38), 3) := by decide +kernel
theorem d_Rows_numberAt_45 : decode b_Rows_numberAt 45 = .ok (.iload_n 2, 1) := by decide +kernel
theorem d_Rows_numberAt_46 : decode b_Rows_numberAt 46 = .ok (.ireturn, 1) := by decide +kernel
theorem d_Parts_init_0 : decode b_Parts_init 0 = .ok (.aload_n 0, 1) := by decide +kernel
theorem d_Parts_init_1 : decode b_Parts_init 1 = .ok (.invokespecial 3, 3) := by decide +kernel
theorem d_Parts_init_4 : decode b_Parts_init 4 = .ok (.aload_n 0, 1) := by decide +kernel
theorem d_Parts_init_5 : decode b_Parts_init 5 = .ok (.bipush 12, 2) := by decide +kernel
theorem d_Parts_init_7 : decode b_Parts_init 7 = .ok (.newarray .int, 2) := by decide +kernel
theorem d_Parts_init_9 : decode b_Parts_init 9 = .ok (.putfield 9, 3) := by decide +kernel
theorem d_Parts_init_12 : decode b_Parts_init 12 = .ok (.aload_n 0, 1) := by decide +kernel
theorem d_Parts_init_13 : decode b_Parts_init 13 = .ok (.bipush 12, 2) := by decide +kernel
theorem d_Parts_init_15 : decode b_Parts_init 15 = .ok (.newarray .int, 2) := by decide +kernel
theorem d_Parts_init_17 : decode b_Parts_init 17 = .ok (.putfield 15, 3) := by decide +kernel
theorem d_Parts_init_20 : decode b_Parts_init 20 = .ok (.aload_n 0, 1) := by decide +kernel
theorem d_Parts_init_21 : decode b_Parts_init 21 = .ok (.bipush 12, 2) := by decide +kernel
theorem d_Parts_init_23 : decode b_Parts_init 23 = .ok (.newarray .long, 2) := by decide +kernel
theorem d_Parts_init_25 : decode b_Parts_init 25 = .ok (.putfield 18, 3) := by decide +kernel
theorem d_Parts_init_28 : decode b_Parts_init 28 = .ok (.aload_n 0, 1) := by decide +kernel
theorem d_Parts_init_29 : decode b_Parts_init 29 = .ok (.iconst 0, 1) := by decide +kernel
theorem d_Parts_init_30 : decode b_Parts_init 30 = .ok (.putfield 22, 3) := by decide +kernel
theorem d_Parts_init_33 : decode b_Parts_init 33 = .ok (.return_, 1) := by decide +kernel
theorem d_Parts_add_0 : decode b_Parts_add 0 = .ok (.aload_n 0, 1) := by decide +kernel
theorem d_Parts_add_1 : decode b_Parts_add 1 = .ok (.getfield 9, 3) := by decide +kernel
theorem d_Parts_add_4 : decode b_Parts_add 4 = .ok (.aload_n 0, 1) := by decide +kernel
theorem d_Parts_add_5 : decode b_Parts_add 5 = .ok (.getfield 22, 3) := by decide +kernel
theorem d_Parts_add_8 : decode b_Parts_add 8 = .ok (.iload_n 1, 1) := by decide +kernel
theorem d_Parts_add_9 : decode b_Parts_add 9 = .ok (.iastore, 1) := by decide +kernel
theorem d_Parts_add_10 : decode b_Parts_add 10 = .ok (.aload_n 0, 1) := by decide +kernel
theorem d_Parts_add_11 : decode b_Parts_add 11 = .ok (.getfield 15, 3) := by decide +kernel
theorem d_Parts_add_14 : decode b_Parts_add 14 = .ok (.aload_n 0, 1) := by decide +kernel
theorem d_Parts_add_15 : decode b_Parts_add 15 = .ok (.getfield 22, 3) := by decide +kernel
theorem d_Parts_add_18 : decode b_Parts_add 18 = .ok (.iload_n 2, 1) := by decide +kernel
theorem d_Parts_add_19 : decode b_Parts_add 19 = .ok (.iastore, 1) := by decide +kernel
theorem d_Parts_add_20 : decode b_Parts_add 20 = .ok (.aload_n 0, 1) := by decide +kernel
theorem d_Parts_add_21 : decode b_Parts_add 21 = .ok (.getfield 18, 3) := by decide +kernel
theorem d_Parts_add_24 : decode b_Parts_add 24 = .ok (.aload_n 0, 1) := by decide +kernel
theorem d_Parts_add_25 : decode b_Parts_add 25 = .ok (.getfield 22, 3) := by decide +kernel
theorem d_Parts_add_28 : decode b_Parts_add 28 = .ok (.lload_n 3, 1) := by decide +kernel
theorem d_Parts_add_29 : decode b_Parts_add 29 = .ok (.lastore, 1) := by decide +kernel
theorem d_Parts_add_30 : decode b_Parts_add 30 = .ok (.aload_n 0, 1) := by decide +kernel
theorem d_Parts_add_31 : decode b_Parts_add 31 = .ok (.dup, 1) := by decide +kernel
theorem d_Parts_add_32 : decode b_Parts_add 32 = .ok (.getfield 22, 3) := by decide +kernel
theorem d_Parts_add_35 : decode b_Parts_add 35 = .ok (.iconst 1, 1) := by decide +kernel
theorem d_Parts_add_36 : decode b_Parts_add 36 = .ok (.iadd, 1) := by decide +kernel
theorem d_Parts_add_37 : decode b_Parts_add 37 = .ok (.putfield 22, 3) := by decide +kernel
theorem d_Parts_add_40 : decode b_Parts_add 40 = .ok (.aload_n 0, 1) := by decide +kernel
theorem d_Parts_add_41 : decode b_Parts_add 41 = .ok (.getfield 22, 3) := by decide +kernel
theorem d_Parts_add_44 : decode b_Parts_add 44 = .ok (.ireturn, 1) := by decide +kernel
theorem d_Parts_forget_0 : decode b_Parts_forget 0 = .ok (.aload_n 0, 1) := by decide +kernel
theorem d_Parts_forget_1 : decode b_Parts_forget 1 = .ok (.getfield 22, 3) := by decide +kernel
theorem d_Parts_forget_4 : decode b_Parts_forget 4 = .ok (.istore_n 1, 1) := by decide +kernel
theorem d_Parts_forget_5 : decode b_Parts_forget 5 = .ok (.aload_n 0, 1) := by decide +kernel
theorem d_Parts_forget_6 : decode b_Parts_forget 6 = .ok (.iconst 0, 1) := by decide +kernel
theorem d_Parts_forget_7 : decode b_Parts_forget 7 = .ok (.putfield 22, 3) := by decide +kernel
theorem d_Parts_forget_10 : decode b_Parts_forget 10 = .ok (.iload_n 1, 1) := by decide +kernel
theorem d_Parts_forget_11 : decode b_Parts_forget 11 = .ok (.ireturn, 1) := by decide +kernel
theorem d_Parts_foreignParts_0 : decode b_Parts_foreignParts 0 = .ok (.iconst 0, 1) := by decide +kernel
theorem d_Parts_foreignParts_1 : decode b_Parts_foreignParts 1 = .ok (.istore_n 2, 1) := by decide +kernel
theorem d_Parts_foreignParts_2 : decode b_Parts_foreignParts 2 = .ok (.iconst 0, 1) := by decide +kernel
theorem d_Parts_foreignParts_3 : decode b_Parts_foreignParts 3 = .ok (.istore_n 3, 1) := by decide +kernel
theorem d_Parts_foreignParts_4 : decode b_Parts_foreignParts 4 = .ok (.iload_n 3, 1) := by decide +kernel
theorem d_Parts_foreignParts_5 : decode b_Parts_foreignParts 5 = .ok (.aload_n 0, 1) := by decide +kernel
theorem d_Parts_foreignParts_6 : decode b_Parts_foreignParts 6 = .ok (.getfield 22, 3) := by decide +kernel
theorem d_Parts_foreignParts_9 : decode b_Parts_foreignParts 9 = .ok (.if_icmp .ge 25, 3) := by decide +kernel
theorem d_Parts_foreignParts_12 : decode b_Parts_foreignParts 12 = .ok (.iload_n 1, 1) := by decide +kernel
theorem d_Parts_foreignParts_13 : decode b_Parts_foreignParts 13 = .ok (.aload_n 0, 1) := by decide +kernel
theorem d_Parts_foreignParts_14 : decode b_Parts_foreignParts 14 = .ok (.getfield 15, 3) := by decide +kernel
theorem d_Parts_foreignParts_17 : decode b_Parts_foreignParts 17 = .ok (.iload_n 3, 1) := by decide +kernel
theorem d_Parts_foreignParts_18 : decode b_Parts_foreignParts 18 = .ok (.iaload, 1) := by decide +kernel
theorem d_Parts_foreignParts_19 : decode b_Parts_foreignParts 19 = .ok (.invokestatic 26, 3) := by decide +kernel
theorem d_Parts_foreignParts_22 : decode b_Parts_foreignParts 22 = .ok (.ifCond .ne 6, 3) := by decide +kernel
theorem d_Parts_foreignParts_25 : decode b_Parts_foreignParts 25 = .ok (.iinc 2 1, 3) := by decide +kernel
theorem d_Parts_foreignParts_28 : decode b_Parts_foreignParts 28 = .ok (.iinc 3 1, 3) := by decide +kernel
theorem d_Parts_foreignParts_31 : decode b_Parts_foreignParts 31 = .ok (.goto (-27), 3) := by decide +kernel
theorem d_Parts_foreignParts_34 : decode b_Parts_foreignParts 34 = .ok (.iload_n 2, 1) := by decide +kernel
theorem d_Parts_foreignParts_35 : decode b_Parts_foreignParts 35 = .ok (.ireturn, 1) := by decide +kernel
theorem d_Parts_foreignCents_0 : decode b_Parts_foreignCents 0 = .ok (.lconst 0, 1) := by decide +kernel
theorem d_Parts_foreignCents_1 : decode b_Parts_foreignCents 1 = .ok (.lstore_n 2, 1) := by decide +kernel
theorem d_Parts_foreignCents_2 : decode b_Parts_foreignCents 2 = .ok (.iconst 0, 1) := by decide +kernel
theorem d_Parts_foreignCents_3 : decode b_Parts_foreignCents 3 = .ok (.istore 4, 2) := by decide +kernel
theorem d_Parts_foreignCents_5 : decode b_Parts_foreignCents 5 = .ok (.iload 4, 2) := by decide +kernel
theorem d_Parts_foreignCents_7 : decode b_Parts_foreignCents 7 = .ok (.aload_n 0, 1) := by decide +kernel
theorem d_Parts_foreignCents_8 : decode b_Parts_foreignCents 8 = .ok (.getfield 22, 3) := by decide +kernel
theorem d_Parts_foreignCents_11 : decode b_Parts_foreignCents 11 = .ok (.if_icmp .ge 33, 3) := by decide +kernel
theorem d_Parts_foreignCents_14 : decode b_Parts_foreignCents 14 = .ok (.iload_n 1, 1) := by decide +kernel
theorem d_Parts_foreignCents_15 : decode b_Parts_foreignCents 15 = .ok (.aload_n 0, 1) := by decide +kernel
theorem d_Parts_foreignCents_16 : decode b_Parts_foreignCents 16 = .ok (.getfield 15, 3) := by decide +kernel
theorem d_Parts_foreignCents_19 : decode b_Parts_foreignCents 19 = .ok (.iload 4, 2) := by decide +kernel
theorem d_Parts_foreignCents_21 : decode b_Parts_foreignCents 21 = .ok (.iaload, 1) := by decide +kernel
theorem d_Parts_foreignCents_22 : decode b_Parts_foreignCents 22 = .ok (.invokestatic 26, 3) := by decide +kernel
theorem d_Parts_foreignCents_25 : decode b_Parts_foreignCents 25 = .ok (.ifCond .ne 13, 3) := by decide +kernel
theorem d_Parts_foreignCents_28 : decode b_Parts_foreignCents 28 = .ok (.lload_n 2, 1) := by decide +kernel
theorem d_Parts_foreignCents_29 : decode b_Parts_foreignCents 29 = .ok (.aload_n 0, 1) := by decide +kernel
theorem d_Parts_foreignCents_30 : decode b_Parts_foreignCents 30 = .ok (.getfield 18, 3) := by decide +kernel
theorem d_Parts_foreignCents_33 : decode b_Parts_foreignCents 33 = .ok (.iload 4, 2) := by decide +kernel
theorem d_Parts_foreignCents_35 : decode b_Parts_foreignCents 35 = .ok (.laload, 1) := by decide +kernel
theorem d_Parts_foreignCents_36 : decode b_Parts_foreignCents 36 = .ok (.ladd, 1) := by decide +kernel
theorem d_Parts_foreignCents_37 : decode b_Parts_foreignCents 37 = .ok (.lstore_n 2, 1) := by decide +kernel
theorem d_Parts_foreignCents_38 : decode b_Parts_foreignCents 38 = .ok (.iinc 4 1, 3) := by decide +kernel
theorem d_Parts_foreignCents_41 : decode b_Parts_foreignCents 41 = .ok (.goto (-36), 3) := by decide +kernel
theorem d_Parts_foreignCents_44 : decode b_Parts_foreignCents 44 = .ok (.lload_n 2, 1) := by decide +kernel
theorem d_Parts_foreignCents_45 : decode b_Parts_foreignCents 45 = .ok (.lreturn, 1) := by decide +kernel
theorem d_Parts_foreignCentsAlike_0 : decode b_Parts_foreignCentsAlike 0 = .ok (.iload_n 2, 1) := by decide +kernel
theorem d_Parts_foreignCentsAlike_1 : decode b_Parts_foreignCentsAlike 1 = .ok (.iload_n 3, 1) := by decide +kernel
theorem d_Parts_foreignCentsAlike_2 : decode b_Parts_foreignCentsAlike 2 = .ok (.invokestatic 30, 3) := by decide +kernel
theorem d_Parts_foreignCentsAlike_5 : decode b_Parts_foreignCentsAlike 5 = .ok (.istore 4, 2) := by decide +kernel
theorem d_Parts_foreignCentsAlike_7 : decode b_Parts_foreignCentsAlike 7 = .ok (.lconst 0, 1) := by decide +kernel
theorem d_Parts_foreignCentsAlike_8 : decode b_Parts_foreignCentsAlike 8 = .ok (.lstore 5, 2) := by decide +kernel
theorem d_Parts_foreignCentsAlike_10 : decode b_Parts_foreignCentsAlike 10 = .ok (.iconst 0, 1) := by decide +kernel
theorem d_Parts_foreignCentsAlike_11 : decode b_Parts_foreignCentsAlike 11 = .ok (.istore 7, 2) := by decide +kernel
theorem d_Parts_foreignCentsAlike_13 : decode b_Parts_foreignCentsAlike 13 = .ok (.iload 7, 2) := by decide +kernel
theorem d_Parts_foreignCentsAlike_15 : decode b_Parts_foreignCentsAlike 15 = .ok (.aload_n 0, 1) := by decide +kernel
theorem d_Parts_foreignCentsAlike_16 : decode b_Parts_foreignCentsAlike 16 = .ok (.getfield 22, 3) := by decide +kernel
theorem d_Parts_foreignCentsAlike_19 : decode b_Parts_foreignCentsAlike 19 = .ok (.if_icmp .ge 51, 3) := by decide +kernel
theorem d_Parts_foreignCentsAlike_22 : decode b_Parts_foreignCentsAlike 22 = .ok (.iload_n 1, 1) := by decide +kernel
theorem d_Parts_foreignCentsAlike_23 : decode b_Parts_foreignCentsAlike 23 = .ok (.aload_n 0, 1) := by decide +kernel
theorem d_Parts_foreignCentsAlike_24 : decode b_Parts_foreignCentsAlike 24 = .ok (.getfield 15, 3) := by decide +kernel
theorem d_Parts_foreignCentsAlike_27 : decode b_Parts_foreignCentsAlike 27 = .ok (.iload 7, 2) := by decide +kernel
theorem d_Parts_foreignCentsAlike_29 : decode b_Parts_foreignCentsAlike 29 = .ok (.iaload, 1) := by decide +kernel
theorem d_Parts_foreignCentsAlike_30 : decode b_Parts_foreignCentsAlike 30 = .ok (.invokestatic 26, 3) := by decide +kernel
theorem d_Parts_foreignCentsAlike_33 : decode b_Parts_foreignCentsAlike 33 = .ok (.ifCond .ne 31, 3) := by decide +kernel
theorem d_Parts_foreignCentsAlike_36 : decode b_Parts_foreignCentsAlike 36 = .ok (.aload_n 0, 1) := by decide +kernel
theorem d_Parts_foreignCentsAlike_37 : decode b_Parts_foreignCentsAlike 37 = .ok (.getfield 9, 3) := by decide +kernel
theorem d_Parts_foreignCentsAlike_40 : decode b_Parts_foreignCentsAlike 40 = .ok (.iload 7, 2) := by decide +kernel
theorem d_Parts_foreignCentsAlike_42 : decode b_Parts_foreignCentsAlike 42 = .ok (.iaload, 1) := by decide +kernel
theorem d_Parts_foreignCentsAlike_43 : decode b_Parts_foreignCentsAlike 43 = .ok (.iload_n 3, 1) := by decide +kernel
theorem d_Parts_foreignCentsAlike_44 : decode b_Parts_foreignCentsAlike 44 = .ok (.invokestatic 30, 3) := by decide +kernel
theorem d_Parts_foreignCentsAlike_47 : decode b_Parts_foreignCentsAlike 47 = .ok (.iload 4, 2) := by decide +kernel
theorem d_Parts_foreignCentsAlike_49 : decode b_Parts_foreignCentsAlike 49 = .ok (.if_icmp .ne 15, 3) := by decide +kernel
theorem d_Parts_foreignCentsAlike_52 : decode b_Parts_foreignCentsAlike 52 = .ok (.lload 5, 2) := by decide +kernel
theorem d_Parts_foreignCentsAlike_54 : decode b_Parts_foreignCentsAlike 54 = .ok (.aload_n 0, 1) := by decide +kernel
theorem d_Parts_foreignCentsAlike_55 : decode b_Parts_foreignCentsAlike 55 = .ok (.getfield 18, 3) := by decide +kernel
theorem d_Parts_foreignCentsAlike_58 : decode b_Parts_foreignCentsAlike 58 = .ok (.iload 7, 2) := by decide +kernel
theorem d_Parts_foreignCentsAlike_60 : decode b_Parts_foreignCentsAlike 60 = .ok (.laload, 1) := by decide +kernel
theorem d_Parts_foreignCentsAlike_61 : decode b_Parts_foreignCentsAlike 61 = .ok (.ladd, 1) := by decide +kernel
theorem d_Parts_foreignCentsAlike_62 : decode b_Parts_foreignCentsAlike 62 = .ok (.lstore 5, 2) := by decide +kernel
theorem d_Parts_foreignCentsAlike_64 : decode b_Parts_foreignCentsAlike 64 = .ok (.iinc 7 1, 3) := by decide +kernel
theorem d_Parts_foreignCentsAlike_67 : decode b_Parts_foreignCentsAlike 67 = .ok (.goto (-54), 3) := by decide +kernel
theorem d_Parts_foreignCentsAlike_70 : decode b_Parts_foreignCentsAlike 70 = .ok (.lload 5, 2) := by decide +kernel
theorem d_Parts_foreignCentsAlike_72 : decode b_Parts_foreignCentsAlike 72 = .ok (.lreturn, 1) := by decide +kernel
theorem d_Lands_init_0 : decode b_Lands_init 0 = .ok (.aload_n 0, 1) := by decide +kernel
theorem d_Lands_init_1 : decode b_Lands_init 1 = .ok (.invokespecial 3, 3) := by decide +kernel
theorem d_Lands_init_4 : decode b_Lands_init 4 = .ok (.aload_n 0, 1) := by decide +kernel
theorem d_Lands_init_5 : decode b_Lands_init 5 = .ok (.bipush 10, 2) := by decide +kernel
theorem d_Lands_init_7 : decode b_Lands_init 7 = .ok (.newarray .int, 2) := by decide +kernel
theorem d_Lands_init_9 : decode b_Lands_init 9 = .ok (.putfield 9, 3) := by decide +kernel
theorem d_Lands_init_12 : decode b_Lands_init 12 = .ok (.aload_n 0, 1) := by decide +kernel
theorem d_Lands_init_13 : decode b_Lands_init 13 = .ok (.iconst 0, 1) := by decide +kernel
theorem d_Lands_init_14 : decode b_Lands_init 14 = .ok (.putfield 15, 3) := by decide +kernel
theorem d_Lands_init_17 : decode b_Lands_init 17 = .ok (.aload_n 0, 1) := by decide +kernel
theorem d_Lands_init_18 : decode b_Lands_init 18 = .ok (.iconst 0, 1) := by decide +kernel
theorem d_Lands_init_19 : decode b_Lands_init 19 = .ok (.putfield 19, 3) := by decide +kernel
theorem d_Lands_init_22 : decode b_Lands_init 22 = .ok (.return_, 1) := by decide +kernel
theorem d_Lands_addPair_0 : decode b_Lands_addPair 0 = .ok (.aload_n 0, 1) := by decide +kernel
theorem d_Lands_addPair_1 : decode b_Lands_addPair 1 = .ok (.getfield 9, 3) := by decide +kernel
theorem d_Lands_addPair_4 : decode b_Lands_addPair 4 = .ok (.iload_n 1, 1) := by decide +kernel
theorem d_Lands_addPair_5 : decode b_Lands_addPair 5 = .ok (.iaload, 1) := by decide +kernel
theorem d_Lands_addPair_6 : decode b_Lands_addPair 6 = .ok (.iload_n 2, 1) := by decide +kernel
theorem d_Lands_addPair_7 : decode b_Lands_addPair 7 = .ok (.invokestatic 23, 3) := by decide +kernel
theorem d_Lands_addPair_10 : decode b_Lands_addPair 10 = .ok (.ifCond .eq 5, 3) := by decide +kernel
theorem d_Lands_addPair_13 : decode b_Lands_addPair 13 = .ok (.iconst 0, 1) := by decide +kernel
theorem d_Lands_addPair_14 : decode b_Lands_addPair 14 = .ok (.ireturn, 1) := by decide +kernel
theorem d_Lands_addPair_15 : decode b_Lands_addPair 15 = .ok (.aload_n 0, 1) := by decide +kernel
theorem d_Lands_addPair_16 : decode b_Lands_addPair 16 = .ok (.getfield 9, 3) := by decide +kernel
theorem d_Lands_addPair_19 : decode b_Lands_addPair 19 = .ok (.iload_n 1, 1) := by decide +kernel
theorem d_Lands_addPair_20 : decode b_Lands_addPair 20 = .ok (.dup2, 1) := by decide +kernel
theorem d_Lands_addPair_21 : decode b_Lands_addPair 21 = .ok (.iaload, 1) := by decide +kernel
theorem d_Lands_addPair_22 : decode b_Lands_addPair 22 = .ok (.iconst 1, 1) := by decide +kernel
theorem d_Lands_addPair_23 : decode b_Lands_addPair 23 = .ok (.iload_n 2, 1) := by decide +kernel
theorem d_Lands_addPair_24 : decode b_Lands_addPair 24 = .ok (.ishl, 1) := by decide +kernel
theorem d_Lands_addPair_25 : decode b_Lands_addPair 25 = .ok (.ior, 1) := by decide +kernel
theorem d_Lands_addPair_26 : decode b_Lands_addPair 26 = .ok (.iastore, 1) := by decide +kernel
theorem d_Lands_addPair_27 : decode b_Lands_addPair 27 = .ok (.aload_n 0, 1) := by decide +kernel
theorem d_Lands_addPair_28 : decode b_Lands_addPair 28 = .ok (.getfield 9, 3) := by decide +kernel
theorem d_Lands_addPair_31 : decode b_Lands_addPair 31 = .ok (.iload_n 2, 1) := by decide +kernel
theorem d_Lands_addPair_32 : decode b_Lands_addPair 32 = .ok (.dup2, 1) := by decide +kernel
theorem d_Lands_addPair_33 : decode b_Lands_addPair 33 = .ok (.iaload, 1) := by decide +kernel
theorem d_Lands_addPair_34 : decode b_Lands_addPair 34 = .ok (.iconst 1, 1) := by decide +kernel
theorem d_Lands_addPair_35 : decode b_Lands_addPair 35 = .ok (.iload_n 1, 1) := by decide +kernel
theorem d_Lands_addPair_36 : decode b_Lands_addPair 36 = .ok (.ishl, 1) := by decide +kernel
theorem d_Lands_addPair_37 : decode b_Lands_addPair 37 = .ok (.ior, 1) := by decide +kernel
theorem d_Lands_addPair_38 : decode b_Lands_addPair 38 = .ok (.iastore, 1) := by decide +kernel
theorem d_Lands_addPair_39 : decode b_Lands_addPair 39 = .ok (.aload_n 0, 1) := by decide +kernel
theorem d_Lands_addPair_40 : decode b_Lands_addPair 40 = .ok (.dup, 1) := by decide +kernel
theorem d_Lands_addPair_41 : decode b_Lands_addPair 41 = .ok (.getfield 15, 3) := by decide +kernel
theorem d_Lands_addPair_44 : decode b_Lands_addPair 44 = .ok (.iconst 1, 1) := by decide +kernel
theorem d_Lands_addPair_45 : decode b_Lands_addPair 45 = .ok (.iadd, 1) := by decide +kernel
theorem d_Lands_addPair_46 : decode b_Lands_addPair 46 = .ok (.putfield 15, 3) := by decide +kernel
theorem d_Lands_addPair_49 : decode b_Lands_addPair 49 = .ok (.iconst 1, 1) := by decide +kernel
theorem d_Lands_addPair_50 : decode b_Lands_addPair 50 = .ok (.ireturn, 1) := by decide +kernel
theorem d_Lands_ownLands_0 : decode b_Lands_ownLands 0 = .ok (.iconst 1, 1) := by decide +kernel
theorem d_Lands_ownLands_1 : decode b_Lands_ownLands 1 = .ok (.aload_n 0, 1) := by decide +kernel
theorem d_Lands_ownLands_2 : decode b_Lands_ownLands 2 = .ok (.getfield 9, 3) := by decide +kernel
theorem d_Lands_ownLands_5 : decode b_Lands_ownLands 5 = .ok (.iconst 0, 1) := by decide +kernel
theorem d_Lands_ownLands_6 : decode b_Lands_ownLands 6 = .ok (.iaload, 1) := by decide +kernel
theorem d_Lands_ownLands_7 : decode b_Lands_ownLands 7 = .ok (.ior, 1) := by decide +kernel
theorem d_Lands_ownLands_8 : decode b_Lands_ownLands 8 = .ok (.istore_n 1, 1) := by decide +kernel
theorem d_Lands_ownLands_9 : decode b_Lands_ownLands 9 = .ok (.iconst 0, 1) := by decide +kernel
theorem d_Lands_ownLands_10 : decode b_Lands_ownLands 10 = .ok (.istore_n 2, 1) := by decide +kernel
theorem d_Lands_ownLands_11 : decode b_Lands_ownLands 11 = .ok (.aload_n 0, 1) := by decide +kernel
theorem d_Lands_ownLands_12 : decode b_Lands_ownLands 12 = .ok (.getfield 19, 3) := by decide +kernel
theorem d_Lands_ownLands_15 : decode b_Lands_ownLands 15 = .ok (.ifCond .eq 46, 3) := by decide +kernel
theorem d_Lands_ownLands_18 : decode b_Lands_ownLands 18 = .ok (.iload_n 2, 1) := by decide +kernel
theorem d_Lands_ownLands_19 : decode b_Lands_ownLands 19 = .ok (.bipush 10, 2) := by decide +kernel
theorem d_Lands_ownLands_21 : decode b_Lands_ownLands 21 = .ok (.if_icmp .ge 40, 3) := by decide +kernel
theorem d_Lands_ownLands_24 : decode b_Lands_ownLands 24 = .ok (.iconst 0, 1) := by decide +kernel
theorem d_Lands_ownLands_25 : decode b_Lands_ownLands 25 = .ok (.istore_n 3, 1) := by decide +kernel
theorem d_Lands_ownLands_26 : decode b_Lands_ownLands 26 = .ok (.iload_n 3, 1) := by decide +kernel
theorem d_Lands_ownLands_27 : decode b_Lands_ownLands 27 = .ok (.bipush 10, 2) := by decide +kernel
theorem d_Lands_ownLands_29 : decode b_Lands_ownLands 29 = .ok (.if_icmp .ge 26, 3) := by decide +kernel
theorem d_Lands_ownLands_32 : decode b_Lands_ownLands 32 = .ok (.iload_n 1, 1) := by decide +kernel
theorem d_Lands_ownLands_33 : decode b_Lands_ownLands 33 = .ok (.iload_n 3, 1) := by decide +kernel
theorem d_Lands_ownLands_34 : decode b_Lands_ownLands 34 = .ok (.invokestatic 23, 3) := by decide +kernel
theorem d_Lands_ownLands_37 : decode b_Lands_ownLands 37 = .ok (.ifCond .eq 12, 3) := by decide +kernel
theorem d_Lands_ownLands_40 : decode b_Lands_ownLands 40 = .ok (.iload_n 1, 1) := by decide +kernel
theorem d_Lands_ownLands_41 : decode b_Lands_ownLands 41 = .ok (.aload_n 0, 1) := by decide +kernel
theorem d_Lands_ownLands_42 : decode b_Lands_ownLands 42 = .ok (.getfield 9, 3) := by decide +kernel
theorem d_Lands_ownLands_45 : decode b_Lands_ownLands 45 = .ok (.iload_n 3, 1) := by decide +kernel
theorem d_Lands_ownLands_46 : decode b_Lands_ownLands 46 = .ok (.iaload, 1) := by decide +kernel
theorem d_Lands_ownLands_47 : decode b_Lands_ownLands 47 = .ok (.ior, 1) := by decide +kernel
theorem d_Lands_ownLands_48 : decode b_Lands_ownLands 48 = .ok (.istore_n 1, 1) := by decide +kernel
theorem d_Lands_ownLands_49 : decode b_Lands_ownLands 49 = .ok (.iinc 3 1, 3) := by decide +kernel
theorem d_Lands_ownLands_52 : decode b_Lands_ownLands 52 = .ok (.goto (-26), 3) := by decide +kernel
theorem d_Lands_ownLands_55 : decode b_Lands_ownLands 55 = .ok (.iinc 2 1, 3) := by decide +kernel
theorem d_Lands_ownLands_58 : decode b_Lands_ownLands 58 = .ok (.goto (-47), 3) := by decide +kernel
theorem d_Lands_ownLands_61 : decode b_Lands_ownLands 61 = .ok (.iload_n 1, 1) := by decide +kernel
theorem d_Lands_ownLands_62 : decode b_Lands_ownLands 62 = .ok (.ireturn, 1) := by decide +kernel
theorem d_Proofs_init_0 : decode b_Proofs_init 0 = .ok (.aload_n 0, 1) := by decide +kernel
theorem d_Proofs_init_1 : decode b_Proofs_init 1 = .ok (.invokespecial 3, 3) := by decide +kernel
theorem d_Proofs_init_4 : decode b_Proofs_init 4 = .ok (.aload_n 0, 1) := by decide +kernel
theorem d_Proofs_init_5 : decode b_Proofs_init 5 = .ok (.bipush 20, 2) := by decide +kernel
theorem d_Proofs_init_7 : decode b_Proofs_init 7 = .ok (.newarray .int, 2) := by decide +kernel
theorem d_Proofs_init_9 : decode b_Proofs_init 9 = .ok (.putfield 9, 3) := by decide +kernel
theorem d_Proofs_init_12 : decode b_Proofs_init 12 = .ok (.aload_n 0, 1) := by decide +kernel
theorem d_Proofs_init_13 : decode b_Proofs_init 13 = .ok (.bipush 20, 2) := by decide +kernel
theorem d_Proofs_init_15 : decode b_Proofs_init 15 = .ok (.newarray .int, 2) := by decide +kernel
theorem d_Proofs_init_17 : decode b_Proofs_init 17 = .ok (.putfield 15, 3) := by decide +kernel
theorem d_Proofs_init_20 : decode b_Proofs_init 20 = .ok (.aload_n 0, 1) := by decide +kernel
theorem d_Proofs_init_21 : decode b_Proofs_init 21 = .ok (.bipush 20, 2) := by decide +kernel
theorem d_Proofs_init_23 : decode b_Proofs_init 23 = .ok (.newarray .int, 2) := by decide +kernel
theorem d_Proofs_init_25 : decode b_Proofs_init 25 = .ok (.putfield 18, 3) := by decide +kernel
theorem d_Proofs_init_28 : decode b_Proofs_init 28 = .ok (.aload_n 0, 1) := by decide +kernel
theorem d_Proofs_init_29 : decode b_Proofs_init 29 = .ok (.iconst 0, 1) := by decide +kernel
theorem d_Proofs_init_30 : decode b_Proofs_init 30 = .ok (.putfield 21, 3) := by decide +kernel
theorem d_Proofs_init_33 : decode b_Proofs_init 33 = .ok (.return_, 1) := by decide +kernel
theorem d_Proofs_add_0 : decode b_Proofs_add 0 = .ok (.aload_n 0, 1) := by decide +kernel
theorem d_Proofs_add_1 : decode b_Proofs_add 1 = .ok (.getfield 9, 3) := by decide +kernel
theorem d_Proofs_add_4 : decode b_Proofs_add 4 = .ok (.aload_n 0, 1) := by decide +kernel
theorem d_Proofs_add_5 : decode b_Proofs_add 5 = .ok (.getfield 21, 3) := by decide +kernel
theorem d_Proofs_add_8 : decode b_Proofs_add 8 = .ok (.iload_n 1, 1) := by decide +kernel
theorem d_Proofs_add_9 : decode b_Proofs_add 9 = .ok (.iastore, 1) := by decide +kernel
theorem d_Proofs_add_10 : decode b_Proofs_add 10 = .ok (.aload_n 0, 1) := by decide +kernel
theorem d_Proofs_add_11 : decode b_Proofs_add 11 = .ok (.getfield 15, 3) := by decide +kernel
theorem d_Proofs_add_14 : decode b_Proofs_add 14 = .ok (.aload_n 0, 1) := by decide +kernel
theorem d_Proofs_add_15 : decode b_Proofs_add 15 = .ok (.getfield 21, 3) := by decide +kernel
theorem d_Proofs_add_18 : decode b_Proofs_add 18 = .ok (.iload_n 2, 1) := by decide +kernel
theorem d_Proofs_add_19 : decode b_Proofs_add 19 = .ok (.iastore, 1) := by decide +kernel
theorem d_Proofs_add_20 : decode b_Proofs_add 20 = .ok (.aload_n 0, 1) := by decide +kernel
theorem d_Proofs_add_21 : decode b_Proofs_add 21 = .ok (.getfield 18, 3) := by decide +kernel
theorem d_Proofs_add_24 : decode b_Proofs_add 24 = .ok (.aload_n 0, 1) := by decide +kernel
theorem d_Proofs_add_25 : decode b_Proofs_add 25 = .ok (.getfield 21, 3) := by decide +kernel
theorem d_Proofs_add_28 : decode b_Proofs_add 28 = .ok (.iload_n 3, 1) := by decide +kernel
theorem d_Proofs_add_29 : decode b_Proofs_add 29 = .ok (.iastore, 1) := by decide +kernel
theorem d_Proofs_add_30 : decode b_Proofs_add 30 = .ok (.aload_n 0, 1) := by decide +kernel
theorem d_Proofs_add_31 : decode b_Proofs_add 31 = .ok (.dup, 1) := by decide +kernel
theorem d_Proofs_add_32 : decode b_Proofs_add 32 = .ok (.getfield 21, 3) := by decide +kernel
theorem d_Proofs_add_35 : decode b_Proofs_add 35 = .ok (.iconst 1, 1) := by decide +kernel
theorem d_Proofs_add_36 : decode b_Proofs_add 36 = .ok (.iadd, 1) := by decide +kernel
theorem d_Proofs_add_37 : decode b_Proofs_add 37 = .ok (.putfield 21, 3) := by decide +kernel
theorem d_Proofs_add_40 : decode b_Proofs_add 40 = .ok (.aload_n 0, 1) := by decide +kernel
theorem d_Proofs_add_41 : decode b_Proofs_add 41 = .ok (.getfield 21, 3) := by decide +kernel
theorem d_Proofs_add_44 : decode b_Proofs_add 44 = .ok (.iconst 1, 1) := by decide +kernel
theorem d_Proofs_add_45 : decode b_Proofs_add 45 = .ok (.isub, 1) := by decide +kernel
theorem d_Proofs_add_46 : decode b_Proofs_add 46 = .ok (.ireturn, 1) := by decide +kernel
theorem d_Proofs_isGood_0 : decode b_Proofs_isGood 0 = .ok (.aload_n 0, 1) := by decide +kernel
theorem d_Proofs_isGood_1 : decode b_Proofs_isGood 1 = .ok (.getfield 9, 3) := by decide +kernel
theorem d_Proofs_isGood_4 : decode b_Proofs_isGood 4 = .ok (.iload_n 1, 1) := by decide +kernel
theorem d_Proofs_isGood_5 : decode b_Proofs_isGood 5 = .ok (.iaload, 1) := by decide +kernel
theorem d_Proofs_isGood_6 : decode b_Proofs_isGood 6 = .ok (.iconst 1, 1) := by decide +kernel
theorem d_Proofs_isGood_7 : decode b_Proofs_isGood 7 = .ok (.if_icmp .eq 11, 3) := by decide +kernel
theorem d_Proofs_isGood_10 : decode b_Proofs_isGood 10 = .ok (.lload_n 2, 1) := by decide +kernel
theorem d_Proofs_isGood_11 : decode b_Proofs_isGood 11 = .ok (.ldc2_w 25, 3) := by decide +kernel
theorem d_Proofs_isGood_14 : decode b_Proofs_isGood 14 = .ok (.lcmp, 1) := by decide +kernel
theorem d_Proofs_isGood_15 : decode b_Proofs_isGood 15 = .ok (.ifCond .gt 7, 3) := by decide +kernel
theorem d_Proofs_isGood_18 : decode b_Proofs_isGood 18 = .ok (.iconst 1, 1) := by decide +kernel
theorem d_Proofs_isGood_19 : decode b_Proofs_isGood 19 = .ok (.goto 4, 3) := by decide +kernel
theorem d_Proofs_isGood_22 : decode b_Proofs_isGood 22 = .ok (.iconst 0, 1) := by decide +kernel
theorem d_Proofs_isGood_23 : decode b_Proofs_isGood 23 = .ok (.istore 5, 2) := by decide +kernel
theorem d_Proofs_isGood_25 : decode b_Proofs_isGood 25 = .ok (.iload 5, 2) := by decide +kernel
theorem d_Proofs_isGood_27 : decode b_Proofs_isGood 27 = .ok (.ifCond .eq 29, 3) := by decide +kernel
theorem d_Proofs_isGood_30 : decode b_Proofs_isGood 30 = .ok (.iload 4, 2) := by decide +kernel
theorem d_Proofs_isGood_32 : decode b_Proofs_isGood 32 = .ok (.aload_n 0, 1) := by decide +kernel
theorem d_Proofs_isGood_33 : decode b_Proofs_isGood 33 = .ok (.getfield 15, 3) := by decide +kernel
theorem d_Proofs_isGood_36 : decode b_Proofs_isGood 36 = .ok (.iload_n 1, 1) := by decide +kernel
theorem d_Proofs_isGood_37 : decode b_Proofs_isGood 37 = .ok (.iaload, 1) := by decide +kernel
theorem d_Proofs_isGood_38 : decode b_Proofs_isGood 38 = .ok (.if_icmp .lt 18, 3) := by decide +kernel
theorem d_Proofs_isGood_41 : decode b_Proofs_isGood 41 = .ok (.iload 4, 2) := by decide +kernel
theorem d_Proofs_isGood_43 : decode b_Proofs_isGood 43 = .ok (.aload_n 0, 1) := by decide +kernel
theorem d_Proofs_isGood_44 : decode b_Proofs_isGood 44 = .ok (.getfield 18, 3) := by decide +kernel
theorem d_Proofs_isGood_47 : decode b_Proofs_isGood 47 = .ok (.iload_n 1, 1) := by decide +kernel
theorem d_Proofs_isGood_48 : decode b_Proofs_isGood 48 = .ok (.iaload, 1) := by decide +kernel
theorem d_Proofs_isGood_49 : decode b_Proofs_isGood 49 = .ok (.if_icmp .gt 7, 3) := by decide +kernel
theorem d_Proofs_isGood_52 : decode b_Proofs_isGood 52 = .ok (.iconst 1, 1) := by decide +kernel
theorem d_Proofs_isGood_53 : decode b_Proofs_isGood 53 = .ok (.goto 4, 3) := by decide +kernel
theorem d_Proofs_isGood_56 : decode b_Proofs_isGood 56 = .ok (.iconst 0, 1) := by decide +kernel
theorem d_Proofs_isGood_57 : decode b_Proofs_isGood 57 = .ok (.ireturn, 1) := by decide +kernel
