theorem dX4_init_0 : decode cX4_init 0 = .ok (.aload_n 0, 1) := by decide +kernel
theorem dX4_init_1 : decode cX4_init 1 = .ok (.invokespecial 3, 3) := by decide +kernel
theorem dX4_init_4 : decode cX4_init 4 = .ok (.aload_n 0, 1) := by decide +kernel
theorem dX4_init_5 : decode cX4_init 5 = .ok (.iconst 4, 1) := by decide +kernel
theorem dX4_init_6 : decode cX4_init 6 = .ok (.putfield 9, 3) := by decide +kernel
theorem dX4_init_9 : decode cX4_init 9 = .ok (.aload_n 0, 1) := by decide +kernel
theorem dX4_init_10 : decode cX4_init 10 = .ok (.bipush 8, 2) := by decide +kernel
theorem dX4_init_12 : decode cX4_init 12 = .ok (.putfield 13, 3) := by decide +kernel
theorem dX4_init_15 : decode cX4_init 15 = .ok (.aload_n 0, 1) := by decide +kernel
theorem dX4_init_16 : decode cX4_init 16 = .ok (.iconst 1, 1) := by decide +kernel
theorem dX4_init_17 : decode cX4_init 17 = .ok (.putfield 16, 3) := by decide +kernel
theorem dX4_init_20 : decode cX4_init 20 = .ok (.aload_n 0, 1) := by decide +kernel
theorem dX4_init_21 : decode cX4_init 21 = .ok (.bipush 16, 2) := by decide +kernel
theorem dX4_init_23 : decode cX4_init 23 = .ok (.newarray .int, 2) := by decide +kernel
theorem dX4_init_25 : decode cX4_init 25 = .ok (.putfield 19, 3) := by decide +kernel
theorem dX4_init_28 : decode cX4_init 28 = .ok (.aload_n 0, 1) := by decide +kernel
theorem dX4_init_29 : decode cX4_init 29 = .ok (.sipush 128, 3) := by decide +kernel
theorem dX4_init_32 : decode cX4_init 32 = .ok (.newarray .int, 2) := by decide +kernel
theorem dX4_init_34 : decode cX4_init 34 = .ok (.putfield 23, 3) := by decide +kernel
theorem dX4_init_37 : decode cX4_init 37 = .ok (.aload_n 0, 1) := by decide +kernel
theorem dX4_init_38 : decode cX4_init 38 = .ok (.sipush 3840, 3) := by decide +kernel
theorem dX4_init_41 : decode cX4_init 41 = .ok (.newarray .int, 2) := by decide +kernel
theorem dX4_init_43 : decode cX4_init 43 = .ok (.putfield 26, 3) := by decide +kernel
theorem dX4_init_46 : decode cX4_init 46 = .ok (.aload_n 0, 1) := by decide +kernel
theorem dX4_init_47 : decode cX4_init 47 = .ok (.sipush 1536, 3) := by decide +kernel
theorem dX4_init_50 : decode cX4_init 50 = .ok (.newarray .int, 2) := by decide +kernel
theorem dX4_init_52 : decode cX4_init 52 = .ok (.putfield 29, 3) := by decide +kernel
theorem dX4_init_55 : decode cX4_init 55 = .ok (.aload_n 0, 1) := by decide +kernel
theorem dX4_init_56 : decode cX4_init 56 = .ok (.sipush 128, 3) := by decide +kernel
theorem dX4_init_59 : decode cX4_init 59 = .ok (.newarray .int, 2) := by decide +kernel
theorem dX4_init_61 : decode cX4_init 61 = .ok (.putfield 32, 3) := by decide +kernel
theorem dX4_init_64 : decode cX4_init 64 = .ok (.aload_n 0, 1) := by decide +kernel
theorem dX4_init_65 : decode cX4_init 65 = .ok (.invokevirtual 35, 3) := by decide +kernel
theorem dX4_init_68 : decode cX4_init 68 = .ok (.return_, 1) := by decide +kernel
theorem dX4_thrown_0 : decode cX4_thrown 0 = .ok (.aload_n 0, 1) := by decide +kernel
theorem dX4_thrown_1 : decode cX4_thrown 1 = .ok (.getfield 38, 3) := by decide +kernel
theorem dX4_thrown_4 : decode cX4_thrown 4 = .ok (.ireturn, 1) := by decide +kernel
theorem dX4_no_0 : decode cX4_no 0 = .ok (.aload_n 0, 1) := by decide +kernel
theorem dX4_no_1 : decode cX4_no 1 = .ok (.iload_n 1, 1) := by decide +kernel
theorem dX4_no_2 : decode cX4_no 2 = .ok (.putfield 38, 3) := by decide +kernel
theorem dX4_no_5 : decode cX4_no 5 = .ok (.iconst 0, 1) := by decide +kernel
theorem dX4_no_6 : decode cX4_no 6 = .ok (.ireturn, 1) := by decide +kernel
theorem dX4_ok_0 : decode cX4_ok 0 = .ok (.aload_n 0, 1) := by decide +kernel
theorem dX4_ok_1 : decode cX4_ok 1 = .ok (.iconst 0, 1) := by decide +kernel
theorem dX4_ok_2 : decode cX4_ok 2 = .ok (.putfield 38, 3) := by decide +kernel
theorem dX4_ok_5 : decode cX4_ok 5 = .ok (.iload_n 1, 1) := by decide +kernel
theorem dX4_ok_6 : decode cX4_ok 6 = .ok (.ireturn, 1) := by decide +kernel
theorem dX4_okay_0 : decode cX4_okay 0 = .ok (.aload_n 0, 1) := by decide +kernel
theorem dX4_okay_1 : decode cX4_okay 1 = .ok (.iconst 0, 1) := by decide +kernel
theorem dX4_okay_2 : decode cX4_okay 2 = .ok (.putfield 38, 3) := by decide +kernel
theorem dX4_okay_5 : decode cX4_okay 5 = .ok (.lload_n 1, 1) := by decide +kernel
theorem dX4_okay_6 : decode cX4_okay 6 = .ok (.lreturn, 1) := by decide +kernel
theorem dX4_isIn_0 : decode cX4_isIn 0 = .ok (.iload_n 0, 1) := by decide +kernel
theorem dX4_isIn_1 : decode cX4_isIn 1 = .ok (.iload_n 1, 1) := by decide +kernel
theorem dX4_isIn_2 : decode cX4_isIn 2 = .ok (.if_icmp .lt 12, 3) := by decide +kernel
theorem dX4_isIn_5 : decode cX4_isIn 5 = .ok (.iload_n 0, 1) := by decide +kernel
theorem dX4_isIn_6 : decode cX4_isIn 6 = .ok (.iload_n 2, 1) := by decide +kernel
theorem dX4_isIn_7 : decode cX4_isIn 7 = .ok (.if_icmp .gt 7, 3) := by decide +kernel
theorem dX4_isIn_10 : decode cX4_isIn 10 = .ok (.iconst 1, 1) := by decide +kernel
theorem dX4_isIn_11 : decode cX4_isIn 11 = .ok (.goto 4, 3) := by decide +kernel
theorem dX4_isIn_14 : decode cX4_isIn 14 = .ok (.iconst 0, 1) := by decide +kernel
theorem dX4_isIn_15 : decode cX4_isIn 15 = .ok (.ireturn, 1) := by decide +kernel
theorem dX4_isFlight_0 : decode cX4_isFlight 0 = .ok (.iload_n 1, 1) := by decide +kernel
theorem dX4_isFlight_1 : decode cX4_isFlight 1 = .ok (.iconst 0, 1) := by decide +kernel
theorem dX4_isFlight_2 : decode cX4_isFlight 2 = .ok (.aload_n 0, 1) := by decide +kernel
theorem dX4_isFlight_3 : decode cX4_isFlight 3 = .ok (.getfield 9, 3) := by decide +kernel
theorem dX4_isFlight_6 : decode cX4_isFlight 6 = .ok (.iconst 1, 1) := by decide +kernel
theorem dX4_isFlight_7 : decode cX4_isFlight 7 = .ok (.isub, 1) := by decide +kernel
theorem dX4_isFlight_8 : decode cX4_isFlight 8 = .ok (.invokestatic 41, 3) := by decide +kernel
theorem dX4_isFlight_11 : decode cX4_isFlight 11 = .ok (.ireturn, 1) := by decide +kernel
theorem dX4_isStep_0 : decode cX4_isStep 0 = .ok (.iload_n 1, 1) := by decide +kernel
theorem dX4_isStep_1 : decode cX4_isStep 1 = .ok (.iconst 0, 1) := by decide +kernel
theorem dX4_isStep_2 : decode cX4_isStep 2 = .ok (.aload_n 0, 1) := by decide +kernel
theorem dX4_isStep_3 : decode cX4_isStep 3 = .ok (.getfield 13, 3) := by decide +kernel
theorem dX4_isStep_6 : decode cX4_isStep 6 = .ok (.iconst 1, 1) := by decide +kernel
theorem dX4_isStep_7 : decode cX4_isStep 7 = .ok (.isub, 1) := by decide +kernel
theorem dX4_isStep_8 : decode cX4_isStep 8 = .ok (.invokestatic 41, 3) := by decide +kernel
theorem dX4_isStep_11 : decode cX4_isStep 11 = .ok (.ireturn, 1) := by decide +kernel
theorem dX4_isMark_0 : decode cX4_isMark 0 = .ok (.iload_n 1, 1) := by decide +kernel
theorem dX4_isMark_1 : decode cX4_isMark 1 = .ok (.iconst 0, 1) := by decide +kernel
theorem dX4_isMark_2 : decode cX4_isMark 2 = .ok (.aload_n 0, 1) := by decide +kernel
theorem dX4_isMark_3 : decode cX4_isMark 3 = .ok (.getfield 45, 3) := by decide +kernel
theorem dX4_isMark_6 : decode cX4_isMark 6 = .ok (.iconst 1, 1) := by decide +kernel
theorem dX4_isMark_7 : decode cX4_isMark 7 = .ok (.isub, 1) := by decide +kernel
theorem dX4_isMark_8 : decode cX4_isMark 8 = .ok (.invokestatic 41, 3) := by decide +kernel
theorem dX4_isMark_11 : decode cX4_isMark 11 = .ok (.ireturn, 1) := by decide +kernel
theorem dX4_all_0 : decode cX4_all 0 = .ok (.aload_n 0, 1) := by decide +kernel
theorem dX4_all_1 : decode cX4_all 1 = .ok (.getfield 9, 3) := by decide +kernel
theorem dX4_all_4 : decode cX4_all 4 = .ok (.aload_n 0, 1) := by decide +kernel
theorem dX4_all_5 : decode cX4_all 5 = .ok (.getfield 13, 3) := by decide +kernel
theorem dX4_all_8 : decode cX4_all 8 = .ok (.imul, 1) := by decide +kernel
theorem dX4_all_9 : decode cX4_all 9 = .ok (.ireturn, 1) := by decide +kernel
theorem dX4_part_0 : decode cX4_part 0 = .ok (.aload_n 0, 1) := by decide +kernel
theorem dX4_part_1 : decode cX4_part 1 = .ok (.iload_n 1, 1) := by decide +kernel
theorem dX4_part_2 : decode cX4_part 2 = .ok (.invokevirtual 48, 3) := by decide +kernel
theorem dX4_part_5 : decode cX4_part 5 = .ok (.ifCond .eq 28, 3) := by decide +kernel
theorem dX4_part_8 : decode cX4_part 8 = .ok (.aload_n 0, 1) := by decide +kernel
theorem dX4_part_9 : decode cX4_part 9 = .ok (.iload_n 3, 1) := by decide +kernel
theorem dX4_part_10 : decode cX4_part 10 = .ok (.invokevirtual 48, 3) := by decide +kernel
theorem dX4_part_13 : decode cX4_part 13 = .ok (.ifCond .eq 20, 3) := by decide +kernel
theorem dX4_part_16 : decode cX4_part 16 = .ok (.aload_n 0, 1) := by decide +kernel
theorem dX4_part_17 : decode cX4_part 17 = .ok (.iload_n 2, 1) := by decide +kernel
theorem dX4_part_18 : decode cX4_part 18 = .ok (.invokevirtual 52, 3) := by decide +kernel
theorem dX4_part_21 : decode cX4_part 21 = .ok (.ifCond .eq 12, 3) := by decide +kernel
theorem dX4_part_24 : decode cX4_part 24 = .ok (.aload_n 0, 1) := by decide +kernel
theorem dX4_part_25 : decode cX4_part 25 = .ok (.iload 4, 2) := by decide +kernel
theorem dX4_part_27 : decode cX4_part 27 = .ok (.invokevirtual 52, 3) := by decide +kernel
theorem dX4_part_30 : decode cX4_part 30 = .ok (.ifCond .ne 5, 3) := by decide +kernel
theorem dX4_part_33 : decode cX4_part 33 = .ok (.iconst 1, 1) := by decide +kernel
theorem dX4_part_34 : decode cX4_part 34 = .ok (.ireturn, 1) := by decide +kernel
theorem dX4_part_35 : decode cX4_part 35 = .ok (.iload_n 1, 1) := by decide +kernel
theorem dX4_part_36 : decode cX4_part 36 = .ok (.iload_n 3, 1) := by decide +kernel
theorem dX4_part_37 : decode cX4_part 37 = .ok (.if_icmp .gt 9, 3) := by decide +kernel
theorem dX4_part_40 : decode cX4_part 40 = .ok (.iload_n 2, 1) := by decide +kernel
theorem dX4_part_41 : decode cX4_part 41 = .ok (.iload 4, 2) := by decide +kernel
theorem dX4_part_43 : decode cX4_part 43 = .ok (.if_icmp .le 7, 3) := by decide +kernel
theorem dX4_part_46 : decode cX4_part 46 = .ok (.iconst 2, 1) := by decide +kernel
theorem dX4_part_47 : decode cX4_part 47 = .ok (.goto 4, 3) := by decide +kernel
theorem dX4_part_50 : decode cX4_part 50 = .ok (.iconst 0, 1) := by decide +kernel
theorem dX4_part_51 : decode cX4_part 51 = .ok (.ireturn, 1) := by decide +kernel
theorem dX4_anew_0 : decode cX4_anew 0 = .ok (.iconst 0, 1) := by decide +kernel
theorem dX4_anew_1 : decode cX4_anew 1 = .ok (.istore_n 1, 1) := by decide +kernel
theorem dX4_anew_2 : decode cX4_anew 2 = .ok (.iload_n 1, 1) := by decide +kernel
theorem dX4_anew_3 : decode cX4_anew 3 = .ok (.sipush 128, 3) := by decide +kernel
theorem dX4_anew_6 : decode cX4_anew 6 = .ok (.if_icmp .ge 16, 3) := by decide +kernel
theorem dX4_anew_9 : decode cX4_anew 9 = .ok (.aload_n 0, 1) := by decide +kernel
theorem dX4_anew_10 : decode cX4_anew 10 = .ok (.getfield 23, 3) := by decide +kernel
theorem dX4_anew_13 : decode cX4_anew 13 = .ok (.iload_n 1, 1) := by decide +kernel
theorem dX4_anew_14 : decode cX4_anew 14 = .ok (.iconst 0, 1) := by decide +kernel
theorem dX4_anew_15 : decode cX4_anew 15 = .ok (.iastore, 1) := by decide +kernel
theorem dX4_anew_16 : decode cX4_anew 16 = .ok (.iinc 1 1, 3) := by decide +kernel
theorem dX4_anew_19 : decode cX4_anew 19 = .ok (.goto (-17), 3) := by decide +kernel
theorem dX4_anew_22 : decode cX4_anew 22 = .ok (.iconst 0, 1) := by decide +kernel
theorem dX4_anew_23 : decode cX4_anew 23 = .ok (.istore_n 1, 1) := by decide +kernel
theorem dX4_anew_24 : decode cX4_anew 24 = .ok (.iload_n 1, 1) := by decide +kernel
theorem dX4_anew_25 : decode cX4_anew 25 = .ok (.bipush 16, 2) := by decide +kernel
theorem dX4_anew_27 : decode cX4_anew 27 = .ok (.if_icmp .ge 17, 3) := by decide +kernel
theorem dX4_anew_30 : decode cX4_anew 30 = .ok (.aload_n 0, 1) := by decide +kernel
theorem dX4_anew_31 : decode cX4_anew 31 = .ok (.getfield 19, 3) := by decide +kernel
theorem dX4_anew_34 : decode cX4_anew 34 = .ok (.iload_n 1, 1) := by decide +kernel
theorem dX4_anew_35 : decode cX4_anew 35 = .ok (.bipush 50, 2) := by decide +kernel
theorem dX4_anew_37 : decode cX4_anew 37 = .ok (.iastore, 1) := by decide +kernel
theorem dX4_anew_38 : decode cX4_anew 38 = .ok (.iinc 1 1, 3) := by decide +kernel
theorem dX4_anew_41 : decode cX4_anew 41 = .ok (.goto (-17), 3) := by decide +kernel
theorem dX4_anew_44 : decode cX4_anew 44 = .ok (.aload_n 0, 1) := by decide +kernel
theorem dX4_anew_45 : decode cX4_anew 45 = .ok (.iconst 0, 1) := by decide +kernel
theorem dX4_anew_46 : decode cX4_anew 46 = .ok (.putfield 45, 3) := by decide +kernel
theorem dX4_anew_49 : decode cX4_anew 49 = .ok (.aload_n 0, 1) := by decide +kernel
theorem dX4_anew_50 : decode cX4_anew 50 = .ok (.iconst 0, 1) := by decide +kernel
theorem dX4_anew_51 : decode cX4_anew 51 = .ok (.putfield 55, 3) := by decide +kernel
theorem dX4_anew_54 : decode cX4_anew 54 = .ok (.aload_n 0, 1) := by decide +kernel
theorem dX4_anew_55 : decode cX4_anew 55 = .ok (.iconst 0, 1) := by decide +kernel
theorem dX4_anew_56 : decode cX4_anew 56 = .ok (.putfield 58, 3) := by decide +kernel
theorem dX4_anew_59 : decode cX4_anew 59 = .ok (.return_, 1) := by decide +kernel
theorem dX4_keep_0 : decode cX4_keep 0 = .ok (.aload_n 0, 1) := by decide +kernel
theorem dX4_keep_1 : decode cX4_keep 1 = .ok (.getfield 55, 3) := by decide +kernel
theorem dX4_keep_4 : decode cX4_keep 4 = .ok (.bipush 30, 2) := by decide +kernel
theorem dX4_keep_6 : decode cX4_keep 6 = .ok (.if_icmp .ne 26, 3) := by decide +kernel
theorem dX4_keep_9 : decode cX4_keep 9 = .ok (.aload_n 0, 1) := by decide +kernel
theorem dX4_keep_10 : decode cX4_keep 10 = .ok (.aload_n 0, 1) := by decide +kernel
theorem dX4_keep_11 : decode cX4_keep 11 = .ok (.getfield 58, 3) := by decide +kernel
theorem dX4_keep_14 : decode cX4_keep 14 = .ok (.iconst 1, 1) := by decide +kernel
theorem dX4_keep_15 : decode cX4_keep 15 = .ok (.iadd, 1) := by decide +kernel
theorem dX4_keep_16 : decode cX4_keep 16 = .ok (.bipush 30, 2) := by decide +kernel
theorem dX4_keep_18 : decode cX4_keep 18 = .ok (.irem, 1) := by decide +kernel
theorem dX4_keep_19 : decode cX4_keep 19 = .ok (.putfield 58, 3) := by decide +kernel
theorem dX4_keep_22 : decode cX4_keep 22 = .ok (.aload_n 0, 1) := by decide +kernel
theorem dX4_keep_23 : decode cX4_keep 23 = .ok (.dup, 1) := by decide +kernel
theorem dX4_keep_24 : decode cX4_keep 24 = .ok (.getfield 55, 3) := by decide +kernel
theorem dX4_keep_27 : decode cX4_keep 27 = .ok (.iconst 1, 1) := by decide +kernel
theorem dX4_keep_28 : decode cX4_keep 28 = .ok (.isub, 1) := by decide +kernel
theorem dX4_keep_29 : decode cX4_keep 29 = .ok (.putfield 55, 3) := by decide +kernel
theorem dX4_keep_32 : decode cX4_keep 32 = .ok (.aload_n 0, 1) := by decide +kernel
theorem dX4_keep_33 : decode cX4_keep 33 = .ok (.getfield 23, 3) := by decide +kernel
theorem dX4_keep_36 : decode cX4_keep 36 = .ok (.iconst 0, 1) := by decide +kernel
theorem dX4_keep_37 : decode cX4_keep 37 = .ok (.aload_n 0, 1) := by decide +kernel
theorem dX4_keep_38 : decode cX4_keep 38 = .ok (.getfield 26, 3) := by decide +kernel
theorem dX4_keep_41 : decode cX4_keep 41 = .ok (.sipush 128, 3) := by decide +kernel
theorem dX4_keep_44 : decode cX4_keep 44 = .ok (.aload_n 0, 1) := by decide +kernel
theorem dX4_keep_45 : decode cX4_keep 45 = .ok (.getfield 58, 3) := by decide +kernel
theorem dX4_keep_48 : decode cX4_keep 48 = .ok (.aload_n 0, 1) := by decide +kernel
theorem dX4_keep_49 : decode cX4_keep 49 = .ok (.getfield 55, 3) := by decide +kernel
theorem dX4_keep_52 : decode cX4_keep 52 = .ok (.iadd, 1) := by decide +kernel
theorem dX4_keep_53 : decode cX4_keep 53 = .ok (.bipush 30, 2) := by decide +kernel
theorem dX4_keep_55 : decode cX4_keep 55 = .ok (.irem, 1) := by decide +kernel
theorem dX4_keep_56 : decode cX4_keep 56 = .ok (.imul, 1) := by decide +kernel
theorem dX4_keep_57 : decode cX4_keep 57 = .ok (.sipush 128, 3) := by decide +kernel
theorem dX4_keep_60 : decode cX4_keep 60 = .ok (.invokestatic 61, 3) := by decide +kernel
theorem dX4_keep_63 : decode cX4_keep 63 = .ok (.aload_n 0, 1) := by decide +kernel
theorem dX4_keep_64 : decode cX4_keep 64 = .ok (.dup, 1) := by decide +kernel
theorem dX4_keep_65 : decode cX4_keep 65 = .ok (.getfield 55, 3) := by decide +kernel
theorem dX4_keep_68 : decode cX4_keep 68 = .ok (.iconst 1, 1) := by decide +kernel
theorem dX4_keep_69 : decode cX4_keep 69 = .ok (.iadd, 1) := by decide +kernel
theorem dX4_keep_70 : decode cX4_keep 70 = .ok (.putfield 55, 3) := by decide +kernel
theorem dX4_keep_73 : decode cX4_keep 73 = .ok (.return_, 1) := by decide +kernel
theorem dX4_bring_0 : decode cX4_bring 0 = .ok (.iconst 0, 1) := by decide +kernel
theorem dX4_bring_1 : decode cX4_bring 1 = .ok (.istore_n 3, 1) := by decide +kernel
theorem dX4_bring_2 : decode cX4_bring 2 = .ok (.iconst 0, 1) := by decide +kernel
theorem dX4_bring_3 : decode cX4_bring 3 = .ok (.istore 4, 2) := by decide +kernel
theorem dX4_bring_5 : decode cX4_bring 5 = .ok (.iload 4, 2) := by decide +kernel
theorem dX4_bring_7 : decode cX4_bring 7 = .ok (.aload_n 0, 1) := by decide +kernel
theorem dX4_bring_8 : decode cX4_bring 8 = .ok (.invokevirtual 67, 3) := by decide +kernel
theorem dX4_bring_11 : decode cX4_bring 11 = .ok (.if_icmp .ge 33, 3) := by decide +kernel
theorem dX4_bring_14 : decode cX4_bring 14 = .ok (.iload_n 3, 1) := by decide +kernel
theorem dX4_bring_15 : decode cX4_bring 15 = .ok (.aload_n 1, 1) := by decide +kernel
theorem dX4_bring_16 : decode cX4_bring 16 = .ok (.iload_n 2, 1) := by decide +kernel
theorem dX4_bring_17 : decode cX4_bring 17 = .ok (.iload 4, 2) := by decide +kernel
theorem dX4_bring_19 : decode cX4_bring 19 = .ok (.iadd, 1) := by decide +kernel
theorem dX4_bring_20 : decode cX4_bring 20 = .ok (.iaload, 1) := by decide +kernel
theorem dX4_bring_21 : decode cX4_bring 21 = .ok (.aload_n 0, 1) := by decide +kernel
theorem dX4_bring_22 : decode cX4_bring 22 = .ok (.getfield 23, 3) := by decide +kernel
theorem dX4_bring_25 : decode cX4_bring 25 = .ok (.iload 4, 2) := by decide +kernel
theorem dX4_bring_27 : decode cX4_bring 27 = .ok (.iaload, 1) := by decide +kernel
theorem dX4_bring_28 : decode cX4_bring 28 = .ok (.if_icmp .ne 7, 3) := by decide +kernel
theorem dX4_bring_31 : decode cX4_bring 31 = .ok (.iconst 0, 1) := by decide +kernel
theorem dX4_bring_32 : decode cX4_bring 32 = .ok (.goto 4, 3) := by decide +kernel
theorem dX4_bring_35 : decode cX4_bring 35 = .ok (.iconst 1, 1) := by decide +kernel
theorem dX4_bring_36 : decode cX4_bring 36 = .ok (.iadd, 1) := by decide +kernel
theorem dX4_bring_37 : decode cX4_bring 37 = .ok (.istore_n 3, 1) := by decide +kernel
theorem dX4_bring_38 : decode cX4_bring 38 = .ok (.iinc 4 1, 3) := by decide +kernel
theorem dX4_bring_41 : decode cX4_bring 41 = .ok (.goto (-36), 3) := by decide +kernel
theorem dX4_bring_44 : decode cX4_bring 44 = .ok (.aload_n 1, 1) := by decide +kernel
theorem dX4_bring_45 : decode cX4_bring 45 = .ok (.iload_n 2, 1) := by decide +kernel
theorem dX4_bring_46 : decode cX4_bring 46 = .ok (.aload_n 0, 1) := by decide +kernel
theorem dX4_bring_47 : decode cX4_bring 47 = .ok (.getfield 23, 3) := by decide +kernel
theorem dX4_bring_50 : decode cX4_bring 50 = .ok (.iconst 0, 1) := by decide +kernel
theorem dX4_bring_51 : decode cX4_bring 51 = .ok (.sipush 128, 3) := by decide +kernel
theorem dX4_bring_54 : decode cX4_bring 54 = .ok (.invokestatic 61, 3) := by decide +kernel
theorem dX4_bring_57 : decode cX4_bring 57 = .ok (.iload_n 3, 1) := by decide +kernel
theorem dX4_bring_58 : decode cX4_bring 58 = .ok (.ireturn, 1) := by decide +kernel
theorem dX4_hourOn_0 : decode cX4_hourOn 0 = .ok (.iconst 0, 1) := by decide +kernel
theorem dX4_hourOn_1 : decode cX4_hourOn 1 = .ok (.istore_n 3, 1) := by decide +kernel
theorem dX4_hourOn_2 : decode cX4_hourOn 2 = .ok (.iconst 0, 1) := by decide +kernel
theorem dX4_hourOn_3 : decode cX4_hourOn 3 = .ok (.istore 4, 2) := by decide +kernel
theorem dX4_hourOn_5 : decode cX4_hourOn 5 = .ok (.iload 4, 2) := by decide +kernel
theorem dX4_hourOn_7 : decode cX4_hourOn 7 = .ok (.aload_n 0, 1) := by decide +kernel
theorem dX4_hourOn_8 : decode cX4_hourOn 8 = .ok (.invokevirtual 67, 3) := by decide +kernel
theorem dX4_hourOn_11 : decode cX4_hourOn 11 = .ok (.if_icmp .ge 73, 3) := by decide +kernel
theorem dX4_hourOn_14 : decode cX4_hourOn 14 = .ok (.aload_n 1, 1) := by decide +kernel
theorem dX4_hourOn_15 : decode cX4_hourOn 15 = .ok (.iload 4, 2) := by decide +kernel
theorem dX4_hourOn_17 : decode cX4_hourOn 17 = .ok (.iaload, 1) := by decide +kernel
theorem dX4_hourOn_18 : decode cX4_hourOn 18 = .ok (.ifCond .le 16, 3) := by decide +kernel
theorem dX4_hourOn_21 : decode cX4_hourOn 21 = .ok (.iconst 0, 1) := by decide +kernel
theorem dX4_hourOn_22 : decode cX4_hourOn 22 = .ok (.aload_n 1, 1) := by decide +kernel
theorem dX4_hourOn_23 : decode cX4_hourOn 23 = .ok (.iload 4, 2) := by decide +kernel
theorem dX4_hourOn_25 : decode cX4_hourOn 25 = .ok (.iaload, 1) := by decide +kernel
theorem dX4_hourOn_26 : decode cX4_hourOn 26 = .ok (.iload_n 2, 1) := by decide +kernel
theorem dX4_hourOn_27 : decode cX4_hourOn 27 = .ok (.isub, 1) := by decide +kernel
theorem dX4_hourOn_28 : decode cX4_hourOn 28 = .ok (.invokestatic 71, 3) := by decide +kernel
theorem dX4_hourOn_31 : decode cX4_hourOn 31 = .ok (.goto 7, 3) := by decide +kernel
theorem dX4_hourOn_34 : decode cX4_hourOn 34 = .ok (.aload_n 1, 1) := by decide +kernel
theorem dX4_hourOn_35 : decode cX4_hourOn 35 = .ok (.iload 4, 2) := by decide +kernel
theorem dX4_hourOn_37 : decode cX4_hourOn 37 = .ok (.iaload, 1) := by decide +kernel
theorem dX4_hourOn_38 : decode cX4_hourOn 38 = .ok (.istore 5, 2) := by decide +kernel
theorem dX4_hourOn_40 : decode cX4_hourOn 40 = .ok (.aload_n 1, 1) := by decide +kernel
theorem dX4_hourOn_41 : decode cX4_hourOn 41 = .ok (.iload 4, 2) := by decide +kernel
theorem dX4_hourOn_43 : decode cX4_hourOn 43 = .ok (.iload 5, 2) := by decide +kernel
theorem dX4_hourOn_45 : decode cX4_hourOn 45 = .ok (.iload_n 3, 1) := by decide +kernel
theorem dX4_hourOn_46 : decode cX4_hourOn 46 = .ok (.iadd, 1) := by decide +kernel
theorem dX4_hourOn_47 : decode cX4_hourOn 47 = .ok (.iastore, 1) := by decide +kernel
theorem dX4_hourOn_48 : decode cX4_hourOn 48 = .ok (.iconst 0, 1) := by decide +kernel
theorem dX4_hourOn_49 : decode cX4_hourOn 49 = .ok (.aload_n 1, 1) := by decide +kernel
theorem dX4_hourOn_50 : decode cX4_hourOn 50 = .ok (.iload 4, 2) := by decide +kernel
theorem dX4_hourOn_52 : decode cX4_hourOn 52 = .ok (.iaload, 1) := by decide +kernel
theorem dX4_hourOn_53 : decode cX4_hourOn 53 = .ok (.aload_n 0, 1) := by decide +kernel
theorem dX4_hourOn_54 : decode cX4_hourOn 54 = .ok (.getfield 19, 3) := by decide +kernel
theorem dX4_hourOn_57 : decode cX4_hourOn 57 = .ok (.iload 4, 2) := by decide +kernel
theorem dX4_hourOn_59 : decode cX4_hourOn 59 = .ok (.aload_n 0, 1) := by decide +kernel
theorem dX4_hourOn_60 : decode cX4_hourOn 60 = .ok (.getfield 13, 3) := by decide +kernel
theorem dX4_hourOn_63 : decode cX4_hourOn 63 = .ok (.irem, 1) := by decide +kernel
theorem dX4_hourOn_64 : decode cX4_hourOn 64 = .ok (.iaload, 1) := by decide +kernel
theorem dX4_hourOn_65 : decode cX4_hourOn 65 = .ok (.isub, 1) := by decide +kernel
theorem dX4_hourOn_66 : decode cX4_hourOn 66 = .ok (.invokestatic 71, 3) := by decide +kernel
theorem dX4_hourOn_69 : decode cX4_hourOn 69 = .ok (.istore_n 3, 1) := by decide +kernel
theorem dX4_hourOn_70 : decode cX4_hourOn 70 = .ok (.aload_n 1, 1) := by decide +kernel
theorem dX4_hourOn_71 : decode cX4_hourOn 71 = .ok (.iload 4, 2) := by decide +kernel
theorem dX4_hourOn_73 : decode cX4_hourOn 73 = .ok (.dup2, 1) := by decide +kernel
theorem dX4_hourOn_74 : decode cX4_hourOn 74 = .ok (.iaload, 1) := by decide +kernel
theorem dX4_hourOn_75 : decode cX4_hourOn 75 = .ok (.iload_n 3, 1) := by decide +kernel
theorem dX4_hourOn_76 : decode cX4_hourOn 76 = .ok (.isub, 1) := by decide +kernel
theorem dX4_hourOn_77 : decode cX4_hourOn 77 = .ok (.iastore, 1) := by decide +kernel
theorem dX4_hourOn_78 : decode cX4_hourOn 78 = .ok (.iinc 4 1, 3) := by decide +kernel
theorem dX4_hourOn_81 : decode cX4_hourOn 81 = .ok (.goto (-76), 3) := by decide +kernel
theorem dX4_hourOn_84 : decode cX4_hourOn 84 = .ok (.iload_n 3, 1) := by decide +kernel
theorem dX4_hourOn_85 : decode cX4_hourOn 85 = .ok (.ireturn, 1) := by decide +kernel
theorem dX4_look_0 : decode cX4_look 0 = .ok (.aload_n 0, 1) := by decide +kernel
theorem dX4_look_1 : decode cX4_look 1 = .ok (.getfield 23, 3) := by decide +kernel
theorem dX4_look_4 : decode cX4_look 4 = .ok (.iconst 0, 1) := by decide +kernel
theorem dX4_look_5 : decode cX4_look 5 = .ok (.aload_n 0, 1) := by decide +kernel
theorem dX4_look_6 : decode cX4_look 6 = .ok (.getfield 32, 3) := by decide +kernel
theorem dX4_look_9 : decode cX4_look 9 = .ok (.iconst 0, 1) := by decide +kernel
theorem dX4_look_10 : decode cX4_look 10 = .ok (.sipush 128, 3) := by decide +kernel
theorem dX4_look_13 : decode cX4_look 13 = .ok (.invokestatic 61, 3) := by decide +kernel
theorem dX4_look_16 : decode cX4_look 16 = .ok (.return_, 1) := by decide +kernel
theorem dX4_goneBehind_0 : decode cX4_goneBehind 0 = .ok (.aload_n 0, 1) := by decide +kernel
theorem dX4_goneBehind_1 : decode cX4_goneBehind 1 = .ok (.invokevirtual 77, 3) := by decide +kernel
theorem dX4_goneBehind_4 : decode cX4_goneBehind 4 = .ok (.iconst 0, 1) := by decide +kernel
theorem dX4_goneBehind_5 : decode cX4_goneBehind 5 = .ok (.istore_n 3, 1) := by decide +kernel
theorem dX4_goneBehind_6 : decode cX4_goneBehind 6 = .ok (.iconst 0, 1) := by decide +kernel
theorem dX4_goneBehind_7 : decode cX4_goneBehind 7 = .ok (.istore 4, 2) := by decide +kernel
theorem dX4_goneBehind_9 : decode cX4_goneBehind 9 = .ok (.iload 4, 2) := by decide +kernel
theorem dX4_goneBehind_11 : decode cX4_goneBehind 11 = .ok (.iload_n 1, 1) := by decide +kernel
theorem dX4_goneBehind_12 : decode cX4_goneBehind 12 = .ok (.if_icmp .ge 21, 3) := by decide +kernel
theorem dX4_goneBehind_15 : decode cX4_goneBehind 15 = .ok (.iload_n 3, 1) := by decide +kernel
theorem dX4_goneBehind_16 : decode cX4_goneBehind 16 = .ok (.aload_n 0, 1) := by decide +kernel
theorem dX4_goneBehind_17 : decode cX4_goneBehind 17 = .ok (.aload_n 0, 1) := by decide +kernel
theorem dX4_goneBehind_18 : decode cX4_goneBehind 18 = .ok (.getfield 32, 3) := by decide +kernel
theorem dX4_goneBehind_21 : decode cX4_goneBehind 21 = .ok (.iload_n 2, 1) := by decide +kernel
theorem dX4_goneBehind_22 : decode cX4_goneBehind 22 = .ok (.invokevirtual 80, 3) := by decide +kernel
theorem dX4_goneBehind_25 : decode cX4_goneBehind 25 = .ok (.iadd, 1) := by decide +kernel
theorem dX4_goneBehind_26 : decode cX4_goneBehind 26 = .ok (.istore_n 3, 1) := by decide +kernel
theorem dX4_goneBehind_27 : decode cX4_goneBehind 27 = .ok (.iinc 4 1, 3) := by decide +kernel
theorem dX4_goneBehind_30 : decode cX4_goneBehind 30 = .ok (.goto (-21), 3) := by decide +kernel
theorem dX4_goneBehind_33 : decode cX4_goneBehind 33 = .ok (.iload_n 3, 1) := by decide +kernel
theorem dX4_goneBehind_34 : decode cX4_goneBehind 34 = .ok (.ireturn, 1) := by decide +kernel
theorem dX4_isDry_0 : decode cX4_isDry 0 = .ok (.iconst 0, 1) := by decide +kernel
theorem dX4_isDry_1 : decode cX4_isDry 1 = .ok (.istore_n 2, 1) := by decide +kernel
theorem dX4_isDry_2 : decode cX4_isDry 2 = .ok (.iload_n 2, 1) := by decide +kernel
theorem dX4_isDry_3 : decode cX4_isDry 3 = .ok (.aload_n 0, 1) := by decide +kernel
theorem dX4_isDry_4 : decode cX4_isDry 4 = .ok (.invokevirtual 67, 3) := by decide +kernel
theorem dX4_isDry_7 : decode cX4_isDry 7 = .ok (.if_icmp .ge 17, 3) := by decide +kernel
theorem dX4_isDry_10 : decode cX4_isDry 10 = .ok (.aload_n 1, 1) := by decide +kernel
theorem dX4_isDry_11 : decode cX4_isDry 11 = .ok (.iload_n 2, 1) := by decide +kernel
theorem dX4_isDry_12 : decode cX4_isDry 12 = .ok (.iaload, 1) := by decide +kernel
theorem dX4_isDry_13 : decode cX4_isDry 13 = .ok (.ifCond .le 5, 3) := by decide +kernel
theorem dX4_isDry_16 : decode cX4_isDry 16 = .ok (.iconst 0, 1) := by decide +kernel
theorem dX4_isDry_17 : decode cX4_isDry 17 = .ok (.ireturn, 1) := by decide +kernel
theorem dX4_isDry_18 : decode cX4_isDry 18 = .ok (.iinc 2 1, 3) := by decide +kernel
theorem dX4_isDry_21 : decode cX4_isDry 21 = .ok (.goto (-19), 3) := by decide +kernel
theorem dX4_isDry_24 : decode cX4_isDry 24 = .ok (.iconst 1, 1) := by decide +kernel
theorem dX4_isDry_25 : decode cX4_isDry 25 = .ok (.ireturn, 1) := by decide +kernel
theorem dX4_lay_0 : decode cX4_lay 0 = .ok (.aload_n 0, 1) := by decide +kernel
theorem dX4_lay_1 : decode cX4_lay 1 = .ok (.iconst 0, 1) := by decide +kernel
theorem dX4_lay_2 : decode cX4_lay 2 = .ok (.putfield 38, 3) := by decide +kernel
theorem dX4_lay_5 : decode cX4_lay 5 = .ok (.iload_n 1, 1) := by decide +kernel
theorem dX4_lay_6 : decode cX4_lay 6 = .ok (.iconst 1, 1) := by decide +kernel
theorem dX4_lay_7 : decode cX4_lay 7 = .ok (.bipush 8, 2) := by decide +kernel
theorem dX4_lay_9 : decode cX4_lay 9 = .ok (.invokestatic 41, 3) := by decide +kernel
theorem dX4_lay_12 : decode cX4_lay 12 = .ok (.ifCond .eq 13, 3) := by decide +kernel
theorem dX4_lay_15 : decode cX4_lay 15 = .ok (.iload_n 2, 1) := by decide +kernel
theorem dX4_lay_16 : decode cX4_lay 16 = .ok (.iconst 1, 1) := by decide +kernel
theorem dX4_lay_17 : decode cX4_lay 17 = .ok (.bipush 16, 2) := by decide +kernel
theorem dX4_lay_19 : decode cX4_lay 19 = .ok (.invokestatic 41, 3) := by decide +kernel
theorem dX4_lay_22 : decode cX4_lay 22 = .ok (.ifCond .ne 9, 3) := by decide +kernel
theorem dX4_lay_25 : decode cX4_lay 25 = .ok (.aload_n 0, 1) := by decide +kernel
theorem dX4_lay_26 : decode cX4_lay 26 = .ok (.iconst 1, 1) := by decide +kernel
theorem dX4_lay_27 : decode cX4_lay 27 = .ok (.invokevirtual 84, 3) := by decide +kernel
theorem dX4_lay_30 : decode cX4_lay 30 = .ok (.ireturn, 1) := by decide +kernel
theorem dX4_lay_31 : decode cX4_lay 31 = .ok (.aload_n 0, 1) := by decide +kernel
theorem dX4_lay_32 : decode cX4_lay 32 = .ok (.iload_n 1, 1) := by decide +kernel
theorem dX4_lay_33 : decode cX4_lay 33 = .ok (.putfield 9, 3) := by decide +kernel
theorem dX4_lay_36 : decode cX4_lay 36 = .ok (.aload_n 0, 1) := by decide +kernel
theorem dX4_lay_37 : decode cX4_lay 37 = .ok (.iload_n 2, 1) := by decide +kernel
theorem dX4_lay_38 : decode cX4_lay 38 = .ok (.putfield 13, 3) := by decide +kernel
theorem dX4_lay_41 : decode cX4_lay 41 = .ok (.aload_n 0, 1) := by decide +kernel
theorem dX4_lay_42 : decode cX4_lay 42 = .ok (.invokevirtual 35, 3) := by decide +kernel
theorem dX4_lay_45 : decode cX4_lay 45 = .ok (.aload_n 0, 1) := by decide +kernel
theorem dX4_lay_46 : decode cX4_lay 46 = .ok (.invokevirtual 67, 3) := by decide +kernel
theorem dX4_lay_49 : decode cX4_lay 49 = .ok (.ireturn, 1) := by decide +kernel
theorem dX4_rain_0 : decode cX4_rain 0 = .ok (.aload_n 0, 1) := by decide +kernel
theorem dX4_rain_1 : decode cX4_rain 1 = .ok (.iconst 0, 1) := by decide +kernel
theorem dX4_rain_2 : decode cX4_rain 2 = .ok (.putfield 38, 3) := by decide +kernel
theorem dX4_rain_5 : decode cX4_rain 5 = .ok (.aload_n 0, 1) := by decide +kernel
theorem dX4_rain_6 : decode cX4_rain 6 = .ok (.iload_n 1, 1) := by decide +kernel
theorem dX4_rain_7 : decode cX4_rain 7 = .ok (.invokevirtual 48, 3) := by decide +kernel
theorem dX4_rain_10 : decode cX4_rain 10 = .ok (.ifCond .eq 11, 3) := by decide +kernel
theorem dX4_rain_13 : decode cX4_rain 13 = .ok (.aload_n 0, 1) := by decide +kernel
theorem dX4_rain_14 : decode cX4_rain 14 = .ok (.iload_n 2, 1) := by decide +kernel
theorem dX4_rain_15 : decode cX4_rain 15 = .ok (.invokevirtual 52, 3) := by decide +kernel
theorem dX4_rain_18 : decode cX4_rain 18 = .ok (.ifCond .ne 9, 3) := by decide +kernel
theorem dX4_rain_21 : decode cX4_rain 21 = .ok (.aload_n 0, 1) := by decide +kernel
theorem dX4_rain_22 : decode cX4_rain 22 = .ok (.iconst 1, 1) := by decide +kernel
theorem dX4_rain_23 : decode cX4_rain 23 = .ok (.invokevirtual 84, 3) := by decide +kernel
theorem dX4_rain_26 : decode cX4_rain 26 = .ok (.ireturn, 1) := by decide +kernel
theorem dX4_rain_27 : decode cX4_rain 27 = .ok (.iload_n 3, 1) := by decide +kernel
theorem dX4_rain_28 : decode cX4_rain 28 = .ok (.bipush (-99), 2) := by decide +kernel
theorem dX4_rain_30 : decode cX4_rain 30 = .ok (.bipush 99, 2) := by decide +kernel
theorem dX4_rain_32 : decode cX4_rain 32 = .ok (.invokestatic 41, 3) := by decide +kernel
theorem dX4_rain_35 : decode cX4_rain 35 = .ok (.ifCond .ne 9, 3) := by decide +kernel
theorem dX4_rain_38 : decode cX4_rain 38 = .ok (.aload_n 0, 1) := by decide +kernel
theorem dX4_rain_39 : decode cX4_rain 39 = .ok (.iconst 2, 1) := by decide +kernel
theorem dX4_rain_40 : decode cX4_rain 40 = .ok (.invokevirtual 84, 3) := by decide +kernel
theorem dX4_rain_43 : decode cX4_rain 43 = .ok (.ireturn, 1) := by decide +kernel
theorem dX4_rain_44 : decode cX4_rain 44 = .ok (.aload_n 0, 1) := by decide +kernel
theorem dX4_rain_45 : decode cX4_rain 45 = .ok (.invokevirtual 88, 3) := by decide +kernel
theorem dX4_rain_48 : decode cX4_rain 48 = .ok (.aload_n 0, 1) := by decide +kernel
theorem dX4_rain_49 : decode cX4_rain 49 = .ok (.getfield 23, 3) := by decide +kernel
theorem dX4_rain_52 : decode cX4_rain 52 = .ok (.iload_n 1, 1) := by decide +kernel
theorem dX4_rain_53 : decode cX4_rain 53 = .ok (.aload_n 0, 1) := by decide +kernel
theorem dX4_rain_54 : decode cX4_rain 54 = .ok (.getfield 13, 3) := by decide +kernel
theorem dX4_rain_57 : decode cX4_rain 57 = .ok (.imul, 1) := by decide +kernel
theorem dX4_rain_58 : decode cX4_rain 58 = .ok (.iload_n 2, 1) := by decide +kernel
theorem dX4_rain_59 : decode cX4_rain 59 = .ok (.iadd, 1) := by decide +kernel
theorem dX4_rain_60 : decode cX4_rain 60 = .ok (.dup2, 1) := by decide +kernel
theorem dX4_rain_61 : decode cX4_rain 61 = .ok (.iaload, 1) := by decide +kernel
theorem dX4_rain_62 : decode cX4_rain 62 = .ok (.iload_n 3, 1) := by decide +kernel
theorem dX4_rain_63 : decode cX4_rain 63 = .ok (.iadd, 1) := by decide +kernel
theorem dX4_rain_64 : decode cX4_rain 64 = .ok (.iastore, 1) := by decide +kernel
theorem dX4_rain_65 : decode cX4_rain 65 = .ok (.aload_n 0, 1) := by decide +kernel
theorem dX4_rain_66 : decode cX4_rain 66 = .ok (.getfield 23, 3) := by decide +kernel
theorem dX4_rain_69 : decode cX4_rain 69 = .ok (.iload_n 1, 1) := by decide +kernel
theorem dX4_rain_70 : decode cX4_rain 70 = .ok (.aload_n 0, 1) := by decide +kernel
theorem dX4_rain_71 : decode cX4_rain 71 = .ok (.getfield 13, 3) := by decide +kernel
theorem dX4_rain_74 : decode cX4_rain 74 = .ok (.imul, 1) := by decide +kernel
theorem dX4_rain_75 : decode cX4_rain 75 = .ok (.iload_n 2, 1) := by decide +kernel
theorem dX4_rain_76 : decode cX4_rain 76 = .ok (.iadd, 1) := by decide +kernel
theorem dX4_rain_77 : decode cX4_rain 77 = .ok (.iaload, 1) := by decide +kernel
theorem dX4_rain_78 : decode cX4_rain 78 = .ok (.ireturn, 1) := by decide +kernel
theorem dX4_splash_0 : decode cX4_splash 0 = .ok (.aload_n 0, 1) := by decide +kernel
theorem dX4_splash_1 : decode cX4_splash 1 = .ok (.aload_n 0, 1) := by decide +kernel
theorem dX4_splash_2 : decode cX4_splash 2 = .ok (.iload_n 1, 1) := by decide +kernel
theorem dX4_splash_3 : decode cX4_splash 3 = .ok (.iload_n 2, 1) := by decide +kernel
theorem dX4_splash_4 : decode cX4_splash 4 = .ok (.iload_n 3, 1) := by decide +kernel
theorem dX4_splash_5 : decode cX4_splash 5 = .ok (.iload 4, 2) := by decide +kernel
theorem dX4_splash_7 : decode cX4_splash 7 = .ok (.invokevirtual 91, 3) := by decide +kernel
theorem dX4_splash_10 : decode cX4_splash 10 = .ok (.putfield 38, 3) := by decide +kernel
theorem dX4_splash_13 : decode cX4_splash 13 = .ok (.aload_n 0, 1) := by decide +kernel
theorem dX4_splash_14 : decode cX4_splash 14 = .ok (.getfield 38, 3) := by decide +kernel
theorem dX4_splash_17 : decode cX4_splash 17 = .ok (.ifCond .le 5, 3) := by decide +kernel
theorem dX4_splash_20 : decode cX4_splash 20 = .ok (.iconst 0, 1) := by decide +kernel
theorem dX4_splash_21 : decode cX4_splash 21 = .ok (.ireturn, 1) := by decide +kernel
theorem dX4_splash_22 : decode cX4_splash 22 = .ok (.iload 5, 2) := by decide +kernel
theorem dX4_splash_24 : decode cX4_splash 24 = .ok (.bipush (-99), 2) := by decide +kernel
theorem dX4_splash_26 : decode cX4_splash 26 = .ok (.bipush 99, 2) := by decide +kernel
theorem dX4_splash_28 : decode cX4_splash 28 = .ok (.invokestatic 41, 3) := by decide +kernel
theorem dX4_splash_31 : decode cX4_splash 31 = .ok (.ifCond .ne 9, 3) := by decide +kernel
theorem dX4_splash_34 : decode cX4_splash 34 = .ok (.aload_n 0, 1) := by decide +kernel
theorem dX4_splash_35 : decode cX4_splash 35 = .ok (.iconst 2, 1) := by decide +kernel
theorem dX4_splash_36 : decode cX4_splash 36 = .ok (.invokevirtual 84, 3) := by decide +kernel
theorem dX4_splash_39 : decode cX4_splash 39 = .ok (.ireturn, 1) := by decide +kernel
theorem dX4_splash_40 : decode cX4_splash 40 = .ok (.aload_n 0, 1) := by decide +kernel
theorem dX4_splash_41 : decode cX4_splash 41 = .ok (.invokevirtual 88, 3) := by decide +kernel
theorem dX4_splash_44 : decode cX4_splash 44 = .ok (.iload_n 1, 1) := by decide +kernel
theorem dX4_splash_45 : decode cX4_splash 45 = .ok (.istore 6, 2) := by decide +kernel
theorem dX4_splash_47 : decode cX4_splash 47 = .ok (.iload 6, 2) := by decide +kernel
theorem dX4_splash_49 : decode cX4_splash 49 = .ok (.iload_n 3, 1) := by decide +kernel
theorem dX4_splash_50 : decode cX4_splash 50 = .ok (.if_icmp .gt 45, 3) := by decide +kernel
theorem dX4_splash_53 : decode cX4_splash 53 = .ok (.iload_n 2, 1) := by decide +kernel
theorem dX4_splash_54 : decode cX4_splash 54 = .ok (.istore 7, 2) := by decide +kernel
theorem dX4_splash_56 : decode cX4_splash 56 = .ok (.iload 7, 2) := by decide +kernel
theorem dX4_splash_58 : decode cX4_splash 58 = .ok (.iload 4, 2) := by decide +kernel
theorem dX4_splash_60 : decode cX4_splash 60 = .ok (.if_icmp .gt 29, 3) := by decide +kernel
theorem dX4_splash_63 : decode cX4_splash 63 = .ok (.aload_n 0, 1) := by decide +kernel
theorem dX4_splash_64 : decode cX4_splash 64 = .ok (.getfield 23, 3) := by decide +kernel
theorem dX4_splash_67 : decode cX4_splash 67 = .ok (.iload 6, 2) := by decide +kernel
theorem dX4_splash_69 : decode cX4_splash 69 = .ok (.aload_n 0, 1) := by decide +kernel
theorem dX4_splash_70 : decode cX4_splash 70 = .ok (.getfield 13, 3) := by decide +kernel
theorem dX4_splash_73 : decode cX4_splash 73 = .ok (.imul, 1) := by decide +kernel
theorem dX4_splash_74 : decode cX4_splash 74 = .ok (.iload 7, 2) := by decide +kernel
theorem dX4_splash_76 : decode cX4_splash 76 = .ok (.iadd, 1) := by decide +kernel
theorem dX4_splash_77 : decode cX4_splash 77 = .ok (.dup2, 1) := by decide +kernel
theorem dX4_splash_78 : decode cX4_splash 78 = .ok (.iaload, 1) := by decide +kernel
theorem dX4_splash_79 : decode cX4_splash 79 = .ok (.iload 5, 2) := by decide +kernel
theorem dX4_splash_81 : decode cX4_splash 81 = .ok (.iadd, 1) := by decide +kernel
theorem dX4_splash_82 : decode cX4_splash 82 = .ok (.iastore, 1) := by decide +kernel
theorem dX4_splash_83 : decode cX4_splash 83 = .ok (.iinc 7 1, 3) := by decide +kernel
theorem dX4_splash_86 : decode cX4_splash 86 = .ok (.goto (-30), 3) := by decide +kernel
theorem dX4_splash_89 : decode cX4_splash 89 = .ok (.iinc 6 1, 3) := by decide +kernel
theorem dX4_splash_92 : decode cX4_splash 92 = .ok (.goto (-45), 3) := by decide +kernel
theorem dX4_splash_95 : decode cX4_splash 95 = .ok (.iload_n 3, 1) := by decide +kernel
theorem dX4_splash_96 : decode cX4_splash 96 = .ok (.iload_n 1, 1) := by decide +kernel
theorem dX4_splash_97 : decode cX4_splash 97 = .ok (.isub, 1) := by decide +kernel
theorem dX4_splash_98 : decode cX4_splash 98 = .ok (.iconst 1, 1) := by decide +kernel
theorem dX4_splash_99 : decode cX4_splash 99 = .ok (.iadd, 1) := by decide +kernel
theorem dX4_splash_100 : decode cX4_splash 100 = .ok (.iload 4, 2) := by decide +kernel
theorem dX4_splash_102 : decode cX4_splash 102 = .ok (.iload_n 2, 1) := by decide +kernel
theorem dX4_splash_103 : decode cX4_splash 103 = .ok (.isub, 1) := by decide +kernel
theorem dX4_splash_104 : decode cX4_splash 104 = .ok (.iconst 1, 1) := by decide +kernel
theorem dX4_splash_105 : decode cX4_splash 105 = .ok (.iadd, 1) := by decide +kernel
theorem dX4_splash_106 : decode cX4_splash 106 = .ok (.imul, 1) := by decide +kernel
theorem dX4_splash_107 : decode cX4_splash 107 = .ok (.ireturn, 1) := by decide +kernel
theorem dX4_change_0 : decode cX4_change 0 = .ok (.iconst 0, 1) := by decide +kernel
theorem dX4_change_1 : decode cX4_change 1 = .ok (.istore_n 3, 1) := by decide +kernel
theorem dX4_change_2 : decode cX4_change 2 = .ok (.iconst 0, 1) := by decide +kernel
theorem dX4_change_3 : decode cX4_change 3 = .ok (.istore 4, 2) := by decide +kernel
theorem dX4_change_5 : decode cX4_change 5 = .ok (.iload 4, 2) := by decide +kernel
theorem dX4_change_7 : decode cX4_change 7 = .ok (.aload_n 0, 1) := by decide +kernel
theorem dX4_change_8 : decode cX4_change 8 = .ok (.getfield 13, 3) := by decide +kernel
theorem dX4_change_11 : decode cX4_change 11 = .ok (.if_icmp .ge 88, 3) := by decide +kernel
theorem dX4_change_14 : decode cX4_change 14 = .ok (.aload_n 0, 1) := by decide +kernel
theorem dX4_change_15 : decode cX4_change 15 = .ok (.getfield 23, 3) := by decide +kernel
theorem dX4_change_18 : decode cX4_change 18 = .ok (.iload_n 1, 1) := by decide +kernel
theorem dX4_change_19 : decode cX4_change 19 = .ok (.aload_n 0, 1) := by decide +kernel
theorem dX4_change_20 : decode cX4_change 20 = .ok (.getfield 13, 3) := by decide +kernel
theorem dX4_change_23 : decode cX4_change 23 = .ok (.imul, 1) := by decide +kernel
theorem dX4_change_24 : decode cX4_change 24 = .ok (.iload 4, 2) := by decide +kernel
theorem dX4_change_26 : decode cX4_change 26 = .ok (.iadd, 1) := by decide +kernel
theorem dX4_change_27 : decode cX4_change 27 = .ok (.iaload, 1) := by decide +kernel
theorem dX4_change_28 : decode cX4_change 28 = .ok (.istore 5, 2) := by decide +kernel
theorem dX4_change_30 : decode cX4_change 30 = .ok (.aload_n 0, 1) := by decide +kernel
theorem dX4_change_31 : decode cX4_change 31 = .ok (.getfield 23, 3) := by decide +kernel
theorem dX4_change_34 : decode cX4_change 34 = .ok (.iload_n 2, 1) := by decide +kernel
theorem dX4_change_35 : decode cX4_change 35 = .ok (.aload_n 0, 1) := by decide +kernel
theorem dX4_change_36 : decode cX4_change 36 = .ok (.getfield 13, 3) := by decide +kernel
theorem dX4_change_39 : decode cX4_change 39 = .ok (.imul, 1) := by decide +kernel
theorem dX4_change_40 : decode cX4_change 40 = .ok (.iload 4, 2) := by decide +kernel
theorem dX4_change_42 : decode cX4_change 42 = .ok (.iadd, 1) := by decide +kernel
theorem dX4_change_43 : decode cX4_change 43 = .ok (.iaload, 1) := by decide +kernel
theorem dX4_change_44 : decode cX4_change 44 = .ok (.istore 6, 2) := by decide +kernel
theorem dX4_change_46 : decode cX4_change 46 = .ok (.aload_n 0, 1) := by decide +kernel
theorem dX4_change_47 : decode cX4_change 47 = .ok (.getfield 23, 3) := by decide +kernel
theorem dX4_change_50 : decode cX4_change 50 = .ok (.iload_n 1, 1) := by decide +kernel
theorem dX4_change_51 : decode cX4_change 51 = .ok (.aload_n 0, 1) := by decide +kernel
theorem dX4_change_52 : decode cX4_change 52 = .ok (.getfield 13, 3) := by decide +kernel
theorem dX4_change_55 : decode cX4_change 55 = .ok (.imul, 1) := by decide +kernel
theorem dX4_change_56 : decode cX4_change 56 = .ok (.iload 4, 2) := by decide +kernel
theorem dX4_change_58 : decode cX4_change 58 = .ok (.iadd, 1) := by decide +kernel
theorem dX4_change_59 : decode cX4_change 59 = .ok (.iload 6, 2) := by decide +kernel
theorem dX4_change_61 : decode cX4_change 61 = .ok (.iastore, 1) := by decide +kernel
theorem dX4_change_62 : decode cX4_change 62 = .ok (.aload_n 0, 1) := by decide +kernel
theorem dX4_change_63 : decode cX4_change 63 = .ok (.getfield 23, 3) := by decide +kernel
theorem dX4_change_66 : decode cX4_change 66 = .ok (.iload_n 2, 1) := by decide +kernel
theorem dX4_change_67 : decode cX4_change 67 = .ok (.aload_n 0, 1) := by decide +kernel
theorem dX4_change_68 : decode cX4_change 68 = .ok (.getfield 13, 3) := by decide +kernel
theorem dX4_change_71 : decode cX4_change 71 = .ok (.imul, 1) := by decide +kernel
theorem dX4_change_72 : decode cX4_change 72 = .ok (.iload 4, 2) := by decide +kernel
theorem dX4_change_74 : decode cX4_change 74 = .ok (.iadd, 1) := by decide +kernel
theorem dX4_change_75 : decode cX4_change 75 = .ok (.iload 5, 2) := by decide +kernel
theorem dX4_change_77 : decode cX4_change 77 = .ok (.iastore, 1) := by decide +kernel
theorem dX4_change_78 : decode cX4_change 78 = .ok (.iload_n 3, 1) := by decide +kernel
theorem dX4_change_79 : decode cX4_change 79 = .ok (.iload 5, 2) := by decide +kernel
theorem dX4_change_81 : decode cX4_change 81 = .ok (.iload 6, 2) := by decide +kernel
theorem dX4_change_83 : decode cX4_change 83 = .ok (.if_icmp .ne 7, 3) := by decide +kernel
theorem dX4_change_86 : decode cX4_change 86 = .ok (.iconst 0, 1) := by decide +kernel
theorem dX4_change_87 : decode cX4_change 87 = .ok (.goto 4, 3) := by decide +kernel
theorem dX4_change_90 : decode cX4_change 90 = .ok (.iconst 1, 1) := by decide +kernel
theorem dX4_change_91 : decode cX4_change 91 = .ok (.iadd, 1) := by decide +kernel
theorem dX4_change_92 : decode cX4_change 92 = .ok (.istore_n 3, 1) := by decide +kernel
theorem dX4_change_93 : decode cX4_change 93 = .ok (.iinc 4 1, 3) := by decide +kernel
theorem dX4_change_96 : decode cX4_change 96 = .ok (.goto (-91), 3) := by decide +kernel
theorem dX4_change_99 : decode cX4_change 99 = .ok (.iload_n 3, 1) := by decide +kernel
theorem dX4_change_100 : decode cX4_change 100 = .ok (.ireturn, 1) := by decide +kernel
theorem dX4_swap_0 : decode cX4_swap 0 = .ok (.aload_n 0, 1) := by decide +kernel
theorem dX4_swap_1 : decode cX4_swap 1 = .ok (.iconst 0, 1) := by decide +kernel
theorem dX4_swap_2 : decode cX4_swap 2 = .ok (.putfield 38, 3) := by decide +kernel
theorem dX4_swap_5 : decode cX4_swap 5 = .ok (.aload_n 0, 1) := by decide +kernel
theorem dX4_swap_6 : decode cX4_swap 6 = .ok (.iload_n 1, 1) := by decide +kernel
theorem dX4_swap_7 : decode cX4_swap 7 = .ok (.invokevirtual 48, 3) := by decide +kernel
theorem dX4_swap_10 : decode cX4_swap 10 = .ok (.ifCond .eq 11, 3) := by decide +kernel
theorem dX4_swap_13 : decode cX4_swap 13 = .ok (.aload_n 0, 1) := by decide +kernel
theorem dX4_swap_14 : decode cX4_swap 14 = .ok (.iload_n 2, 1) := by decide +kernel
theorem dX4_swap_15 : decode cX4_swap 15 = .ok (.invokevirtual 48, 3) := by decide +kernel
theorem dX4_swap_18 : decode cX4_swap 18 = .ok (.ifCond .ne 9, 3) := by decide +kernel
theorem dX4_swap_21 : decode cX4_swap 21 = .ok (.aload_n 0, 1) := by decide +kernel
theorem dX4_swap_22 : decode cX4_swap 22 = .ok (.iconst 1, 1) := by decide +kernel
theorem dX4_swap_23 : decode cX4_swap 23 = .ok (.invokevirtual 84, 3) := by decide +kernel
theorem dX4_swap_26 : decode cX4_swap 26 = .ok (.ireturn, 1) := by decide +kernel
theorem dX4_swap_27 : decode cX4_swap 27 = .ok (.aload_n 0, 1) := by decide +kernel
theorem dX4_swap_28 : decode cX4_swap 28 = .ok (.invokevirtual 88, 3) := by decide +kernel
theorem dX4_swap_31 : decode cX4_swap 31 = .ok (.aload_n 0, 1) := by decide +kernel
theorem dX4_swap_32 : decode cX4_swap 32 = .ok (.iload_n 1, 1) := by decide +kernel
theorem dX4_swap_33 : decode cX4_swap 33 = .ok (.iload_n 2, 1) := by decide +kernel
theorem dX4_swap_34 : decode cX4_swap 34 = .ok (.invokevirtual 95, 3) := by decide +kernel
theorem dX4_swap_37 : decode cX4_swap 37 = .ok (.ireturn, 1) := by decide +kernel
theorem dX4_turn_0 : decode cX4_turn 0 = .ok (.aload_n 0, 1) := by decide +kernel
theorem dX4_turn_1 : decode cX4_turn 1 = .ok (.iconst 0, 1) := by decide +kernel
theorem dX4_turn_2 : decode cX4_turn 2 = .ok (.putfield 38, 3) := by decide +kernel
theorem dX4_turn_5 : decode cX4_turn 5 = .ok (.aload_n 0, 1) := by decide +kernel
theorem dX4_turn_6 : decode cX4_turn 6 = .ok (.iload_n 1, 1) := by decide +kernel
theorem dX4_turn_7 : decode cX4_turn 7 = .ok (.invokevirtual 48, 3) := by decide +kernel
theorem dX4_turn_10 : decode cX4_turn 10 = .ok (.ifCond .ne 9, 3) := by decide +kernel
theorem dX4_turn_13 : decode cX4_turn 13 = .ok (.aload_n 0, 1) := by decide +kernel
theorem dX4_turn_14 : decode cX4_turn 14 = .ok (.iconst 1, 1) := by decide +kernel
theorem dX4_turn_15 : decode cX4_turn 15 = .ok (.invokevirtual 84, 3) := by decide +kernel
theorem dX4_turn_18 : decode cX4_turn 18 = .ok (.ireturn, 1) := by decide +kernel
theorem dX4_turn_19 : decode cX4_turn 19 = .ok (.aload_n 0, 1) := by decide +kernel
theorem dX4_turn_20 : decode cX4_turn 20 = .ok (.invokevirtual 88, 3) := by decide +kernel
theorem dX4_turn_23 : decode cX4_turn 23 = .ok (.iload_n 1, 1) := by decide +kernel
theorem dX4_turn_24 : decode cX4_turn 24 = .ok (.aload_n 0, 1) := by decide +kernel
theorem dX4_turn_25 : decode cX4_turn 25 = .ok (.getfield 13, 3) := by decide +kernel
theorem dX4_turn_28 : decode cX4_turn 28 = .ok (.imul, 1) := by decide +kernel
theorem dX4_turn_29 : decode cX4_turn 29 = .ok (.istore_n 2, 1) := by decide +kernel
theorem dX4_turn_30 : decode cX4_turn 30 = .ok (.aload_n 0, 1) := by decide +kernel
theorem dX4_turn_31 : decode cX4_turn 31 = .ok (.getfield 23, 3) := by decide +kernel
theorem dX4_turn_34 : decode cX4_turn 34 = .ok (.iload_n 2, 1) := by decide +kernel
theorem dX4_turn_35 : decode cX4_turn 35 = .ok (.aload_n 0, 1) := by decide +kernel
theorem dX4_turn_36 : decode cX4_turn 36 = .ok (.getfield 32, 3) := by decide +kernel
theorem dX4_turn_39 : decode cX4_turn 39 = .ok (.iconst 0, 1) := by decide +kernel
theorem dX4_turn_40 : decode cX4_turn 40 = .ok (.aload_n 0, 1) := by decide +kernel
theorem dX4_turn_41 : decode cX4_turn 41 = .ok (.getfield 13, 3) := by decide +kernel
theorem dX4_turn_44 : decode cX4_turn 44 = .ok (.invokestatic 61, 3) := by decide +kernel
theorem dX4_turn_47 : decode cX4_turn 47 = .ok (.iconst 0, 1) := by decide +kernel
theorem dX4_turn_48 : decode cX4_turn 48 = .ok (.istore_n 3, 1) := by decide +kernel
theorem dX4_turn_49 : decode cX4_turn 49 = .ok (.iconst 0, 1) := by decide +kernel
theorem dX4_turn_50 : decode cX4_turn 50 = .ok (.istore 4, 2) := by decide +kernel
theorem dX4_turn_52 : decode cX4_turn 52 = .ok (.iload 4, 2) := by decide +kernel
theorem dX4_turn_54 : decode cX4_turn 54 = .ok (.aload_n 0, 1) := by decide +kernel
theorem dX4_turn_55 : decode cX4_turn 55 = .ok (.getfield 13, 3) := by decide +kernel
theorem dX4_turn_58 : decode cX4_turn 58 = .ok (.if_icmp .ge 64, 3) := by decide +kernel
theorem dX4_turn_61 : decode cX4_turn 61 = .ok (.iload_n 3, 1) := by decide +kernel
theorem dX4_turn_62 : decode cX4_turn 62 = .ok (.aload_n 0, 1) := by decide +kernel
theorem dX4_turn_63 : decode cX4_turn 63 = .ok (.getfield 32, 3) := by decide +kernel
theorem dX4_turn_66 : decode cX4_turn 66 = .ok (.aload_n 0, 1) := by decide +kernel
theorem dX4_turn_67 : decode cX4_turn 67 = .ok (.getfield 13, 3) := by decide +kernel
theorem dX4_turn_70 : decode cX4_turn 70 = .ok (.iconst 1, 1) := by decide +kernel
theorem dX4_turn_71 : decode cX4_turn 71 = .ok (.isub, 1) := by decide +kernel
theorem dX4_turn_72 : decode cX4_turn 72 = .ok (.iload 4, 2) := by decide +kernel
theorem dX4_turn_74 : decode cX4_turn 74 = .ok (.isub, 1) := by decide +kernel
theorem dX4_turn_75 : decode cX4_turn 75 = .ok (.iaload, 1) := by decide +kernel
theorem dX4_turn_76 : decode cX4_turn 76 = .ok (.aload_n 0, 1) := by decide +kernel
theorem dX4_turn_77 : decode cX4_turn 77 = .ok (.getfield 32, 3) := by decide +kernel
theorem dX4_turn_80 : decode cX4_turn 80 = .ok (.iload 4, 2) := by decide +kernel
theorem dX4_turn_82 : decode cX4_turn 82 = .ok (.iaload, 1) := by decide +kernel
theorem dX4_turn_83 : decode cX4_turn 83 = .ok (.if_icmp .ne 7, 3) := by decide +kernel
theorem dX4_turn_86 : decode cX4_turn 86 = .ok (.iconst 0, 1) := by decide +kernel
theorem dX4_turn_87 : decode cX4_turn 87 = .ok (.goto 4, 3) := by decide +kernel
theorem dX4_turn_90 : decode cX4_turn 90 = .ok (.iconst 1, 1) := by decide +kernel
theorem dX4_turn_91 : decode cX4_turn 91 = .ok (.iadd, 1) := by decide +kernel
theorem dX4_turn_92 : decode cX4_turn 92 = .ok (.istore_n 3, 1) := by decide +kernel
theorem dX4_turn_93 : decode cX4_turn 93 = .ok (.aload_n 0, 1) := by decide +kernel
theorem dX4_turn_94 : decode cX4_turn 94 = .ok (.getfield 23, 3) := by decide +kernel
theorem dX4_turn_97 : decode cX4_turn 97 = .ok (.iload_n 2, 1) := by decide +kernel
theorem dX4_turn_98 : decode cX4_turn 98 = .ok (.iload 4, 2) := by decide +kernel
theorem dX4_turn_100 : decode cX4_turn 100 = .ok (.iadd, 1) := by decide +kernel
theorem dX4_turn_101 : decode cX4_turn 101 = .ok (.aload_n 0, 1) := by decide +kernel
theorem dX4_turn_102 : decode cX4_turn 102 = .ok (.getfield 32, 3) := by decide +kernel
theorem dX4_turn_105 : decode cX4_turn 105 = .ok (.aload_n 0, 1) := by decide +kernel
theorem dX4_turn_106 : decode cX4_turn 106 = .ok (.getfield 13, 3) := by decide +kernel
theorem dX4_turn_109 : decode cX4_turn 109 = .ok (.iconst 1, 1) := by decide +kernel
theorem dX4_turn_110 : decode cX4_turn 110 = .ok (.isub, 1) := by decide +kernel
theorem dX4_turn_111 : decode cX4_turn 111 = .ok (.iload 4, 2) := by decide +kernel
theorem dX4_turn_113 : decode cX4_turn 113 = .ok (.isub, 1) := by decide +kernel
theorem dX4_turn_114 : decode cX4_turn 114 = .ok (.iaload, 1) := by decide +kernel
theorem dX4_turn_115 : decode cX4_turn 115 = .ok (.iastore, 1) := by decide +kernel
theorem dX4_turn_116 : decode cX4_turn 116 = .ok (.iinc 4 1, 3) := by decide +kernel
theorem dX4_turn_119 : decode cX4_turn 119 = .ok (.goto (-67), 3) := by decide +kernel
theorem dX4_turn_122 : decode cX4_turn 122 = .ok (.iload_n 3, 1) := by decide +kernel
theorem dX4_turn_123 : decode cX4_turn 123 = .ok (.ireturn, 1) := by decide +kernel
theorem dX4_bail_0 : decode cX4_bail 0 = .ok (.aload_n 0, 1) := by decide +kernel
theorem dX4_bail_1 : decode cX4_bail 1 = .ok (.iconst 0, 1) := by decide +kernel
theorem dX4_bail_2 : decode cX4_bail 2 = .ok (.putfield 38, 3) := by decide +kernel
theorem dX4_bail_5 : decode cX4_bail 5 = .ok (.aload_n 0, 1) := by decide +kernel
theorem dX4_bail_6 : decode cX4_bail 6 = .ok (.iload_n 1, 1) := by decide +kernel
theorem dX4_bail_7 : decode cX4_bail 7 = .ok (.invokevirtual 48, 3) := by decide +kernel
theorem dX4_bail_10 : decode cX4_bail 10 = .ok (.ifCond .ne 9, 3) := by decide +kernel
theorem dX4_bail_13 : decode cX4_bail 13 = .ok (.aload_n 0, 1) := by decide +kernel
theorem dX4_bail_14 : decode cX4_bail 14 = .ok (.iconst 1, 1) := by decide +kernel
theorem dX4_bail_15 : decode cX4_bail 15 = .ok (.invokevirtual 84, 3) := by decide +kernel
theorem dX4_bail_18 : decode cX4_bail 18 = .ok (.ireturn, 1) := by decide +kernel
theorem dX4_bail_19 : decode cX4_bail 19 = .ok (.iload_n 2, 1) := by decide +kernel
theorem dX4_bail_20 : decode cX4_bail 20 = .ok (.iconst 1, 1) := by decide +kernel
theorem dX4_bail_21 : decode cX4_bail 21 = .ok (.sipush 999, 3) := by decide +kernel
theorem dX4_bail_24 : decode cX4_bail 24 = .ok (.invokestatic 41, 3) := by decide +kernel
theorem dX4_bail_27 : decode cX4_bail 27 = .ok (.ifCond .ne 9, 3) := by decide +kernel
theorem dX4_bail_30 : decode cX4_bail 30 = .ok (.aload_n 0, 1) := by decide +kernel
theorem dX4_bail_31 : decode cX4_bail 31 = .ok (.iconst 2, 1) := by decide +kernel
theorem dX4_bail_32 : decode cX4_bail 32 = .ok (.invokevirtual 84, 3) := by decide +kernel
theorem dX4_bail_35 : decode cX4_bail 35 = .ok (.ireturn, 1) := by decide +kernel
theorem dX4_bail_36 : decode cX4_bail 36 = .ok (.aload_n 0, 1) := by decide +kernel
theorem dX4_bail_37 : decode cX4_bail 37 = .ok (.invokevirtual 88, 3) := by decide +kernel
theorem dX4_bail_40 : decode cX4_bail 40 = .ok (.iload_n 2, 1) := by decide +kernel
theorem dX4_bail_41 : decode cX4_bail 41 = .ok (.istore_n 3, 1) := by decide +kernel
theorem dX4_bail_42 : decode cX4_bail 42 = .ok (.iload_n 1, 1) := by decide +kernel
theorem dX4_bail_43 : decode cX4_bail 43 = .ok (.aload_n 0, 1) := by decide +kernel
theorem dX4_bail_44 : decode cX4_bail 44 = .ok (.getfield 13, 3) := by decide +kernel
theorem dX4_bail_47 : decode cX4_bail 47 = .ok (.imul, 1) := by decide +kernel
theorem dX4_bail_48 : decode cX4_bail 48 = .ok (.istore 4, 2) := by decide +kernel
theorem dX4_bail_50 : decode cX4_bail 50 = .ok (.iload 4, 2) := by decide +kernel
theorem dX4_bail_52 : decode cX4_bail 52 = .ok (.iload_n 1, 1) := by decide +kernel
theorem dX4_bail_53 : decode cX4_bail 53 = .ok (.iconst 1, 1) := by decide +kernel
theorem dX4_bail_54 : decode cX4_bail 54 = .ok (.iadd, 1) := by decide +kernel
theorem dX4_bail_55 : decode cX4_bail 55 = .ok (.aload_n 0, 1) := by decide +kernel
theorem dX4_bail_56 : decode cX4_bail 56 = .ok (.getfield 13, 3) := by decide +kernel
theorem dX4_bail_59 : decode cX4_bail 59 = .ok (.imul, 1) := by decide +kernel
theorem dX4_bail_60 : decode cX4_bail 60 = .ok (.if_icmp .ge 43, 3) := by decide +kernel
theorem dX4_bail_63 : decode cX4_bail 63 = .ok (.iload_n 3, 1) := by decide +kernel
theorem dX4_bail_64 : decode cX4_bail 64 = .ok (.iconst 0, 1) := by decide +kernel
theorem dX4_bail_65 : decode cX4_bail 65 = .ok (.aload_n 0, 1) := by decide +kernel
theorem dX4_bail_66 : decode cX4_bail 66 = .ok (.getfield 23, 3) := by decide +kernel
theorem dX4_bail_69 : decode cX4_bail 69 = .ok (.iload 4, 2) := by decide +kernel
theorem dX4_bail_71 : decode cX4_bail 71 = .ok (.iaload, 1) := by decide +kernel
theorem dX4_bail_72 : decode cX4_bail 72 = .ok (.invokestatic 71, 3) := by decide +kernel
theorem dX4_bail_75 : decode cX4_bail 75 = .ok (.invokestatic 98, 3) := by decide +kernel
theorem dX4_bail_78 : decode cX4_bail 78 = .ok (.istore 5, 2) := by decide +kernel
theorem dX4_bail_80 : decode cX4_bail 80 = .ok (.aload_n 0, 1) := by decide +kernel
theorem dX4_bail_81 : decode cX4_bail 81 = .ok (.getfield 23, 3) := by decide +kernel
theorem dX4_bail_84 : decode cX4_bail 84 = .ok (.iload 4, 2) := by decide +kernel
theorem dX4_bail_86 : decode cX4_bail 86 = .ok (.dup2, 1) := by decide +kernel
theorem dX4_bail_87 : decode cX4_bail 87 = .ok (.iaload, 1) := by decide +kernel
theorem dX4_bail_88 : decode cX4_bail 88 = .ok (.iload 5, 2) := by decide +kernel
theorem dX4_bail_90 : decode cX4_bail 90 = .ok (.isub, 1) := by decide +kernel
theorem dX4_bail_91 : decode cX4_bail 91 = .ok (.iastore, 1) := by decide +kernel
theorem dX4_bail_92 : decode cX4_bail 92 = .ok (.iload_n 3, 1) := by decide +kernel
theorem dX4_bail_93 : decode cX4_bail 93 = .ok (.iload 5, 2) := by decide +kernel
theorem dX4_bail_95 : decode cX4_bail 95 = .ok (.isub, 1) := by decide +kernel
theorem dX4_bail_96 : decode cX4_bail 96 = .ok (.istore_n 3, 1) := by decide +kernel
theorem dX4_bail_97 : decode cX4_bail 97 = .ok (.iinc 4 1, 3) := by decide +kernel
theorem dX4_bail_100 : decode cX4_bail 100 = .ok (.goto (-50), 3) := by decide +kernel
theorem dX4_bail_103 : decode cX4_bail 103 = .ok (.iload_n 2, 1) := by decide +kernel
theorem dX4_bail_104 : decode cX4_bail 104 = .ok (.iload_n 3, 1) := by decide +kernel
theorem dX4_bail_105 : decode cX4_bail 105 = .ok (.isub, 1) := by decide +kernel
theorem dX4_bail_106 : decode cX4_bail 106 = .ok (.ireturn, 1) := by decide +kernel
theorem dX4_passHours_0 : decode cX4_passHours 0 = .ok (.aload_n 0, 1) := by decide +kernel
theorem dX4_passHours_1 : decode cX4_passHours 1 = .ok (.iconst 0, 1) := by decide +kernel
theorem dX4_passHours_2 : decode cX4_passHours 2 = .ok (.putfield 38, 3) := by decide +kernel
theorem dX4_passHours_5 : decode cX4_passHours 5 = .ok (.iload_n 1, 1) := by decide +kernel
theorem dX4_passHours_6 : decode cX4_passHours 6 = .ok (.iconst 1, 1) := by decide +kernel
theorem dX4_passHours_7 : decode cX4_passHours 7 = .ok (.bipush 40, 2) := by decide +kernel
theorem dX4_passHours_9 : decode cX4_passHours 9 = .ok (.invokestatic 41, 3) := by decide +kernel
theorem dX4_passHours_12 : decode cX4_passHours 12 = .ok (.ifCond .ne 9, 3) := by decide +kernel
theorem dX4_passHours_15 : decode cX4_passHours 15 = .ok (.aload_n 0, 1) := by decide +kernel
theorem dX4_passHours_16 : decode cX4_passHours 16 = .ok (.iconst 1, 1) := by decide +kernel
theorem dX4_passHours_17 : decode cX4_passHours 17 = .ok (.invokevirtual 84, 3) := by decide +kernel
theorem dX4_passHours_20 : decode cX4_passHours 20 = .ok (.ireturn, 1) := by decide +kernel
theorem dX4_passHours_21 : decode cX4_passHours 21 = .ok (.aload_n 0, 1) := by decide +kernel
theorem dX4_passHours_22 : decode cX4_passHours 22 = .ok (.invokevirtual 88, 3) := by decide +kernel
theorem dX4_passHours_25 : decode cX4_passHours 25 = .ok (.iconst 0, 1) := by decide +kernel
theorem dX4_passHours_26 : decode cX4_passHours 26 = .ok (.istore_n 2, 1) := by decide +kernel
theorem dX4_passHours_27 : decode cX4_passHours 27 = .ok (.iconst 0, 1) := by decide +kernel
theorem dX4_passHours_28 : decode cX4_passHours 28 = .ok (.istore_n 3, 1) := by decide +kernel
theorem dX4_passHours_29 : decode cX4_passHours 29 = .ok (.iload_n 3, 1) := by decide +kernel
theorem dX4_passHours_30 : decode cX4_passHours 30 = .ok (.iload_n 1, 1) := by decide +kernel
theorem dX4_passHours_31 : decode cX4_passHours 31 = .ok (.if_icmp .ge 24, 3) := by decide +kernel
theorem dX4_passHours_34 : decode cX4_passHours 34 = .ok (.iload_n 2, 1) := by decide +kernel
theorem dX4_passHours_35 : decode cX4_passHours 35 = .ok (.aload_n 0, 1) := by decide +kernel
theorem dX4_passHours_36 : decode cX4_passHours 36 = .ok (.aload_n 0, 1) := by decide +kernel
theorem dX4_passHours_37 : decode cX4_passHours 37 = .ok (.getfield 23, 3) := by decide +kernel
theorem dX4_passHours_40 : decode cX4_passHours 40 = .ok (.aload_n 0, 1) := by decide +kernel
theorem dX4_passHours_41 : decode cX4_passHours 41 = .ok (.getfield 16, 3) := by decide +kernel
theorem dX4_passHours_44 : decode cX4_passHours 44 = .ok (.invokevirtual 80, 3) := by decide +kernel
theorem dX4_passHours_47 : decode cX4_passHours 47 = .ok (.iadd, 1) := by decide +kernel
theorem dX4_passHours_48 : decode cX4_passHours 48 = .ok (.istore_n 2, 1) := by decide +kernel
theorem dX4_passHours_49 : decode cX4_passHours 49 = .ok (.iinc 3 1, 3) := by decide +kernel
theorem dX4_passHours_52 : decode cX4_passHours 52 = .ok (.goto (-23), 3) := by decide +kernel
theorem dX4_passHours_55 : decode cX4_passHours 55 = .ok (.aload_n 0, 1) := by decide +kernel
theorem dX4_passHours_56 : decode cX4_passHours 56 = .ok (.dup, 1) := by decide +kernel
theorem dX4_passHours_57 : decode cX4_passHours 57 = .ok (.getfield 101, 3) := by decide +kernel
theorem dX4_passHours_60 : decode cX4_passHours 60 = .ok (.iload_n 1, 1) := by decide +kernel
theorem dX4_passHours_61 : decode cX4_passHours 61 = .ok (.iadd, 1) := by decide +kernel
theorem dX4_passHours_62 : decode cX4_passHours 62 = .ok (.putfield 101, 3) := by decide +kernel
theorem dX4_passHours_65 : decode cX4_passHours 65 = .ok (.aload_n 0, 1) := by decide +kernel
theorem dX4_passHours_66 : decode cX4_passHours 66 = .ok (.dup, 1) := by decide +kernel
theorem dX4_passHours_67 : decode cX4_passHours 67 = .ok (.getfield 104, 3) := by decide +kernel
theorem dX4_passHours_70 : decode cX4_passHours 70 = .ok (.iload_n 2, 1) := by decide +kernel
theorem dX4_passHours_71 : decode cX4_passHours 71 = .ok (.i2l, 1) := by decide +kernel
theorem dX4_passHours_72 : decode cX4_passHours 72 = .ok (.ladd, 1) := by decide +kernel
theorem dX4_passHours_73 : decode cX4_passHours 73 = .ok (.putfield 104, 3) := by decide +kernel
theorem dX4_passHours_76 : decode cX4_passHours 76 = .ok (.iload_n 2, 1) := by decide +kernel
theorem dX4_passHours_77 : decode cX4_passHours 77 = .ok (.ireturn, 1) := by decide +kernel
theorem dX4_mark_0 : decode cX4_mark 0 = .ok (.aload_n 0, 1) := by decide +kernel
theorem dX4_mark_1 : decode cX4_mark 1 = .ok (.iconst 0, 1) := by decide +kernel
theorem dX4_mark_2 : decode cX4_mark 2 = .ok (.putfield 38, 3) := by decide +kernel
theorem dX4_mark_5 : decode cX4_mark 5 = .ok (.aload_n 0, 1) := by decide +kernel
theorem dX4_mark_6 : decode cX4_mark 6 = .ok (.getfield 45, 3) := by decide +kernel
theorem dX4_mark_9 : decode cX4_mark 9 = .ok (.bipush 12, 2) := by decide +kernel
theorem dX4_mark_11 : decode cX4_mark 11 = .ok (.if_icmp .ne 9, 3) := by decide +kernel
theorem dX4_mark_14 : decode cX4_mark 14 = .ok (.aload_n 0, 1) := by decide +kernel
theorem dX4_mark_15 : decode cX4_mark 15 = .ok (.iconst 1, 1) := by decide +kernel
theorem dX4_mark_16 : decode cX4_mark 16 = .ok (.invokevirtual 84, 3) := by decide +kernel
theorem dX4_mark_19 : decode cX4_mark 19 = .ok (.ireturn, 1) := by decide +kernel
theorem dX4_mark_20 : decode cX4_mark 20 = .ok (.aload_n 0, 1) := by decide +kernel
theorem dX4_mark_21 : decode cX4_mark 21 = .ok (.getfield 23, 3) := by decide +kernel
theorem dX4_mark_24 : decode cX4_mark 24 = .ok (.iconst 0, 1) := by decide +kernel
theorem dX4_mark_25 : decode cX4_mark 25 = .ok (.aload_n 0, 1) := by decide +kernel
theorem dX4_mark_26 : decode cX4_mark 26 = .ok (.getfield 29, 3) := by decide +kernel
theorem dX4_mark_29 : decode cX4_mark 29 = .ok (.sipush 128, 3) := by decide +kernel
theorem dX4_mark_32 : decode cX4_mark 32 = .ok (.aload_n 0, 1) := by decide +kernel
theorem dX4_mark_33 : decode cX4_mark 33 = .ok (.getfield 45, 3) := by decide +kernel
theorem dX4_mark_36 : decode cX4_mark 36 = .ok (.imul, 1) := by decide +kernel
theorem dX4_mark_37 : decode cX4_mark 37 = .ok (.sipush 128, 3) := by decide +kernel
theorem dX4_mark_40 : decode cX4_mark 40 = .ok (.invokestatic 61, 3) := by decide +kernel
theorem dX4_mark_43 : decode cX4_mark 43 = .ok (.aload_n 0, 1) := by decide +kernel
theorem dX4_mark_44 : decode cX4_mark 44 = .ok (.dup, 1) := by decide +kernel
theorem dX4_mark_45 : decode cX4_mark 45 = .ok (.getfield 45, 3) := by decide +kernel
theorem dX4_mark_48 : decode cX4_mark 48 = .ok (.iconst 1, 1) := by decide +kernel
theorem dX4_mark_49 : decode cX4_mark 49 = .ok (.iadd, 1) := by decide +kernel
theorem dX4_mark_50 : decode cX4_mark 50 = .ok (.putfield 45, 3) := by decide +kernel
theorem dX4_mark_53 : decode cX4_mark 53 = .ok (.aload_n 0, 1) := by decide +kernel
theorem dX4_mark_54 : decode cX4_mark 54 = .ok (.getfield 45, 3) := by decide +kernel
theorem dX4_mark_57 : decode cX4_mark 57 = .ok (.iconst 1, 1) := by decide +kernel
theorem dX4_mark_58 : decode cX4_mark 58 = .ok (.isub, 1) := by decide +kernel
theorem dX4_mark_59 : decode cX4_mark 59 = .ok (.ireturn, 1) := by decide +kernel
theorem dX4_back_0 : decode cX4_back 0 = .ok (.aload_n 0, 1) := by decide +kernel
theorem dX4_back_1 : decode cX4_back 1 = .ok (.iconst 0, 1) := by decide +kernel
theorem dX4_back_2 : decode cX4_back 2 = .ok (.putfield 38, 3) := by decide +kernel
theorem dX4_back_5 : decode cX4_back 5 = .ok (.aload_n 0, 1) := by decide +kernel
theorem dX4_back_6 : decode cX4_back 6 = .ok (.iload_n 1, 1) := by decide +kernel
theorem dX4_back_7 : decode cX4_back 7 = .ok (.invokevirtual 108, 3) := by decide +kernel
theorem dX4_back_10 : decode cX4_back 10 = .ok (.ifCond .ne 9, 3) := by decide +kernel
theorem dX4_back_13 : decode cX4_back 13 = .ok (.aload_n 0, 1) := by decide +kernel
theorem dX4_back_14 : decode cX4_back 14 = .ok (.iconst 1, 1) := by decide +kernel
theorem dX4_back_15 : decode cX4_back 15 = .ok (.invokevirtual 84, 3) := by decide +kernel
theorem dX4_back_18 : decode cX4_back 18 = .ok (.ireturn, 1) := by decide +kernel
theorem dX4_back_19 : decode cX4_back 19 = .ok (.aload_n 0, 1) := by decide +kernel
theorem dX4_back_20 : decode cX4_back 20 = .ok (.invokevirtual 88, 3) := by decide +kernel
theorem dX4_back_23 : decode cX4_back 23 = .ok (.aload_n 0, 1) := by decide +kernel
theorem dX4_back_24 : decode cX4_back 24 = .ok (.aload_n 0, 1) := by decide +kernel
theorem dX4_back_25 : decode cX4_back 25 = .ok (.getfield 29, 3) := by decide +kernel
theorem dX4_back_28 : decode cX4_back 28 = .ok (.sipush 128, 3) := by decide +kernel
theorem dX4_back_31 : decode cX4_back 31 = .ok (.iload_n 1, 1) := by decide +kernel
theorem dX4_back_32 : decode cX4_back 32 = .ok (.imul, 1) := by decide +kernel
theorem dX4_back_33 : decode cX4_back 33 = .ok (.invokevirtual 111, 3) := by decide +kernel
theorem dX4_back_36 : decode cX4_back 36 = .ok (.ireturn, 1) := by decide +kernel
theorem dX4_undo_0 : decode cX4_undo 0 = .ok (.aload_n 0, 1) := by decide +kernel
theorem dX4_undo_1 : decode cX4_undo 1 = .ok (.iconst 0, 1) := by decide +kernel
theorem dX4_undo_2 : decode cX4_undo 2 = .ok (.putfield 38, 3) := by decide +kernel
theorem dX4_undo_5 : decode cX4_undo 5 = .ok (.aload_n 0, 1) := by decide +kernel
theorem dX4_undo_6 : decode cX4_undo 6 = .ok (.getfield 55, 3) := by decide +kernel
theorem dX4_undo_9 : decode cX4_undo 9 = .ok (.ifCond .ne 9, 3) := by decide +kernel
theorem dX4_undo_12 : decode cX4_undo 12 = .ok (.aload_n 0, 1) := by decide +kernel
theorem dX4_undo_13 : decode cX4_undo 13 = .ok (.iconst 1, 1) := by decide +kernel
theorem dX4_undo_14 : decode cX4_undo 14 = .ok (.invokevirtual 84, 3) := by decide +kernel
theorem dX4_undo_17 : decode cX4_undo 17 = .ok (.ireturn, 1) := by decide +kernel
theorem dX4_undo_18 : decode cX4_undo 18 = .ok (.aload_n 0, 1) := by decide +kernel
theorem dX4_undo_19 : decode cX4_undo 19 = .ok (.dup, 1) := by decide +kernel
theorem dX4_undo_20 : decode cX4_undo 20 = .ok (.getfield 55, 3) := by decide +kernel
theorem dX4_undo_23 : decode cX4_undo 23 = .ok (.iconst 1, 1) := by decide +kernel
theorem dX4_undo_24 : decode cX4_undo 24 = .ok (.isub, 1) := by decide +kernel
theorem dX4_undo_25 : decode cX4_undo 25 = .ok (.putfield 55, 3) := by decide +kernel
theorem dX4_undo_28 : decode cX4_undo 28 = .ok (.aload_n 0, 1) := by decide +kernel
theorem dX4_undo_29 : decode cX4_undo 29 = .ok (.aload_n 0, 1) := by decide +kernel
theorem dX4_undo_30 : decode cX4_undo 30 = .ok (.getfield 26, 3) := by decide +kernel
theorem dX4_undo_33 : decode cX4_undo 33 = .ok (.sipush 128, 3) := by decide +kernel
theorem dX4_undo_36 : decode cX4_undo 36 = .ok (.aload_n 0, 1) := by decide +kernel
theorem dX4_undo_37 : decode cX4_undo 37 = .ok (.getfield 58, 3) := by decide +kernel
theorem dX4_undo_40 : decode cX4_undo 40 = .ok (.aload_n 0, 1) := by decide +kernel
theorem dX4_undo_41 : decode cX4_undo 41 = .ok (.getfield 55, 3) := by decide +kernel
theorem dX4_undo_44 : decode cX4_undo 44 = .ok (.iadd, 1) := by decide +kernel
theorem dX4_undo_45 : decode cX4_undo 45 = .ok (.bipush 30, 2) := by decide +kernel
theorem dX4_undo_47 : decode cX4_undo 47 = .ok (.irem, 1) := by decide +kernel
theorem dX4_undo_48 : decode cX4_undo 48 = .ok (.imul, 1) := by decide +kernel
theorem dX4_undo_49 : decode cX4_undo 49 = .ok (.invokevirtual 111, 3) := by decide +kernel
theorem dX4_undo_52 : decode cX4_undo 52 = .ok (.ireturn, 1) := by decide +kernel
theorem dX4_setSun_0 : decode cX4_setSun 0 = .ok (.aload_n 0, 1) := by decide +kernel
theorem dX4_setSun_1 : decode cX4_setSun 1 = .ok (.iconst 0, 1) := by decide +kernel
theorem dX4_setSun_2 : decode cX4_setSun 2 = .ok (.putfield 38, 3) := by decide +kernel
theorem dX4_setSun_5 : decode cX4_setSun 5 = .ok (.iload_n 1, 1) := by decide +kernel
theorem dX4_setSun_6 : decode cX4_setSun 6 = .ok (.iconst 0, 1) := by decide +kernel
theorem dX4_setSun_7 : decode cX4_setSun 7 = .ok (.bipush 9, 2) := by decide +kernel
theorem dX4_setSun_9 : decode cX4_setSun 9 = .ok (.invokestatic 41, 3) := by decide +kernel
theorem dX4_setSun_12 : decode cX4_setSun 12 = .ok (.ifCond .ne 9, 3) := by decide +kernel
theorem dX4_setSun_15 : decode cX4_setSun 15 = .ok (.aload_n 0, 1) := by decide +kernel
theorem dX4_setSun_16 : decode cX4_setSun 16 = .ok (.iconst 1, 1) := by decide +kernel
theorem dX4_setSun_17 : decode cX4_setSun 17 = .ok (.invokevirtual 84, 3) := by decide +kernel
theorem dX4_setSun_20 : decode cX4_setSun 20 = .ok (.ireturn, 1) := by decide +kernel
theorem dX4_setSun_21 : decode cX4_setSun 21 = .ok (.aload_n 0, 1) := by decide +kernel
theorem dX4_setSun_22 : decode cX4_setSun 22 = .ok (.getfield 16, 3) := by decide +kernel
theorem dX4_setSun_25 : decode cX4_setSun 25 = .ok (.istore_n 2, 1) := by decide +kernel
theorem dX4_setSun_26 : decode cX4_setSun 26 = .ok (.aload_n 0, 1) := by decide +kernel
theorem dX4_setSun_27 : decode cX4_setSun 27 = .ok (.iload_n 1, 1) := by decide +kernel
theorem dX4_setSun_28 : decode cX4_setSun 28 = .ok (.putfield 16, 3) := by decide +kernel
theorem dX4_setSun_31 : decode cX4_setSun 31 = .ok (.iload_n 2, 1) := by decide +kernel
theorem dX4_setSun_32 : decode cX4_setSun 32 = .ok (.ireturn, 1) := by decide +kernel
theorem dX4_setEdge_0 : decode cX4_setEdge 0 = .ok (.aload_n 0, 1) := by decide +kernel
theorem dX4_setEdge_1 : decode cX4_setEdge 1 = .ok (.iconst 0, 1) := by decide +kernel
theorem dX4_setEdge_2 : decode cX4_setEdge 2 = .ok (.putfield 38, 3) := by decide +kernel
theorem dX4_setEdge_5 : decode cX4_setEdge 5 = .ok (.aload_n 0, 1) := by decide +kernel
theorem dX4_setEdge_6 : decode cX4_setEdge 6 = .ok (.iload_n 1, 1) := by decide +kernel
theorem dX4_setEdge_7 : decode cX4_setEdge 7 = .ok (.invokevirtual 52, 3) := by decide +kernel
theorem dX4_setEdge_10 : decode cX4_setEdge 10 = .ok (.ifCond .ne 9, 3) := by decide +kernel
theorem dX4_setEdge_13 : decode cX4_setEdge 13 = .ok (.aload_n 0, 1) := by decide +kernel
theorem dX4_setEdge_14 : decode cX4_setEdge 14 = .ok (.iconst 1, 1) := by decide +kernel
theorem dX4_setEdge_15 : decode cX4_setEdge 15 = .ok (.invokevirtual 84, 3) := by decide +kernel
theorem dX4_setEdge_18 : decode cX4_setEdge 18 = .ok (.ireturn, 1) := by decide +kernel
theorem dX4_setEdge_19 : decode cX4_setEdge 19 = .ok (.iload_n 2, 1) := by decide +kernel
theorem dX4_setEdge_20 : decode cX4_setEdge 20 = .ok (.iconst 0, 1) := by decide +kernel
theorem dX4_setEdge_21 : decode cX4_setEdge 21 = .ok (.sipush 999, 3) := by decide +kernel
theorem dX4_setEdge_24 : decode cX4_setEdge 24 = .ok (.invokestatic 41, 3) := by decide +kernel
theorem dX4_setEdge_27 : decode cX4_setEdge 27 = .ok (.ifCond .ne 9, 3) := by decide +kernel
theorem dX4_setEdge_30 : decode cX4_setEdge 30 = .ok (.aload_n 0, 1) := by decide +kernel
theorem dX4_setEdge_31 : decode cX4_setEdge 31 = .ok (.iconst 2, 1) := by decide +kernel
theorem dX4_setEdge_32 : decode cX4_setEdge 32 = .ok (.invokevirtual 84, 3) := by decide +kernel
theorem dX4_setEdge_35 : decode cX4_setEdge 35 = .ok (.ireturn, 1) := by decide +kernel
theorem dX4_setEdge_36 : decode cX4_setEdge 36 = .ok (.aload_n 0, 1) := by decide +kernel
theorem dX4_setEdge_37 : decode cX4_setEdge 37 = .ok (.getfield 19, 3) := by decide +kernel
theorem dX4_setEdge_40 : decode cX4_setEdge 40 = .ok (.iload_n 1, 1) := by decide +kernel
theorem dX4_setEdge_41 : decode cX4_setEdge 41 = .ok (.iaload, 1) := by decide +kernel
theorem dX4_setEdge_42 : decode cX4_setEdge 42 = .ok (.istore_n 3, 1) := by decide +kernel
theorem dX4_setEdge_43 : decode cX4_setEdge 43 = .ok (.aload_n 0, 1) := by decide +kernel
theorem dX4_setEdge_44 : decode cX4_setEdge 44 = .ok (.getfield 19, 3) := by decide +kernel
theorem dX4_setEdge_47 : decode cX4_setEdge 47 = .ok (.iload_n 1, 1) := by decide +kernel
theorem dX4_setEdge_48 : decode cX4_setEdge 48 = .ok (.iload_n 2, 1) := by decide +kernel
theorem dX4_setEdge_49 : decode cX4_setEdge 49 = .ok (.iastore, 1) := by decide +kernel
theorem dX4_setEdge_50 : decode cX4_setEdge 50 = .ok (.iload_n 3, 1) := by decide +kernel
theorem dX4_setEdge_51 : decode cX4_setEdge 51 = .ok (.ireturn, 1) := by decide +kernel
theorem dX4_flights_0 : decode cX4_flights 0 = .ok (.aload_n 0, 1) := by decide +kernel
theorem dX4_flights_1 : decode cX4_flights 1 = .ok (.aload_n 0, 1) := by decide +kernel
theorem dX4_flights_2 : decode cX4_flights 2 = .ok (.getfield 9, 3) := by decide +kernel
theorem dX4_flights_5 : decode cX4_flights 5 = .ok (.invokevirtual 114, 3) := by decide +kernel
theorem dX4_flights_8 : decode cX4_flights 8 = .ok (.ireturn, 1) := by decide +kernel
theorem dX4_steps_0 : decode cX4_steps 0 = .ok (.aload_n 0, 1) := by decide +kernel
theorem dX4_steps_1 : decode cX4_steps 1 = .ok (.aload_n 0, 1) := by decide +kernel
theorem dX4_steps_2 : decode cX4_steps 2 = .ok (.getfield 13, 3) := by decide +kernel
theorem dX4_steps_5 : decode cX4_steps 5 = .ok (.invokevirtual 114, 3) := by decide +kernel
theorem dX4_steps_8 : decode cX4_steps 8 = .ok (.ireturn, 1) := by decide +kernel
theorem dX4_hours_0 : decode cX4_hours 0 = .ok (.aload_n 0, 1) := by decide +kernel
theorem dX4_hours_1 : decode cX4_hours 1 = .ok (.aload_n 0, 1) := by decide +kernel
theorem dX4_hours_2 : decode cX4_hours 2 = .ok (.getfield 101, 3) := by decide +kernel
theorem dX4_hours_5 : decode cX4_hours 5 = .ok (.invokevirtual 114, 3) := by decide +kernel
theorem dX4_hours_8 : decode cX4_hours 8 = .ok (.ireturn, 1) := by decide +kernel
theorem dX4_sun_0 : decode cX4_sun 0 = .ok (.aload_n 0, 1) := by decide +kernel
theorem dX4_sun_1 : decode cX4_sun 1 = .ok (.aload_n 0, 1) := by decide +kernel
theorem dX4_sun_2 : decode cX4_sun 2 = .ok (.getfield 16, 3) := by decide +kernel
theorem dX4_sun_5 : decode cX4_sun 5 = .ok (.invokevirtual 114, 3) := by decide +kernel
theorem dX4_sun_8 : decode cX4_sun 8 = .ok (.ireturn, 1) := by decide +kernel
theorem dX4_edgeOf_0 : decode cX4_edgeOf 0 = .ok (.aload_n 0, 1) := by decide +kernel
theorem dX4_edgeOf_1 : decode cX4_edgeOf 1 = .ok (.iconst 0, 1) := by decide +kernel
theorem dX4_edgeOf_2 : decode cX4_edgeOf 2 = .ok (.putfield 38, 3) := by decide +kernel
theorem dX4_edgeOf_5 : decode cX4_edgeOf 5 = .ok (.aload_n 0, 1) := by decide +kernel
theorem dX4_edgeOf_6 : decode cX4_edgeOf 6 = .ok (.iload_n 1, 1) := by decide +kernel
theorem dX4_edgeOf_7 : decode cX4_edgeOf 7 = .ok (.invokevirtual 52, 3) := by decide +kernel
theorem dX4_edgeOf_10 : decode cX4_edgeOf 10 = .ok (.ifCond .eq 12, 3) := by decide +kernel
theorem dX4_edgeOf_13 : decode cX4_edgeOf 13 = .ok (.aload_n 0, 1) := by decide +kernel
theorem dX4_edgeOf_14 : decode cX4_edgeOf 14 = .ok (.getfield 19, 3) := by decide +kernel
theorem dX4_edgeOf_17 : decode cX4_edgeOf 17 = .ok (.iload_n 1, 1) := by decide +kernel
theorem dX4_edgeOf_18 : decode cX4_edgeOf 18 = .ok (.iaload, 1) := by decide +kernel
theorem dX4_edgeOf_19 : decode cX4_edgeOf 19 = .ok (.goto 8, 3) := by decide +kernel
theorem dX4_edgeOf_22 : decode cX4_edgeOf 22 = .ok (.aload_n 0, 1) := by decide +kernel
theorem dX4_edgeOf_23 : decode cX4_edgeOf 23 = .ok (.iconst 1, 1) := by decide +kernel
theorem dX4_edgeOf_24 : decode cX4_edgeOf 24 = .ok (.invokevirtual 84, 3) := by decide +kernel
theorem dX4_edgeOf_27 : decode cX4_edgeOf 27 = .ok (.ireturn, 1) := by decide +kernel
theorem dX4_marks_0 : decode cX4_marks 0 = .ok (.aload_n 0, 1) := by decide +kernel
theorem dX4_marks_1 : decode cX4_marks 1 = .ok (.aload_n 0, 1) := by decide +kernel
theorem dX4_marks_2 : decode cX4_marks 2 = .ok (.getfield 45, 3) := by decide +kernel
theorem dX4_marks_5 : decode cX4_marks 5 = .ok (.invokevirtual 114, 3) := by decide +kernel
theorem dX4_marks_8 : decode cX4_marks 8 = .ok (.ireturn, 1) := by decide +kernel
theorem dX4_deeds_0 : decode cX4_deeds 0 = .ok (.aload_n 0, 1) := by decide +kernel
theorem dX4_deeds_1 : decode cX4_deeds 1 = .ok (.aload_n 0, 1) := by decide +kernel
theorem dX4_deeds_2 : decode cX4_deeds 2 = .ok (.getfield 55, 3) := by decide +kernel
theorem dX4_deeds_5 : decode cX4_deeds 5 = .ok (.invokevirtual 114, 3) := by decide +kernel
theorem dX4_deeds_8 : decode cX4_deeds 8 = .ok (.ireturn, 1) := by decide +kernel
theorem dX4_gone_0 : decode cX4_gone 0 = .ok (.aload_n 0, 1) := by decide +kernel
theorem dX4_gone_1 : decode cX4_gone 1 = .ok (.aload_n 0, 1) := by decide +kernel
theorem dX4_gone_2 : decode cX4_gone 2 = .ok (.getfield 104, 3) := by decide +kernel
theorem dX4_gone_5 : decode cX4_gone 5 = .ok (.invokevirtual 117, 3) := by decide +kernel
theorem dX4_gone_8 : decode cX4_gone 8 = .ok (.lreturn, 1) := by decide +kernel
theorem dX4_at_0 : decode cX4_at 0 = .ok (.aload_n 0, 1) := by decide +kernel
theorem dX4_at_1 : decode cX4_at 1 = .ok (.getfield 23, 3) := by decide +kernel
theorem dX4_at_4 : decode cX4_at 4 = .ok (.iload_n 1, 1) := by decide +kernel
theorem dX4_at_5 : decode cX4_at 5 = .ok (.aload_n 0, 1) := by decide +kernel
theorem dX4_at_6 : decode cX4_at 6 = .ok (.getfield 13, 3) := by decide +kernel
theorem dX4_at_9 : decode cX4_at 9 = .ok (.imul, 1) := by decide +kernel
theorem dX4_at_10 : decode cX4_at 10 = .ok (.iload_n 2, 1) := by decide +kernel
theorem dX4_at_11 : decode cX4_at 11 = .ok (.iadd, 1) := by decide +kernel
theorem dX4_at_12 : decode cX4_at 12 = .ok (.iaload, 1) := by decide +kernel
theorem dX4_at_13 : decode cX4_at 13 = .ok (.ireturn, 1) := by decide +kernel
theorem dX4_levelAt_0 : decode cX4_levelAt 0 = .ok (.aload_n 0, 1) := by decide +kernel
theorem dX4_levelAt_1 : decode cX4_levelAt 1 = .ok (.iconst 0, 1) := by decide +kernel
theorem dX4_levelAt_2 : decode cX4_levelAt 2 = .ok (.putfield 38, 3) := by decide +kernel
theorem dX4_levelAt_5 : decode cX4_levelAt 5 = .ok (.aload_n 0, 1) := by decide +kernel
theorem dX4_levelAt_6 : decode cX4_levelAt 6 = .ok (.iload_n 1, 1) := by decide +kernel
theorem dX4_levelAt_7 : decode cX4_levelAt 7 = .ok (.invokevirtual 48, 3) := by decide +kernel
theorem dX4_levelAt_10 : decode cX4_levelAt 10 = .ok (.ifCond .eq 20, 3) := by decide +kernel
theorem dX4_levelAt_13 : decode cX4_levelAt 13 = .ok (.aload_n 0, 1) := by decide +kernel
theorem dX4_levelAt_14 : decode cX4_levelAt 14 = .ok (.iload_n 2, 1) := by decide +kernel
theorem dX4_levelAt_15 : decode cX4_levelAt 15 = .ok (.invokevirtual 52, 3) := by decide +kernel
theorem dX4_levelAt_18 : decode cX4_levelAt 18 = .ok (.ifCond .eq 12, 3) := by decide +kernel
theorem dX4_levelAt_21 : decode cX4_levelAt 21 = .ok (.aload_n 0, 1) := by decide +kernel
theorem dX4_levelAt_22 : decode cX4_levelAt 22 = .ok (.iload_n 1, 1) := by decide +kernel
theorem dX4_levelAt_23 : decode cX4_levelAt 23 = .ok (.iload_n 2, 1) := by decide +kernel
theorem dX4_levelAt_24 : decode cX4_levelAt 24 = .ok (.invokevirtual 121, 3) := by decide +kernel
theorem dX4_levelAt_27 : decode cX4_levelAt 27 = .ok (.goto 8, 3) := by decide +kernel
theorem dX4_levelAt_30 : decode cX4_levelAt 30 = .ok (.aload_n 0, 1) := by decide +kernel
theorem dX4_levelAt_31 : decode cX4_levelAt 31 = .ok (.iconst 1, 1) := by decide +kernel
theorem dX4_levelAt_32 : decode cX4_levelAt 32 = .ok (.invokevirtual 84, 3) := by decide +kernel
theorem dX4_levelAt_35 : decode cX4_levelAt 35 = .ok (.ireturn, 1) := by decide +kernel
theorem dX4_added_0 : decode cX4_added 0 = .ok (.lconst 0, 1) := by decide +kernel
theorem dX4_added_1 : decode cX4_added 1 = .ok (.lstore 5, 2) := by decide +kernel
theorem dX4_added_3 : decode cX4_added 3 = .ok (.iload_n 1, 1) := by decide +kernel
theorem dX4_added_4 : decode cX4_added 4 = .ok (.istore 7, 2) := by decide +kernel
theorem dX4_added_6 : decode cX4_added 6 = .ok (.iload 7, 2) := by decide +kernel
theorem dX4_added_8 : decode cX4_added 8 = .ok (.iload_n 3, 1) := by decide +kernel
theorem dX4_added_9 : decode cX4_added 9 = .ok (.if_icmp .gt 39, 3) := by decide +kernel
theorem dX4_added_12 : decode cX4_added 12 = .ok (.iload_n 2, 1) := by decide +kernel
theorem dX4_added_13 : decode cX4_added 13 = .ok (.istore 8, 2) := by decide +kernel
theorem dX4_added_15 : decode cX4_added 15 = .ok (.iload 8, 2) := by decide +kernel
theorem dX4_added_17 : decode cX4_added 17 = .ok (.iload 4, 2) := by decide +kernel
theorem dX4_added_19 : decode cX4_added 19 = .ok (.if_icmp .gt 23, 3) := by decide +kernel
theorem dX4_added_22 : decode cX4_added 22 = .ok (.lload 5, 2) := by decide +kernel
theorem dX4_added_24 : decode cX4_added 24 = .ok (.aload_n 0, 1) := by decide +kernel
theorem dX4_added_25 : decode cX4_added 25 = .ok (.iload 7, 2) := by decide +kernel
theorem dX4_added_27 : decode cX4_added 27 = .ok (.iload 8, 2) := by decide +kernel
theorem dX4_added_29 : decode cX4_added 29 = .ok (.invokevirtual 121, 3) := by decide +kernel
theorem dX4_added_32 : decode cX4_added 32 = .ok (.i2l, 1) := by decide +kernel
theorem dX4_added_33 : decode cX4_added 33 = .ok (.ladd, 1) := by decide +kernel
theorem dX4_added_34 : decode cX4_added 34 = .ok (.lstore 5, 2) := by decide +kernel
theorem dX4_added_36 : decode cX4_added 36 = .ok (.iinc 8 1, 3) := by decide +kernel
theorem dX4_added_39 : decode cX4_added 39 = .ok (.goto (-24), 3) := by decide +kernel
theorem dX4_added_42 : decode cX4_added 42 = .ok (.iinc 7 1, 3) := by decide +kernel
theorem dX4_added_45 : decode cX4_added 45 = .ok (.goto (-39), 3) := by decide +kernel
theorem dX4_added_48 : decode cX4_added 48 = .ok (.lload 5, 2) := by decide +kernel
theorem dX4_added_50 : decode cX4_added 50 = .ok (.lreturn, 1) := by decide +kernel
theorem dX4_sumOf_0 : decode cX4_sumOf 0 = .ok (.aload_n 0, 1) := by decide +kernel
theorem dX4_sumOf_1 : decode cX4_sumOf 1 = .ok (.aload_n 0, 1) := by decide +kernel
theorem dX4_sumOf_2 : decode cX4_sumOf 2 = .ok (.iload_n 1, 1) := by decide +kernel
theorem dX4_sumOf_3 : decode cX4_sumOf 3 = .ok (.iload_n 2, 1) := by decide +kernel
theorem dX4_sumOf_4 : decode cX4_sumOf 4 = .ok (.iload_n 3, 1) := by decide +kernel
theorem dX4_sumOf_5 : decode cX4_sumOf 5 = .ok (.iload 4, 2) := by decide +kernel
theorem dX4_sumOf_7 : decode cX4_sumOf 7 = .ok (.invokevirtual 91, 3) := by decide +kernel
theorem dX4_sumOf_10 : decode cX4_sumOf 10 = .ok (.putfield 38, 3) := by decide +kernel
theorem dX4_sumOf_13 : decode cX4_sumOf 13 = .ok (.aload_n 0, 1) := by decide +kernel
theorem dX4_sumOf_14 : decode cX4_sumOf 14 = .ok (.getfield 38, 3) := by decide +kernel
theorem dX4_sumOf_17 : decode cX4_sumOf 17 = .ok (.ifCond .le 7, 3) := by decide +kernel
theorem dX4_sumOf_20 : decode cX4_sumOf 20 = .ok (.lconst 0, 1) := by decide +kernel
theorem dX4_sumOf_21 : decode cX4_sumOf 21 = .ok (.goto 12, 3) := by decide +kernel
theorem dX4_sumOf_24 : decode cX4_sumOf 24 = .ok (.aload_n 0, 1) := by decide +kernel
theorem dX4_sumOf_25 : decode cX4_sumOf 25 = .ok (.iload_n 1, 1) := by decide +kernel
theorem dX4_sumOf_26 : decode cX4_sumOf 26 = .ok (.iload_n 2, 1) := by decide +kernel
theorem dX4_sumOf_27 : decode cX4_sumOf 27 = .ok (.iload_n 3, 1) := by decide +kernel
theorem dX4_sumOf_28 : decode cX4_sumOf 28 = .ok (.iload 4, 2) := by decide +kernel
theorem dX4_sumOf_30 : decode cX4_sumOf 30 = .ok (.invokevirtual 124, 3) := by decide +kernel
theorem dX4_sumOf_33 : decode cX4_sumOf 33 = .ok (.lreturn, 1) := by decide +kernel
theorem dX4_sumTo_0 : decode cX4_sumTo 0 = .ok (.aload_n 0, 1) := by decide +kernel
theorem dX4_sumTo_1 : decode cX4_sumTo 1 = .ok (.aload_n 0, 1) := by decide +kernel
theorem dX4_sumTo_2 : decode cX4_sumTo 2 = .ok (.iload_n 1, 1) := by decide +kernel
theorem dX4_sumTo_3 : decode cX4_sumTo 3 = .ok (.invokevirtual 48, 3) := by decide +kernel
theorem dX4_sumTo_6 : decode cX4_sumTo 6 = .ok (.ifCond .eq 15, 3) := by decide +kernel
theorem dX4_sumTo_9 : decode cX4_sumTo 9 = .ok (.aload_n 0, 1) := by decide +kernel
theorem dX4_sumTo_10 : decode cX4_sumTo 10 = .ok (.iload_n 2, 1) := by decide +kernel
theorem dX4_sumTo_11 : decode cX4_sumTo 11 = .ok (.invokevirtual 52, 3) := by decide +kernel
theorem dX4_sumTo_14 : decode cX4_sumTo 14 = .ok (.ifCond .eq 7, 3) := by decide +kernel
theorem dX4_sumTo_17 : decode cX4_sumTo 17 = .ok (.iconst 0, 1) := by decide +kernel
theorem dX4_sumTo_18 : decode cX4_sumTo 18 = .ok (.goto 4, 3) := by decide +kernel
theorem dX4_sumTo_21 : decode cX4_sumTo 21 = .ok (.iconst 1, 1) := by decide +kernel
theorem dX4_sumTo_22 : decode cX4_sumTo 22 = .ok (.putfield 38, 3) := by decide +kernel
theorem dX4_sumTo_25 : decode cX4_sumTo 25 = .ok (.aload_n 0, 1) := by decide +kernel
theorem dX4_sumTo_26 : decode cX4_sumTo 26 = .ok (.getfield 38, 3) := by decide +kernel
theorem dX4_sumTo_29 : decode cX4_sumTo 29 = .ok (.ifCond .le 7, 3) := by decide +kernel
theorem dX4_sumTo_32 : decode cX4_sumTo 32 = .ok (.lconst 0, 1) := by decide +kernel
theorem dX4_sumTo_33 : decode cX4_sumTo 33 = .ok (.goto 11, 3) := by decide +kernel
theorem dX4_sumTo_36 : decode cX4_sumTo 36 = .ok (.aload_n 0, 1) := by decide +kernel
theorem dX4_sumTo_37 : decode cX4_sumTo 37 = .ok (.iconst 0, 1) := by decide +kernel
theorem dX4_sumTo_38 : decode cX4_sumTo 38 = .ok (.iconst 0, 1) := by decide +kernel
theorem dX4_sumTo_39 : decode cX4_sumTo 39 = .ok (.iload_n 1, 1) := by decide +kernel
theorem dX4_sumTo_40 : decode cX4_sumTo 40 = .ok (.iload_n 2, 1) := by decide +kernel
theorem dX4_sumTo_41 : decode cX4_sumTo 41 = .ok (.invokevirtual 124, 3) := by decide +kernel
theorem dX4_sumTo_44 : decode cX4_sumTo 44 = .ok (.lreturn, 1) := by decide +kernel
theorem dX4_ofFlight_0 : decode cX4_ofFlight 0 = .ok (.aload_n 0, 1) := by decide +kernel
theorem dX4_ofFlight_1 : decode cX4_ofFlight 1 = .ok (.iload_n 1, 1) := by decide +kernel
theorem dX4_ofFlight_2 : decode cX4_ofFlight 2 = .ok (.iconst 0, 1) := by decide +kernel
theorem dX4_ofFlight_3 : decode cX4_ofFlight 3 = .ok (.iload_n 1, 1) := by decide +kernel
theorem dX4_ofFlight_4 : decode cX4_ofFlight 4 = .ok (.aload_n 0, 1) := by decide +kernel
theorem dX4_ofFlight_5 : decode cX4_ofFlight 5 = .ok (.getfield 13, 3) := by decide +kernel
theorem dX4_ofFlight_8 : decode cX4_ofFlight 8 = .ok (.iconst 1, 1) := by decide +kernel
theorem dX4_ofFlight_9 : decode cX4_ofFlight 9 = .ok (.isub, 1) := by decide +kernel
theorem dX4_ofFlight_10 : decode cX4_ofFlight 10 = .ok (.invokevirtual 124, 3) := by decide +kernel
theorem dX4_ofFlight_13 : decode cX4_ofFlight 13 = .ok (.lreturn, 1) := by decide +kernel
theorem dX4_flightSum_0 : decode cX4_flightSum 0 = .ok (.aload_n 0, 1) := by decide +kernel
theorem dX4_flightSum_1 : decode cX4_flightSum 1 = .ok (.aload_n 0, 1) := by decide +kernel
theorem dX4_flightSum_2 : decode cX4_flightSum 2 = .ok (.iload_n 1, 1) := by decide +kernel
theorem dX4_flightSum_3 : decode cX4_flightSum 3 = .ok (.invokevirtual 48, 3) := by decide +kernel
theorem dX4_flightSum_6 : decode cX4_flightSum 6 = .ok (.ifCond .eq 7, 3) := by decide +kernel
theorem dX4_flightSum_9 : decode cX4_flightSum 9 = .ok (.iconst 0, 1) := by decide +kernel
theorem dX4_flightSum_10 : decode cX4_flightSum 10 = .ok (.goto 4, 3) := by decide +kernel
theorem dX4_flightSum_13 : decode cX4_flightSum 13 = .ok (.iconst 1, 1) := by decide +kernel
theorem dX4_flightSum_14 : decode cX4_flightSum 14 = .ok (.putfield 38, 3) := by decide +kernel
theorem dX4_flightSum_17 : decode cX4_flightSum 17 = .ok (.aload_n 0, 1) := by decide +kernel
theorem dX4_flightSum_18 : decode cX4_flightSum 18 = .ok (.getfield 38, 3) := by decide +kernel
theorem dX4_flightSum_21 : decode cX4_flightSum 21 = .ok (.ifCond .le 7, 3) := by decide +kernel
theorem dX4_flightSum_24 : decode cX4_flightSum 24 = .ok (.lconst 0, 1) := by decide +kernel
theorem dX4_flightSum_25 : decode cX4_flightSum 25 = .ok (.goto 8, 3) := by decide +kernel
theorem dX4_flightSum_28 : decode cX4_flightSum 28 = .ok (.aload_n 0, 1) := by decide +kernel
theorem dX4_flightSum_29 : decode cX4_flightSum 29 = .ok (.iload_n 1, 1) := by decide +kernel
theorem dX4_flightSum_30 : decode cX4_flightSum 30 = .ok (.invokevirtual 128, 3) := by decide +kernel
theorem dX4_flightSum_33 : decode cX4_flightSum 33 = .ok (.lreturn, 1) := by decide +kernel
theorem dX4_ofStep_0 : decode cX4_ofStep 0 = .ok (.aload_n 0, 1) := by decide +kernel
theorem dX4_ofStep_1 : decode cX4_ofStep 1 = .ok (.iconst 0, 1) := by decide +kernel
theorem dX4_ofStep_2 : decode cX4_ofStep 2 = .ok (.iload_n 1, 1) := by decide +kernel
theorem dX4_ofStep_3 : decode cX4_ofStep 3 = .ok (.aload_n 0, 1) := by decide +kernel
theorem dX4_ofStep_4 : decode cX4_ofStep 4 = .ok (.getfield 9, 3) := by decide +kernel
theorem dX4_ofStep_7 : decode cX4_ofStep 7 = .ok (.iconst 1, 1) := by decide +kernel
theorem dX4_ofStep_8 : decode cX4_ofStep 8 = .ok (.isub, 1) := by decide +kernel
theorem dX4_ofStep_9 : decode cX4_ofStep 9 = .ok (.iload_n 1, 1) := by decide +kernel
theorem dX4_ofStep_10 : decode cX4_ofStep 10 = .ok (.invokevirtual 124, 3) := by decide +kernel
theorem dX4_ofStep_13 : decode cX4_ofStep 13 = .ok (.lreturn, 1) := by decide +kernel
theorem dX4_stepSum_0 : decode cX4_stepSum 0 = .ok (.aload_n 0, 1) := by decide +kernel
theorem dX4_stepSum_1 : decode cX4_stepSum 1 = .ok (.aload_n 0, 1) := by decide +kernel
theorem dX4_stepSum_2 : decode cX4_stepSum 2 = .ok (.iload_n 1, 1) := by decide +kernel
theorem dX4_stepSum_3 : decode cX4_stepSum 3 = .ok (.invokevirtual 52, 3) := by decide +kernel
theorem dX4_stepSum_6 : decode cX4_stepSum 6 = .ok (.ifCond .eq 7, 3) := by decide +kernel
theorem dX4_stepSum_9 : decode cX4_stepSum 9 = .ok (.iconst 0, 1) := by decide +kernel
theorem dX4_stepSum_10 : decode cX4_stepSum 10 = .ok (.goto 4, 3) := by decide +kernel
theorem dX4_stepSum_13 : decode cX4_stepSum 13 = .ok (.iconst 1, 1) := by decide +kernel
theorem dX4_stepSum_14 : decode cX4_stepSum 14 = .ok (.putfield 38, 3) := by decide +kernel
theorem dX4_stepSum_17 : decode cX4_stepSum 17 = .ok (.aload_n 0, 1) := by decide +kernel
theorem dX4_stepSum_18 : decode cX4_stepSum 18 = .ok (.getfield 38, 3) := by decide +kernel
theorem dX4_stepSum_21 : decode cX4_stepSum 21 = .ok (.ifCond .le 7, 3) := by decide +kernel
theorem dX4_stepSum_24 : decode cX4_stepSum 24 = .ok (.lconst 0, 1) := by decide +kernel
theorem dX4_stepSum_25 : decode cX4_stepSum 25 = .ok (.goto 8, 3) := by decide +kernel
theorem dX4_stepSum_28 : decode cX4_stepSum 28 = .ok (.aload_n 0, 1) := by decide +kernel
theorem dX4_stepSum_29 : decode cX4_stepSum 29 = .ok (.iload_n 1, 1) := by decide +kernel
theorem dX4_stepSum_30 : decode cX4_stepSum 30 = .ok (.invokevirtual 132, 3) := by decide +kernel
theorem dX4_stepSum_33 : decode cX4_stepSum 33 = .ok (.lreturn, 1) := by decide +kernel
theorem dX4_sumOfAll_0 : decode cX4_sumOfAll 0 = .ok (.aload_n 0, 1) := by decide +kernel
theorem dX4_sumOfAll_1 : decode cX4_sumOfAll 1 = .ok (.iconst 0, 1) := by decide +kernel
theorem dX4_sumOfAll_2 : decode cX4_sumOfAll 2 = .ok (.iconst 0, 1) := by decide +kernel
theorem dX4_sumOfAll_3 : decode cX4_sumOfAll 3 = .ok (.aload_n 0, 1) := by decide +kernel
theorem dX4_sumOfAll_4 : decode cX4_sumOfAll 4 = .ok (.getfield 9, 3) := by decide +kernel
theorem dX4_sumOfAll_7 : decode cX4_sumOfAll 7 = .ok (.iconst 1, 1) := by decide +kernel
theorem dX4_sumOfAll_8 : decode cX4_sumOfAll 8 = .ok (.isub, 1) := by decide +kernel
theorem dX4_sumOfAll_9 : decode cX4_sumOfAll 9 = .ok (.aload_n 0, 1) := by decide +kernel
theorem dX4_sumOfAll_10 : decode cX4_sumOfAll 10 = .ok (.getfield 13, 3) := by decide +kernel
theorem dX4_sumOfAll_13 : decode cX4_sumOfAll 13 = .ok (.iconst 1, 1) := by decide +kernel
theorem dX4_sumOfAll_14 : decode cX4_sumOfAll 14 = .ok (.isub, 1) := by decide +kernel
theorem dX4_sumOfAll_15 : decode cX4_sumOfAll 15 = .ok (.invokevirtual 124, 3) := by decide +kernel
theorem dX4_sumOfAll_18 : decode cX4_sumOfAll 18 = .ok (.lreturn, 1) := by decide +kernel
theorem dX4_total_0 : decode cX4_total 0 = .ok (.aload_n 0, 1) := by decide +kernel
theorem dX4_total_1 : decode cX4_total 1 = .ok (.aload_n 0, 1) := by decide +kernel
theorem dX4_total_2 : decode cX4_total 2 = .ok (.invokevirtual 135, 3) := by decide +kernel
theorem dX4_total_5 : decode cX4_total 5 = .ok (.invokevirtual 117, 3) := by decide +kernel
theorem dX4_total_8 : decode cX4_total 8 = .ok (.lreturn, 1) := by decide +kernel
theorem dX4_reaching_0 : decode cX4_reaching 0 = .ok (.lconst 0, 1) := by decide +kernel
theorem dX4_reaching_1 : decode cX4_reaching 1 = .ok (.lstore_n 3, 1) := by decide +kernel
theorem dX4_reaching_2 : decode cX4_reaching 2 = .ok (.iconst 0, 1) := by decide +kernel
theorem dX4_reaching_3 : decode cX4_reaching 3 = .ok (.istore 5, 2) := by decide +kernel
theorem dX4_reaching_5 : decode cX4_reaching 5 = .ok (.iload 5, 2) := by decide +kernel
theorem dX4_reaching_7 : decode cX4_reaching 7 = .ok (.aload_n 0, 1) := by decide +kernel
theorem dX4_reaching_8 : decode cX4_reaching 8 = .ok (.getfield 13, 3) := by decide +kernel
theorem dX4_reaching_11 : decode cX4_reaching 11 = .ok (.if_icmp .ge 30, 3) := by decide +kernel
theorem dX4_reaching_14 : decode cX4_reaching 14 = .ok (.lload_n 3, 1) := by decide +kernel
theorem dX4_reaching_15 : decode cX4_reaching 15 = .ok (.aload_n 0, 1) := by decide +kernel
theorem dX4_reaching_16 : decode cX4_reaching 16 = .ok (.iload_n 1, 1) := by decide +kernel
theorem dX4_reaching_17 : decode cX4_reaching 17 = .ok (.iload 5, 2) := by decide +kernel
theorem dX4_reaching_19 : decode cX4_reaching 19 = .ok (.invokevirtual 121, 3) := by decide +kernel
theorem dX4_reaching_22 : decode cX4_reaching 22 = .ok (.i2l, 1) := by decide +kernel
theorem dX4_reaching_23 : decode cX4_reaching 23 = .ok (.ladd, 1) := by decide +kernel
theorem dX4_reaching_24 : decode cX4_reaching 24 = .ok (.lstore_n 3, 1) := by decide +kernel
theorem dX4_reaching_25 : decode cX4_reaching 25 = .ok (.lload_n 3, 1) := by decide +kernel
theorem dX4_reaching_26 : decode cX4_reaching 26 = .ok (.iload_n 2, 1) := by decide +kernel
theorem dX4_reaching_27 : decode cX4_reaching 27 = .ok (.i2l, 1) := by decide +kernel
theorem dX4_reaching_28 : decode cX4_reaching 28 = .ok (.lcmp, 1) := by decide +kernel
theorem dX4_reaching_29 : decode cX4_reaching 29 = .ok (.ifCond .lt 6, 3) := by decide +kernel
theorem dX4_reaching_32 : decode cX4_reaching 32 = .ok (.iload 5, 2) := by decide +kernel
theorem dX4_reaching_34 : decode cX4_reaching 34 = .ok (.ireturn, 1) := by decide +kernel
theorem dX4_reaching_35 : decode cX4_reaching 35 = .ok (.iinc 5 1, 3) := by decide +kernel
theorem dX4_reaching_38 : decode cX4_reaching 38 = .ok (.goto (-33), 3) := by decide +kernel
theorem dX4_reaching_41 : decode cX4_reaching 41 = .ok (.iconst (-1), 1) := by decide +kernel
theorem dX4_reaching_42 : decode cX4_reaching 42 = .ok (.ireturn, 1) := by decide +kernel
theorem dX4_firstReaching_0 : decode cX4_firstReaching 0 = .ok (.aload_n 0, 1) := by decide +kernel
theorem dX4_firstReaching_1 : decode cX4_firstReaching 1 = .ok (.iconst 0, 1) := by decide +kernel
theorem dX4_firstReaching_2 : decode cX4_firstReaching 2 = .ok (.putfield 38, 3) := by decide +kernel
theorem dX4_firstReaching_5 : decode cX4_firstReaching 5 = .ok (.aload_n 0, 1) := by decide +kernel
theorem dX4_firstReaching_6 : decode cX4_firstReaching 6 = .ok (.iload_n 1, 1) := by decide +kernel
theorem dX4_firstReaching_7 : decode cX4_firstReaching 7 = .ok (.invokevirtual 48, 3) := by decide +kernel
theorem dX4_firstReaching_10 : decode cX4_firstReaching 10 = .ok (.ifCond .eq 12, 3) := by decide +kernel
theorem dX4_firstReaching_13 : decode cX4_firstReaching 13 = .ok (.aload_n 0, 1) := by decide +kernel
theorem dX4_firstReaching_14 : decode cX4_firstReaching 14 = .ok (.iload_n 1, 1) := by decide +kernel
theorem dX4_firstReaching_15 : decode cX4_firstReaching 15 = .ok (.iload_n 2, 1) := by decide +kernel
theorem dX4_firstReaching_16 : decode cX4_firstReaching 16 = .ok (.invokevirtual 139, 3) := by decide +kernel
theorem dX4_firstReaching_19 : decode cX4_firstReaching 19 = .ok (.goto 8, 3) := by decide +kernel
theorem dX4_firstReaching_22 : decode cX4_firstReaching 22 = .ok (.aload_n 0, 1) := by decide +kernel
theorem dX4_firstReaching_23 : decode cX4_firstReaching 23 = .ok (.iconst 1, 1) := by decide +kernel
theorem dX4_firstReaching_24 : decode cX4_firstReaching 24 = .ok (.invokevirtual 84, 3) := by decide +kernel
theorem dX4_firstReaching_27 : decode cX4_firstReaching 27 = .ok (.ireturn, 1) := by decide +kernel
theorem dX4_run_0 : decode cX4_run 0 = .ok (.aload_n 0, 1) := by decide +kernel
theorem dX4_run_1 : decode cX4_run 1 = .ok (.iload_n 1, 1) := by decide +kernel
theorem dX4_run_2 : decode cX4_run 2 = .ok (.iconst 0, 1) := by decide +kernel
theorem dX4_run_3 : decode cX4_run 3 = .ok (.invokevirtual 121, 3) := by decide +kernel
theorem dX4_run_6 : decode cX4_run 6 = .ok (.i2l, 1) := by decide +kernel
theorem dX4_run_7 : decode cX4_run 7 = .ok (.lstore_n 2, 1) := by decide +kernel
theorem dX4_run_8 : decode cX4_run 8 = .ok (.lload_n 2, 1) := by decide +kernel
theorem dX4_run_9 : decode cX4_run 9 = .ok (.lstore 4, 2) := by decide +kernel
theorem dX4_run_11 : decode cX4_run 11 = .ok (.iconst 1, 1) := by decide +kernel
theorem dX4_run_12 : decode cX4_run 12 = .ok (.istore 6, 2) := by decide +kernel
theorem dX4_run_14 : decode cX4_run 14 = .ok (.iload 6, 2) := by decide +kernel
theorem dX4_run_16 : decode cX4_run 16 = .ok (.aload_n 0, 1) := by decide +kernel
theorem dX4_run_17 : decode cX4_run 17 = .ok (.getfield 13, 3) := by decide +kernel
theorem dX4_run_20 : decode cX4_run 20 = .ok (.if_icmp .ge 32, 3) := by decide +kernel
theorem dX4_run_23 : decode cX4_run 23 = .ok (.lconst 0, 1) := by decide +kernel
theorem dX4_run_24 : decode cX4_run 24 = .ok (.lload_n 2, 1) := by decide +kernel
theorem dX4_run_25 : decode cX4_run 25 = .ok (.invokestatic 142, 3) := by decide +kernel
theorem dX4_run_28 : decode cX4_run 28 = .ok (.aload_n 0, 1) := by decide +kernel
theorem dX4_run_29 : decode cX4_run 29 = .ok (.iload_n 1, 1) := by decide +kernel
theorem dX4_run_30 : decode cX4_run 30 = .ok (.iload 6, 2) := by decide +kernel
theorem dX4_run_32 : decode cX4_run 32 = .ok (.invokevirtual 121, 3) := by decide +kernel
theorem dX4_run_35 : decode cX4_run 35 = .ok (.i2l, 1) := by decide +kernel
theorem dX4_run_36 : decode cX4_run 36 = .ok (.ladd, 1) := by decide +kernel
theorem dX4_run_37 : decode cX4_run 37 = .ok (.lstore_n 2, 1) := by decide +kernel
theorem dX4_run_38 : decode cX4_run 38 = .ok (.lload 4, 2) := by decide +kernel
theorem dX4_run_40 : decode cX4_run 40 = .ok (.lload_n 2, 1) := by decide +kernel
theorem dX4_run_41 : decode cX4_run 41 = .ok (.invokestatic 142, 3) := by decide +kernel
theorem dX4_run_44 : decode cX4_run 44 = .ok (.lstore 4, 2) := by decide +kernel
theorem dX4_run_46 : decode cX4_run 46 = .ok (.iinc 6 1, 3) := by decide +kernel
theorem dX4_run_49 : decode cX4_run 49 = .ok (.goto (-35), 3) := by decide +kernel
theorem dX4_run_52 : decode cX4_run 52 = .ok (.lload 4, 2) := by decide +kernel
theorem dX4_run_54 : decode cX4_run 54 = .ok (.lreturn, 1) := by decide +kernel
theorem dX4_bestRun_0 : decode cX4_bestRun 0 = .ok (.aload_n 0, 1) := by decide +kernel
theorem dX4_bestRun_1 : decode cX4_bestRun 1 = .ok (.aload_n 0, 1) := by decide +kernel
theorem dX4_bestRun_2 : decode cX4_bestRun 2 = .ok (.iload_n 1, 1) := by decide +kernel
theorem dX4_bestRun_3 : decode cX4_bestRun 3 = .ok (.invokevirtual 48, 3) := by decide +kernel
theorem dX4_bestRun_6 : decode cX4_bestRun 6 = .ok (.ifCond .eq 7, 3) := by decide +kernel
theorem dX4_bestRun_9 : decode cX4_bestRun 9 = .ok (.iconst 0, 1) := by decide +kernel
theorem dX4_bestRun_10 : decode cX4_bestRun 10 = .ok (.goto 4, 3) := by decide +kernel
theorem dX4_bestRun_13 : decode cX4_bestRun 13 = .ok (.iconst 1, 1) := by decide +kernel
theorem dX4_bestRun_14 : decode cX4_bestRun 14 = .ok (.putfield 38, 3) := by decide +kernel
theorem dX4_bestRun_17 : decode cX4_bestRun 17 = .ok (.aload_n 0, 1) := by decide +kernel
theorem dX4_bestRun_18 : decode cX4_bestRun 18 = .ok (.getfield 38, 3) := by decide +kernel
theorem dX4_bestRun_21 : decode cX4_bestRun 21 = .ok (.ifCond .le 7, 3) := by decide +kernel
theorem dX4_bestRun_24 : decode cX4_bestRun 24 = .ok (.lconst 0, 1) := by decide +kernel
theorem dX4_bestRun_25 : decode cX4_bestRun 25 = .ok (.goto 8, 3) := by decide +kernel
theorem dX4_bestRun_28 : decode cX4_bestRun 28 = .ok (.aload_n 0, 1) := by decide +kernel
theorem dX4_bestRun_29 : decode cX4_bestRun 29 = .ok (.iload_n 1, 1) := by decide +kernel
theorem dX4_bestRun_30 : decode cX4_bestRun 30 = .ok (.invokevirtual 145, 3) := by decide +kernel
theorem dX4_bestRun_33 : decode cX4_bestRun 33 = .ok (.lreturn, 1) := by decide +kernel
theorem dX4_dryPart_0 : decode cX4_dryPart 0 = .ok (.iconst 0, 1) := by decide +kernel
theorem dX4_dryPart_1 : decode cX4_dryPart 1 = .ok (.istore 5, 2) := by decide +kernel
theorem dX4_dryPart_3 : decode cX4_dryPart 3 = .ok (.iload_n 1, 1) := by decide +kernel
theorem dX4_dryPart_4 : decode cX4_dryPart 4 = .ok (.istore 6, 2) := by decide +kernel
theorem dX4_dryPart_6 : decode cX4_dryPart 6 = .ok (.iload 6, 2) := by decide +kernel
theorem dX4_dryPart_8 : decode cX4_dryPart 8 = .ok (.iload_n 3, 1) := by decide +kernel
theorem dX4_dryPart_9 : decode cX4_dryPart 9 = .ok (.if_icmp .gt 46, 3) := by decide +kernel
theorem dX4_dryPart_12 : decode cX4_dryPart 12 = .ok (.iload_n 2, 1) := by decide +kernel
theorem dX4_dryPart_13 : decode cX4_dryPart 13 = .ok (.istore 7, 2) := by decide +kernel
theorem dX4_dryPart_15 : decode cX4_dryPart 15 = .ok (.iload 7, 2) := by decide +kernel
theorem dX4_dryPart_17 : decode cX4_dryPart 17 = .ok (.iload 4, 2) := by decide +kernel
theorem dX4_dryPart_19 : decode cX4_dryPart 19 = .ok (.if_icmp .gt 30, 3) := by decide +kernel
theorem dX4_dryPart_22 : decode cX4_dryPart 22 = .ok (.iload 5, 2) := by decide +kernel
theorem dX4_dryPart_24 : decode cX4_dryPart 24 = .ok (.aload_n 0, 1) := by decide +kernel
theorem dX4_dryPart_25 : decode cX4_dryPart 25 = .ok (.iload 6, 2) := by decide +kernel
theorem dX4_dryPart_27 : decode cX4_dryPart 27 = .ok (.iload 7, 2) := by decide +kernel
theorem dX4_dryPart_29 : decode cX4_dryPart 29 = .ok (.invokevirtual 121, 3) := by decide +kernel
theorem dX4_dryPart_32 : decode cX4_dryPart 32 = .ok (.ifCond .gt 7, 3) := by decide +kernel
theorem dX4_dryPart_35 : decode cX4_dryPart 35 = .ok (.iconst 1, 1) := by decide +kernel
theorem dX4_dryPart_36 : decode cX4_dryPart 36 = .ok (.goto 4, 3) := by decide +kernel
theorem dX4_dryPart_39 : decode cX4_dryPart 39 = .ok (.iconst 0, 1) := by decide +kernel
theorem dX4_dryPart_40 : decode cX4_dryPart 40 = .ok (.iadd, 1) := by decide +kernel
theorem dX4_dryPart_41 : decode cX4_dryPart 41 = .ok (.istore 5, 2) := by decide +kernel
theorem dX4_dryPart_43 : decode cX4_dryPart 43 = .ok (.iinc 7 1, 3) := by decide +kernel
theorem dX4_dryPart_46 : decode cX4_dryPart 46 = .ok (.goto (-31), 3) := by decide +kernel
theorem dX4_dryPart_49 : decode cX4_dryPart 49 = .ok (.iinc 6 1, 3) := by decide +kernel
theorem dX4_dryPart_52 : decode cX4_dryPart 52 = .ok (.goto (-46), 3) := by decide +kernel
theorem dX4_dryPart_55 : decode cX4_dryPart 55 = .ok (.iload 5, 2) := by decide +kernel
theorem dX4_dryPart_57 : decode cX4_dryPart 57 = .ok (.ireturn, 1) := by decide +kernel
theorem dX4_dryIn_0 : decode cX4_dryIn 0 = .ok (.aload_n 0, 1) := by decide +kernel
theorem dX4_dryIn_1 : decode cX4_dryIn 1 = .ok (.aload_n 0, 1) := by decide +kernel
theorem dX4_dryIn_2 : decode cX4_dryIn 2 = .ok (.iload_n 1, 1) := by decide +kernel
theorem dX4_dryIn_3 : decode cX4_dryIn 3 = .ok (.iload_n 2, 1) := by decide +kernel
theorem dX4_dryIn_4 : decode cX4_dryIn 4 = .ok (.iload_n 3, 1) := by decide +kernel
theorem dX4_dryIn_5 : decode cX4_dryIn 5 = .ok (.iload 4, 2) := by decide +kernel
theorem dX4_dryIn_7 : decode cX4_dryIn 7 = .ok (.invokevirtual 91, 3) := by decide +kernel
theorem dX4_dryIn_10 : decode cX4_dryIn 10 = .ok (.putfield 38, 3) := by decide +kernel
theorem dX4_dryIn_13 : decode cX4_dryIn 13 = .ok (.aload_n 0, 1) := by decide +kernel
theorem dX4_dryIn_14 : decode cX4_dryIn 14 = .ok (.getfield 38, 3) := by decide +kernel
theorem dX4_dryIn_17 : decode cX4_dryIn 17 = .ok (.ifCond .le 7, 3) := by decide +kernel
theorem dX4_dryIn_20 : decode cX4_dryIn 20 = .ok (.iconst 0, 1) := by decide +kernel
theorem dX4_dryIn_21 : decode cX4_dryIn 21 = .ok (.goto 12, 3) := by decide +kernel
theorem dX4_dryIn_24 : decode cX4_dryIn 24 = .ok (.aload_n 0, 1) := by decide +kernel
theorem dX4_dryIn_25 : decode cX4_dryIn 25 = .ok (.iload_n 1, 1) := by decide +kernel
theorem dX4_dryIn_26 : decode cX4_dryIn 26 = .ok (.iload_n 2, 1) := by decide +kernel
theorem dX4_dryIn_27 : decode cX4_dryIn 27 = .ok (.iload_n 3, 1) := by decide +kernel
theorem dX4_dryIn_28 : decode cX4_dryIn 28 = .ok (.iload 4, 2) := by decide +kernel
theorem dX4_dryIn_30 : decode cX4_dryIn 30 = .ok (.invokevirtual 148, 3) := by decide +kernel
theorem dX4_dryIn_33 : decode cX4_dryIn 33 = .ok (.ireturn, 1) := by decide +kernel
theorem dX4_dryNow_0 : decode cX4_dryNow 0 = .ok (.aload_n 0, 1) := by decide +kernel
theorem dX4_dryNow_1 : decode cX4_dryNow 1 = .ok (.iconst 0, 1) := by decide +kernel
theorem dX4_dryNow_2 : decode cX4_dryNow 2 = .ok (.iconst 0, 1) := by decide +kernel
theorem dX4_dryNow_3 : decode cX4_dryNow 3 = .ok (.aload_n 0, 1) := by decide +kernel
theorem dX4_dryNow_4 : decode cX4_dryNow 4 = .ok (.getfield 9, 3) := by decide +kernel
theorem dX4_dryNow_7 : decode cX4_dryNow 7 = .ok (.iconst 1, 1) := by decide +kernel
theorem dX4_dryNow_8 : decode cX4_dryNow 8 = .ok (.isub, 1) := by decide +kernel
theorem dX4_dryNow_9 : decode cX4_dryNow 9 = .ok (.aload_n 0, 1) := by decide +kernel
theorem dX4_dryNow_10 : decode cX4_dryNow 10 = .ok (.getfield 13, 3) := by decide +kernel
theorem dX4_dryNow_13 : decode cX4_dryNow 13 = .ok (.iconst 1, 1) := by decide +kernel
theorem dX4_dryNow_14 : decode cX4_dryNow 14 = .ok (.isub, 1) := by decide +kernel
theorem dX4_dryNow_15 : decode cX4_dryNow 15 = .ok (.invokevirtual 148, 3) := by decide +kernel
theorem dX4_dryNow_18 : decode cX4_dryNow 18 = .ok (.ireturn, 1) := by decide +kernel
theorem dX4_dry_0 : decode cX4_dry 0 = .ok (.aload_n 0, 1) := by decide +kernel
theorem dX4_dry_1 : decode cX4_dry 1 = .ok (.aload_n 0, 1) := by decide +kernel
theorem dX4_dry_2 : decode cX4_dry 2 = .ok (.invokevirtual 151, 3) := by decide +kernel
theorem dX4_dry_5 : decode cX4_dry 5 = .ok (.invokevirtual 114, 3) := by decide +kernel
theorem dX4_dry_8 : decode cX4_dry 8 = .ok (.ireturn, 1) := by decide +kernel
theorem dX4_dryAt_0 : decode cX4_dryAt 0 = .ok (.aload_n 0, 1) := by decide +kernel
theorem dX4_dryAt_1 : decode cX4_dryAt 1 = .ok (.iconst 0, 1) := by decide +kernel
theorem dX4_dryAt_2 : decode cX4_dryAt 2 = .ok (.putfield 38, 3) := by decide +kernel
theorem dX4_dryAt_5 : decode cX4_dryAt 5 = .ok (.iload_n 1, 1) := by decide +kernel
theorem dX4_dryAt_6 : decode cX4_dryAt 6 = .ok (.iconst 0, 1) := by decide +kernel
theorem dX4_dryAt_7 : decode cX4_dryAt 7 = .ok (.aload_n 0, 1) := by decide +kernel
theorem dX4_dryAt_8 : decode cX4_dryAt 8 = .ok (.invokevirtual 151, 3) := by decide +kernel
theorem dX4_dryAt_11 : decode cX4_dryAt 11 = .ok (.iconst 1, 1) := by decide +kernel
theorem dX4_dryAt_12 : decode cX4_dryAt 12 = .ok (.isub, 1) := by decide +kernel
theorem dX4_dryAt_13 : decode cX4_dryAt 13 = .ok (.invokestatic 41, 3) := by decide +kernel
theorem dX4_dryAt_16 : decode cX4_dryAt 16 = .ok (.ifCond .ne 9, 3) := by decide +kernel
theorem dX4_dryAt_19 : decode cX4_dryAt 19 = .ok (.aload_n 0, 1) := by decide +kernel
theorem dX4_dryAt_20 : decode cX4_dryAt 20 = .ok (.iconst 1, 1) := by decide +kernel
theorem dX4_dryAt_21 : decode cX4_dryAt 21 = .ok (.invokevirtual 84, 3) := by decide +kernel
theorem dX4_dryAt_24 : decode cX4_dryAt 24 = .ok (.ireturn, 1) := by decide +kernel
theorem dX4_dryAt_25 : decode cX4_dryAt 25 = .ok (.iload_n 1, 1) := by decide +kernel
theorem dX4_dryAt_26 : decode cX4_dryAt 26 = .ok (.istore_n 2, 1) := by decide +kernel
theorem dX4_dryAt_27 : decode cX4_dryAt 27 = .ok (.iconst 0, 1) := by decide +kernel
theorem dX4_dryAt_28 : decode cX4_dryAt 28 = .ok (.istore_n 3, 1) := by decide +kernel
theorem dX4_dryAt_29 : decode cX4_dryAt 29 = .ok (.aload_n 0, 1) := by decide +kernel
theorem dX4_dryAt_30 : decode cX4_dryAt 30 = .ok (.getfield 23, 3) := by decide +kernel
theorem dX4_dryAt_33 : decode cX4_dryAt 33 = .ok (.iload_n 3, 1) := by decide +kernel
theorem dX4_dryAt_34 : decode cX4_dryAt 34 = .ok (.iaload, 1) := by decide +kernel
theorem dX4_dryAt_35 : decode cX4_dryAt 35 = .ok (.ifCond .gt 7, 3) := by decide +kernel
theorem dX4_dryAt_38 : decode cX4_dryAt 38 = .ok (.iload_n 2, 1) := by decide +kernel
theorem dX4_dryAt_39 : decode cX4_dryAt 39 = .ok (.ifCond .le 26, 3) := by decide +kernel
theorem dX4_dryAt_42 : decode cX4_dryAt 42 = .ok (.iload_n 2, 1) := by decide +kernel
theorem dX4_dryAt_43 : decode cX4_dryAt 43 = .ok (.aload_n 0, 1) := by decide +kernel
theorem dX4_dryAt_44 : decode cX4_dryAt 44 = .ok (.getfield 23, 3) := by decide +kernel
theorem dX4_dryAt_47 : decode cX4_dryAt 47 = .ok (.iload_n 3, 1) := by decide +kernel
theorem dX4_dryAt_48 : decode cX4_dryAt 48 = .ok (.iaload, 1) := by decide +kernel
theorem dX4_dryAt_49 : decode cX4_dryAt 49 = .ok (.ifCond .le 7, 3) := by decide +kernel
theorem dX4_dryAt_52 : decode cX4_dryAt 52 = .ok (.iconst 0, 1) := by decide +kernel
theorem dX4_dryAt_53 : decode cX4_dryAt 53 = .ok (.goto 4, 3) := by decide +kernel
theorem dX4_dryAt_56 : decode cX4_dryAt 56 = .ok (.iconst 1, 1) := by decide +kernel
theorem dX4_dryAt_57 : decode cX4_dryAt 57 = .ok (.isub, 1) := by decide +kernel
theorem dX4_dryAt_58 : decode cX4_dryAt 58 = .ok (.istore_n 2, 1) := by decide +kernel
theorem dX4_dryAt_59 : decode cX4_dryAt 59 = .ok (.iinc 3 1, 3) := by decide +kernel
theorem dX4_dryAt_62 : decode cX4_dryAt 62 = .ok (.goto (-33), 3) := by decide +kernel
theorem dX4_dryAt_65 : decode cX4_dryAt 65 = .ok (.iload_n 3, 1) := by decide +kernel
theorem dX4_dryAt_66 : decode cX4_dryAt 66 = .ok (.ireturn, 1) := by decide +kernel
theorem dX4_longest_0 : decode cX4_longest 0 = .ok (.iconst 0, 1) := by decide +kernel
theorem dX4_longest_1 : decode cX4_longest 1 = .ok (.istore_n 2, 1) := by decide +kernel
theorem dX4_longest_2 : decode cX4_longest 2 = .ok (.iconst 0, 1) := by decide +kernel
theorem dX4_longest_3 : decode cX4_longest 3 = .ok (.istore_n 3, 1) := by decide +kernel
theorem dX4_longest_4 : decode cX4_longest 4 = .ok (.iconst 0, 1) := by decide +kernel
theorem dX4_longest_5 : decode cX4_longest 5 = .ok (.istore 4, 2) := by decide +kernel
theorem dX4_longest_7 : decode cX4_longest 7 = .ok (.iload 4, 2) := by decide +kernel
theorem dX4_longest_9 : decode cX4_longest 9 = .ok (.aload_n 0, 1) := by decide +kernel
theorem dX4_longest_10 : decode cX4_longest 10 = .ok (.getfield 13, 3) := by decide +kernel
theorem dX4_longest_13 : decode cX4_longest 13 = .ok (.if_icmp .ge 33, 3) := by decide +kernel
theorem dX4_longest_16 : decode cX4_longest 16 = .ok (.aload_n 0, 1) := by decide +kernel
theorem dX4_longest_17 : decode cX4_longest 17 = .ok (.iload_n 1, 1) := by decide +kernel
theorem dX4_longest_18 : decode cX4_longest 18 = .ok (.iload 4, 2) := by decide +kernel
theorem dX4_longest_20 : decode cX4_longest 20 = .ok (.invokevirtual 121, 3) := by decide +kernel
theorem dX4_longest_23 : decode cX4_longest 23 = .ok (.ifCond .le 7, 3) := by decide +kernel
theorem dX4_longest_26 : decode cX4_longest 26 = .ok (.iconst 0, 1) := by decide +kernel
theorem dX4_longest_27 : decode cX4_longest 27 = .ok (.goto 6, 3) := by decide +kernel
theorem dX4_longest_30 : decode cX4_longest 30 = .ok (.iload_n 3, 1) := by decide +kernel
theorem dX4_longest_31 : decode cX4_longest 31 = .ok (.iconst 1, 1) := by decide +kernel
theorem dX4_longest_32 : decode cX4_longest 32 = .ok (.iadd, 1) := by decide +kernel
theorem dX4_longest_33 : decode cX4_longest 33 = .ok (.istore_n 3, 1) := by decide +kernel
theorem dX4_longest_34 : decode cX4_longest 34 = .ok (.iload_n 2, 1) := by decide +kernel
theorem dX4_longest_35 : decode cX4_longest 35 = .ok (.iload_n 3, 1) := by decide +kernel
theorem dX4_longest_36 : decode cX4_longest 36 = .ok (.invokestatic 71, 3) := by decide +kernel
theorem dX4_longest_39 : decode cX4_longest 39 = .ok (.istore_n 2, 1) := by decide +kernel
theorem dX4_longest_40 : decode cX4_longest 40 = .ok (.iinc 4 1, 3) := by decide +kernel
theorem dX4_longest_43 : decode cX4_longest 43 = .ok (.goto (-36), 3) := by decide +kernel
theorem dX4_longest_46 : decode cX4_longest 46 = .ok (.iload_n 2, 1) := by decide +kernel
theorem dX4_longest_47 : decode cX4_longest 47 = .ok (.ireturn, 1) := by decide +kernel
theorem dX4_longestDry_0 : decode cX4_longestDry 0 = .ok (.aload_n 0, 1) := by decide +kernel
theorem dX4_longestDry_1 : decode cX4_longestDry 1 = .ok (.iconst 0, 1) := by decide +kernel
theorem dX4_longestDry_2 : decode cX4_longestDry 2 = .ok (.putfield 38, 3) := by decide +kernel
theorem dX4_longestDry_5 : decode cX4_longestDry 5 = .ok (.aload_n 0, 1) := by decide +kernel
theorem dX4_longestDry_6 : decode cX4_longestDry 6 = .ok (.iload_n 1, 1) := by decide +kernel
theorem dX4_longestDry_7 : decode cX4_longestDry 7 = .ok (.invokevirtual 48, 3) := by decide +kernel
theorem dX4_longestDry_10 : decode cX4_longestDry 10 = .ok (.ifCond .eq 11, 3) := by decide +kernel
theorem dX4_longestDry_13 : decode cX4_longestDry 13 = .ok (.aload_n 0, 1) := by decide +kernel
theorem dX4_longestDry_14 : decode cX4_longestDry 14 = .ok (.iload_n 1, 1) := by decide +kernel
theorem dX4_longestDry_15 : decode cX4_longestDry 15 = .ok (.invokevirtual 154, 3) := by decide +kernel
theorem dX4_longestDry_18 : decode cX4_longestDry 18 = .ok (.goto 8, 3) := by decide +kernel
theorem dX4_longestDry_21 : decode cX4_longestDry 21 = .ok (.aload_n 0, 1) := by decide +kernel
theorem dX4_longestDry_22 : decode cX4_longestDry 22 = .ok (.iconst 1, 1) := by decide +kernel
theorem dX4_longestDry_23 : decode cX4_longestDry 23 = .ok (.invokevirtual 84, 3) := by decide +kernel
theorem dX4_longestDry_26 : decode cX4_longestDry 26 = .ok (.ireturn, 1) := by decide +kernel
theorem dX4_driest_0 : decode cX4_driest 0 = .ok (.iconst 0, 1) := by decide +kernel
theorem dX4_driest_1 : decode cX4_driest 1 = .ok (.istore_n 1, 1) := by decide +kernel
theorem dX4_driest_2 : decode cX4_driest 2 = .ok (.iconst 1, 1) := by decide +kernel
theorem dX4_driest_3 : decode cX4_driest 3 = .ok (.istore_n 2, 1) := by decide +kernel
theorem dX4_driest_4 : decode cX4_driest 4 = .ok (.iload_n 2, 1) := by decide +kernel
theorem dX4_driest_5 : decode cX4_driest 5 = .ok (.aload_n 0, 1) := by decide +kernel
theorem dX4_driest_6 : decode cX4_driest 6 = .ok (.getfield 9, 3) := by decide +kernel
theorem dX4_driest_9 : decode cX4_driest 9 = .ok (.if_icmp .ge 40, 3) := by decide +kernel
theorem dX4_driest_12 : decode cX4_driest 12 = .ok (.aload_n 0, 1) := by decide +kernel
theorem dX4_driest_13 : decode cX4_driest 13 = .ok (.iload_n 2, 1) := by decide +kernel
theorem dX4_driest_14 : decode cX4_driest 14 = .ok (.iconst 0, 1) := by decide +kernel
theorem dX4_driest_15 : decode cX4_driest 15 = .ok (.iload_n 2, 1) := by decide +kernel
theorem dX4_driest_16 : decode cX4_driest 16 = .ok (.aload_n 0, 1) := by decide +kernel
theorem dX4_driest_17 : decode cX4_driest 17 = .ok (.getfield 13, 3) := by decide +kernel
theorem dX4_driest_20 : decode cX4_driest 20 = .ok (.iconst 1, 1) := by decide +kernel
theorem dX4_driest_21 : decode cX4_driest 21 = .ok (.isub, 1) := by decide +kernel
theorem dX4_driest_22 : decode cX4_driest 22 = .ok (.invokevirtual 148, 3) := by decide +kernel
theorem dX4_driest_25 : decode cX4_driest 25 = .ok (.aload_n 0, 1) := by decide +kernel
theorem dX4_driest_26 : decode cX4_driest 26 = .ok (.iload_n 1, 1) := by decide +kernel
theorem dX4_driest_27 : decode cX4_driest 27 = .ok (.iconst 0, 1) := by decide +kernel
theorem dX4_driest_28 : decode cX4_driest 28 = .ok (.iload_n 1, 1) := by decide +kernel
theorem dX4_driest_29 : decode cX4_driest 29 = .ok (.aload_n 0, 1) := by decide +kernel
theorem dX4_driest_30 : decode cX4_driest 30 = .ok (.getfield 13, 3) := by decide +kernel
theorem dX4_driest_33 : decode cX4_driest 33 = .ok (.iconst 1, 1) := by decide +kernel
theorem dX4_driest_34 : decode cX4_driest 34 = .ok (.isub, 1) := by decide +kernel
theorem dX4_driest_35 : decode cX4_driest 35 = .ok (.invokevirtual 148, 3) := by decide +kernel
theorem dX4_driest_38 : decode cX4_driest 38 = .ok (.if_icmp .le 5, 3) := by decide +kernel
theorem dX4_driest_41 : decode cX4_driest 41 = .ok (.iload_n 2, 1) := by decide +kernel
theorem dX4_driest_42 : decode cX4_driest 42 = .ok (.istore_n 1, 1) := by decide +kernel
theorem dX4_driest_43 : decode cX4_driest 43 = .ok (.iinc 2 1, 3) := by decide +kernel
theorem dX4_driest_46 : decode cX4_driest 46 = .ok (.goto (-42), 3) := by decide +kernel
theorem dX4_driest_49 : decode cX4_driest 49 = .ok (.iload_n 1, 1) := by decide +kernel
theorem dX4_driest_50 : decode cX4_driest 50 = .ok (.ireturn, 1) := by decide +kernel
theorem dX4_driestFlight_0 : decode cX4_driestFlight 0 = .ok (.aload_n 0, 1) := by decide +kernel
theorem dX4_driestFlight_1 : decode cX4_driestFlight 1 = .ok (.aload_n 0, 1) := by decide +kernel
theorem dX4_driestFlight_2 : decode cX4_driestFlight 2 = .ok (.invokevirtual 157, 3) := by decide +kernel
theorem dX4_driestFlight_5 : decode cX4_driestFlight 5 = .ok (.invokevirtual 114, 3) := by decide +kernel
theorem dX4_driestFlight_8 : decode cX4_driestFlight 8 = .ok (.ireturn, 1) := by decide +kernel
theorem dX4_lowestIn_0 : decode cX4_lowestIn 0 = .ok (.aload_n 0, 1) := by decide +kernel
theorem dX4_lowestIn_1 : decode cX4_lowestIn 1 = .ok (.aload_n 0, 1) := by decide +kernel
theorem dX4_lowestIn_2 : decode cX4_lowestIn 2 = .ok (.iload_n 1, 1) := by decide +kernel
theorem dX4_lowestIn_3 : decode cX4_lowestIn 3 = .ok (.iload_n 2, 1) := by decide +kernel
theorem dX4_lowestIn_4 : decode cX4_lowestIn 4 = .ok (.iload_n 3, 1) := by decide +kernel
theorem dX4_lowestIn_5 : decode cX4_lowestIn 5 = .ok (.iload 4, 2) := by decide +kernel
theorem dX4_lowestIn_7 : decode cX4_lowestIn 7 = .ok (.invokevirtual 91, 3) := by decide +kernel
theorem dX4_lowestIn_10 : decode cX4_lowestIn 10 = .ok (.putfield 38, 3) := by decide +kernel
theorem dX4_lowestIn_13 : decode cX4_lowestIn 13 = .ok (.aload_n 0, 1) := by decide +kernel
theorem dX4_lowestIn_14 : decode cX4_lowestIn 14 = .ok (.getfield 38, 3) := by decide +kernel
theorem dX4_lowestIn_17 : decode cX4_lowestIn 17 = .ok (.ifCond .le 5, 3) := by decide +kernel
theorem dX4_lowestIn_20 : decode cX4_lowestIn 20 = .ok (.iconst 0, 1) := by decide +kernel
theorem dX4_lowestIn_21 : decode cX4_lowestIn 21 = .ok (.ireturn, 1) := by decide +kernel
theorem dX4_lowestIn_22 : decode cX4_lowestIn 22 = .ok (.aload_n 0, 1) := by decide +kernel
theorem dX4_lowestIn_23 : decode cX4_lowestIn 23 = .ok (.iload_n 1, 1) := by decide +kernel
theorem dX4_lowestIn_24 : decode cX4_lowestIn 24 = .ok (.iload_n 2, 1) := by decide +kernel
theorem dX4_lowestIn_25 : decode cX4_lowestIn 25 = .ok (.invokevirtual 121, 3) := by decide +kernel
theorem dX4_lowestIn_28 : decode cX4_lowestIn 28 = .ok (.istore 5, 2) := by decide +kernel
theorem dX4_lowestIn_30 : decode cX4_lowestIn 30 = .ok (.iload_n 1, 1) := by decide +kernel
theorem dX4_lowestIn_31 : decode cX4_lowestIn 31 = .ok (.istore 6, 2) := by decide +kernel
theorem dX4_lowestIn_33 : decode cX4_lowestIn 33 = .ok (.iload 6, 2) := by decide +kernel
theorem dX4_lowestIn_35 : decode cX4_lowestIn 35 = .ok (.iload_n 3, 1) := by decide +kernel
theorem dX4_lowestIn_36 : decode cX4_lowestIn 36 = .ok (.if_icmp .gt 40, 3) := by decide +kernel
theorem dX4_lowestIn_39 : decode cX4_lowestIn 39 = .ok (.iload_n 2, 1) := by decide +kernel
theorem dX4_lowestIn_40 : decode cX4_lowestIn 40 = .ok (.istore 7, 2) := by decide +kernel
theorem dX4_lowestIn_42 : decode cX4_lowestIn 42 = .ok (.iload 7, 2) := by decide +kernel
theorem dX4_lowestIn_44 : decode cX4_lowestIn 44 = .ok (.iload 4, 2) := by decide +kernel
theorem dX4_lowestIn_46 : decode cX4_lowestIn 46 = .ok (.if_icmp .gt 24, 3) := by decide +kernel
theorem dX4_lowestIn_49 : decode cX4_lowestIn 49 = .ok (.iload 5, 2) := by decide +kernel
theorem dX4_lowestIn_51 : decode cX4_lowestIn 51 = .ok (.aload_n 0, 1) := by decide +kernel
theorem dX4_lowestIn_52 : decode cX4_lowestIn 52 = .ok (.iload 6, 2) := by decide +kernel
theorem dX4_lowestIn_54 : decode cX4_lowestIn 54 = .ok (.iload 7, 2) := by decide +kernel
theorem dX4_lowestIn_56 : decode cX4_lowestIn 56 = .ok (.invokevirtual 121, 3) := by decide +kernel
theorem dX4_lowestIn_59 : decode cX4_lowestIn 59 = .ok (.invokestatic 98, 3) := by decide +kernel
theorem dX4_lowestIn_62 : decode cX4_lowestIn 62 = .ok (.istore 5, 2) := by decide +kernel
theorem dX4_lowestIn_64 : decode cX4_lowestIn 64 = .ok (.iinc 7 1, 3) := by decide +kernel
theorem dX4_lowestIn_67 : decode cX4_lowestIn 67 = .ok (.goto (-25), 3) := by decide +kernel
theorem dX4_lowestIn_70 : decode cX4_lowestIn 70 = .ok (.iinc 6 1, 3) := by decide +kernel
theorem dX4_lowestIn_73 : decode cX4_lowestIn 73 = .ok (.goto (-40), 3) := by decide +kernel
theorem dX4_lowestIn_76 : decode cX4_lowestIn 76 = .ok (.iload 5, 2) := by decide +kernel
theorem dX4_lowestIn_78 : decode cX4_lowestIn 78 = .ok (.ireturn, 1) := by decide +kernel
theorem dX4_highest_0 : decode cX4_highest 0 = .ok (.iconst 0, 1) := by decide +kernel
theorem dX4_highest_1 : decode cX4_highest 1 = .ok (.istore_n 2, 1) := by decide +kernel
theorem dX4_highest_2 : decode cX4_highest 2 = .ok (.iconst 1, 1) := by decide +kernel
theorem dX4_highest_3 : decode cX4_highest 3 = .ok (.istore_n 3, 1) := by decide +kernel
theorem dX4_highest_4 : decode cX4_highest 4 = .ok (.iload_n 3, 1) := by decide +kernel
theorem dX4_highest_5 : decode cX4_highest 5 = .ok (.aload_n 0, 1) := by decide +kernel
theorem dX4_highest_6 : decode cX4_highest 6 = .ok (.getfield 13, 3) := by decide +kernel
theorem dX4_highest_9 : decode cX4_highest 9 = .ok (.if_icmp .ge 26, 3) := by decide +kernel
theorem dX4_highest_12 : decode cX4_highest 12 = .ok (.aload_n 0, 1) := by decide +kernel
theorem dX4_highest_13 : decode cX4_highest 13 = .ok (.iload_n 1, 1) := by decide +kernel
theorem dX4_highest_14 : decode cX4_highest 14 = .ok (.iload_n 3, 1) := by decide +kernel
theorem dX4_highest_15 : decode cX4_highest 15 = .ok (.invokevirtual 121, 3) := by decide +kernel
theorem dX4_highest_18 : decode cX4_highest 18 = .ok (.aload_n 0, 1) := by decide +kernel
theorem dX4_highest_19 : decode cX4_highest 19 = .ok (.iload_n 1, 1) := by decide +kernel
theorem dX4_highest_20 : decode cX4_highest 20 = .ok (.iload_n 2, 1) := by decide +kernel
theorem dX4_highest_21 : decode cX4_highest 21 = .ok (.invokevirtual 121, 3) := by decide +kernel
theorem dX4_highest_24 : decode cX4_highest 24 = .ok (.if_icmp .le 5, 3) := by decide +kernel
theorem dX4_highest_27 : decode cX4_highest 27 = .ok (.iload_n 3, 1) := by decide +kernel
theorem dX4_highest_28 : decode cX4_highest 28 = .ok (.istore_n 2, 1) := by decide +kernel
theorem dX4_highest_29 : decode cX4_highest 29 = .ok (.iinc 3 1, 3) := by decide +kernel
theorem dX4_highest_32 : decode cX4_highest 32 = .ok (.goto (-28), 3) := by decide +kernel
theorem dX4_highest_35 : decode cX4_highest 35 = .ok (.iload_n 2, 1) := by decide +kernel
theorem dX4_highest_36 : decode cX4_highest 36 = .ok (.ireturn, 1) := by decide +kernel
theorem dX4_highestAt_0 : decode cX4_highestAt 0 = .ok (.aload_n 0, 1) := by decide +kernel
theorem dX4_highestAt_1 : decode cX4_highestAt 1 = .ok (.iconst 0, 1) := by decide +kernel
theorem dX4_highestAt_2 : decode cX4_highestAt 2 = .ok (.putfield 38, 3) := by decide +kernel
theorem dX4_highestAt_5 : decode cX4_highestAt 5 = .ok (.aload_n 0, 1) := by decide +kernel
theorem dX4_highestAt_6 : decode cX4_highestAt 6 = .ok (.iload_n 1, 1) := by decide +kernel
theorem dX4_highestAt_7 : decode cX4_highestAt 7 = .ok (.invokevirtual 48, 3) := by decide +kernel
theorem dX4_highestAt_10 : decode cX4_highestAt 10 = .ok (.ifCond .eq 11, 3) := by decide +kernel
theorem dX4_highestAt_13 : decode cX4_highestAt 13 = .ok (.aload_n 0, 1) := by decide +kernel
theorem dX4_highestAt_14 : decode cX4_highestAt 14 = .ok (.iload_n 1, 1) := by decide +kernel
theorem dX4_highestAt_15 : decode cX4_highestAt 15 = .ok (.invokevirtual 160, 3) := by decide +kernel
theorem dX4_highestAt_18 : decode cX4_highestAt 18 = .ok (.goto 8, 3) := by decide +kernel
theorem dX4_highestAt_21 : decode cX4_highestAt 21 = .ok (.aload_n 0, 1) := by decide +kernel
theorem dX4_highestAt_22 : decode cX4_highestAt 22 = .ok (.iconst 1, 1) := by decide +kernel
theorem dX4_highestAt_23 : decode cX4_highestAt 23 = .ok (.invokevirtual 84, 3) := by decide +kernel
theorem dX4_highestAt_26 : decode cX4_highestAt 26 = .ok (.ireturn, 1) := by decide +kernel
theorem dX4_below_0 : decode cX4_below 0 = .ok (.iconst 0, 1) := by decide +kernel
theorem dX4_below_1 : decode cX4_below 1 = .ok (.istore_n 2, 1) := by decide +kernel
theorem dX4_below_2 : decode cX4_below 2 = .ok (.iconst 0, 1) := by decide +kernel
theorem dX4_below_3 : decode cX4_below 3 = .ok (.istore_n 3, 1) := by decide +kernel
theorem dX4_below_4 : decode cX4_below 4 = .ok (.iload_n 3, 1) := by decide +kernel
theorem dX4_below_5 : decode cX4_below 5 = .ok (.aload_n 0, 1) := by decide +kernel
theorem dX4_below_6 : decode cX4_below 6 = .ok (.invokevirtual 67, 3) := by decide +kernel
theorem dX4_below_9 : decode cX4_below 9 = .ok (.if_icmp .ge 27, 3) := by decide +kernel
theorem dX4_below_12 : decode cX4_below 12 = .ok (.iload_n 2, 1) := by decide +kernel
theorem dX4_below_13 : decode cX4_below 13 = .ok (.aload_n 0, 1) := by decide +kernel
theorem dX4_below_14 : decode cX4_below 14 = .ok (.getfield 23, 3) := by decide +kernel
theorem dX4_below_17 : decode cX4_below 17 = .ok (.iload_n 3, 1) := by decide +kernel
theorem dX4_below_18 : decode cX4_below 18 = .ok (.iaload, 1) := by decide +kernel
theorem dX4_below_19 : decode cX4_below 19 = .ok (.iload_n 1, 1) := by decide +kernel
theorem dX4_below_20 : decode cX4_below 20 = .ok (.if_icmp .gt 7, 3) := by decide +kernel
theorem dX4_below_23 : decode cX4_below 23 = .ok (.iconst 1, 1) := by decide +kernel
theorem dX4_below_24 : decode cX4_below 24 = .ok (.goto 4, 3) := by decide +kernel
theorem dX4_below_27 : decode cX4_below 27 = .ok (.iconst 0, 1) := by decide +kernel
theorem dX4_below_28 : decode cX4_below 28 = .ok (.iadd, 1) := by decide +kernel
theorem dX4_below_29 : decode cX4_below 29 = .ok (.istore_n 2, 1) := by decide +kernel
theorem dX4_below_30 : decode cX4_below 30 = .ok (.iinc 3 1, 3) := by decide +kernel
theorem dX4_below_33 : decode cX4_below 33 = .ok (.goto (-29), 3) := by decide +kernel
theorem dX4_below_36 : decode cX4_below 36 = .ok (.iload_n 2, 1) := by decide +kernel
theorem dX4_below_37 : decode cX4_below 37 = .ok (.ireturn, 1) := by decide +kernel
theorem dX4_upTo_0 : decode cX4_upTo 0 = .ok (.aload_n 0, 1) := by decide +kernel
theorem dX4_upTo_1 : decode cX4_upTo 1 = .ok (.aload_n 0, 1) := by decide +kernel
theorem dX4_upTo_2 : decode cX4_upTo 2 = .ok (.iload_n 1, 1) := by decide +kernel
theorem dX4_upTo_3 : decode cX4_upTo 3 = .ok (.invokevirtual 163, 3) := by decide +kernel
theorem dX4_upTo_6 : decode cX4_upTo 6 = .ok (.invokevirtual 114, 3) := by decide +kernel
theorem dX4_upTo_9 : decode cX4_upTo 9 = .ok (.ireturn, 1) := by decide +kernel
theorem dX4_levelInOrder_0 : decode cX4_levelInOrder 0 = .ok (.aload_n 0, 1) := by decide +kernel
theorem dX4_levelInOrder_1 : decode cX4_levelInOrder 1 = .ok (.iconst 0, 1) := by decide +kernel
theorem dX4_levelInOrder_2 : decode cX4_levelInOrder 2 = .ok (.putfield 38, 3) := by decide +kernel
theorem dX4_levelInOrder_5 : decode cX4_levelInOrder 5 = .ok (.iload_n 1, 1) := by decide +kernel
theorem dX4_levelInOrder_6 : decode cX4_levelInOrder 6 = .ok (.iconst 0, 1) := by decide +kernel
theorem dX4_levelInOrder_7 : decode cX4_levelInOrder 7 = .ok (.aload_n 0, 1) := by decide +kernel
theorem dX4_levelInOrder_8 : decode cX4_levelInOrder 8 = .ok (.invokevirtual 67, 3) := by decide +kernel
theorem dX4_levelInOrder_11 : decode cX4_levelInOrder 11 = .ok (.iconst 1, 1) := by decide +kernel
theorem dX4_levelInOrder_12 : decode cX4_levelInOrder 12 = .ok (.isub, 1) := by decide +kernel
theorem dX4_levelInOrder_13 : decode cX4_levelInOrder 13 = .ok (.invokestatic 41, 3) := by decide +kernel
theorem dX4_levelInOrder_16 : decode cX4_levelInOrder 16 = .ok (.ifCond .ne 9, 3) := by decide +kernel
theorem dX4_levelInOrder_19 : decode cX4_levelInOrder 19 = .ok (.aload_n 0, 1) := by decide +kernel
theorem dX4_levelInOrder_20 : decode cX4_levelInOrder 20 = .ok (.iconst 1, 1) := by decide +kernel
theorem dX4_levelInOrder_21 : decode cX4_levelInOrder 21 = .ok (.invokevirtual 84, 3) := by decide +kernel
theorem dX4_levelInOrder_24 : decode cX4_levelInOrder 24 = .ok (.ireturn, 1) := by decide +kernel
theorem dX4_levelInOrder_25 : decode cX4_levelInOrder 25 = .ok (.iconst 0, 1) := by decide +kernel
theorem dX4_levelInOrder_26 : decode cX4_levelInOrder 26 = .ok (.istore_n 2, 1) := by decide +kernel
theorem dX4_levelInOrder_27 : decode cX4_levelInOrder 27 = .ok (.iconst 0, 1) := by decide +kernel
theorem dX4_levelInOrder_28 : decode cX4_levelInOrder 28 = .ok (.istore_n 3, 1) := by decide +kernel
theorem dX4_levelInOrder_29 : decode cX4_levelInOrder 29 = .ok (.iconst 0, 1) := by decide +kernel
theorem dX4_levelInOrder_30 : decode cX4_levelInOrder 30 = .ok (.istore 4, 2) := by decide +kernel
theorem dX4_levelInOrder_32 : decode cX4_levelInOrder 32 = .ok (.iload 4, 2) := by decide +kernel
theorem dX4_levelInOrder_34 : decode cX4_levelInOrder 34 = .ok (.aload_n 0, 1) := by decide +kernel
theorem dX4_levelInOrder_35 : decode cX4_levelInOrder 35 = .ok (.invokevirtual 67, 3) := by decide +kernel
theorem dX4_levelInOrder_38 : decode cX4_levelInOrder 38 = .ok (.if_icmp .ge 52, 3) := by decide +kernel
theorem dX4_levelInOrder_41 : decode cX4_levelInOrder 41 = .ok (.aload_n 0, 1) := by decide +kernel
theorem dX4_levelInOrder_42 : decode cX4_levelInOrder 42 = .ok (.aload_n 0, 1) := by decide +kernel
theorem dX4_levelInOrder_43 : decode cX4_levelInOrder 43 = .ok (.getfield 23, 3) := by decide +kernel
theorem dX4_levelInOrder_46 : decode cX4_levelInOrder 46 = .ok (.iload 4, 2) := by decide +kernel
theorem dX4_levelInOrder_48 : decode cX4_levelInOrder 48 = .ok (.iaload, 1) := by decide +kernel
theorem dX4_levelInOrder_49 : decode cX4_levelInOrder 49 = .ok (.invokevirtual 163, 3) := by decide +kernel
theorem dX4_levelInOrder_52 : decode cX4_levelInOrder 52 = .ok (.iload_n 1, 1) := by decide +kernel
theorem dX4_levelInOrder_53 : decode cX4_levelInOrder 53 = .ok (.if_icmp .le 31, 3) := by decide +kernel
theorem dX4_levelInOrder_56 : decode cX4_levelInOrder 56 = .ok (.iload_n 3, 1) := by decide +kernel
theorem dX4_levelInOrder_57 : decode cX4_levelInOrder 57 = .ok (.ifCond .eq 17, 3) := by decide +kernel
theorem dX4_levelInOrder_60 : decode cX4_levelInOrder 60 = .ok (.aload_n 0, 1) := by decide +kernel
theorem dX4_levelInOrder_61 : decode cX4_levelInOrder 61 = .ok (.getfield 23, 3) := by decide +kernel
theorem dX4_levelInOrder_64 : decode cX4_levelInOrder 64 = .ok (.iload 4, 2) := by decide +kernel
theorem dX4_levelInOrder_66 : decode cX4_levelInOrder 66 = .ok (.iaload, 1) := by decide +kernel
theorem dX4_levelInOrder_67 : decode cX4_levelInOrder 67 = .ok (.iload_n 2, 1) := by decide +kernel
theorem dX4_levelInOrder_68 : decode cX4_levelInOrder 68 = .ok (.if_icmp .lt 6, 3) := by decide +kernel
theorem dX4_levelInOrder_71 : decode cX4_levelInOrder 71 = .ok (.goto 13, 3) := by decide +kernel
theorem dX4_levelInOrder_74 : decode cX4_levelInOrder 74 = .ok (.aload_n 0, 1) := by decide +kernel
theorem dX4_levelInOrder_75 : decode cX4_levelInOrder 75 = .ok (.getfield 23, 3) := by decide +kernel
theorem dX4_levelInOrder_78 : decode cX4_levelInOrder 78 = .ok (.iload 4, 2) := by decide +kernel
theorem dX4_levelInOrder_80 : decode cX4_levelInOrder 80 = .ok (.iaload, 1) := by decide +kernel
theorem dX4_levelInOrder_81 : decode cX4_levelInOrder 81 = .ok (.istore_n 2, 1) := by decide +kernel
theorem dX4_levelInOrder_82 : decode cX4_levelInOrder 82 = .ok (.iconst 1, 1) := by decide +kernel
theorem dX4_levelInOrder_83 : decode cX4_levelInOrder 83 = .ok (.istore_n 3, 1) := by decide +kernel
theorem dX4_levelInOrder_84 : decode cX4_levelInOrder 84 = .ok (.iinc 4 1, 3) := by decide +kernel
theorem dX4_levelInOrder_87 : decode cX4_levelInOrder 87 = .ok (.goto (-55), 3) := by decide +kernel
theorem dX4_levelInOrder_90 : decode cX4_levelInOrder 90 = .ok (.iload_n 2, 1) := by decide +kernel
theorem dX4_levelInOrder_91 : decode cX4_levelInOrder 91 = .ok (.ireturn, 1) := by decide +kernel
theorem dX4_pairs_0 : decode cX4_pairs 0 = .ok (.iconst 0, 1) := by decide +kernel
theorem dX4_pairs_1 : decode cX4_pairs 1 = .ok (.istore_n 1, 1) := by decide +kernel
theorem dX4_pairs_2 : decode cX4_pairs 2 = .ok (.iconst 1, 1) := by decide +kernel
theorem dX4_pairs_3 : decode cX4_pairs 3 = .ok (.istore_n 2, 1) := by decide +kernel
theorem dX4_pairs_4 : decode cX4_pairs 4 = .ok (.iload_n 2, 1) := by decide +kernel
theorem dX4_pairs_5 : decode cX4_pairs 5 = .ok (.aload_n 0, 1) := by decide +kernel
theorem dX4_pairs_6 : decode cX4_pairs 6 = .ok (.invokevirtual 67, 3) := by decide +kernel
theorem dX4_pairs_9 : decode cX4_pairs 9 = .ok (.if_icmp .ge 45, 3) := by decide +kernel
theorem dX4_pairs_12 : decode cX4_pairs 12 = .ok (.iconst 0, 1) := by decide +kernel
theorem dX4_pairs_13 : decode cX4_pairs 13 = .ok (.istore_n 3, 1) := by decide +kernel
theorem dX4_pairs_14 : decode cX4_pairs 14 = .ok (.iload_n 3, 1) := by decide +kernel
theorem dX4_pairs_15 : decode cX4_pairs 15 = .ok (.iload_n 2, 1) := by decide +kernel
theorem dX4_pairs_16 : decode cX4_pairs 16 = .ok (.if_icmp .ge 32, 3) := by decide +kernel
theorem dX4_pairs_19 : decode cX4_pairs 19 = .ok (.iload_n 1, 1) := by decide +kernel
theorem dX4_pairs_20 : decode cX4_pairs 20 = .ok (.aload_n 0, 1) := by decide +kernel
theorem dX4_pairs_21 : decode cX4_pairs 21 = .ok (.getfield 23, 3) := by decide +kernel
theorem dX4_pairs_24 : decode cX4_pairs 24 = .ok (.iload_n 3, 1) := by decide +kernel
theorem dX4_pairs_25 : decode cX4_pairs 25 = .ok (.iaload, 1) := by decide +kernel
theorem dX4_pairs_26 : decode cX4_pairs 26 = .ok (.aload_n 0, 1) := by decide +kernel
theorem dX4_pairs_27 : decode cX4_pairs 27 = .ok (.getfield 23, 3) := by decide +kernel
theorem dX4_pairs_30 : decode cX4_pairs 30 = .ok (.iload_n 2, 1) := by decide +kernel
theorem dX4_pairs_31 : decode cX4_pairs 31 = .ok (.iaload, 1) := by decide +kernel
theorem dX4_pairs_32 : decode cX4_pairs 32 = .ok (.if_icmp .le 7, 3) := by decide +kernel
theorem dX4_pairs_35 : decode cX4_pairs 35 = .ok (.iconst 1, 1) := by decide +kernel
theorem dX4_pairs_36 : decode cX4_pairs 36 = .ok (.goto 4, 3) := by decide +kernel
theorem dX4_pairs_39 : decode cX4_pairs 39 = .ok (.iconst 0, 1) := by decide +kernel
theorem dX4_pairs_40 : decode cX4_pairs 40 = .ok (.iadd, 1) := by decide +kernel
theorem dX4_pairs_41 : decode cX4_pairs 41 = .ok (.istore_n 1, 1) := by decide +kernel
theorem dX4_pairs_42 : decode cX4_pairs 42 = .ok (.iinc 3 1, 3) := by decide +kernel
theorem dX4_pairs_45 : decode cX4_pairs 45 = .ok (.goto (-31), 3) := by decide +kernel
theorem dX4_pairs_48 : decode cX4_pairs 48 = .ok (.iinc 2 1, 3) := by decide +kernel
theorem dX4_pairs_51 : decode cX4_pairs 51 = .ok (.goto (-47), 3) := by decide +kernel
theorem dX4_pairs_54 : decode cX4_pairs 54 = .ok (.iload_n 1, 1) := by decide +kernel
theorem dX4_pairs_55 : decode cX4_pairs 55 = .ok (.ireturn, 1) := by decide +kernel
theorem dX4_outOfOrder_0 : decode cX4_outOfOrder 0 = .ok (.aload_n 0, 1) := by decide +kernel
theorem dX4_outOfOrder_1 : decode cX4_outOfOrder 1 = .ok (.aload_n 0, 1) := by decide +kernel
theorem dX4_outOfOrder_2 : decode cX4_outOfOrder 2 = .ok (.invokevirtual 166, 3) := by decide +kernel
theorem dX4_outOfOrder_5 : decode cX4_outOfOrder 5 = .ok (.invokevirtual 114, 3) := by decide +kernel
theorem dX4_outOfOrder_8 : decode cX4_outOfOrder 8 = .ok (.ireturn, 1) := by decide +kernel
theorem dX4_alike_0 : decode cX4_alike 0 = .ok (.aload_n 0, 1) := by decide +kernel
theorem dX4_alike_1 : decode cX4_alike 1 = .ok (.iconst 0, 1) := by decide +kernel
theorem dX4_alike_2 : decode cX4_alike 2 = .ok (.putfield 38, 3) := by decide +kernel
theorem dX4_alike_5 : decode cX4_alike 5 = .ok (.aload_n 0, 1) := by decide +kernel
theorem dX4_alike_6 : decode cX4_alike 6 = .ok (.iload_n 1, 1) := by decide +kernel
theorem dX4_alike_7 : decode cX4_alike 7 = .ok (.invokevirtual 48, 3) := by decide +kernel
theorem dX4_alike_10 : decode cX4_alike 10 = .ok (.ifCond .eq 11, 3) := by decide +kernel
theorem dX4_alike_13 : decode cX4_alike 13 = .ok (.aload_n 0, 1) := by decide +kernel
theorem dX4_alike_14 : decode cX4_alike 14 = .ok (.iload_n 2, 1) := by decide +kernel
theorem dX4_alike_15 : decode cX4_alike 15 = .ok (.invokevirtual 48, 3) := by decide +kernel
theorem dX4_alike_18 : decode cX4_alike 18 = .ok (.ifCond .ne 9, 3) := by decide +kernel
theorem dX4_alike_21 : decode cX4_alike 21 = .ok (.aload_n 0, 1) := by decide +kernel
theorem dX4_alike_22 : decode cX4_alike 22 = .ok (.iconst 1, 1) := by decide +kernel
theorem dX4_alike_23 : decode cX4_alike 23 = .ok (.invokevirtual 84, 3) := by decide +kernel
theorem dX4_alike_26 : decode cX4_alike 26 = .ok (.ireturn, 1) := by decide +kernel
theorem dX4_alike_27 : decode cX4_alike 27 = .ok (.iconst 0, 1) := by decide +kernel
theorem dX4_alike_28 : decode cX4_alike 28 = .ok (.istore_n 3, 1) := by decide +kernel
theorem dX4_alike_29 : decode cX4_alike 29 = .ok (.iconst 0, 1) := by decide +kernel
theorem dX4_alike_30 : decode cX4_alike 30 = .ok (.istore 4, 2) := by decide +kernel
theorem dX4_alike_32 : decode cX4_alike 32 = .ok (.iload 4, 2) := by decide +kernel
theorem dX4_alike_34 : decode cX4_alike 34 = .ok (.aload_n 0, 1) := by decide +kernel
theorem dX4_alike_35 : decode cX4_alike 35 = .ok (.getfield 13, 3) := by decide +kernel
theorem dX4_alike_38 : decode cX4_alike 38 = .ok (.if_icmp .ge 34, 3) := by decide +kernel
theorem dX4_alike_41 : decode cX4_alike 41 = .ok (.iload_n 3, 1) := by decide +kernel
theorem dX4_alike_42 : decode cX4_alike 42 = .ok (.aload_n 0, 1) := by decide +kernel
theorem dX4_alike_43 : decode cX4_alike 43 = .ok (.iload_n 1, 1) := by decide +kernel
theorem dX4_alike_44 : decode cX4_alike 44 = .ok (.iload 4, 2) := by decide +kernel
theorem dX4_alike_46 : decode cX4_alike 46 = .ok (.invokevirtual 121, 3) := by decide +kernel
theorem dX4_alike_49 : decode cX4_alike 49 = .ok (.aload_n 0, 1) := by decide +kernel
theorem dX4_alike_50 : decode cX4_alike 50 = .ok (.iload_n 2, 1) := by decide +kernel
theorem dX4_alike_51 : decode cX4_alike 51 = .ok (.iload 4, 2) := by decide +kernel
theorem dX4_alike_53 : decode cX4_alike 53 = .ok (.invokevirtual 121, 3) := by decide +kernel
theorem dX4_alike_56 : decode cX4_alike 56 = .ok (.if_icmp .ne 7, 3) := by decide +kernel
theorem dX4_alike_59 : decode cX4_alike 59 = .ok (.iconst 1, 1) := by decide +kernel
theorem dX4_alike_60 : decode cX4_alike 60 = .ok (.goto 4, 3) := by decide +kernel
theorem dX4_alike_63 : decode cX4_alike 63 = .ok (.iconst 0, 1) := by decide +kernel
theorem dX4_alike_64 : decode cX4_alike 64 = .ok (.iadd, 1) := by decide +kernel
theorem dX4_alike_65 : decode cX4_alike 65 = .ok (.istore_n 3, 1) := by decide +kernel
theorem dX4_alike_66 : decode cX4_alike 66 = .ok (.iinc 4 1, 3) := by decide +kernel
theorem dX4_alike_69 : decode cX4_alike 69 = .ok (.goto (-37), 3) := by decide +kernel
theorem dX4_alike_72 : decode cX4_alike 72 = .ok (.iload_n 3, 1) := by decide +kernel
theorem dX4_alike_73 : decode cX4_alike 73 = .ok (.ireturn, 1) := by decide +kernel
theorem dX4_changed_0 : decode cX4_changed 0 = .ok (.iconst 0, 1) := by decide +kernel
theorem dX4_changed_1 : decode cX4_changed 1 = .ok (.istore_n 2, 1) := by decide +kernel
theorem dX4_changed_2 : decode cX4_changed 2 = .ok (.iconst 0, 1) := by decide +kernel
theorem dX4_changed_3 : decode cX4_changed 3 = .ok (.istore_n 3, 1) := by decide +kernel
theorem dX4_changed_4 : decode cX4_changed 4 = .ok (.iload_n 3, 1) := by decide +kernel
theorem dX4_changed_5 : decode cX4_changed 5 = .ok (.aload_n 0, 1) := by decide +kernel
theorem dX4_changed_6 : decode cX4_changed 6 = .ok (.invokevirtual 67, 3) := by decide +kernel
theorem dX4_changed_9 : decode cX4_changed 9 = .ok (.if_icmp .ge 38, 3) := by decide +kernel
theorem dX4_changed_12 : decode cX4_changed 12 = .ok (.iload_n 2, 1) := by decide +kernel
theorem dX4_changed_13 : decode cX4_changed 13 = .ok (.aload_n 0, 1) := by decide +kernel
theorem dX4_changed_14 : decode cX4_changed 14 = .ok (.getfield 29, 3) := by decide +kernel
theorem dX4_changed_17 : decode cX4_changed 17 = .ok (.sipush 128, 3) := by decide +kernel
theorem dX4_changed_20 : decode cX4_changed 20 = .ok (.iload_n 1, 1) := by decide +kernel
theorem dX4_changed_21 : decode cX4_changed 21 = .ok (.imul, 1) := by decide +kernel
theorem dX4_changed_22 : decode cX4_changed 22 = .ok (.iload_n 3, 1) := by decide +kernel
theorem dX4_changed_23 : decode cX4_changed 23 = .ok (.iadd, 1) := by decide +kernel
theorem dX4_changed_24 : decode cX4_changed 24 = .ok (.iaload, 1) := by decide +kernel
theorem dX4_changed_25 : decode cX4_changed 25 = .ok (.aload_n 0, 1) := by decide +kernel
theorem dX4_changed_26 : decode cX4_changed 26 = .ok (.getfield 23, 3) := by decide +kernel
theorem dX4_changed_29 : decode cX4_changed 29 = .ok (.iload_n 3, 1) := by decide +kernel
theorem dX4_changed_30 : decode cX4_changed 30 = .ok (.iaload, 1) := by decide +kernel
theorem dX4_changed_31 : decode cX4_changed 31 = .ok (.if_icmp .ne 7, 3) := by decide +kernel
theorem dX4_changed_34 : decode cX4_changed 34 = .ok (.iconst 0, 1) := by decide +kernel
theorem dX4_changed_35 : decode cX4_changed 35 = .ok (.goto 4, 3) := by decide +kernel
theorem dX4_changed_38 : decode cX4_changed 38 = .ok (.iconst 1, 1) := by decide +kernel
theorem dX4_changed_39 : decode cX4_changed 39 = .ok (.iadd, 1) := by decide +kernel
theorem dX4_changed_40 : decode cX4_changed 40 = .ok (.istore_n 2, 1) := by decide +kernel
theorem dX4_changed_41 : decode cX4_changed 41 = .ok (.iinc 3 1, 3) := by decide +kernel
theorem dX4_changed_44 : decode cX4_changed 44 = .ok (.goto (-40), 3) := by decide +kernel
theorem dX4_changed_47 : decode cX4_changed 47 = .ok (.iload_n 2, 1) := by decide +kernel
theorem dX4_changed_48 : decode cX4_changed 48 = .ok (.ireturn, 1) := by decide +kernel
theorem dX4_changedSince_0 : decode cX4_changedSince 0 = .ok (.aload_n 0, 1) := by decide +kernel
theorem dX4_changedSince_1 : decode cX4_changedSince 1 = .ok (.iconst 0, 1) := by decide +kernel
theorem dX4_changedSince_2 : decode cX4_changedSince 2 = .ok (.putfield 38, 3) := by decide +kernel
theorem dX4_changedSince_5 : decode cX4_changedSince 5 = .ok (.aload_n 0, 1) := by decide +kernel
theorem dX4_changedSince_6 : decode cX4_changedSince 6 = .ok (.iload_n 1, 1) := by decide +kernel
theorem dX4_changedSince_7 : decode cX4_changedSince 7 = .ok (.invokevirtual 108, 3) := by decide +kernel
theorem dX4_changedSince_10 : decode cX4_changedSince 10 = .ok (.ifCond .eq 11, 3) := by decide +kernel
theorem dX4_changedSince_13 : decode cX4_changedSince 13 = .ok (.aload_n 0, 1) := by decide +kernel
theorem dX4_changedSince_14 : decode cX4_changedSince 14 = .ok (.iload_n 1, 1) := by decide +kernel
theorem dX4_changedSince_15 : decode cX4_changedSince 15 = .ok (.invokevirtual 169, 3) := by decide +kernel
theorem dX4_changedSince_18 : decode cX4_changedSince 18 = .ok (.goto 8, 3) := by decide +kernel
theorem dX4_changedSince_21 : decode cX4_changedSince 21 = .ok (.aload_n 0, 1) := by decide +kernel
theorem dX4_changedSince_22 : decode cX4_changedSince 22 = .ok (.iconst 1, 1) := by decide +kernel
theorem dX4_changedSince_23 : decode cX4_changedSince 23 = .ok (.invokevirtual 84, 3) := by decide +kernel
theorem dX4_changedSince_26 : decode cX4_changedSince 26 = .ok (.ireturn, 1) := by decide +kernel
theorem dX4_later_0 : decode cX4_later 0 = .ok (.aload_n 0, 1) := by decide +kernel
theorem dX4_later_1 : decode cX4_later 1 = .ok (.iload_n 1, 1) := by decide +kernel
theorem dX4_later_2 : decode cX4_later 2 = .ok (.aload_n 0, 1) := by decide +kernel
theorem dX4_later_3 : decode cX4_later 3 = .ok (.getfield 16, 3) := by decide +kernel
theorem dX4_later_6 : decode cX4_later 6 = .ok (.invokevirtual 172, 3) := by decide +kernel
theorem dX4_later_9 : decode cX4_later 9 = .ok (.pop, 1) := by decide +kernel
theorem dX4_later_10 : decode cX4_later 10 = .ok (.lconst 0, 1) := by decide +kernel
theorem dX4_later_11 : decode cX4_later 11 = .ok (.lstore_n 2, 1) := by decide +kernel
theorem dX4_later_12 : decode cX4_later 12 = .ok (.iconst 0, 1) := by decide +kernel
theorem dX4_later_13 : decode cX4_later 13 = .ok (.istore 4, 2) := by decide +kernel
theorem dX4_later_15 : decode cX4_later 15 = .ok (.iload 4, 2) := by decide +kernel
theorem dX4_later_17 : decode cX4_later 17 = .ok (.aload_n 0, 1) := by decide +kernel
theorem dX4_later_18 : decode cX4_later 18 = .ok (.invokevirtual 67, 3) := by decide +kernel
theorem dX4_later_21 : decode cX4_later 21 = .ok (.if_icmp .ge 20, 3) := by decide +kernel
theorem dX4_later_24 : decode cX4_later 24 = .ok (.lload_n 2, 1) := by decide +kernel
theorem dX4_later_25 : decode cX4_later 25 = .ok (.aload_n 0, 1) := by decide +kernel
theorem dX4_later_26 : decode cX4_later 26 = .ok (.getfield 32, 3) := by decide +kernel
theorem dX4_later_29 : decode cX4_later 29 = .ok (.iload 4, 2) := by decide +kernel
theorem dX4_later_31 : decode cX4_later 31 = .ok (.iaload, 1) := by decide +kernel
theorem dX4_later_32 : decode cX4_later 32 = .ok (.i2l, 1) := by decide +kernel
theorem dX4_later_33 : decode cX4_later 33 = .ok (.ladd, 1) := by decide +kernel
theorem dX4_later_34 : decode cX4_later 34 = .ok (.lstore_n 2, 1) := by decide +kernel
theorem dX4_later_35 : decode cX4_later 35 = .ok (.iinc 4 1, 3) := by decide +kernel
theorem dX4_later_38 : decode cX4_later 38 = .ok (.goto (-23), 3) := by decide +kernel
theorem dX4_later_41 : decode cX4_later 41 = .ok (.lload_n 2, 1) := by decide +kernel
theorem dX4_later_42 : decode cX4_later 42 = .ok (.lreturn, 1) := by decide +kernel
theorem dX4_totalIn_0 : decode cX4_totalIn 0 = .ok (.aload_n 0, 1) := by decide +kernel
theorem dX4_totalIn_1 : decode cX4_totalIn 1 = .ok (.iload_n 1, 1) := by decide +kernel
theorem dX4_totalIn_2 : decode cX4_totalIn 2 = .ok (.iconst 1, 1) := by decide +kernel
theorem dX4_totalIn_3 : decode cX4_totalIn 3 = .ok (.bipush 40, 2) := by decide +kernel
theorem dX4_totalIn_5 : decode cX4_totalIn 5 = .ok (.invokestatic 41, 3) := by decide +kernel
theorem dX4_totalIn_8 : decode cX4_totalIn 8 = .ok (.ifCond .eq 7, 3) := by decide +kernel
theorem dX4_totalIn_11 : decode cX4_totalIn 11 = .ok (.iconst 0, 1) := by decide +kernel
theorem dX4_totalIn_12 : decode cX4_totalIn 12 = .ok (.goto 4, 3) := by decide +kernel
theorem dX4_totalIn_15 : decode cX4_totalIn 15 = .ok (.iconst 1, 1) := by decide +kernel
theorem dX4_totalIn_16 : decode cX4_totalIn 16 = .ok (.putfield 38, 3) := by decide +kernel
theorem dX4_totalIn_19 : decode cX4_totalIn 19 = .ok (.aload_n 0, 1) := by decide +kernel
theorem dX4_totalIn_20 : decode cX4_totalIn 20 = .ok (.getfield 38, 3) := by decide +kernel
theorem dX4_totalIn_23 : decode cX4_totalIn 23 = .ok (.ifCond .le 7, 3) := by decide +kernel
theorem dX4_totalIn_26 : decode cX4_totalIn 26 = .ok (.lconst 0, 1) := by decide +kernel
theorem dX4_totalIn_27 : decode cX4_totalIn 27 = .ok (.goto 8, 3) := by decide +kernel
theorem dX4_totalIn_30 : decode cX4_totalIn 30 = .ok (.aload_n 0, 1) := by decide +kernel
theorem dX4_totalIn_31 : decode cX4_totalIn 31 = .ok (.iload_n 1, 1) := by decide +kernel
theorem dX4_totalIn_32 : decode cX4_totalIn 32 = .ok (.invokevirtual 175, 3) := by decide +kernel
theorem dX4_totalIn_35 : decode cX4_totalIn 35 = .ok (.lreturn, 1) := by decide +kernel
theorem dX4_goneIn_0 : decode cX4_goneIn 0 = .ok (.aload_n 0, 1) := by decide +kernel
theorem dX4_goneIn_1 : decode cX4_goneIn 1 = .ok (.iconst 0, 1) := by decide +kernel
theorem dX4_goneIn_2 : decode cX4_goneIn 2 = .ok (.putfield 38, 3) := by decide +kernel
theorem dX4_goneIn_5 : decode cX4_goneIn 5 = .ok (.iload_n 1, 1) := by decide +kernel
theorem dX4_goneIn_6 : decode cX4_goneIn 6 = .ok (.iconst 1, 1) := by decide +kernel
theorem dX4_goneIn_7 : decode cX4_goneIn 7 = .ok (.bipush 40, 2) := by decide +kernel
theorem dX4_goneIn_9 : decode cX4_goneIn 9 = .ok (.invokestatic 41, 3) := by decide +kernel
theorem dX4_goneIn_12 : decode cX4_goneIn 12 = .ok (.ifCond .eq 15, 3) := by decide +kernel
theorem dX4_goneIn_15 : decode cX4_goneIn 15 = .ok (.aload_n 0, 1) := by decide +kernel
theorem dX4_goneIn_16 : decode cX4_goneIn 16 = .ok (.iload_n 1, 1) := by decide +kernel
theorem dX4_goneIn_17 : decode cX4_goneIn 17 = .ok (.aload_n 0, 1) := by decide +kernel
theorem dX4_goneIn_18 : decode cX4_goneIn 18 = .ok (.getfield 16, 3) := by decide +kernel
theorem dX4_goneIn_21 : decode cX4_goneIn 21 = .ok (.invokevirtual 172, 3) := by decide +kernel
theorem dX4_goneIn_24 : decode cX4_goneIn 24 = .ok (.goto 8, 3) := by decide +kernel
theorem dX4_goneIn_27 : decode cX4_goneIn 27 = .ok (.aload_n 0, 1) := by decide +kernel
theorem dX4_goneIn_28 : decode cX4_goneIn 28 = .ok (.iconst 1, 1) := by decide +kernel
theorem dX4_goneIn_29 : decode cX4_goneIn 29 = .ok (.invokevirtual 84, 3) := by decide +kernel
theorem dX4_goneIn_32 : decode cX4_goneIn 32 = .ok (.ireturn, 1) := by decide +kernel
theorem dX4_untilDry_0 : decode cX4_untilDry 0 = .ok (.aload_n 0, 1) := by decide +kernel
theorem dX4_untilDry_1 : decode cX4_untilDry 1 = .ok (.invokevirtual 77, 3) := by decide +kernel
theorem dX4_untilDry_4 : decode cX4_untilDry 4 = .ok (.iconst 0, 1) := by decide +kernel
theorem dX4_untilDry_5 : decode cX4_untilDry 5 = .ok (.istore_n 1, 1) := by decide +kernel
theorem dX4_untilDry_6 : decode cX4_untilDry 6 = .ok (.iload_n 1, 1) := by decide +kernel
theorem dX4_untilDry_7 : decode cX4_untilDry 7 = .ok (.bipush 60, 2) := by decide +kernel
theorem dX4_untilDry_9 : decode cX4_untilDry 9 = .ok (.if_icmp .gt 33, 3) := by decide +kernel
theorem dX4_untilDry_12 : decode cX4_untilDry 12 = .ok (.aload_n 0, 1) := by decide +kernel
theorem dX4_untilDry_13 : decode cX4_untilDry 13 = .ok (.aload_n 0, 1) := by decide +kernel
theorem dX4_untilDry_14 : decode cX4_untilDry 14 = .ok (.getfield 32, 3) := by decide +kernel
theorem dX4_untilDry_17 : decode cX4_untilDry 17 = .ok (.invokevirtual 178, 3) := by decide +kernel
theorem dX4_untilDry_20 : decode cX4_untilDry 20 = .ok (.ifCond .ne 22, 3) := by decide +kernel
theorem dX4_untilDry_23 : decode cX4_untilDry 23 = .ok (.aload_n 0, 1) := by decide +kernel
theorem dX4_untilDry_24 : decode cX4_untilDry 24 = .ok (.aload_n 0, 1) := by decide +kernel
theorem dX4_untilDry_25 : decode cX4_untilDry 25 = .ok (.getfield 32, 3) := by decide +kernel
theorem dX4_untilDry_28 : decode cX4_untilDry 28 = .ok (.aload_n 0, 1) := by decide +kernel
theorem dX4_untilDry_29 : decode cX4_untilDry 29 = .ok (.getfield 16, 3) := by decide +kernel
theorem dX4_untilDry_32 : decode cX4_untilDry 32 = .ok (.invokevirtual 80, 3) := by decide +kernel
theorem dX4_untilDry_35 : decode cX4_untilDry 35 = .ok (.pop, 1) := by decide +kernel
theorem dX4_untilDry_36 : decode cX4_untilDry 36 = .ok (.iinc 1 1, 3) := by decide +kernel
theorem dX4_untilDry_39 : decode cX4_untilDry 39 = .ok (.goto (-33), 3) := by decide +kernel
theorem dX4_untilDry_42 : decode cX4_untilDry 42 = .ok (.iload_n 1, 1) := by decide +kernel
theorem dX4_untilDry_43 : decode cX4_untilDry 43 = .ok (.bipush 60, 2) := by decide +kernel
theorem dX4_untilDry_45 : decode cX4_untilDry 45 = .ok (.if_icmp .le 7, 3) := by decide +kernel
theorem dX4_untilDry_48 : decode cX4_untilDry 48 = .ok (.iconst (-1), 1) := by decide +kernel
theorem dX4_untilDry_49 : decode cX4_untilDry 49 = .ok (.goto 4, 3) := by decide +kernel
theorem dX4_untilDry_52 : decode cX4_untilDry 52 = .ok (.iload_n 1, 1) := by decide +kernel
theorem dX4_untilDry_53 : decode cX4_untilDry 53 = .ok (.ireturn, 1) := by decide +kernel
theorem dX4_hoursUntilDry_0 : decode cX4_hoursUntilDry 0 = .ok (.aload_n 0, 1) := by decide +kernel
theorem dX4_hoursUntilDry_1 : decode cX4_hoursUntilDry 1 = .ok (.aload_n 0, 1) := by decide +kernel
theorem dX4_hoursUntilDry_2 : decode cX4_hoursUntilDry 2 = .ok (.invokevirtual 182, 3) := by decide +kernel
theorem dX4_hoursUntilDry_5 : decode cX4_hoursUntilDry 5 = .ok (.invokevirtual 114, 3) := by decide +kernel
theorem dX4_hoursUntilDry_8 : decode cX4_hoursUntilDry 8 = .ok (.ireturn, 1) := by decide +kernel
theorem dX4_wanted_0 : decode cX4_wanted 0 = .ok (.iconst 0, 1) := by decide +kernel
theorem dX4_wanted_1 : decode cX4_wanted 1 = .ok (.istore_n 2, 1) := by decide +kernel
theorem dX4_wanted_2 : decode cX4_wanted 2 = .ok (.iload_n 2, 1) := by decide +kernel
theorem dX4_wanted_3 : decode cX4_wanted 3 = .ok (.bipush 9, 2) := by decide +kernel
theorem dX4_wanted_5 : decode cX4_wanted 5 = .ok (.if_icmp .gt 29, 3) := by decide +kernel
theorem dX4_wanted_8 : decode cX4_wanted 8 = .ok (.aload_n 0, 1) := by decide +kernel
theorem dX4_wanted_9 : decode cX4_wanted 9 = .ok (.iload_n 1, 1) := by decide +kernel
theorem dX4_wanted_10 : decode cX4_wanted 10 = .ok (.iload_n 2, 1) := by decide +kernel
theorem dX4_wanted_11 : decode cX4_wanted 11 = .ok (.invokevirtual 172, 3) := by decide +kernel
theorem dX4_wanted_14 : decode cX4_wanted 14 = .ok (.pop, 1) := by decide +kernel
theorem dX4_wanted_15 : decode cX4_wanted 15 = .ok (.aload_n 0, 1) := by decide +kernel
theorem dX4_wanted_16 : decode cX4_wanted 16 = .ok (.aload_n 0, 1) := by decide +kernel
theorem dX4_wanted_17 : decode cX4_wanted 17 = .ok (.getfield 32, 3) := by decide +kernel
theorem dX4_wanted_20 : decode cX4_wanted 20 = .ok (.invokevirtual 178, 3) := by decide +kernel
theorem dX4_wanted_23 : decode cX4_wanted 23 = .ok (.ifCond .eq 5, 3) := by decide +kernel
theorem dX4_wanted_26 : decode cX4_wanted 26 = .ok (.iload_n 2, 1) := by decide +kernel
theorem dX4_wanted_27 : decode cX4_wanted 27 = .ok (.ireturn, 1) := by decide +kernel
theorem dX4_wanted_28 : decode cX4_wanted 28 = .ok (.iinc 2 1, 3) := by decide +kernel
theorem dX4_wanted_31 : decode cX4_wanted 31 = .ok (.goto (-29), 3) := by decide +kernel
theorem dX4_wanted_34 : decode cX4_wanted 34 = .ok (.iconst (-1), 1) := by decide +kernel
theorem dX4_wanted_35 : decode cX4_wanted 35 = .ok (.ireturn, 1) := by decide +kernel
theorem dX4_sunWanted_0 : decode cX4_sunWanted 0 = .ok (.aload_n 0, 1) := by decide +kernel
theorem dX4_sunWanted_1 : decode cX4_sunWanted 1 = .ok (.iconst 0, 1) := by decide +kernel
theorem dX4_sunWanted_2 : decode cX4_sunWanted 2 = .ok (.putfield 38, 3) := by decide +kernel
theorem dX4_sunWanted_5 : decode cX4_sunWanted 5 = .ok (.iload_n 1, 1) := by decide +kernel
theorem dX4_sunWanted_6 : decode cX4_sunWanted 6 = .ok (.iconst 1, 1) := by decide +kernel
theorem dX4_sunWanted_7 : decode cX4_sunWanted 7 = .ok (.bipush 40, 2) := by decide +kernel
theorem dX4_sunWanted_9 : decode cX4_sunWanted 9 = .ok (.invokestatic 41, 3) := by decide +kernel
theorem dX4_sunWanted_12 : decode cX4_sunWanted 12 = .ok (.ifCond .eq 11, 3) := by decide +kernel
theorem dX4_sunWanted_15 : decode cX4_sunWanted 15 = .ok (.aload_n 0, 1) := by decide +kernel
theorem dX4_sunWanted_16 : decode cX4_sunWanted 16 = .ok (.iload_n 1, 1) := by decide +kernel
theorem dX4_sunWanted_17 : decode cX4_sunWanted 17 = .ok (.invokevirtual 185, 3) := by decide +kernel
theorem dX4_sunWanted_20 : decode cX4_sunWanted 20 = .ok (.goto 8, 3) := by decide +kernel
theorem dX4_sunWanted_23 : decode cX4_sunWanted 23 = .ok (.aload_n 0, 1) := by decide +kernel
theorem dX4_sunWanted_24 : decode cX4_sunWanted 24 = .ok (.iconst 1, 1) := by decide +kernel
theorem dX4_sunWanted_25 : decode cX4_sunWanted 25 = .ok (.invokevirtual 84, 3) := by decide +kernel
theorem dX4_sunWanted_28 : decode cX4_sunWanted 28 = .ok (.ireturn, 1) := by decide +kernel
theorem dX4_bestEdge_0 : decode cX4_bestEdge 0 = .ok (.aload_n 0, 1) := by decide +kernel
theorem dX4_bestEdge_1 : decode cX4_bestEdge 1 = .ok (.iconst 0, 1) := by decide +kernel
theorem dX4_bestEdge_2 : decode cX4_bestEdge 2 = .ok (.putfield 38, 3) := by decide +kernel
theorem dX4_bestEdge_5 : decode cX4_bestEdge 5 = .ok (.aload_n 0, 1) := by decide +kernel
theorem dX4_bestEdge_6 : decode cX4_bestEdge 6 = .ok (.iload_n 1, 1) := by decide +kernel
theorem dX4_bestEdge_7 : decode cX4_bestEdge 7 = .ok (.invokevirtual 52, 3) := by decide +kernel
theorem dX4_bestEdge_10 : decode cX4_bestEdge 10 = .ok (.ifCond .ne 9, 3) := by decide +kernel
theorem dX4_bestEdge_13 : decode cX4_bestEdge 13 = .ok (.aload_n 0, 1) := by decide +kernel
theorem dX4_bestEdge_14 : decode cX4_bestEdge 14 = .ok (.iconst 1, 1) := by decide +kernel
theorem dX4_bestEdge_15 : decode cX4_bestEdge 15 = .ok (.invokevirtual 84, 3) := by decide +kernel
theorem dX4_bestEdge_18 : decode cX4_bestEdge 18 = .ok (.ireturn, 1) := by decide +kernel
theorem dX4_bestEdge_19 : decode cX4_bestEdge 19 = .ok (.iload_n 2, 1) := by decide +kernel
theorem dX4_bestEdge_20 : decode cX4_bestEdge 20 = .ok (.iconst 1, 1) := by decide +kernel
theorem dX4_bestEdge_21 : decode cX4_bestEdge 21 = .ok (.bipush 40, 2) := by decide +kernel
theorem dX4_bestEdge_23 : decode cX4_bestEdge 23 = .ok (.invokestatic 41, 3) := by decide +kernel
theorem dX4_bestEdge_26 : decode cX4_bestEdge 26 = .ok (.ifCond .ne 9, 3) := by decide +kernel
theorem dX4_bestEdge_29 : decode cX4_bestEdge 29 = .ok (.aload_n 0, 1) := by decide +kernel
theorem dX4_bestEdge_30 : decode cX4_bestEdge 30 = .ok (.iconst 2, 1) := by decide +kernel
theorem dX4_bestEdge_31 : decode cX4_bestEdge 31 = .ok (.invokevirtual 84, 3) := by decide +kernel
theorem dX4_bestEdge_34 : decode cX4_bestEdge 34 = .ok (.ireturn, 1) := by decide +kernel
theorem dX4_bestEdge_35 : decode cX4_bestEdge 35 = .ok (.aload_n 0, 1) := by decide +kernel
theorem dX4_bestEdge_36 : decode cX4_bestEdge 36 = .ok (.getfield 19, 3) := by decide +kernel
theorem dX4_bestEdge_39 : decode cX4_bestEdge 39 = .ok (.iload_n 1, 1) := by decide +kernel
theorem dX4_bestEdge_40 : decode cX4_bestEdge 40 = .ok (.iaload, 1) := by decide +kernel
theorem dX4_bestEdge_41 : decode cX4_bestEdge 41 = .ok (.istore_n 3, 1) := by decide +kernel
theorem dX4_bestEdge_42 : decode cX4_bestEdge 42 = .ok (.iconst (-1), 1) := by decide +kernel
theorem dX4_bestEdge_43 : decode cX4_bestEdge 43 = .ok (.istore 4, 2) := by decide +kernel
theorem dX4_bestEdge_45 : decode cX4_bestEdge 45 = .ok (.iconst 0, 1) := by decide +kernel
theorem dX4_bestEdge_46 : decode cX4_bestEdge 46 = .ok (.istore 5, 2) := by decide +kernel
theorem dX4_bestEdge_48 : decode cX4_bestEdge 48 = .ok (.iconst 0, 1) := by decide +kernel
theorem dX4_bestEdge_49 : decode cX4_bestEdge 49 = .ok (.istore 6, 2) := by decide +kernel
theorem dX4_bestEdge_51 : decode cX4_bestEdge 51 = .ok (.iload 6, 2) := by decide +kernel
theorem dX4_bestEdge_53 : decode cX4_bestEdge 53 = .ok (.sipush 300, 3) := by decide +kernel
theorem dX4_bestEdge_56 : decode cX4_bestEdge 56 = .ok (.if_icmp .gt 52, 3) := by decide +kernel
theorem dX4_bestEdge_59 : decode cX4_bestEdge 59 = .ok (.aload_n 0, 1) := by decide +kernel
theorem dX4_bestEdge_60 : decode cX4_bestEdge 60 = .ok (.getfield 19, 3) := by decide +kernel
theorem dX4_bestEdge_63 : decode cX4_bestEdge 63 = .ok (.iload_n 1, 1) := by decide +kernel
theorem dX4_bestEdge_64 : decode cX4_bestEdge 64 = .ok (.iload 6, 2) := by decide +kernel
theorem dX4_bestEdge_66 : decode cX4_bestEdge 66 = .ok (.iastore, 1) := by decide +kernel
theorem dX4_bestEdge_67 : decode cX4_bestEdge 67 = .ok (.aload_n 0, 1) := by decide +kernel
theorem dX4_bestEdge_68 : decode cX4_bestEdge 68 = .ok (.iload_n 2, 1) := by decide +kernel
theorem dX4_bestEdge_69 : decode cX4_bestEdge 69 = .ok (.aload_n 0, 1) := by decide +kernel
theorem dX4_bestEdge_70 : decode cX4_bestEdge 70 = .ok (.getfield 16, 3) := by decide +kernel
theorem dX4_bestEdge_73 : decode cX4_bestEdge 73 = .ok (.invokevirtual 172, 3) := by decide +kernel
theorem dX4_bestEdge_76 : decode cX4_bestEdge 76 = .ok (.istore 7, 2) := by decide +kernel
theorem dX4_bestEdge_78 : decode cX4_bestEdge 78 = .ok (.iload 4, 2) := by decide +kernel
theorem dX4_bestEdge_80 : decode cX4_bestEdge 80 = .ok (.iconst (-1), 1) := by decide +kernel
theorem dX4_bestEdge_81 : decode cX4_bestEdge 81 = .ok (.if_icmp .eq 13, 3) := by decide +kernel
theorem dX4_bestEdge_84 : decode cX4_bestEdge 84 = .ok (.iload 7, 2) := by decide +kernel
theorem dX4_bestEdge_86 : decode cX4_bestEdge 86 = .ok (.iload 5, 2) := by decide +kernel
theorem dX4_bestEdge_88 : decode cX4_bestEdge 88 = .ok (.if_icmp .lt 6, 3) := by decide +kernel
theorem dX4_bestEdge_91 : decode cX4_bestEdge 91 = .ok (.goto 11, 3) := by decide +kernel
theorem dX4_bestEdge_94 : decode cX4_bestEdge 94 = .ok (.iload 6, 2) := by decide +kernel
theorem dX4_bestEdge_96 : decode cX4_bestEdge 96 = .ok (.istore 4, 2) := by decide +kernel
theorem dX4_bestEdge_98 : decode cX4_bestEdge 98 = .ok (.iload 7, 2) := by decide +kernel
theorem dX4_bestEdge_100 : decode cX4_bestEdge 100 = .ok (.istore 5, 2) := by decide +kernel
theorem dX4_bestEdge_102 : decode cX4_bestEdge 102 = .ok (.iinc 6 10, 3) := by decide +kernel
theorem dX4_bestEdge_105 : decode cX4_bestEdge 105 = .ok (.goto (-54), 3) := by decide +kernel
theorem dX4_bestEdge_108 : decode cX4_bestEdge 108 = .ok (.aload_n 0, 1) := by decide +kernel
theorem dX4_bestEdge_109 : decode cX4_bestEdge 109 = .ok (.getfield 19, 3) := by decide +kernel
theorem dX4_bestEdge_112 : decode cX4_bestEdge 112 = .ok (.iload_n 1, 1) := by decide +kernel
theorem dX4_bestEdge_113 : decode cX4_bestEdge 113 = .ok (.iload_n 3, 1) := by decide +kernel
theorem dX4_bestEdge_114 : decode cX4_bestEdge 114 = .ok (.iastore, 1) := by decide +kernel
theorem dX4_bestEdge_115 : decode cX4_bestEdge 115 = .ok (.iload 4, 2) := by decide +kernel
theorem dX4_bestEdge_117 : decode cX4_bestEdge 117 = .ok (.ireturn, 1) := by decide +kernel
theorem dX4_swapFor_0 : decode cX4_swapFor 0 = .ok (.iconst (-1), 1) := by decide +kernel
theorem dX4_swapFor_1 : decode cX4_swapFor 1 = .ok (.istore_n 2, 1) := by decide +kernel
theorem dX4_swapFor_2 : decode cX4_swapFor 2 = .ok (.iconst 0, 1) := by decide +kernel
theorem dX4_swapFor_3 : decode cX4_swapFor 3 = .ok (.istore_n 3, 1) := by decide +kernel
theorem dX4_swapFor_4 : decode cX4_swapFor 4 = .ok (.iconst 0, 1) := by decide +kernel
theorem dX4_swapFor_5 : decode cX4_swapFor 5 = .ok (.istore 4, 2) := by decide +kernel
theorem dX4_swapFor_7 : decode cX4_swapFor 7 = .ok (.iload 4, 2) := by decide +kernel
theorem dX4_swapFor_9 : decode cX4_swapFor 9 = .ok (.aload_n 0, 1) := by decide +kernel
theorem dX4_swapFor_10 : decode cX4_swapFor 10 = .ok (.getfield 9, 3) := by decide +kernel
theorem dX4_swapFor_13 : decode cX4_swapFor 13 = .ok (.if_icmp .ge 51, 3) := by decide +kernel
theorem dX4_swapFor_16 : decode cX4_swapFor 16 = .ok (.aload_n 0, 1) := by decide +kernel
theorem dX4_swapFor_17 : decode cX4_swapFor 17 = .ok (.iload_n 1, 1) := by decide +kernel
theorem dX4_swapFor_18 : decode cX4_swapFor 18 = .ok (.iload 4, 2) := by decide +kernel
theorem dX4_swapFor_20 : decode cX4_swapFor 20 = .ok (.invokevirtual 95, 3) := by decide +kernel
theorem dX4_swapFor_23 : decode cX4_swapFor 23 = .ok (.pop, 1) := by decide +kernel
theorem dX4_swapFor_24 : decode cX4_swapFor 24 = .ok (.aload_n 0, 1) := by decide +kernel
theorem dX4_swapFor_25 : decode cX4_swapFor 25 = .ok (.invokevirtual 166, 3) := by decide +kernel
theorem dX4_swapFor_28 : decode cX4_swapFor 28 = .ok (.istore 5, 2) := by decide +kernel
theorem dX4_swapFor_30 : decode cX4_swapFor 30 = .ok (.aload_n 0, 1) := by decide +kernel
theorem dX4_swapFor_31 : decode cX4_swapFor 31 = .ok (.iload_n 1, 1) := by decide +kernel
theorem dX4_swapFor_32 : decode cX4_swapFor 32 = .ok (.iload 4, 2) := by decide +kernel
theorem dX4_swapFor_34 : decode cX4_swapFor 34 = .ok (.invokevirtual 95, 3) := by decide +kernel
theorem dX4_swapFor_37 : decode cX4_swapFor 37 = .ok (.pop, 1) := by decide +kernel
theorem dX4_swapFor_38 : decode cX4_swapFor 38 = .ok (.iload_n 2, 1) := by decide +kernel
theorem dX4_swapFor_39 : decode cX4_swapFor 39 = .ok (.iconst (-1), 1) := by decide +kernel
theorem dX4_swapFor_40 : decode cX4_swapFor 40 = .ok (.if_icmp .eq 12, 3) := by decide +kernel
theorem dX4_swapFor_43 : decode cX4_swapFor 43 = .ok (.iload 5, 2) := by decide +kernel
theorem dX4_swapFor_45 : decode cX4_swapFor 45 = .ok (.iload_n 3, 1) := by decide +kernel
theorem dX4_swapFor_46 : decode cX4_swapFor 46 = .ok (.if_icmp .lt 6, 3) := by decide +kernel
theorem dX4_swapFor_49 : decode cX4_swapFor 49 = .ok (.goto 9, 3) := by decide +kernel
theorem dX4_swapFor_52 : decode cX4_swapFor 52 = .ok (.iload 4, 2) := by decide +kernel
theorem dX4_swapFor_54 : decode cX4_swapFor 54 = .ok (.istore_n 2, 1) := by decide +kernel
theorem dX4_swapFor_55 : decode cX4_swapFor 55 = .ok (.iload 5, 2) := by decide +kernel
theorem dX4_swapFor_57 : decode cX4_swapFor 57 = .ok (.istore_n 3, 1) := by decide +kernel
theorem dX4_swapFor_58 : decode cX4_swapFor 58 = .ok (.iinc 4 1, 3) := by decide +kernel
theorem dX4_swapFor_61 : decode cX4_swapFor 61 = .ok (.goto (-54), 3) := by decide +kernel
theorem dX4_swapFor_64 : decode cX4_swapFor 64 = .ok (.iload_n 2, 1) := by decide +kernel
theorem dX4_swapFor_65 : decode cX4_swapFor 65 = .ok (.ireturn, 1) := by decide +kernel
theorem dX4_bestSwap_0 : decode cX4_bestSwap 0 = .ok (.aload_n 0, 1) := by decide +kernel
theorem dX4_bestSwap_1 : decode cX4_bestSwap 1 = .ok (.iconst 0, 1) := by decide +kernel
theorem dX4_bestSwap_2 : decode cX4_bestSwap 2 = .ok (.putfield 38, 3) := by decide +kernel
theorem dX4_bestSwap_5 : decode cX4_bestSwap 5 = .ok (.aload_n 0, 1) := by decide +kernel
theorem dX4_bestSwap_6 : decode cX4_bestSwap 6 = .ok (.iload_n 1, 1) := by decide +kernel
theorem dX4_bestSwap_7 : decode cX4_bestSwap 7 = .ok (.invokevirtual 48, 3) := by decide +kernel
theorem dX4_bestSwap_10 : decode cX4_bestSwap 10 = .ok (.ifCond .eq 11, 3) := by decide +kernel
theorem dX4_bestSwap_13 : decode cX4_bestSwap 13 = .ok (.aload_n 0, 1) := by decide +kernel
theorem dX4_bestSwap_14 : decode cX4_bestSwap 14 = .ok (.iload_n 1, 1) := by decide +kernel
theorem dX4_bestSwap_15 : decode cX4_bestSwap 15 = .ok (.invokevirtual 188, 3) := by decide +kernel
theorem dX4_bestSwap_18 : decode cX4_bestSwap 18 = .ok (.goto 8, 3) := by decide +kernel
theorem dX4_bestSwap_21 : decode cX4_bestSwap 21 = .ok (.aload_n 0, 1) := by decide +kernel
theorem dX4_bestSwap_22 : decode cX4_bestSwap 22 = .ok (.iconst 1, 1) := by decide +kernel
theorem dX4_bestSwap_23 : decode cX4_bestSwap 23 = .ok (.invokevirtual 84, 3) := by decide +kernel
theorem dX4_bestSwap_26 : decode cX4_bestSwap 26 = .ok (.ireturn, 1) := by decide +kernel
theorem dX4_meanLevel_0 : decode cX4_meanLevel 0 = .ok (.aload_n 0, 1) := by decide +kernel
theorem dX4_meanLevel_1 : decode cX4_meanLevel 1 = .ok (.iconst 0, 1) := by decide +kernel
theorem dX4_meanLevel_2 : decode cX4_meanLevel 2 = .ok (.putfield 38, 3) := by decide +kernel
theorem dX4_meanLevel_5 : decode cX4_meanLevel 5 = .ok (.aload_n 0, 1) := by decide +kernel
theorem dX4_meanLevel_6 : decode cX4_meanLevel 6 = .ok (.invokevirtual 135, 3) := by decide +kernel
theorem dX4_meanLevel_9 : decode cX4_meanLevel 9 = .ok (.l2d, 1) := by decide +kernel
theorem dX4_meanLevel_10 : decode cX4_meanLevel 10 = .ok (.aload_n 0, 1) := by decide +kernel
theorem dX4_meanLevel_11 : decode cX4_meanLevel 11 = .ok (.invokevirtual 67, 3) := by decide +kernel
theorem dX4_meanLevel_14 : decode cX4_meanLevel 14 = .ok (.i2d, 1) := by decide +kernel
theorem dX4_meanLevel_15 : decode cX4_meanLevel 15 = .ok (.ddiv, 1) := by decide +kernel
theorem dX4_meanLevel_16 : decode cX4_meanLevel 16 = .ok (.dreturn, 1) := by decide +kernel
theorem dX4_digest_0 : decode cX4_digest 0 = .ok (.aload_n 0, 1) := by decide +kernel
theorem dX4_digest_1 : decode cX4_digest 1 = .ok (.iconst 0, 1) := by decide +kernel
theorem dX4_digest_2 : decode cX4_digest 2 = .ok (.putfield 38, 3) := by decide +kernel
theorem dX4_digest_5 : decode cX4_digest 5 = .ok (.bipush 15, 2) := by decide +kernel
theorem dX4_digest_7 : decode cX4_digest 7 = .ok (.newarray .long, 2) := by decide +kernel
theorem dX4_digest_9 : decode cX4_digest 9 = .ok (.dup, 1) := by decide +kernel
theorem dX4_digest_10 : decode cX4_digest 10 = .ok (.iconst 0, 1) := by decide +kernel
theorem dX4_digest_11 : decode cX4_digest 11 = .ok (.aload_n 0, 1) := by decide +kernel
theorem dX4_digest_12 : decode cX4_digest 12 = .ok (.getfield 9, 3) := by decide +kernel
theorem dX4_digest_15 : decode cX4_digest 15 = .ok (.i2l, 1) := by decide +kernel
theorem dX4_digest_16 : decode cX4_digest 16 = .ok (.lastore, 1) := by decide +kernel
theorem dX4_digest_17 : decode cX4_digest 17 = .ok (.dup, 1) := by decide +kernel
theorem dX4_digest_18 : decode cX4_digest 18 = .ok (.iconst 1, 1) := by decide +kernel
theorem dX4_digest_19 : decode cX4_digest 19 = .ok (.aload_n 0, 1) := by decide +kernel
theorem dX4_digest_20 : decode cX4_digest 20 = .ok (.getfield 13, 3) := by decide +kernel
theorem dX4_digest_23 : decode cX4_digest 23 = .ok (.i2l, 1) := by decide +kernel
theorem dX4_digest_24 : decode cX4_digest 24 = .ok (.lastore, 1) := by decide +kernel
theorem dX4_digest_25 : decode cX4_digest 25 = .ok (.dup, 1) := by decide +kernel
theorem dX4_digest_26 : decode cX4_digest 26 = .ok (.iconst 2, 1) := by decide +kernel
theorem dX4_digest_27 : decode cX4_digest 27 = .ok (.aload_n 0, 1) := by decide +kernel
theorem dX4_digest_28 : decode cX4_digest 28 = .ok (.getfield 101, 3) := by decide +kernel
theorem dX4_digest_31 : decode cX4_digest 31 = .ok (.i2l, 1) := by decide +kernel
theorem dX4_digest_32 : decode cX4_digest 32 = .ok (.lastore, 1) := by decide +kernel
theorem dX4_digest_33 : decode cX4_digest 33 = .ok (.dup, 1) := by decide +kernel
theorem dX4_digest_34 : decode cX4_digest 34 = .ok (.iconst 3, 1) := by decide +kernel
theorem dX4_digest_35 : decode cX4_digest 35 = .ok (.aload_n 0, 1) := by decide +kernel
theorem dX4_digest_36 : decode cX4_digest 36 = .ok (.getfield 16, 3) := by decide +kernel
theorem dX4_digest_39 : decode cX4_digest 39 = .ok (.i2l, 1) := by decide +kernel
theorem dX4_digest_40 : decode cX4_digest 40 = .ok (.lastore, 1) := by decide +kernel
theorem dX4_digest_41 : decode cX4_digest 41 = .ok (.dup, 1) := by decide +kernel
theorem dX4_digest_42 : decode cX4_digest 42 = .ok (.iconst 4, 1) := by decide +kernel
theorem dX4_digest_43 : decode cX4_digest 43 = .ok (.aload_n 0, 1) := by decide +kernel
theorem dX4_digest_44 : decode cX4_digest 44 = .ok (.getfield 45, 3) := by decide +kernel
theorem dX4_digest_47 : decode cX4_digest 47 = .ok (.i2l, 1) := by decide +kernel
theorem dX4_digest_48 : decode cX4_digest 48 = .ok (.lastore, 1) := by decide +kernel
theorem dX4_digest_49 : decode cX4_digest 49 = .ok (.dup, 1) := by decide +kernel
theorem dX4_digest_50 : decode cX4_digest 50 = .ok (.iconst 5, 1) := by decide +kernel
theorem dX4_digest_51 : decode cX4_digest 51 = .ok (.aload_n 0, 1) := by decide +kernel
theorem dX4_digest_52 : decode cX4_digest 52 = .ok (.getfield 55, 3) := by decide +kernel
theorem dX4_digest_55 : decode cX4_digest 55 = .ok (.i2l, 1) := by decide +kernel
theorem dX4_digest_56 : decode cX4_digest 56 = .ok (.lastore, 1) := by decide +kernel
theorem dX4_digest_57 : decode cX4_digest 57 = .ok (.dup, 1) := by decide +kernel
theorem dX4_digest_58 : decode cX4_digest 58 = .ok (.bipush 6, 2) := by decide +kernel
theorem dX4_digest_60 : decode cX4_digest 60 = .ok (.aload_n 0, 1) := by decide +kernel
theorem dX4_digest_61 : decode cX4_digest 61 = .ok (.getfield 104, 3) := by decide +kernel
theorem dX4_digest_64 : decode cX4_digest 64 = .ok (.lastore, 1) := by decide +kernel
theorem dX4_digest_65 : decode cX4_digest 65 = .ok (.dup, 1) := by decide +kernel
theorem dX4_digest_66 : decode cX4_digest 66 = .ok (.bipush 7, 2) := by decide +kernel
theorem dX4_digest_68 : decode cX4_digest 68 = .ok (.aload_n 0, 1) := by decide +kernel
theorem dX4_digest_69 : decode cX4_digest 69 = .ok (.invokevirtual 135, 3) := by decide +kernel
theorem dX4_digest_72 : decode cX4_digest 72 = .ok (.lastore, 1) := by decide +kernel
theorem dX4_digest_73 : decode cX4_digest 73 = .ok (.dup, 1) := by decide +kernel
theorem dX4_digest_74 : decode cX4_digest 74 = .ok (.bipush 8, 2) := by decide +kernel
theorem dX4_digest_76 : decode cX4_digest 76 = .ok (.aload_n 0, 1) := by decide +kernel
theorem dX4_digest_77 : decode cX4_digest 77 = .ok (.invokevirtual 151, 3) := by decide +kernel
theorem dX4_digest_80 : decode cX4_digest 80 = .ok (.i2l, 1) := by decide +kernel
theorem dX4_digest_81 : decode cX4_digest 81 = .ok (.lastore, 1) := by decide +kernel
theorem dX4_digest_82 : decode cX4_digest 82 = .ok (.dup, 1) := by decide +kernel
theorem dX4_digest_83 : decode cX4_digest 83 = .ok (.bipush 9, 2) := by decide +kernel
theorem dX4_digest_85 : decode cX4_digest 85 = .ok (.aload_n 0, 1) := by decide +kernel
theorem dX4_digest_86 : decode cX4_digest 86 = .ok (.invokevirtual 157, 3) := by decide +kernel
theorem dX4_digest_89 : decode cX4_digest 89 = .ok (.i2l, 1) := by decide +kernel
theorem dX4_digest_90 : decode cX4_digest 90 = .ok (.lastore, 1) := by decide +kernel
theorem dX4_digest_91 : decode cX4_digest 91 = .ok (.dup, 1) := by decide +kernel
theorem dX4_digest_92 : decode cX4_digest 92 = .ok (.bipush 10, 2) := by decide +kernel
theorem dX4_digest_94 : decode cX4_digest 94 = .ok (.aload_n 0, 1) := by decide +kernel
theorem dX4_digest_95 : decode cX4_digest 95 = .ok (.invokevirtual 166, 3) := by decide +kernel
theorem dX4_digest_98 : decode cX4_digest 98 = .ok (.i2l, 1) := by decide +kernel
theorem dX4_digest_99 : decode cX4_digest 99 = .ok (.lastore, 1) := by decide +kernel
theorem dX4_digest_100 : decode cX4_digest 100 = .ok (.dup, 1) := by decide +kernel
theorem dX4_digest_101 : decode cX4_digest 101 = .ok (.bipush 11, 2) := by decide +kernel
theorem dX4_digest_103 : decode cX4_digest 103 = .ok (.aload_n 0, 1) := by decide +kernel
theorem dX4_digest_104 : decode cX4_digest 104 = .ok (.invokevirtual 182, 3) := by decide +kernel
theorem dX4_digest_107 : decode cX4_digest 107 = .ok (.i2l, 1) := by decide +kernel
theorem dX4_digest_108 : decode cX4_digest 108 = .ok (.lastore, 1) := by decide +kernel
theorem dX4_digest_109 : decode cX4_digest 109 = .ok (.dup, 1) := by decide +kernel
theorem dX4_digest_110 : decode cX4_digest 110 = .ok (.bipush 12, 2) := by decide +kernel
theorem dX4_digest_112 : decode cX4_digest 112 = .ok (.aload_n 0, 1) := by decide +kernel
theorem dX4_digest_113 : decode cX4_digest 113 = .ok (.iconst 3, 1) := by decide +kernel
theorem dX4_digest_114 : decode cX4_digest 114 = .ok (.invokevirtual 175, 3) := by decide +kernel
theorem dX4_digest_117 : decode cX4_digest 117 = .ok (.lastore, 1) := by decide +kernel
theorem dX4_digest_118 : decode cX4_digest 118 = .ok (.dup, 1) := by decide +kernel
theorem dX4_digest_119 : decode cX4_digest 119 = .ok (.bipush 13, 2) := by decide +kernel
theorem dX4_digest_121 : decode cX4_digest 121 = .ok (.aload_n 0, 1) := by decide +kernel
theorem dX4_digest_122 : decode cX4_digest 122 = .ok (.iconst 3, 1) := by decide +kernel
theorem dX4_digest_123 : decode cX4_digest 123 = .ok (.aload_n 0, 1) := by decide +kernel
theorem dX4_digest_124 : decode cX4_digest 124 = .ok (.getfield 16, 3) := by decide +kernel
theorem dX4_digest_127 : decode cX4_digest 127 = .ok (.invokevirtual 172, 3) := by decide +kernel
theorem dX4_digest_130 : decode cX4_digest 130 = .ok (.i2l, 1) := by decide +kernel
theorem dX4_digest_131 : decode cX4_digest 131 = .ok (.lastore, 1) := by decide +kernel
theorem dX4_digest_132 : decode cX4_digest 132 = .ok (.dup, 1) := by decide +kernel
theorem dX4_digest_133 : decode cX4_digest 133 = .ok (.bipush 14, 2) := by decide +kernel
theorem dX4_digest_135 : decode cX4_digest 135 = .ok (.aload_n 0, 1) := by decide +kernel
theorem dX4_digest_136 : decode cX4_digest 136 = .ok (.iconst 5, 1) := by decide +kernel
theorem dX4_digest_137 : decode cX4_digest 137 = .ok (.invokevirtual 185, 3) := by decide +kernel
theorem dX4_digest_140 : decode cX4_digest 140 = .ok (.i2l, 1) := by decide +kernel
theorem dX4_digest_141 : decode cX4_digest 141 = .ok (.lastore, 1) := by decide +kernel
theorem dX4_digest_142 : decode cX4_digest 142 = .ok (.astore_n 1, 1) := by decide +kernel
theorem dX4_digest_143 : decode cX4_digest 143 = .ok (.ldc2_w 191, 3) := by decide +kernel
theorem dX4_digest_146 : decode cX4_digest 146 = .ok (.lstore_n 2, 1) := by decide +kernel
theorem dX4_digest_147 : decode cX4_digest 147 = .ok (.aload_n 1, 1) := by decide +kernel
theorem dX4_digest_148 : decode cX4_digest 148 = .ok (.astore 4, 2) := by decide +kernel
theorem dX4_digest_150 : decode cX4_digest 150 = .ok (.aload 4, 2) := by decide +kernel
theorem dX4_digest_152 : decode cX4_digest 152 = .ok (.arraylength, 1) := by decide +kernel
theorem dX4_digest_153 : decode cX4_digest 153 = .ok (.istore 5, 2) := by decide +kernel
theorem dX4_digest_155 : decode cX4_digest 155 = .ok (.iconst 0, 1) := by decide +kernel
theorem dX4_digest_156 : decode cX4_digest 156 = .ok (.istore 6, 2) := by decide +kernel
theorem dX4_digest_158 : decode cX4_digest 158 = .ok (.iload 6, 2) := by decide +kernel
theorem dX4_digest_160 : decode cX4_digest 160 = .ok (.iload 5, 2) := by decide +kernel
theorem dX4_digest_162 : decode cX4_digest 162 = .ok (.if_icmp .ge 25, 3) := by decide +kernel
theorem dX4_digest_165 : decode cX4_digest 165 = .ok (.aload 4, 2) := by decide +kernel
theorem dX4_digest_167 : decode cX4_digest 167 = .ok (.iload 6, 2) := by decide +kernel
theorem dX4_digest_169 : decode cX4_digest 169 = .ok (.laload, 1) := by decide +kernel
theorem dX4_digest_170 : decode cX4_digest 170 = .ok (.lstore 7, 2) := by decide +kernel
theorem dX4_digest_172 : decode cX4_digest 172 = .ok (.lload_n 2, 1) := by decide +kernel
theorem dX4_digest_173 : decode cX4_digest 173 = .ok (.ldc2_w 193, 3) := by decide +kernel
theorem dX4_digest_176 : decode cX4_digest 176 = .ok (.lmul, 1) := by decide +kernel
theorem dX4_digest_177 : decode cX4_digest 177 = .ok (.lload 7, 2) := by decide +kernel
theorem dX4_digest_179 : decode cX4_digest 179 = .ok (.ladd, 1) := by decide +kernel
theorem dX4_digest_180 : decode cX4_digest 180 = .ok (.lstore_n 2, 1) := by decide +kernel
theorem dX4_digest_181 : decode cX4_digest 181 = .ok (.iinc 6 1, 3) := by decide +kernel
theorem dX4_digest_184 : decode cX4_digest 184 = .ok (.goto (-26), 3) := by decide +kernel
theorem dX4_digest_187 : decode cX4_digest 187 = .ok (.iconst 0, 1) := by decide +kernel
theorem dX4_digest_188 : decode cX4_digest 188 = .ok (.istore 4, 2) := by decide +kernel
theorem dX4_digest_190 : decode cX4_digest 190 = .ok (.iload 4, 2) := by decide +kernel
theorem dX4_digest_192 : decode cX4_digest 192 = .ok (.aload_n 0, 1) := by decide +kernel
theorem dX4_digest_193 : decode cX4_digest 193 = .ok (.getfield 9, 3) := by decide +kernel
theorem dX4_digest_196 : decode cX4_digest 196 = .ok (.if_icmp .ge 105, 3) := by decide +kernel
theorem dX4_digest_199 : decode cX4_digest 199 = .ok (.lload_n 2, 1) := by decide +kernel
theorem dX4_digest_200 : decode cX4_digest 200 = .ok (.ldc2_w 193, 3) := by decide +kernel
theorem dX4_digest_203 : decode cX4_digest 203 = .ok (.lmul, 1) := by decide +kernel
theorem dX4_digest_204 : decode cX4_digest 204 = .ok (.aload_n 0, 1) := by decide +kernel
theorem dX4_digest_205 : decode cX4_digest 205 = .ok (.iload 4, 2) := by decide +kernel
theorem dX4_digest_207 : decode cX4_digest 207 = .ok (.invokevirtual 128, 3) := by decide +kernel
theorem dX4_digest_210 : decode cX4_digest 210 = .ok (.ladd, 1) := by decide +kernel
theorem dX4_digest_211 : decode cX4_digest 211 = .ok (.ldc2_w 193, 3) := by decide +kernel
theorem dX4_digest_214 : decode cX4_digest 214 = .ok (.lmul, 1) := by decide +kernel
theorem dX4_digest_215 : decode cX4_digest 215 = .ok (.aload_n 0, 1) := by decide +kernel
theorem dX4_digest_216 : decode cX4_digest 216 = .ok (.iload 4, 2) := by decide +kernel
theorem dX4_digest_218 : decode cX4_digest 218 = .ok (.invokevirtual 145, 3) := by decide +kernel
theorem dX4_digest_221 : decode cX4_digest 221 = .ok (.ladd, 1) := by decide +kernel
theorem dX4_digest_222 : decode cX4_digest 222 = .ok (.ldc2_w 193, 3) := by decide +kernel
theorem dX4_digest_225 : decode cX4_digest 225 = .ok (.lmul, 1) := by decide +kernel
theorem dX4_digest_226 : decode cX4_digest 226 = .ok (.aload_n 0, 1) := by decide +kernel
theorem dX4_digest_227 : decode cX4_digest 227 = .ok (.iload 4, 2) := by decide +kernel
theorem dX4_digest_229 : decode cX4_digest 229 = .ok (.invokevirtual 154, 3) := by decide +kernel
theorem dX4_digest_232 : decode cX4_digest 232 = .ok (.i2l, 1) := by decide +kernel
theorem dX4_digest_233 : decode cX4_digest 233 = .ok (.ladd, 1) := by decide +kernel
theorem dX4_digest_234 : decode cX4_digest 234 = .ok (.lstore_n 2, 1) := by decide +kernel
theorem dX4_digest_235 : decode cX4_digest 235 = .ok (.lload_n 2, 1) := by decide +kernel
theorem dX4_digest_236 : decode cX4_digest 236 = .ok (.ldc2_w 193, 3) := by decide +kernel
theorem dX4_digest_239 : decode cX4_digest 239 = .ok (.lmul, 1) := by decide +kernel
theorem dX4_digest_240 : decode cX4_digest 240 = .ok (.aload_n 0, 1) := by decide +kernel
theorem dX4_digest_241 : decode cX4_digest 241 = .ok (.iload 4, 2) := by decide +kernel
theorem dX4_digest_243 : decode cX4_digest 243 = .ok (.invokevirtual 160, 3) := by decide +kernel
theorem dX4_digest_246 : decode cX4_digest 246 = .ok (.i2l, 1) := by decide +kernel
theorem dX4_digest_247 : decode cX4_digest 247 = .ok (.ladd, 1) := by decide +kernel
theorem dX4_digest_248 : decode cX4_digest 248 = .ok (.ldc2_w 193, 3) := by decide +kernel
theorem dX4_digest_251 : decode cX4_digest 251 = .ok (.lmul, 1) := by decide +kernel
theorem dX4_digest_252 : decode cX4_digest 252 = .ok (.aload_n 0, 1) := by decide +kernel
theorem dX4_digest_253 : decode cX4_digest 253 = .ok (.iload 4, 2) := by decide +kernel
theorem dX4_digest_255 : decode cX4_digest 255 = .ok (.invokevirtual 188, 3) := by decide +kernel
theorem dX4_digest_258 : decode cX4_digest 258 = .ok (.i2l, 1) := by decide +kernel
theorem dX4_digest_259 : decode cX4_digest 259 = .ok (.ladd, 1) := by decide +kernel
theorem dX4_digest_260 : decode cX4_digest 260 = .ok (.lstore_n 2, 1) := by decide +kernel
theorem dX4_digest_261 : decode cX4_digest 261 = .ok (.iconst 0, 1) := by decide +kernel
theorem dX4_digest_262 : decode cX4_digest 262 = .ok (.istore 5, 2) := by decide +kernel
theorem dX4_digest_264 : decode cX4_digest 264 = .ok (.iload 5, 2) := by decide +kernel
theorem dX4_digest_266 : decode cX4_digest 266 = .ok (.aload_n 0, 1) := by decide +kernel
theorem dX4_digest_267 : decode cX4_digest 267 = .ok (.getfield 13, 3) := by decide +kernel
theorem dX4_digest_270 : decode cX4_digest 270 = .ok (.if_icmp .ge 25, 3) := by decide +kernel
theorem dX4_digest_273 : decode cX4_digest 273 = .ok (.lload_n 2, 1) := by decide +kernel
theorem dX4_digest_274 : decode cX4_digest 274 = .ok (.ldc2_w 193, 3) := by decide +kernel
theorem dX4_digest_277 : decode cX4_digest 277 = .ok (.lmul, 1) := by decide +kernel
theorem dX4_digest_278 : decode cX4_digest 278 = .ok (.aload_n 0, 1) := by decide +kernel
theorem dX4_digest_279 : decode cX4_digest 279 = .ok (.iload 4, 2) := by decide +kernel
theorem dX4_digest_281 : decode cX4_digest 281 = .ok (.iload 5, 2) := by decide +kernel
theorem dX4_digest_283 : decode cX4_digest 283 = .ok (.invokevirtual 121, 3) := by decide +kernel
theorem dX4_digest_286 : decode cX4_digest 286 = .ok (.i2l, 1) := by decide +kernel
theorem dX4_digest_287 : decode cX4_digest 287 = .ok (.ladd, 1) := by decide +kernel
theorem dX4_digest_288 : decode cX4_digest 288 = .ok (.lstore_n 2, 1) := by decide +kernel
theorem dX4_digest_289 : decode cX4_digest 289 = .ok (.iinc 5 1, 3) := by decide +kernel
theorem dX4_digest_292 : decode cX4_digest 292 = .ok (.goto (-28), 3) := by decide +kernel
theorem dX4_digest_295 : decode cX4_digest 295 = .ok (.iinc 4 1, 3) := by decide +kernel
theorem dX4_digest_298 : decode cX4_digest 298 = .ok (.goto (-108), 3) := by decide +kernel
theorem dX4_digest_301 : decode cX4_digest 301 = .ok (.iconst 0, 1) := by decide +kernel
theorem dX4_digest_302 : decode cX4_digest 302 = .ok (.istore 4, 2) := by decide +kernel
theorem dX4_digest_304 : decode cX4_digest 304 = .ok (.iload 4, 2) := by decide +kernel
theorem dX4_digest_306 : decode cX4_digest 306 = .ok (.aload_n 0, 1) := by decide +kernel
theorem dX4_digest_307 : decode cX4_digest 307 = .ok (.getfield 13, 3) := by decide +kernel
theorem dX4_digest_310 : decode cX4_digest 310 = .ok (.if_icmp .ge 35, 3) := by decide +kernel
theorem dX4_digest_313 : decode cX4_digest 313 = .ok (.lload_n 2, 1) := by decide +kernel
theorem dX4_digest_314 : decode cX4_digest 314 = .ok (.ldc2_w 193, 3) := by decide +kernel
theorem dX4_digest_317 : decode cX4_digest 317 = .ok (.lmul, 1) := by decide +kernel
theorem dX4_digest_318 : decode cX4_digest 318 = .ok (.aload_n 0, 1) := by decide +kernel
theorem dX4_digest_319 : decode cX4_digest 319 = .ok (.getfield 19, 3) := by decide +kernel
theorem dX4_digest_322 : decode cX4_digest 322 = .ok (.iload 4, 2) := by decide +kernel
theorem dX4_digest_324 : decode cX4_digest 324 = .ok (.iaload, 1) := by decide +kernel
theorem dX4_digest_325 : decode cX4_digest 325 = .ok (.i2l, 1) := by decide +kernel
theorem dX4_digest_326 : decode cX4_digest 326 = .ok (.ladd, 1) := by decide +kernel
theorem dX4_digest_327 : decode cX4_digest 327 = .ok (.ldc2_w 193, 3) := by decide +kernel
theorem dX4_digest_330 : decode cX4_digest 330 = .ok (.lmul, 1) := by decide +kernel
theorem dX4_digest_331 : decode cX4_digest 331 = .ok (.aload_n 0, 1) := by decide +kernel
theorem dX4_digest_332 : decode cX4_digest 332 = .ok (.iload 4, 2) := by decide +kernel
theorem dX4_digest_334 : decode cX4_digest 334 = .ok (.invokevirtual 132, 3) := by decide +kernel
theorem dX4_digest_337 : decode cX4_digest 337 = .ok (.ladd, 1) := by decide +kernel
theorem dX4_digest_338 : decode cX4_digest 338 = .ok (.lstore_n 2, 1) := by decide +kernel
theorem dX4_digest_339 : decode cX4_digest 339 = .ok (.iinc 4 1, 3) := by decide +kernel
theorem dX4_digest_342 : decode cX4_digest 342 = .ok (.goto (-38), 3) := by decide +kernel
theorem dX4_digest_345 : decode cX4_digest 345 = .ok (.iconst 0, 1) := by decide +kernel
theorem dX4_digest_346 : decode cX4_digest 346 = .ok (.istore 4, 2) := by decide +kernel
theorem dX4_digest_348 : decode cX4_digest 348 = .ok (.iload 4, 2) := by decide +kernel
theorem dX4_digest_350 : decode cX4_digest 350 = .ok (.aload_n 0, 1) := by decide +kernel
theorem dX4_digest_351 : decode cX4_digest 351 = .ok (.getfield 45, 3) := by decide +kernel
theorem dX4_digest_354 : decode cX4_digest 354 = .ok (.if_icmp .ge 23, 3) := by decide +kernel
theorem dX4_digest_357 : decode cX4_digest 357 = .ok (.lload_n 2, 1) := by decide +kernel
theorem dX4_digest_358 : decode cX4_digest 358 = .ok (.ldc2_w 193, 3) := by decide +kernel
theorem dX4_digest_361 : decode cX4_digest 361 = .ok (.lmul, 1) := by decide +kernel
theorem dX4_digest_362 : decode cX4_digest 362 = .ok (.aload_n 0, 1) := by decide +kernel
theorem dX4_digest_363 : decode cX4_digest 363 = .ok (.iload 4, 2) := by decide +kernel
theorem dX4_digest_365 : decode cX4_digest 365 = .ok (.invokevirtual 169, 3) := by decide +kernel
theorem dX4_digest_368 : decode cX4_digest 368 = .ok (.i2l, 1) := by decide +kernel
theorem dX4_digest_369 : decode cX4_digest 369 = .ok (.ladd, 1) := by decide +kernel
theorem dX4_digest_370 : decode cX4_digest 370 = .ok (.lstore_n 2, 1) := by decide +kernel
theorem dX4_digest_371 : decode cX4_digest 371 = .ok (.iinc 4 1, 3) := by decide +kernel
theorem dX4_digest_374 : decode cX4_digest 374 = .ok (.goto (-26), 3) := by decide +kernel
theorem dX4_digest_377 : decode cX4_digest 377 = .ok (.lload_n 2, 1) := by decide +kernel
theorem dX4_digest_378 : decode cX4_digest 378 = .ok (.lreturn, 1) := by decide +kernel
