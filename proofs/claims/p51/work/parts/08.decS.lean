theorem dX4_init_0 : decode cX4_init 0 = .ok (.aload_n 0, 1) := by decide +kernel
theorem dX4_init_1 : decode cX4_init 1 = .ok (.invokespecial 1, 3) := by decide +kernel
theorem dX4_init_4 : decode cX4_init 4 = .ok (.aload_n 0, 1) := by decide +kernel
theorem dX4_init_5 : decode cX4_init 5 = .ok (.iconst 4, 1) := by decide +kernel
theorem dX4_init_6 : decode cX4_init 6 = .ok (.bipush 8, 2) := by decide +kernel
theorem dX4_init_8 : decode cX4_init 8 = .ok (.multianewarray 7 2, 4) := by decide +kernel
theorem dX4_init_12 : decode cX4_init 12 = .ok (.putfield 9, 3) := by decide +kernel
theorem dX4_init_15 : decode cX4_init 15 = .ok (.aload_n 0, 1) := by decide +kernel
theorem dX4_init_16 : decode cX4_init 16 = .ok (.bipush 8, 2) := by decide +kernel
theorem dX4_init_18 : decode cX4_init 18 = .ok (.newarray .int, 2) := by decide +kernel
theorem dX4_init_20 : decode cX4_init 20 = .ok (.dup, 1) := by decide +kernel
theorem dX4_init_21 : decode cX4_init 21 = .ok (.iconst 0, 1) := by decide +kernel
theorem dX4_init_22 : decode cX4_init 22 = .ok (.bipush 50, 2) := by decide +kernel
theorem dX4_init_24 : decode cX4_init 24 = .ok (.iastore, 1) := by decide +kernel
theorem dX4_init_25 : decode cX4_init 25 = .ok (.dup, 1) := by decide +kernel
theorem dX4_init_26 : decode cX4_init 26 = .ok (.iconst 1, 1) := by decide +kernel
theorem dX4_init_27 : decode cX4_init 27 = .ok (.bipush 50, 2) := by decide +kernel
theorem dX4_init_29 : decode cX4_init 29 = .ok (.iastore, 1) := by decide +kernel
theorem dX4_init_30 : decode cX4_init 30 = .ok (.dup, 1) := by decide +kernel
theorem dX4_init_31 : decode cX4_init 31 = .ok (.iconst 2, 1) := by decide +kernel
theorem dX4_init_32 : decode cX4_init 32 = .ok (.bipush 50, 2) := by decide +kernel
theorem dX4_init_34 : decode cX4_init 34 = .ok (.iastore, 1) := by decide +kernel
theorem dX4_init_35 : decode cX4_init 35 = .ok (.dup, 1) := by decide +kernel
theorem dX4_init_36 : decode cX4_init 36 = .ok (.iconst 3, 1) := by decide +kernel
theorem dX4_init_37 : decode cX4_init 37 = .ok (.bipush 50, 2) := by decide +kernel
theorem dX4_init_39 : decode cX4_init 39 = .ok (.iastore, 1) := by decide +kernel
theorem dX4_init_40 : decode cX4_init 40 = .ok (.dup, 1) := by decide +kernel
theorem dX4_init_41 : decode cX4_init 41 = .ok (.iconst 4, 1) := by decide +kernel
theorem dX4_init_42 : decode cX4_init 42 = .ok (.bipush 50, 2) := by decide +kernel
theorem dX4_init_44 : decode cX4_init 44 = .ok (.iastore, 1) := by decide +kernel
theorem dX4_init_45 : decode cX4_init 45 = .ok (.dup, 1) := by decide +kernel
theorem dX4_init_46 : decode cX4_init 46 = .ok (.iconst 5, 1) := by decide +kernel
theorem dX4_init_47 : decode cX4_init 47 = .ok (.bipush 50, 2) := by decide +kernel
theorem dX4_init_49 : decode cX4_init 49 = .ok (.iastore, 1) := by decide +kernel
theorem dX4_init_50 : decode cX4_init 50 = .ok (.dup, 1) := by decide +kernel
theorem dX4_init_51 : decode cX4_init 51 = .ok (.bipush 6, 2) := by decide +kernel
theorem dX4_init_53 : decode cX4_init 53 = .ok (.bipush 50, 2) := by decide +kernel
theorem dX4_init_55 : decode cX4_init 55 = .ok (.iastore, 1) := by decide +kernel
theorem dX4_init_56 : decode cX4_init 56 = .ok (.dup, 1) := by decide +kernel
theorem dX4_init_57 : decode cX4_init 57 = .ok (.bipush 7, 2) := by decide +kernel
theorem dX4_init_59 : decode cX4_init 59 = .ok (.bipush 50, 2) := by decide +kernel
theorem dX4_init_61 : decode cX4_init 61 = .ok (.iastore, 1) := by decide +kernel
theorem dX4_init_62 : decode cX4_init 62 = .ok (.putfield 14, 3) := by decide +kernel
theorem dX4_init_65 : decode cX4_init 65 = .ok (.aload_n 0, 1) := by decide +kernel
theorem dX4_init_66 : decode cX4_init 66 = .ok (.iconst 1, 1) := by decide +kernel
theorem dX4_init_67 : decode cX4_init 67 = .ok (.putfield 18, 3) := by decide +kernel
theorem dX4_init_70 : decode cX4_init 70 = .ok (.aload_n 0, 1) := by decide +kernel
theorem dX4_init_71 : decode cX4_init 71 = .ok (.iconst 0, 1) := by decide +kernel
theorem dX4_init_72 : decode cX4_init 72 = .ok (.anewarray 7, 3) := by decide +kernel
theorem dX4_init_75 : decode cX4_init 75 = .ok (.putfield 22, 3) := by decide +kernel
theorem dX4_init_78 : decode cX4_init 78 = .ok (.aload_n 0, 1) := by decide +kernel
theorem dX4_init_79 : decode cX4_init 79 = .ok (.iconst 0, 1) := by decide +kernel
theorem dX4_init_80 : decode cX4_init 80 = .ok (.anewarray 7, 3) := by decide +kernel
theorem dX4_init_83 : decode cX4_init 83 = .ok (.putfield 26, 3) := by decide +kernel
theorem dX4_init_86 : decode cX4_init 86 = .ok (.return_, 1) := by decide +kernel
theorem dX4_copied_0 : decode cX4_copied 0 = .ok (.aload_n 0, 1) := by decide +kernel
theorem dX4_copied_1 : decode cX4_copied 1 = .ok (.arraylength, 1) := by decide +kernel
theorem dX4_copied_2 : decode cX4_copied 2 = .ok (.anewarray 29, 3) := by decide +kernel
theorem dX4_copied_5 : decode cX4_copied 5 = .ok (.astore_n 1, 1) := by decide +kernel
theorem dX4_copied_6 : decode cX4_copied 6 = .ok (.iconst 0, 1) := by decide +kernel
theorem dX4_copied_7 : decode cX4_copied 7 = .ok (.istore_n 2, 1) := by decide +kernel
theorem dX4_copied_8 : decode cX4_copied 8 = .ok (.iload_n 2, 1) := by decide +kernel
theorem dX4_copied_9 : decode cX4_copied 9 = .ok (.aload_n 0, 1) := by decide +kernel
theorem dX4_copied_10 : decode cX4_copied 10 = .ok (.arraylength, 1) := by decide +kernel
theorem dX4_copied_11 : decode cX4_copied 11 = .ok (.if_icmp .ge 21, 3) := by decide +kernel
theorem dX4_copied_14 : decode cX4_copied 14 = .ok (.aload_n 1, 1) := by decide +kernel
theorem dX4_copied_15 : decode cX4_copied 15 = .ok (.iload_n 2, 1) := by decide +kernel
theorem dX4_copied_16 : decode cX4_copied 16 = .ok (.aload_n 0, 1) := by decide +kernel
theorem dX4_copied_17 : decode cX4_copied 17 = .ok (.iload_n 2, 1) := by decide +kernel
theorem dX4_copied_18 : decode cX4_copied 18 = .ok (.aaload, 1) := by decide +kernel
theorem dX4_copied_19 : decode cX4_copied 19 = .ok (.invokevirtual 30, 3) := by decide +kernel
theorem dX4_copied_22 : decode cX4_copied 22 = .ok (.checkcast 29, 3) := by decide +kernel
theorem dX4_copied_25 : decode cX4_copied 25 = .ok (.aastore, 1) := by decide +kernel
theorem dX4_copied_26 : decode cX4_copied 26 = .ok (.iinc 2 1, 3) := by decide +kernel
theorem dX4_copied_29 : decode cX4_copied 29 = .ok (.goto (-21), 3) := by decide +kernel
theorem dX4_copied_32 : decode cX4_copied 32 = .ok (.aload_n 1, 1) := by decide +kernel
theorem dX4_copied_33 : decode cX4_copied 33 = .ok (.areturn, 1) := by decide +kernel
theorem dX4_with_0 : decode cX4_with 0 = .ok (.aload_n 0, 1) := by decide +kernel
theorem dX4_with_1 : decode cX4_with 1 = .ok (.arraylength, 1) := by decide +kernel
theorem dX4_with_2 : decode cX4_with 2 = .ok (.iconst 1, 1) := by decide +kernel
theorem dX4_with_3 : decode cX4_with 3 = .ok (.iadd, 1) := by decide +kernel
theorem dX4_with_4 : decode cX4_with 4 = .ok (.iload_n 2, 1) := by decide +kernel
theorem dX4_with_5 : decode cX4_with 5 = .ok (.isub, 1) := by decide +kernel
theorem dX4_with_6 : decode cX4_with 6 = .ok (.anewarray 7, 3) := by decide +kernel
theorem dX4_with_9 : decode cX4_with 9 = .ok (.astore_n 3, 1) := by decide +kernel
theorem dX4_with_10 : decode cX4_with 10 = .ok (.iload_n 2, 1) := by decide +kernel
theorem dX4_with_11 : decode cX4_with 11 = .ok (.istore 4, 2) := by decide +kernel
theorem dX4_with_13 : decode cX4_with 13 = .ok (.iload 4, 2) := by decide +kernel
theorem dX4_with_15 : decode cX4_with 15 = .ok (.aload_n 0, 1) := by decide +kernel
theorem dX4_with_16 : decode cX4_with 16 = .ok (.arraylength, 1) := by decide +kernel
theorem dX4_with_17 : decode cX4_with 17 = .ok (.if_icmp .ge 19, 3) := by decide +kernel
theorem dX4_with_20 : decode cX4_with 20 = .ok (.aload_n 3, 1) := by decide +kernel
theorem dX4_with_21 : decode cX4_with 21 = .ok (.iload 4, 2) := by decide +kernel
theorem dX4_with_23 : decode cX4_with 23 = .ok (.iload_n 2, 1) := by decide +kernel
theorem dX4_with_24 : decode cX4_with 24 = .ok (.isub, 1) := by decide +kernel
theorem dX4_with_25 : decode cX4_with 25 = .ok (.aload_n 0, 1) := by decide +kernel
theorem dX4_with_26 : decode cX4_with 26 = .ok (.iload 4, 2) := by decide +kernel
theorem dX4_with_28 : decode cX4_with 28 = .ok (.aaload, 1) := by decide +kernel
theorem dX4_with_29 : decode cX4_with 29 = .ok (.aastore, 1) := by decide +kernel
theorem dX4_with_30 : decode cX4_with 30 = .ok (.iinc 4 1, 3) := by decide +kernel
theorem dX4_with_33 : decode cX4_with 33 = .ok (.goto (-20), 3) := by decide +kernel
theorem dX4_with_36 : decode cX4_with 36 = .ok (.aload_n 3, 1) := by decide +kernel
theorem dX4_with_37 : decode cX4_with 37 = .ok (.aload_n 3, 1) := by decide +kernel
theorem dX4_with_38 : decode cX4_with 38 = .ok (.arraylength, 1) := by decide +kernel
theorem dX4_with_39 : decode cX4_with 39 = .ok (.iconst 1, 1) := by decide +kernel
theorem dX4_with_40 : decode cX4_with 40 = .ok (.isub, 1) := by decide +kernel
theorem dX4_with_41 : decode cX4_with 41 = .ok (.aload_n 1, 1) := by decide +kernel
theorem dX4_with_42 : decode cX4_with 42 = .ok (.aastore, 1) := by decide +kernel
theorem dX4_with_43 : decode cX4_with 43 = .ok (.aload_n 3, 1) := by decide +kernel
theorem dX4_with_44 : decode cX4_with 44 = .ok (.areturn, 1) := by decide +kernel
theorem dX4_copy_0 : decode cX4_copy 0 = .ok (.new 10, 3) := by decide +kernel
theorem dX4_copy_3 : decode cX4_copy 3 = .ok (.dup, 1) := by decide +kernel
theorem dX4_copy_4 : decode cX4_copy 4 = .ok (.invokespecial 34, 3) := by decide +kernel
theorem dX4_copy_7 : decode cX4_copy 7 = .ok (.astore_n 1, 1) := by decide +kernel
theorem dX4_copy_8 : decode cX4_copy 8 = .ok (.aload_n 1, 1) := by decide +kernel
theorem dX4_copy_9 : decode cX4_copy 9 = .ok (.aload_n 0, 1) := by decide +kernel
theorem dX4_copy_10 : decode cX4_copy 10 = .ok (.getfield 9, 3) := by decide +kernel
theorem dX4_copy_13 : decode cX4_copy 13 = .ok (.invokestatic 35, 3) := by decide +kernel
theorem dX4_copy_16 : decode cX4_copy 16 = .ok (.putfield 9, 3) := by decide +kernel
theorem dX4_copy_19 : decode cX4_copy 19 = .ok (.aload_n 1, 1) := by decide +kernel
theorem dX4_copy_20 : decode cX4_copy 20 = .ok (.aload_n 0, 1) := by decide +kernel
theorem dX4_copy_21 : decode cX4_copy 21 = .ok (.getfield 14, 3) := by decide +kernel
theorem dX4_copy_24 : decode cX4_copy 24 = .ok (.invokevirtual 30, 3) := by decide +kernel
theorem dX4_copy_27 : decode cX4_copy 27 = .ok (.checkcast 29, 3) := by decide +kernel
theorem dX4_copy_30 : decode cX4_copy 30 = .ok (.putfield 14, 3) := by decide +kernel
theorem dX4_copy_33 : decode cX4_copy 33 = .ok (.aload_n 1, 1) := by decide +kernel
theorem dX4_copy_34 : decode cX4_copy 34 = .ok (.aload_n 0, 1) := by decide +kernel
theorem dX4_copy_35 : decode cX4_copy 35 = .ok (.getfield 18, 3) := by decide +kernel
theorem dX4_copy_38 : decode cX4_copy 38 = .ok (.putfield 18, 3) := by decide +kernel
theorem dX4_copy_41 : decode cX4_copy 41 = .ok (.aload_n 1, 1) := by decide +kernel
theorem dX4_copy_42 : decode cX4_copy 42 = .ok (.areturn, 1) := by decide +kernel
theorem dX4_lay_0 : decode cX4_lay 0 = .ok (.aload_n 0, 1) := by decide +kernel
theorem dX4_lay_1 : decode cX4_lay 1 = .ok (.iload_n 1, 1) := by decide +kernel
theorem dX4_lay_2 : decode cX4_lay 2 = .ok (.iload_n 2, 1) := by decide +kernel
theorem dX4_lay_3 : decode cX4_lay 3 = .ok (.multianewarray 7 2, 4) := by decide +kernel
theorem dX4_lay_7 : decode cX4_lay 7 = .ok (.putfield 9, 3) := by decide +kernel
theorem dX4_lay_10 : decode cX4_lay 10 = .ok (.aload_n 0, 1) := by decide +kernel
theorem dX4_lay_11 : decode cX4_lay 11 = .ok (.iload_n 2, 1) := by decide +kernel
theorem dX4_lay_12 : decode cX4_lay 12 = .ok (.newarray .int, 2) := by decide +kernel
theorem dX4_lay_14 : decode cX4_lay 14 = .ok (.putfield 14, 3) := by decide +kernel
theorem dX4_lay_17 : decode cX4_lay 17 = .ok (.iconst 0, 1) := by decide +kernel
theorem dX4_lay_18 : decode cX4_lay 18 = .ok (.istore_n 3, 1) := by decide +kernel
theorem dX4_lay_19 : decode cX4_lay 19 = .ok (.iload_n 3, 1) := by decide +kernel
theorem dX4_lay_20 : decode cX4_lay 20 = .ok (.iload_n 2, 1) := by decide +kernel
theorem dX4_lay_21 : decode cX4_lay 21 = .ok (.if_icmp .ge 17, 3) := by decide +kernel
theorem dX4_lay_24 : decode cX4_lay 24 = .ok (.aload_n 0, 1) := by decide +kernel
theorem dX4_lay_25 : decode cX4_lay 25 = .ok (.getfield 14, 3) := by decide +kernel
theorem dX4_lay_28 : decode cX4_lay 28 = .ok (.iload_n 3, 1) := by decide +kernel
theorem dX4_lay_29 : decode cX4_lay 29 = .ok (.bipush 50, 2) := by decide +kernel
theorem dX4_lay_31 : decode cX4_lay 31 = .ok (.iastore, 1) := by decide +kernel
theorem dX4_lay_32 : decode cX4_lay 32 = .ok (.iinc 3 1, 3) := by decide +kernel
theorem dX4_lay_35 : decode cX4_lay 35 = .ok (.goto (-16), 3) := by decide +kernel
theorem dX4_lay_38 : decode cX4_lay 38 = .ok (.aload_n 0, 1) := by decide +kernel
theorem dX4_lay_39 : decode cX4_lay 39 = .ok (.iconst 0, 1) := by decide +kernel
theorem dX4_lay_40 : decode cX4_lay 40 = .ok (.anewarray 7, 3) := by decide +kernel
theorem dX4_lay_43 : decode cX4_lay 43 = .ok (.putfield 22, 3) := by decide +kernel
theorem dX4_lay_46 : decode cX4_lay 46 = .ok (.aload_n 0, 1) := by decide +kernel
theorem dX4_lay_47 : decode cX4_lay 47 = .ok (.iconst 0, 1) := by decide +kernel
theorem dX4_lay_48 : decode cX4_lay 48 = .ok (.anewarray 7, 3) := by decide +kernel
theorem dX4_lay_51 : decode cX4_lay 51 = .ok (.putfield 26, 3) := by decide +kernel
theorem dX4_lay_54 : decode cX4_lay 54 = .ok (.return_, 1) := by decide +kernel
theorem dX4_keep_0 : decode cX4_keep 0 = .ok (.aload_n 0, 1) := by decide +kernel
theorem dX4_keep_1 : decode cX4_keep 1 = .ok (.aload_n 0, 1) := by decide +kernel
theorem dX4_keep_2 : decode cX4_keep 2 = .ok (.getfield 22, 3) := by decide +kernel
theorem dX4_keep_5 : decode cX4_keep 5 = .ok (.aload_n 0, 1) := by decide +kernel
theorem dX4_keep_6 : decode cX4_keep 6 = .ok (.getfield 9, 3) := by decide +kernel
theorem dX4_keep_9 : decode cX4_keep 9 = .ok (.invokestatic 35, 3) := by decide +kernel
theorem dX4_keep_12 : decode cX4_keep 12 = .ok (.aload_n 0, 1) := by decide +kernel
theorem dX4_keep_13 : decode cX4_keep 13 = .ok (.getfield 22, 3) := by decide +kernel
theorem dX4_keep_16 : decode cX4_keep 16 = .ok (.arraylength, 1) := by decide +kernel
theorem dX4_keep_17 : decode cX4_keep 17 = .ok (.bipush 30, 2) := by decide +kernel
theorem dX4_keep_19 : decode cX4_keep 19 = .ok (.if_icmp .ne 7, 3) := by decide +kernel
theorem dX4_keep_22 : decode cX4_keep 22 = .ok (.iconst 1, 1) := by decide +kernel
theorem dX4_keep_23 : decode cX4_keep 23 = .ok (.goto 4, 3) := by decide +kernel
theorem dX4_keep_26 : decode cX4_keep 26 = .ok (.iconst 0, 1) := by decide +kernel
theorem dX4_keep_27 : decode cX4_keep 27 = .ok (.invokestatic 39, 3) := by decide +kernel
theorem dX4_keep_30 : decode cX4_keep 30 = .ok (.putfield 22, 3) := by decide +kernel
theorem dX4_keep_33 : decode cX4_keep 33 = .ok (.return_, 1) := by decide +kernel
theorem dX4_unlike_0 : decode cX4_unlike 0 = .ok (.iconst 0, 1) := by decide +kernel
theorem dX4_unlike_1 : decode cX4_unlike 1 = .ok (.istore_n 2, 1) := by decide +kernel
theorem dX4_unlike_2 : decode cX4_unlike 2 = .ok (.iconst 0, 1) := by decide +kernel
theorem dX4_unlike_3 : decode cX4_unlike 3 = .ok (.istore_n 3, 1) := by decide +kernel
theorem dX4_unlike_4 : decode cX4_unlike 4 = .ok (.iload_n 3, 1) := by decide +kernel
theorem dX4_unlike_5 : decode cX4_unlike 5 = .ok (.aload_n 0, 1) := by decide +kernel
theorem dX4_unlike_6 : decode cX4_unlike 6 = .ok (.getfield 9, 3) := by decide +kernel
theorem dX4_unlike_9 : decode cX4_unlike 9 = .ok (.arraylength, 1) := by decide +kernel
theorem dX4_unlike_10 : decode cX4_unlike 10 = .ok (.if_icmp .ge 54, 3) := by decide +kernel
theorem dX4_unlike_13 : decode cX4_unlike 13 = .ok (.iconst 0, 1) := by decide +kernel
theorem dX4_unlike_14 : decode cX4_unlike 14 = .ok (.istore 4, 2) := by decide +kernel
theorem dX4_unlike_16 : decode cX4_unlike 16 = .ok (.iload 4, 2) := by decide +kernel
theorem dX4_unlike_18 : decode cX4_unlike 18 = .ok (.aload_n 0, 1) := by decide +kernel
theorem dX4_unlike_19 : decode cX4_unlike 19 = .ok (.getfield 14, 3) := by decide +kernel
theorem dX4_unlike_22 : decode cX4_unlike 22 = .ok (.arraylength, 1) := by decide +kernel
theorem dX4_unlike_23 : decode cX4_unlike 23 = .ok (.if_icmp .ge 35, 3) := by decide +kernel
theorem dX4_unlike_26 : decode cX4_unlike 26 = .ok (.iload_n 2, 1) := by decide +kernel
theorem dX4_unlike_27 : decode cX4_unlike 27 = .ok (.aload_n 0, 1) := by decide +kernel
theorem dX4_unlike_28 : decode cX4_unlike 28 = .ok (.getfield 9, 3) := by decide +kernel
theorem dX4_unlike_31 : decode cX4_unlike 31 = .ok (.iload_n 3, 1) := by decide +kernel
theorem dX4_unlike_32 : decode cX4_unlike 32 = .ok (.aaload, 1) := by decide +kernel
theorem dX4_unlike_33 : decode cX4_unlike 33 = .ok (.iload 4, 2) := by decide +kernel
theorem dX4_unlike_35 : decode cX4_unlike 35 = .ok (.iaload, 1) := by decide +kernel
theorem dX4_unlike_36 : decode cX4_unlike 36 = .ok (.aload_n 1, 1) := by decide +kernel
theorem dX4_unlike_37 : decode cX4_unlike 37 = .ok (.iload_n 3, 1) := by decide +kernel
theorem dX4_unlike_38 : decode cX4_unlike 38 = .ok (.aaload, 1) := by decide +kernel
theorem dX4_unlike_39 : decode cX4_unlike 39 = .ok (.iload 4, 2) := by decide +kernel
theorem dX4_unlike_41 : decode cX4_unlike 41 = .ok (.iaload, 1) := by decide +kernel
theorem dX4_unlike_42 : decode cX4_unlike 42 = .ok (.if_icmp .ne 7, 3) := by decide +kernel
theorem dX4_unlike_45 : decode cX4_unlike 45 = .ok (.iconst 0, 1) := by decide +kernel
theorem dX4_unlike_46 : decode cX4_unlike 46 = .ok (.goto 4, 3) := by decide +kernel
theorem dX4_unlike_49 : decode cX4_unlike 49 = .ok (.iconst 1, 1) := by decide +kernel
theorem dX4_unlike_50 : decode cX4_unlike 50 = .ok (.iadd, 1) := by decide +kernel
theorem dX4_unlike_51 : decode cX4_unlike 51 = .ok (.istore_n 2, 1) := by decide +kernel
theorem dX4_unlike_52 : decode cX4_unlike 52 = .ok (.iinc 4 1, 3) := by decide +kernel
theorem dX4_unlike_55 : decode cX4_unlike 55 = .ok (.goto (-39), 3) := by decide +kernel
theorem dX4_unlike_58 : decode cX4_unlike 58 = .ok (.iinc 3 1, 3) := by decide +kernel
theorem dX4_unlike_61 : decode cX4_unlike 61 = .ok (.goto (-57), 3) := by decide +kernel
theorem dX4_unlike_64 : decode cX4_unlike 64 = .ok (.iload_n 2, 1) := by decide +kernel
theorem dX4_unlike_65 : decode cX4_unlike 65 = .ok (.ireturn, 1) := by decide +kernel
theorem dX4_pass_0 : decode cX4_pass 0 = .ok (.aload_n 0, 1) := by decide +kernel
theorem dX4_pass_1 : decode cX4_pass 1 = .ok (.getfield 9, 3) := by decide +kernel
theorem dX4_pass_4 : decode cX4_pass 4 = .ok (.astore_n 1, 1) := by decide +kernel
theorem dX4_pass_5 : decode cX4_pass 5 = .ok (.aload_n 1, 1) := by decide +kernel
theorem dX4_pass_6 : decode cX4_pass 6 = .ok (.arraylength, 1) := by decide +kernel
theorem dX4_pass_7 : decode cX4_pass 7 = .ok (.istore_n 2, 1) := by decide +kernel
theorem dX4_pass_8 : decode cX4_pass 8 = .ok (.iconst 0, 1) := by decide +kernel
theorem dX4_pass_9 : decode cX4_pass 9 = .ok (.istore_n 3, 1) := by decide +kernel
theorem dX4_pass_10 : decode cX4_pass 10 = .ok (.iload_n 3, 1) := by decide +kernel
theorem dX4_pass_11 : decode cX4_pass 11 = .ok (.iload_n 2, 1) := by decide +kernel
theorem dX4_pass_12 : decode cX4_pass 12 = .ok (.if_icmp .ge 70, 3) := by decide +kernel
theorem dX4_pass_15 : decode cX4_pass 15 = .ok (.aload_n 1, 1) := by decide +kernel
theorem dX4_pass_16 : decode cX4_pass 16 = .ok (.iload_n 3, 1) := by decide +kernel
theorem dX4_pass_17 : decode cX4_pass 17 = .ok (.aaload, 1) := by decide +kernel
theorem dX4_pass_18 : decode cX4_pass 18 = .ok (.astore 4, 2) := by decide +kernel
theorem dX4_pass_20 : decode cX4_pass 20 = .ok (.iconst 0, 1) := by decide +kernel
theorem dX4_pass_21 : decode cX4_pass 21 = .ok (.istore 5, 2) := by decide +kernel
theorem dX4_pass_23 : decode cX4_pass 23 = .ok (.iload 5, 2) := by decide +kernel
theorem dX4_pass_25 : decode cX4_pass 25 = .ok (.aload 4, 2) := by decide +kernel
theorem dX4_pass_27 : decode cX4_pass 27 = .ok (.arraylength, 1) := by decide +kernel
theorem dX4_pass_28 : decode cX4_pass 28 = .ok (.if_icmp .ge 48, 3) := by decide +kernel
theorem dX4_pass_31 : decode cX4_pass 31 = .ok (.aload 4, 2) := by decide +kernel
theorem dX4_pass_33 : decode cX4_pass 33 = .ok (.iload 5, 2) := by decide +kernel
theorem dX4_pass_35 : decode cX4_pass 35 = .ok (.iaload, 1) := by decide +kernel
theorem dX4_pass_36 : decode cX4_pass 36 = .ok (.ifCond .le 34, 3) := by decide +kernel
theorem dX4_pass_39 : decode cX4_pass 39 = .ok (.aload 4, 2) := by decide +kernel
theorem dX4_pass_41 : decode cX4_pass 41 = .ok (.iload 5, 2) := by decide +kernel
theorem dX4_pass_43 : decode cX4_pass 43 = .ok (.aload 4, 2) := by decide +kernel
theorem dX4_pass_45 : decode cX4_pass 45 = .ok (.iload 5, 2) := by decide +kernel
theorem dX4_pass_47 : decode cX4_pass 47 = .ok (.iaload, 1) := by decide +kernel
theorem dX4_pass_48 : decode cX4_pass 48 = .ok (.aload_n 0, 1) := by decide +kernel
theorem dX4_pass_49 : decode cX4_pass 49 = .ok (.getfield 18, 3) := by decide +kernel
theorem dX4_pass_52 : decode cX4_pass 52 = .ok (.if_icmp .le 16, 3) := by decide +kernel
theorem dX4_pass_55 : decode cX4_pass 55 = .ok (.aload 4, 2) := by decide +kernel
theorem dX4_pass_57 : decode cX4_pass 57 = .ok (.iload 5, 2) := by decide +kernel
theorem dX4_pass_59 : decode cX4_pass 59 = .ok (.iaload, 1) := by decide +kernel
theorem dX4_pass_60 : decode cX4_pass 60 = .ok (.aload_n 0, 1) := by decide +kernel
theorem dX4_pass_61 : decode cX4_pass 61 = .ok (.getfield 18, 3) := by decide +kernel
theorem dX4_pass_64 : decode cX4_pass 64 = .ok (.isub, 1) := by decide +kernel
theorem dX4_pass_65 : decode cX4_pass 65 = .ok (.goto 4, 3) := by decide +kernel
theorem dX4_pass_68 : decode cX4_pass 68 = .ok (.iconst 0, 1) := by decide +kernel
theorem dX4_pass_69 : decode cX4_pass 69 = .ok (.iastore, 1) := by decide +kernel
theorem dX4_pass_70 : decode cX4_pass 70 = .ok (.iinc 5 1, 3) := by decide +kernel
theorem dX4_pass_73 : decode cX4_pass 73 = .ok (.goto (-50), 3) := by decide +kernel
theorem dX4_pass_76 : decode cX4_pass 76 = .ok (.iinc 3 1, 3) := by decide +kernel
theorem dX4_pass_79 : decode cX4_pass 79 = .ok (.goto (-69), 3) := by decide +kernel
theorem dX4_pass_82 : decode cX4_pass 82 = .ok (.iconst 0, 1) := by decide +kernel
theorem dX4_pass_83 : decode cX4_pass 83 = .ok (.istore_n 1, 1) := by decide +kernel
theorem dX4_pass_84 : decode cX4_pass 84 = .ok (.aload_n 0, 1) := by decide +kernel
theorem dX4_pass_85 : decode cX4_pass 85 = .ok (.getfield 14, 3) := by decide +kernel
theorem dX4_pass_88 : decode cX4_pass 88 = .ok (.arraylength, 1) := by decide +kernel
theorem dX4_pass_89 : decode cX4_pass 89 = .ok (.istore_n 2, 1) := by decide +kernel
theorem dX4_pass_90 : decode cX4_pass 90 = .ok (.iconst 0, 1) := by decide +kernel
theorem dX4_pass_91 : decode cX4_pass 91 = .ok (.istore_n 3, 1) := by decide +kernel
theorem dX4_pass_92 : decode cX4_pass 92 = .ok (.iload_n 3, 1) := by decide +kernel
theorem dX4_pass_93 : decode cX4_pass 93 = .ok (.iload_n 2, 1) := by decide +kernel
theorem dX4_pass_94 : decode cX4_pass 94 = .ok (.aload_n 0, 1) := by decide +kernel
theorem dX4_pass_95 : decode cX4_pass 95 = .ok (.getfield 9, 3) := by decide +kernel
theorem dX4_pass_98 : decode cX4_pass 98 = .ok (.arraylength, 1) := by decide +kernel
theorem dX4_pass_99 : decode cX4_pass 99 = .ok (.imul, 1) := by decide +kernel
theorem dX4_pass_100 : decode cX4_pass 100 = .ok (.if_icmp .ge 100, 3) := by decide +kernel
theorem dX4_pass_103 : decode cX4_pass 103 = .ok (.aload_n 0, 1) := by decide +kernel
theorem dX4_pass_104 : decode cX4_pass 104 = .ok (.getfield 9, 3) := by decide +kernel
theorem dX4_pass_107 : decode cX4_pass 107 = .ok (.iload_n 3, 1) := by decide +kernel
theorem dX4_pass_108 : decode cX4_pass 108 = .ok (.iload_n 2, 1) := by decide +kernel
theorem dX4_pass_109 : decode cX4_pass 109 = .ok (.idiv, 1) := by decide +kernel
theorem dX4_pass_110 : decode cX4_pass 110 = .ok (.aaload, 1) := by decide +kernel
theorem dX4_pass_111 : decode cX4_pass 111 = .ok (.iload_n 3, 1) := by decide +kernel
theorem dX4_pass_112 : decode cX4_pass 112 = .ok (.iload_n 2, 1) := by decide +kernel
theorem dX4_pass_113 : decode cX4_pass 113 = .ok (.irem, 1) := by decide +kernel
theorem dX4_pass_114 : decode cX4_pass 114 = .ok (.iaload, 1) := by decide +kernel
theorem dX4_pass_115 : decode cX4_pass 115 = .ok (.aload_n 0, 1) := by decide +kernel
theorem dX4_pass_116 : decode cX4_pass 116 = .ok (.getfield 14, 3) := by decide +kernel
theorem dX4_pass_119 : decode cX4_pass 119 = .ok (.iload_n 3, 1) := by decide +kernel
theorem dX4_pass_120 : decode cX4_pass 120 = .ok (.iload_n 2, 1) := by decide +kernel
theorem dX4_pass_121 : decode cX4_pass 121 = .ok (.irem, 1) := by decide +kernel
theorem dX4_pass_122 : decode cX4_pass 122 = .ok (.iaload, 1) := by decide +kernel
theorem dX4_pass_123 : decode cX4_pass 123 = .ok (.isub, 1) := by decide +kernel
theorem dX4_pass_124 : decode cX4_pass 124 = .ok (.istore 4, 2) := by decide +kernel
theorem dX4_pass_126 : decode cX4_pass 126 = .ok (.iload 4, 2) := by decide +kernel
theorem dX4_pass_128 : decode cX4_pass 128 = .ok (.ifCond .gt 6, 3) := by decide +kernel
theorem dX4_pass_131 : decode cX4_pass 131 = .ok (.goto 63, 3) := by decide +kernel
theorem dX4_pass_134 : decode cX4_pass 134 = .ok (.aload_n 0, 1) := by decide +kernel
theorem dX4_pass_135 : decode cX4_pass 135 = .ok (.getfield 9, 3) := by decide +kernel
theorem dX4_pass_138 : decode cX4_pass 138 = .ok (.iload_n 3, 1) := by decide +kernel
theorem dX4_pass_139 : decode cX4_pass 139 = .ok (.iload_n 2, 1) := by decide +kernel
theorem dX4_pass_140 : decode cX4_pass 140 = .ok (.idiv, 1) := by decide +kernel
theorem dX4_pass_141 : decode cX4_pass 141 = .ok (.aaload, 1) := by decide +kernel
theorem dX4_pass_142 : decode cX4_pass 142 = .ok (.iload_n 3, 1) := by decide +kernel
theorem dX4_pass_143 : decode cX4_pass 143 = .ok (.iload_n 2, 1) := by decide +kernel
theorem dX4_pass_144 : decode cX4_pass 144 = .ok (.irem, 1) := by decide +kernel
theorem dX4_pass_145 : decode cX4_pass 145 = .ok (.aload_n 0, 1) := by decide +kernel
theorem dX4_pass_146 : decode cX4_pass 146 = .ok (.getfield 14, 3) := by decide +kernel
theorem dX4_pass_149 : decode cX4_pass 149 = .ok (.iload_n 3, 1) := by decide +kernel
theorem dX4_pass_150 : decode cX4_pass 150 = .ok (.iload_n 2, 1) := by decide +kernel
theorem dX4_pass_151 : decode cX4_pass 151 = .ok (.irem, 1) := by decide +kernel
theorem dX4_pass_152 : decode cX4_pass 152 = .ok (.iaload, 1) := by decide +kernel
theorem dX4_pass_153 : decode cX4_pass 153 = .ok (.iastore, 1) := by decide +kernel
theorem dX4_pass_154 : decode cX4_pass 154 = .ok (.iload_n 3, 1) := by decide +kernel
theorem dX4_pass_155 : decode cX4_pass 155 = .ok (.iconst 1, 1) := by decide +kernel
theorem dX4_pass_156 : decode cX4_pass 156 = .ok (.iadd, 1) := by decide +kernel
theorem dX4_pass_157 : decode cX4_pass 157 = .ok (.iload_n 2, 1) := by decide +kernel
theorem dX4_pass_158 : decode cX4_pass 158 = .ok (.aload_n 0, 1) := by decide +kernel
theorem dX4_pass_159 : decode cX4_pass 159 = .ok (.getfield 9, 3) := by decide +kernel
theorem dX4_pass_162 : decode cX4_pass 162 = .ok (.arraylength, 1) := by decide +kernel
theorem dX4_pass_163 : decode cX4_pass 163 = .ok (.imul, 1) := by decide +kernel
theorem dX4_pass_164 : decode cX4_pass 164 = .ok (.if_icmp .ne 9, 3) := by decide +kernel
theorem dX4_pass_167 : decode cX4_pass 167 = .ok (.iload 4, 2) := by decide +kernel
theorem dX4_pass_169 : decode cX4_pass 169 = .ok (.istore_n 1, 1) := by decide +kernel
theorem dX4_pass_170 : decode cX4_pass 170 = .ok (.goto 24, 3) := by decide +kernel
theorem dX4_pass_173 : decode cX4_pass 173 = .ok (.aload_n 0, 1) := by decide +kernel
theorem dX4_pass_174 : decode cX4_pass 174 = .ok (.getfield 9, 3) := by decide +kernel
theorem dX4_pass_177 : decode cX4_pass 177 = .ok (.iload_n 3, 1) := by decide +kernel
theorem dX4_pass_178 : decode cX4_pass 178 = .ok (.iconst 1, 1) := by decide +kernel
theorem dX4_pass_179 : decode cX4_pass 179 = .ok (.iadd, 1) := by decide +kernel
theorem dX4_pass_180 : decode cX4_pass 180 = .ok (.iload_n 2, 1) := by decide +kernel
theorem dX4_pass_181 : decode cX4_pass 181 = .ok (.idiv, 1) := by decide +kernel
theorem dX4_pass_182 : decode cX4_pass 182 = .ok (.aaload, 1) := by decide +kernel
theorem dX4_pass_183 : decode cX4_pass 183 = .ok (.iload_n 3, 1) := by decide +kernel
theorem dX4_pass_184 : decode cX4_pass 184 = .ok (.iconst 1, 1) := by decide +kernel
theorem dX4_pass_185 : decode cX4_pass 185 = .ok (.iadd, 1) := by decide +kernel
theorem dX4_pass_186 : decode cX4_pass 186 = .ok (.iload_n 2, 1) := by decide +kernel
theorem dX4_pass_187 : decode cX4_pass 187 = .ok (.irem, 1) := by decide +kernel
theorem dX4_pass_188 : decode cX4_pass 188 = .ok (.dup2, 1) := by decide +kernel
theorem dX4_pass_189 : decode cX4_pass 189 = .ok (.iaload, 1) := by decide +kernel
theorem dX4_pass_190 : decode cX4_pass 190 = .ok (.iload 4, 2) := by decide +kernel
theorem dX4_pass_192 : decode cX4_pass 192 = .ok (.iadd, 1) := by decide +kernel
theorem dX4_pass_193 : decode cX4_pass 193 = .ok (.iastore, 1) := by decide +kernel
theorem dX4_pass_194 : decode cX4_pass 194 = .ok (.iinc 3 1, 3) := by decide +kernel
theorem dX4_pass_197 : decode cX4_pass 197 = .ok (.goto (-105), 3) := by decide +kernel
theorem dX4_pass_200 : decode cX4_pass 200 = .ok (.aload_n 0, 1) := by decide +kernel
theorem dX4_pass_201 : decode cX4_pass 201 = .ok (.dup, 1) := by decide +kernel
theorem dX4_pass_202 : decode cX4_pass 202 = .ok (.getfield 43, 3) := by decide +kernel
theorem dX4_pass_205 : decode cX4_pass 205 = .ok (.iconst 1, 1) := by decide +kernel
theorem dX4_pass_206 : decode cX4_pass 206 = .ok (.iadd, 1) := by decide +kernel
theorem dX4_pass_207 : decode cX4_pass 207 = .ok (.putfield 43, 3) := by decide +kernel
theorem dX4_pass_210 : decode cX4_pass 210 = .ok (.aload_n 0, 1) := by decide +kernel
theorem dX4_pass_211 : decode cX4_pass 211 = .ok (.dup, 1) := by decide +kernel
theorem dX4_pass_212 : decode cX4_pass 212 = .ok (.getfield 46, 3) := by decide +kernel
theorem dX4_pass_215 : decode cX4_pass 215 = .ok (.iload_n 1, 1) := by decide +kernel
theorem dX4_pass_216 : decode cX4_pass 216 = .ok (.i2l, 1) := by decide +kernel
theorem dX4_pass_217 : decode cX4_pass 217 = .ok (.ladd, 1) := by decide +kernel
theorem dX4_pass_218 : decode cX4_pass 218 = .ok (.putfield 46, 3) := by decide +kernel
theorem dX4_pass_221 : decode cX4_pass 221 = .ok (.iload_n 1, 1) := by decide +kernel
theorem dX4_pass_222 : decode cX4_pass 222 = .ok (.ireturn, 1) := by decide +kernel
theorem dX4_pass__0 : decode cX4_pass_ 0 = .ok (.iconst 0, 1) := by decide +kernel
theorem dX4_pass__1 : decode cX4_pass_ 1 = .ok (.istore_n 2, 1) := by decide +kernel
theorem dX4_pass__2 : decode cX4_pass_ 2 = .ok (.iconst 0, 1) := by decide +kernel
theorem dX4_pass__3 : decode cX4_pass_ 3 = .ok (.istore_n 3, 1) := by decide +kernel
theorem dX4_pass__4 : decode cX4_pass_ 4 = .ok (.iload_n 3, 1) := by decide +kernel
theorem dX4_pass__5 : decode cX4_pass_ 5 = .ok (.iload_n 1, 1) := by decide +kernel
theorem dX4_pass__6 : decode cX4_pass_ 6 = .ok (.if_icmp .ge 16, 3) := by decide +kernel
theorem dX4_pass__9 : decode cX4_pass_ 9 = .ok (.iload_n 2, 1) := by decide +kernel
theorem dX4_pass__10 : decode cX4_pass_ 10 = .ok (.aload_n 0, 1) := by decide +kernel
theorem dX4_pass__11 : decode cX4_pass_ 11 = .ok (.invokevirtual 50, 3) := by decide +kernel
theorem dX4_pass__14 : decode cX4_pass_ 14 = .ok (.iadd, 1) := by decide +kernel
theorem dX4_pass__15 : decode cX4_pass_ 15 = .ok (.istore_n 2, 1) := by decide +kernel
theorem dX4_pass__16 : decode cX4_pass_ 16 = .ok (.iinc 3 1, 3) := by decide +kernel
theorem dX4_pass__19 : decode cX4_pass_ 19 = .ok (.goto (-15), 3) := by decide +kernel
theorem dX4_pass__22 : decode cX4_pass_ 22 = .ok (.iload_n 2, 1) := by decide +kernel
theorem dX4_pass__23 : decode cX4_pass_ 23 = .ok (.ireturn, 1) := by decide +kernel
theorem dX4_sum_0 : decode cX4_sum 0 = .ok (.lconst 0, 1) := by decide +kernel
theorem dX4_sum_1 : decode cX4_sum 1 = .ok (.lstore 5, 2) := by decide +kernel
theorem dX4_sum_3 : decode cX4_sum 3 = .ok (.iload_n 3, 1) := by decide +kernel
theorem dX4_sum_4 : decode cX4_sum 4 = .ok (.istore 7, 2) := by decide +kernel
theorem dX4_sum_6 : decode cX4_sum 6 = .ok (.iload 7, 2) := by decide +kernel
theorem dX4_sum_8 : decode cX4_sum 8 = .ok (.iload_n 1, 1) := by decide +kernel
theorem dX4_sum_9 : decode cX4_sum 9 = .ok (.if_icmp .lt 41, 3) := by decide +kernel
theorem dX4_sum_12 : decode cX4_sum 12 = .ok (.iload 4, 2) := by decide +kernel
theorem dX4_sum_14 : decode cX4_sum 14 = .ok (.istore 8, 2) := by decide +kernel
theorem dX4_sum_16 : decode cX4_sum 16 = .ok (.iload 8, 2) := by decide +kernel
theorem dX4_sum_18 : decode cX4_sum 18 = .ok (.iload_n 2, 1) := by decide +kernel
theorem dX4_sum_19 : decode cX4_sum 19 = .ok (.if_icmp .lt 25, 3) := by decide +kernel
theorem dX4_sum_22 : decode cX4_sum 22 = .ok (.lload 5, 2) := by decide +kernel
theorem dX4_sum_24 : decode cX4_sum 24 = .ok (.aload_n 0, 1) := by decide +kernel
theorem dX4_sum_25 : decode cX4_sum 25 = .ok (.getfield 9, 3) := by decide +kernel
theorem dX4_sum_28 : decode cX4_sum 28 = .ok (.iload 7, 2) := by decide +kernel
theorem dX4_sum_30 : decode cX4_sum 30 = .ok (.aaload, 1) := by decide +kernel
theorem dX4_sum_31 : decode cX4_sum 31 = .ok (.iload 8, 2) := by decide +kernel
theorem dX4_sum_33 : decode cX4_sum 33 = .ok (.iaload, 1) := by decide +kernel
theorem dX4_sum_34 : decode cX4_sum 34 = .ok (.i2l, 1) := by decide +kernel
theorem dX4_sum_35 : decode cX4_sum 35 = .ok (.ladd, 1) := by decide +kernel
theorem dX4_sum_36 : decode cX4_sum 36 = .ok (.lstore 5, 2) := by decide +kernel
theorem dX4_sum_38 : decode cX4_sum 38 = .ok (.iinc 8 (-1), 3) := by decide +kernel
theorem dX4_sum_41 : decode cX4_sum 41 = .ok (.goto (-25), 3) := by decide +kernel
theorem dX4_sum_44 : decode cX4_sum 44 = .ok (.iinc 7 (-1), 3) := by decide +kernel
theorem dX4_sum_47 : decode cX4_sum 47 = .ok (.goto (-41), 3) := by decide +kernel
theorem dX4_sum_50 : decode cX4_sum 50 = .ok (.lload 5, 2) := by decide +kernel
theorem dX4_sum_52 : decode cX4_sum 52 = .ok (.lreturn, 1) := by decide +kernel
theorem dX4_pairs_0 : decode cX4_pairs 0 = .ok (.iconst 0, 1) := by decide +kernel
theorem dX4_pairs_1 : decode cX4_pairs 1 = .ok (.istore_n 1, 1) := by decide +kernel
theorem dX4_pairs_2 : decode cX4_pairs 2 = .ok (.aload_n 0, 1) := by decide +kernel
theorem dX4_pairs_3 : decode cX4_pairs 3 = .ok (.getfield 14, 3) := by decide +kernel
theorem dX4_pairs_6 : decode cX4_pairs 6 = .ok (.arraylength, 1) := by decide +kernel
theorem dX4_pairs_7 : decode cX4_pairs 7 = .ok (.istore_n 2, 1) := by decide +kernel
theorem dX4_pairs_8 : decode cX4_pairs 8 = .ok (.iconst 0, 1) := by decide +kernel
theorem dX4_pairs_9 : decode cX4_pairs 9 = .ok (.istore_n 3, 1) := by decide +kernel
theorem dX4_pairs_10 : decode cX4_pairs 10 = .ok (.iload_n 3, 1) := by decide +kernel
theorem dX4_pairs_11 : decode cX4_pairs 11 = .ok (.iload_n 2, 1) := by decide +kernel
theorem dX4_pairs_12 : decode cX4_pairs 12 = .ok (.aload_n 0, 1) := by decide +kernel
theorem dX4_pairs_13 : decode cX4_pairs 13 = .ok (.getfield 9, 3) := by decide +kernel
theorem dX4_pairs_16 : decode cX4_pairs 16 = .ok (.arraylength, 1) := by decide +kernel
theorem dX4_pairs_17 : decode cX4_pairs 17 = .ok (.imul, 1) := by decide +kernel
theorem dX4_pairs_18 : decode cX4_pairs 18 = .ok (.if_icmp .ge 69, 3) := by decide +kernel
theorem dX4_pairs_21 : decode cX4_pairs 21 = .ok (.iload_n 3, 1) := by decide +kernel
theorem dX4_pairs_22 : decode cX4_pairs 22 = .ok (.iconst 1, 1) := by decide +kernel
theorem dX4_pairs_23 : decode cX4_pairs 23 = .ok (.iadd, 1) := by decide +kernel
theorem dX4_pairs_24 : decode cX4_pairs 24 = .ok (.istore 4, 2) := by decide +kernel
theorem dX4_pairs_26 : decode cX4_pairs 26 = .ok (.iload 4, 2) := by decide +kernel
theorem dX4_pairs_28 : decode cX4_pairs 28 = .ok (.iload_n 2, 1) := by decide +kernel
theorem dX4_pairs_29 : decode cX4_pairs 29 = .ok (.aload_n 0, 1) := by decide +kernel
theorem dX4_pairs_30 : decode cX4_pairs 30 = .ok (.getfield 9, 3) := by decide +kernel
theorem dX4_pairs_33 : decode cX4_pairs 33 = .ok (.arraylength, 1) := by decide +kernel
theorem dX4_pairs_34 : decode cX4_pairs 34 = .ok (.imul, 1) := by decide +kernel
theorem dX4_pairs_35 : decode cX4_pairs 35 = .ok (.if_icmp .ge 46, 3) := by decide +kernel
theorem dX4_pairs_38 : decode cX4_pairs 38 = .ok (.iload_n 1, 1) := by decide +kernel
theorem dX4_pairs_39 : decode cX4_pairs 39 = .ok (.aload_n 0, 1) := by decide +kernel
theorem dX4_pairs_40 : decode cX4_pairs 40 = .ok (.getfield 9, 3) := by decide +kernel
theorem dX4_pairs_43 : decode cX4_pairs 43 = .ok (.iload_n 3, 1) := by decide +kernel
theorem dX4_pairs_44 : decode cX4_pairs 44 = .ok (.iload_n 2, 1) := by decide +kernel
theorem dX4_pairs_45 : decode cX4_pairs 45 = .ok (.idiv, 1) := by decide +kernel
theorem dX4_pairs_46 : decode cX4_pairs 46 = .ok (.aaload, 1) := by decide +kernel
theorem dX4_pairs_47 : decode cX4_pairs 47 = .ok (.iload_n 3, 1) := by decide +kernel
theorem dX4_pairs_48 : decode cX4_pairs 48 = .ok (.iload_n 2, 1) := by decide +kernel
theorem dX4_pairs_49 : decode cX4_pairs 49 = .ok (.irem, 1) := by decide +kernel
theorem dX4_pairs_50 : decode cX4_pairs 50 = .ok (.iaload, 1) := by decide +kernel
theorem dX4_pairs_51 : decode cX4_pairs 51 = .ok (.aload_n 0, 1) := by decide +kernel
theorem dX4_pairs_52 : decode cX4_pairs 52 = .ok (.getfield 9, 3) := by decide +kernel
theorem dX4_pairs_55 : decode cX4_pairs 55 = .ok (.iload 4, 2) := by decide +kernel
theorem dX4_pairs_57 : decode cX4_pairs 57 = .ok (.iload_n 2, 1) := by decide +kernel
theorem dX4_pairs_58 : decode cX4_pairs 58 = .ok (.idiv, 1) := by decide +kernel
theorem dX4_pairs_59 : decode cX4_pairs 59 = .ok (.aaload, 1) := by decide +kernel
theorem dX4_pairs_60 : decode cX4_pairs 60 = .ok (.iload 4, 2) := by decide +kernel
theorem dX4_pairs_62 : decode cX4_pairs 62 = .ok (.iload_n 2, 1) := by decide +kernel
theorem dX4_pairs_63 : decode cX4_pairs 63 = .ok (.irem, 1) := by decide +kernel
theorem dX4_pairs_64 : decode cX4_pairs 64 = .ok (.iaload, 1) := by decide +kernel
theorem dX4_pairs_65 : decode cX4_pairs 65 = .ok (.if_icmp .le 7, 3) := by decide +kernel
theorem dX4_pairs_68 : decode cX4_pairs 68 = .ok (.iconst 1, 1) := by decide +kernel
theorem dX4_pairs_69 : decode cX4_pairs 69 = .ok (.goto 4, 3) := by decide +kernel
theorem dX4_pairs_72 : decode cX4_pairs 72 = .ok (.iconst 0, 1) := by decide +kernel
theorem dX4_pairs_73 : decode cX4_pairs 73 = .ok (.iadd, 1) := by decide +kernel
theorem dX4_pairs_74 : decode cX4_pairs 74 = .ok (.istore_n 1, 1) := by decide +kernel
theorem dX4_pairs_75 : decode cX4_pairs 75 = .ok (.iinc 4 1, 3) := by decide +kernel
theorem dX4_pairs_78 : decode cX4_pairs 78 = .ok (.goto (-52), 3) := by decide +kernel
theorem dX4_pairs_81 : decode cX4_pairs 81 = .ok (.iinc 3 1, 3) := by decide +kernel
theorem dX4_pairs_84 : decode cX4_pairs 84 = .ok (.goto (-74), 3) := by decide +kernel
theorem dX4_pairs_87 : decode cX4_pairs 87 = .ok (.iload_n 1, 1) := by decide +kernel
theorem dX4_pairs_88 : decode cX4_pairs 88 = .ok (.ireturn, 1) := by decide +kernel
theorem dX4_swap_0 : decode cX4_swap 0 = .ok (.aload_n 0, 1) := by decide +kernel
theorem dX4_swap_1 : decode cX4_swap 1 = .ok (.getfield 9, 3) := by decide +kernel
theorem dX4_swap_4 : decode cX4_swap 4 = .ok (.iload_n 1, 1) := by decide +kernel
theorem dX4_swap_5 : decode cX4_swap 5 = .ok (.aaload, 1) := by decide +kernel
theorem dX4_swap_6 : decode cX4_swap 6 = .ok (.astore_n 3, 1) := by decide +kernel
theorem dX4_swap_7 : decode cX4_swap 7 = .ok (.aload_n 0, 1) := by decide +kernel
theorem dX4_swap_8 : decode cX4_swap 8 = .ok (.getfield 9, 3) := by decide +kernel
theorem dX4_swap_11 : decode cX4_swap 11 = .ok (.iload_n 1, 1) := by decide +kernel
theorem dX4_swap_12 : decode cX4_swap 12 = .ok (.aload_n 0, 1) := by decide +kernel
theorem dX4_swap_13 : decode cX4_swap 13 = .ok (.getfield 9, 3) := by decide +kernel
theorem dX4_swap_16 : decode cX4_swap 16 = .ok (.iload_n 2, 1) := by decide +kernel
theorem dX4_swap_17 : decode cX4_swap 17 = .ok (.aaload, 1) := by decide +kernel
theorem dX4_swap_18 : decode cX4_swap 18 = .ok (.aastore, 1) := by decide +kernel
theorem dX4_swap_19 : decode cX4_swap 19 = .ok (.aload_n 0, 1) := by decide +kernel
theorem dX4_swap_20 : decode cX4_swap 20 = .ok (.getfield 9, 3) := by decide +kernel
theorem dX4_swap_23 : decode cX4_swap 23 = .ok (.iload_n 2, 1) := by decide +kernel
theorem dX4_swap_24 : decode cX4_swap 24 = .ok (.aload_n 3, 1) := by decide +kernel
theorem dX4_swap_25 : decode cX4_swap 25 = .ok (.aastore, 1) := by decide +kernel
theorem dX4_swap_26 : decode cX4_swap 26 = .ok (.return_, 1) := by decide +kernel
theorem dX4_isSame_0 : decode cX4_isSame 0 = .ok (.iconst 0, 1) := by decide +kernel
theorem dX4_isSame_1 : decode cX4_isSame 1 = .ok (.istore_n 2, 1) := by decide +kernel
theorem dX4_isSame_2 : decode cX4_isSame 2 = .ok (.aload_n 0, 1) := by decide +kernel
theorem dX4_isSame_3 : decode cX4_isSame 3 = .ok (.getfield 14, 3) := by decide +kernel
theorem dX4_isSame_6 : decode cX4_isSame 6 = .ok (.arraylength, 1) := by decide +kernel
theorem dX4_isSame_7 : decode cX4_isSame 7 = .ok (.istore_n 3, 1) := by decide +kernel
theorem dX4_isSame_8 : decode cX4_isSame 8 = .ok (.iconst 0, 1) := by decide +kernel
theorem dX4_isSame_9 : decode cX4_isSame 9 = .ok (.istore 4, 2) := by decide +kernel
theorem dX4_isSame_11 : decode cX4_isSame 11 = .ok (.iload 4, 2) := by decide +kernel
theorem dX4_isSame_13 : decode cX4_isSame 13 = .ok (.aload_n 0, 1) := by decide +kernel
theorem dX4_isSame_14 : decode cX4_isSame 14 = .ok (.getfield 9, 3) := by decide +kernel
theorem dX4_isSame_17 : decode cX4_isSame 17 = .ok (.arraylength, 1) := by decide +kernel
theorem dX4_isSame_18 : decode cX4_isSame 18 = .ok (.if_icmp .ge 92, 3) := by decide +kernel
theorem dX4_isSame_21 : decode cX4_isSame 21 = .ok (.iconst 0, 1) := by decide +kernel
theorem dX4_isSame_22 : decode cX4_isSame 22 = .ok (.istore 5, 2) := by decide +kernel
theorem dX4_isSame_24 : decode cX4_isSame 24 = .ok (.iload 5, 2) := by decide +kernel
theorem dX4_isSame_26 : decode cX4_isSame 26 = .ok (.iload_n 3, 1) := by decide +kernel
theorem dX4_isSame_27 : decode cX4_isSame 27 = .ok (.if_icmp .ge 53, 3) := by decide +kernel
theorem dX4_isSame_30 : decode cX4_isSame 30 = .ok (.iload_n 2, 1) := by decide +kernel
theorem dX4_isSame_31 : decode cX4_isSame 31 = .ok (.aload_n 0, 1) := by decide +kernel
theorem dX4_isSame_32 : decode cX4_isSame 32 = .ok (.getfield 9, 3) := by decide +kernel
theorem dX4_isSame_35 : decode cX4_isSame 35 = .ok (.iload 4, 2) := by decide +kernel
theorem dX4_isSame_37 : decode cX4_isSame 37 = .ok (.aaload, 1) := by decide +kernel
theorem dX4_isSame_38 : decode cX4_isSame 38 = .ok (.iload 5, 2) := by decide +kernel
theorem dX4_isSame_40 : decode cX4_isSame 40 = .ok (.iaload, 1) := by decide +kernel
theorem dX4_isSame_41 : decode cX4_isSame 41 = .ok (.ifCond .le 7, 3) := by decide +kernel
theorem dX4_isSame_44 : decode cX4_isSame 44 = .ok (.iconst 0, 1) := by decide +kernel
theorem dX4_isSame_45 : decode cX4_isSame 45 = .ok (.goto 4, 3) := by decide +kernel
theorem dX4_isSame_48 : decode cX4_isSame 48 = .ok (.iconst 1, 1) := by decide +kernel
theorem dX4_isSame_49 : decode cX4_isSame 49 = .ok (.iadd, 1) := by decide +kernel
theorem dX4_isSame_50 : decode cX4_isSame 50 = .ok (.istore_n 2, 1) := by decide +kernel
theorem dX4_isSame_51 : decode cX4_isSame 51 = .ok (.aload_n 1, 1) := by decide +kernel
theorem dX4_isSame_52 : decode cX4_isSame 52 = .ok (.iload 4, 2) := by decide +kernel
theorem dX4_isSame_54 : decode cX4_isSame 54 = .ok (.iload 5, 2) := by decide +kernel
theorem dX4_isSame_56 : decode cX4_isSame 56 = .ok (.invokevirtual 54, 3) := by decide +kernel
theorem dX4_isSame_59 : decode cX4_isSame 59 = .ok (.aload_n 0, 1) := by decide +kernel
theorem dX4_isSame_60 : decode cX4_isSame 60 = .ok (.getfield 9, 3) := by decide +kernel
theorem dX4_isSame_63 : decode cX4_isSame 63 = .ok (.iload 4, 2) := by decide +kernel
theorem dX4_isSame_65 : decode cX4_isSame 65 = .ok (.aaload, 1) := by decide +kernel
theorem dX4_isSame_66 : decode cX4_isSame 66 = .ok (.iload 5, 2) := by decide +kernel
theorem dX4_isSame_68 : decode cX4_isSame 68 = .ok (.iaload, 1) := by decide +kernel
theorem dX4_isSame_69 : decode cX4_isSame 69 = .ok (.if_icmp .eq 5, 3) := by decide +kernel
theorem dX4_isSame_72 : decode cX4_isSame 72 = .ok (.iconst 0, 1) := by decide +kernel
theorem dX4_isSame_73 : decode cX4_isSame 73 = .ok (.ireturn, 1) := by decide +kernel
theorem dX4_isSame_74 : decode cX4_isSame 74 = .ok (.iinc 5 1, 3) := by decide +kernel
theorem dX4_isSame_77 : decode cX4_isSame 77 = .ok (.goto (-53), 3) := by decide +kernel
theorem dX4_isSame_80 : decode cX4_isSame 80 = .ok (.aload_n 1, 1) := by decide +kernel
theorem dX4_isSame_81 : decode cX4_isSame 81 = .ok (.iload 4, 2) := by decide +kernel
theorem dX4_isSame_83 : decode cX4_isSame 83 = .ok (.invokevirtual 60, 3) := by decide +kernel
theorem dX4_isSame_86 : decode cX4_isSame 86 = .ok (.aload_n 0, 1) := by decide +kernel
theorem dX4_isSame_87 : decode cX4_isSame 87 = .ok (.iload 4, 2) := by decide +kernel
theorem dX4_isSame_89 : decode cX4_isSame 89 = .ok (.iconst 0, 1) := by decide +kernel
theorem dX4_isSame_90 : decode cX4_isSame 90 = .ok (.iload 4, 2) := by decide +kernel
theorem dX4_isSame_92 : decode cX4_isSame 92 = .ok (.iload_n 3, 1) := by decide +kernel
theorem dX4_isSame_93 : decode cX4_isSame 93 = .ok (.iconst 1, 1) := by decide +kernel
theorem dX4_isSame_94 : decode cX4_isSame 94 = .ok (.isub, 1) := by decide +kernel
theorem dX4_isSame_95 : decode cX4_isSame 95 = .ok (.invokevirtual 64, 3) := by decide +kernel
theorem dX4_isSame_98 : decode cX4_isSame 98 = .ok (.lcmp, 1) := by decide +kernel
theorem dX4_isSame_99 : decode cX4_isSame 99 = .ok (.ifCond .eq 5, 3) := by decide +kernel
theorem dX4_isSame_102 : decode cX4_isSame 102 = .ok (.iconst 0, 1) := by decide +kernel
theorem dX4_isSame_103 : decode cX4_isSame 103 = .ok (.ireturn, 1) := by decide +kernel
theorem dX4_isSame_104 : decode cX4_isSame 104 = .ok (.iinc 4 1, 3) := by decide +kernel
theorem dX4_isSame_107 : decode cX4_isSame 107 = .ok (.goto (-96), 3) := by decide +kernel
theorem dX4_isSame_110 : decode cX4_isSame 110 = .ok (.iconst 0, 1) := by decide +kernel
theorem dX4_isSame_111 : decode cX4_isSame 111 = .ok (.istore 4, 2) := by decide +kernel
theorem dX4_isSame_113 : decode cX4_isSame 113 = .ok (.iload 4, 2) := by decide +kernel
theorem dX4_isSame_115 : decode cX4_isSame 115 = .ok (.iload_n 3, 1) := by decide +kernel
theorem dX4_isSame_116 : decode cX4_isSame 116 = .ok (.if_icmp .ge 53, 3) := by decide +kernel
theorem dX4_isSame_119 : decode cX4_isSame 119 = .ok (.aload_n 1, 1) := by decide +kernel
theorem dX4_isSame_120 : decode cX4_isSame 120 = .ok (.iload 4, 2) := by decide +kernel
theorem dX4_isSame_122 : decode cX4_isSame 122 = .ok (.invokevirtual 68, 3) := by decide +kernel
theorem dX4_isSame_125 : decode cX4_isSame 125 = .ok (.aload_n 0, 1) := by decide +kernel
theorem dX4_isSame_126 : decode cX4_isSame 126 = .ok (.getfield 14, 3) := by decide +kernel
theorem dX4_isSame_129 : decode cX4_isSame 129 = .ok (.iload 4, 2) := by decide +kernel
theorem dX4_isSame_131 : decode cX4_isSame 131 = .ok (.iaload, 1) := by decide +kernel
theorem dX4_isSame_132 : decode cX4_isSame 132 = .ok (.if_icmp .ne 29, 3) := by decide +kernel
theorem dX4_isSame_135 : decode cX4_isSame 135 = .ok (.aload_n 1, 1) := by decide +kernel
theorem dX4_isSame_136 : decode cX4_isSame 136 = .ok (.iload 4, 2) := by decide +kernel
theorem dX4_isSame_138 : decode cX4_isSame 138 = .ok (.invokevirtual 72, 3) := by decide +kernel
theorem dX4_isSame_141 : decode cX4_isSame 141 = .ok (.aload_n 0, 1) := by decide +kernel
theorem dX4_isSame_142 : decode cX4_isSame 142 = .ok (.iconst 0, 1) := by decide +kernel
theorem dX4_isSame_143 : decode cX4_isSame 143 = .ok (.iload 4, 2) := by decide +kernel
theorem dX4_isSame_145 : decode cX4_isSame 145 = .ok (.aload_n 0, 1) := by decide +kernel
theorem dX4_isSame_146 : decode cX4_isSame 146 = .ok (.getfield 9, 3) := by decide +kernel
theorem dX4_isSame_149 : decode cX4_isSame 149 = .ok (.arraylength, 1) := by decide +kernel
theorem dX4_isSame_150 : decode cX4_isSame 150 = .ok (.iconst 1, 1) := by decide +kernel
theorem dX4_isSame_151 : decode cX4_isSame 151 = .ok (.isub, 1) := by decide +kernel
theorem dX4_isSame_152 : decode cX4_isSame 152 = .ok (.iload 4, 2) := by decide +kernel
theorem dX4_isSame_154 : decode cX4_isSame 154 = .ok (.invokevirtual 64, 3) := by decide +kernel
theorem dX4_isSame_157 : decode cX4_isSame 157 = .ok (.lcmp, 1) := by decide +kernel
theorem dX4_isSame_158 : decode cX4_isSame 158 = .ok (.ifCond .eq 5, 3) := by decide +kernel
theorem dX4_isSame_161 : decode cX4_isSame 161 = .ok (.iconst 0, 1) := by decide +kernel
theorem dX4_isSame_162 : decode cX4_isSame 162 = .ok (.ireturn, 1) := by decide +kernel
theorem dX4_isSame_163 : decode cX4_isSame 163 = .ok (.iinc 4 1, 3) := by decide +kernel
theorem dX4_isSame_166 : decode cX4_isSame 166 = .ok (.goto (-53), 3) := by decide +kernel
theorem dX4_isSame_169 : decode cX4_isSame 169 = .ok (.iconst 0, 1) := by decide +kernel
theorem dX4_isSame_170 : decode cX4_isSame 170 = .ok (.istore 4, 2) := by decide +kernel
theorem dX4_isSame_172 : decode cX4_isSame 172 = .ok (.iload 4, 2) := by decide +kernel
theorem dX4_isSame_174 : decode cX4_isSame 174 = .ok (.aload_n 0, 1) := by decide +kernel
theorem dX4_isSame_175 : decode cX4_isSame 175 = .ok (.getfield 26, 3) := by decide +kernel
theorem dX4_isSame_178 : decode cX4_isSame 178 = .ok (.arraylength, 1) := by decide +kernel
theorem dX4_isSame_179 : decode cX4_isSame 179 = .ok (.if_icmp .ge 31, 3) := by decide +kernel
theorem dX4_isSame_182 : decode cX4_isSame 182 = .ok (.aload_n 1, 1) := by decide +kernel
theorem dX4_isSame_183 : decode cX4_isSame 183 = .ok (.iload 4, 2) := by decide +kernel
theorem dX4_isSame_185 : decode cX4_isSame 185 = .ok (.invokevirtual 75, 3) := by decide +kernel
theorem dX4_isSame_188 : decode cX4_isSame 188 = .ok (.aload_n 0, 1) := by decide +kernel
theorem dX4_isSame_189 : decode cX4_isSame 189 = .ok (.aload_n 0, 1) := by decide +kernel
theorem dX4_isSame_190 : decode cX4_isSame 190 = .ok (.getfield 26, 3) := by decide +kernel
theorem dX4_isSame_193 : decode cX4_isSame 193 = .ok (.iload 4, 2) := by decide +kernel
theorem dX4_isSame_195 : decode cX4_isSame 195 = .ok (.aaload, 1) := by decide +kernel
theorem dX4_isSame_196 : decode cX4_isSame 196 = .ok (.invokevirtual 78, 3) := by decide +kernel
theorem dX4_isSame_199 : decode cX4_isSame 199 = .ok (.if_icmp .eq 5, 3) := by decide +kernel
theorem dX4_isSame_202 : decode cX4_isSame 202 = .ok (.iconst 0, 1) := by decide +kernel
theorem dX4_isSame_203 : decode cX4_isSame 203 = .ok (.ireturn, 1) := by decide +kernel
theorem dX4_isSame_204 : decode cX4_isSame 204 = .ok (.iinc 4 1, 3) := by decide +kernel
theorem dX4_isSame_207 : decode cX4_isSame 207 = .ok (.goto (-35), 3) := by decide +kernel
theorem dX4_isSame_210 : decode cX4_isSame 210 = .ok (.aload_n 0, 1) := by decide +kernel
theorem dX4_isSame_211 : decode cX4_isSame 211 = .ok (.iconst 0, 1) := by decide +kernel
theorem dX4_isSame_212 : decode cX4_isSame 212 = .ok (.iconst 0, 1) := by decide +kernel
theorem dX4_isSame_213 : decode cX4_isSame 213 = .ok (.aload_n 0, 1) := by decide +kernel
theorem dX4_isSame_214 : decode cX4_isSame 214 = .ok (.getfield 9, 3) := by decide +kernel
theorem dX4_isSame_217 : decode cX4_isSame 217 = .ok (.arraylength, 1) := by decide +kernel
theorem dX4_isSame_218 : decode cX4_isSame 218 = .ok (.iconst 1, 1) := by decide +kernel
theorem dX4_isSame_219 : decode cX4_isSame 219 = .ok (.isub, 1) := by decide +kernel
theorem dX4_isSame_220 : decode cX4_isSame 220 = .ok (.iload_n 3, 1) := by decide +kernel
theorem dX4_isSame_221 : decode cX4_isSame 221 = .ok (.iconst 1, 1) := by decide +kernel
theorem dX4_isSame_222 : decode cX4_isSame 222 = .ok (.isub, 1) := by decide +kernel
theorem dX4_isSame_223 : decode cX4_isSame 223 = .ok (.invokevirtual 64, 3) := by decide +kernel
theorem dX4_isSame_226 : decode cX4_isSame 226 = .ok (.lstore 4, 2) := by decide +kernel
theorem dX4_isSame_228 : decode cX4_isSame 228 = .ok (.aload_n 1, 1) := by decide +kernel
theorem dX4_isSame_229 : decode cX4_isSame 229 = .ok (.invokevirtual 82, 3) := by decide +kernel
theorem dX4_isSame_232 : decode cX4_isSame 232 = .ok (.aload_n 0, 1) := by decide +kernel
theorem dX4_isSame_233 : decode cX4_isSame 233 = .ok (.getfield 9, 3) := by decide +kernel
theorem dX4_isSame_236 : decode cX4_isSame 236 = .ok (.arraylength, 1) := by decide +kernel
theorem dX4_isSame_237 : decode cX4_isSame 237 = .ok (.if_icmp .ne 111, 3) := by decide +kernel
theorem dX4_isSame_240 : decode cX4_isSame 240 = .ok (.aload_n 1, 1) := by decide +kernel
theorem dX4_isSame_241 : decode cX4_isSame 241 = .ok (.invokevirtual 85, 3) := by decide +kernel
theorem dX4_isSame_244 : decode cX4_isSame 244 = .ok (.iload_n 3, 1) := by decide +kernel
theorem dX4_isSame_245 : decode cX4_isSame 245 = .ok (.if_icmp .ne 103, 3) := by decide +kernel
theorem dX4_isSame_248 : decode cX4_isSame 248 = .ok (.aload_n 1, 1) := by decide +kernel
theorem dX4_isSame_249 : decode cX4_isSame 249 = .ok (.invokevirtual 88, 3) := by decide +kernel
theorem dX4_isSame_252 : decode cX4_isSame 252 = .ok (.aload_n 0, 1) := by decide +kernel
theorem dX4_isSame_253 : decode cX4_isSame 253 = .ok (.getfield 43, 3) := by decide +kernel
theorem dX4_isSame_256 : decode cX4_isSame 256 = .ok (.if_icmp .ne 92, 3) := by decide +kernel
theorem dX4_isSame_259 : decode cX4_isSame 259 = .ok (.aload_n 1, 1) := by decide +kernel
theorem dX4_isSame_260 : decode cX4_isSame 260 = .ok (.invokevirtual 90, 3) := by decide +kernel
theorem dX4_isSame_263 : decode cX4_isSame 263 = .ok (.aload_n 0, 1) := by decide +kernel
theorem dX4_isSame_264 : decode cX4_isSame 264 = .ok (.getfield 18, 3) := by decide +kernel
theorem dX4_isSame_267 : decode cX4_isSame 267 = .ok (.if_icmp .ne 81, 3) := by decide +kernel
theorem dX4_isSame_270 : decode cX4_isSame 270 = .ok (.aload_n 1, 1) := by decide +kernel
theorem dX4_isSame_271 : decode cX4_isSame 271 = .ok (.invokevirtual 92, 3) := by decide +kernel
theorem dX4_isSame_274 : decode cX4_isSame 274 = .ok (.aload_n 0, 1) := by decide +kernel
theorem dX4_isSame_275 : decode cX4_isSame 275 = .ok (.getfield 26, 3) := by decide +kernel
theorem dX4_isSame_278 : decode cX4_isSame 278 = .ok (.arraylength, 1) := by decide +kernel
theorem dX4_isSame_279 : decode cX4_isSame 279 = .ok (.if_icmp .ne 69, 3) := by decide +kernel
theorem dX4_isSame_282 : decode cX4_isSame 282 = .ok (.aload_n 1, 1) := by decide +kernel
theorem dX4_isSame_283 : decode cX4_isSame 283 = .ok (.invokevirtual 94, 3) := by decide +kernel
theorem dX4_isSame_286 : decode cX4_isSame 286 = .ok (.aload_n 0, 1) := by decide +kernel
theorem dX4_isSame_287 : decode cX4_isSame 287 = .ok (.getfield 22, 3) := by decide +kernel
theorem dX4_isSame_290 : decode cX4_isSame 290 = .ok (.arraylength, 1) := by decide +kernel
theorem dX4_isSame_291 : decode cX4_isSame 291 = .ok (.if_icmp .ne 57, 3) := by decide +kernel
theorem dX4_isSame_294 : decode cX4_isSame 294 = .ok (.aload_n 1, 1) := by decide +kernel
theorem dX4_isSame_295 : decode cX4_isSame 295 = .ok (.invokevirtual 97, 3) := by decide +kernel
theorem dX4_isSame_298 : decode cX4_isSame 298 = .ok (.aload_n 0, 1) := by decide +kernel
theorem dX4_isSame_299 : decode cX4_isSame 299 = .ok (.getfield 46, 3) := by decide +kernel
theorem dX4_isSame_302 : decode cX4_isSame 302 = .ok (.lcmp, 1) := by decide +kernel
theorem dX4_isSame_303 : decode cX4_isSame 303 = .ok (.ifCond .ne 45, 3) := by decide +kernel
theorem dX4_isSame_306 : decode cX4_isSame 306 = .ok (.aload_n 1, 1) := by decide +kernel
theorem dX4_isSame_307 : decode cX4_isSame 307 = .ok (.invokevirtual 100, 3) := by decide +kernel
theorem dX4_isSame_310 : decode cX4_isSame 310 = .ok (.lload 4, 2) := by decide +kernel
theorem dX4_isSame_312 : decode cX4_isSame 312 = .ok (.lcmp, 1) := by decide +kernel
theorem dX4_isSame_313 : decode cX4_isSame 313 = .ok (.ifCond .ne 35, 3) := by decide +kernel
theorem dX4_isSame_316 : decode cX4_isSame 316 = .ok (.aload_n 1, 1) := by decide +kernel
theorem dX4_isSame_317 : decode cX4_isSame 317 = .ok (.invokevirtual 103, 3) := by decide +kernel
theorem dX4_isSame_320 : decode cX4_isSame 320 = .ok (.iload_n 2, 1) := by decide +kernel
theorem dX4_isSame_321 : decode cX4_isSame 321 = .ok (.if_icmp .ne 27, 3) := by decide +kernel
theorem dX4_isSame_324 : decode cX4_isSame 324 = .ok (.aload_n 1, 1) := by decide +kernel
theorem dX4_isSame_325 : decode cX4_isSame 325 = .ok (.invokevirtual 106, 3) := by decide +kernel
theorem dX4_isSame_328 : decode cX4_isSame 328 = .ok (.lload 4, 2) := by decide +kernel
theorem dX4_isSame_330 : decode cX4_isSame 330 = .ok (.l2d, 1) := by decide +kernel
theorem dX4_isSame_331 : decode cX4_isSame 331 = .ok (.iload_n 3, 1) := by decide +kernel
theorem dX4_isSame_332 : decode cX4_isSame 332 = .ok (.aload_n 0, 1) := by decide +kernel
theorem dX4_isSame_333 : decode cX4_isSame 333 = .ok (.getfield 9, 3) := by decide +kernel
theorem dX4_isSame_336 : decode cX4_isSame 336 = .ok (.arraylength, 1) := by decide +kernel
theorem dX4_isSame_337 : decode cX4_isSame 337 = .ok (.imul, 1) := by decide +kernel
theorem dX4_isSame_338 : decode cX4_isSame 338 = .ok (.i2d, 1) := by decide +kernel
theorem dX4_isSame_339 : decode cX4_isSame 339 = .ok (.ddiv, 1) := by decide +kernel
theorem dX4_isSame_340 : decode cX4_isSame 340 = .ok (.dcmp .l, 1) := by decide +kernel
theorem dX4_isSame_341 : decode cX4_isSame 341 = .ok (.ifCond .ne 7, 3) := by decide +kernel
theorem dX4_isSame_344 : decode cX4_isSame 344 = .ok (.iconst 1, 1) := by decide +kernel
theorem dX4_isSame_345 : decode cX4_isSame 345 = .ok (.goto 4, 3) := by decide +kernel
theorem dX4_isSame_348 : decode cX4_isSame 348 = .ok (.iconst 0, 1) := by decide +kernel
theorem dX4_isSame_349 : decode cX4_isSame 349 = .ok (.ireturn, 1) := by decide +kernel
