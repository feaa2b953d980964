theorem dX0_init_0 : decode cX0_init 0 = .ok (.aload_n 0, 1) := by decide +kernel
theorem dX0_init_1 : decode cX0_init 1 = .ok (.invokespecial 3, 3) := by decide +kernel
theorem dX0_init_4 : decode cX0_init 4 = .ok (.aload_n 0, 1) := by decide +kernel
theorem dX0_init_5 : decode cX0_init 5 = .ok (.bipush 8, 2) := by decide +kernel
theorem dX0_init_7 : decode cX0_init 7 = .ok (.bipush 8, 2) := by decide +kernel
theorem dX0_init_9 : decode cX0_init 9 = .ok (.multianewarray 9 2, 4) := by decide +kernel
theorem dX0_init_13 : decode cX0_init 13 = .ok (.putfield 11, 3) := by decide +kernel
theorem dX0_init_16 : decode cX0_init 16 = .ok (.return_, 1) := by decide +kernel
theorem dX0_countIn_0 : decode cX0_countIn 0 = .ok (.aload_n 0, 1) := by decide +kernel
theorem dX0_countIn_1 : decode cX0_countIn 1 = .ok (.aload_n 1, 1) := by decide +kernel
theorem dX0_countIn_2 : decode cX0_countIn 2 = .ok (.getfield 16, 3) := by decide +kernel
theorem dX0_countIn_5 : decode cX0_countIn 5 = .ok (.putfield 22, 3) := by decide +kernel
theorem dX0_countIn_8 : decode cX0_countIn 8 = .ok (.iconst 0, 1) := by decide +kernel
theorem dX0_countIn_9 : decode cX0_countIn 9 = .ok (.istore_n 2, 1) := by decide +kernel
theorem dX0_countIn_10 : decode cX0_countIn 10 = .ok (.iload_n 2, 1) := by decide +kernel
theorem dX0_countIn_11 : decode cX0_countIn 11 = .ok (.aload_n 0, 1) := by decide +kernel
theorem dX0_countIn_12 : decode cX0_countIn 12 = .ok (.getfield 22, 3) := by decide +kernel
theorem dX0_countIn_15 : decode cX0_countIn 15 = .ok (.if_icmp .ge 39, 3) := by decide +kernel
theorem dX0_countIn_18 : decode cX0_countIn 18 = .ok (.iconst 0, 1) := by decide +kernel
theorem dX0_countIn_19 : decode cX0_countIn 19 = .ok (.istore_n 3, 1) := by decide +kernel
theorem dX0_countIn_20 : decode cX0_countIn 20 = .ok (.iload_n 3, 1) := by decide +kernel
theorem dX0_countIn_21 : decode cX0_countIn 21 = .ok (.aload_n 0, 1) := by decide +kernel
theorem dX0_countIn_22 : decode cX0_countIn 22 = .ok (.getfield 22, 3) := by decide +kernel
theorem dX0_countIn_25 : decode cX0_countIn 25 = .ok (.if_icmp .ge 23, 3) := by decide +kernel
theorem dX0_countIn_28 : decode cX0_countIn 28 = .ok (.aload_n 0, 1) := by decide +kernel
theorem dX0_countIn_29 : decode cX0_countIn 29 = .ok (.getfield 11, 3) := by decide +kernel
theorem dX0_countIn_32 : decode cX0_countIn 32 = .ok (.iload_n 2, 1) := by decide +kernel
theorem dX0_countIn_33 : decode cX0_countIn 33 = .ok (.aaload, 1) := by decide +kernel
theorem dX0_countIn_34 : decode cX0_countIn 34 = .ok (.iload_n 3, 1) := by decide +kernel
theorem dX0_countIn_35 : decode cX0_countIn 35 = .ok (.aload_n 1, 1) := by decide +kernel
theorem dX0_countIn_36 : decode cX0_countIn 36 = .ok (.iload_n 2, 1) := by decide +kernel
theorem dX0_countIn_37 : decode cX0_countIn 37 = .ok (.iload_n 3, 1) := by decide +kernel
theorem dX0_countIn_38 : decode cX0_countIn 38 = .ok (.invokestatic 23, 3) := by decide +kernel
theorem dX0_countIn_41 : decode cX0_countIn 41 = .ok (.iastore, 1) := by decide +kernel
theorem dX0_countIn_42 : decode cX0_countIn 42 = .ok (.iinc 3 1, 3) := by decide +kernel
theorem dX0_countIn_45 : decode cX0_countIn 45 = .ok (.goto (-25), 3) := by decide +kernel
theorem dX0_countIn_48 : decode cX0_countIn 48 = .ok (.iinc 2 1, 3) := by decide +kernel
theorem dX0_countIn_51 : decode cX0_countIn 51 = .ok (.goto (-41), 3) := by decide +kernel
theorem dX0_countIn_54 : decode cX0_countIn 54 = .ok (.return_, 1) := by decide +kernel
theorem dX0_countOf_0 : decode cX0_countOf 0 = .ok (.iconst 0, 1) := by decide +kernel
theorem dX0_countOf_1 : decode cX0_countOf 1 = .ok (.istore_n 3, 1) := by decide +kernel
theorem dX0_countOf_2 : decode cX0_countOf 2 = .ok (.iconst 0, 1) := by decide +kernel
theorem dX0_countOf_3 : decode cX0_countOf 3 = .ok (.istore 4, 2) := by decide +kernel
theorem dX0_countOf_5 : decode cX0_countOf 5 = .ok (.iload 4, 2) := by decide +kernel
theorem dX0_countOf_7 : decode cX0_countOf 7 = .ok (.aload_n 0, 1) := by decide +kernel
theorem dX0_countOf_8 : decode cX0_countOf 8 = .ok (.getfield 27, 3) := by decide +kernel
theorem dX0_countOf_11 : decode cX0_countOf 11 = .ok (.if_icmp .ge 63, 3) := by decide +kernel
theorem dX0_countOf_14 : decode cX0_countOf 14 = .ok (.aload_n 0, 1) := by decide +kernel
theorem dX0_countOf_15 : decode cX0_countOf 15 = .ok (.iload_n 1, 1) := by decide +kernel
theorem dX0_countOf_16 : decode cX0_countOf 16 = .ok (.iload 4, 2) := by decide +kernel
theorem dX0_countOf_18 : decode cX0_countOf 18 = .ok (.invokevirtual 30, 3) := by decide +kernel
theorem dX0_countOf_21 : decode cX0_countOf 21 = .ok (.istore 5, 2) := by decide +kernel
theorem dX0_countOf_23 : decode cX0_countOf 23 = .ok (.iload_n 1, 1) := by decide +kernel
theorem dX0_countOf_24 : decode cX0_countOf 24 = .ok (.iload_n 2, 1) := by decide +kernel
theorem dX0_countOf_25 : decode cX0_countOf 25 = .ok (.if_icmp .ne 10, 3) := by decide +kernel
theorem dX0_countOf_28 : decode cX0_countOf 28 = .ok (.iload 4, 2) := by decide +kernel
theorem dX0_countOf_30 : decode cX0_countOf 30 = .ok (.iconst 1, 1) := by decide +kernel
theorem dX0_countOf_31 : decode cX0_countOf 31 = .ok (.iadd, 1) := by decide +kernel
theorem dX0_countOf_32 : decode cX0_countOf 32 = .ok (.goto 4, 3) := by decide +kernel
theorem dX0_countOf_35 : decode cX0_countOf 35 = .ok (.iconst 0, 1) := by decide +kernel
theorem dX0_countOf_36 : decode cX0_countOf 36 = .ok (.istore 6, 2) := by decide +kernel
theorem dX0_countOf_38 : decode cX0_countOf 38 = .ok (.iload 6, 2) := by decide +kernel
theorem dX0_countOf_40 : decode cX0_countOf 40 = .ok (.aload_n 0, 1) := by decide +kernel
theorem dX0_countOf_41 : decode cX0_countOf 41 = .ok (.getfield 27, 3) := by decide +kernel
theorem dX0_countOf_44 : decode cX0_countOf 44 = .ok (.if_icmp .ge 24, 3) := by decide +kernel
theorem dX0_countOf_47 : decode cX0_countOf 47 = .ok (.iload 5, 2) := by decide +kernel
theorem dX0_countOf_49 : decode cX0_countOf 49 = .ok (.aload_n 0, 1) := by decide +kernel
theorem dX0_countOf_50 : decode cX0_countOf 50 = .ok (.iload_n 2, 1) := by decide +kernel
theorem dX0_countOf_51 : decode cX0_countOf 51 = .ok (.iload 6, 2) := by decide +kernel
theorem dX0_countOf_53 : decode cX0_countOf 53 = .ok (.invokevirtual 30, 3) := by decide +kernel
theorem dX0_countOf_56 : decode cX0_countOf 56 = .ok (.if_icmp .le 6, 3) := by decide +kernel
theorem dX0_countOf_59 : decode cX0_countOf 59 = .ok (.iinc 3 1, 3) := by decide +kernel
theorem dX0_countOf_62 : decode cX0_countOf 62 = .ok (.iinc 6 1, 3) := by decide +kernel
theorem dX0_countOf_65 : decode cX0_countOf 65 = .ok (.goto (-27), 3) := by decide +kernel
theorem dX0_countOf_68 : decode cX0_countOf 68 = .ok (.iinc 4 1, 3) := by decide +kernel
theorem dX0_countOf_71 : decode cX0_countOf 71 = .ok (.goto (-66), 3) := by decide +kernel
theorem dX0_countOf_74 : decode cX0_countOf 74 = .ok (.iload_n 3, 1) := by decide +kernel
theorem dX0_countOf_75 : decode cX0_countOf 75 = .ok (.ireturn, 1) := by decide +kernel
theorem dX0_outWithSwap_0 : decode cX0_outWithSwap 0 = .ok (.iconst 0, 1) := by decide +kernel
theorem dX0_outWithSwap_1 : decode cX0_outWithSwap 1 = .ok (.istore_n 3, 1) := by decide +kernel
theorem dX0_outWithSwap_2 : decode cX0_outWithSwap 2 = .ok (.iconst 0, 1) := by decide +kernel
theorem dX0_outWithSwap_3 : decode cX0_outWithSwap 3 = .ok (.istore 4, 2) := by decide +kernel
theorem dX0_outWithSwap_5 : decode cX0_outWithSwap 5 = .ok (.iload 4, 2) := by decide +kernel
theorem dX0_outWithSwap_7 : decode cX0_outWithSwap 7 = .ok (.aload_n 0, 1) := by decide +kernel
theorem dX0_outWithSwap_8 : decode cX0_outWithSwap 8 = .ok (.getfield 22, 3) := by decide +kernel
theorem dX0_outWithSwap_11 : decode cX0_outWithSwap 11 = .ok (.if_icmp .ge 51, 3) := by decide +kernel
theorem dX0_outWithSwap_14 : decode cX0_outWithSwap 14 = .ok (.iload 4, 2) := by decide +kernel
theorem dX0_outWithSwap_16 : decode cX0_outWithSwap 16 = .ok (.istore 5, 2) := by decide +kernel
theorem dX0_outWithSwap_18 : decode cX0_outWithSwap 18 = .ok (.iload 5, 2) := by decide +kernel
theorem dX0_outWithSwap_20 : decode cX0_outWithSwap 20 = .ok (.aload_n 0, 1) := by decide +kernel
theorem dX0_outWithSwap_21 : decode cX0_outWithSwap 21 = .ok (.getfield 22, 3) := by decide +kernel
theorem dX0_outWithSwap_24 : decode cX0_outWithSwap 24 = .ok (.if_icmp .ge 32, 3) := by decide +kernel
theorem dX0_outWithSwap_27 : decode cX0_outWithSwap 27 = .ok (.iload_n 3, 1) := by decide +kernel
theorem dX0_outWithSwap_28 : decode cX0_outWithSwap 28 = .ok (.aload_n 0, 1) := by decide +kernel
theorem dX0_outWithSwap_29 : decode cX0_outWithSwap 29 = .ok (.getfield 11, 3) := by decide +kernel
theorem dX0_outWithSwap_32 : decode cX0_outWithSwap 32 = .ok (.iload 4, 2) := by decide +kernel
theorem dX0_outWithSwap_34 : decode cX0_outWithSwap 34 = .ok (.iload_n 1, 1) := by decide +kernel
theorem dX0_outWithSwap_35 : decode cX0_outWithSwap 35 = .ok (.iload_n 2, 1) := by decide +kernel
theorem dX0_outWithSwap_36 : decode cX0_outWithSwap 36 = .ok (.invokestatic 34, 3) := by decide +kernel
theorem dX0_outWithSwap_39 : decode cX0_outWithSwap 39 = .ok (.aaload, 1) := by decide +kernel
theorem dX0_outWithSwap_40 : decode cX0_outWithSwap 40 = .ok (.iload 5, 2) := by decide +kernel
theorem dX0_outWithSwap_42 : decode cX0_outWithSwap 42 = .ok (.iload_n 1, 1) := by decide +kernel
theorem dX0_outWithSwap_43 : decode cX0_outWithSwap 43 = .ok (.iload_n 2, 1) := by decide +kernel
theorem dX0_outWithSwap_44 : decode cX0_outWithSwap 44 = .ok (.invokestatic 34, 3) := by decide +kernel
theorem dX0_outWithSwap_47 : decode cX0_outWithSwap 47 = .ok (.iaload, 1) := by decide +kernel
theorem dX0_outWithSwap_48 : decode cX0_outWithSwap 48 = .ok (.iadd, 1) := by decide +kernel
theorem dX0_outWithSwap_49 : decode cX0_outWithSwap 49 = .ok (.istore_n 3, 1) := by decide +kernel
theorem dX0_outWithSwap_50 : decode cX0_outWithSwap 50 = .ok (.iinc 5 1, 3) := by decide +kernel
theorem dX0_outWithSwap_53 : decode cX0_outWithSwap 53 = .ok (.goto (-35), 3) := by decide +kernel
theorem dX0_outWithSwap_56 : decode cX0_outWithSwap 56 = .ok (.iinc 4 1, 3) := by decide +kernel
theorem dX0_outWithSwap_59 : decode cX0_outWithSwap 59 = .ok (.goto (-54), 3) := by decide +kernel
theorem dX0_outWithSwap_62 : decode cX0_outWithSwap 62 = .ok (.iload_n 3, 1) := by decide +kernel
theorem dX0_outWithSwap_63 : decode cX0_outWithSwap 63 = .ok (.ireturn, 1) := by decide +kernel
theorem dX0_swapped_0 : decode cX0_swapped 0 = .ok (.iload_n 0, 1) := by decide +kernel
theorem dX0_swapped_1 : decode cX0_swapped 1 = .ok (.iload_n 1, 1) := by decide +kernel
theorem dX0_swapped_2 : decode cX0_swapped 2 = .ok (.if_icmp .ne 5, 3) := by decide +kernel
theorem dX0_swapped_5 : decode cX0_swapped 5 = .ok (.iload_n 2, 1) := by decide +kernel
theorem dX0_swapped_6 : decode cX0_swapped 6 = .ok (.ireturn, 1) := by decide +kernel
theorem dX0_swapped_7 : decode cX0_swapped 7 = .ok (.iload_n 0, 1) := by decide +kernel
theorem dX0_swapped_8 : decode cX0_swapped 8 = .ok (.iload_n 2, 1) := by decide +kernel
theorem dX0_swapped_9 : decode cX0_swapped 9 = .ok (.if_icmp .ne 7, 3) := by decide +kernel
theorem dX0_swapped_12 : decode cX0_swapped 12 = .ok (.iload_n 1, 1) := by decide +kernel
theorem dX0_swapped_13 : decode cX0_swapped 13 = .ok (.goto 4, 3) := by decide +kernel
theorem dX0_swapped_16 : decode cX0_swapped 16 = .ok (.iload_n 0, 1) := by decide +kernel
theorem dX0_swapped_17 : decode cX0_swapped 17 = .ok (.ireturn, 1) := by decide +kernel
theorem dX0_bestPartner_0 : decode cX0_bestPartner 0 = .ok (.iconst 0, 1) := by decide +kernel
theorem dX0_bestPartner_1 : decode cX0_bestPartner 1 = .ok (.istore_n 2, 1) := by decide +kernel
theorem dX0_bestPartner_2 : decode cX0_bestPartner 2 = .ok (.aload_n 0, 1) := by decide +kernel
theorem dX0_bestPartner_3 : decode cX0_bestPartner 3 = .ok (.iload_n 1, 1) := by decide +kernel
theorem dX0_bestPartner_4 : decode cX0_bestPartner 4 = .ok (.iconst 0, 1) := by decide +kernel
theorem dX0_bestPartner_5 : decode cX0_bestPartner 5 = .ok (.invokevirtual 38, 3) := by decide +kernel
theorem dX0_bestPartner_8 : decode cX0_bestPartner 8 = .ok (.istore_n 3, 1) := by decide +kernel
theorem dX0_bestPartner_9 : decode cX0_bestPartner 9 = .ok (.iconst 1, 1) := by decide +kernel
theorem dX0_bestPartner_10 : decode cX0_bestPartner 10 = .ok (.istore 4, 2) := by decide +kernel
theorem dX0_bestPartner_12 : decode cX0_bestPartner 12 = .ok (.iload 4, 2) := by decide +kernel
theorem dX0_bestPartner_14 : decode cX0_bestPartner 14 = .ok (.aload_n 0, 1) := by decide +kernel
theorem dX0_bestPartner_15 : decode cX0_bestPartner 15 = .ok (.getfield 22, 3) := by decide +kernel
theorem dX0_bestPartner_18 : decode cX0_bestPartner 18 = .ok (.if_icmp .ge 30, 3) := by decide +kernel
theorem dX0_bestPartner_21 : decode cX0_bestPartner 21 = .ok (.aload_n 0, 1) := by decide +kernel
theorem dX0_bestPartner_22 : decode cX0_bestPartner 22 = .ok (.iload_n 1, 1) := by decide +kernel
theorem dX0_bestPartner_23 : decode cX0_bestPartner 23 = .ok (.iload 4, 2) := by decide +kernel
theorem dX0_bestPartner_25 : decode cX0_bestPartner 25 = .ok (.invokevirtual 38, 3) := by decide +kernel
theorem dX0_bestPartner_28 : decode cX0_bestPartner 28 = .ok (.istore 5, 2) := by decide +kernel
theorem dX0_bestPartner_30 : decode cX0_bestPartner 30 = .ok (.iload 5, 2) := by decide +kernel
theorem dX0_bestPartner_32 : decode cX0_bestPartner 32 = .ok (.iload_n 3, 1) := by decide +kernel
theorem dX0_bestPartner_33 : decode cX0_bestPartner 33 = .ok (.if_icmp .ge 9, 3) := by decide +kernel
theorem dX0_bestPartner_36 : decode cX0_bestPartner 36 = .ok (.iload 5, 2) := by decide +kernel
theorem dX0_bestPartner_38 : decode cX0_bestPartner 38 = .ok (.istore_n 3, 1) := by decide +kernel
theorem dX0_bestPartner_39 : decode cX0_bestPartner 39 = .ok (.iload 4, 2) := by decide +kernel
theorem dX0_bestPartner_41 : decode cX0_bestPartner 41 = .ok (.istore_n 2, 1) := by decide +kernel
theorem dX0_bestPartner_42 : decode cX0_bestPartner 42 = .ok (.iinc 4 1, 3) := by decide +kernel
theorem dX0_bestPartner_45 : decode cX0_bestPartner 45 = .ok (.goto (-33), 3) := by decide +kernel
theorem dX0_bestPartner_48 : decode cX0_bestPartner 48 = .ok (.iload_n 2, 1) := by decide +kernel
theorem dX0_bestPartner_49 : decode cX0_bestPartner 49 = .ok (.ireturn, 1) := by decide +kernel
theorem dX1_init_0 : decode cX1_init 0 = .ok (.aload_n 0, 1) := by decide +kernel
theorem dX1_init_1 : decode cX1_init 1 = .ok (.invokespecial 3, 3) := by decide +kernel
theorem dX1_init_4 : decode cX1_init 4 = .ok (.aload_n 0, 1) := by decide +kernel
theorem dX1_init_5 : decode cX1_init 5 = .ok (.iconst 1, 1) := by decide +kernel
theorem dX1_init_6 : decode cX1_init 6 = .ok (.iload_n 1, 1) := by decide +kernel
theorem dX1_init_7 : decode cX1_init 7 = .ok (.invokestatic 9, 3) := by decide +kernel
theorem dX1_init_10 : decode cX1_init 10 = .ok (.sipush 128, 3) := by decide +kernel
theorem dX1_init_13 : decode cX1_init 13 = .ok (.multianewarray 15 2, 4) := by decide +kernel
theorem dX1_init_17 : decode cX1_init 17 = .ok (.putfield 17, 3) := by decide +kernel
theorem dX1_init_20 : decode cX1_init 20 = .ok (.return_, 1) := by decide +kernel
theorem dX1_clearAll_0 : decode cX1_clearAll 0 = .ok (.aload_n 0, 1) := by decide +kernel
theorem dX1_clearAll_1 : decode cX1_clearAll 1 = .ok (.iconst 0, 1) := by decide +kernel
theorem dX1_clearAll_2 : decode cX1_clearAll 2 = .ok (.putfield 22, 3) := by decide +kernel
theorem dX1_clearAll_5 : decode cX1_clearAll 5 = .ok (.aload_n 0, 1) := by decide +kernel
theorem dX1_clearAll_6 : decode cX1_clearAll 6 = .ok (.iconst 0, 1) := by decide +kernel
theorem dX1_clearAll_7 : decode cX1_clearAll 7 = .ok (.putfield 26, 3) := by decide +kernel
theorem dX1_clearAll_10 : decode cX1_clearAll 10 = .ok (.return_, 1) := by decide +kernel
theorem dX1_row_0 : decode cX1_row 0 = .ok (.aload_n 0, 1) := by decide +kernel
theorem dX1_row_1 : decode cX1_row 1 = .ok (.getfield 22, 3) := by decide +kernel
theorem dX1_row_4 : decode cX1_row 4 = .ok (.iload_n 1, 1) := by decide +kernel
theorem dX1_row_5 : decode cX1_row 5 = .ok (.iadd, 1) := by decide +kernel
theorem dX1_row_6 : decode cX1_row 6 = .ok (.istore_n 2, 1) := by decide +kernel
theorem dX1_row_7 : decode cX1_row 7 = .ok (.aload_n 0, 1) := by decide +kernel
theorem dX1_row_8 : decode cX1_row 8 = .ok (.getfield 17, 3) := by decide +kernel
theorem dX1_row_11 : decode cX1_row 11 = .ok (.iload_n 2, 1) := by decide +kernel
theorem dX1_row_12 : decode cX1_row 12 = .ok (.aload_n 0, 1) := by decide +kernel
theorem dX1_row_13 : decode cX1_row 13 = .ok (.getfield 17, 3) := by decide +kernel
theorem dX1_row_16 : decode cX1_row 16 = .ok (.arraylength, 1) := by decide +kernel
theorem dX1_row_17 : decode cX1_row 17 = .ok (.if_icmp .ge 7, 3) := by decide +kernel
theorem dX1_row_20 : decode cX1_row 20 = .ok (.iload_n 2, 1) := by decide +kernel
theorem dX1_row_21 : decode cX1_row 21 = .ok (.goto 10, 3) := by decide +kernel
theorem dX1_row_24 : decode cX1_row 24 = .ok (.iload_n 2, 1) := by decide +kernel
theorem dX1_row_25 : decode cX1_row 25 = .ok (.aload_n 0, 1) := by decide +kernel
theorem dX1_row_26 : decode cX1_row 26 = .ok (.getfield 17, 3) := by decide +kernel
theorem dX1_row_29 : decode cX1_row 29 = .ok (.arraylength, 1) := by decide +kernel
theorem dX1_row_30 : decode cX1_row 30 = .ok (.isub, 1) := by decide +kernel
theorem dX1_row_31 : decode cX1_row 31 = .ok (.aaload, 1) := by decide +kernel
theorem dX1_row_32 : decode cX1_row 32 = .ok (.areturn, 1) := by decide +kernel
theorem dX1_addLatest_0 : decode cX1_addLatest 0 = .ok (.aload_n 0, 1) := by decide +kernel
theorem dX1_addLatest_1 : decode cX1_addLatest 1 = .ok (.getfield 26, 3) := by decide +kernel
theorem dX1_addLatest_4 : decode cX1_addLatest 4 = .ok (.aload_n 0, 1) := by decide +kernel
theorem dX1_addLatest_5 : decode cX1_addLatest 5 = .ok (.getfield 17, 3) := by decide +kernel
theorem dX1_addLatest_8 : decode cX1_addLatest 8 = .ok (.arraylength, 1) := by decide +kernel
theorem dX1_addLatest_9 : decode cX1_addLatest 9 = .ok (.if_icmp .ge 16, 3) := by decide +kernel
theorem dX1_addLatest_12 : decode cX1_addLatest 12 = .ok (.aload_n 0, 1) := by decide +kernel
theorem dX1_addLatest_13 : decode cX1_addLatest 13 = .ok (.dup, 1) := by decide +kernel
theorem dX1_addLatest_14 : decode cX1_addLatest 14 = .ok (.getfield 26, 3) := by decide +kernel
theorem dX1_addLatest_17 : decode cX1_addLatest 17 = .ok (.iconst 1, 1) := by decide +kernel
theorem dX1_addLatest_18 : decode cX1_addLatest 18 = .ok (.iadd, 1) := by decide +kernel
theorem dX1_addLatest_19 : decode cX1_addLatest 19 = .ok (.putfield 26, 3) := by decide +kernel
theorem dX1_addLatest_22 : decode cX1_addLatest 22 = .ok (.goto 31, 3) := by decide +kernel
theorem dX1_addLatest_25 : decode cX1_addLatest 25 = .ok (.aload_n 0, 1) := by decide +kernel
theorem dX1_addLatest_26 : decode cX1_addLatest 26 = .ok (.aload_n 0, 1) := by decide +kernel
theorem dX1_addLatest_27 : decode cX1_addLatest 27 = .ok (.getfield 22, 3) := by decide +kernel
theorem dX1_addLatest_30 : decode cX1_addLatest 30 = .ok (.iconst 1, 1) := by decide +kernel
theorem dX1_addLatest_31 : decode cX1_addLatest 31 = .ok (.iadd, 1) := by decide +kernel
theorem dX1_addLatest_32 : decode cX1_addLatest 32 = .ok (.aload_n 0, 1) := by decide +kernel
theorem dX1_addLatest_33 : decode cX1_addLatest 33 = .ok (.getfield 17, 3) := by decide +kernel
theorem dX1_addLatest_36 : decode cX1_addLatest 36 = .ok (.arraylength, 1) := by decide +kernel
theorem dX1_addLatest_37 : decode cX1_addLatest 37 = .ok (.if_icmp .ge 12, 3) := by decide +kernel
theorem dX1_addLatest_40 : decode cX1_addLatest 40 = .ok (.aload_n 0, 1) := by decide +kernel
theorem dX1_addLatest_41 : decode cX1_addLatest 41 = .ok (.getfield 22, 3) := by decide +kernel
theorem dX1_addLatest_44 : decode cX1_addLatest 44 = .ok (.iconst 1, 1) := by decide +kernel
theorem dX1_addLatest_45 : decode cX1_addLatest 45 = .ok (.iadd, 1) := by decide +kernel
theorem dX1_addLatest_46 : decode cX1_addLatest 46 = .ok (.goto 4, 3) := by decide +kernel
theorem dX1_addLatest_49 : decode cX1_addLatest 49 = .ok (.iconst 0, 1) := by decide +kernel
theorem dX1_addLatest_50 : decode cX1_addLatest 50 = .ok (.putfield 22, 3) := by decide +kernel
theorem dX1_addLatest_53 : decode cX1_addLatest 53 = .ok (.aload_n 0, 1) := by decide +kernel
theorem dX1_addLatest_54 : decode cX1_addLatest 54 = .ok (.aload_n 0, 1) := by decide +kernel
theorem dX1_addLatest_55 : decode cX1_addLatest 55 = .ok (.getfield 26, 3) := by decide +kernel
theorem dX1_addLatest_58 : decode cX1_addLatest 58 = .ok (.iconst 1, 1) := by decide +kernel
theorem dX1_addLatest_59 : decode cX1_addLatest 59 = .ok (.isub, 1) := by decide +kernel
theorem dX1_addLatest_60 : decode cX1_addLatest 60 = .ok (.invokevirtual 29, 3) := by decide +kernel
theorem dX1_addLatest_63 : decode cX1_addLatest 63 = .ok (.astore_n 2, 1) := by decide +kernel
theorem dX1_addLatest_64 : decode cX1_addLatest 64 = .ok (.iconst 0, 1) := by decide +kernel
theorem dX1_addLatest_65 : decode cX1_addLatest 65 = .ok (.istore_n 3, 1) := by decide +kernel
theorem dX1_addLatest_66 : decode cX1_addLatest 66 = .ok (.iload_n 3, 1) := by decide +kernel
theorem dX1_addLatest_67 : decode cX1_addLatest 67 = .ok (.aload_n 1, 1) := by decide +kernel
theorem dX1_addLatest_68 : decode cX1_addLatest 68 = .ok (.invokevirtual 33, 3) := by decide +kernel
theorem dX1_addLatest_71 : decode cX1_addLatest 71 = .ok (.if_icmp .ge 18, 3) := by decide +kernel
theorem dX1_addLatest_74 : decode cX1_addLatest 74 = .ok (.aload_n 2, 1) := by decide +kernel
theorem dX1_addLatest_75 : decode cX1_addLatest 75 = .ok (.iload_n 3, 1) := by decide +kernel
theorem dX1_addLatest_76 : decode cX1_addLatest 76 = .ok (.aload_n 1, 1) := by decide +kernel
theorem dX1_addLatest_77 : decode cX1_addLatest 77 = .ok (.getfield 39, 3) := by decide +kernel
theorem dX1_addLatest_80 : decode cX1_addLatest 80 = .ok (.iload_n 3, 1) := by decide +kernel
theorem dX1_addLatest_81 : decode cX1_addLatest 81 = .ok (.iaload, 1) := by decide +kernel
theorem dX1_addLatest_82 : decode cX1_addLatest 82 = .ok (.iastore, 1) := by decide +kernel
theorem dX1_addLatest_83 : decode cX1_addLatest 83 = .ok (.iinc 3 1, 3) := by decide +kernel
theorem dX1_addLatest_86 : decode cX1_addLatest 86 = .ok (.goto (-20), 3) := by decide +kernel
theorem dX1_addLatest_89 : decode cX1_addLatest 89 = .ok (.return_, 1) := by decide +kernel
theorem dX1_dropLatest_0 : decode cX1_dropLatest 0 = .ok (.aload_n 0, 1) := by decide +kernel
theorem dX1_dropLatest_1 : decode cX1_dropLatest 1 = .ok (.dup, 1) := by decide +kernel
theorem dX1_dropLatest_2 : decode cX1_dropLatest 2 = .ok (.getfield 26, 3) := by decide +kernel
theorem dX1_dropLatest_5 : decode cX1_dropLatest 5 = .ok (.iconst 1, 1) := by decide +kernel
theorem dX1_dropLatest_6 : decode cX1_dropLatest 6 = .ok (.isub, 1) := by decide +kernel
theorem dX1_dropLatest_7 : decode cX1_dropLatest 7 = .ok (.putfield 26, 3) := by decide +kernel
theorem dX1_dropLatest_10 : decode cX1_dropLatest 10 = .ok (.return_, 1) := by decide +kernel
theorem dX2_init_0 : decode cX2_init 0 = .ok (.aload_n 0, 1) := by decide +kernel
theorem dX2_init_1 : decode cX2_init 1 = .ok (.invokespecial 3, 3) := by decide +kernel
theorem dX2_init_4 : decode cX2_init 4 = .ok (.aload_n 0, 1) := by decide +kernel
theorem dX2_init_5 : decode cX2_init 5 = .ok (.sipush 128, 3) := by decide +kernel
theorem dX2_init_8 : decode cX2_init 8 = .ok (.newarray .int, 2) := by decide +kernel
theorem dX2_init_10 : decode cX2_init 10 = .ok (.putfield 9, 3) := by decide +kernel
theorem dX2_init_13 : decode cX2_init 13 = .ok (.aload_n 0, 1) := by decide +kernel
theorem dX2_init_14 : decode cX2_init 14 = .ok (.bipush 16, 2) := by decide +kernel
theorem dX2_init_16 : decode cX2_init 16 = .ok (.newarray .int, 2) := by decide +kernel
theorem dX2_init_18 : decode cX2_init 18 = .ok (.putfield 15, 3) := by decide +kernel
theorem dX2_init_21 : decode cX2_init 21 = .ok (.return_, 1) := by decide +kernel
theorem dX2_layDry_0 : decode cX2_layDry 0 = .ok (.aload_n 0, 1) := by decide +kernel
theorem dX2_layDry_1 : decode cX2_layDry 1 = .ok (.iconst 1, 1) := by decide +kernel
theorem dX2_layDry_2 : decode cX2_layDry 2 = .ok (.iload_n 1, 1) := by decide +kernel
theorem dX2_layDry_3 : decode cX2_layDry 3 = .ok (.bipush 8, 2) := by decide +kernel
theorem dX2_layDry_5 : decode cX2_layDry 5 = .ok (.invokestatic 18, 3) := by decide +kernel
theorem dX2_layDry_8 : decode cX2_layDry 8 = .ok (.invokestatic 24, 3) := by decide +kernel
theorem dX2_layDry_11 : decode cX2_layDry 11 = .ok (.putfield 27, 3) := by decide +kernel
theorem dX2_layDry_14 : decode cX2_layDry 14 = .ok (.aload_n 0, 1) := by decide +kernel
theorem dX2_layDry_15 : decode cX2_layDry 15 = .ok (.iconst 1, 1) := by decide +kernel
theorem dX2_layDry_16 : decode cX2_layDry 16 = .ok (.iload_n 2, 1) := by decide +kernel
theorem dX2_layDry_17 : decode cX2_layDry 17 = .ok (.bipush 16, 2) := by decide +kernel
theorem dX2_layDry_19 : decode cX2_layDry 19 = .ok (.invokestatic 18, 3) := by decide +kernel
theorem dX2_layDry_22 : decode cX2_layDry 22 = .ok (.invokestatic 24, 3) := by decide +kernel
theorem dX2_layDry_25 : decode cX2_layDry 25 = .ok (.putfield 31, 3) := by decide +kernel
theorem dX2_layDry_28 : decode cX2_layDry 28 = .ok (.iconst 0, 1) := by decide +kernel
theorem dX2_layDry_29 : decode cX2_layDry 29 = .ok (.istore_n 3, 1) := by decide +kernel
theorem dX2_layDry_30 : decode cX2_layDry 30 = .ok (.iload_n 3, 1) := by decide +kernel
theorem dX2_layDry_31 : decode cX2_layDry 31 = .ok (.aload_n 0, 1) := by decide +kernel
theorem dX2_layDry_32 : decode cX2_layDry 32 = .ok (.getfield 9, 3) := by decide +kernel
theorem dX2_layDry_35 : decode cX2_layDry 35 = .ok (.arraylength, 1) := by decide +kernel
theorem dX2_layDry_36 : decode cX2_layDry 36 = .ok (.if_icmp .ge 16, 3) := by decide +kernel
theorem dX2_layDry_39 : decode cX2_layDry 39 = .ok (.aload_n 0, 1) := by decide +kernel
theorem dX2_layDry_40 : decode cX2_layDry 40 = .ok (.getfield 9, 3) := by decide +kernel
theorem dX2_layDry_43 : decode cX2_layDry 43 = .ok (.iload_n 3, 1) := by decide +kernel
theorem dX2_layDry_44 : decode cX2_layDry 44 = .ok (.iconst 0, 1) := by decide +kernel
theorem dX2_layDry_45 : decode cX2_layDry 45 = .ok (.iastore, 1) := by decide +kernel
theorem dX2_layDry_46 : decode cX2_layDry 46 = .ok (.iinc 3 1, 3) := by decide +kernel
theorem dX2_layDry_49 : decode cX2_layDry 49 = .ok (.goto (-19), 3) := by decide +kernel
theorem dX2_layDry_52 : decode cX2_layDry 52 = .ok (.iconst 0, 1) := by decide +kernel
theorem dX2_layDry_53 : decode cX2_layDry 53 = .ok (.istore_n 3, 1) := by decide +kernel
theorem dX2_layDry_54 : decode cX2_layDry 54 = .ok (.iload_n 3, 1) := by decide +kernel
theorem dX2_layDry_55 : decode cX2_layDry 55 = .ok (.aload_n 0, 1) := by decide +kernel
theorem dX2_layDry_56 : decode cX2_layDry 56 = .ok (.getfield 15, 3) := by decide +kernel
theorem dX2_layDry_59 : decode cX2_layDry 59 = .ok (.arraylength, 1) := by decide +kernel
theorem dX2_layDry_60 : decode cX2_layDry 60 = .ok (.if_icmp .ge 17, 3) := by decide +kernel
theorem dX2_layDry_63 : decode cX2_layDry 63 = .ok (.aload_n 0, 1) := by decide +kernel
theorem dX2_layDry_64 : decode cX2_layDry 64 = .ok (.getfield 15, 3) := by decide +kernel
theorem dX2_layDry_67 : decode cX2_layDry 67 = .ok (.iload_n 3, 1) := by decide +kernel
theorem dX2_layDry_68 : decode cX2_layDry 68 = .ok (.bipush 50, 2) := by decide +kernel
theorem dX2_layDry_70 : decode cX2_layDry 70 = .ok (.iastore, 1) := by decide +kernel
theorem dX2_layDry_71 : decode cX2_layDry 71 = .ok (.iinc 3 1, 3) := by decide +kernel
theorem dX2_layDry_74 : decode cX2_layDry 74 = .ok (.goto (-20), 3) := by decide +kernel
theorem dX2_layDry_77 : decode cX2_layDry 77 = .ok (.return_, 1) := by decide +kernel
theorem dX2_copyFrom_0 : decode cX2_copyFrom 0 = .ok (.aload_n 0, 1) := by decide +kernel
theorem dX2_copyFrom_1 : decode cX2_copyFrom 1 = .ok (.aload_n 1, 1) := by decide +kernel
theorem dX2_copyFrom_2 : decode cX2_copyFrom 2 = .ok (.getfield 27, 3) := by decide +kernel
theorem dX2_copyFrom_5 : decode cX2_copyFrom 5 = .ok (.putfield 27, 3) := by decide +kernel
theorem dX2_copyFrom_8 : decode cX2_copyFrom 8 = .ok (.aload_n 0, 1) := by decide +kernel
theorem dX2_copyFrom_9 : decode cX2_copyFrom 9 = .ok (.aload_n 1, 1) := by decide +kernel
theorem dX2_copyFrom_10 : decode cX2_copyFrom 10 = .ok (.getfield 31, 3) := by decide +kernel
theorem dX2_copyFrom_13 : decode cX2_copyFrom 13 = .ok (.putfield 31, 3) := by decide +kernel
theorem dX2_copyFrom_16 : decode cX2_copyFrom 16 = .ok (.aload_n 0, 1) := by decide +kernel
theorem dX2_copyFrom_17 : decode cX2_copyFrom 17 = .ok (.aload_n 1, 1) := by decide +kernel
theorem dX2_copyFrom_18 : decode cX2_copyFrom 18 = .ok (.getfield 34, 3) := by decide +kernel
theorem dX2_copyFrom_21 : decode cX2_copyFrom 21 = .ok (.putfield 34, 3) := by decide +kernel
theorem dX2_copyFrom_24 : decode cX2_copyFrom 24 = .ok (.iconst 0, 1) := by decide +kernel
theorem dX2_copyFrom_25 : decode cX2_copyFrom 25 = .ok (.istore_n 2, 1) := by decide +kernel
theorem dX2_copyFrom_26 : decode cX2_copyFrom 26 = .ok (.iload_n 2, 1) := by decide +kernel
theorem dX2_copyFrom_27 : decode cX2_copyFrom 27 = .ok (.aload_n 0, 1) := by decide +kernel
theorem dX2_copyFrom_28 : decode cX2_copyFrom 28 = .ok (.invokevirtual 37, 3) := by decide +kernel
theorem dX2_copyFrom_31 : decode cX2_copyFrom 31 = .ok (.if_icmp .ge 21, 3) := by decide +kernel
theorem dX2_copyFrom_34 : decode cX2_copyFrom 34 = .ok (.aload_n 0, 1) := by decide +kernel
theorem dX2_copyFrom_35 : decode cX2_copyFrom 35 = .ok (.getfield 9, 3) := by decide +kernel
theorem dX2_copyFrom_38 : decode cX2_copyFrom 38 = .ok (.iload_n 2, 1) := by decide +kernel
theorem dX2_copyFrom_39 : decode cX2_copyFrom 39 = .ok (.aload_n 1, 1) := by decide +kernel
theorem dX2_copyFrom_40 : decode cX2_copyFrom 40 = .ok (.getfield 9, 3) := by decide +kernel
theorem dX2_copyFrom_43 : decode cX2_copyFrom 43 = .ok (.iload_n 2, 1) := by decide +kernel
theorem dX2_copyFrom_44 : decode cX2_copyFrom 44 = .ok (.iaload, 1) := by decide +kernel
theorem dX2_copyFrom_45 : decode cX2_copyFrom 45 = .ok (.iastore, 1) := by decide +kernel
theorem dX2_copyFrom_46 : decode cX2_copyFrom 46 = .ok (.iinc 2 1, 3) := by decide +kernel
theorem dX2_copyFrom_49 : decode cX2_copyFrom 49 = .ok (.goto (-23), 3) := by decide +kernel
theorem dX2_copyFrom_52 : decode cX2_copyFrom 52 = .ok (.iconst 0, 1) := by decide +kernel
theorem dX2_copyFrom_53 : decode cX2_copyFrom 53 = .ok (.istore_n 2, 1) := by decide +kernel
theorem dX2_copyFrom_54 : decode cX2_copyFrom 54 = .ok (.iload_n 2, 1) := by decide +kernel
theorem dX2_copyFrom_55 : decode cX2_copyFrom 55 = .ok (.aload_n 0, 1) := by decide +kernel
theorem dX2_copyFrom_56 : decode cX2_copyFrom 56 = .ok (.getfield 31, 3) := by decide +kernel
theorem dX2_copyFrom_59 : decode cX2_copyFrom 59 = .ok (.if_icmp .ge 21, 3) := by decide +kernel
theorem dX2_copyFrom_62 : decode cX2_copyFrom 62 = .ok (.aload_n 0, 1) := by decide +kernel
theorem dX2_copyFrom_63 : decode cX2_copyFrom 63 = .ok (.getfield 15, 3) := by decide +kernel
theorem dX2_copyFrom_66 : decode cX2_copyFrom 66 = .ok (.iload_n 2, 1) := by decide +kernel
theorem dX2_copyFrom_67 : decode cX2_copyFrom 67 = .ok (.aload_n 1, 1) := by decide +kernel
theorem dX2_copyFrom_68 : decode cX2_copyFrom 68 = .ok (.getfield 15, 3) := by decide +kernel
theorem dX2_copyFrom_71 : decode cX2_copyFrom 71 = .ok (.iload_n 2, 1) := by decide +kernel
theorem dX2_copyFrom_72 : decode cX2_copyFrom 72 = .ok (.iaload, 1) := by decide +kernel
theorem dX2_copyFrom_73 : decode cX2_copyFrom 73 = .ok (.iastore, 1) := by decide +kernel
theorem dX2_copyFrom_74 : decode cX2_copyFrom 74 = .ok (.iinc 2 1, 3) := by decide +kernel
theorem dX2_copyFrom_77 : decode cX2_copyFrom 77 = .ok (.goto (-23), 3) := by decide +kernel
theorem dX2_copyFrom_80 : decode cX2_copyFrom 80 = .ok (.return_, 1) := by decide +kernel
theorem dX2_puddleCount_0 : decode cX2_puddleCount 0 = .ok (.aload_n 0, 1) := by decide +kernel
theorem dX2_puddleCount_1 : decode cX2_puddleCount 1 = .ok (.getfield 27, 3) := by decide +kernel
theorem dX2_puddleCount_4 : decode cX2_puddleCount 4 = .ok (.aload_n 0, 1) := by decide +kernel
theorem dX2_puddleCount_5 : decode cX2_puddleCount 5 = .ok (.getfield 31, 3) := by decide +kernel
theorem dX2_puddleCount_8 : decode cX2_puddleCount 8 = .ok (.imul, 1) := by decide +kernel
theorem dX2_puddleCount_9 : decode cX2_puddleCount 9 = .ok (.ireturn, 1) := by decide +kernel
theorem dX2_numberOf_0 : decode cX2_numberOf 0 = .ok (.iload_n 1, 1) := by decide +kernel
theorem dX2_numberOf_1 : decode cX2_numberOf 1 = .ok (.aload_n 0, 1) := by decide +kernel
theorem dX2_numberOf_2 : decode cX2_numberOf 2 = .ok (.getfield 31, 3) := by decide +kernel
theorem dX2_numberOf_5 : decode cX2_numberOf 5 = .ok (.imul, 1) := by decide +kernel
theorem dX2_numberOf_6 : decode cX2_numberOf 6 = .ok (.iload_n 2, 1) := by decide +kernel
theorem dX2_numberOf_7 : decode cX2_numberOf 7 = .ok (.iadd, 1) := by decide +kernel
theorem dX2_numberOf_8 : decode cX2_numberOf 8 = .ok (.ireturn, 1) := by decide +kernel
theorem dX2_level_0 : decode cX2_level 0 = .ok (.aload_n 0, 1) := by decide +kernel
theorem dX2_level_1 : decode cX2_level 1 = .ok (.getfield 9, 3) := by decide +kernel
theorem dX2_level_4 : decode cX2_level 4 = .ok (.aload_n 0, 1) := by decide +kernel
theorem dX2_level_5 : decode cX2_level 5 = .ok (.iload_n 1, 1) := by decide +kernel
theorem dX2_level_6 : decode cX2_level 6 = .ok (.iload_n 2, 1) := by decide +kernel
theorem dX2_level_7 : decode cX2_level 7 = .ok (.invokevirtual 41, 3) := by decide +kernel
theorem dX2_level_10 : decode cX2_level 10 = .ok (.iaload, 1) := by decide +kernel
theorem dX2_level_11 : decode cX2_level 11 = .ok (.ireturn, 1) := by decide +kernel
theorem dX2_add_0 : decode cX2_add 0 = .ok (.aload_n 0, 1) := by decide +kernel
theorem dX2_add_1 : decode cX2_add 1 = .ok (.getfield 9, 3) := by decide +kernel
theorem dX2_add_4 : decode cX2_add 4 = .ok (.aload_n 0, 1) := by decide +kernel
theorem dX2_add_5 : decode cX2_add 5 = .ok (.iload_n 1, 1) := by decide +kernel
theorem dX2_add_6 : decode cX2_add 6 = .ok (.iload_n 2, 1) := by decide +kernel
theorem dX2_add_7 : decode cX2_add 7 = .ok (.invokevirtual 41, 3) := by decide +kernel
theorem dX2_add_10 : decode cX2_add 10 = .ok (.dup2, 1) := by decide +kernel
theorem dX2_add_11 : decode cX2_add 11 = .ok (.iaload, 1) := by decide +kernel
theorem dX2_add_12 : decode cX2_add 12 = .ok (.iload_n 3, 1) := by decide +kernel
theorem dX2_add_13 : decode cX2_add 13 = .ok (.iadd, 1) := by decide +kernel
theorem dX2_add_14 : decode cX2_add 14 = .ok (.iastore, 1) := by decide +kernel
theorem dX2_add_15 : decode cX2_add 15 = .ok (.return_, 1) := by decide +kernel
theorem dX2_exchange_0 : decode cX2_exchange 0 = .ok (.aload_n 0, 1) := by decide +kernel
theorem dX2_exchange_1 : decode cX2_exchange 1 = .ok (.getfield 9, 3) := by decide +kernel
theorem dX2_exchange_4 : decode cX2_exchange 4 = .ok (.iload_n 1, 1) := by decide +kernel
theorem dX2_exchange_5 : decode cX2_exchange 5 = .ok (.iaload, 1) := by decide +kernel
theorem dX2_exchange_6 : decode cX2_exchange 6 = .ok (.istore_n 3, 1) := by decide +kernel
theorem dX2_exchange_7 : decode cX2_exchange 7 = .ok (.aload_n 0, 1) := by decide +kernel
theorem dX2_exchange_8 : decode cX2_exchange 8 = .ok (.getfield 9, 3) := by decide +kernel
theorem dX2_exchange_11 : decode cX2_exchange 11 = .ok (.iload_n 1, 1) := by decide +kernel
theorem dX2_exchange_12 : decode cX2_exchange 12 = .ok (.aload_n 0, 1) := by decide +kernel
theorem dX2_exchange_13 : decode cX2_exchange 13 = .ok (.getfield 9, 3) := by decide +kernel
theorem dX2_exchange_16 : decode cX2_exchange 16 = .ok (.iload_n 2, 1) := by decide +kernel
theorem dX2_exchange_17 : decode cX2_exchange 17 = .ok (.iaload, 1) := by decide +kernel
theorem dX2_exchange_18 : decode cX2_exchange 18 = .ok (.iastore, 1) := by decide +kernel
theorem dX2_exchange_19 : decode cX2_exchange 19 = .ok (.aload_n 0, 1) := by decide +kernel
theorem dX2_exchange_20 : decode cX2_exchange 20 = .ok (.getfield 9, 3) := by decide +kernel
theorem dX2_exchange_23 : decode cX2_exchange 23 = .ok (.iload_n 2, 1) := by decide +kernel
theorem dX2_exchange_24 : decode cX2_exchange 24 = .ok (.iload_n 3, 1) := by decide +kernel
theorem dX2_exchange_25 : decode cX2_exchange 25 = .ok (.iastore, 1) := by decide +kernel
theorem dX2_exchange_26 : decode cX2_exchange 26 = .ok (.return_, 1) := by decide +kernel
theorem dX2_changedFrom_0 : decode cX2_changedFrom 0 = .ok (.iconst 0, 1) := by decide +kernel
theorem dX2_changedFrom_1 : decode cX2_changedFrom 1 = .ok (.istore_n 2, 1) := by decide +kernel
theorem dX2_changedFrom_2 : decode cX2_changedFrom 2 = .ok (.iconst 0, 1) := by decide +kernel
theorem dX2_changedFrom_3 : decode cX2_changedFrom 3 = .ok (.istore_n 3, 1) := by decide +kernel
theorem dX2_changedFrom_4 : decode cX2_changedFrom 4 = .ok (.iload_n 3, 1) := by decide +kernel
theorem dX2_changedFrom_5 : decode cX2_changedFrom 5 = .ok (.aload_n 0, 1) := by decide +kernel
theorem dX2_changedFrom_6 : decode cX2_changedFrom 6 = .ok (.invokevirtual 37, 3) := by decide +kernel
theorem dX2_changedFrom_9 : decode cX2_changedFrom 9 = .ok (.if_icmp .ge 24, 3) := by decide +kernel
theorem dX2_changedFrom_12 : decode cX2_changedFrom 12 = .ok (.aload_n 0, 1) := by decide +kernel
theorem dX2_changedFrom_13 : decode cX2_changedFrom 13 = .ok (.getfield 9, 3) := by decide +kernel
theorem dX2_changedFrom_16 : decode cX2_changedFrom 16 = .ok (.iload_n 3, 1) := by decide +kernel
theorem dX2_changedFrom_17 : decode cX2_changedFrom 17 = .ok (.iaload, 1) := by decide +kernel
theorem dX2_changedFrom_18 : decode cX2_changedFrom 18 = .ok (.aload_n 1, 1) := by decide +kernel
theorem dX2_changedFrom_19 : decode cX2_changedFrom 19 = .ok (.iload_n 3, 1) := by decide +kernel
theorem dX2_changedFrom_20 : decode cX2_changedFrom 20 = .ok (.iaload, 1) := by decide +kernel
theorem dX2_changedFrom_21 : decode cX2_changedFrom 21 = .ok (.if_icmp .eq 6, 3) := by decide +kernel
theorem dX2_changedFrom_24 : decode cX2_changedFrom 24 = .ok (.iinc 2 1, 3) := by decide +kernel
theorem dX2_changedFrom_27 : decode cX2_changedFrom 27 = .ok (.iinc 3 1, 3) := by decide +kernel
theorem dX2_changedFrom_30 : decode cX2_changedFrom 30 = .ok (.goto (-26), 3) := by decide +kernel
theorem dX2_changedFrom_33 : decode cX2_changedFrom 33 = .ok (.iload_n 2, 1) := by decide +kernel
theorem dX2_changedFrom_34 : decode cX2_changedFrom 34 = .ok (.ireturn, 1) := by decide +kernel
theorem dX2_takeFrom_0 : decode cX2_takeFrom 0 = .ok (.aload_n 0, 1) := by decide +kernel
theorem dX2_takeFrom_1 : decode cX2_takeFrom 1 = .ok (.aload_n 1, 1) := by decide +kernel
theorem dX2_takeFrom_2 : decode cX2_takeFrom 2 = .ok (.invokevirtual 44, 3) := by decide +kernel
theorem dX2_takeFrom_5 : decode cX2_takeFrom 5 = .ok (.istore_n 2, 1) := by decide +kernel
theorem dX2_takeFrom_6 : decode cX2_takeFrom 6 = .ok (.iconst 0, 1) := by decide +kernel
theorem dX2_takeFrom_7 : decode cX2_takeFrom 7 = .ok (.istore_n 3, 1) := by decide +kernel
theorem dX2_takeFrom_8 : decode cX2_takeFrom 8 = .ok (.iload_n 3, 1) := by decide +kernel
theorem dX2_takeFrom_9 : decode cX2_takeFrom 9 = .ok (.aload_n 0, 1) := by decide +kernel
theorem dX2_takeFrom_10 : decode cX2_takeFrom 10 = .ok (.invokevirtual 37, 3) := by decide +kernel
theorem dX2_takeFrom_13 : decode cX2_takeFrom 13 = .ok (.if_icmp .ge 18, 3) := by decide +kernel
theorem dX2_takeFrom_16 : decode cX2_takeFrom 16 = .ok (.aload_n 0, 1) := by decide +kernel
theorem dX2_takeFrom_17 : decode cX2_takeFrom 17 = .ok (.getfield 9, 3) := by decide +kernel
theorem dX2_takeFrom_20 : decode cX2_takeFrom 20 = .ok (.iload_n 3, 1) := by decide +kernel
theorem dX2_takeFrom_21 : decode cX2_takeFrom 21 = .ok (.aload_n 1, 1) := by decide +kernel
theorem dX2_takeFrom_22 : decode cX2_takeFrom 22 = .ok (.iload_n 3, 1) := by decide +kernel
theorem dX2_takeFrom_23 : decode cX2_takeFrom 23 = .ok (.iaload, 1) := by decide +kernel
theorem dX2_takeFrom_24 : decode cX2_takeFrom 24 = .ok (.iastore, 1) := by decide +kernel
theorem dX2_takeFrom_25 : decode cX2_takeFrom 25 = .ok (.iinc 3 1, 3) := by decide +kernel
theorem dX2_takeFrom_28 : decode cX2_takeFrom 28 = .ok (.goto (-20), 3) := by decide +kernel
theorem dX2_takeFrom_31 : decode cX2_takeFrom 31 = .ok (.iload_n 2, 1) := by decide +kernel
theorem dX2_takeFrom_32 : decode cX2_takeFrom 32 = .ok (.ireturn, 1) := by decide +kernel
theorem dX2_alikeSteps_0 : decode cX2_alikeSteps 0 = .ok (.iconst 0, 1) := by decide +kernel
theorem dX2_alikeSteps_1 : decode cX2_alikeSteps 1 = .ok (.istore_n 3, 1) := by decide +kernel
theorem dX2_alikeSteps_2 : decode cX2_alikeSteps 2 = .ok (.iconst 0, 1) := by decide +kernel
theorem dX2_alikeSteps_3 : decode cX2_alikeSteps 3 = .ok (.istore 4, 2) := by decide +kernel
theorem dX2_alikeSteps_5 : decode cX2_alikeSteps 5 = .ok (.iload 4, 2) := by decide +kernel
theorem dX2_alikeSteps_7 : decode cX2_alikeSteps 7 = .ok (.aload_n 0, 1) := by decide +kernel
theorem dX2_alikeSteps_8 : decode cX2_alikeSteps 8 = .ok (.getfield 31, 3) := by decide +kernel
theorem dX2_alikeSteps_11 : decode cX2_alikeSteps 11 = .ok (.if_icmp .ge 29, 3) := by decide +kernel
theorem dX2_alikeSteps_14 : decode cX2_alikeSteps 14 = .ok (.aload_n 0, 1) := by decide +kernel
theorem dX2_alikeSteps_15 : decode cX2_alikeSteps 15 = .ok (.iload_n 1, 1) := by decide +kernel
theorem dX2_alikeSteps_16 : decode cX2_alikeSteps 16 = .ok (.iload 4, 2) := by decide +kernel
theorem dX2_alikeSteps_18 : decode cX2_alikeSteps 18 = .ok (.invokevirtual 48, 3) := by decide +kernel
theorem dX2_alikeSteps_21 : decode cX2_alikeSteps 21 = .ok (.aload_n 0, 1) := by decide +kernel
theorem dX2_alikeSteps_22 : decode cX2_alikeSteps 22 = .ok (.iload_n 2, 1) := by decide +kernel
theorem dX2_alikeSteps_23 : decode cX2_alikeSteps 23 = .ok (.iload 4, 2) := by decide +kernel
theorem dX2_alikeSteps_25 : decode cX2_alikeSteps 25 = .ok (.invokevirtual 48, 3) := by decide +kernel
theorem dX2_alikeSteps_28 : decode cX2_alikeSteps 28 = .ok (.if_icmp .ne 6, 3) := by decide +kernel
theorem dX2_alikeSteps_31 : decode cX2_alikeSteps 31 = .ok (.iinc 3 1, 3) := by decide +kernel
theorem dX2_alikeSteps_34 : decode cX2_alikeSteps 34 = .ok (.iinc 4 1, 3) := by decide +kernel
theorem dX2_alikeSteps_37 : decode cX2_alikeSteps 37 = .ok (.goto (-32), 3) := by decide +kernel
theorem dX2_alikeSteps_40 : decode cX2_alikeSteps 40 = .ok (.iload_n 3, 1) := by decide +kernel
theorem dX2_alikeSteps_41 : decode cX2_alikeSteps 41 = .ok (.ireturn, 1) := by decide +kernel
theorem dX2_partSum_0 : decode cX2_partSum 0 = .ok (.lconst 0, 1) := by decide +kernel
theorem dX2_partSum_1 : decode cX2_partSum 1 = .ok (.lstore 5, 2) := by decide +kernel
theorem dX2_partSum_3 : decode cX2_partSum 3 = .ok (.iload_n 1, 1) := by decide +kernel
theorem dX2_partSum_4 : decode cX2_partSum 4 = .ok (.istore 7, 2) := by decide +kernel
theorem dX2_partSum_6 : decode cX2_partSum 6 = .ok (.iload 7, 2) := by decide +kernel
theorem dX2_partSum_8 : decode cX2_partSum 8 = .ok (.iload_n 3, 1) := by decide +kernel
theorem dX2_partSum_9 : decode cX2_partSum 9 = .ok (.if_icmp .gt 39, 3) := by decide +kernel
theorem dX2_partSum_12 : decode cX2_partSum 12 = .ok (.iload_n 2, 1) := by decide +kernel
theorem dX2_partSum_13 : decode cX2_partSum 13 = .ok (.istore 8, 2) := by decide +kernel
theorem dX2_partSum_15 : decode cX2_partSum 15 = .ok (.iload 8, 2) := by decide +kernel
theorem dX2_partSum_17 : decode cX2_partSum 17 = .ok (.iload 4, 2) := by decide +kernel
theorem dX2_partSum_19 : decode cX2_partSum 19 = .ok (.if_icmp .gt 23, 3) := by decide +kernel
theorem dX2_partSum_22 : decode cX2_partSum 22 = .ok (.lload 5, 2) := by decide +kernel
theorem dX2_partSum_24 : decode cX2_partSum 24 = .ok (.aload_n 0, 1) := by decide +kernel
theorem dX2_partSum_25 : decode cX2_partSum 25 = .ok (.iload 7, 2) := by decide +kernel
theorem dX2_partSum_27 : decode cX2_partSum 27 = .ok (.iload 8, 2) := by decide +kernel
theorem dX2_partSum_29 : decode cX2_partSum 29 = .ok (.invokevirtual 48, 3) := by decide +kernel
theorem dX2_partSum_32 : decode cX2_partSum 32 = .ok (.i2l, 1) := by decide +kernel
theorem dX2_partSum_33 : decode cX2_partSum 33 = .ok (.ladd, 1) := by decide +kernel
theorem dX2_partSum_34 : decode cX2_partSum 34 = .ok (.lstore 5, 2) := by decide +kernel
theorem dX2_partSum_36 : decode cX2_partSum 36 = .ok (.iinc 8 1, 3) := by decide +kernel
theorem dX2_partSum_39 : decode cX2_partSum 39 = .ok (.goto (-24), 3) := by decide +kernel
theorem dX2_partSum_42 : decode cX2_partSum 42 = .ok (.iinc 7 1, 3) := by decide +kernel
theorem dX2_partSum_45 : decode cX2_partSum 45 = .ok (.goto (-39), 3) := by decide +kernel
theorem dX2_partSum_48 : decode cX2_partSum 48 = .ok (.lload 5, 2) := by decide +kernel
theorem dX2_partSum_50 : decode cX2_partSum 50 = .ok (.lreturn, 1) := by decide +kernel
theorem dX2_wholeSum_0 : decode cX2_wholeSum 0 = .ok (.aload_n 0, 1) := by decide +kernel
theorem dX2_wholeSum_1 : decode cX2_wholeSum 1 = .ok (.iconst 0, 1) := by decide +kernel
theorem dX2_wholeSum_2 : decode cX2_wholeSum 2 = .ok (.iconst 0, 1) := by decide +kernel
theorem dX2_wholeSum_3 : decode cX2_wholeSum 3 = .ok (.aload_n 0, 1) := by decide +kernel
theorem dX2_wholeSum_4 : decode cX2_wholeSum 4 = .ok (.getfield 27, 3) := by decide +kernel
theorem dX2_wholeSum_7 : decode cX2_wholeSum 7 = .ok (.iconst 1, 1) := by decide +kernel
theorem dX2_wholeSum_8 : decode cX2_wholeSum 8 = .ok (.isub, 1) := by decide +kernel
theorem dX2_wholeSum_9 : decode cX2_wholeSum 9 = .ok (.aload_n 0, 1) := by decide +kernel
theorem dX2_wholeSum_10 : decode cX2_wholeSum 10 = .ok (.getfield 31, 3) := by decide +kernel
theorem dX2_wholeSum_13 : decode cX2_wholeSum 13 = .ok (.iconst 1, 1) := by decide +kernel
theorem dX2_wholeSum_14 : decode cX2_wholeSum 14 = .ok (.isub, 1) := by decide +kernel
theorem dX2_wholeSum_15 : decode cX2_wholeSum 15 = .ok (.invokevirtual 51, 3) := by decide +kernel
theorem dX2_wholeSum_18 : decode cX2_wholeSum 18 = .ok (.lreturn, 1) := by decide +kernel
theorem dX2_dryInPart_0 : decode cX2_dryInPart 0 = .ok (.iconst 0, 1) := by decide +kernel
theorem dX2_dryInPart_1 : decode cX2_dryInPart 1 = .ok (.istore 5, 2) := by decide +kernel
theorem dX2_dryInPart_3 : decode cX2_dryInPart 3 = .ok (.iload_n 1, 1) := by decide +kernel
theorem dX2_dryInPart_4 : decode cX2_dryInPart 4 = .ok (.istore 6, 2) := by decide +kernel
theorem dX2_dryInPart_6 : decode cX2_dryInPart 6 = .ok (.iload 6, 2) := by decide +kernel
theorem dX2_dryInPart_8 : decode cX2_dryInPart 8 = .ok (.iload_n 3, 1) := by decide +kernel
theorem dX2_dryInPart_9 : decode cX2_dryInPart 9 = .ok (.if_icmp .gt 39, 3) := by decide +kernel
theorem dX2_dryInPart_12 : decode cX2_dryInPart 12 = .ok (.iload_n 2, 1) := by decide +kernel
theorem dX2_dryInPart_13 : decode cX2_dryInPart 13 = .ok (.istore 7, 2) := by decide +kernel
theorem dX2_dryInPart_15 : decode cX2_dryInPart 15 = .ok (.iload 7, 2) := by decide +kernel
theorem dX2_dryInPart_17 : decode cX2_dryInPart 17 = .ok (.iload 4, 2) := by decide +kernel
theorem dX2_dryInPart_19 : decode cX2_dryInPart 19 = .ok (.if_icmp .gt 23, 3) := by decide +kernel
theorem dX2_dryInPart_22 : decode cX2_dryInPart 22 = .ok (.aload_n 0, 1) := by decide +kernel
theorem dX2_dryInPart_23 : decode cX2_dryInPart 23 = .ok (.iload 6, 2) := by decide +kernel
theorem dX2_dryInPart_25 : decode cX2_dryInPart 25 = .ok (.iload 7, 2) := by decide +kernel
theorem dX2_dryInPart_27 : decode cX2_dryInPart 27 = .ok (.invokevirtual 48, 3) := by decide +kernel
theorem dX2_dryInPart_30 : decode cX2_dryInPart 30 = .ok (.ifCond .gt 6, 3) := by decide +kernel
theorem dX2_dryInPart_33 : decode cX2_dryInPart 33 = .ok (.iinc 5 1, 3) := by decide +kernel
theorem dX2_dryInPart_36 : decode cX2_dryInPart 36 = .ok (.iinc 7 1, 3) := by decide +kernel
theorem dX2_dryInPart_39 : decode cX2_dryInPart 39 = .ok (.goto (-24), 3) := by decide +kernel
theorem dX2_dryInPart_42 : decode cX2_dryInPart 42 = .ok (.iinc 6 1, 3) := by decide +kernel
theorem dX2_dryInPart_45 : decode cX2_dryInPart 45 = .ok (.goto (-39), 3) := by decide +kernel
theorem dX2_dryInPart_48 : decode cX2_dryInPart 48 = .ok (.iload 5, 2) := by decide +kernel
theorem dX2_dryInPart_50 : decode cX2_dryInPart 50 = .ok (.ireturn, 1) := by decide +kernel
theorem dX2_upToLevel_0 : decode cX2_upToLevel 0 = .ok (.iconst 0, 1) := by decide +kernel
theorem dX2_upToLevel_1 : decode cX2_upToLevel 1 = .ok (.istore_n 2, 1) := by decide +kernel
theorem dX2_upToLevel_2 : decode cX2_upToLevel 2 = .ok (.iconst 0, 1) := by decide +kernel
theorem dX2_upToLevel_3 : decode cX2_upToLevel 3 = .ok (.istore_n 3, 1) := by decide +kernel
theorem dX2_upToLevel_4 : decode cX2_upToLevel 4 = .ok (.iload_n 3, 1) := by decide +kernel
theorem dX2_upToLevel_5 : decode cX2_upToLevel 5 = .ok (.aload_n 0, 1) := by decide +kernel
theorem dX2_upToLevel_6 : decode cX2_upToLevel 6 = .ok (.invokevirtual 37, 3) := by decide +kernel
theorem dX2_upToLevel_9 : decode cX2_upToLevel 9 = .ok (.if_icmp .ge 22, 3) := by decide +kernel
theorem dX2_upToLevel_12 : decode cX2_upToLevel 12 = .ok (.aload_n 0, 1) := by decide +kernel
theorem dX2_upToLevel_13 : decode cX2_upToLevel 13 = .ok (.getfield 9, 3) := by decide +kernel
theorem dX2_upToLevel_16 : decode cX2_upToLevel 16 = .ok (.iload_n 3, 1) := by decide +kernel
theorem dX2_upToLevel_17 : decode cX2_upToLevel 17 = .ok (.iaload, 1) := by decide +kernel
theorem dX2_upToLevel_18 : decode cX2_upToLevel 18 = .ok (.iload_n 1, 1) := by decide +kernel
theorem dX2_upToLevel_19 : decode cX2_upToLevel 19 = .ok (.if_icmp .gt 6, 3) := by decide +kernel
theorem dX2_upToLevel_22 : decode cX2_upToLevel 22 = .ok (.iinc 2 1, 3) := by decide +kernel
theorem dX2_upToLevel_25 : decode cX2_upToLevel 25 = .ok (.iinc 3 1, 3) := by decide +kernel
theorem dX2_upToLevel_28 : decode cX2_upToLevel 28 = .ok (.goto (-24), 3) := by decide +kernel
theorem dX2_upToLevel_31 : decode cX2_upToLevel 31 = .ok (.iload_n 2, 1) := by decide +kernel
theorem dX2_upToLevel_32 : decode cX2_upToLevel 32 = .ok (.ireturn, 1) := by decide +kernel
theorem dX2_highest_0 : decode cX2_highest 0 = .ok (.aload_n 0, 1) := by decide +kernel
theorem dX2_highest_1 : decode cX2_highest 1 = .ok (.getfield 9, 3) := by decide +kernel
theorem dX2_highest_4 : decode cX2_highest 4 = .ok (.iconst 0, 1) := by decide +kernel
theorem dX2_highest_5 : decode cX2_highest 5 = .ok (.iaload, 1) := by decide +kernel
theorem dX2_highest_6 : decode cX2_highest 6 = .ok (.istore_n 1, 1) := by decide +kernel
theorem dX2_highest_7 : decode cX2_highest 7 = .ok (.iconst 1, 1) := by decide +kernel
theorem dX2_highest_8 : decode cX2_highest 8 = .ok (.istore_n 2, 1) := by decide +kernel
theorem dX2_highest_9 : decode cX2_highest 9 = .ok (.iload_n 2, 1) := by decide +kernel
theorem dX2_highest_10 : decode cX2_highest 10 = .ok (.aload_n 0, 1) := by decide +kernel
theorem dX2_highest_11 : decode cX2_highest 11 = .ok (.invokevirtual 37, 3) := by decide +kernel
theorem dX2_highest_14 : decode cX2_highest 14 = .ok (.if_icmp .ge 20, 3) := by decide +kernel
theorem dX2_highest_17 : decode cX2_highest 17 = .ok (.iload_n 1, 1) := by decide +kernel
theorem dX2_highest_18 : decode cX2_highest 18 = .ok (.aload_n 0, 1) := by decide +kernel
theorem dX2_highest_19 : decode cX2_highest 19 = .ok (.getfield 9, 3) := by decide +kernel
theorem dX2_highest_22 : decode cX2_highest 22 = .ok (.iload_n 2, 1) := by decide +kernel
theorem dX2_highest_23 : decode cX2_highest 23 = .ok (.iaload, 1) := by decide +kernel
theorem dX2_highest_24 : decode cX2_highest 24 = .ok (.invokestatic 24, 3) := by decide +kernel
theorem dX2_highest_27 : decode cX2_highest 27 = .ok (.istore_n 1, 1) := by decide +kernel
theorem dX2_highest_28 : decode cX2_highest 28 = .ok (.iinc 2 1, 3) := by decide +kernel
theorem dX2_highest_31 : decode cX2_highest 31 = .ok (.goto (-22), 3) := by decide +kernel
theorem dX2_highest_34 : decode cX2_highest 34 = .ok (.iload_n 1, 1) := by decide +kernel
theorem dX2_highest_35 : decode cX2_highest 35 = .ok (.ireturn, 1) := by decide +kernel
theorem dX2_allDry_0 : decode cX2_allDry 0 = .ok (.aload_n 0, 1) := by decide +kernel
theorem dX2_allDry_1 : decode cX2_allDry 1 = .ok (.iconst 0, 1) := by decide +kernel
theorem dX2_allDry_2 : decode cX2_allDry 2 = .ok (.invokevirtual 55, 3) := by decide +kernel
theorem dX2_allDry_5 : decode cX2_allDry 5 = .ok (.aload_n 0, 1) := by decide +kernel
theorem dX2_allDry_6 : decode cX2_allDry 6 = .ok (.invokevirtual 37, 3) := by decide +kernel
theorem dX2_allDry_9 : decode cX2_allDry 9 = .ok (.if_icmp .ne 7, 3) := by decide +kernel
theorem dX2_allDry_12 : decode cX2_allDry 12 = .ok (.iconst 1, 1) := by decide +kernel
theorem dX2_allDry_13 : decode cX2_allDry 13 = .ok (.goto 4, 3) := by decide +kernel
theorem dX2_allDry_16 : decode cX2_allDry 16 = .ok (.iconst 0, 1) := by decide +kernel
theorem dX2_allDry_17 : decode cX2_allDry 17 = .ok (.ireturn, 1) := by decide +kernel
theorem dX2_flowFor_0 : decode cX2_flowFor 0 = .ok (.iconst 0, 1) := by decide +kernel
theorem dX2_flowFor_1 : decode cX2_flowFor 1 = .ok (.istore_n 2, 1) := by decide +kernel
theorem dX2_flowFor_2 : decode cX2_flowFor 2 = .ok (.iconst 0, 1) := by decide +kernel
theorem dX2_flowFor_3 : decode cX2_flowFor 3 = .ok (.istore_n 3, 1) := by decide +kernel
theorem dX2_flowFor_4 : decode cX2_flowFor 4 = .ok (.iload_n 3, 1) := by decide +kernel
theorem dX2_flowFor_5 : decode cX2_flowFor 5 = .ok (.iload_n 1, 1) := by decide +kernel
theorem dX2_flowFor_6 : decode cX2_flowFor 6 = .ok (.if_icmp .ge 16, 3) := by decide +kernel
theorem dX2_flowFor_9 : decode cX2_flowFor 9 = .ok (.iload_n 2, 1) := by decide +kernel
theorem dX2_flowFor_10 : decode cX2_flowFor 10 = .ok (.aload_n 0, 1) := by decide +kernel
theorem dX2_flowFor_11 : decode cX2_flowFor 11 = .ok (.invokevirtual 59, 3) := by decide +kernel
theorem dX2_flowFor_14 : decode cX2_flowFor 14 = .ok (.iadd, 1) := by decide +kernel
theorem dX2_flowFor_15 : decode cX2_flowFor 15 = .ok (.istore_n 2, 1) := by decide +kernel
theorem dX2_flowFor_16 : decode cX2_flowFor 16 = .ok (.iinc 3 1, 3) := by decide +kernel
theorem dX2_flowFor_19 : decode cX2_flowFor 19 = .ok (.goto (-15), 3) := by decide +kernel
theorem dX2_flowFor_22 : decode cX2_flowFor 22 = .ok (.iload_n 2, 1) := by decide +kernel
theorem dX2_flowFor_23 : decode cX2_flowFor 23 = .ok (.ireturn, 1) := by decide +kernel
theorem dX2_flowOneHour_0 : decode cX2_flowOneHour 0 = .ok (.aload_n 0, 1) := by decide +kernel
theorem dX2_flowOneHour_1 : decode cX2_flowOneHour 1 = .ok (.invokevirtual 62, 3) := by decide +kernel
theorem dX2_flowOneHour_4 : decode cX2_flowOneHour 4 = .ok (.aload_n 0, 1) := by decide +kernel
theorem dX2_flowOneHour_5 : decode cX2_flowOneHour 5 = .ok (.invokevirtual 65, 3) := by decide +kernel
theorem dX2_flowOneHour_8 : decode cX2_flowOneHour 8 = .ok (.ireturn, 1) := by decide +kernel
theorem dX2_dryUp_0 : decode cX2_dryUp 0 = .ok (.aload_n 0, 1) := by decide +kernel
theorem dX2_dryUp_1 : decode cX2_dryUp 1 = .ok (.invokevirtual 37, 3) := by decide +kernel
theorem dX2_dryUp_4 : decode cX2_dryUp 4 = .ok (.istore_n 1, 1) := by decide +kernel
theorem dX2_dryUp_5 : decode cX2_dryUp 5 = .ok (.iconst 0, 1) := by decide +kernel
theorem dX2_dryUp_6 : decode cX2_dryUp 6 = .ok (.istore_n 2, 1) := by decide +kernel
theorem dX2_dryUp_7 : decode cX2_dryUp 7 = .ok (.iload_n 2, 1) := by decide +kernel
theorem dX2_dryUp_8 : decode cX2_dryUp 8 = .ok (.iload_n 1, 1) := by decide +kernel
theorem dX2_dryUp_9 : decode cX2_dryUp 9 = .ok (.if_icmp .ge 36, 3) := by decide +kernel
theorem dX2_dryUp_12 : decode cX2_dryUp 12 = .ok (.aload_n 0, 1) := by decide +kernel
theorem dX2_dryUp_13 : decode cX2_dryUp 13 = .ok (.getfield 9, 3) := by decide +kernel
theorem dX2_dryUp_16 : decode cX2_dryUp 16 = .ok (.iload_n 2, 1) := by decide +kernel
theorem dX2_dryUp_17 : decode cX2_dryUp 17 = .ok (.iaload, 1) := by decide +kernel
theorem dX2_dryUp_18 : decode cX2_dryUp 18 = .ok (.istore_n 3, 1) := by decide +kernel
theorem dX2_dryUp_19 : decode cX2_dryUp 19 = .ok (.iload_n 3, 1) := by decide +kernel
theorem dX2_dryUp_20 : decode cX2_dryUp 20 = .ok (.ifCond .le 19, 3) := by decide +kernel
theorem dX2_dryUp_23 : decode cX2_dryUp 23 = .ok (.aload_n 0, 1) := by decide +kernel
theorem dX2_dryUp_24 : decode cX2_dryUp 24 = .ok (.getfield 9, 3) := by decide +kernel
theorem dX2_dryUp_27 : decode cX2_dryUp 27 = .ok (.iload_n 2, 1) := by decide +kernel
theorem dX2_dryUp_28 : decode cX2_dryUp 28 = .ok (.iconst 0, 1) := by decide +kernel
theorem dX2_dryUp_29 : decode cX2_dryUp 29 = .ok (.iload_n 3, 1) := by decide +kernel
theorem dX2_dryUp_30 : decode cX2_dryUp 30 = .ok (.aload_n 0, 1) := by decide +kernel
theorem dX2_dryUp_31 : decode cX2_dryUp 31 = .ok (.getfield 34, 3) := by decide +kernel
theorem dX2_dryUp_34 : decode cX2_dryUp 34 = .ok (.isub, 1) := by decide +kernel
theorem dX2_dryUp_35 : decode cX2_dryUp 35 = .ok (.invokestatic 24, 3) := by decide +kernel
theorem dX2_dryUp_38 : decode cX2_dryUp 38 = .ok (.iastore, 1) := by decide +kernel
theorem dX2_dryUp_39 : decode cX2_dryUp 39 = .ok (.iinc 2 1, 3) := by decide +kernel
theorem dX2_dryUp_42 : decode cX2_dryUp 42 = .ok (.goto (-35), 3) := by decide +kernel
theorem dX2_dryUp_45 : decode cX2_dryUp 45 = .ok (.return_, 1) := by decide +kernel
theorem dX2_runDown_0 : decode cX2_runDown 0 = .ok (.iconst 0, 1) := by decide +kernel
theorem dX2_runDown_1 : decode cX2_runDown 1 = .ok (.istore_n 1, 1) := by decide +kernel
theorem dX2_runDown_2 : decode cX2_runDown 2 = .ok (.iconst 0, 1) := by decide +kernel
theorem dX2_runDown_3 : decode cX2_runDown 3 = .ok (.istore_n 2, 1) := by decide +kernel
theorem dX2_runDown_4 : decode cX2_runDown 4 = .ok (.iload_n 2, 1) := by decide +kernel
theorem dX2_runDown_5 : decode cX2_runDown 5 = .ok (.aload_n 0, 1) := by decide +kernel
theorem dX2_runDown_6 : decode cX2_runDown 6 = .ok (.getfield 27, 3) := by decide +kernel
theorem dX2_runDown_9 : decode cX2_runDown 9 = .ok (.if_icmp .ge 75, 3) := by decide +kernel
theorem dX2_runDown_12 : decode cX2_runDown 12 = .ok (.aload_n 0, 1) := by decide +kernel
theorem dX2_runDown_13 : decode cX2_runDown 13 = .ok (.iload_n 2, 1) := by decide +kernel
theorem dX2_runDown_14 : decode cX2_runDown 14 = .ok (.iconst 0, 1) := by decide +kernel
theorem dX2_runDown_15 : decode cX2_runDown 15 = .ok (.invokevirtual 41, 3) := by decide +kernel
theorem dX2_runDown_18 : decode cX2_runDown 18 = .ok (.istore_n 3, 1) := by decide +kernel
theorem dX2_runDown_19 : decode cX2_runDown 19 = .ok (.iconst 0, 1) := by decide +kernel
theorem dX2_runDown_20 : decode cX2_runDown 20 = .ok (.istore 4, 2) := by decide +kernel
theorem dX2_runDown_22 : decode cX2_runDown 22 = .ok (.iload 4, 2) := by decide +kernel
theorem dX2_runDown_24 : decode cX2_runDown 24 = .ok (.aload_n 0, 1) := by decide +kernel
theorem dX2_runDown_25 : decode cX2_runDown 25 = .ok (.getfield 31, 3) := by decide +kernel
theorem dX2_runDown_28 : decode cX2_runDown 28 = .ok (.if_icmp .ge 50, 3) := by decide +kernel
theorem dX2_runDown_31 : decode cX2_runDown 31 = .ok (.aload_n 0, 1) := by decide +kernel
theorem dX2_runDown_32 : decode cX2_runDown 32 = .ok (.getfield 9, 3) := by decide +kernel
theorem dX2_runDown_35 : decode cX2_runDown 35 = .ok (.iload_n 3, 1) := by decide +kernel
theorem dX2_runDown_36 : decode cX2_runDown 36 = .ok (.iload 4, 2) := by decide +kernel
theorem dX2_runDown_38 : decode cX2_runDown 38 = .ok (.iadd, 1) := by decide +kernel
theorem dX2_runDown_39 : decode cX2_runDown 39 = .ok (.iaload, 1) := by decide +kernel
theorem dX2_runDown_40 : decode cX2_runDown 40 = .ok (.iload_n 1, 1) := by decide +kernel
theorem dX2_runDown_41 : decode cX2_runDown 41 = .ok (.iadd, 1) := by decide +kernel
theorem dX2_runDown_42 : decode cX2_runDown 42 = .ok (.istore 5, 2) := by decide +kernel
theorem dX2_runDown_44 : decode cX2_runDown 44 = .ok (.iconst 0, 1) := by decide +kernel
theorem dX2_runDown_45 : decode cX2_runDown 45 = .ok (.iload 5, 2) := by decide +kernel
theorem dX2_runDown_47 : decode cX2_runDown 47 = .ok (.aload_n 0, 1) := by decide +kernel
theorem dX2_runDown_48 : decode cX2_runDown 48 = .ok (.getfield 15, 3) := by decide +kernel
theorem dX2_runDown_51 : decode cX2_runDown 51 = .ok (.iload 4, 2) := by decide +kernel
theorem dX2_runDown_53 : decode cX2_runDown 53 = .ok (.iaload, 1) := by decide +kernel
theorem dX2_runDown_54 : decode cX2_runDown 54 = .ok (.isub, 1) := by decide +kernel
theorem dX2_runDown_55 : decode cX2_runDown 55 = .ok (.invokestatic 24, 3) := by decide +kernel
theorem dX2_runDown_58 : decode cX2_runDown 58 = .ok (.istore_n 1, 1) := by decide +kernel
theorem dX2_runDown_59 : decode cX2_runDown 59 = .ok (.aload_n 0, 1) := by decide +kernel
theorem dX2_runDown_60 : decode cX2_runDown 60 = .ok (.getfield 9, 3) := by decide +kernel
theorem dX2_runDown_63 : decode cX2_runDown 63 = .ok (.iload_n 3, 1) := by decide +kernel
theorem dX2_runDown_64 : decode cX2_runDown 64 = .ok (.iload 4, 2) := by decide +kernel
theorem dX2_runDown_66 : decode cX2_runDown 66 = .ok (.iadd, 1) := by decide +kernel
theorem dX2_runDown_67 : decode cX2_runDown 67 = .ok (.iload 5, 2) := by decide +kernel
theorem dX2_runDown_69 : decode cX2_runDown 69 = .ok (.iload_n 1, 1) := by decide +kernel
theorem dX2_runDown_70 : decode cX2_runDown 70 = .ok (.isub, 1) := by decide +kernel
theorem dX2_runDown_71 : decode cX2_runDown 71 = .ok (.iastore, 1) := by decide +kernel
theorem dX2_runDown_72 : decode cX2_runDown 72 = .ok (.iinc 4 1, 3) := by decide +kernel
theorem dX2_runDown_75 : decode cX2_runDown 75 = .ok (.goto (-53), 3) := by decide +kernel
theorem dX2_runDown_78 : decode cX2_runDown 78 = .ok (.iinc 2 1, 3) := by decide +kernel
theorem dX2_runDown_81 : decode cX2_runDown 81 = .ok (.goto (-77), 3) := by decide +kernel
theorem dX2_runDown_84 : decode cX2_runDown 84 = .ok (.iload_n 1, 1) := by decide +kernel
theorem dX2_runDown_85 : decode cX2_runDown 85 = .ok (.ireturn, 1) := by decide +kernel
theorem dX3_init_0 : decode cX3_init 0 = .ok (.aload_n 0, 1) := by decide +kernel
theorem dX3_init_1 : decode cX3_init 1 = .ok (.invokespecial 3, 3) := by decide +kernel
theorem dX3_init_4 : decode cX3_init 4 = .ok (.aload_n 0, 1) := by decide +kernel
theorem dX3_init_5 : decode cX3_init 5 = .ok (.new 9, 3) := by decide +kernel
theorem dX3_init_8 : decode cX3_init 8 = .ok (.dup, 1) := by decide +kernel
theorem dX3_init_9 : decode cX3_init 9 = .ok (.invokespecial 11, 3) := by decide +kernel
theorem dX3_init_12 : decode cX3_init 12 = .ok (.putfield 12, 3) := by decide +kernel
theorem dX3_init_15 : decode cX3_init 15 = .ok (.aload_n 0, 1) := by decide +kernel
theorem dX3_init_16 : decode cX3_init 16 = .ok (.new 9, 3) := by decide +kernel
theorem dX3_init_19 : decode cX3_init 19 = .ok (.dup, 1) := by decide +kernel
theorem dX3_init_20 : decode cX3_init 20 = .ok (.invokespecial 11, 3) := by decide +kernel
theorem dX3_init_23 : decode cX3_init 23 = .ok (.putfield 16, 3) := by decide +kernel
theorem dX3_init_26 : decode cX3_init 26 = .ok (.aload_n 0, 1) := by decide +kernel
theorem dX3_init_27 : decode cX3_init 27 = .ok (.new 19, 3) := by decide +kernel
theorem dX3_init_30 : decode cX3_init 30 = .ok (.dup, 1) := by decide +kernel
theorem dX3_init_31 : decode cX3_init 31 = .ok (.bipush 30, 2) := by decide +kernel
theorem dX3_init_33 : decode cX3_init 33 = .ok (.invokespecial 21, 3) := by decide +kernel
theorem dX3_init_36 : decode cX3_init 36 = .ok (.putfield 24, 3) := by decide +kernel
theorem dX3_init_39 : decode cX3_init 39 = .ok (.aload_n 0, 1) := by decide +kernel
theorem dX3_init_40 : decode cX3_init 40 = .ok (.new 19, 3) := by decide +kernel
theorem dX3_init_43 : decode cX3_init 43 = .ok (.dup, 1) := by decide +kernel
theorem dX3_init_44 : decode cX3_init 44 = .ok (.bipush 12, 2) := by decide +kernel
theorem dX3_init_46 : decode cX3_init 46 = .ok (.invokespecial 21, 3) := by decide +kernel
theorem dX3_init_49 : decode cX3_init 49 = .ok (.putfield 28, 3) := by decide +kernel
theorem dX3_init_52 : decode cX3_init 52 = .ok (.aload_n 0, 1) := by decide +kernel
theorem dX3_init_53 : decode cX3_init 53 = .ok (.new 31, 3) := by decide +kernel
theorem dX3_init_56 : decode cX3_init 56 = .ok (.dup, 1) := by decide +kernel
theorem dX3_init_57 : decode cX3_init 57 = .ok (.invokespecial 33, 3) := by decide +kernel
theorem dX3_init_60 : decode cX3_init 60 = .ok (.putfield 34, 3) := by decide +kernel
theorem dX3_init_63 : decode cX3_init 63 = .ok (.aload_n 0, 1) := by decide +kernel
theorem dX3_init_64 : decode cX3_init 64 = .ok (.getfield 12, 3) := by decide +kernel
theorem dX3_init_67 : decode cX3_init 67 = .ok (.iconst 1, 1) := by decide +kernel
theorem dX3_init_68 : decode cX3_init 68 = .ok (.putfield 38, 3) := by decide +kernel
theorem dX3_init_71 : decode cX3_init 71 = .ok (.aload_n 0, 1) := by decide +kernel
theorem dX3_init_72 : decode cX3_init 72 = .ok (.getfield 12, 3) := by decide +kernel
theorem dX3_init_75 : decode cX3_init 75 = .ok (.iconst 4, 1) := by decide +kernel
theorem dX3_init_76 : decode cX3_init 76 = .ok (.bipush 8, 2) := by decide +kernel
theorem dX3_init_78 : decode cX3_init 78 = .ok (.invokevirtual 42, 3) := by decide +kernel
theorem dX3_init_81 : decode cX3_init 81 = .ok (.return_, 1) := by decide +kernel
theorem dX3_lay_0 : decode cX3_lay 0 = .ok (.iload_n 1, 1) := by decide +kernel
theorem dX3_lay_1 : decode cX3_lay 1 = .ok (.iconst 1, 1) := by decide +kernel
theorem dX3_lay_2 : decode cX3_lay 2 = .ok (.bipush 8, 2) := by decide +kernel
theorem dX3_lay_4 : decode cX3_lay 4 = .ok (.invokestatic 46, 3) := by decide +kernel
theorem dX3_lay_7 : decode cX3_lay 7 = .ok (.iload_n 2, 1) := by decide +kernel
theorem dX3_lay_8 : decode cX3_lay 8 = .ok (.iconst 1, 1) := by decide +kernel
theorem dX3_lay_9 : decode cX3_lay 9 = .ok (.bipush 16, 2) := by decide +kernel
theorem dX3_lay_11 : decode cX3_lay 11 = .ok (.invokestatic 46, 3) := by decide +kernel
theorem dX3_lay_14 : decode cX3_lay 14 = .ok (.aload_n 0, 1) := by decide +kernel
theorem dX3_lay_15 : decode cX3_lay 15 = .ok (.getfield 12, 3) := by decide +kernel
theorem dX3_lay_18 : decode cX3_lay 18 = .ok (.iload_n 1, 1) := by decide +kernel
theorem dX3_lay_19 : decode cX3_lay 19 = .ok (.iload_n 2, 1) := by decide +kernel
theorem dX3_lay_20 : decode cX3_lay 20 = .ok (.invokevirtual 42, 3) := by decide +kernel
theorem dX3_lay_23 : decode cX3_lay 23 = .ok (.aload_n 0, 1) := by decide +kernel
theorem dX3_lay_24 : decode cX3_lay 24 = .ok (.getfield 24, 3) := by decide +kernel
theorem dX3_lay_27 : decode cX3_lay 27 = .ok (.invokevirtual 50, 3) := by decide +kernel
theorem dX3_lay_30 : decode cX3_lay 30 = .ok (.aload_n 0, 1) := by decide +kernel
theorem dX3_lay_31 : decode cX3_lay 31 = .ok (.getfield 28, 3) := by decide +kernel
theorem dX3_lay_34 : decode cX3_lay 34 = .ok (.invokevirtual 50, 3) := by decide +kernel
theorem dX3_lay_37 : decode cX3_lay 37 = .ok (.aload_n 0, 1) := by decide +kernel
theorem dX3_lay_38 : decode cX3_lay 38 = .ok (.getfield 12, 3) := by decide +kernel
theorem dX3_lay_41 : decode cX3_lay 41 = .ok (.invokevirtual 53, 3) := by decide +kernel
theorem dX3_lay_44 : decode cX3_lay 44 = .ok (.ireturn, 1) := by decide +kernel
theorem dX3_rain_0 : decode cX3_rain 0 = .ok (.aload_n 0, 1) := by decide +kernel
theorem dX3_rain_1 : decode cX3_rain 1 = .ok (.iload_n 1, 1) := by decide +kernel
theorem dX3_rain_2 : decode cX3_rain 2 = .ok (.iload_n 2, 1) := by decide +kernel
theorem dX3_rain_3 : decode cX3_rain 3 = .ok (.invokevirtual 57, 3) := by decide +kernel
theorem dX3_rain_6 : decode cX3_rain 6 = .ok (.iload_n 3, 1) := by decide +kernel
theorem dX3_rain_7 : decode cX3_rain 7 = .ok (.bipush (-99), 2) := by decide +kernel
theorem dX3_rain_9 : decode cX3_rain 9 = .ok (.bipush 99, 2) := by decide +kernel
theorem dX3_rain_11 : decode cX3_rain 11 = .ok (.invokestatic 46, 3) := by decide +kernel
theorem dX3_rain_14 : decode cX3_rain 14 = .ok (.aload_n 0, 1) := by decide +kernel
theorem dX3_rain_15 : decode cX3_rain 15 = .ok (.invokevirtual 60, 3) := by decide +kernel
theorem dX3_rain_18 : decode cX3_rain 18 = .ok (.aload_n 0, 1) := by decide +kernel
theorem dX3_rain_19 : decode cX3_rain 19 = .ok (.getfield 12, 3) := by decide +kernel
theorem dX3_rain_22 : decode cX3_rain 22 = .ok (.iload_n 1, 1) := by decide +kernel
theorem dX3_rain_23 : decode cX3_rain 23 = .ok (.iload_n 2, 1) := by decide +kernel
theorem dX3_rain_24 : decode cX3_rain 24 = .ok (.iload_n 3, 1) := by decide +kernel
theorem dX3_rain_25 : decode cX3_rain 25 = .ok (.invokevirtual 63, 3) := by decide +kernel
theorem dX3_rain_28 : decode cX3_rain 28 = .ok (.aload_n 0, 1) := by decide +kernel
theorem dX3_rain_29 : decode cX3_rain 29 = .ok (.getfield 12, 3) := by decide +kernel
theorem dX3_rain_32 : decode cX3_rain 32 = .ok (.iload_n 1, 1) := by decide +kernel
theorem dX3_rain_33 : decode cX3_rain 33 = .ok (.iload_n 2, 1) := by decide +kernel
theorem dX3_rain_34 : decode cX3_rain 34 = .ok (.invokevirtual 66, 3) := by decide +kernel
theorem dX3_rain_37 : decode cX3_rain 37 = .ok (.ireturn, 1) := by decide +kernel
theorem dX3_splash_0 : decode cX3_splash 0 = .ok (.aload_n 0, 1) := by decide +kernel
theorem dX3_splash_1 : decode cX3_splash 1 = .ok (.iload_n 1, 1) := by decide +kernel
theorem dX3_splash_2 : decode cX3_splash 2 = .ok (.iload_n 2, 1) := by decide +kernel
theorem dX3_splash_3 : decode cX3_splash 3 = .ok (.iload_n 3, 1) := by decide +kernel
theorem dX3_splash_4 : decode cX3_splash 4 = .ok (.iload 4, 2) := by decide +kernel
theorem dX3_splash_6 : decode cX3_splash 6 = .ok (.invokevirtual 70, 3) := by decide +kernel
theorem dX3_splash_9 : decode cX3_splash 9 = .ok (.iload 5, 2) := by decide +kernel
theorem dX3_splash_11 : decode cX3_splash 11 = .ok (.bipush (-99), 2) := by decide +kernel
theorem dX3_splash_13 : decode cX3_splash 13 = .ok (.bipush 99, 2) := by decide +kernel
theorem dX3_splash_15 : decode cX3_splash 15 = .ok (.invokestatic 46, 3) := by decide +kernel
theorem dX3_splash_18 : decode cX3_splash 18 = .ok (.aload_n 0, 1) := by decide +kernel
theorem dX3_splash_19 : decode cX3_splash 19 = .ok (.invokevirtual 60, 3) := by decide +kernel
theorem dX3_splash_22 : decode cX3_splash 22 = .ok (.iload_n 1, 1) := by decide +kernel
theorem dX3_splash_23 : decode cX3_splash 23 = .ok (.istore 6, 2) := by decide +kernel
theorem dX3_splash_25 : decode cX3_splash 25 = .ok (.iload 6, 2) := by decide +kernel
theorem dX3_splash_27 : decode cX3_splash 27 = .ok (.iload_n 3, 1) := by decide +kernel
theorem dX3_splash_28 : decode cX3_splash 28 = .ok (.if_icmp .gt 38, 3) := by decide +kernel
theorem dX3_splash_31 : decode cX3_splash 31 = .ok (.iload_n 2, 1) := by decide +kernel
theorem dX3_splash_32 : decode cX3_splash 32 = .ok (.istore 7, 2) := by decide +kernel
theorem dX3_splash_34 : decode cX3_splash 34 = .ok (.iload 7, 2) := by decide +kernel
theorem dX3_splash_36 : decode cX3_splash 36 = .ok (.iload 4, 2) := by decide +kernel
theorem dX3_splash_38 : decode cX3_splash 38 = .ok (.if_icmp .gt 22, 3) := by decide +kernel
theorem dX3_splash_41 : decode cX3_splash 41 = .ok (.aload_n 0, 1) := by decide +kernel
theorem dX3_splash_42 : decode cX3_splash 42 = .ok (.getfield 12, 3) := by decide +kernel
theorem dX3_splash_45 : decode cX3_splash 45 = .ok (.iload 6, 2) := by decide +kernel
theorem dX3_splash_47 : decode cX3_splash 47 = .ok (.iload 7, 2) := by decide +kernel
theorem dX3_splash_49 : decode cX3_splash 49 = .ok (.iload 5, 2) := by decide +kernel
theorem dX3_splash_51 : decode cX3_splash 51 = .ok (.invokevirtual 63, 3) := by decide +kernel
theorem dX3_splash_54 : decode cX3_splash 54 = .ok (.iinc 7 1, 3) := by decide +kernel
theorem dX3_splash_57 : decode cX3_splash 57 = .ok (.goto (-23), 3) := by decide +kernel
theorem dX3_splash_60 : decode cX3_splash 60 = .ok (.iinc 6 1, 3) := by decide +kernel
theorem dX3_splash_63 : decode cX3_splash 63 = .ok (.goto (-38), 3) := by decide +kernel
theorem dX3_splash_66 : decode cX3_splash 66 = .ok (.iload_n 3, 1) := by decide +kernel
theorem dX3_splash_67 : decode cX3_splash 67 = .ok (.iload_n 1, 1) := by decide +kernel
theorem dX3_splash_68 : decode cX3_splash 68 = .ok (.isub, 1) := by decide +kernel
theorem dX3_splash_69 : decode cX3_splash 69 = .ok (.iconst 1, 1) := by decide +kernel
theorem dX3_splash_70 : decode cX3_splash 70 = .ok (.iadd, 1) := by decide +kernel
theorem dX3_splash_71 : decode cX3_splash 71 = .ok (.iload 4, 2) := by decide +kernel
theorem dX3_splash_73 : decode cX3_splash 73 = .ok (.iload_n 2, 1) := by decide +kernel
theorem dX3_splash_74 : decode cX3_splash 74 = .ok (.isub, 1) := by decide +kernel
theorem dX3_splash_75 : decode cX3_splash 75 = .ok (.iconst 1, 1) := by decide +kernel
theorem dX3_splash_76 : decode cX3_splash 76 = .ok (.iadd, 1) := by decide +kernel
theorem dX3_splash_77 : decode cX3_splash 77 = .ok (.imul, 1) := by decide +kernel
theorem dX3_splash_78 : decode cX3_splash 78 = .ok (.ireturn, 1) := by decide +kernel
theorem dX3_swap_0 : decode cX3_swap 0 = .ok (.aload_n 0, 1) := by decide +kernel
theorem dX3_swap_1 : decode cX3_swap 1 = .ok (.iload_n 1, 1) := by decide +kernel
theorem dX3_swap_2 : decode cX3_swap 2 = .ok (.invokevirtual 74, 3) := by decide +kernel
theorem dX3_swap_5 : decode cX3_swap 5 = .ok (.aload_n 0, 1) := by decide +kernel
theorem dX3_swap_6 : decode cX3_swap 6 = .ok (.iload_n 2, 1) := by decide +kernel
theorem dX3_swap_7 : decode cX3_swap 7 = .ok (.invokevirtual 74, 3) := by decide +kernel
theorem dX3_swap_10 : decode cX3_swap 10 = .ok (.aload_n 0, 1) := by decide +kernel
theorem dX3_swap_11 : decode cX3_swap 11 = .ok (.invokevirtual 60, 3) := by decide +kernel
theorem dX3_swap_14 : decode cX3_swap 14 = .ok (.aload_n 0, 1) := by decide +kernel
theorem dX3_swap_15 : decode cX3_swap 15 = .ok (.getfield 12, 3) := by decide +kernel
theorem dX3_swap_18 : decode cX3_swap 18 = .ok (.getfield 77, 3) := by decide +kernel
theorem dX3_swap_21 : decode cX3_swap 21 = .ok (.aload_n 0, 1) := by decide +kernel
theorem dX3_swap_22 : decode cX3_swap 22 = .ok (.getfield 12, 3) := by decide +kernel
theorem dX3_swap_25 : decode cX3_swap 25 = .ok (.iload_n 1, 1) := by decide +kernel
theorem dX3_swap_26 : decode cX3_swap 26 = .ok (.iload_n 2, 1) := by decide +kernel
theorem dX3_swap_27 : decode cX3_swap 27 = .ok (.invokevirtual 80, 3) := by decide +kernel
theorem dX3_swap_30 : decode cX3_swap 30 = .ok (.isub, 1) := by decide +kernel
theorem dX3_swap_31 : decode cX3_swap 31 = .ok (.istore_n 3, 1) := by decide +kernel
theorem dX3_swap_32 : decode cX3_swap 32 = .ok (.iconst 0, 1) := by decide +kernel
theorem dX3_swap_33 : decode cX3_swap 33 = .ok (.istore 4, 2) := by decide +kernel
theorem dX3_swap_35 : decode cX3_swap 35 = .ok (.iload 4, 2) := by decide +kernel
theorem dX3_swap_37 : decode cX3_swap 37 = .ok (.aload_n 0, 1) := by decide +kernel
theorem dX3_swap_38 : decode cX3_swap 38 = .ok (.getfield 12, 3) := by decide +kernel
theorem dX3_swap_41 : decode cX3_swap 41 = .ok (.getfield 77, 3) := by decide +kernel
theorem dX3_swap_44 : decode cX3_swap 44 = .ok (.if_icmp .ge 36, 3) := by decide +kernel
theorem dX3_swap_47 : decode cX3_swap 47 = .ok (.aload_n 0, 1) := by decide +kernel
theorem dX3_swap_48 : decode cX3_swap 48 = .ok (.getfield 12, 3) := by decide +kernel
theorem dX3_swap_51 : decode cX3_swap 51 = .ok (.aload_n 0, 1) := by decide +kernel
theorem dX3_swap_52 : decode cX3_swap 52 = .ok (.getfield 12, 3) := by decide +kernel
theorem dX3_swap_55 : decode cX3_swap 55 = .ok (.iload_n 1, 1) := by decide +kernel
theorem dX3_swap_56 : decode cX3_swap 56 = .ok (.iload 4, 2) := by decide +kernel
theorem dX3_swap_58 : decode cX3_swap 58 = .ok (.invokevirtual 83, 3) := by decide +kernel
theorem dX3_swap_61 : decode cX3_swap 61 = .ok (.aload_n 0, 1) := by decide +kernel
theorem dX3_swap_62 : decode cX3_swap 62 = .ok (.getfield 12, 3) := by decide +kernel
theorem dX3_swap_65 : decode cX3_swap 65 = .ok (.iload_n 2, 1) := by decide +kernel
theorem dX3_swap_66 : decode cX3_swap 66 = .ok (.iload 4, 2) := by decide +kernel
theorem dX3_swap_68 : decode cX3_swap 68 = .ok (.invokevirtual 83, 3) := by decide +kernel
theorem dX3_swap_71 : decode cX3_swap 71 = .ok (.invokevirtual 86, 3) := by decide +kernel
theorem dX3_swap_74 : decode cX3_swap 74 = .ok (.iinc 4 1, 3) := by decide +kernel
theorem dX3_swap_77 : decode cX3_swap 77 = .ok (.goto (-42), 3) := by decide +kernel
theorem dX3_swap_80 : decode cX3_swap 80 = .ok (.iload_n 3, 1) := by decide +kernel
theorem dX3_swap_81 : decode cX3_swap 81 = .ok (.ireturn, 1) := by decide +kernel
theorem dX3_turn_0 : decode cX3_turn 0 = .ok (.aload_n 0, 1) := by decide +kernel
theorem dX3_turn_1 : decode cX3_turn 1 = .ok (.iload_n 1, 1) := by decide +kernel
theorem dX3_turn_2 : decode cX3_turn 2 = .ok (.invokevirtual 74, 3) := by decide +kernel
theorem dX3_turn_5 : decode cX3_turn 5 = .ok (.aload_n 0, 1) := by decide +kernel
theorem dX3_turn_6 : decode cX3_turn 6 = .ok (.invokevirtual 60, 3) := by decide +kernel
theorem dX3_turn_9 : decode cX3_turn 9 = .ok (.aload_n 0, 1) := by decide +kernel
theorem dX3_turn_10 : decode cX3_turn 10 = .ok (.getfield 12, 3) := by decide +kernel
theorem dX3_turn_13 : decode cX3_turn 13 = .ok (.iload_n 1, 1) := by decide +kernel
theorem dX3_turn_14 : decode cX3_turn 14 = .ok (.iconst 0, 1) := by decide +kernel
theorem dX3_turn_15 : decode cX3_turn 15 = .ok (.invokevirtual 83, 3) := by decide +kernel
theorem dX3_turn_18 : decode cX3_turn 18 = .ok (.istore_n 2, 1) := by decide +kernel
theorem dX3_turn_19 : decode cX3_turn 19 = .ok (.aload_n 0, 1) := by decide +kernel
theorem dX3_turn_20 : decode cX3_turn 20 = .ok (.getfield 12, 3) := by decide +kernel
theorem dX3_turn_23 : decode cX3_turn 23 = .ok (.iload_n 1, 1) := by decide +kernel
theorem dX3_turn_24 : decode cX3_turn 24 = .ok (.aload_n 0, 1) := by decide +kernel
theorem dX3_turn_25 : decode cX3_turn 25 = .ok (.getfield 12, 3) := by decide +kernel
theorem dX3_turn_28 : decode cX3_turn 28 = .ok (.getfield 77, 3) := by decide +kernel
theorem dX3_turn_31 : decode cX3_turn 31 = .ok (.iconst 1, 1) := by decide +kernel
theorem dX3_turn_32 : decode cX3_turn 32 = .ok (.isub, 1) := by decide +kernel
theorem dX3_turn_33 : decode cX3_turn 33 = .ok (.invokevirtual 83, 3) := by decide +kernel
theorem dX3_turn_36 : decode cX3_turn 36 = .ok (.istore_n 3, 1) := by decide +kernel
theorem dX3_turn_37 : decode cX3_turn 37 = .ok (.iload_n 2, 1) := by decide +kernel
theorem dX3_turn_38 : decode cX3_turn 38 = .ok (.iload_n 3, 1) := by decide +kernel
theorem dX3_turn_39 : decode cX3_turn 39 = .ok (.if_icmp .ge 21, 3) := by decide +kernel
theorem dX3_turn_42 : decode cX3_turn 42 = .ok (.aload_n 0, 1) := by decide +kernel
theorem dX3_turn_43 : decode cX3_turn 43 = .ok (.getfield 12, 3) := by decide +kernel
theorem dX3_turn_46 : decode cX3_turn 46 = .ok (.iload_n 2, 1) := by decide +kernel
theorem dX3_turn_47 : decode cX3_turn 47 = .ok (.iload_n 3, 1) := by decide +kernel
theorem dX3_turn_48 : decode cX3_turn 48 = .ok (.invokevirtual 86, 3) := by decide +kernel
theorem dX3_turn_51 : decode cX3_turn 51 = .ok (.iinc 2 1, 3) := by decide +kernel
theorem dX3_turn_54 : decode cX3_turn 54 = .ok (.iinc 3 (-1), 3) := by decide +kernel
theorem dX3_turn_57 : decode cX3_turn 57 = .ok (.goto (-20), 3) := by decide +kernel
theorem dX3_turn_60 : decode cX3_turn 60 = .ok (.aload_n 0, 1) := by decide +kernel
theorem dX3_turn_61 : decode cX3_turn 61 = .ok (.getfield 12, 3) := by decide +kernel
theorem dX3_turn_64 : decode cX3_turn 64 = .ok (.aload_n 0, 1) := by decide +kernel
theorem dX3_turn_65 : decode cX3_turn 65 = .ok (.getfield 24, 3) := by decide +kernel
theorem dX3_turn_68 : decode cX3_turn 68 = .ok (.aload_n 0, 1) := by decide +kernel
theorem dX3_turn_69 : decode cX3_turn 69 = .ok (.getfield 24, 3) := by decide +kernel
theorem dX3_turn_72 : decode cX3_turn 72 = .ok (.getfield 89, 3) := by decide +kernel
theorem dX3_turn_75 : decode cX3_turn 75 = .ok (.iconst 1, 1) := by decide +kernel
theorem dX3_turn_76 : decode cX3_turn 76 = .ok (.isub, 1) := by decide +kernel
theorem dX3_turn_77 : decode cX3_turn 77 = .ok (.invokevirtual 92, 3) := by decide +kernel
theorem dX3_turn_80 : decode cX3_turn 80 = .ok (.invokevirtual 96, 3) := by decide +kernel
theorem dX3_turn_83 : decode cX3_turn 83 = .ok (.ireturn, 1) := by decide +kernel
theorem dX3_bail_0 : decode cX3_bail 0 = .ok (.aload_n 0, 1) := by decide +kernel
theorem dX3_bail_1 : decode cX3_bail 1 = .ok (.iload_n 1, 1) := by decide +kernel
theorem dX3_bail_2 : decode cX3_bail 2 = .ok (.invokevirtual 74, 3) := by decide +kernel
theorem dX3_bail_5 : decode cX3_bail 5 = .ok (.iload_n 2, 1) := by decide +kernel
theorem dX3_bail_6 : decode cX3_bail 6 = .ok (.iconst 1, 1) := by decide +kernel
theorem dX3_bail_7 : decode cX3_bail 7 = .ok (.sipush 999, 3) := by decide +kernel
theorem dX3_bail_10 : decode cX3_bail 10 = .ok (.invokestatic 46, 3) := by decide +kernel
theorem dX3_bail_13 : decode cX3_bail 13 = .ok (.aload_n 0, 1) := by decide +kernel
theorem dX3_bail_14 : decode cX3_bail 14 = .ok (.invokevirtual 60, 3) := by decide +kernel
theorem dX3_bail_17 : decode cX3_bail 17 = .ok (.iconst 0, 1) := by decide +kernel
theorem dX3_bail_18 : decode cX3_bail 18 = .ok (.istore_n 3, 1) := by decide +kernel
theorem dX3_bail_19 : decode cX3_bail 19 = .ok (.iconst 0, 1) := by decide +kernel
theorem dX3_bail_20 : decode cX3_bail 20 = .ok (.istore 4, 2) := by decide +kernel
theorem dX3_bail_22 : decode cX3_bail 22 = .ok (.iload 4, 2) := by decide +kernel
theorem dX3_bail_24 : decode cX3_bail 24 = .ok (.aload_n 0, 1) := by decide +kernel
theorem dX3_bail_25 : decode cX3_bail 25 = .ok (.getfield 12, 3) := by decide +kernel
theorem dX3_bail_28 : decode cX3_bail 28 = .ok (.getfield 77, 3) := by decide +kernel
theorem dX3_bail_31 : decode cX3_bail 31 = .ok (.if_icmp .ge 53, 3) := by decide +kernel
theorem dX3_bail_34 : decode cX3_bail 34 = .ok (.iconst 0, 1) := by decide +kernel
theorem dX3_bail_35 : decode cX3_bail 35 = .ok (.aload_n 0, 1) := by decide +kernel
theorem dX3_bail_36 : decode cX3_bail 36 = .ok (.getfield 12, 3) := by decide +kernel
theorem dX3_bail_39 : decode cX3_bail 39 = .ok (.iload_n 1, 1) := by decide +kernel
theorem dX3_bail_40 : decode cX3_bail 40 = .ok (.iload 4, 2) := by decide +kernel
theorem dX3_bail_42 : decode cX3_bail 42 = .ok (.invokevirtual 66, 3) := by decide +kernel
theorem dX3_bail_45 : decode cX3_bail 45 = .ok (.invokestatic 100, 3) := by decide +kernel
theorem dX3_bail_48 : decode cX3_bail 48 = .ok (.istore 5, 2) := by decide +kernel
theorem dX3_bail_50 : decode cX3_bail 50 = .ok (.iload 5, 2) := by decide +kernel
theorem dX3_bail_52 : decode cX3_bail 52 = .ok (.iload_n 2, 1) := by decide +kernel
theorem dX3_bail_53 : decode cX3_bail 53 = .ok (.iload_n 3, 1) := by decide +kernel
theorem dX3_bail_54 : decode cX3_bail 54 = .ok (.isub, 1) := by decide +kernel
theorem dX3_bail_55 : decode cX3_bail 55 = .ok (.invokestatic 105, 3) := by decide +kernel
theorem dX3_bail_58 : decode cX3_bail 58 = .ok (.istore 6, 2) := by decide +kernel
theorem dX3_bail_60 : decode cX3_bail 60 = .ok (.aload_n 0, 1) := by decide +kernel
theorem dX3_bail_61 : decode cX3_bail 61 = .ok (.getfield 12, 3) := by decide +kernel
theorem dX3_bail_64 : decode cX3_bail 64 = .ok (.iload_n 1, 1) := by decide +kernel
theorem dX3_bail_65 : decode cX3_bail 65 = .ok (.iload 4, 2) := by decide +kernel
theorem dX3_bail_67 : decode cX3_bail 67 = .ok (.iload 6, 2) := by decide +kernel
theorem dX3_bail_69 : decode cX3_bail 69 = .ok (.ineg, 1) := by decide +kernel
theorem dX3_bail_70 : decode cX3_bail 70 = .ok (.invokevirtual 63, 3) := by decide +kernel
theorem dX3_bail_73 : decode cX3_bail 73 = .ok (.iload_n 3, 1) := by decide +kernel
theorem dX3_bail_74 : decode cX3_bail 74 = .ok (.iload 6, 2) := by decide +kernel
theorem dX3_bail_76 : decode cX3_bail 76 = .ok (.iadd, 1) := by decide +kernel
theorem dX3_bail_77 : decode cX3_bail 77 = .ok (.istore_n 3, 1) := by decide +kernel
theorem dX3_bail_78 : decode cX3_bail 78 = .ok (.iinc 4 1, 3) := by decide +kernel
theorem dX3_bail_81 : decode cX3_bail 81 = .ok (.goto (-59), 3) := by decide +kernel
theorem dX3_bail_84 : decode cX3_bail 84 = .ok (.iload_n 3, 1) := by decide +kernel
theorem dX3_bail_85 : decode cX3_bail 85 = .ok (.ireturn, 1) := by decide +kernel
theorem dX3_passHours_0 : decode cX3_passHours 0 = .ok (.iload_n 1, 1) := by decide +kernel
theorem dX3_passHours_1 : decode cX3_passHours 1 = .ok (.iconst 1, 1) := by decide +kernel
theorem dX3_passHours_2 : decode cX3_passHours 2 = .ok (.bipush 40, 2) := by decide +kernel
theorem dX3_passHours_4 : decode cX3_passHours 4 = .ok (.invokestatic 46, 3) := by decide +kernel
theorem dX3_passHours_7 : decode cX3_passHours 7 = .ok (.aload_n 0, 1) := by decide +kernel
theorem dX3_passHours_8 : decode cX3_passHours 8 = .ok (.invokevirtual 60, 3) := by decide +kernel
theorem dX3_passHours_11 : decode cX3_passHours 11 = .ok (.aload_n 0, 1) := by decide +kernel
theorem dX3_passHours_12 : decode cX3_passHours 12 = .ok (.getfield 12, 3) := by decide +kernel
theorem dX3_passHours_15 : decode cX3_passHours 15 = .ok (.iload_n 1, 1) := by decide +kernel
theorem dX3_passHours_16 : decode cX3_passHours 16 = .ok (.invokevirtual 108, 3) := by decide +kernel
theorem dX3_passHours_19 : decode cX3_passHours 19 = .ok (.istore_n 2, 1) := by decide +kernel
theorem dX3_passHours_20 : decode cX3_passHours 20 = .ok (.aload_n 0, 1) := by decide +kernel
theorem dX3_passHours_21 : decode cX3_passHours 21 = .ok (.dup, 1) := by decide +kernel
theorem dX3_passHours_22 : decode cX3_passHours 22 = .ok (.getfield 112, 3) := by decide +kernel
theorem dX3_passHours_25 : decode cX3_passHours 25 = .ok (.iload_n 1, 1) := by decide +kernel
theorem dX3_passHours_26 : decode cX3_passHours 26 = .ok (.iadd, 1) := by decide +kernel
theorem dX3_passHours_27 : decode cX3_passHours 27 = .ok (.putfield 112, 3) := by decide +kernel
theorem dX3_passHours_30 : decode cX3_passHours 30 = .ok (.aload_n 0, 1) := by decide +kernel
theorem dX3_passHours_31 : decode cX3_passHours 31 = .ok (.dup, 1) := by decide +kernel
theorem dX3_passHours_32 : decode cX3_passHours 32 = .ok (.getfield 115, 3) := by decide +kernel
theorem dX3_passHours_35 : decode cX3_passHours 35 = .ok (.iload_n 2, 1) := by decide +kernel
theorem dX3_passHours_36 : decode cX3_passHours 36 = .ok (.i2l, 1) := by decide +kernel
theorem dX3_passHours_37 : decode cX3_passHours 37 = .ok (.ladd, 1) := by decide +kernel
theorem dX3_passHours_38 : decode cX3_passHours 38 = .ok (.putfield 115, 3) := by decide +kernel
theorem dX3_passHours_41 : decode cX3_passHours 41 = .ok (.iload_n 2, 1) := by decide +kernel
theorem dX3_passHours_42 : decode cX3_passHours 42 = .ok (.ireturn, 1) := by decide +kernel
theorem dX3_mark_0 : decode cX3_mark 0 = .ok (.aload_n 0, 1) := by decide +kernel
theorem dX3_mark_1 : decode cX3_mark 1 = .ok (.getfield 28, 3) := by decide +kernel
theorem dX3_mark_4 : decode cX3_mark 4 = .ok (.getfield 89, 3) := by decide +kernel
theorem dX3_mark_7 : decode cX3_mark 7 = .ok (.bipush 12, 2) := by decide +kernel
theorem dX3_mark_9 : decode cX3_mark 9 = .ok (.if_icmp .lt 13, 3) := by decide +kernel
theorem dX3_mark_12 : decode cX3_mark 12 = .ok (.new 119, 3) := by decide +kernel
theorem dX3_mark_15 : decode cX3_mark 15 = .ok (.dup, 1) := by decide +kernel
theorem dX3_mark_16 : decode cX3_mark 16 = .ok (.ldc 121, 2) := by decide +kernel
theorem dX3_mark_18 : decode cX3_mark 18 = .ok (.invokespecial 123, 3) := by decide +kernel
theorem dX3_mark_21 : decode cX3_mark 21 = .ok (.athrow, 1) := by decide +kernel
theorem dX3_mark_22 : decode cX3_mark 22 = .ok (.aload_n 0, 1) := by decide +kernel
theorem dX3_mark_23 : decode cX3_mark 23 = .ok (.getfield 28, 3) := by decide +kernel
theorem dX3_mark_26 : decode cX3_mark 26 = .ok (.aload_n 0, 1) := by decide +kernel
theorem dX3_mark_27 : decode cX3_mark 27 = .ok (.getfield 12, 3) := by decide +kernel
theorem dX3_mark_30 : decode cX3_mark 30 = .ok (.invokevirtual 126, 3) := by decide +kernel
theorem dX3_mark_33 : decode cX3_mark 33 = .ok (.aload_n 0, 1) := by decide +kernel
theorem dX3_mark_34 : decode cX3_mark 34 = .ok (.getfield 28, 3) := by decide +kernel
theorem dX3_mark_37 : decode cX3_mark 37 = .ok (.getfield 89, 3) := by decide +kernel
theorem dX3_mark_40 : decode cX3_mark 40 = .ok (.iconst 1, 1) := by decide +kernel
theorem dX3_mark_41 : decode cX3_mark 41 = .ok (.isub, 1) := by decide +kernel
theorem dX3_mark_42 : decode cX3_mark 42 = .ok (.ireturn, 1) := by decide +kernel
theorem dX3_back_0 : decode cX3_back 0 = .ok (.aload_n 0, 1) := by decide +kernel
theorem dX3_back_1 : decode cX3_back 1 = .ok (.iload_n 1, 1) := by decide +kernel
theorem dX3_back_2 : decode cX3_back 2 = .ok (.invokevirtual 130, 3) := by decide +kernel
theorem dX3_back_5 : decode cX3_back 5 = .ok (.aload_n 0, 1) := by decide +kernel
theorem dX3_back_6 : decode cX3_back 6 = .ok (.invokevirtual 60, 3) := by decide +kernel
theorem dX3_back_9 : decode cX3_back 9 = .ok (.aload_n 0, 1) := by decide +kernel
theorem dX3_back_10 : decode cX3_back 10 = .ok (.getfield 12, 3) := by decide +kernel
theorem dX3_back_13 : decode cX3_back 13 = .ok (.aload_n 0, 1) := by decide +kernel
theorem dX3_back_14 : decode cX3_back 14 = .ok (.getfield 28, 3) := by decide +kernel
theorem dX3_back_17 : decode cX3_back 17 = .ok (.iload_n 1, 1) := by decide +kernel
theorem dX3_back_18 : decode cX3_back 18 = .ok (.invokevirtual 92, 3) := by decide +kernel
theorem dX3_back_21 : decode cX3_back 21 = .ok (.invokevirtual 133, 3) := by decide +kernel
theorem dX3_back_24 : decode cX3_back 24 = .ok (.ireturn, 1) := by decide +kernel
theorem dX3_undo_0 : decode cX3_undo 0 = .ok (.aload_n 0, 1) := by decide +kernel
theorem dX3_undo_1 : decode cX3_undo 1 = .ok (.getfield 24, 3) := by decide +kernel
theorem dX3_undo_4 : decode cX3_undo 4 = .ok (.getfield 89, 3) := by decide +kernel
theorem dX3_undo_7 : decode cX3_undo 7 = .ok (.iconst 1, 1) := by decide +kernel
theorem dX3_undo_8 : decode cX3_undo 8 = .ok (.if_icmp .ge 13, 3) := by decide +kernel
theorem dX3_undo_11 : decode cX3_undo 11 = .ok (.new 119, 3) := by decide +kernel
theorem dX3_undo_14 : decode cX3_undo 14 = .ok (.dup, 1) := by decide +kernel
theorem dX3_undo_15 : decode cX3_undo 15 = .ok (.ldc 136, 2) := by decide +kernel
theorem dX3_undo_17 : decode cX3_undo 17 = .ok (.invokespecial 123, 3) := by decide +kernel
theorem dX3_undo_20 : decode cX3_undo 20 = .ok (.athrow, 1) := by decide +kernel
theorem dX3_undo_21 : decode cX3_undo 21 = .ok (.aload_n 0, 1) := by decide +kernel
theorem dX3_undo_22 : decode cX3_undo 22 = .ok (.getfield 12, 3) := by decide +kernel
theorem dX3_undo_25 : decode cX3_undo 25 = .ok (.aload_n 0, 1) := by decide +kernel
theorem dX3_undo_26 : decode cX3_undo 26 = .ok (.getfield 24, 3) := by decide +kernel
theorem dX3_undo_29 : decode cX3_undo 29 = .ok (.aload_n 0, 1) := by decide +kernel
theorem dX3_undo_30 : decode cX3_undo 30 = .ok (.getfield 24, 3) := by decide +kernel
theorem dX3_undo_33 : decode cX3_undo 33 = .ok (.getfield 89, 3) := by decide +kernel
theorem dX3_undo_36 : decode cX3_undo 36 = .ok (.iconst 1, 1) := by decide +kernel
theorem dX3_undo_37 : decode cX3_undo 37 = .ok (.isub, 1) := by decide +kernel
theorem dX3_undo_38 : decode cX3_undo 38 = .ok (.invokevirtual 92, 3) := by decide +kernel
theorem dX3_undo_41 : decode cX3_undo 41 = .ok (.invokevirtual 133, 3) := by decide +kernel
theorem dX3_undo_44 : decode cX3_undo 44 = .ok (.istore_n 1, 1) := by decide +kernel
theorem dX3_undo_45 : decode cX3_undo 45 = .ok (.aload_n 0, 1) := by decide +kernel
theorem dX3_undo_46 : decode cX3_undo 46 = .ok (.getfield 24, 3) := by decide +kernel
theorem dX3_undo_49 : decode cX3_undo 49 = .ok (.invokevirtual 138, 3) := by decide +kernel
theorem dX3_undo_52 : decode cX3_undo 52 = .ok (.iload_n 1, 1) := by decide +kernel
theorem dX3_undo_53 : decode cX3_undo 53 = .ok (.ireturn, 1) := by decide +kernel
theorem dX3_setSun_0 : decode cX3_setSun 0 = .ok (.iload_n 1, 1) := by decide +kernel
theorem dX3_setSun_1 : decode cX3_setSun 1 = .ok (.iconst 0, 1) := by decide +kernel
theorem dX3_setSun_2 : decode cX3_setSun 2 = .ok (.bipush 9, 2) := by decide +kernel
theorem dX3_setSun_4 : decode cX3_setSun 4 = .ok (.invokestatic 46, 3) := by decide +kernel
theorem dX3_setSun_7 : decode cX3_setSun 7 = .ok (.aload_n 0, 1) := by decide +kernel
theorem dX3_setSun_8 : decode cX3_setSun 8 = .ok (.getfield 12, 3) := by decide +kernel
theorem dX3_setSun_11 : decode cX3_setSun 11 = .ok (.getfield 38, 3) := by decide +kernel
theorem dX3_setSun_14 : decode cX3_setSun 14 = .ok (.istore_n 2, 1) := by decide +kernel
theorem dX3_setSun_15 : decode cX3_setSun 15 = .ok (.aload_n 0, 1) := by decide +kernel
theorem dX3_setSun_16 : decode cX3_setSun 16 = .ok (.getfield 12, 3) := by decide +kernel
theorem dX3_setSun_19 : decode cX3_setSun 19 = .ok (.iload_n 1, 1) := by decide +kernel
theorem dX3_setSun_20 : decode cX3_setSun 20 = .ok (.putfield 38, 3) := by decide +kernel
theorem dX3_setSun_23 : decode cX3_setSun 23 = .ok (.iload_n 2, 1) := by decide +kernel
theorem dX3_setSun_24 : decode cX3_setSun 24 = .ok (.ireturn, 1) := by decide +kernel
theorem dX3_setEdge_0 : decode cX3_setEdge 0 = .ok (.aload_n 0, 1) := by decide +kernel
theorem dX3_setEdge_1 : decode cX3_setEdge 1 = .ok (.iload_n 1, 1) := by decide +kernel
theorem dX3_setEdge_2 : decode cX3_setEdge 2 = .ok (.invokevirtual 141, 3) := by decide +kernel
theorem dX3_setEdge_5 : decode cX3_setEdge 5 = .ok (.iload_n 2, 1) := by decide +kernel
theorem dX3_setEdge_6 : decode cX3_setEdge 6 = .ok (.iconst 0, 1) := by decide +kernel
theorem dX3_setEdge_7 : decode cX3_setEdge 7 = .ok (.sipush 999, 3) := by decide +kernel
theorem dX3_setEdge_10 : decode cX3_setEdge 10 = .ok (.invokestatic 46, 3) := by decide +kernel
theorem dX3_setEdge_13 : decode cX3_setEdge 13 = .ok (.aload_n 0, 1) := by decide +kernel
theorem dX3_setEdge_14 : decode cX3_setEdge 14 = .ok (.getfield 12, 3) := by decide +kernel
theorem dX3_setEdge_17 : decode cX3_setEdge 17 = .ok (.getfield 144, 3) := by decide +kernel
theorem dX3_setEdge_20 : decode cX3_setEdge 20 = .ok (.iload_n 1, 1) := by decide +kernel
theorem dX3_setEdge_21 : decode cX3_setEdge 21 = .ok (.iaload, 1) := by decide +kernel
theorem dX3_setEdge_22 : decode cX3_setEdge 22 = .ok (.istore_n 3, 1) := by decide +kernel
theorem dX3_setEdge_23 : decode cX3_setEdge 23 = .ok (.aload_n 0, 1) := by decide +kernel
theorem dX3_setEdge_24 : decode cX3_setEdge 24 = .ok (.getfield 12, 3) := by decide +kernel
theorem dX3_setEdge_27 : decode cX3_setEdge 27 = .ok (.getfield 144, 3) := by decide +kernel
theorem dX3_setEdge_30 : decode cX3_setEdge 30 = .ok (.iload_n 1, 1) := by decide +kernel
theorem dX3_setEdge_31 : decode cX3_setEdge 31 = .ok (.iload_n 2, 1) := by decide +kernel
theorem dX3_setEdge_32 : decode cX3_setEdge 32 = .ok (.iastore, 1) := by decide +kernel
theorem dX3_setEdge_33 : decode cX3_setEdge 33 = .ok (.iload_n 3, 1) := by decide +kernel
theorem dX3_setEdge_34 : decode cX3_setEdge 34 = .ok (.ireturn, 1) := by decide +kernel
theorem dX3_flights_0 : decode cX3_flights 0 = .ok (.aload_n 0, 1) := by decide +kernel
theorem dX3_flights_1 : decode cX3_flights 1 = .ok (.getfield 12, 3) := by decide +kernel
theorem dX3_flights_4 : decode cX3_flights 4 = .ok (.getfield 148, 3) := by decide +kernel
theorem dX3_flights_7 : decode cX3_flights 7 = .ok (.ireturn, 1) := by decide +kernel
theorem dX3_steps_0 : decode cX3_steps 0 = .ok (.aload_n 0, 1) := by decide +kernel
theorem dX3_steps_1 : decode cX3_steps 1 = .ok (.getfield 12, 3) := by decide +kernel
theorem dX3_steps_4 : decode cX3_steps 4 = .ok (.getfield 77, 3) := by decide +kernel
theorem dX3_steps_7 : decode cX3_steps 7 = .ok (.ireturn, 1) := by decide +kernel
theorem dX3_hours_0 : decode cX3_hours 0 = .ok (.aload_n 0, 1) := by decide +kernel
theorem dX3_hours_1 : decode cX3_hours 1 = .ok (.getfield 112, 3) := by decide +kernel
theorem dX3_hours_4 : decode cX3_hours 4 = .ok (.ireturn, 1) := by decide +kernel
theorem dX3_sun_0 : decode cX3_sun 0 = .ok (.aload_n 0, 1) := by decide +kernel
theorem dX3_sun_1 : decode cX3_sun 1 = .ok (.getfield 12, 3) := by decide +kernel
theorem dX3_sun_4 : decode cX3_sun 4 = .ok (.getfield 38, 3) := by decide +kernel
theorem dX3_sun_7 : decode cX3_sun 7 = .ok (.ireturn, 1) := by decide +kernel
theorem dX3_edgeOf_0 : decode cX3_edgeOf 0 = .ok (.aload_n 0, 1) := by decide +kernel
theorem dX3_edgeOf_1 : decode cX3_edgeOf 1 = .ok (.iload_n 1, 1) := by decide +kernel
theorem dX3_edgeOf_2 : decode cX3_edgeOf 2 = .ok (.invokevirtual 141, 3) := by decide +kernel
theorem dX3_edgeOf_5 : decode cX3_edgeOf 5 = .ok (.aload_n 0, 1) := by decide +kernel
theorem dX3_edgeOf_6 : decode cX3_edgeOf 6 = .ok (.getfield 12, 3) := by decide +kernel
theorem dX3_edgeOf_9 : decode cX3_edgeOf 9 = .ok (.getfield 144, 3) := by decide +kernel
theorem dX3_edgeOf_12 : decode cX3_edgeOf 12 = .ok (.iload_n 1, 1) := by decide +kernel
theorem dX3_edgeOf_13 : decode cX3_edgeOf 13 = .ok (.iaload, 1) := by decide +kernel
theorem dX3_edgeOf_14 : decode cX3_edgeOf 14 = .ok (.ireturn, 1) := by decide +kernel
theorem dX3_marks_0 : decode cX3_marks 0 = .ok (.aload_n 0, 1) := by decide +kernel
theorem dX3_marks_1 : decode cX3_marks 1 = .ok (.getfield 28, 3) := by decide +kernel
theorem dX3_marks_4 : decode cX3_marks 4 = .ok (.getfield 89, 3) := by decide +kernel
theorem dX3_marks_7 : decode cX3_marks 7 = .ok (.ireturn, 1) := by decide +kernel
theorem dX3_deeds_0 : decode cX3_deeds 0 = .ok (.aload_n 0, 1) := by decide +kernel
theorem dX3_deeds_1 : decode cX3_deeds 1 = .ok (.getfield 24, 3) := by decide +kernel
theorem dX3_deeds_4 : decode cX3_deeds 4 = .ok (.getfield 89, 3) := by decide +kernel
theorem dX3_deeds_7 : decode cX3_deeds 7 = .ok (.ireturn, 1) := by decide +kernel
theorem dX3_gone_0 : decode cX3_gone 0 = .ok (.aload_n 0, 1) := by decide +kernel
theorem dX3_gone_1 : decode cX3_gone 1 = .ok (.getfield 115, 3) := by decide +kernel
theorem dX3_gone_4 : decode cX3_gone 4 = .ok (.lreturn, 1) := by decide +kernel
theorem dX3_levelAt_0 : decode cX3_levelAt 0 = .ok (.aload_n 0, 1) := by decide +kernel
theorem dX3_levelAt_1 : decode cX3_levelAt 1 = .ok (.iload_n 1, 1) := by decide +kernel
theorem dX3_levelAt_2 : decode cX3_levelAt 2 = .ok (.iload_n 2, 1) := by decide +kernel
theorem dX3_levelAt_3 : decode cX3_levelAt 3 = .ok (.invokevirtual 57, 3) := by decide +kernel
theorem dX3_levelAt_6 : decode cX3_levelAt 6 = .ok (.aload_n 0, 1) := by decide +kernel
theorem dX3_levelAt_7 : decode cX3_levelAt 7 = .ok (.getfield 12, 3) := by decide +kernel
theorem dX3_levelAt_10 : decode cX3_levelAt 10 = .ok (.iload_n 1, 1) := by decide +kernel
theorem dX3_levelAt_11 : decode cX3_levelAt 11 = .ok (.iload_n 2, 1) := by decide +kernel
theorem dX3_levelAt_12 : decode cX3_levelAt 12 = .ok (.invokevirtual 66, 3) := by decide +kernel
theorem dX3_levelAt_15 : decode cX3_levelAt 15 = .ok (.ireturn, 1) := by decide +kernel
theorem dX3_sumOf_0 : decode cX3_sumOf 0 = .ok (.aload_n 0, 1) := by decide +kernel
theorem dX3_sumOf_1 : decode cX3_sumOf 1 = .ok (.iload_n 1, 1) := by decide +kernel
theorem dX3_sumOf_2 : decode cX3_sumOf 2 = .ok (.iload_n 2, 1) := by decide +kernel
theorem dX3_sumOf_3 : decode cX3_sumOf 3 = .ok (.iload_n 3, 1) := by decide +kernel
theorem dX3_sumOf_4 : decode cX3_sumOf 4 = .ok (.iload 4, 2) := by decide +kernel
theorem dX3_sumOf_6 : decode cX3_sumOf 6 = .ok (.invokevirtual 70, 3) := by decide +kernel
theorem dX3_sumOf_9 : decode cX3_sumOf 9 = .ok (.aload_n 0, 1) := by decide +kernel
theorem dX3_sumOf_10 : decode cX3_sumOf 10 = .ok (.getfield 12, 3) := by decide +kernel
theorem dX3_sumOf_13 : decode cX3_sumOf 13 = .ok (.iload_n 1, 1) := by decide +kernel
theorem dX3_sumOf_14 : decode cX3_sumOf 14 = .ok (.iload_n 2, 1) := by decide +kernel
theorem dX3_sumOf_15 : decode cX3_sumOf 15 = .ok (.iload_n 3, 1) := by decide +kernel
theorem dX3_sumOf_16 : decode cX3_sumOf 16 = .ok (.iload 4, 2) := by decide +kernel
theorem dX3_sumOf_18 : decode cX3_sumOf 18 = .ok (.invokevirtual 151, 3) := by decide +kernel
theorem dX3_sumOf_21 : decode cX3_sumOf 21 = .ok (.lreturn, 1) := by decide +kernel
theorem dX3_sumTo_0 : decode cX3_sumTo 0 = .ok (.aload_n 0, 1) := by decide +kernel
theorem dX3_sumTo_1 : decode cX3_sumTo 1 = .ok (.iload_n 1, 1) := by decide +kernel
theorem dX3_sumTo_2 : decode cX3_sumTo 2 = .ok (.iload_n 2, 1) := by decide +kernel
theorem dX3_sumTo_3 : decode cX3_sumTo 3 = .ok (.invokevirtual 57, 3) := by decide +kernel
theorem dX3_sumTo_6 : decode cX3_sumTo 6 = .ok (.aload_n 0, 1) := by decide +kernel
theorem dX3_sumTo_7 : decode cX3_sumTo 7 = .ok (.getfield 12, 3) := by decide +kernel
theorem dX3_sumTo_10 : decode cX3_sumTo 10 = .ok (.iconst 0, 1) := by decide +kernel
theorem dX3_sumTo_11 : decode cX3_sumTo 11 = .ok (.iconst 0, 1) := by decide +kernel
theorem dX3_sumTo_12 : decode cX3_sumTo 12 = .ok (.iload_n 1, 1) := by decide +kernel
theorem dX3_sumTo_13 : decode cX3_sumTo 13 = .ok (.iload_n 2, 1) := by decide +kernel
theorem dX3_sumTo_14 : decode cX3_sumTo 14 = .ok (.invokevirtual 151, 3) := by decide +kernel
theorem dX3_sumTo_17 : decode cX3_sumTo 17 = .ok (.lreturn, 1) := by decide +kernel
theorem dX3_flightSum_0 : decode cX3_flightSum 0 = .ok (.aload_n 0, 1) := by decide +kernel
theorem dX3_flightSum_1 : decode cX3_flightSum 1 = .ok (.iload_n 1, 1) := by decide +kernel
theorem dX3_flightSum_2 : decode cX3_flightSum 2 = .ok (.invokevirtual 74, 3) := by decide +kernel
theorem dX3_flightSum_5 : decode cX3_flightSum 5 = .ok (.aload_n 0, 1) := by decide +kernel
theorem dX3_flightSum_6 : decode cX3_flightSum 6 = .ok (.getfield 12, 3) := by decide +kernel
theorem dX3_flightSum_9 : decode cX3_flightSum 9 = .ok (.iload_n 1, 1) := by decide +kernel
theorem dX3_flightSum_10 : decode cX3_flightSum 10 = .ok (.iconst 0, 1) := by decide +kernel
theorem dX3_flightSum_11 : decode cX3_flightSum 11 = .ok (.iload_n 1, 1) := by decide +kernel
theorem dX3_flightSum_12 : decode cX3_flightSum 12 = .ok (.aload_n 0, 1) := by decide +kernel
theorem dX3_flightSum_13 : decode cX3_flightSum 13 = .ok (.getfield 12, 3) := by decide +kernel
theorem dX3_flightSum_16 : decode cX3_flightSum 16 = .ok (.getfield 77, 3) := by decide +kernel
theorem dX3_flightSum_19 : decode cX3_flightSum 19 = .ok (.iconst 1, 1) := by decide +kernel
theorem dX3_flightSum_20 : decode cX3_flightSum 20 = .ok (.isub, 1) := by decide +kernel
theorem dX3_flightSum_21 : decode cX3_flightSum 21 = .ok (.invokevirtual 151, 3) := by decide +kernel
theorem dX3_flightSum_24 : decode cX3_flightSum 24 = .ok (.lreturn, 1) := by decide +kernel
theorem dX3_stepSum_0 : decode cX3_stepSum 0 = .ok (.aload_n 0, 1) := by decide +kernel
theorem dX3_stepSum_1 : decode cX3_stepSum 1 = .ok (.iload_n 1, 1) := by decide +kernel
theorem dX3_stepSum_2 : decode cX3_stepSum 2 = .ok (.invokevirtual 141, 3) := by decide +kernel
theorem dX3_stepSum_5 : decode cX3_stepSum 5 = .ok (.aload_n 0, 1) := by decide +kernel
theorem dX3_stepSum_6 : decode cX3_stepSum 6 = .ok (.getfield 12, 3) := by decide +kernel
theorem dX3_stepSum_9 : decode cX3_stepSum 9 = .ok (.iconst 0, 1) := by decide +kernel
theorem dX3_stepSum_10 : decode cX3_stepSum 10 = .ok (.iload_n 1, 1) := by decide +kernel
theorem dX3_stepSum_11 : decode cX3_stepSum 11 = .ok (.aload_n 0, 1) := by decide +kernel
theorem dX3_stepSum_12 : decode cX3_stepSum 12 = .ok (.getfield 12, 3) := by decide +kernel
theorem dX3_stepSum_15 : decode cX3_stepSum 15 = .ok (.getfield 148, 3) := by decide +kernel
theorem dX3_stepSum_18 : decode cX3_stepSum 18 = .ok (.iconst 1, 1) := by decide +kernel
theorem dX3_stepSum_19 : decode cX3_stepSum 19 = .ok (.isub, 1) := by decide +kernel
theorem dX3_stepSum_20 : decode cX3_stepSum 20 = .ok (.iload_n 1, 1) := by decide +kernel
theorem dX3_stepSum_21 : decode cX3_stepSum 21 = .ok (.invokevirtual 151, 3) := by decide +kernel
theorem dX3_stepSum_24 : decode cX3_stepSum 24 = .ok (.lreturn, 1) := by decide +kernel
theorem dX3_total_0 : decode cX3_total 0 = .ok (.aload_n 0, 1) := by decide +kernel
theorem dX3_total_1 : decode cX3_total 1 = .ok (.getfield 12, 3) := by decide +kernel
theorem dX3_total_4 : decode cX3_total 4 = .ok (.invokevirtual 155, 3) := by decide +kernel
theorem dX3_total_7 : decode cX3_total 7 = .ok (.lreturn, 1) := by decide +kernel
theorem dX3_firstReaching_0 : decode cX3_firstReaching 0 = .ok (.aload_n 0, 1) := by decide +kernel
theorem dX3_firstReaching_1 : decode cX3_firstReaching 1 = .ok (.iload_n 1, 1) := by decide +kernel
theorem dX3_firstReaching_2 : decode cX3_firstReaching 2 = .ok (.invokevirtual 74, 3) := by decide +kernel
theorem dX3_firstReaching_5 : decode cX3_firstReaching 5 = .ok (.lconst 0, 1) := by decide +kernel
theorem dX3_firstReaching_6 : decode cX3_firstReaching 6 = .ok (.lstore_n 3, 1) := by decide +kernel
theorem dX3_firstReaching_7 : decode cX3_firstReaching 7 = .ok (.iconst 0, 1) := by decide +kernel
theorem dX3_firstReaching_8 : decode cX3_firstReaching 8 = .ok (.istore 5, 2) := by decide +kernel
theorem dX3_firstReaching_10 : decode cX3_firstReaching 10 = .ok (.iload 5, 2) := by decide +kernel
theorem dX3_firstReaching_12 : decode cX3_firstReaching 12 = .ok (.aload_n 0, 1) := by decide +kernel
theorem dX3_firstReaching_13 : decode cX3_firstReaching 13 = .ok (.getfield 12, 3) := by decide +kernel
theorem dX3_firstReaching_16 : decode cX3_firstReaching 16 = .ok (.getfield 77, 3) := by decide +kernel
theorem dX3_firstReaching_19 : decode cX3_firstReaching 19 = .ok (.if_icmp .ge 33, 3) := by decide +kernel
theorem dX3_firstReaching_22 : decode cX3_firstReaching 22 = .ok (.lload_n 3, 1) := by decide +kernel
theorem dX3_firstReaching_23 : decode cX3_firstReaching 23 = .ok (.aload_n 0, 1) := by decide +kernel
theorem dX3_firstReaching_24 : decode cX3_firstReaching 24 = .ok (.getfield 12, 3) := by decide +kernel
theorem dX3_firstReaching_27 : decode cX3_firstReaching 27 = .ok (.iload_n 1, 1) := by decide +kernel
theorem dX3_firstReaching_28 : decode cX3_firstReaching 28 = .ok (.iload 5, 2) := by decide +kernel
theorem dX3_firstReaching_30 : decode cX3_firstReaching 30 = .ok (.invokevirtual 66, 3) := by decide +kernel
theorem dX3_firstReaching_33 : decode cX3_firstReaching 33 = .ok (.i2l, 1) := by decide +kernel
theorem dX3_firstReaching_34 : decode cX3_firstReaching 34 = .ok (.ladd, 1) := by decide +kernel
theorem dX3_firstReaching_35 : decode cX3_firstReaching 35 = .ok (.lstore_n 3, 1) := by decide +kernel
theorem dX3_firstReaching_36 : decode cX3_firstReaching 36 = .ok (.lload_n 3, 1) := by decide +kernel
theorem dX3_firstReaching_37 : decode cX3_firstReaching 37 = .ok (.iload_n 2, 1) := by decide +kernel
theorem dX3_firstReaching_38 : decode cX3_firstReaching 38 = .ok (.i2l, 1) := by decide +kernel
theorem dX3_firstReaching_39 : decode cX3_firstReaching 39 = .ok (.lcmp, 1) := by decide +kernel
theorem dX3_firstReaching_40 : decode cX3_firstReaching 40 = .ok (.ifCond .lt 6, 3) := by decide +kernel
theorem dX3_firstReaching_43 : decode cX3_firstReaching 43 = .ok (.iload 5, 2) := by decide +kernel
theorem dX3_firstReaching_45 : decode cX3_firstReaching 45 = .ok (.ireturn, 1) := by decide +kernel
theorem dX3_firstReaching_46 : decode cX3_firstReaching 46 = .ok (.iinc 5 1, 3) := by decide +kernel
theorem dX3_firstReaching_49 : decode cX3_firstReaching 49 = .ok (.goto (-39), 3) := by decide +kernel
theorem dX3_firstReaching_52 : decode cX3_firstReaching 52 = .ok (.iconst (-1), 1) := by decide +kernel
theorem dX3_firstReaching_53 : decode cX3_firstReaching 53 = .ok (.ireturn, 1) := by decide +kernel
theorem dX3_bestRun_0 : decode cX3_bestRun 0 = .ok (.aload_n 0, 1) := by decide +kernel
theorem dX3_bestRun_1 : decode cX3_bestRun 1 = .ok (.iload_n 1, 1) := by decide +kernel
theorem dX3_bestRun_2 : decode cX3_bestRun 2 = .ok (.invokevirtual 74, 3) := by decide +kernel
theorem dX3_bestRun_5 : decode cX3_bestRun 5 = .ok (.aload_n 0, 1) := by decide +kernel
theorem dX3_bestRun_6 : decode cX3_bestRun 6 = .ok (.getfield 12, 3) := by decide +kernel
theorem dX3_bestRun_9 : decode cX3_bestRun 9 = .ok (.iload_n 1, 1) := by decide +kernel
theorem dX3_bestRun_10 : decode cX3_bestRun 10 = .ok (.iconst 0, 1) := by decide +kernel
theorem dX3_bestRun_11 : decode cX3_bestRun 11 = .ok (.invokevirtual 66, 3) := by decide +kernel
theorem dX3_bestRun_14 : decode cX3_bestRun 14 = .ok (.i2l, 1) := by decide +kernel
theorem dX3_bestRun_15 : decode cX3_bestRun 15 = .ok (.lstore_n 2, 1) := by decide +kernel
theorem dX3_bestRun_16 : decode cX3_bestRun 16 = .ok (.lload_n 2, 1) := by decide +kernel
theorem dX3_bestRun_17 : decode cX3_bestRun 17 = .ok (.lstore 4, 2) := by decide +kernel
theorem dX3_bestRun_19 : decode cX3_bestRun 19 = .ok (.iconst 1, 1) := by decide +kernel
theorem dX3_bestRun_20 : decode cX3_bestRun 20 = .ok (.istore 6, 2) := by decide +kernel
theorem dX3_bestRun_22 : decode cX3_bestRun 22 = .ok (.iload 6, 2) := by decide +kernel
theorem dX3_bestRun_24 : decode cX3_bestRun 24 = .ok (.aload_n 0, 1) := by decide +kernel
theorem dX3_bestRun_25 : decode cX3_bestRun 25 = .ok (.getfield 12, 3) := by decide +kernel
theorem dX3_bestRun_28 : decode cX3_bestRun 28 = .ok (.getfield 77, 3) := by decide +kernel
theorem dX3_bestRun_31 : decode cX3_bestRun 31 = .ok (.if_icmp .ge 36, 3) := by decide +kernel
theorem dX3_bestRun_34 : decode cX3_bestRun 34 = .ok (.lconst 0, 1) := by decide +kernel
theorem dX3_bestRun_35 : decode cX3_bestRun 35 = .ok (.lload 4, 2) := by decide +kernel
theorem dX3_bestRun_37 : decode cX3_bestRun 37 = .ok (.invokestatic 159, 3) := by decide +kernel
theorem dX3_bestRun_40 : decode cX3_bestRun 40 = .ok (.aload_n 0, 1) := by decide +kernel
theorem dX3_bestRun_41 : decode cX3_bestRun 41 = .ok (.getfield 12, 3) := by decide +kernel
theorem dX3_bestRun_44 : decode cX3_bestRun 44 = .ok (.iload_n 1, 1) := by decide +kernel
theorem dX3_bestRun_45 : decode cX3_bestRun 45 = .ok (.iload 6, 2) := by decide +kernel
theorem dX3_bestRun_47 : decode cX3_bestRun 47 = .ok (.invokevirtual 66, 3) := by decide +kernel
theorem dX3_bestRun_50 : decode cX3_bestRun 50 = .ok (.i2l, 1) := by decide +kernel
theorem dX3_bestRun_51 : decode cX3_bestRun 51 = .ok (.ladd, 1) := by decide +kernel
theorem dX3_bestRun_52 : decode cX3_bestRun 52 = .ok (.lstore 4, 2) := by decide +kernel
theorem dX3_bestRun_54 : decode cX3_bestRun 54 = .ok (.lload_n 2, 1) := by decide +kernel
theorem dX3_bestRun_55 : decode cX3_bestRun 55 = .ok (.lload 4, 2) := by decide +kernel
theorem dX3_bestRun_57 : decode cX3_bestRun 57 = .ok (.invokestatic 159, 3) := by decide +kernel
theorem dX3_bestRun_60 : decode cX3_bestRun 60 = .ok (.lstore_n 2, 1) := by decide +kernel
theorem dX3_bestRun_61 : decode cX3_bestRun 61 = .ok (.iinc 6 1, 3) := by decide +kernel
theorem dX3_bestRun_64 : decode cX3_bestRun 64 = .ok (.goto (-42), 3) := by decide +kernel
theorem dX3_bestRun_67 : decode cX3_bestRun 67 = .ok (.lload_n 2, 1) := by decide +kernel
theorem dX3_bestRun_68 : decode cX3_bestRun 68 = .ok (.lreturn, 1) := by decide +kernel
theorem dX3_dryIn_0 : decode cX3_dryIn 0 = .ok (.aload_n 0, 1) := by decide +kernel
theorem dX3_dryIn_1 : decode cX3_dryIn 1 = .ok (.iload_n 1, 1) := by decide +kernel
theorem dX3_dryIn_2 : decode cX3_dryIn 2 = .ok (.iload_n 2, 1) := by decide +kernel
theorem dX3_dryIn_3 : decode cX3_dryIn 3 = .ok (.iload_n 3, 1) := by decide +kernel
theorem dX3_dryIn_4 : decode cX3_dryIn 4 = .ok (.iload 4, 2) := by decide +kernel
theorem dX3_dryIn_6 : decode cX3_dryIn 6 = .ok (.invokevirtual 70, 3) := by decide +kernel
theorem dX3_dryIn_9 : decode cX3_dryIn 9 = .ok (.aload_n 0, 1) := by decide +kernel
theorem dX3_dryIn_10 : decode cX3_dryIn 10 = .ok (.getfield 12, 3) := by decide +kernel
theorem dX3_dryIn_13 : decode cX3_dryIn 13 = .ok (.iload_n 1, 1) := by decide +kernel
theorem dX3_dryIn_14 : decode cX3_dryIn 14 = .ok (.iload_n 2, 1) := by decide +kernel
theorem dX3_dryIn_15 : decode cX3_dryIn 15 = .ok (.iload_n 3, 1) := by decide +kernel
theorem dX3_dryIn_16 : decode cX3_dryIn 16 = .ok (.iload 4, 2) := by decide +kernel
theorem dX3_dryIn_18 : decode cX3_dryIn 18 = .ok (.invokevirtual 162, 3) := by decide +kernel
theorem dX3_dryIn_21 : decode cX3_dryIn 21 = .ok (.ireturn, 1) := by decide +kernel
theorem dX3_dry_0 : decode cX3_dry 0 = .ok (.aload_n 0, 1) := by decide +kernel
theorem dX3_dry_1 : decode cX3_dry 1 = .ok (.getfield 12, 3) := by decide +kernel
theorem dX3_dry_4 : decode cX3_dry 4 = .ok (.iconst 0, 1) := by decide +kernel
theorem dX3_dry_5 : decode cX3_dry 5 = .ok (.invokevirtual 166, 3) := by decide +kernel
theorem dX3_dry_8 : decode cX3_dry 8 = .ok (.ireturn, 1) := by decide +kernel
theorem dX3_dryAt_0 : decode cX3_dryAt 0 = .ok (.iconst 0, 1) := by decide +kernel
theorem dX3_dryAt_1 : decode cX3_dryAt 1 = .ok (.istore_n 2, 1) := by decide +kernel
theorem dX3_dryAt_2 : decode cX3_dryAt 2 = .ok (.iconst 0, 1) := by decide +kernel
theorem dX3_dryAt_3 : decode cX3_dryAt 3 = .ok (.istore_n 3, 1) := by decide +kernel
theorem dX3_dryAt_4 : decode cX3_dryAt 4 = .ok (.iload_n 3, 1) := by decide +kernel
theorem dX3_dryAt_5 : decode cX3_dryAt 5 = .ok (.aload_n 0, 1) := by decide +kernel
theorem dX3_dryAt_6 : decode cX3_dryAt 6 = .ok (.getfield 12, 3) := by decide +kernel
theorem dX3_dryAt_9 : decode cX3_dryAt 9 = .ok (.invokevirtual 53, 3) := by decide +kernel
theorem dX3_dryAt_12 : decode cX3_dryAt 12 = .ok (.if_icmp .ge 31, 3) := by decide +kernel
theorem dX3_dryAt_15 : decode cX3_dryAt 15 = .ok (.aload_n 0, 1) := by decide +kernel
theorem dX3_dryAt_16 : decode cX3_dryAt 16 = .ok (.getfield 12, 3) := by decide +kernel
theorem dX3_dryAt_19 : decode cX3_dryAt 19 = .ok (.getfield 169, 3) := by decide +kernel
theorem dX3_dryAt_22 : decode cX3_dryAt 22 = .ok (.iload_n 3, 1) := by decide +kernel
theorem dX3_dryAt_23 : decode cX3_dryAt 23 = .ok (.iaload, 1) := by decide +kernel
theorem dX3_dryAt_24 : decode cX3_dryAt 24 = .ok (.ifCond .gt 13, 3) := by decide +kernel
theorem dX3_dryAt_27 : decode cX3_dryAt 27 = .ok (.iload_n 2, 1) := by decide +kernel
theorem dX3_dryAt_28 : decode cX3_dryAt 28 = .ok (.iload_n 1, 1) := by decide +kernel
theorem dX3_dryAt_29 : decode cX3_dryAt 29 = .ok (.if_icmp .ne 5, 3) := by decide +kernel
theorem dX3_dryAt_32 : decode cX3_dryAt 32 = .ok (.iload_n 3, 1) := by decide +kernel
theorem dX3_dryAt_33 : decode cX3_dryAt 33 = .ok (.ireturn, 1) := by decide +kernel
theorem dX3_dryAt_34 : decode cX3_dryAt 34 = .ok (.iinc 2 1, 3) := by decide +kernel
theorem dX3_dryAt_37 : decode cX3_dryAt 37 = .ok (.iinc 3 1, 3) := by decide +kernel
theorem dX3_dryAt_40 : decode cX3_dryAt 40 = .ok (.goto (-36), 3) := by decide +kernel
theorem dX3_dryAt_43 : decode cX3_dryAt 43 = .ok (.new 172, 3) := by decide +kernel
theorem dX3_dryAt_46 : decode cX3_dryAt 46 = .ok (.dup, 1) := by decide +kernel
theorem dX3_dryAt_47 : decode cX3_dryAt 47 = .ok (.ldc 174, 2) := by decide +kernel
theorem dX3_dryAt_49 : decode cX3_dryAt 49 = .ok (.invokespecial 176, 3) := by decide +kernel
theorem dX3_dryAt_52 : decode cX3_dryAt 52 = .ok (.athrow, 1) := by decide +kernel
theorem dX3_longestDry_0 : decode cX3_longestDry 0 = .ok (.aload_n 0, 1) := by decide +kernel
theorem dX3_longestDry_1 : decode cX3_longestDry 1 = .ok (.iload_n 1, 1) := by decide +kernel
theorem dX3_longestDry_2 : decode cX3_longestDry 2 = .ok (.invokevirtual 74, 3) := by decide +kernel
theorem dX3_longestDry_5 : decode cX3_longestDry 5 = .ok (.iconst 0, 1) := by decide +kernel
theorem dX3_longestDry_6 : decode cX3_longestDry 6 = .ok (.istore_n 2, 1) := by decide +kernel
theorem dX3_longestDry_7 : decode cX3_longestDry 7 = .ok (.iconst 0, 1) := by decide +kernel
theorem dX3_longestDry_8 : decode cX3_longestDry 8 = .ok (.istore_n 3, 1) := by decide +kernel
theorem dX3_longestDry_9 : decode cX3_longestDry 9 = .ok (.iconst 0, 1) := by decide +kernel
theorem dX3_longestDry_10 : decode cX3_longestDry 10 = .ok (.istore 4, 2) := by decide +kernel
theorem dX3_longestDry_12 : decode cX3_longestDry 12 = .ok (.iload 4, 2) := by decide +kernel
theorem dX3_longestDry_14 : decode cX3_longestDry 14 = .ok (.aload_n 0, 1) := by decide +kernel
theorem dX3_longestDry_15 : decode cX3_longestDry 15 = .ok (.getfield 12, 3) := by decide +kernel
theorem dX3_longestDry_18 : decode cX3_longestDry 18 = .ok (.getfield 77, 3) := by decide +kernel
theorem dX3_longestDry_21 : decode cX3_longestDry 21 = .ok (.if_icmp .ge 36, 3) := by decide +kernel
theorem dX3_longestDry_24 : decode cX3_longestDry 24 = .ok (.aload_n 0, 1) := by decide +kernel
theorem dX3_longestDry_25 : decode cX3_longestDry 25 = .ok (.getfield 12, 3) := by decide +kernel
theorem dX3_longestDry_28 : decode cX3_longestDry 28 = .ok (.iload_n 1, 1) := by decide +kernel
theorem dX3_longestDry_29 : decode cX3_longestDry 29 = .ok (.iload 4, 2) := by decide +kernel
theorem dX3_longestDry_31 : decode cX3_longestDry 31 = .ok (.invokevirtual 66, 3) := by decide +kernel
theorem dX3_longestDry_34 : decode cX3_longestDry 34 = .ok (.ifCond .gt 9, 3) := by decide +kernel
theorem dX3_longestDry_37 : decode cX3_longestDry 37 = .ok (.iload_n 3, 1) := by decide +kernel
theorem dX3_longestDry_38 : decode cX3_longestDry 38 = .ok (.iconst 1, 1) := by decide +kernel
theorem dX3_longestDry_39 : decode cX3_longestDry 39 = .ok (.iadd, 1) := by decide +kernel
theorem dX3_longestDry_40 : decode cX3_longestDry 40 = .ok (.goto 4, 3) := by decide +kernel
theorem dX3_longestDry_43 : decode cX3_longestDry 43 = .ok (.iconst 0, 1) := by decide +kernel
theorem dX3_longestDry_44 : decode cX3_longestDry 44 = .ok (.istore_n 3, 1) := by decide +kernel
theorem dX3_longestDry_45 : decode cX3_longestDry 45 = .ok (.iload_n 2, 1) := by decide +kernel
theorem dX3_longestDry_46 : decode cX3_longestDry 46 = .ok (.iload_n 3, 1) := by decide +kernel
theorem dX3_longestDry_47 : decode cX3_longestDry 47 = .ok (.invokestatic 100, 3) := by decide +kernel
theorem dX3_longestDry_50 : decode cX3_longestDry 50 = .ok (.istore_n 2, 1) := by decide +kernel
theorem dX3_longestDry_51 : decode cX3_longestDry 51 = .ok (.iinc 4 1, 3) := by decide +kernel
theorem dX3_longestDry_54 : decode cX3_longestDry 54 = .ok (.goto (-42), 3) := by decide +kernel
theorem dX3_longestDry_57 : decode cX3_longestDry 57 = .ok (.iload_n 2, 1) := by decide +kernel
theorem dX3_longestDry_58 : decode cX3_longestDry 58 = .ok (.ireturn, 1) := by decide +kernel
theorem dX3_driestFlight_0 : decode cX3_driestFlight 0 = .ok (.iconst 0, 1) := by decide +kernel
theorem dX3_driestFlight_1 : decode cX3_driestFlight 1 = .ok (.istore_n 1, 1) := by decide +kernel
theorem dX3_driestFlight_2 : decode cX3_driestFlight 2 = .ok (.iconst (-1), 1) := by decide +kernel
theorem dX3_driestFlight_3 : decode cX3_driestFlight 3 = .ok (.istore_n 2, 1) := by decide +kernel
theorem dX3_driestFlight_4 : decode cX3_driestFlight 4 = .ok (.iconst 0, 1) := by decide +kernel
theorem dX3_driestFlight_5 : decode cX3_driestFlight 5 = .ok (.istore_n 3, 1) := by decide +kernel
theorem dX3_driestFlight_6 : decode cX3_driestFlight 6 = .ok (.iload_n 3, 1) := by decide +kernel
theorem dX3_driestFlight_7 : decode cX3_driestFlight 7 = .ok (.aload_n 0, 1) := by decide +kernel
theorem dX3_driestFlight_8 : decode cX3_driestFlight 8 = .ok (.getfield 12, 3) := by decide +kernel
theorem dX3_driestFlight_11 : decode cX3_driestFlight 11 = .ok (.getfield 148, 3) := by decide +kernel
theorem dX3_driestFlight_14 : decode cX3_driestFlight 14 = .ok (.if_icmp .ge 41, 3) := by decide +kernel
theorem dX3_driestFlight_17 : decode cX3_driestFlight 17 = .ok (.aload_n 0, 1) := by decide +kernel
theorem dX3_driestFlight_18 : decode cX3_driestFlight 18 = .ok (.getfield 12, 3) := by decide +kernel
theorem dX3_driestFlight_21 : decode cX3_driestFlight 21 = .ok (.iload_n 3, 1) := by decide +kernel
theorem dX3_driestFlight_22 : decode cX3_driestFlight 22 = .ok (.iconst 0, 1) := by decide +kernel
theorem dX3_driestFlight_23 : decode cX3_driestFlight 23 = .ok (.iload_n 3, 1) := by decide +kernel
theorem dX3_driestFlight_24 : decode cX3_driestFlight 24 = .ok (.aload_n 0, 1) := by decide +kernel
theorem dX3_driestFlight_25 : decode cX3_driestFlight 25 = .ok (.getfield 12, 3) := by decide +kernel
theorem dX3_driestFlight_28 : decode cX3_driestFlight 28 = .ok (.getfield 77, 3) := by decide +kernel
theorem dX3_driestFlight_31 : decode cX3_driestFlight 31 = .ok (.iconst 1, 1) := by decide +kernel
theorem dX3_driestFlight_32 : decode cX3_driestFlight 32 = .ok (.isub, 1) := by decide +kernel
theorem dX3_driestFlight_33 : decode cX3_driestFlight 33 = .ok (.invokevirtual 162, 3) := by decide +kernel
theorem dX3_driestFlight_36 : decode cX3_driestFlight 36 = .ok (.istore 4, 2) := by decide +kernel
theorem dX3_driestFlight_38 : decode cX3_driestFlight 38 = .ok (.iload 4, 2) := by decide +kernel
theorem dX3_driestFlight_40 : decode cX3_driestFlight 40 = .ok (.iload_n 2, 1) := by decide +kernel
theorem dX3_driestFlight_41 : decode cX3_driestFlight 41 = .ok (.if_icmp .le 8, 3) := by decide +kernel
theorem dX3_driestFlight_44 : decode cX3_driestFlight 44 = .ok (.iload 4, 2) := by decide +kernel
theorem dX3_driestFlight_46 : decode cX3_driestFlight 46 = .ok (.istore_n 2, 1) := by decide +kernel
theorem dX3_driestFlight_47 : decode cX3_driestFlight 47 = .ok (.iload_n 3, 1) := by decide +kernel
theorem dX3_driestFlight_48 : decode cX3_driestFlight 48 = .ok (.istore_n 1, 1) := by decide +kernel
theorem dX3_driestFlight_49 : decode cX3_driestFlight 49 = .ok (.iinc 3 1, 3) := by decide +kernel
theorem dX3_driestFlight_52 : decode cX3_driestFlight 52 = .ok (.goto (-46), 3) := by decide +kernel
theorem dX3_driestFlight_55 : decode cX3_driestFlight 55 = .ok (.iload_n 1, 1) := by decide +kernel
theorem dX3_driestFlight_56 : decode cX3_driestFlight 56 = .ok (.ireturn, 1) := by decide +kernel
theorem dX3_lowestIn_0 : decode cX3_lowestIn 0 = .ok (.aload_n 0, 1) := by decide +kernel
theorem dX3_lowestIn_1 : decode cX3_lowestIn 1 = .ok (.iload_n 1, 1) := by decide +kernel
theorem dX3_lowestIn_2 : decode cX3_lowestIn 2 = .ok (.iload_n 2, 1) := by decide +kernel
theorem dX3_lowestIn_3 : decode cX3_lowestIn 3 = .ok (.iload_n 3, 1) := by decide +kernel
theorem dX3_lowestIn_4 : decode cX3_lowestIn 4 = .ok (.iload 4, 2) := by decide +kernel
theorem dX3_lowestIn_6 : decode cX3_lowestIn 6 = .ok (.invokevirtual 70, 3) := by decide +kernel
theorem dX3_lowestIn_9 : decode cX3_lowestIn 9 = .ok (.aload_n 0, 1) := by decide +kernel
theorem dX3_lowestIn_10 : decode cX3_lowestIn 10 = .ok (.getfield 12, 3) := by decide +kernel
theorem dX3_lowestIn_13 : decode cX3_lowestIn 13 = .ok (.iload_n 1, 1) := by decide +kernel
theorem dX3_lowestIn_14 : decode cX3_lowestIn 14 = .ok (.iload_n 2, 1) := by decide +kernel
theorem dX3_lowestIn_15 : decode cX3_lowestIn 15 = .ok (.invokevirtual 66, 3) := by decide +kernel
theorem dX3_lowestIn_18 : decode cX3_lowestIn 18 = .ok (.istore 5, 2) := by decide +kernel
theorem dX3_lowestIn_20 : decode cX3_lowestIn 20 = .ok (.iload_n 1, 1) := by decide +kernel
theorem dX3_lowestIn_21 : decode cX3_lowestIn 21 = .ok (.istore 6, 2) := by decide +kernel
theorem dX3_lowestIn_23 : decode cX3_lowestIn 23 = .ok (.iload 6, 2) := by decide +kernel
theorem dX3_lowestIn_25 : decode cX3_lowestIn 25 = .ok (.iload_n 3, 1) := by decide +kernel
theorem dX3_lowestIn_26 : decode cX3_lowestIn 26 = .ok (.if_icmp .gt 43, 3) := by decide +kernel
theorem dX3_lowestIn_29 : decode cX3_lowestIn 29 = .ok (.iload_n 2, 1) := by decide +kernel
theorem dX3_lowestIn_30 : decode cX3_lowestIn 30 = .ok (.istore 7, 2) := by decide +kernel
theorem dX3_lowestIn_32 : decode cX3_lowestIn 32 = .ok (.iload 7, 2) := by decide +kernel
theorem dX3_lowestIn_34 : decode cX3_lowestIn 34 = .ok (.iload 4, 2) := by decide +kernel
theorem dX3_lowestIn_36 : decode cX3_lowestIn 36 = .ok (.if_icmp .gt 27, 3) := by decide +kernel
theorem dX3_lowestIn_39 : decode cX3_lowestIn 39 = .ok (.iload 5, 2) := by decide +kernel
theorem dX3_lowestIn_41 : decode cX3_lowestIn 41 = .ok (.aload_n 0, 1) := by decide +kernel
theorem dX3_lowestIn_42 : decode cX3_lowestIn 42 = .ok (.getfield 12, 3) := by decide +kernel
theorem dX3_lowestIn_45 : decode cX3_lowestIn 45 = .ok (.iload 6, 2) := by decide +kernel
theorem dX3_lowestIn_47 : decode cX3_lowestIn 47 = .ok (.iload 7, 2) := by decide +kernel
theorem dX3_lowestIn_49 : decode cX3_lowestIn 49 = .ok (.invokevirtual 66, 3) := by decide +kernel
theorem dX3_lowestIn_52 : decode cX3_lowestIn 52 = .ok (.invokestatic 105, 3) := by decide +kernel
theorem dX3_lowestIn_55 : decode cX3_lowestIn 55 = .ok (.istore 5, 2) := by decide +kernel
theorem dX3_lowestIn_57 : decode cX3_lowestIn 57 = .ok (.iinc 7 1, 3) := by decide +kernel
theorem dX3_lowestIn_60 : decode cX3_lowestIn 60 = .ok (.goto (-28), 3) := by decide +kernel
theorem dX3_lowestIn_63 : decode cX3_lowestIn 63 = .ok (.iinc 6 1, 3) := by decide +kernel
theorem dX3_lowestIn_66 : decode cX3_lowestIn 66 = .ok (.goto (-43), 3) := by decide +kernel
theorem dX3_lowestIn_69 : decode cX3_lowestIn 69 = .ok (.iload 5, 2) := by decide +kernel
theorem dX3_lowestIn_71 : decode cX3_lowestIn 71 = .ok (.ireturn, 1) := by decide +kernel
theorem dX3_highestAt_0 : decode cX3_highestAt 0 = .ok (.aload_n 0, 1) := by decide +kernel
theorem dX3_highestAt_1 : decode cX3_highestAt 1 = .ok (.iload_n 1, 1) := by decide +kernel
theorem dX3_highestAt_2 : decode cX3_highestAt 2 = .ok (.invokevirtual 74, 3) := by decide +kernel
theorem dX3_highestAt_5 : decode cX3_highestAt 5 = .ok (.iconst 0, 1) := by decide +kernel
theorem dX3_highestAt_6 : decode cX3_highestAt 6 = .ok (.istore_n 2, 1) := by decide +kernel
theorem dX3_highestAt_7 : decode cX3_highestAt 7 = .ok (.iconst 1, 1) := by decide +kernel
theorem dX3_highestAt_8 : decode cX3_highestAt 8 = .ok (.istore_n 3, 1) := by decide +kernel
theorem dX3_highestAt_9 : decode cX3_highestAt 9 = .ok (.iload_n 3, 1) := by decide +kernel
theorem dX3_highestAt_10 : decode cX3_highestAt 10 = .ok (.aload_n 0, 1) := by decide +kernel
theorem dX3_highestAt_11 : decode cX3_highestAt 11 = .ok (.getfield 12, 3) := by decide +kernel
theorem dX3_highestAt_14 : decode cX3_highestAt 14 = .ok (.getfield 77, 3) := by decide +kernel
theorem dX3_highestAt_17 : decode cX3_highestAt 17 = .ok (.if_icmp .ge 32, 3) := by decide +kernel
theorem dX3_highestAt_20 : decode cX3_highestAt 20 = .ok (.aload_n 0, 1) := by decide +kernel
theorem dX3_highestAt_21 : decode cX3_highestAt 21 = .ok (.getfield 12, 3) := by decide +kernel
theorem dX3_highestAt_24 : decode cX3_highestAt 24 = .ok (.iload_n 1, 1) := by decide +kernel
theorem dX3_highestAt_25 : decode cX3_highestAt 25 = .ok (.iload_n 3, 1) := by decide +kernel
theorem dX3_highestAt_26 : decode cX3_highestAt 26 = .ok (.invokevirtual 66, 3) := by decide +kernel
theorem dX3_highestAt_29 : decode cX3_highestAt 29 = .ok (.aload_n 0, 1) := by decide +kernel
theorem dX3_highestAt_30 : decode cX3_highestAt 30 = .ok (.getfield 12, 3) := by decide +kernel
theorem dX3_highestAt_33 : decode cX3_highestAt 33 = .ok (.iload_n 1, 1) := by decide +kernel
theorem dX3_highestAt_34 : decode cX3_highestAt 34 = .ok (.iload_n 2, 1) := by decide +kernel
theorem dX3_highestAt_35 : decode cX3_highestAt 35 = .ok (.invokevirtual 66, 3) := by decide +kernel
theorem dX3_highestAt_38 : decode cX3_highestAt 38 = .ok (.if_icmp .le 5, 3) := by decide +kernel
theorem dX3_highestAt_41 : decode cX3_highestAt 41 = .ok (.iload_n 3, 1) := by decide +kernel
theorem dX3_highestAt_42 : decode cX3_highestAt 42 = .ok (.istore_n 2, 1) := by decide +kernel
theorem dX3_highestAt_43 : decode cX3_highestAt 43 = .ok (.iinc 3 1, 3) := by decide +kernel
theorem dX3_highestAt_46 : decode cX3_highestAt 46 = .ok (.goto (-37), 3) := by decide +kernel
theorem dX3_highestAt_49 : decode cX3_highestAt 49 = .ok (.iload_n 2, 1) := by decide +kernel
theorem dX3_highestAt_50 : decode cX3_highestAt 50 = .ok (.ireturn, 1) := by decide +kernel
theorem dX3_upTo_0 : decode cX3_upTo 0 = .ok (.aload_n 0, 1) := by decide +kernel
theorem dX3_upTo_1 : decode cX3_upTo 1 = .ok (.getfield 12, 3) := by decide +kernel
theorem dX3_upTo_4 : decode cX3_upTo 4 = .ok (.iload_n 1, 1) := by decide +kernel
theorem dX3_upTo_5 : decode cX3_upTo 5 = .ok (.invokevirtual 166, 3) := by decide +kernel
theorem dX3_upTo_8 : decode cX3_upTo 8 = .ok (.ireturn, 1) := by decide +kernel
theorem dX3_levelInOrder_0 : decode cX3_levelInOrder 0 = .ok (.iload_n 1, 1) := by decide +kernel
theorem dX3_levelInOrder_1 : decode cX3_levelInOrder 1 = .ok (.aload_n 0, 1) := by decide +kernel
theorem dX3_levelInOrder_2 : decode cX3_levelInOrder 2 = .ok (.getfield 12, 3) := by decide +kernel
theorem dX3_levelInOrder_5 : decode cX3_levelInOrder 5 = .ok (.invokevirtual 53, 3) := by decide +kernel
theorem dX3_levelInOrder_8 : decode cX3_levelInOrder 8 = .ok (.invokestatic 177, 3) := by decide +kernel
theorem dX3_levelInOrder_11 : decode cX3_levelInOrder 11 = .ok (.aload_n 0, 1) := by decide +kernel
theorem dX3_levelInOrder_12 : decode cX3_levelInOrder 12 = .ok (.getfield 12, 3) := by decide +kernel
theorem dX3_levelInOrder_15 : decode cX3_levelInOrder 15 = .ok (.invokevirtual 180, 3) := by decide +kernel
theorem dX3_levelInOrder_18 : decode cX3_levelInOrder 18 = .ok (.istore_n 2, 1) := by decide +kernel
theorem dX3_levelInOrder_19 : decode cX3_levelInOrder 19 = .ok (.iconst 0, 1) := by decide +kernel
theorem dX3_levelInOrder_20 : decode cX3_levelInOrder 20 = .ok (.istore_n 3, 1) := by decide +kernel
theorem dX3_levelInOrder_21 : decode cX3_levelInOrder 21 = .ok (.iload_n 3, 1) := by decide +kernel
theorem dX3_levelInOrder_22 : decode cX3_levelInOrder 22 = .ok (.aload_n 0, 1) := by decide +kernel
theorem dX3_levelInOrder_23 : decode cX3_levelInOrder 23 = .ok (.getfield 12, 3) := by decide +kernel
theorem dX3_levelInOrder_26 : decode cX3_levelInOrder 26 = .ok (.invokevirtual 53, 3) := by decide +kernel
theorem dX3_levelInOrder_29 : decode cX3_levelInOrder 29 = .ok (.if_icmp .ge 42, 3) := by decide +kernel
theorem dX3_levelInOrder_32 : decode cX3_levelInOrder 32 = .ok (.aload_n 0, 1) := by decide +kernel
theorem dX3_levelInOrder_33 : decode cX3_levelInOrder 33 = .ok (.getfield 12, 3) := by decide +kernel
theorem dX3_levelInOrder_36 : decode cX3_levelInOrder 36 = .ok (.getfield 169, 3) := by decide +kernel
theorem dX3_levelInOrder_39 : decode cX3_levelInOrder 39 = .ok (.iload_n 3, 1) := by decide +kernel
theorem dX3_levelInOrder_40 : decode cX3_levelInOrder 40 = .ok (.iaload, 1) := by decide +kernel
theorem dX3_levelInOrder_41 : decode cX3_levelInOrder 41 = .ok (.istore 4, 2) := by decide +kernel
theorem dX3_levelInOrder_43 : decode cX3_levelInOrder 43 = .ok (.iload 4, 2) := by decide +kernel
theorem dX3_levelInOrder_45 : decode cX3_levelInOrder 45 = .ok (.iload_n 2, 1) := by decide +kernel
theorem dX3_levelInOrder_46 : decode cX3_levelInOrder 46 = .ok (.if_icmp .ge 19, 3) := by decide +kernel
theorem dX3_levelInOrder_49 : decode cX3_levelInOrder 49 = .ok (.aload_n 0, 1) := by decide +kernel
theorem dX3_levelInOrder_50 : decode cX3_levelInOrder 50 = .ok (.getfield 12, 3) := by decide +kernel
theorem dX3_levelInOrder_53 : decode cX3_levelInOrder 53 = .ok (.iload 4, 2) := by decide +kernel
theorem dX3_levelInOrder_55 : decode cX3_levelInOrder 55 = .ok (.invokevirtual 166, 3) := by decide +kernel
theorem dX3_levelInOrder_58 : decode cX3_levelInOrder 58 = .ok (.iload_n 1, 1) := by decide +kernel
theorem dX3_levelInOrder_59 : decode cX3_levelInOrder 59 = .ok (.if_icmp .le 6, 3) := by decide +kernel
theorem dX3_levelInOrder_62 : decode cX3_levelInOrder 62 = .ok (.iload 4, 2) := by decide +kernel
theorem dX3_levelInOrder_64 : decode cX3_levelInOrder 64 = .ok (.istore_n 2, 1) := by decide +kernel
theorem dX3_levelInOrder_65 : decode cX3_levelInOrder 65 = .ok (.iinc 3 1, 3) := by decide +kernel
theorem dX3_levelInOrder_68 : decode cX3_levelInOrder 68 = .ok (.goto (-47), 3) := by decide +kernel
theorem dX3_levelInOrder_71 : decode cX3_levelInOrder 71 = .ok (.iload_n 2, 1) := by decide +kernel
theorem dX3_levelInOrder_72 : decode cX3_levelInOrder 72 = .ok (.ireturn, 1) := by decide +kernel
theorem dX3_outOfOrder_0 : decode cX3_outOfOrder 0 = .ok (.aload_n 0, 1) := by decide +kernel
theorem dX3_outOfOrder_1 : decode cX3_outOfOrder 1 = .ok (.getfield 34, 3) := by decide +kernel
theorem dX3_outOfOrder_4 : decode cX3_outOfOrder 4 = .ok (.aload_n 0, 1) := by decide +kernel
theorem dX3_outOfOrder_5 : decode cX3_outOfOrder 5 = .ok (.getfield 12, 3) := by decide +kernel
theorem dX3_outOfOrder_8 : decode cX3_outOfOrder 8 = .ok (.invokevirtual 183, 3) := by decide +kernel
theorem dX3_outOfOrder_11 : decode cX3_outOfOrder 11 = .ok (.aload_n 0, 1) := by decide +kernel
theorem dX3_outOfOrder_12 : decode cX3_outOfOrder 12 = .ok (.getfield 34, 3) := by decide +kernel
theorem dX3_outOfOrder_15 : decode cX3_outOfOrder 15 = .ok (.iconst 0, 1) := by decide +kernel
theorem dX3_outOfOrder_16 : decode cX3_outOfOrder 16 = .ok (.iconst 0, 1) := by decide +kernel
theorem dX3_outOfOrder_17 : decode cX3_outOfOrder 17 = .ok (.invokevirtual 186, 3) := by decide +kernel
theorem dX3_outOfOrder_20 : decode cX3_outOfOrder 20 = .ok (.ireturn, 1) := by decide +kernel
theorem dX3_changedSince_0 : decode cX3_changedSince 0 = .ok (.aload_n 0, 1) := by decide +kernel
theorem dX3_changedSince_1 : decode cX3_changedSince 1 = .ok (.iload_n 1, 1) := by decide +kernel
theorem dX3_changedSince_2 : decode cX3_changedSince 2 = .ok (.invokevirtual 130, 3) := by decide +kernel
theorem dX3_changedSince_5 : decode cX3_changedSince 5 = .ok (.aload_n 0, 1) := by decide +kernel
theorem dX3_changedSince_6 : decode cX3_changedSince 6 = .ok (.getfield 12, 3) := by decide +kernel
theorem dX3_changedSince_9 : decode cX3_changedSince 9 = .ok (.aload_n 0, 1) := by decide +kernel
theorem dX3_changedSince_10 : decode cX3_changedSince 10 = .ok (.getfield 28, 3) := by decide +kernel
theorem dX3_changedSince_13 : decode cX3_changedSince 13 = .ok (.iload_n 1, 1) := by decide +kernel
theorem dX3_changedSince_14 : decode cX3_changedSince 14 = .ok (.invokevirtual 92, 3) := by decide +kernel
theorem dX3_changedSince_17 : decode cX3_changedSince 17 = .ok (.invokevirtual 96, 3) := by decide +kernel
theorem dX3_changedSince_20 : decode cX3_changedSince 20 = .ok (.ireturn, 1) := by decide +kernel
theorem dX3_totalIn_0 : decode cX3_totalIn 0 = .ok (.iload_n 1, 1) := by decide +kernel
theorem dX3_totalIn_1 : decode cX3_totalIn 1 = .ok (.iconst 1, 1) := by decide +kernel
theorem dX3_totalIn_2 : decode cX3_totalIn 2 = .ok (.bipush 40, 2) := by decide +kernel
theorem dX3_totalIn_4 : decode cX3_totalIn 4 = .ok (.invokestatic 46, 3) := by decide +kernel
theorem dX3_totalIn_7 : decode cX3_totalIn 7 = .ok (.aload_n 0, 1) := by decide +kernel
theorem dX3_totalIn_8 : decode cX3_totalIn 8 = .ok (.getfield 16, 3) := by decide +kernel
theorem dX3_totalIn_11 : decode cX3_totalIn 11 = .ok (.aload_n 0, 1) := by decide +kernel
theorem dX3_totalIn_12 : decode cX3_totalIn 12 = .ok (.getfield 12, 3) := by decide +kernel
theorem dX3_totalIn_15 : decode cX3_totalIn 15 = .ok (.invokevirtual 189, 3) := by decide +kernel
theorem dX3_totalIn_18 : decode cX3_totalIn 18 = .ok (.aload_n 0, 1) := by decide +kernel
theorem dX3_totalIn_19 : decode cX3_totalIn 19 = .ok (.getfield 16, 3) := by decide +kernel
theorem dX3_totalIn_22 : decode cX3_totalIn 22 = .ok (.iload_n 1, 1) := by decide +kernel
theorem dX3_totalIn_23 : decode cX3_totalIn 23 = .ok (.invokevirtual 108, 3) := by decide +kernel
theorem dX3_totalIn_26 : decode cX3_totalIn 26 = .ok (.pop, 1) := by decide +kernel
theorem dX3_totalIn_27 : decode cX3_totalIn 27 = .ok (.aload_n 0, 1) := by decide +kernel
theorem dX3_totalIn_28 : decode cX3_totalIn 28 = .ok (.getfield 16, 3) := by decide +kernel
theorem dX3_totalIn_31 : decode cX3_totalIn 31 = .ok (.invokevirtual 155, 3) := by decide +kernel
theorem dX3_totalIn_34 : decode cX3_totalIn 34 = .ok (.lreturn, 1) := by decide +kernel
theorem dX3_goneIn_0 : decode cX3_goneIn 0 = .ok (.iload_n 1, 1) := by decide +kernel
theorem dX3_goneIn_1 : decode cX3_goneIn 1 = .ok (.iconst 1, 1) := by decide +kernel
theorem dX3_goneIn_2 : decode cX3_goneIn 2 = .ok (.bipush 40, 2) := by decide +kernel
theorem dX3_goneIn_4 : decode cX3_goneIn 4 = .ok (.invokestatic 46, 3) := by decide +kernel
theorem dX3_goneIn_7 : decode cX3_goneIn 7 = .ok (.aload_n 0, 1) := by decide +kernel
theorem dX3_goneIn_8 : decode cX3_goneIn 8 = .ok (.getfield 16, 3) := by decide +kernel
theorem dX3_goneIn_11 : decode cX3_goneIn 11 = .ok (.aload_n 0, 1) := by decide +kernel
theorem dX3_goneIn_12 : decode cX3_goneIn 12 = .ok (.getfield 12, 3) := by decide +kernel
theorem dX3_goneIn_15 : decode cX3_goneIn 15 = .ok (.invokevirtual 189, 3) := by decide +kernel
theorem dX3_goneIn_18 : decode cX3_goneIn 18 = .ok (.aload_n 0, 1) := by decide +kernel
theorem dX3_goneIn_19 : decode cX3_goneIn 19 = .ok (.getfield 16, 3) := by decide +kernel
theorem dX3_goneIn_22 : decode cX3_goneIn 22 = .ok (.iload_n 1, 1) := by decide +kernel
theorem dX3_goneIn_23 : decode cX3_goneIn 23 = .ok (.invokevirtual 108, 3) := by decide +kernel
theorem dX3_goneIn_26 : decode cX3_goneIn 26 = .ok (.ireturn, 1) := by decide +kernel
theorem dX3_hoursUntilDry_0 : decode cX3_hoursUntilDry 0 = .ok (.aload_n 0, 1) := by decide +kernel
theorem dX3_hoursUntilDry_1 : decode cX3_hoursUntilDry 1 = .ok (.getfield 16, 3) := by decide +kernel
theorem dX3_hoursUntilDry_4 : decode cX3_hoursUntilDry 4 = .ok (.aload_n 0, 1) := by decide +kernel
theorem dX3_hoursUntilDry_5 : decode cX3_hoursUntilDry 5 = .ok (.getfield 12, 3) := by decide +kernel
theorem dX3_hoursUntilDry_8 : decode cX3_hoursUntilDry 8 = .ok (.invokevirtual 189, 3) := by decide +kernel
theorem dX3_hoursUntilDry_11 : decode cX3_hoursUntilDry 11 = .ok (.iconst 0, 1) := by decide +kernel
theorem dX3_hoursUntilDry_12 : decode cX3_hoursUntilDry 12 = .ok (.istore_n 1, 1) := by decide +kernel
theorem dX3_hoursUntilDry_13 : decode cX3_hoursUntilDry 13 = .ok (.iload_n 1, 1) := by decide +kernel
theorem dX3_hoursUntilDry_14 : decode cX3_hoursUntilDry 14 = .ok (.bipush 60, 2) := by decide +kernel
theorem dX3_hoursUntilDry_16 : decode cX3_hoursUntilDry 16 = .ok (.if_icmp .ge 29, 3) := by decide +kernel
theorem dX3_hoursUntilDry_19 : decode cX3_hoursUntilDry 19 = .ok (.aload_n 0, 1) := by decide +kernel
theorem dX3_hoursUntilDry_20 : decode cX3_hoursUntilDry 20 = .ok (.getfield 16, 3) := by decide +kernel
theorem dX3_hoursUntilDry_23 : decode cX3_hoursUntilDry 23 = .ok (.invokevirtual 192, 3) := by decide +kernel
theorem dX3_hoursUntilDry_26 : decode cX3_hoursUntilDry 26 = .ok (.ifCond .eq 5, 3) := by decide +kernel
theorem dX3_hoursUntilDry_29 : decode cX3_hoursUntilDry 29 = .ok (.iload_n 1, 1) := by decide +kernel
theorem dX3_hoursUntilDry_30 : decode cX3_hoursUntilDry 30 = .ok (.ireturn, 1) := by decide +kernel
theorem dX3_hoursUntilDry_31 : decode cX3_hoursUntilDry 31 = .ok (.aload_n 0, 1) := by decide +kernel
theorem dX3_hoursUntilDry_32 : decode cX3_hoursUntilDry 32 = .ok (.getfield 16, 3) := by decide +kernel
theorem dX3_hoursUntilDry_35 : decode cX3_hoursUntilDry 35 = .ok (.invokevirtual 196, 3) := by decide +kernel
theorem dX3_hoursUntilDry_38 : decode cX3_hoursUntilDry 38 = .ok (.pop, 1) := by decide +kernel
theorem dX3_hoursUntilDry_39 : decode cX3_hoursUntilDry 39 = .ok (.iinc 1 1, 3) := by decide +kernel
theorem dX3_hoursUntilDry_42 : decode cX3_hoursUntilDry 42 = .ok (.goto (-29), 3) := by decide +kernel
theorem dX3_hoursUntilDry_45 : decode cX3_hoursUntilDry 45 = .ok (.aload_n 0, 1) := by decide +kernel
theorem dX3_hoursUntilDry_46 : decode cX3_hoursUntilDry 46 = .ok (.getfield 16, 3) := by decide +kernel
theorem dX3_hoursUntilDry_49 : decode cX3_hoursUntilDry 49 = .ok (.invokevirtual 192, 3) := by decide +kernel
theorem dX3_hoursUntilDry_52 : decode cX3_hoursUntilDry 52 = .ok (.ifCond .eq 8, 3) := by decide +kernel
theorem dX3_hoursUntilDry_55 : decode cX3_hoursUntilDry 55 = .ok (.bipush 60, 2) := by decide +kernel
theorem dX3_hoursUntilDry_57 : decode cX3_hoursUntilDry 57 = .ok (.goto 4, 3) := by decide +kernel
theorem dX3_hoursUntilDry_60 : decode cX3_hoursUntilDry 60 = .ok (.iconst (-1), 1) := by decide +kernel
theorem dX3_hoursUntilDry_61 : decode cX3_hoursUntilDry 61 = .ok (.ireturn, 1) := by decide +kernel
theorem dX3_sunWanted_0 : decode cX3_sunWanted 0 = .ok (.iload_n 1, 1) := by decide +kernel
theorem dX3_sunWanted_1 : decode cX3_sunWanted 1 = .ok (.iconst 1, 1) := by decide +kernel
theorem dX3_sunWanted_2 : decode cX3_sunWanted 2 = .ok (.bipush 40, 2) := by decide +kernel
theorem dX3_sunWanted_4 : decode cX3_sunWanted 4 = .ok (.invokestatic 46, 3) := by decide +kernel
theorem dX3_sunWanted_7 : decode cX3_sunWanted 7 = .ok (.iconst 0, 1) := by decide +kernel
theorem dX3_sunWanted_8 : decode cX3_sunWanted 8 = .ok (.istore_n 2, 1) := by decide +kernel
theorem dX3_sunWanted_9 : decode cX3_sunWanted 9 = .ok (.iload_n 2, 1) := by decide +kernel
theorem dX3_sunWanted_10 : decode cX3_sunWanted 10 = .ok (.bipush 9, 2) := by decide +kernel
theorem dX3_sunWanted_12 : decode cX3_sunWanted 12 = .ok (.if_icmp .gt 49, 3) := by decide +kernel
theorem dX3_sunWanted_15 : decode cX3_sunWanted 15 = .ok (.aload_n 0, 1) := by decide +kernel
theorem dX3_sunWanted_16 : decode cX3_sunWanted 16 = .ok (.getfield 16, 3) := by decide +kernel
theorem dX3_sunWanted_19 : decode cX3_sunWanted 19 = .ok (.aload_n 0, 1) := by decide +kernel
theorem dX3_sunWanted_20 : decode cX3_sunWanted 20 = .ok (.getfield 12, 3) := by decide +kernel
theorem dX3_sunWanted_23 : decode cX3_sunWanted 23 = .ok (.invokevirtual 189, 3) := by decide +kernel
theorem dX3_sunWanted_26 : decode cX3_sunWanted 26 = .ok (.aload_n 0, 1) := by decide +kernel
theorem dX3_sunWanted_27 : decode cX3_sunWanted 27 = .ok (.getfield 16, 3) := by decide +kernel
theorem dX3_sunWanted_30 : decode cX3_sunWanted 30 = .ok (.iload_n 2, 1) := by decide +kernel
theorem dX3_sunWanted_31 : decode cX3_sunWanted 31 = .ok (.putfield 38, 3) := by decide +kernel
theorem dX3_sunWanted_34 : decode cX3_sunWanted 34 = .ok (.aload_n 0, 1) := by decide +kernel
theorem dX3_sunWanted_35 : decode cX3_sunWanted 35 = .ok (.getfield 16, 3) := by decide +kernel
theorem dX3_sunWanted_38 : decode cX3_sunWanted 38 = .ok (.iload_n 1, 1) := by decide +kernel
theorem dX3_sunWanted_39 : decode cX3_sunWanted 39 = .ok (.invokevirtual 108, 3) := by decide +kernel
theorem dX3_sunWanted_42 : decode cX3_sunWanted 42 = .ok (.pop, 1) := by decide +kernel
theorem dX3_sunWanted_43 : decode cX3_sunWanted 43 = .ok (.aload_n 0, 1) := by decide +kernel
theorem dX3_sunWanted_44 : decode cX3_sunWanted 44 = .ok (.getfield 16, 3) := by decide +kernel
theorem dX3_sunWanted_47 : decode cX3_sunWanted 47 = .ok (.invokevirtual 192, 3) := by decide +kernel
theorem dX3_sunWanted_50 : decode cX3_sunWanted 50 = .ok (.ifCond .eq 5, 3) := by decide +kernel
theorem dX3_sunWanted_53 : decode cX3_sunWanted 53 = .ok (.iload_n 2, 1) := by decide +kernel
theorem dX3_sunWanted_54 : decode cX3_sunWanted 54 = .ok (.ireturn, 1) := by decide +kernel
theorem dX3_sunWanted_55 : decode cX3_sunWanted 55 = .ok (.iinc 2 1, 3) := by decide +kernel
theorem dX3_sunWanted_58 : decode cX3_sunWanted 58 = .ok (.goto (-49), 3) := by decide +kernel
theorem dX3_sunWanted_61 : decode cX3_sunWanted 61 = .ok (.iconst (-1), 1) := by decide +kernel
theorem dX3_sunWanted_62 : decode cX3_sunWanted 62 = .ok (.ireturn, 1) := by decide +kernel
theorem dX3_bestSwap_0 : decode cX3_bestSwap 0 = .ok (.aload_n 0, 1) := by decide +kernel
theorem dX3_bestSwap_1 : decode cX3_bestSwap 1 = .ok (.iload_n 1, 1) := by decide +kernel
theorem dX3_bestSwap_2 : decode cX3_bestSwap 2 = .ok (.invokevirtual 74, 3) := by decide +kernel
theorem dX3_bestSwap_5 : decode cX3_bestSwap 5 = .ok (.aload_n 0, 1) := by decide +kernel
theorem dX3_bestSwap_6 : decode cX3_bestSwap 6 = .ok (.getfield 34, 3) := by decide +kernel
theorem dX3_bestSwap_9 : decode cX3_bestSwap 9 = .ok (.aload_n 0, 1) := by decide +kernel
theorem dX3_bestSwap_10 : decode cX3_bestSwap 10 = .ok (.getfield 12, 3) := by decide +kernel
theorem dX3_bestSwap_13 : decode cX3_bestSwap 13 = .ok (.invokevirtual 183, 3) := by decide +kernel
theorem dX3_bestSwap_16 : decode cX3_bestSwap 16 = .ok (.aload_n 0, 1) := by decide +kernel
theorem dX3_bestSwap_17 : decode cX3_bestSwap 17 = .ok (.getfield 34, 3) := by decide +kernel
theorem dX3_bestSwap_20 : decode cX3_bestSwap 20 = .ok (.iload_n 1, 1) := by decide +kernel
theorem dX3_bestSwap_21 : decode cX3_bestSwap 21 = .ok (.invokevirtual 203, 3) := by decide +kernel
theorem dX3_bestSwap_24 : decode cX3_bestSwap 24 = .ok (.ireturn, 1) := by decide +kernel
theorem dX3_meanLevel_0 : decode cX3_meanLevel 0 = .ok (.aload_n 0, 1) := by decide +kernel
theorem dX3_meanLevel_1 : decode cX3_meanLevel 1 = .ok (.getfield 12, 3) := by decide +kernel
theorem dX3_meanLevel_4 : decode cX3_meanLevel 4 = .ok (.invokevirtual 53, 3) := by decide +kernel
theorem dX3_meanLevel_7 : decode cX3_meanLevel 7 = .ok (.istore_n 1, 1) := by decide +kernel
theorem dX3_meanLevel_8 : decode cX3_meanLevel 8 = .ok (.iload_n 1, 1) := by decide +kernel
theorem dX3_meanLevel_9 : decode cX3_meanLevel 9 = .ok (.iconst 1, 1) := by decide +kernel
theorem dX3_meanLevel_10 : decode cX3_meanLevel 10 = .ok (.if_icmp .ge 7, 3) := by decide +kernel
theorem dX3_meanLevel_13 : decode cX3_meanLevel 13 = .ok (.dconst 0, 1) := by decide +kernel
theorem dX3_meanLevel_14 : decode cX3_meanLevel 14 = .ok (.goto 14, 3) := by decide +kernel
theorem dX3_meanLevel_17 : decode cX3_meanLevel 17 = .ok (.aload_n 0, 1) := by decide +kernel
theorem dX3_meanLevel_18 : decode cX3_meanLevel 18 = .ok (.getfield 12, 3) := by decide +kernel
theorem dX3_meanLevel_21 : decode cX3_meanLevel 21 = .ok (.invokevirtual 155, 3) := by decide +kernel
theorem dX3_meanLevel_24 : decode cX3_meanLevel 24 = .ok (.l2d, 1) := by decide +kernel
theorem dX3_meanLevel_25 : decode cX3_meanLevel 25 = .ok (.iload_n 1, 1) := by decide +kernel
theorem dX3_meanLevel_26 : decode cX3_meanLevel 26 = .ok (.i2d, 1) := by decide +kernel
theorem dX3_meanLevel_27 : decode cX3_meanLevel 27 = .ok (.ddiv, 1) := by decide +kernel
theorem dX3_meanLevel_28 : decode cX3_meanLevel 28 = .ok (.dreturn, 1) := by decide +kernel
theorem dX3_digest_0 : decode cX3_digest 0 = .ok (.ldc2_w 206, 3) := by decide +kernel
theorem dX3_digest_3 : decode cX3_digest 3 = .ok (.aload_n 0, 1) := by decide +kernel
theorem dX3_digest_4 : decode cX3_digest 4 = .ok (.invokevirtual 208, 3) := by decide +kernel
theorem dX3_digest_7 : decode cX3_digest 7 = .ok (.i2l, 1) := by decide +kernel
theorem dX3_digest_8 : decode cX3_digest 8 = .ok (.invokestatic 211, 3) := by decide +kernel
theorem dX3_digest_11 : decode cX3_digest 11 = .ok (.lstore_n 1, 1) := by decide +kernel
theorem dX3_digest_12 : decode cX3_digest 12 = .ok (.lload_n 1, 1) := by decide +kernel
theorem dX3_digest_13 : decode cX3_digest 13 = .ok (.aload_n 0, 1) := by decide +kernel
theorem dX3_digest_14 : decode cX3_digest 14 = .ok (.invokevirtual 214, 3) := by decide +kernel
theorem dX3_digest_17 : decode cX3_digest 17 = .ok (.i2l, 1) := by decide +kernel
theorem dX3_digest_18 : decode cX3_digest 18 = .ok (.invokestatic 211, 3) := by decide +kernel
theorem dX3_digest_21 : decode cX3_digest 21 = .ok (.lstore_n 1, 1) := by decide +kernel
theorem dX3_digest_22 : decode cX3_digest 22 = .ok (.lload_n 1, 1) := by decide +kernel
theorem dX3_digest_23 : decode cX3_digest 23 = .ok (.aload_n 0, 1) := by decide +kernel
theorem dX3_digest_24 : decode cX3_digest 24 = .ok (.invokevirtual 217, 3) := by decide +kernel
theorem dX3_digest_27 : decode cX3_digest 27 = .ok (.i2l, 1) := by decide +kernel
theorem dX3_digest_28 : decode cX3_digest 28 = .ok (.invokestatic 211, 3) := by decide +kernel
theorem dX3_digest_31 : decode cX3_digest 31 = .ok (.lstore_n 1, 1) := by decide +kernel
theorem dX3_digest_32 : decode cX3_digest 32 = .ok (.lload_n 1, 1) := by decide +kernel
theorem dX3_digest_33 : decode cX3_digest 33 = .ok (.aload_n 0, 1) := by decide +kernel
theorem dX3_digest_34 : decode cX3_digest 34 = .ok (.invokevirtual 220, 3) := by decide +kernel
theorem dX3_digest_37 : decode cX3_digest 37 = .ok (.i2l, 1) := by decide +kernel
theorem dX3_digest_38 : decode cX3_digest 38 = .ok (.invokestatic 211, 3) := by decide +kernel
theorem dX3_digest_41 : decode cX3_digest 41 = .ok (.lstore_n 1, 1) := by decide +kernel
theorem dX3_digest_42 : decode cX3_digest 42 = .ok (.lload_n 1, 1) := by decide +kernel
theorem dX3_digest_43 : decode cX3_digest 43 = .ok (.aload_n 0, 1) := by decide +kernel
theorem dX3_digest_44 : decode cX3_digest 44 = .ok (.invokevirtual 223, 3) := by decide +kernel
theorem dX3_digest_47 : decode cX3_digest 47 = .ok (.i2l, 1) := by decide +kernel
theorem dX3_digest_48 : decode cX3_digest 48 = .ok (.invokestatic 211, 3) := by decide +kernel
theorem dX3_digest_51 : decode cX3_digest 51 = .ok (.lstore_n 1, 1) := by decide +kernel
theorem dX3_digest_52 : decode cX3_digest 52 = .ok (.lload_n 1, 1) := by decide +kernel
theorem dX3_digest_53 : decode cX3_digest 53 = .ok (.aload_n 0, 1) := by decide +kernel
theorem dX3_digest_54 : decode cX3_digest 54 = .ok (.invokevirtual 226, 3) := by decide +kernel
theorem dX3_digest_57 : decode cX3_digest 57 = .ok (.i2l, 1) := by decide +kernel
theorem dX3_digest_58 : decode cX3_digest 58 = .ok (.invokestatic 211, 3) := by decide +kernel
theorem dX3_digest_61 : decode cX3_digest 61 = .ok (.lstore_n 1, 1) := by decide +kernel
theorem dX3_digest_62 : decode cX3_digest 62 = .ok (.lload_n 1, 1) := by decide +kernel
theorem dX3_digest_63 : decode cX3_digest 63 = .ok (.aload_n 0, 1) := by decide +kernel
theorem dX3_digest_64 : decode cX3_digest 64 = .ok (.invokevirtual 229, 3) := by decide +kernel
theorem dX3_digest_67 : decode cX3_digest 67 = .ok (.invokestatic 211, 3) := by decide +kernel
theorem dX3_digest_70 : decode cX3_digest 70 = .ok (.lstore_n 1, 1) := by decide +kernel
theorem dX3_digest_71 : decode cX3_digest 71 = .ok (.lload_n 1, 1) := by decide +kernel
theorem dX3_digest_72 : decode cX3_digest 72 = .ok (.aload_n 0, 1) := by decide +kernel
theorem dX3_digest_73 : decode cX3_digest 73 = .ok (.invokevirtual 232, 3) := by decide +kernel
theorem dX3_digest_76 : decode cX3_digest 76 = .ok (.invokestatic 211, 3) := by decide +kernel
theorem dX3_digest_79 : decode cX3_digest 79 = .ok (.lstore_n 1, 1) := by decide +kernel
theorem dX3_digest_80 : decode cX3_digest 80 = .ok (.lload_n 1, 1) := by decide +kernel
theorem dX3_digest_81 : decode cX3_digest 81 = .ok (.aload_n 0, 1) := by decide +kernel
theorem dX3_digest_82 : decode cX3_digest 82 = .ok (.invokevirtual 235, 3) := by decide +kernel
theorem dX3_digest_85 : decode cX3_digest 85 = .ok (.i2l, 1) := by decide +kernel
theorem dX3_digest_86 : decode cX3_digest 86 = .ok (.invokestatic 211, 3) := by decide +kernel
theorem dX3_digest_89 : decode cX3_digest 89 = .ok (.lstore_n 1, 1) := by decide +kernel
theorem dX3_digest_90 : decode cX3_digest 90 = .ok (.lload_n 1, 1) := by decide +kernel
theorem dX3_digest_91 : decode cX3_digest 91 = .ok (.aload_n 0, 1) := by decide +kernel
theorem dX3_digest_92 : decode cX3_digest 92 = .ok (.invokevirtual 238, 3) := by decide +kernel
theorem dX3_digest_95 : decode cX3_digest 95 = .ok (.i2l, 1) := by decide +kernel
theorem dX3_digest_96 : decode cX3_digest 96 = .ok (.invokestatic 211, 3) := by decide +kernel
theorem dX3_digest_99 : decode cX3_digest 99 = .ok (.lstore_n 1, 1) := by decide +kernel
theorem dX3_digest_100 : decode cX3_digest 100 = .ok (.lload_n 1, 1) := by decide +kernel
theorem dX3_digest_101 : decode cX3_digest 101 = .ok (.aload_n 0, 1) := by decide +kernel
theorem dX3_digest_102 : decode cX3_digest 102 = .ok (.invokevirtual 241, 3) := by decide +kernel
theorem dX3_digest_105 : decode cX3_digest 105 = .ok (.i2l, 1) := by decide +kernel
theorem dX3_digest_106 : decode cX3_digest 106 = .ok (.invokestatic 211, 3) := by decide +kernel
theorem dX3_digest_109 : decode cX3_digest 109 = .ok (.lstore_n 1, 1) := by decide +kernel
theorem dX3_digest_110 : decode cX3_digest 110 = .ok (.lload_n 1, 1) := by decide +kernel
theorem dX3_digest_111 : decode cX3_digest 111 = .ok (.aload_n 0, 1) := by decide +kernel
theorem dX3_digest_112 : decode cX3_digest 112 = .ok (.invokevirtual 244, 3) := by decide +kernel
theorem dX3_digest_115 : decode cX3_digest 115 = .ok (.i2l, 1) := by decide +kernel
theorem dX3_digest_116 : decode cX3_digest 116 = .ok (.invokestatic 211, 3) := by decide +kernel
theorem dX3_digest_119 : decode cX3_digest 119 = .ok (.lstore_n 1, 1) := by decide +kernel
theorem dX3_digest_120 : decode cX3_digest 120 = .ok (.lload_n 1, 1) := by decide +kernel
theorem dX3_digest_121 : decode cX3_digest 121 = .ok (.aload_n 0, 1) := by decide +kernel
theorem dX3_digest_122 : decode cX3_digest 122 = .ok (.iconst 3, 1) := by decide +kernel
theorem dX3_digest_123 : decode cX3_digest 123 = .ok (.invokevirtual 247, 3) := by decide +kernel
theorem dX3_digest_126 : decode cX3_digest 126 = .ok (.invokestatic 211, 3) := by decide +kernel
theorem dX3_digest_129 : decode cX3_digest 129 = .ok (.lstore_n 1, 1) := by decide +kernel
theorem dX3_digest_130 : decode cX3_digest 130 = .ok (.lload_n 1, 1) := by decide +kernel
theorem dX3_digest_131 : decode cX3_digest 131 = .ok (.aload_n 0, 1) := by decide +kernel
theorem dX3_digest_132 : decode cX3_digest 132 = .ok (.iconst 3, 1) := by decide +kernel
theorem dX3_digest_133 : decode cX3_digest 133 = .ok (.invokevirtual 251, 3) := by decide +kernel
theorem dX3_digest_136 : decode cX3_digest 136 = .ok (.i2l, 1) := by decide +kernel
theorem dX3_digest_137 : decode cX3_digest 137 = .ok (.invokestatic 211, 3) := by decide +kernel
theorem dX3_digest_140 : decode cX3_digest 140 = .ok (.lstore_n 1, 1) := by decide +kernel
theorem dX3_digest_141 : decode cX3_digest 141 = .ok (.lload_n 1, 1) := by decide +kernel
theorem dX3_digest_142 : decode cX3_digest 142 = .ok (.aload_n 0, 1) := by decide +kernel
theorem dX3_digest_143 : decode cX3_digest 143 = .ok (.iconst 5, 1) := by decide +kernel
theorem dX3_digest_144 : decode cX3_digest 144 = .ok (.invokevirtual 254, 3) := by decide +kernel
theorem dX3_digest_147 : decode cX3_digest 147 = .ok (.i2l, 1) := by decide +kernel
theorem dX3_digest_148 : decode cX3_digest 148 = .ok (.invokestatic 211, 3) := by decide +kernel
theorem dX3_digest_151 : decode cX3_digest 151 = .ok (.lstore_n 1, 1) := by decide +kernel
theorem dX3_digest_152 : decode cX3_digest 152 = .ok (.aload_n 0, 1) := by decide +kernel
theorem dX3_digest_153 : decode cX3_digest 153 = .ok (.lload_n 1, 1) := by decide +kernel
theorem dX3_digest_154 : decode cX3_digest 154 = .ok (.invokevirtual 257, 3) := by decide +kernel
theorem dX3_digest_157 : decode cX3_digest 157 = .ok (.lstore_n 1, 1) := by decide +kernel
theorem dX3_digest_158 : decode cX3_digest 158 = .ok (.aload_n 0, 1) := by decide +kernel
theorem dX3_digest_159 : decode cX3_digest 159 = .ok (.lload_n 1, 1) := by decide +kernel
theorem dX3_digest_160 : decode cX3_digest 160 = .ok (.invokevirtual 261, 3) := by decide +kernel
theorem dX3_digest_163 : decode cX3_digest 163 = .ok (.lstore_n 1, 1) := by decide +kernel
theorem dX3_digest_164 : decode cX3_digest 164 = .ok (.aload_n 0, 1) := by decide +kernel
theorem dX3_digest_165 : decode cX3_digest 165 = .ok (.lload_n 1, 1) := by decide +kernel
theorem dX3_digest_166 : decode cX3_digest 166 = .ok (.invokevirtual 264, 3) := by decide +kernel
theorem dX3_digest_169 : decode cX3_digest 169 = .ok (.lreturn, 1) := by decide +kernel
theorem dX3_digested_0 : decode cX3_digested 0 = .ok (.lload_n 0, 1) := by decide +kernel
theorem dX3_digested_1 : decode cX3_digested 1 = .ok (.ldc2_w 267, 3) := by decide +kernel
theorem dX3_digested_4 : decode cX3_digested 4 = .ok (.lmul, 1) := by decide +kernel
theorem dX3_digested_5 : decode cX3_digested 5 = .ok (.lload_n 2, 1) := by decide +kernel
theorem dX3_digested_6 : decode cX3_digested 6 = .ok (.ladd, 1) := by decide +kernel
theorem dX3_digested_7 : decode cX3_digested 7 = .ok (.lreturn, 1) := by decide +kernel
theorem dX3_digestedFlights_0 : decode cX3_digestedFlights 0 = .ok (.lload_n 1, 1) := by decide +kernel
theorem dX3_digestedFlights_1 : decode cX3_digestedFlights 1 = .ok (.lstore_n 3, 1) := by decide +kernel
theorem dX3_digestedFlights_2 : decode cX3_digestedFlights 2 = .ok (.aload_n 0, 1) := by decide +kernel
theorem dX3_digestedFlights_3 : decode cX3_digestedFlights 3 = .ok (.getfield 34, 3) := by decide +kernel
theorem dX3_digestedFlights_6 : decode cX3_digestedFlights 6 = .ok (.aload_n 0, 1) := by decide +kernel
theorem dX3_digestedFlights_7 : decode cX3_digestedFlights 7 = .ok (.getfield 12, 3) := by decide +kernel
theorem dX3_digestedFlights_10 : decode cX3_digestedFlights 10 = .ok (.invokevirtual 183, 3) := by decide +kernel
theorem dX3_digestedFlights_13 : decode cX3_digestedFlights 13 = .ok (.iconst 0, 1) := by decide +kernel
theorem dX3_digestedFlights_14 : decode cX3_digestedFlights 14 = .ok (.istore 5, 2) := by decide +kernel
theorem dX3_digestedFlights_16 : decode cX3_digestedFlights 16 = .ok (.iload 5, 2) := by decide +kernel
theorem dX3_digestedFlights_18 : decode cX3_digestedFlights 18 = .ok (.aload_n 0, 1) := by decide +kernel
theorem dX3_digestedFlights_19 : decode cX3_digestedFlights 19 = .ok (.getfield 12, 3) := by decide +kernel
theorem dX3_digestedFlights_22 : decode cX3_digestedFlights 22 = .ok (.getfield 148, 3) := by decide +kernel
theorem dX3_digestedFlights_25 : decode cX3_digestedFlights 25 = .ok (.if_icmp .ge 108, 3) := by decide +kernel
theorem dX3_digestedFlights_28 : decode cX3_digestedFlights 28 = .ok (.lload_n 3, 1) := by decide +kernel
theorem dX3_digestedFlights_29 : decode cX3_digestedFlights 29 = .ok (.aload_n 0, 1) := by decide +kernel
theorem dX3_digestedFlights_30 : decode cX3_digestedFlights 30 = .ok (.iload 5, 2) := by decide +kernel
theorem dX3_digestedFlights_32 : decode cX3_digestedFlights 32 = .ok (.invokevirtual 269, 3) := by decide +kernel
theorem dX3_digestedFlights_35 : decode cX3_digestedFlights 35 = .ok (.invokestatic 211, 3) := by decide +kernel
theorem dX3_digestedFlights_38 : decode cX3_digestedFlights 38 = .ok (.lstore_n 3, 1) := by decide +kernel
theorem dX3_digestedFlights_39 : decode cX3_digestedFlights 39 = .ok (.lload_n 3, 1) := by decide +kernel
theorem dX3_digestedFlights_40 : decode cX3_digestedFlights 40 = .ok (.aload_n 0, 1) := by decide +kernel
theorem dX3_digestedFlights_41 : decode cX3_digestedFlights 41 = .ok (.iload 5, 2) := by decide +kernel
theorem dX3_digestedFlights_43 : decode cX3_digestedFlights 43 = .ok (.invokevirtual 272, 3) := by decide +kernel
theorem dX3_digestedFlights_46 : decode cX3_digestedFlights 46 = .ok (.invokestatic 211, 3) := by decide +kernel
theorem dX3_digestedFlights_49 : decode cX3_digestedFlights 49 = .ok (.lstore_n 3, 1) := by decide +kernel
theorem dX3_digestedFlights_50 : decode cX3_digestedFlights 50 = .ok (.lload_n 3, 1) := by decide +kernel
theorem dX3_digestedFlights_51 : decode cX3_digestedFlights 51 = .ok (.aload_n 0, 1) := by decide +kernel
theorem dX3_digestedFlights_52 : decode cX3_digestedFlights 52 = .ok (.iload 5, 2) := by decide +kernel
theorem dX3_digestedFlights_54 : decode cX3_digestedFlights 54 = .ok (.invokevirtual 275, 3) := by decide +kernel
theorem dX3_digestedFlights_57 : decode cX3_digestedFlights 57 = .ok (.i2l, 1) := by decide +kernel
theorem dX3_digestedFlights_58 : decode cX3_digestedFlights 58 = .ok (.invokestatic 211, 3) := by decide +kernel
theorem dX3_digestedFlights_61 : decode cX3_digestedFlights 61 = .ok (.lstore_n 3, 1) := by decide +kernel
theorem dX3_digestedFlights_62 : decode cX3_digestedFlights 62 = .ok (.lload_n 3, 1) := by decide +kernel
theorem dX3_digestedFlights_63 : decode cX3_digestedFlights 63 = .ok (.aload_n 0, 1) := by decide +kernel
theorem dX3_digestedFlights_64 : decode cX3_digestedFlights 64 = .ok (.iload 5, 2) := by decide +kernel
theorem dX3_digestedFlights_66 : decode cX3_digestedFlights 66 = .ok (.invokevirtual 278, 3) := by decide +kernel
theorem dX3_digestedFlights_69 : decode cX3_digestedFlights 69 = .ok (.i2l, 1) := by decide +kernel
theorem dX3_digestedFlights_70 : decode cX3_digestedFlights 70 = .ok (.invokestatic 211, 3) := by decide +kernel
theorem dX3_digestedFlights_73 : decode cX3_digestedFlights 73 = .ok (.lstore_n 3, 1) := by decide +kernel
theorem dX3_digestedFlights_74 : decode cX3_digestedFlights 74 = .ok (.lload_n 3, 1) := by decide +kernel
theorem dX3_digestedFlights_75 : decode cX3_digestedFlights 75 = .ok (.aload_n 0, 1) := by decide +kernel
theorem dX3_digestedFlights_76 : decode cX3_digestedFlights 76 = .ok (.getfield 34, 3) := by decide +kernel
theorem dX3_digestedFlights_79 : decode cX3_digestedFlights 79 = .ok (.iload 5, 2) := by decide +kernel
theorem dX3_digestedFlights_81 : decode cX3_digestedFlights 81 = .ok (.invokevirtual 203, 3) := by decide +kernel
theorem dX3_digestedFlights_84 : decode cX3_digestedFlights 84 = .ok (.i2l, 1) := by decide +kernel
theorem dX3_digestedFlights_85 : decode cX3_digestedFlights 85 = .ok (.invokestatic 211, 3) := by decide +kernel
theorem dX3_digestedFlights_88 : decode cX3_digestedFlights 88 = .ok (.lstore_n 3, 1) := by decide +kernel
theorem dX3_digestedFlights_89 : decode cX3_digestedFlights 89 = .ok (.iconst 0, 1) := by decide +kernel
theorem dX3_digestedFlights_90 : decode cX3_digestedFlights 90 = .ok (.istore 6, 2) := by decide +kernel
theorem dX3_digestedFlights_92 : decode cX3_digestedFlights 92 = .ok (.iload 6, 2) := by decide +kernel
theorem dX3_digestedFlights_94 : decode cX3_digestedFlights 94 = .ok (.aload_n 0, 1) := by decide +kernel
theorem dX3_digestedFlights_95 : decode cX3_digestedFlights 95 = .ok (.getfield 12, 3) := by decide +kernel
theorem dX3_digestedFlights_98 : decode cX3_digestedFlights 98 = .ok (.getfield 77, 3) := by decide +kernel
theorem dX3_digestedFlights_101 : decode cX3_digestedFlights 101 = .ok (.if_icmp .ge 26, 3) := by decide +kernel
theorem dX3_digestedFlights_104 : decode cX3_digestedFlights 104 = .ok (.lload_n 3, 1) := by decide +kernel
theorem dX3_digestedFlights_105 : decode cX3_digestedFlights 105 = .ok (.aload_n 0, 1) := by decide +kernel
theorem dX3_digestedFlights_106 : decode cX3_digestedFlights 106 = .ok (.getfield 12, 3) := by decide +kernel
theorem dX3_digestedFlights_109 : decode cX3_digestedFlights 109 = .ok (.iload 5, 2) := by decide +kernel
theorem dX3_digestedFlights_111 : decode cX3_digestedFlights 111 = .ok (.iload 6, 2) := by decide +kernel
theorem dX3_digestedFlights_113 : decode cX3_digestedFlights 113 = .ok (.invokevirtual 66, 3) := by decide +kernel
theorem dX3_digestedFlights_116 : decode cX3_digestedFlights 116 = .ok (.i2l, 1) := by decide +kernel
theorem dX3_digestedFlights_117 : decode cX3_digestedFlights 117 = .ok (.invokestatic 211, 3) := by decide +kernel
theorem dX3_digestedFlights_120 : decode cX3_digestedFlights 120 = .ok (.lstore_n 3, 1) := by decide +kernel
theorem dX3_digestedFlights_121 : decode cX3_digestedFlights 121 = .ok (.iinc 6 1, 3) := by decide +kernel
theorem dX3_digestedFlights_124 : decode cX3_digestedFlights 124 = .ok (.goto (-32), 3) := by decide +kernel
theorem dX3_digestedFlights_127 : decode cX3_digestedFlights 127 = .ok (.iinc 5 1, 3) := by decide +kernel
theorem dX3_digestedFlights_130 : decode cX3_digestedFlights 130 = .ok (.goto (-114), 3) := by decide +kernel
theorem dX3_digestedFlights_133 : decode cX3_digestedFlights 133 = .ok (.lload_n 3, 1) := by decide +kernel
theorem dX3_digestedFlights_134 : decode cX3_digestedFlights 134 = .ok (.lreturn, 1) := by decide +kernel
theorem dX3_digestedSteps_0 : decode cX3_digestedSteps 0 = .ok (.lload_n 1, 1) := by decide +kernel
theorem dX3_digestedSteps_1 : decode cX3_digestedSteps 1 = .ok (.lstore_n 3, 1) := by decide +kernel
theorem dX3_digestedSteps_2 : decode cX3_digestedSteps 2 = .ok (.iconst 0, 1) := by decide +kernel
theorem dX3_digestedSteps_3 : decode cX3_digestedSteps 3 = .ok (.istore 5, 2) := by decide +kernel
theorem dX3_digestedSteps_5 : decode cX3_digestedSteps 5 = .ok (.iload 5, 2) := by decide +kernel
theorem dX3_digestedSteps_7 : decode cX3_digestedSteps 7 = .ok (.aload_n 0, 1) := by decide +kernel
theorem dX3_digestedSteps_8 : decode cX3_digestedSteps 8 = .ok (.getfield 12, 3) := by decide +kernel
theorem dX3_digestedSteps_11 : decode cX3_digestedSteps 11 = .ok (.getfield 77, 3) := by decide +kernel
theorem dX3_digestedSteps_14 : decode cX3_digestedSteps 14 = .ok (.if_icmp .ge 32, 3) := by decide +kernel
theorem dX3_digestedSteps_17 : decode cX3_digestedSteps 17 = .ok (.lload_n 3, 1) := by decide +kernel
theorem dX3_digestedSteps_18 : decode cX3_digestedSteps 18 = .ok (.aload_n 0, 1) := by decide +kernel
theorem dX3_digestedSteps_19 : decode cX3_digestedSteps 19 = .ok (.iload 5, 2) := by decide +kernel
theorem dX3_digestedSteps_21 : decode cX3_digestedSteps 21 = .ok (.invokevirtual 281, 3) := by decide +kernel
theorem dX3_digestedSteps_24 : decode cX3_digestedSteps 24 = .ok (.i2l, 1) := by decide +kernel
theorem dX3_digestedSteps_25 : decode cX3_digestedSteps 25 = .ok (.invokestatic 211, 3) := by decide +kernel
theorem dX3_digestedSteps_28 : decode cX3_digestedSteps 28 = .ok (.lstore_n 3, 1) := by decide +kernel
theorem dX3_digestedSteps_29 : decode cX3_digestedSteps 29 = .ok (.lload_n 3, 1) := by decide +kernel
theorem dX3_digestedSteps_30 : decode cX3_digestedSteps 30 = .ok (.aload_n 0, 1) := by decide +kernel
theorem dX3_digestedSteps_31 : decode cX3_digestedSteps 31 = .ok (.iload 5, 2) := by decide +kernel
theorem dX3_digestedSteps_33 : decode cX3_digestedSteps 33 = .ok (.invokevirtual 284, 3) := by decide +kernel
theorem dX3_digestedSteps_36 : decode cX3_digestedSteps 36 = .ok (.invokestatic 211, 3) := by decide +kernel
theorem dX3_digestedSteps_39 : decode cX3_digestedSteps 39 = .ok (.lstore_n 3, 1) := by decide +kernel
theorem dX3_digestedSteps_40 : decode cX3_digestedSteps 40 = .ok (.iinc 5 1, 3) := by decide +kernel
theorem dX3_digestedSteps_43 : decode cX3_digestedSteps 43 = .ok (.goto (-38), 3) := by decide +kernel
theorem dX3_digestedSteps_46 : decode cX3_digestedSteps 46 = .ok (.lload_n 3, 1) := by decide +kernel
theorem dX3_digestedSteps_47 : decode cX3_digestedSteps 47 = .ok (.lreturn, 1) := by decide +kernel
theorem dX3_digestedMarks_0 : decode cX3_digestedMarks 0 = .ok (.lload_n 1, 1) := by decide +kernel
theorem dX3_digestedMarks_1 : decode cX3_digestedMarks 1 = .ok (.lstore_n 3, 1) := by decide +kernel
theorem dX3_digestedMarks_2 : decode cX3_digestedMarks 2 = .ok (.iconst 0, 1) := by decide +kernel
theorem dX3_digestedMarks_3 : decode cX3_digestedMarks 3 = .ok (.istore 5, 2) := by decide +kernel
theorem dX3_digestedMarks_5 : decode cX3_digestedMarks 5 = .ok (.iload 5, 2) := by decide +kernel
theorem dX3_digestedMarks_7 : decode cX3_digestedMarks 7 = .ok (.aload_n 0, 1) := by decide +kernel
theorem dX3_digestedMarks_8 : decode cX3_digestedMarks 8 = .ok (.getfield 28, 3) := by decide +kernel
theorem dX3_digestedMarks_11 : decode cX3_digestedMarks 11 = .ok (.getfield 89, 3) := by decide +kernel
theorem dX3_digestedMarks_14 : decode cX3_digestedMarks 14 = .ok (.if_icmp .ge 21, 3) := by decide +kernel
theorem dX3_digestedMarks_17 : decode cX3_digestedMarks 17 = .ok (.lload_n 3, 1) := by decide +kernel
theorem dX3_digestedMarks_18 : decode cX3_digestedMarks 18 = .ok (.aload_n 0, 1) := by decide +kernel
theorem dX3_digestedMarks_19 : decode cX3_digestedMarks 19 = .ok (.iload 5, 2) := by decide +kernel
theorem dX3_digestedMarks_21 : decode cX3_digestedMarks 21 = .ok (.invokevirtual 287, 3) := by decide +kernel
theorem dX3_digestedMarks_24 : decode cX3_digestedMarks 24 = .ok (.i2l, 1) := by decide +kernel
theorem dX3_digestedMarks_25 : decode cX3_digestedMarks 25 = .ok (.invokestatic 211, 3) := by decide +kernel
theorem dX3_digestedMarks_28 : decode cX3_digestedMarks 28 = .ok (.lstore_n 3, 1) := by decide +kernel
theorem dX3_digestedMarks_29 : decode cX3_digestedMarks 29 = .ok (.iinc 5 1, 3) := by decide +kernel
theorem dX3_digestedMarks_32 : decode cX3_digestedMarks 32 = .ok (.goto (-27), 3) := by decide +kernel
theorem dX3_digestedMarks_35 : decode cX3_digestedMarks 35 = .ok (.lload_n 3, 1) := by decide +kernel
theorem dX3_digestedMarks_36 : decode cX3_digestedMarks 36 = .ok (.lreturn, 1) := by decide +kernel
theorem dX3_keepDeed_0 : decode cX3_keepDeed 0 = .ok (.aload_n 0, 1) := by decide +kernel
theorem dX3_keepDeed_1 : decode cX3_keepDeed 1 = .ok (.getfield 24, 3) := by decide +kernel
theorem dX3_keepDeed_4 : decode cX3_keepDeed 4 = .ok (.aload_n 0, 1) := by decide +kernel
theorem dX3_keepDeed_5 : decode cX3_keepDeed 5 = .ok (.getfield 12, 3) := by decide +kernel
theorem dX3_keepDeed_8 : decode cX3_keepDeed 8 = .ok (.invokevirtual 126, 3) := by decide +kernel
theorem dX3_keepDeed_11 : decode cX3_keepDeed 11 = .ok (.return_, 1) := by decide +kernel
theorem dX3_checkIndex_0 : decode cX3_checkIndex 0 = .ok (.iload_n 0, 1) := by decide +kernel
theorem dX3_checkIndex_1 : decode cX3_checkIndex 1 = .ok (.ifCond .lt 8, 3) := by decide +kernel
theorem dX3_checkIndex_4 : decode cX3_checkIndex 4 = .ok (.iload_n 0, 1) := by decide +kernel
theorem dX3_checkIndex_5 : decode cX3_checkIndex 5 = .ok (.iload_n 1, 1) := by decide +kernel
theorem dX3_checkIndex_6 : decode cX3_checkIndex 6 = .ok (.if_icmp .lt 14, 3) := by decide +kernel
theorem dX3_checkIndex_9 : decode cX3_checkIndex 9 = .ok (.new 172, 3) := by decide +kernel
theorem dX3_checkIndex_12 : decode cX3_checkIndex 12 = .ok (.dup, 1) := by decide +kernel
theorem dX3_checkIndex_13 : decode cX3_checkIndex 13 = .ok (.ldc_w 290, 3) := by decide +kernel
theorem dX3_checkIndex_16 : decode cX3_checkIndex 16 = .ok (.invokespecial 176, 3) := by decide +kernel
theorem dX3_checkIndex_19 : decode cX3_checkIndex 19 = .ok (.athrow, 1) := by decide +kernel
theorem dX3_checkIndex_20 : decode cX3_checkIndex 20 = .ok (.return_, 1) := by decide +kernel
theorem dX3_checkNumber_0 : decode cX3_checkNumber 0 = .ok (.iload_n 0, 1) := by decide +kernel
theorem dX3_checkNumber_1 : decode cX3_checkNumber 1 = .ok (.iload_n 1, 1) := by decide +kernel
theorem dX3_checkNumber_2 : decode cX3_checkNumber 2 = .ok (.if_icmp .lt 8, 3) := by decide +kernel
theorem dX3_checkNumber_5 : decode cX3_checkNumber 5 = .ok (.iload_n 0, 1) := by decide +kernel
theorem dX3_checkNumber_6 : decode cX3_checkNumber 6 = .ok (.iload_n 2, 1) := by decide +kernel
theorem dX3_checkNumber_7 : decode cX3_checkNumber 7 = .ok (.if_icmp .le 14, 3) := by decide +kernel
theorem dX3_checkNumber_10 : decode cX3_checkNumber 10 = .ok (.new 292, 3) := by decide +kernel
theorem dX3_checkNumber_13 : decode cX3_checkNumber 13 = .ok (.dup, 1) := by decide +kernel
theorem dX3_checkNumber_14 : decode cX3_checkNumber 14 = .ok (.ldc_w 294, 3) := by decide +kernel
theorem dX3_checkNumber_17 : decode cX3_checkNumber 17 = .ok (.invokespecial 296, 3) := by decide +kernel
theorem dX3_checkNumber_20 : decode cX3_checkNumber 20 = .ok (.athrow, 1) := by decide +kernel
theorem dX3_checkNumber_21 : decode cX3_checkNumber 21 = .ok (.return_, 1) := by decide +kernel
theorem dX3_checkFlight_0 : decode cX3_checkFlight 0 = .ok (.iload_n 1, 1) := by decide +kernel
theorem dX3_checkFlight_1 : decode cX3_checkFlight 1 = .ok (.aload_n 0, 1) := by decide +kernel
theorem dX3_checkFlight_2 : decode cX3_checkFlight 2 = .ok (.getfield 12, 3) := by decide +kernel
theorem dX3_checkFlight_5 : decode cX3_checkFlight 5 = .ok (.getfield 148, 3) := by decide +kernel
theorem dX3_checkFlight_8 : decode cX3_checkFlight 8 = .ok (.invokestatic 177, 3) := by decide +kernel
theorem dX3_checkFlight_11 : decode cX3_checkFlight 11 = .ok (.return_, 1) := by decide +kernel
theorem dX3_checkStep_0 : decode cX3_checkStep 0 = .ok (.iload_n 1, 1) := by decide +kernel
theorem dX3_checkStep_1 : decode cX3_checkStep 1 = .ok (.aload_n 0, 1) := by decide +kernel
theorem dX3_checkStep_2 : decode cX3_checkStep 2 = .ok (.getfield 12, 3) := by decide +kernel
theorem dX3_checkStep_5 : decode cX3_checkStep 5 = .ok (.getfield 77, 3) := by decide +kernel
theorem dX3_checkStep_8 : decode cX3_checkStep 8 = .ok (.invokestatic 177, 3) := by decide +kernel
theorem dX3_checkStep_11 : decode cX3_checkStep 11 = .ok (.return_, 1) := by decide +kernel
theorem dX3_checkMark_0 : decode cX3_checkMark 0 = .ok (.iload_n 1, 1) := by decide +kernel
theorem dX3_checkMark_1 : decode cX3_checkMark 1 = .ok (.aload_n 0, 1) := by decide +kernel
theorem dX3_checkMark_2 : decode cX3_checkMark 2 = .ok (.getfield 28, 3) := by decide +kernel
theorem dX3_checkMark_5 : decode cX3_checkMark 5 = .ok (.getfield 89, 3) := by decide +kernel
theorem dX3_checkMark_8 : decode cX3_checkMark 8 = .ok (.invokestatic 177, 3) := by decide +kernel
theorem dX3_checkMark_11 : decode cX3_checkMark 11 = .ok (.return_, 1) := by decide +kernel
theorem dX3_checkPuddle_0 : decode cX3_checkPuddle 0 = .ok (.aload_n 0, 1) := by decide +kernel
theorem dX3_checkPuddle_1 : decode cX3_checkPuddle 1 = .ok (.iload_n 1, 1) := by decide +kernel
theorem dX3_checkPuddle_2 : decode cX3_checkPuddle 2 = .ok (.invokevirtual 74, 3) := by decide +kernel
theorem dX3_checkPuddle_5 : decode cX3_checkPuddle 5 = .ok (.aload_n 0, 1) := by decide +kernel
theorem dX3_checkPuddle_6 : decode cX3_checkPuddle 6 = .ok (.iload_n 2, 1) := by decide +kernel
theorem dX3_checkPuddle_7 : decode cX3_checkPuddle 7 = .ok (.invokevirtual 141, 3) := by decide +kernel
theorem dX3_checkPuddle_10 : decode cX3_checkPuddle 10 = .ok (.return_, 1) := by decide +kernel
theorem dX3_checkPart_0 : decode cX3_checkPart 0 = .ok (.aload_n 0, 1) := by decide +kernel
theorem dX3_checkPart_1 : decode cX3_checkPart 1 = .ok (.iload_n 1, 1) := by decide +kernel
theorem dX3_checkPart_2 : decode cX3_checkPart 2 = .ok (.iload_n 2, 1) := by decide +kernel
theorem dX3_checkPart_3 : decode cX3_checkPart 3 = .ok (.invokevirtual 57, 3) := by decide +kernel
theorem dX3_checkPart_6 : decode cX3_checkPart 6 = .ok (.aload_n 0, 1) := by decide +kernel
theorem dX3_checkPart_7 : decode cX3_checkPart 7 = .ok (.iload_n 3, 1) := by decide +kernel
theorem dX3_checkPart_8 : decode cX3_checkPart 8 = .ok (.iload 4, 2) := by decide +kernel
theorem dX3_checkPart_10 : decode cX3_checkPart 10 = .ok (.invokevirtual 57, 3) := by decide +kernel
theorem dX3_checkPart_13 : decode cX3_checkPart 13 = .ok (.iload_n 1, 1) := by decide +kernel
theorem dX3_checkPart_14 : decode cX3_checkPart 14 = .ok (.iload_n 3, 1) := by decide +kernel
theorem dX3_checkPart_15 : decode cX3_checkPart 15 = .ok (.if_icmp .gt 9, 3) := by decide +kernel
theorem dX3_checkPart_18 : decode cX3_checkPart 18 = .ok (.iload_n 2, 1) := by decide +kernel
theorem dX3_checkPart_19 : decode cX3_checkPart 19 = .ok (.iload 4, 2) := by decide +kernel
theorem dX3_checkPart_21 : decode cX3_checkPart 21 = .ok (.if_icmp .le 14, 3) := by decide +kernel
theorem dX3_checkPart_24 : decode cX3_checkPart 24 = .ok (.new 292, 3) := by decide +kernel
theorem dX3_checkPart_27 : decode cX3_checkPart 27 = .ok (.dup, 1) := by decide +kernel
theorem dX3_checkPart_28 : decode cX3_checkPart 28 = .ok (.ldc_w 297, 3) := by decide +kernel
theorem dX3_checkPart_31 : decode cX3_checkPart 31 = .ok (.invokespecial 296, 3) := by decide +kernel
theorem dX3_checkPart_34 : decode cX3_checkPart 34 = .ok (.athrow, 1) := by decide +kernel
theorem dX3_checkPart_35 : decode cX3_checkPart 35 = .ok (.return_, 1) := by decide +kernel
