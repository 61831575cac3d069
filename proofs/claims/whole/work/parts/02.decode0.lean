theorem dX0_init_0 : decode cX0_init 0 = .ok (.aload_n 0, 1) := by decide +kernel
theorem dX0_init_1 : decode cX0_init 1 = .ok (.invokespecial 3, 3) := by decide +kernel
theorem dX0_init_4 : decode cX0_init 4 = .ok (.aload_n 0, 1) := by decide +kernel
theorem dX0_init_5 : decode cX0_init 5 = .ok (.bipush 10, 2) := by decide +kernel
theorem dX0_init_7 : decode cX0_init 7 = .ok (.newarray .int, 2) := by decide +kernel
theorem dX0_init_9 : decode cX0_init 9 = .ok (.putfield 9, 3) := by decide +kernel
theorem dX0_init_12 : decode cX0_init 12 = .ok (.aload_n 0, 1) := by decide +kernel
theorem dX0_init_13 : decode cX0_init 13 = .ok (.bipush 10, 2) := by decide +kernel
theorem dX0_init_15 : decode cX0_init 15 = .ok (.newarray .int, 2) := by decide +kernel
theorem dX0_init_17 : decode cX0_init 17 = .ok (.putfield 15, 3) := by decide +kernel
theorem dX0_init_20 : decode cX0_init 20 = .ok (.aload_n 0, 1) := by decide +kernel
theorem dX0_init_21 : decode cX0_init 21 = .ok (.iconst (-1), 1) := by decide +kernel
theorem dX0_init_22 : decode cX0_init 22 = .ok (.putfield 18, 3) := by decide +kernel
theorem dX0_init_25 : decode cX0_init 25 = .ok (.return_, 1) := by decide +kernel
theorem dX0_open_0 : decode cX0_open 0 = .ok (.aload_n 0, 1) := by decide +kernel
theorem dX0_open_1 : decode cX0_open 1 = .ok (.iload_n 1, 1) := by decide +kernel
theorem dX0_open_2 : decode cX0_open 2 = .ok (.bipush 10, 2) := by decide +kernel
theorem dX0_open_4 : decode cX0_open 4 = .ok (.invokestatic 22, 3) := by decide +kernel
theorem dX0_open_7 : decode cX0_open 7 = .ok (.putfield 18, 3) := by decide +kernel
theorem dX0_open_10 : decode cX0_open 10 = .ok (.iconst 0, 1) := by decide +kernel
theorem dX0_open_11 : decode cX0_open 11 = .ok (.istore_n 2, 1) := by decide +kernel
theorem dX0_open_12 : decode cX0_open 12 = .ok (.iload_n 2, 1) := by decide +kernel
theorem dX0_open_13 : decode cX0_open 13 = .ok (.bipush 10, 2) := by decide +kernel
theorem dX0_open_15 : decode cX0_open 15 = .ok (.if_icmp .ge 16, 3) := by decide +kernel
theorem dX0_open_18 : decode cX0_open 18 = .ok (.aload_n 0, 1) := by decide +kernel
theorem dX0_open_19 : decode cX0_open 19 = .ok (.getfield 9, 3) := by decide +kernel
theorem dX0_open_22 : decode cX0_open 22 = .ok (.iload_n 2, 1) := by decide +kernel
theorem dX0_open_23 : decode cX0_open 23 = .ok (.iconst 3, 1) := by decide +kernel
theorem dX0_open_24 : decode cX0_open 24 = .ok (.iastore, 1) := by decide +kernel
theorem dX0_open_25 : decode cX0_open 25 = .ok (.iinc 2 1, 3) := by decide +kernel
theorem dX0_open_28 : decode cX0_open 28 = .ok (.goto (-16), 3) := by decide +kernel
theorem dX0_open_31 : decode cX0_open 31 = .ok (.return_, 1) := by decide +kernel
theorem dX0_close_0 : decode cX0_close 0 = .ok (.aload_n 0, 1) := by decide +kernel
theorem dX0_close_1 : decode cX0_close 1 = .ok (.iconst (-1), 1) := by decide +kernel
theorem dX0_close_2 : decode cX0_close 2 = .ok (.putfield 18, 3) := by decide +kernel
theorem dX0_close_5 : decode cX0_close 5 = .ok (.return_, 1) := by decide +kernel
theorem dX0_isMissing_0 : decode cX0_isMissing 0 = .ok (.aload_n 0, 1) := by decide +kernel
theorem dX0_isMissing_1 : decode cX0_isMissing 1 = .ok (.getfield 18, 3) := by decide +kernel
theorem dX0_isMissing_4 : decode cX0_isMissing 4 = .ok (.iconst (-1), 1) := by decide +kernel
theorem dX0_isMissing_5 : decode cX0_isMissing 5 = .ok (.if_icmp .ne 7, 3) := by decide +kernel
theorem dX0_isMissing_8 : decode cX0_isMissing 8 = .ok (.iconst 1, 1) := by decide +kernel
theorem dX0_isMissing_9 : decode cX0_isMissing 9 = .ok (.goto 4, 3) := by decide +kernel
theorem dX0_isMissing_12 : decode cX0_isMissing 12 = .ok (.iconst 0, 1) := by decide +kernel
theorem dX0_isMissing_13 : decode cX0_isMissing 13 = .ok (.ireturn, 1) := by decide +kernel
theorem dX0_hasLine_0 : decode cX0_hasLine 0 = .ok (.iload_n 1, 1) := by decide +kernel
theorem dX0_hasLine_1 : decode cX0_hasLine 1 = .ok (.ifCond .lt 15, 3) := by decide +kernel
theorem dX0_hasLine_4 : decode cX0_hasLine 4 = .ok (.iload_n 1, 1) := by decide +kernel
theorem dX0_hasLine_5 : decode cX0_hasLine 5 = .ok (.aload_n 0, 1) := by decide +kernel
theorem dX0_hasLine_6 : decode cX0_hasLine 6 = .ok (.getfield 18, 3) := by decide +kernel
theorem dX0_hasLine_9 : decode cX0_hasLine 9 = .ok (.if_icmp .ge 7, 3) := by decide +kernel
theorem dX0_hasLine_12 : decode cX0_hasLine 12 = .ok (.iconst 1, 1) := by decide +kernel
theorem dX0_hasLine_13 : decode cX0_hasLine 13 = .ok (.goto 4, 3) := by decide +kernel
theorem dX0_hasLine_16 : decode cX0_hasLine 16 = .ok (.iconst 0, 1) := by decide +kernel
theorem dX0_hasLine_17 : decode cX0_hasLine 17 = .ok (.ireturn, 1) := by decide +kernel
theorem dX0_hasLines_0 : decode cX0_hasLines 0 = .ok (.iload_n 1, 1) := by decide +kernel
theorem dX0_hasLines_1 : decode cX0_hasLines 1 = .ok (.ifCond .lt 21, 3) := by decide +kernel
theorem dX0_hasLines_4 : decode cX0_hasLines 4 = .ok (.iload_n 2, 1) := by decide +kernel
theorem dX0_hasLines_5 : decode cX0_hasLines 5 = .ok (.ifCond .lt 17, 3) := by decide +kernel
theorem dX0_hasLines_8 : decode cX0_hasLines 8 = .ok (.iload_n 1, 1) := by decide +kernel
theorem dX0_hasLines_9 : decode cX0_hasLines 9 = .ok (.aload_n 0, 1) := by decide +kernel
theorem dX0_hasLines_10 : decode cX0_hasLines 10 = .ok (.getfield 18, 3) := by decide +kernel
theorem dX0_hasLines_13 : decode cX0_hasLines 13 = .ok (.iload_n 2, 1) := by decide +kernel
theorem dX0_hasLines_14 : decode cX0_hasLines 14 = .ok (.isub, 1) := by decide +kernel
theorem dX0_hasLines_15 : decode cX0_hasLines 15 = .ok (.if_icmp .gt 7, 3) := by decide +kernel
theorem dX0_hasLines_18 : decode cX0_hasLines 18 = .ok (.iconst 1, 1) := by decide +kernel
theorem dX0_hasLines_19 : decode cX0_hasLines 19 = .ok (.goto 4, 3) := by decide +kernel
theorem dX0_hasLines_22 : decode cX0_hasLines 22 = .ok (.iconst 0, 1) := by decide +kernel
theorem dX0_hasLines_23 : decode cX0_hasLines 23 = .ok (.ireturn, 1) := by decide +kernel
theorem dX0_filledLines_0 : decode cX0_filledLines 0 = .ok (.iconst 0, 1) := by decide +kernel
theorem dX0_filledLines_1 : decode cX0_filledLines 1 = .ok (.istore_n 1, 1) := by decide +kernel
theorem dX0_filledLines_2 : decode cX0_filledLines 2 = .ok (.iconst 0, 1) := by decide +kernel
theorem dX0_filledLines_3 : decode cX0_filledLines 3 = .ok (.istore_n 2, 1) := by decide +kernel
theorem dX0_filledLines_4 : decode cX0_filledLines 4 = .ok (.iload_n 2, 1) := by decide +kernel
theorem dX0_filledLines_5 : decode cX0_filledLines 5 = .ok (.aload_n 0, 1) := by decide +kernel
theorem dX0_filledLines_6 : decode cX0_filledLines 6 = .ok (.getfield 18, 3) := by decide +kernel
theorem dX0_filledLines_9 : decode cX0_filledLines 9 = .ok (.if_icmp .ge 22, 3) := by decide +kernel
theorem dX0_filledLines_12 : decode cX0_filledLines 12 = .ok (.aload_n 0, 1) := by decide +kernel
theorem dX0_filledLines_13 : decode cX0_filledLines 13 = .ok (.getfield 9, 3) := by decide +kernel
theorem dX0_filledLines_16 : decode cX0_filledLines 16 = .ok (.iload_n 2, 1) := by decide +kernel
theorem dX0_filledLines_17 : decode cX0_filledLines 17 = .ok (.iaload, 1) := by decide +kernel
theorem dX0_filledLines_18 : decode cX0_filledLines 18 = .ok (.iconst 3, 1) := by decide +kernel
theorem dX0_filledLines_19 : decode cX0_filledLines 19 = .ok (.if_icmp .eq 6, 3) := by decide +kernel
theorem dX0_filledLines_22 : decode cX0_filledLines 22 = .ok (.iinc 1 1, 3) := by decide +kernel
theorem dX0_filledLines_25 : decode cX0_filledLines 25 = .ok (.iinc 2 1, 3) := by decide +kernel
theorem dX0_filledLines_28 : decode cX0_filledLines 28 = .ok (.goto (-24), 3) := by decide +kernel
theorem dX0_filledLines_31 : decode cX0_filledLines 31 = .ok (.iload_n 1, 1) := by decide +kernel
theorem dX0_filledLines_32 : decode cX0_filledLines 32 = .ok (.ireturn, 1) := by decide +kernel
theorem dX0_toldBooks_0 : decode cX0_toldBooks 0 = .ok (.iconst 0, 1) := by decide +kernel
theorem dX0_toldBooks_1 : decode cX0_toldBooks 1 = .ok (.istore_n 1, 1) := by decide +kernel
theorem dX0_toldBooks_2 : decode cX0_toldBooks 2 = .ok (.iconst 0, 1) := by decide +kernel
theorem dX0_toldBooks_3 : decode cX0_toldBooks 3 = .ok (.istore_n 2, 1) := by decide +kernel
theorem dX0_toldBooks_4 : decode cX0_toldBooks 4 = .ok (.iload_n 2, 1) := by decide +kernel
theorem dX0_toldBooks_5 : decode cX0_toldBooks 5 = .ok (.aload_n 0, 1) := by decide +kernel
theorem dX0_toldBooks_6 : decode cX0_toldBooks 6 = .ok (.getfield 18, 3) := by decide +kernel
theorem dX0_toldBooks_9 : decode cX0_toldBooks 9 = .ok (.if_icmp .ge 30, 3) := by decide +kernel
theorem dX0_toldBooks_12 : decode cX0_toldBooks 12 = .ok (.aload_n 0, 1) := by decide +kernel
theorem dX0_toldBooks_13 : decode cX0_toldBooks 13 = .ok (.getfield 9, 3) := by decide +kernel
theorem dX0_toldBooks_16 : decode cX0_toldBooks 16 = .ok (.iload_n 2, 1) := by decide +kernel
theorem dX0_toldBooks_17 : decode cX0_toldBooks 17 = .ok (.iaload, 1) := by decide +kernel
theorem dX0_toldBooks_18 : decode cX0_toldBooks 18 = .ok (.iconst 2, 1) := by decide +kernel
theorem dX0_toldBooks_19 : decode cX0_toldBooks 19 = .ok (.if_icmp .ne 14, 3) := by decide +kernel
theorem dX0_toldBooks_22 : decode cX0_toldBooks 22 = .ok (.iload_n 1, 1) := by decide +kernel
theorem dX0_toldBooks_23 : decode cX0_toldBooks 23 = .ok (.iconst 1, 1) := by decide +kernel
theorem dX0_toldBooks_24 : decode cX0_toldBooks 24 = .ok (.aload_n 0, 1) := by decide +kernel
theorem dX0_toldBooks_25 : decode cX0_toldBooks 25 = .ok (.getfield 15, 3) := by decide +kernel
theorem dX0_toldBooks_28 : decode cX0_toldBooks 28 = .ok (.iload_n 2, 1) := by decide +kernel
theorem dX0_toldBooks_29 : decode cX0_toldBooks 29 = .ok (.iaload, 1) := by decide +kernel
theorem dX0_toldBooks_30 : decode cX0_toldBooks 30 = .ok (.ishl, 1) := by decide +kernel
theorem dX0_toldBooks_31 : decode cX0_toldBooks 31 = .ok (.ior, 1) := by decide +kernel
theorem dX0_toldBooks_32 : decode cX0_toldBooks 32 = .ok (.istore_n 1, 1) := by decide +kernel
theorem dX0_toldBooks_33 : decode cX0_toldBooks 33 = .ok (.iinc 2 1, 3) := by decide +kernel
theorem dX0_toldBooks_36 : decode cX0_toldBooks 36 = .ok (.goto (-32), 3) := by decide +kernel
theorem dX0_toldBooks_39 : decode cX0_toldBooks 39 = .ok (.iload_n 1, 1) := by decide +kernel
theorem dX0_toldBooks_40 : decode cX0_toldBooks 40 = .ok (.ireturn, 1) := by decide +kernel
theorem dX0_ownWeight_0 : decode cX0_ownWeight 0 = .ok (.iconst 0, 1) := by decide +kernel
theorem dX0_ownWeight_1 : decode cX0_ownWeight 1 = .ok (.istore_n 1, 1) := by decide +kernel
theorem dX0_ownWeight_2 : decode cX0_ownWeight 2 = .ok (.iconst 0, 1) := by decide +kernel
theorem dX0_ownWeight_3 : decode cX0_ownWeight 3 = .ok (.istore_n 2, 1) := by decide +kernel
theorem dX0_ownWeight_4 : decode cX0_ownWeight 4 = .ok (.iload_n 2, 1) := by decide +kernel
theorem dX0_ownWeight_5 : decode cX0_ownWeight 5 = .ok (.aload_n 0, 1) := by decide +kernel
theorem dX0_ownWeight_6 : decode cX0_ownWeight 6 = .ok (.getfield 18, 3) := by decide +kernel
theorem dX0_ownWeight_9 : decode cX0_ownWeight 9 = .ok (.if_icmp .ge 46, 3) := by decide +kernel
theorem dX0_ownWeight_12 : decode cX0_ownWeight 12 = .ok (.aload_n 0, 1) := by decide +kernel
theorem dX0_ownWeight_13 : decode cX0_ownWeight 13 = .ok (.getfield 9, 3) := by decide +kernel
theorem dX0_ownWeight_16 : decode cX0_ownWeight 16 = .ok (.iload_n 2, 1) := by decide +kernel
theorem dX0_ownWeight_17 : decode cX0_ownWeight 17 = .ok (.iaload, 1) := by decide +kernel
theorem dX0_ownWeight_18 : decode cX0_ownWeight 18 = .ok (.ifCond .ne 15, 3) := by decide +kernel
theorem dX0_ownWeight_21 : decode cX0_ownWeight 21 = .ok (.iload_n 1, 1) := by decide +kernel
theorem dX0_ownWeight_22 : decode cX0_ownWeight 22 = .ok (.aload_n 0, 1) := by decide +kernel
theorem dX0_ownWeight_23 : decode cX0_ownWeight 23 = .ok (.getfield 15, 3) := by decide +kernel
theorem dX0_ownWeight_26 : decode cX0_ownWeight 26 = .ok (.iload_n 2, 1) := by decide +kernel
theorem dX0_ownWeight_27 : decode cX0_ownWeight 27 = .ok (.iaload, 1) := by decide +kernel
theorem dX0_ownWeight_28 : decode cX0_ownWeight 28 = .ok (.iadd, 1) := by decide +kernel
theorem dX0_ownWeight_29 : decode cX0_ownWeight 29 = .ok (.istore_n 1, 1) := by decide +kernel
theorem dX0_ownWeight_30 : decode cX0_ownWeight 30 = .ok (.goto 19, 3) := by decide +kernel
theorem dX0_ownWeight_33 : decode cX0_ownWeight 33 = .ok (.aload_n 0, 1) := by decide +kernel
theorem dX0_ownWeight_34 : decode cX0_ownWeight 34 = .ok (.getfield 9, 3) := by decide +kernel
theorem dX0_ownWeight_37 : decode cX0_ownWeight 37 = .ok (.iload_n 2, 1) := by decide +kernel
theorem dX0_ownWeight_38 : decode cX0_ownWeight 38 = .ok (.iaload, 1) := by decide +kernel
theorem dX0_ownWeight_39 : decode cX0_ownWeight 39 = .ok (.iconst 1, 1) := by decide +kernel
theorem dX0_ownWeight_40 : decode cX0_ownWeight 40 = .ok (.if_icmp .ne 9, 3) := by decide +kernel
theorem dX0_ownWeight_43 : decode cX0_ownWeight 43 = .ok (.iinc 1 1000, 6) := by decide +kernel
theorem dX0_ownWeight_49 : decode cX0_ownWeight 49 = .ok (.iinc 2 1, 3) := by decide +kernel
theorem dX0_ownWeight_52 : decode cX0_ownWeight 52 = .ok (.goto (-48), 3) := by decide +kernel
theorem dX0_ownWeight_55 : decode cX0_ownWeight 55 = .ok (.iload_n 1, 1) := by decide +kernel
theorem dX0_ownWeight_56 : decode cX0_ownWeight 56 = .ok (.ireturn, 1) := by decide +kernel
theorem dX1_init_0 : decode cX1_init 0 = .ok (.aload_n 0, 1) := by decide +kernel
theorem dX1_init_1 : decode cX1_init 1 = .ok (.invokespecial 5, 3) := by decide +kernel
theorem dX1_init_4 : decode cX1_init 4 = .ok (.aload_n 0, 1) := by decide +kernel
theorem dX1_init_5 : decode cX1_init 5 = .ok (.bipush 8, 2) := by decide +kernel
theorem dX1_init_7 : decode cX1_init 7 = .ok (.newarray .int, 2) := by decide +kernel
theorem dX1_init_9 : decode cX1_init 9 = .ok (.putfield 11, 3) := by decide +kernel
theorem dX1_init_12 : decode cX1_init 12 = .ok (.aload_n 0, 1) := by decide +kernel
theorem dX1_init_13 : decode cX1_init 13 = .ok (.bipush 8, 2) := by decide +kernel
theorem dX1_init_15 : decode cX1_init 15 = .ok (.newarray .int, 2) := by decide +kernel
theorem dX1_init_17 : decode cX1_init 17 = .ok (.putfield 15, 3) := by decide +kernel
theorem dX1_init_20 : decode cX1_init 20 = .ok (.aload_n 0, 1) := by decide +kernel
theorem dX1_init_21 : decode cX1_init 21 = .ok (.bipush 8, 2) := by decide +kernel
theorem dX1_init_23 : decode cX1_init 23 = .ok (.newarray .int, 2) := by decide +kernel
theorem dX1_init_25 : decode cX1_init 25 = .ok (.putfield 18, 3) := by decide +kernel
theorem dX1_init_28 : decode cX1_init 28 = .ok (.aload_n 0, 1) := by decide +kernel
theorem dX1_init_29 : decode cX1_init 29 = .ok (.iconst 4, 1) := by decide +kernel
theorem dX1_init_30 : decode cX1_init 30 = .ok (.newarray .int, 2) := by decide +kernel
theorem dX1_init_32 : decode cX1_init 32 = .ok (.putfield 21, 3) := by decide +kernel
theorem dX1_init_35 : decode cX1_init 35 = .ok (.aload_n 0, 1) := by decide +kernel
theorem dX1_init_36 : decode cX1_init 36 = .ok (.iconst 4, 1) := by decide +kernel
theorem dX1_init_37 : decode cX1_init 37 = .ok (.newarray .int, 2) := by decide +kernel
theorem dX1_init_39 : decode cX1_init 39 = .ok (.putfield 24, 3) := by decide +kernel
theorem dX1_init_42 : decode cX1_init 42 = .ok (.aload_n 0, 1) := by decide +kernel
theorem dX1_init_43 : decode cX1_init 43 = .ok (.iconst 4, 1) := by decide +kernel
theorem dX1_init_44 : decode cX1_init 44 = .ok (.newarray .int, 2) := by decide +kernel
theorem dX1_init_46 : decode cX1_init 46 = .ok (.putfield 27, 3) := by decide +kernel
theorem dX1_init_49 : decode cX1_init 49 = .ok (.aload_n 0, 1) := by decide +kernel
theorem dX1_init_50 : decode cX1_init 50 = .ok (.aload_n 1, 1) := by decide +kernel
theorem dX1_init_51 : decode cX1_init 51 = .ok (.putfield 30, 3) := by decide +kernel
theorem dX1_init_54 : decode cX1_init 54 = .ok (.return_, 1) := by decide +kernel
theorem dX1_begin_0 : decode cX1_begin 0 = .ok (.aload_n 0, 1) := by decide +kernel
theorem dX1_begin_1 : decode cX1_begin 1 = .ok (.iconst 0, 1) := by decide +kernel
theorem dX1_begin_2 : decode cX1_begin 2 = .ok (.putfield 34, 3) := by decide +kernel
theorem dX1_begin_5 : decode cX1_begin 5 = .ok (.aload_n 0, 1) := by decide +kernel
theorem dX1_begin_6 : decode cX1_begin 6 = .ok (.iconst 0, 1) := by decide +kernel
theorem dX1_begin_7 : decode cX1_begin 7 = .ok (.putfield 38, 3) := by decide +kernel
theorem dX1_begin_10 : decode cX1_begin 10 = .ok (.iconst 0, 1) := by decide +kernel
theorem dX1_begin_11 : decode cX1_begin 11 = .ok (.istore_n 1, 1) := by decide +kernel
theorem dX1_begin_12 : decode cX1_begin 12 = .ok (.iload_n 1, 1) := by decide +kernel
theorem dX1_begin_13 : decode cX1_begin 13 = .ok (.aload_n 0, 1) := by decide +kernel
theorem dX1_begin_14 : decode cX1_begin 14 = .ok (.getfield 30, 3) := by decide +kernel
theorem dX1_begin_17 : decode cX1_begin 17 = .ok (.getfield 41, 3) := by decide +kernel
theorem dX1_begin_20 : decode cX1_begin 20 = .ok (.if_icmp .ge 46, 3) := by decide +kernel
theorem dX1_begin_23 : decode cX1_begin 23 = .ok (.aload_n 0, 1) := by decide +kernel
theorem dX1_begin_24 : decode cX1_begin 24 = .ok (.getfield 11, 3) := by decide +kernel
theorem dX1_begin_27 : decode cX1_begin 27 = .ok (.iload_n 1, 1) := by decide +kernel
theorem dX1_begin_28 : decode cX1_begin 28 = .ok (.aload_n 0, 1) := by decide +kernel
theorem dX1_begin_29 : decode cX1_begin 29 = .ok (.getfield 30, 3) := by decide +kernel
theorem dX1_begin_32 : decode cX1_begin 32 = .ok (.getfield 46, 3) := by decide +kernel
theorem dX1_begin_35 : decode cX1_begin 35 = .ok (.iload_n 1, 1) := by decide +kernel
theorem dX1_begin_36 : decode cX1_begin 36 = .ok (.iaload, 1) := by decide +kernel
theorem dX1_begin_37 : decode cX1_begin 37 = .ok (.iastore, 1) := by decide +kernel
theorem dX1_begin_38 : decode cX1_begin 38 = .ok (.aload_n 0, 1) := by decide +kernel
theorem dX1_begin_39 : decode cX1_begin 39 = .ok (.getfield 15, 3) := by decide +kernel
theorem dX1_begin_42 : decode cX1_begin 42 = .ok (.iload_n 1, 1) := by decide +kernel
theorem dX1_begin_43 : decode cX1_begin 43 = .ok (.aload_n 0, 1) := by decide +kernel
theorem dX1_begin_44 : decode cX1_begin 44 = .ok (.getfield 30, 3) := by decide +kernel
theorem dX1_begin_47 : decode cX1_begin 47 = .ok (.getfield 49, 3) := by decide +kernel
theorem dX1_begin_50 : decode cX1_begin 50 = .ok (.iload_n 1, 1) := by decide +kernel
theorem dX1_begin_51 : decode cX1_begin 51 = .ok (.iaload, 1) := by decide +kernel
theorem dX1_begin_52 : decode cX1_begin 52 = .ok (.iastore, 1) := by decide +kernel
theorem dX1_begin_53 : decode cX1_begin 53 = .ok (.aload_n 0, 1) := by decide +kernel
theorem dX1_begin_54 : decode cX1_begin 54 = .ok (.getfield 18, 3) := by decide +kernel
theorem dX1_begin_57 : decode cX1_begin 57 = .ok (.iload_n 1, 1) := by decide +kernel
theorem dX1_begin_58 : decode cX1_begin 58 = .ok (.iconst 0, 1) := by decide +kernel
theorem dX1_begin_59 : decode cX1_begin 59 = .ok (.iastore, 1) := by decide +kernel
theorem dX1_begin_60 : decode cX1_begin 60 = .ok (.iinc 1 1, 3) := by decide +kernel
theorem dX1_begin_63 : decode cX1_begin 63 = .ok (.goto (-51), 3) := by decide +kernel
theorem dX1_begin_66 : decode cX1_begin 66 = .ok (.iconst 0, 1) := by decide +kernel
theorem dX1_begin_67 : decode cX1_begin 67 = .ok (.istore_n 1, 1) := by decide +kernel
theorem dX1_begin_68 : decode cX1_begin 68 = .ok (.iload_n 1, 1) := by decide +kernel
theorem dX1_begin_69 : decode cX1_begin 69 = .ok (.aload_n 0, 1) := by decide +kernel
theorem dX1_begin_70 : decode cX1_begin 70 = .ok (.getfield 30, 3) := by decide +kernel
theorem dX1_begin_73 : decode cX1_begin 73 = .ok (.getfield 50, 3) := by decide +kernel
theorem dX1_begin_76 : decode cX1_begin 76 = .ok (.if_icmp .ge 46, 3) := by decide +kernel
theorem dX1_begin_79 : decode cX1_begin 79 = .ok (.aload_n 0, 1) := by decide +kernel
theorem dX1_begin_80 : decode cX1_begin 80 = .ok (.getfield 21, 3) := by decide +kernel
theorem dX1_begin_83 : decode cX1_begin 83 = .ok (.iload_n 1, 1) := by decide +kernel
theorem dX1_begin_84 : decode cX1_begin 84 = .ok (.aload_n 0, 1) := by decide +kernel
theorem dX1_begin_85 : decode cX1_begin 85 = .ok (.getfield 30, 3) := by decide +kernel
theorem dX1_begin_88 : decode cX1_begin 88 = .ok (.getfield 53, 3) := by decide +kernel
theorem dX1_begin_91 : decode cX1_begin 91 = .ok (.iload_n 1, 1) := by decide +kernel
theorem dX1_begin_92 : decode cX1_begin 92 = .ok (.iaload, 1) := by decide +kernel
theorem dX1_begin_93 : decode cX1_begin 93 = .ok (.iastore, 1) := by decide +kernel
theorem dX1_begin_94 : decode cX1_begin 94 = .ok (.aload_n 0, 1) := by decide +kernel
theorem dX1_begin_95 : decode cX1_begin 95 = .ok (.getfield 24, 3) := by decide +kernel
theorem dX1_begin_98 : decode cX1_begin 98 = .ok (.iload_n 1, 1) := by decide +kernel
theorem dX1_begin_99 : decode cX1_begin 99 = .ok (.aload_n 0, 1) := by decide +kernel
theorem dX1_begin_100 : decode cX1_begin 100 = .ok (.getfield 30, 3) := by decide +kernel
theorem dX1_begin_103 : decode cX1_begin 103 = .ok (.getfield 56, 3) := by decide +kernel
theorem dX1_begin_106 : decode cX1_begin 106 = .ok (.iload_n 1, 1) := by decide +kernel
theorem dX1_begin_107 : decode cX1_begin 107 = .ok (.iaload, 1) := by decide +kernel
theorem dX1_begin_108 : decode cX1_begin 108 = .ok (.iastore, 1) := by decide +kernel
theorem dX1_begin_109 : decode cX1_begin 109 = .ok (.aload_n 0, 1) := by decide +kernel
theorem dX1_begin_110 : decode cX1_begin 110 = .ok (.getfield 27, 3) := by decide +kernel
theorem dX1_begin_113 : decode cX1_begin 113 = .ok (.iload_n 1, 1) := by decide +kernel
theorem dX1_begin_114 : decode cX1_begin 114 = .ok (.iconst 0, 1) := by decide +kernel
theorem dX1_begin_115 : decode cX1_begin 115 = .ok (.iastore, 1) := by decide +kernel
theorem dX1_begin_116 : decode cX1_begin 116 = .ok (.iinc 1 1, 3) := by decide +kernel
theorem dX1_begin_119 : decode cX1_begin 119 = .ok (.goto (-51), 3) := by decide +kernel
theorem dX1_begin_122 : decode cX1_begin 122 = .ok (.return_, 1) := by decide +kernel
theorem dX1_become_0 : decode cX1_become 0 = .ok (.aload_n 0, 1) := by decide +kernel
theorem dX1_become_1 : decode cX1_become 1 = .ok (.aload_n 1, 1) := by decide +kernel
theorem dX1_become_2 : decode cX1_become 2 = .ok (.getfield 34, 3) := by decide +kernel
theorem dX1_become_5 : decode cX1_become 5 = .ok (.putfield 34, 3) := by decide +kernel
theorem dX1_become_8 : decode cX1_become 8 = .ok (.aload_n 0, 1) := by decide +kernel
theorem dX1_become_9 : decode cX1_become 9 = .ok (.aload_n 1, 1) := by decide +kernel
theorem dX1_become_10 : decode cX1_become 10 = .ok (.getfield 38, 3) := by decide +kernel
theorem dX1_become_13 : decode cX1_become 13 = .ok (.putfield 38, 3) := by decide +kernel
theorem dX1_become_16 : decode cX1_become 16 = .ok (.aload_n 1, 1) := by decide +kernel
theorem dX1_become_17 : decode cX1_become 17 = .ok (.getfield 11, 3) := by decide +kernel
theorem dX1_become_20 : decode cX1_become 20 = .ok (.iconst 0, 1) := by decide +kernel
theorem dX1_become_21 : decode cX1_become 21 = .ok (.aload_n 0, 1) := by decide +kernel
theorem dX1_become_22 : decode cX1_become 22 = .ok (.getfield 11, 3) := by decide +kernel
theorem dX1_become_25 : decode cX1_become 25 = .ok (.iconst 0, 1) := by decide +kernel
theorem dX1_become_26 : decode cX1_become 26 = .ok (.bipush 8, 2) := by decide +kernel
theorem dX1_become_28 : decode cX1_become 28 = .ok (.invokestatic 57, 3) := by decide +kernel
theorem dX1_become_31 : decode cX1_become 31 = .ok (.aload_n 1, 1) := by decide +kernel
theorem dX1_become_32 : decode cX1_become 32 = .ok (.getfield 15, 3) := by decide +kernel
theorem dX1_become_35 : decode cX1_become 35 = .ok (.iconst 0, 1) := by decide +kernel
theorem dX1_become_36 : decode cX1_become 36 = .ok (.aload_n 0, 1) := by decide +kernel
theorem dX1_become_37 : decode cX1_become 37 = .ok (.getfield 15, 3) := by decide +kernel
theorem dX1_become_40 : decode cX1_become 40 = .ok (.iconst 0, 1) := by decide +kernel
theorem dX1_become_41 : decode cX1_become 41 = .ok (.bipush 8, 2) := by decide +kernel
theorem dX1_become_43 : decode cX1_become 43 = .ok (.invokestatic 57, 3) := by decide +kernel
theorem dX1_become_46 : decode cX1_become 46 = .ok (.aload_n 1, 1) := by decide +kernel
theorem dX1_become_47 : decode cX1_become 47 = .ok (.getfield 18, 3) := by decide +kernel
theorem dX1_become_50 : decode cX1_become 50 = .ok (.iconst 0, 1) := by decide +kernel
theorem dX1_become_51 : decode cX1_become 51 = .ok (.aload_n 0, 1) := by decide +kernel
theorem dX1_become_52 : decode cX1_become 52 = .ok (.getfield 18, 3) := by decide +kernel
theorem dX1_become_55 : decode cX1_become 55 = .ok (.iconst 0, 1) := by decide +kernel
theorem dX1_become_56 : decode cX1_become 56 = .ok (.bipush 8, 2) := by decide +kernel
theorem dX1_become_58 : decode cX1_become 58 = .ok (.invokestatic 57, 3) := by decide +kernel
theorem dX1_become_61 : decode cX1_become 61 = .ok (.aload_n 1, 1) := by decide +kernel
theorem dX1_become_62 : decode cX1_become 62 = .ok (.getfield 21, 3) := by decide +kernel
theorem dX1_become_65 : decode cX1_become 65 = .ok (.iconst 0, 1) := by decide +kernel
theorem dX1_become_66 : decode cX1_become 66 = .ok (.aload_n 0, 1) := by decide +kernel
theorem dX1_become_67 : decode cX1_become 67 = .ok (.getfield 21, 3) := by decide +kernel
theorem dX1_become_70 : decode cX1_become 70 = .ok (.iconst 0, 1) := by decide +kernel
theorem dX1_become_71 : decode cX1_become 71 = .ok (.iconst 4, 1) := by decide +kernel
theorem dX1_become_72 : decode cX1_become 72 = .ok (.invokestatic 57, 3) := by decide +kernel
theorem dX1_become_75 : decode cX1_become 75 = .ok (.aload_n 1, 1) := by decide +kernel
theorem dX1_become_76 : decode cX1_become 76 = .ok (.getfield 24, 3) := by decide +kernel
theorem dX1_become_79 : decode cX1_become 79 = .ok (.iconst 0, 1) := by decide +kernel
theorem dX1_become_80 : decode cX1_become 80 = .ok (.aload_n 0, 1) := by decide +kernel
theorem dX1_become_81 : decode cX1_become 81 = .ok (.getfield 24, 3) := by decide +kernel
theorem dX1_become_84 : decode cX1_become 84 = .ok (.iconst 0, 1) := by decide +kernel
theorem dX1_become_85 : decode cX1_become 85 = .ok (.iconst 4, 1) := by decide +kernel
theorem dX1_become_86 : decode cX1_become 86 = .ok (.invokestatic 57, 3) := by decide +kernel
theorem dX1_become_89 : decode cX1_become 89 = .ok (.aload_n 1, 1) := by decide +kernel
theorem dX1_become_90 : decode cX1_become 90 = .ok (.getfield 27, 3) := by decide +kernel
theorem dX1_become_93 : decode cX1_become 93 = .ok (.iconst 0, 1) := by decide +kernel
theorem dX1_become_94 : decode cX1_become 94 = .ok (.aload_n 0, 1) := by decide +kernel
theorem dX1_become_95 : decode cX1_become 95 = .ok (.getfield 27, 3) := by decide +kernel
theorem dX1_become_98 : decode cX1_become 98 = .ok (.iconst 0, 1) := by decide +kernel
theorem dX1_become_99 : decode cX1_become 99 = .ok (.iconst 4, 1) := by decide +kernel
theorem dX1_become_100 : decode cX1_become 100 = .ok (.invokestatic 57, 3) := by decide +kernel
theorem dX1_become_103 : decode cX1_become 103 = .ok (.return_, 1) := by decide +kernel
theorem dX1_isLame_0 : decode cX1_isLame 0 = .ok (.aload_n 0, 1) := by decide +kernel
theorem dX1_isLame_1 : decode cX1_isLame 1 = .ok (.getfield 38, 3) := by decide +kernel
theorem dX1_isLame_4 : decode cX1_isLame 4 = .ok (.iload_n 1, 1) := by decide +kernel
theorem dX1_isLame_5 : decode cX1_isLame 5 = .ok (.ishr, 1) := by decide +kernel
theorem dX1_isLame_6 : decode cX1_isLame 6 = .ok (.iconst 1, 1) := by decide +kernel
theorem dX1_isLame_7 : decode cX1_isLame 7 = .ok (.iand, 1) := by decide +kernel
theorem dX1_isLame_8 : decode cX1_isLame 8 = .ok (.ifCond .eq 7, 3) := by decide +kernel
theorem dX1_isLame_11 : decode cX1_isLame 11 = .ok (.iconst 1, 1) := by decide +kernel
theorem dX1_isLame_12 : decode cX1_isLame 12 = .ok (.goto 4, 3) := by decide +kernel
theorem dX1_isLame_15 : decode cX1_isLame 15 = .ok (.iconst 0, 1) := by decide +kernel
theorem dX1_isLame_16 : decode cX1_isLame 16 = .ok (.ireturn, 1) := by decide +kernel
theorem dX1_isThere_0 : decode cX1_isThere 0 = .ok (.aload_n 0, 1) := by decide +kernel
theorem dX1_isThere_1 : decode cX1_isThere 1 = .ok (.getfield 21, 3) := by decide +kernel
theorem dX1_isThere_4 : decode cX1_isThere 4 = .ok (.iload_n 1, 1) := by decide +kernel
theorem dX1_isThere_5 : decode cX1_isThere 5 = .ok (.iaload, 1) := by decide +kernel
theorem dX1_isThere_6 : decode cX1_isThere 6 = .ok (.aload_n 0, 1) := by decide +kernel
theorem dX1_isThere_7 : decode cX1_isThere 7 = .ok (.getfield 24, 3) := by decide +kernel
theorem dX1_isThere_10 : decode cX1_isThere 10 = .ok (.iload_n 1, 1) := by decide +kernel
theorem dX1_isThere_11 : decode cX1_isThere 11 = .ok (.iaload, 1) := by decide +kernel
theorem dX1_isThere_12 : decode cX1_isThere 12 = .ok (.if_icmp .ne 7, 3) := by decide +kernel
theorem dX1_isThere_15 : decode cX1_isThere 15 = .ok (.iconst 1, 1) := by decide +kernel
theorem dX1_isThere_16 : decode cX1_isThere 16 = .ok (.goto 4, 3) := by decide +kernel
theorem dX1_isThere_19 : decode cX1_isThere 19 = .ok (.iconst 0, 1) := by decide +kernel
theorem dX1_isThere_20 : decode cX1_isThere 20 = .ok (.ireturn, 1) := by decide +kernel
theorem dX1_ridersThere_0 : decode cX1_ridersThere 0 = .ok (.iconst 0, 1) := by decide +kernel
theorem dX1_ridersThere_1 : decode cX1_ridersThere 1 = .ok (.istore_n 1, 1) := by decide +kernel
theorem dX1_ridersThere_2 : decode cX1_ridersThere 2 = .ok (.iconst 0, 1) := by decide +kernel
theorem dX1_ridersThere_3 : decode cX1_ridersThere 3 = .ok (.istore_n 2, 1) := by decide +kernel
theorem dX1_ridersThere_4 : decode cX1_ridersThere 4 = .ok (.iload_n 2, 1) := by decide +kernel
theorem dX1_ridersThere_5 : decode cX1_ridersThere 5 = .ok (.aload_n 0, 1) := by decide +kernel
theorem dX1_ridersThere_6 : decode cX1_ridersThere 6 = .ok (.getfield 30, 3) := by decide +kernel
theorem dX1_ridersThere_9 : decode cX1_ridersThere 9 = .ok (.getfield 50, 3) := by decide +kernel
theorem dX1_ridersThere_12 : decode cX1_ridersThere 12 = .ok (.if_icmp .ge 23, 3) := by decide +kernel
theorem dX1_ridersThere_15 : decode cX1_ridersThere 15 = .ok (.aload_n 0, 1) := by decide +kernel
theorem dX1_ridersThere_16 : decode cX1_ridersThere 16 = .ok (.iload_n 2, 1) := by decide +kernel
theorem dX1_ridersThere_17 : decode cX1_ridersThere 17 = .ok (.invokevirtual 63, 3) := by decide +kernel
theorem dX1_ridersThere_20 : decode cX1_ridersThere 20 = .ok (.ifCond .eq 9, 3) := by decide +kernel
theorem dX1_ridersThere_23 : decode cX1_ridersThere 23 = .ok (.iload_n 1, 1) := by decide +kernel
theorem dX1_ridersThere_24 : decode cX1_ridersThere 24 = .ok (.iconst 1, 1) := by decide +kernel
theorem dX1_ridersThere_25 : decode cX1_ridersThere 25 = .ok (.iload_n 2, 1) := by decide +kernel
theorem dX1_ridersThere_26 : decode cX1_ridersThere 26 = .ok (.ishl, 1) := by decide +kernel
theorem dX1_ridersThere_27 : decode cX1_ridersThere 27 = .ok (.ior, 1) := by decide +kernel
theorem dX1_ridersThere_28 : decode cX1_ridersThere 28 = .ok (.istore_n 1, 1) := by decide +kernel
theorem dX1_ridersThere_29 : decode cX1_ridersThere 29 = .ok (.iinc 2 1, 3) := by decide +kernel
theorem dX1_ridersThere_32 : decode cX1_ridersThere 32 = .ok (.goto (-28), 3) := by decide +kernel
theorem dX1_ridersThere_35 : decode cX1_ridersThere 35 = .ok (.iload_n 1, 1) := by decide +kernel
theorem dX1_ridersThere_36 : decode cX1_ridersThere 36 = .ok (.ireturn, 1) := by decide +kernel
theorem dX1_allClocks_0 : decode cX1_allClocks 0 = .ok (.iconst 0, 1) := by decide +kernel
theorem dX1_allClocks_1 : decode cX1_allClocks 1 = .ok (.istore_n 1, 1) := by decide +kernel
theorem dX1_allClocks_2 : decode cX1_allClocks 2 = .ok (.iconst 0, 1) := by decide +kernel
theorem dX1_allClocks_3 : decode cX1_allClocks 3 = .ok (.istore_n 2, 1) := by decide +kernel
theorem dX1_allClocks_4 : decode cX1_allClocks 4 = .ok (.iload_n 2, 1) := by decide +kernel
theorem dX1_allClocks_5 : decode cX1_allClocks 5 = .ok (.aload_n 0, 1) := by decide +kernel
theorem dX1_allClocks_6 : decode cX1_allClocks 6 = .ok (.getfield 30, 3) := by decide +kernel
theorem dX1_allClocks_9 : decode cX1_allClocks 9 = .ok (.getfield 50, 3) := by decide +kernel
theorem dX1_allClocks_12 : decode cX1_allClocks 12 = .ok (.if_icmp .ge 18, 3) := by decide +kernel
theorem dX1_allClocks_15 : decode cX1_allClocks 15 = .ok (.iload_n 1, 1) := by decide +kernel
theorem dX1_allClocks_16 : decode cX1_allClocks 16 = .ok (.aload_n 0, 1) := by decide +kernel
theorem dX1_allClocks_17 : decode cX1_allClocks 17 = .ok (.getfield 27, 3) := by decide +kernel
theorem dX1_allClocks_20 : decode cX1_allClocks 20 = .ok (.iload_n 2, 1) := by decide +kernel
theorem dX1_allClocks_21 : decode cX1_allClocks 21 = .ok (.iaload, 1) := by decide +kernel
theorem dX1_allClocks_22 : decode cX1_allClocks 22 = .ok (.iadd, 1) := by decide +kernel
theorem dX1_allClocks_23 : decode cX1_allClocks 23 = .ok (.istore_n 1, 1) := by decide +kernel
theorem dX1_allClocks_24 : decode cX1_allClocks 24 = .ok (.iinc 2 1, 3) := by decide +kernel
theorem dX1_allClocks_27 : decode cX1_allClocks 27 = .ok (.goto (-23), 3) := by decide +kernel
theorem dX1_allClocks_30 : decode cX1_allClocks 30 = .ok (.iload_n 1, 1) := by decide +kernel
theorem dX1_allClocks_31 : decode cX1_allClocks 31 = .ok (.ireturn, 1) := by decide +kernel
theorem dX1_tiredHours_0 : decode cX1_tiredHours 0 = .ok (.iconst 0, 1) := by decide +kernel
theorem dX1_tiredHours_1 : decode cX1_tiredHours 1 = .ok (.istore_n 1, 1) := by decide +kernel
theorem dX1_tiredHours_2 : decode cX1_tiredHours 2 = .ok (.iconst 0, 1) := by decide +kernel
theorem dX1_tiredHours_3 : decode cX1_tiredHours 3 = .ok (.istore_n 2, 1) := by decide +kernel
theorem dX1_tiredHours_4 : decode cX1_tiredHours 4 = .ok (.iload_n 2, 1) := by decide +kernel
theorem dX1_tiredHours_5 : decode cX1_tiredHours 5 = .ok (.aload_n 0, 1) := by decide +kernel
theorem dX1_tiredHours_6 : decode cX1_tiredHours 6 = .ok (.getfield 30, 3) := by decide +kernel
theorem dX1_tiredHours_9 : decode cX1_tiredHours 9 = .ok (.getfield 41, 3) := by decide +kernel
theorem dX1_tiredHours_12 : decode cX1_tiredHours 12 = .ok (.if_icmp .ge 24, 3) := by decide +kernel
theorem dX1_tiredHours_15 : decode cX1_tiredHours 15 = .ok (.aload_n 0, 1) := by decide +kernel
theorem dX1_tiredHours_16 : decode cX1_tiredHours 16 = .ok (.getfield 15, 3) := by decide +kernel
theorem dX1_tiredHours_19 : decode cX1_tiredHours 19 = .ok (.iload_n 2, 1) := by decide +kernel
theorem dX1_tiredHours_20 : decode cX1_tiredHours 20 = .ok (.iaload, 1) := by decide +kernel
theorem dX1_tiredHours_21 : decode cX1_tiredHours 21 = .ok (.ifCond .le 9, 3) := by decide +kernel
theorem dX1_tiredHours_24 : decode cX1_tiredHours 24 = .ok (.iload_n 1, 1) := by decide +kernel
theorem dX1_tiredHours_25 : decode cX1_tiredHours 25 = .ok (.iconst 1, 1) := by decide +kernel
theorem dX1_tiredHours_26 : decode cX1_tiredHours 26 = .ok (.iload_n 2, 1) := by decide +kernel
theorem dX1_tiredHours_27 : decode cX1_tiredHours 27 = .ok (.ishl, 1) := by decide +kernel
theorem dX1_tiredHours_28 : decode cX1_tiredHours 28 = .ok (.ior, 1) := by decide +kernel
theorem dX1_tiredHours_29 : decode cX1_tiredHours 29 = .ok (.istore_n 1, 1) := by decide +kernel
theorem dX1_tiredHours_30 : decode cX1_tiredHours 30 = .ok (.iinc 2 1, 3) := by decide +kernel
theorem dX1_tiredHours_33 : decode cX1_tiredHours 33 = .ok (.goto (-29), 3) := by decide +kernel
theorem dX1_tiredHours_36 : decode cX1_tiredHours 36 = .ok (.iload_n 1, 1) := by decide +kernel
theorem dX1_tiredHours_37 : decode cX1_tiredHours 37 = .ok (.ireturn, 1) := by decide +kernel
theorem dX1_giveOats_0 : decode cX1_giveOats 0 = .ok (.aload_n 0, 1) := by decide +kernel
theorem dX1_giveOats_1 : decode cX1_giveOats 1 = .ok (.getfield 15, 3) := by decide +kernel
theorem dX1_giveOats_4 : decode cX1_giveOats 4 = .ok (.iload_n 1, 1) := by decide +kernel
theorem dX1_giveOats_5 : decode cX1_giveOats 5 = .ok (.iconst 0, 1) := by decide +kernel
theorem dX1_giveOats_6 : decode cX1_giveOats 6 = .ok (.aload_n 0, 1) := by decide +kernel
theorem dX1_giveOats_7 : decode cX1_giveOats 7 = .ok (.getfield 15, 3) := by decide +kernel
theorem dX1_giveOats_10 : decode cX1_giveOats 10 = .ok (.iload_n 1, 1) := by decide +kernel
theorem dX1_giveOats_11 : decode cX1_giveOats 11 = .ok (.iaload, 1) := by decide +kernel
theorem dX1_giveOats_12 : decode cX1_giveOats 12 = .ok (.iconst 3, 1) := by decide +kernel
theorem dX1_giveOats_13 : decode cX1_giveOats 13 = .ok (.isub, 1) := by decide +kernel
theorem dX1_giveOats_14 : decode cX1_giveOats 14 = .ok (.invokestatic 67, 3) := by decide +kernel
theorem dX1_giveOats_17 : decode cX1_giveOats 17 = .ok (.iastore, 1) := by decide +kernel
theorem dX1_giveOats_18 : decode cX1_giveOats 18 = .ok (.aload_n 0, 1) := by decide +kernel
theorem dX1_giveOats_19 : decode cX1_giveOats 19 = .ok (.iload_n 1, 1) := by decide +kernel
theorem dX1_giveOats_20 : decode cX1_giveOats 20 = .ok (.invokevirtual 73, 3) := by decide +kernel
theorem dX1_giveOats_23 : decode cX1_giveOats 23 = .ok (.return_, 1) := by decide +kernel
theorem dX1_giveShoes_0 : decode cX1_giveShoes 0 = .ok (.aload_n 0, 1) := by decide +kernel
theorem dX1_giveShoes_1 : decode cX1_giveShoes 1 = .ok (.dup, 1) := by decide +kernel
theorem dX1_giveShoes_2 : decode cX1_giveShoes 2 = .ok (.getfield 38, 3) := by decide +kernel
theorem dX1_giveShoes_5 : decode cX1_giveShoes 5 = .ok (.iconst 1, 1) := by decide +kernel
theorem dX1_giveShoes_6 : decode cX1_giveShoes 6 = .ok (.iload_n 1, 1) := by decide +kernel
theorem dX1_giveShoes_7 : decode cX1_giveShoes 7 = .ok (.ishl, 1) := by decide +kernel
theorem dX1_giveShoes_8 : decode cX1_giveShoes 8 = .ok (.iconst (-1), 1) := by decide +kernel
theorem dX1_giveShoes_9 : decode cX1_giveShoes 9 = .ok (.ixor, 1) := by decide +kernel
theorem dX1_giveShoes_10 : decode cX1_giveShoes 10 = .ok (.iand, 1) := by decide +kernel
theorem dX1_giveShoes_11 : decode cX1_giveShoes 11 = .ok (.putfield 38, 3) := by decide +kernel
theorem dX1_giveShoes_14 : decode cX1_giveShoes 14 = .ok (.aload_n 0, 1) := by decide +kernel
theorem dX1_giveShoes_15 : decode cX1_giveShoes 15 = .ok (.getfield 15, 3) := by decide +kernel
theorem dX1_giveShoes_18 : decode cX1_giveShoes 18 = .ok (.iload_n 1, 1) := by decide +kernel
theorem dX1_giveShoes_19 : decode cX1_giveShoes 19 = .ok (.iconst 5, 1) := by decide +kernel
theorem dX1_giveShoes_20 : decode cX1_giveShoes 20 = .ok (.iastore, 1) := by decide +kernel
theorem dX1_giveShoes_21 : decode cX1_giveShoes 21 = .ok (.return_, 1) := by decide +kernel
theorem dX1_healIfRested_0 : decode cX1_healIfRested 0 = .ok (.aload_n 0, 1) := by decide +kernel
theorem dX1_healIfRested_1 : decode cX1_healIfRested 1 = .ok (.getfield 15, 3) := by decide +kernel
theorem dX1_healIfRested_4 : decode cX1_healIfRested 4 = .ok (.iload_n 1, 1) := by decide +kernel
theorem dX1_healIfRested_5 : decode cX1_healIfRested 5 = .ok (.iaload, 1) := by decide +kernel
theorem dX1_healIfRested_6 : decode cX1_healIfRested 6 = .ok (.ifCond .ne 17, 3) := by decide +kernel
theorem dX1_healIfRested_9 : decode cX1_healIfRested 9 = .ok (.aload_n 0, 1) := by decide +kernel
theorem dX1_healIfRested_10 : decode cX1_healIfRested 10 = .ok (.dup, 1) := by decide +kernel
theorem dX1_healIfRested_11 : decode cX1_healIfRested 11 = .ok (.getfield 38, 3) := by decide +kernel
theorem dX1_healIfRested_14 : decode cX1_healIfRested 14 = .ok (.iconst 1, 1) := by decide +kernel
theorem dX1_healIfRested_15 : decode cX1_healIfRested 15 = .ok (.iload_n 1, 1) := by decide +kernel
theorem dX1_healIfRested_16 : decode cX1_healIfRested 16 = .ok (.ishl, 1) := by decide +kernel
theorem dX1_healIfRested_17 : decode cX1_healIfRested 17 = .ok (.iconst (-1), 1) := by decide +kernel
theorem dX1_healIfRested_18 : decode cX1_healIfRested 18 = .ok (.ixor, 1) := by decide +kernel
theorem dX1_healIfRested_19 : decode cX1_healIfRested 19 = .ok (.iand, 1) := by decide +kernel
theorem dX1_healIfRested_20 : decode cX1_healIfRested 20 = .ok (.putfield 38, 3) := by decide +kernel
theorem dX1_healIfRested_23 : decode cX1_healIfRested 23 = .ok (.return_, 1) := by decide +kernel
theorem dX1_chooseHour_0 : decode cX1_chooseHour 0 = .ok (.iload_n 2, 1) := by decide +kernel
theorem dX1_chooseHour_1 : decode cX1_chooseHour 1 = .ok (.aload_n 0, 1) := by decide +kernel
theorem dX1_chooseHour_2 : decode cX1_chooseHour 2 = .ok (.getfield 38, 3) := by decide +kernel
theorem dX1_chooseHour_5 : decode cX1_chooseHour 5 = .ok (.ior, 1) := by decide +kernel
theorem dX1_chooseHour_6 : decode cX1_chooseHour 6 = .ok (.istore_n 3, 1) := by decide +kernel
theorem dX1_chooseHour_7 : decode cX1_chooseHour 7 = .ok (.iconst (-1), 1) := by decide +kernel
theorem dX1_chooseHour_8 : decode cX1_chooseHour 8 = .ok (.istore 4, 2) := by decide +kernel
theorem dX1_chooseHour_10 : decode cX1_chooseHour 10 = .ok (.iconst 0, 1) := by decide +kernel
theorem dX1_chooseHour_11 : decode cX1_chooseHour 11 = .ok (.istore 5, 2) := by decide +kernel
theorem dX1_chooseHour_13 : decode cX1_chooseHour 13 = .ok (.iconst 0, 1) := by decide +kernel
theorem dX1_chooseHour_14 : decode cX1_chooseHour 14 = .ok (.istore 6, 2) := by decide +kernel
theorem dX1_chooseHour_16 : decode cX1_chooseHour 16 = .ok (.iload 6, 2) := by decide +kernel
theorem dX1_chooseHour_18 : decode cX1_chooseHour 18 = .ok (.aload_n 0, 1) := by decide +kernel
theorem dX1_chooseHour_19 : decode cX1_chooseHour 19 = .ok (.getfield 30, 3) := by decide +kernel
theorem dX1_chooseHour_22 : decode cX1_chooseHour 22 = .ok (.getfield 41, 3) := by decide +kernel
theorem dX1_chooseHour_25 : decode cX1_chooseHour 25 = .ok (.if_icmp .ge 93, 3) := by decide +kernel
theorem dX1_chooseHour_28 : decode cX1_chooseHour 28 = .ok (.aload_n 0, 1) := by decide +kernel
theorem dX1_chooseHour_29 : decode cX1_chooseHour 29 = .ok (.getfield 11, 3) := by decide +kernel
theorem dX1_chooseHour_32 : decode cX1_chooseHour 32 = .ok (.iload 6, 2) := by decide +kernel
theorem dX1_chooseHour_34 : decode cX1_chooseHour 34 = .ok (.iaload, 1) := by decide +kernel
theorem dX1_chooseHour_35 : decode cX1_chooseHour 35 = .ok (.aload_n 0, 1) := by decide +kernel
theorem dX1_chooseHour_36 : decode cX1_chooseHour 36 = .ok (.getfield 21, 3) := by decide +kernel
theorem dX1_chooseHour_39 : decode cX1_chooseHour 39 = .ok (.iload_n 1, 1) := by decide +kernel
theorem dX1_chooseHour_40 : decode cX1_chooseHour 40 = .ok (.iaload, 1) := by decide +kernel
theorem dX1_chooseHour_41 : decode cX1_chooseHour 41 = .ok (.if_icmp .ne 71, 3) := by decide +kernel
theorem dX1_chooseHour_44 : decode cX1_chooseHour 44 = .ok (.iload_n 3, 1) := by decide +kernel
theorem dX1_chooseHour_45 : decode cX1_chooseHour 45 = .ok (.iload 6, 2) := by decide +kernel
theorem dX1_chooseHour_47 : decode cX1_chooseHour 47 = .ok (.ishr, 1) := by decide +kernel
theorem dX1_chooseHour_48 : decode cX1_chooseHour 48 = .ok (.iconst 1, 1) := by decide +kernel
theorem dX1_chooseHour_49 : decode cX1_chooseHour 49 = .ok (.iand, 1) := by decide +kernel
theorem dX1_chooseHour_50 : decode cX1_chooseHour 50 = .ok (.ifCond .ne 62, 3) := by decide +kernel
theorem dX1_chooseHour_53 : decode cX1_chooseHour 53 = .ok (.aload_n 0, 1) := by decide +kernel
theorem dX1_chooseHour_54 : decode cX1_chooseHour 54 = .ok (.getfield 30, 3) := by decide +kernel
theorem dX1_chooseHour_57 : decode cX1_chooseHour 57 = .ok (.getfield 77, 3) := by decide +kernel
theorem dX1_chooseHour_60 : decode cX1_chooseHour 60 = .ok (.iload 6, 2) := by decide +kernel
theorem dX1_chooseHour_62 : decode cX1_chooseHour 62 = .ok (.iaload, 1) := by decide +kernel
theorem dX1_chooseHour_63 : decode cX1_chooseHour 63 = .ok (.invokestatic 80, 3) := by decide +kernel
theorem dX1_chooseHour_66 : decode cX1_chooseHour 66 = .ok (.ifCond .eq 13, 3) := by decide +kernel
theorem dX1_chooseHour_69 : decode cX1_chooseHour 69 = .ok (.aload_n 0, 1) := by decide +kernel
theorem dX1_chooseHour_70 : decode cX1_chooseHour 70 = .ok (.getfield 15, 3) := by decide +kernel
theorem dX1_chooseHour_73 : decode cX1_chooseHour 73 = .ok (.iload 6, 2) := by decide +kernel
theorem dX1_chooseHour_75 : decode cX1_chooseHour 75 = .ok (.iaload, 1) := by decide +kernel
theorem dX1_chooseHour_76 : decode cX1_chooseHour 76 = .ok (.goto 13, 3) := by decide +kernel
theorem dX1_chooseHour_79 : decode cX1_chooseHour 79 = .ok (.aload_n 0, 1) := by decide +kernel
theorem dX1_chooseHour_80 : decode cX1_chooseHour 80 = .ok (.getfield 15, 3) := by decide +kernel
theorem dX1_chooseHour_83 : decode cX1_chooseHour 83 = .ok (.iload 6, 2) := by decide +kernel
theorem dX1_chooseHour_85 : decode cX1_chooseHour 85 = .ok (.iaload, 1) := by decide +kernel
theorem dX1_chooseHour_86 : decode cX1_chooseHour 86 = .ok (.bipush 11, 2) := by decide +kernel
theorem dX1_chooseHour_88 : decode cX1_chooseHour 88 = .ok (.iadd, 1) := by decide +kernel
theorem dX1_chooseHour_89 : decode cX1_chooseHour 89 = .ok (.istore 7, 2) := by decide +kernel
theorem dX1_chooseHour_91 : decode cX1_chooseHour 91 = .ok (.iload 4, 2) := by decide +kernel
theorem dX1_chooseHour_93 : decode cX1_chooseHour 93 = .ok (.iconst (-1), 1) := by decide +kernel
theorem dX1_chooseHour_94 : decode cX1_chooseHour 94 = .ok (.if_icmp .eq 10, 3) := by decide +kernel
theorem dX1_chooseHour_97 : decode cX1_chooseHour 97 = .ok (.iload 7, 2) := by decide +kernel
theorem dX1_chooseHour_99 : decode cX1_chooseHour 99 = .ok (.iload 5, 2) := by decide +kernel
theorem dX1_chooseHour_101 : decode cX1_chooseHour 101 = .ok (.if_icmp .ge 11, 3) := by decide +kernel
theorem dX1_chooseHour_104 : decode cX1_chooseHour 104 = .ok (.iload 6, 2) := by decide +kernel
theorem dX1_chooseHour_106 : decode cX1_chooseHour 106 = .ok (.istore 4, 2) := by decide +kernel
theorem dX1_chooseHour_108 : decode cX1_chooseHour 108 = .ok (.iload 7, 2) := by decide +kernel
theorem dX1_chooseHour_110 : decode cX1_chooseHour 110 = .ok (.istore 5, 2) := by decide +kernel
theorem dX1_chooseHour_112 : decode cX1_chooseHour 112 = .ok (.iinc 6 1, 3) := by decide +kernel
theorem dX1_chooseHour_115 : decode cX1_chooseHour 115 = .ok (.goto (-99), 3) := by decide +kernel
theorem dX1_chooseHour_118 : decode cX1_chooseHour 118 = .ok (.iload 4, 2) := by decide +kernel
theorem dX1_chooseHour_120 : decode cX1_chooseHour 120 = .ok (.ireturn, 1) := by decide +kernel
theorem dX1_passStage_0 : decode cX1_passStage 0 = .ok (.iconst 0, 1) := by decide +kernel
theorem dX1_passStage_1 : decode cX1_passStage 1 = .ok (.istore_n 1, 1) := by decide +kernel
theorem dX1_passStage_2 : decode cX1_passStage 2 = .ok (.iconst 0, 1) := by decide +kernel
theorem dX1_passStage_3 : decode cX1_passStage 3 = .ok (.istore_n 2, 1) := by decide +kernel
theorem dX1_passStage_4 : decode cX1_passStage 4 = .ok (.iload_n 2, 1) := by decide +kernel
theorem dX1_passStage_5 : decode cX1_passStage 5 = .ok (.aload_n 0, 1) := by decide +kernel
theorem dX1_passStage_6 : decode cX1_passStage 6 = .ok (.getfield 30, 3) := by decide +kernel
theorem dX1_passStage_9 : decode cX1_passStage 9 = .ok (.getfield 50, 3) := by decide +kernel
theorem dX1_passStage_12 : decode cX1_passStage 12 = .ok (.if_icmp .ge 26, 3) := by decide +kernel
theorem dX1_passStage_15 : decode cX1_passStage 15 = .ok (.aload_n 0, 1) := by decide +kernel
theorem dX1_passStage_16 : decode cX1_passStage 16 = .ok (.iload_n 2, 1) := by decide +kernel
theorem dX1_passStage_17 : decode cX1_passStage 17 = .ok (.invokevirtual 63, 3) := by decide +kernel
theorem dX1_passStage_20 : decode cX1_passStage 20 = .ok (.ifCond .ne 12, 3) := by decide +kernel
theorem dX1_passStage_23 : decode cX1_passStage 23 = .ok (.iload_n 1, 1) := by decide +kernel
theorem dX1_passStage_24 : decode cX1_passStage 24 = .ok (.aload_n 0, 1) := by decide +kernel
theorem dX1_passStage_25 : decode cX1_passStage 25 = .ok (.iload_n 2, 1) := by decide +kernel
theorem dX1_passStage_26 : decode cX1_passStage 26 = .ok (.iload_n 1, 1) := by decide +kernel
theorem dX1_passStage_27 : decode cX1_passStage 27 = .ok (.invokevirtual 85, 3) := by decide +kernel
theorem dX1_passStage_30 : decode cX1_passStage 30 = .ok (.ior, 1) := by decide +kernel
theorem dX1_passStage_31 : decode cX1_passStage 31 = .ok (.istore_n 1, 1) := by decide +kernel
theorem dX1_passStage_32 : decode cX1_passStage 32 = .ok (.iinc 2 1, 3) := by decide +kernel
theorem dX1_passStage_35 : decode cX1_passStage 35 = .ok (.goto (-31), 3) := by decide +kernel
theorem dX1_passStage_38 : decode cX1_passStage 38 = .ok (.iconst 0, 1) := by decide +kernel
theorem dX1_passStage_39 : decode cX1_passStage 39 = .ok (.istore_n 2, 1) := by decide +kernel
theorem dX1_passStage_40 : decode cX1_passStage 40 = .ok (.iconst 0, 1) := by decide +kernel
theorem dX1_passStage_41 : decode cX1_passStage 41 = .ok (.istore_n 3, 1) := by decide +kernel
theorem dX1_passStage_42 : decode cX1_passStage 42 = .ok (.iload_n 3, 1) := by decide +kernel
theorem dX1_passStage_43 : decode cX1_passStage 43 = .ok (.aload_n 0, 1) := by decide +kernel
theorem dX1_passStage_44 : decode cX1_passStage 44 = .ok (.getfield 30, 3) := by decide +kernel
theorem dX1_passStage_47 : decode cX1_passStage 47 = .ok (.getfield 88, 3) := by decide +kernel
theorem dX1_passStage_50 : decode cX1_passStage 50 = .ok (.if_icmp .ge 20, 3) := by decide +kernel
theorem dX1_passStage_53 : decode cX1_passStage 53 = .ok (.iload_n 2, 1) := by decide +kernel
theorem dX1_passStage_54 : decode cX1_passStage 54 = .ok (.aload_n 0, 1) := by decide +kernel
theorem dX1_passStage_55 : decode cX1_passStage 55 = .ok (.iload_n 3, 1) := by decide +kernel
theorem dX1_passStage_56 : decode cX1_passStage 56 = .ok (.iload_n 1, 1) := by decide +kernel
theorem dX1_passStage_57 : decode cX1_passStage 57 = .ok (.iload_n 2, 1) := by decide +kernel
theorem dX1_passStage_58 : decode cX1_passStage 58 = .ok (.ior, 1) := by decide +kernel
theorem dX1_passStage_59 : decode cX1_passStage 59 = .ok (.invokevirtual 91, 3) := by decide +kernel
theorem dX1_passStage_62 : decode cX1_passStage 62 = .ok (.ior, 1) := by decide +kernel
theorem dX1_passStage_63 : decode cX1_passStage 63 = .ok (.istore_n 2, 1) := by decide +kernel
theorem dX1_passStage_64 : decode cX1_passStage 64 = .ok (.iinc 3 1, 3) := by decide +kernel
theorem dX1_passStage_67 : decode cX1_passStage 67 = .ok (.goto (-25), 3) := by decide +kernel
theorem dX1_passStage_70 : decode cX1_passStage 70 = .ok (.iconst 0, 1) := by decide +kernel
theorem dX1_passStage_71 : decode cX1_passStage 71 = .ok (.istore_n 3, 1) := by decide +kernel
theorem dX1_passStage_72 : decode cX1_passStage 72 = .ok (.iload_n 3, 1) := by decide +kernel
theorem dX1_passStage_73 : decode cX1_passStage 73 = .ok (.aload_n 0, 1) := by decide +kernel
theorem dX1_passStage_74 : decode cX1_passStage 74 = .ok (.getfield 30, 3) := by decide +kernel
theorem dX1_passStage_77 : decode cX1_passStage 77 = .ok (.getfield 41, 3) := by decide +kernel
theorem dX1_passStage_80 : decode cX1_passStage 80 = .ok (.if_icmp .ge 22, 3) := by decide +kernel
theorem dX1_passStage_83 : decode cX1_passStage 83 = .ok (.iload_n 1, 1) := by decide +kernel
theorem dX1_passStage_84 : decode cX1_passStage 84 = .ok (.iload_n 3, 1) := by decide +kernel
theorem dX1_passStage_85 : decode cX1_passStage 85 = .ok (.ishr, 1) := by decide +kernel
theorem dX1_passStage_86 : decode cX1_passStage 86 = .ok (.iconst 1, 1) := by decide +kernel
theorem dX1_passStage_87 : decode cX1_passStage 87 = .ok (.iand, 1) := by decide +kernel
theorem dX1_passStage_88 : decode cX1_passStage 88 = .ok (.ifCond .ne 8, 3) := by decide +kernel
theorem dX1_passStage_91 : decode cX1_passStage 91 = .ok (.aload_n 0, 1) := by decide +kernel
theorem dX1_passStage_92 : decode cX1_passStage 92 = .ok (.iload_n 3, 1) := by decide +kernel
theorem dX1_passStage_93 : decode cX1_passStage 93 = .ok (.invokevirtual 94, 3) := by decide +kernel
theorem dX1_passStage_96 : decode cX1_passStage 96 = .ok (.iinc 3 1, 3) := by decide +kernel
theorem dX1_passStage_99 : decode cX1_passStage 99 = .ok (.goto (-27), 3) := by decide +kernel
theorem dX1_passStage_102 : decode cX1_passStage 102 = .ok (.aload_n 0, 1) := by decide +kernel
theorem dX1_passStage_103 : decode cX1_passStage 103 = .ok (.dup, 1) := by decide +kernel
theorem dX1_passStage_104 : decode cX1_passStage 104 = .ok (.getfield 34, 3) := by decide +kernel
theorem dX1_passStage_107 : decode cX1_passStage 107 = .ok (.iconst 1, 1) := by decide +kernel
theorem dX1_passStage_108 : decode cX1_passStage 108 = .ok (.iadd, 1) := by decide +kernel
theorem dX1_passStage_109 : decode cX1_passStage 109 = .ok (.putfield 34, 3) := by decide +kernel
theorem dX1_passStage_112 : decode cX1_passStage 112 = .ok (.return_, 1) := by decide +kernel
theorem dX1_sendOff_0 : decode cX1_sendOff 0 = .ok (.aload_n 0, 1) := by decide +kernel
theorem dX1_sendOff_1 : decode cX1_sendOff 1 = .ok (.iload_n 1, 1) := by decide +kernel
theorem dX1_sendOff_2 : decode cX1_sendOff 2 = .ok (.iload_n 2, 1) := by decide +kernel
theorem dX1_sendOff_3 : decode cX1_sendOff 3 = .ok (.invokevirtual 97, 3) := by decide +kernel
theorem dX1_sendOff_6 : decode cX1_sendOff 6 = .ok (.istore_n 3, 1) := by decide +kernel
theorem dX1_sendOff_7 : decode cX1_sendOff 7 = .ok (.iload_n 3, 1) := by decide +kernel
theorem dX1_sendOff_8 : decode cX1_sendOff 8 = .ok (.iconst (-1), 1) := by decide +kernel
theorem dX1_sendOff_9 : decode cX1_sendOff 9 = .ok (.if_icmp .ne 15, 3) := by decide +kernel
theorem dX1_sendOff_12 : decode cX1_sendOff 12 = .ok (.aload_n 0, 1) := by decide +kernel
theorem dX1_sendOff_13 : decode cX1_sendOff 13 = .ok (.getfield 27, 3) := by decide +kernel
theorem dX1_sendOff_16 : decode cX1_sendOff 16 = .ok (.iload_n 1, 1) := by decide +kernel
theorem dX1_sendOff_17 : decode cX1_sendOff 17 = .ok (.dup2, 1) := by decide +kernel
theorem dX1_sendOff_18 : decode cX1_sendOff 18 = .ok (.iaload, 1) := by decide +kernel
theorem dX1_sendOff_19 : decode cX1_sendOff 19 = .ok (.iconst 1, 1) := by decide +kernel
theorem dX1_sendOff_20 : decode cX1_sendOff 20 = .ok (.iadd, 1) := by decide +kernel
theorem dX1_sendOff_21 : decode cX1_sendOff 21 = .ok (.iastore, 1) := by decide +kernel
theorem dX1_sendOff_22 : decode cX1_sendOff 22 = .ok (.iconst 0, 1) := by decide +kernel
theorem dX1_sendOff_23 : decode cX1_sendOff 23 = .ok (.ireturn, 1) := by decide +kernel
theorem dX1_sendOff_24 : decode cX1_sendOff 24 = .ok (.aload_n 0, 1) := by decide +kernel
theorem dX1_sendOff_25 : decode cX1_sendOff 25 = .ok (.getfield 18, 3) := by decide +kernel
theorem dX1_sendOff_28 : decode cX1_sendOff 28 = .ok (.iload_n 3, 1) := by decide +kernel
theorem dX1_sendOff_29 : decode cX1_sendOff 29 = .ok (.dup2, 1) := by decide +kernel
theorem dX1_sendOff_30 : decode cX1_sendOff 30 = .ok (.iaload, 1) := by decide +kernel
theorem dX1_sendOff_31 : decode cX1_sendOff 31 = .ok (.iconst 1, 1) := by decide +kernel
theorem dX1_sendOff_32 : decode cX1_sendOff 32 = .ok (.iadd, 1) := by decide +kernel
theorem dX1_sendOff_33 : decode cX1_sendOff 33 = .ok (.iastore, 1) := by decide +kernel
theorem dX1_sendOff_34 : decode cX1_sendOff 34 = .ok (.aload_n 0, 1) := by decide +kernel
theorem dX1_sendOff_35 : decode cX1_sendOff 35 = .ok (.getfield 30, 3) := by decide +kernel
theorem dX1_sendOff_38 : decode cX1_sendOff 38 = .ok (.getfield 77, 3) := by decide +kernel
theorem dX1_sendOff_41 : decode cX1_sendOff 41 = .ok (.iload_n 3, 1) := by decide +kernel
theorem dX1_sendOff_42 : decode cX1_sendOff 42 = .ok (.iaload, 1) := by decide +kernel
theorem dX1_sendOff_43 : decode cX1_sendOff 43 = .ok (.istore 4, 2) := by decide +kernel
theorem dX1_sendOff_45 : decode cX1_sendOff 45 = .ok (.iload 4, 2) := by decide +kernel
theorem dX1_sendOff_47 : decode cX1_sendOff 47 = .ok (.aload_n 0, 1) := by decide +kernel
theorem dX1_sendOff_48 : decode cX1_sendOff 48 = .ok (.getfield 18, 3) := by decide +kernel
theorem dX1_sendOff_51 : decode cX1_sendOff 51 = .ok (.iload_n 3, 1) := by decide +kernel
theorem dX1_sendOff_52 : decode cX1_sendOff 52 = .ok (.iaload, 1) := by decide +kernel
theorem dX1_sendOff_53 : decode cX1_sendOff 53 = .ok (.invokestatic 100, 3) := by decide +kernel
theorem dX1_sendOff_56 : decode cX1_sendOff 56 = .ok (.ifCond .eq 22, 3) := by decide +kernel
theorem dX1_sendOff_59 : decode cX1_sendOff 59 = .ok (.aload_n 0, 1) := by decide +kernel
theorem dX1_sendOff_60 : decode cX1_sendOff 60 = .ok (.getfield 27, 3) := by decide +kernel
theorem dX1_sendOff_63 : decode cX1_sendOff 63 = .ok (.iload_n 1, 1) := by decide +kernel
theorem dX1_sendOff_64 : decode cX1_sendOff 64 = .ok (.dup2, 1) := by decide +kernel
theorem dX1_sendOff_65 : decode cX1_sendOff 65 = .ok (.iaload, 1) := by decide +kernel
theorem dX1_sendOff_66 : decode cX1_sendOff 66 = .ok (.iconst 2, 1) := by decide +kernel
theorem dX1_sendOff_67 : decode cX1_sendOff 67 = .ok (.iadd, 1) := by decide +kernel
theorem dX1_sendOff_68 : decode cX1_sendOff 68 = .ok (.iastore, 1) := by decide +kernel
theorem dX1_sendOff_69 : decode cX1_sendOff 69 = .ok (.aload_n 0, 1) := by decide +kernel
theorem dX1_sendOff_70 : decode cX1_sendOff 70 = .ok (.iload_n 3, 1) := by decide +kernel
theorem dX1_sendOff_71 : decode cX1_sendOff 71 = .ok (.iconst 1, 1) := by decide +kernel
theorem dX1_sendOff_72 : decode cX1_sendOff 72 = .ok (.invokevirtual 104, 3) := by decide +kernel
theorem dX1_sendOff_75 : decode cX1_sendOff 75 = .ok (.goto 81, 3) := by decide +kernel
theorem dX1_sendOff_78 : decode cX1_sendOff 78 = .ok (.aload_n 0, 1) := by decide +kernel
theorem dX1_sendOff_79 : decode cX1_sendOff 79 = .ok (.getfield 21, 3) := by decide +kernel
theorem dX1_sendOff_82 : decode cX1_sendOff 82 = .ok (.iload_n 1, 1) := by decide +kernel
theorem dX1_sendOff_83 : decode cX1_sendOff 83 = .ok (.iaload, 1) := by decide +kernel
theorem dX1_sendOff_84 : decode cX1_sendOff 84 = .ok (.aload_n 0, 1) := by decide +kernel
theorem dX1_sendOff_85 : decode cX1_sendOff 85 = .ok (.getfield 24, 3) := by decide +kernel
theorem dX1_sendOff_88 : decode cX1_sendOff 88 = .ok (.iload_n 1, 1) := by decide +kernel
theorem dX1_sendOff_89 : decode cX1_sendOff 89 = .ok (.iaload, 1) := by decide +kernel
theorem dX1_sendOff_90 : decode cX1_sendOff 90 = .ok (.invokestatic 108, 3) := by decide +kernel
theorem dX1_sendOff_93 : decode cX1_sendOff 93 = .ok (.istore 5, 2) := by decide +kernel
theorem dX1_sendOff_95 : decode cX1_sendOff 95 = .ok (.aload_n 0, 1) := by decide +kernel
theorem dX1_sendOff_96 : decode cX1_sendOff 96 = .ok (.getfield 30, 3) := by decide +kernel
theorem dX1_sendOff_99 : decode cX1_sendOff 99 = .ok (.aload_n 0, 1) := by decide +kernel
theorem dX1_sendOff_100 : decode cX1_sendOff 100 = .ok (.getfield 21, 3) := by decide +kernel
theorem dX1_sendOff_103 : decode cX1_sendOff 103 = .ok (.iload_n 1, 1) := by decide +kernel
theorem dX1_sendOff_104 : decode cX1_sendOff 104 = .ok (.iaload, 1) := by decide +kernel
theorem dX1_sendOff_105 : decode cX1_sendOff 105 = .ok (.iload 5, 2) := by decide +kernel
theorem dX1_sendOff_107 : decode cX1_sendOff 107 = .ok (.invokevirtual 111, 3) := by decide +kernel
theorem dX1_sendOff_110 : decode cX1_sendOff 110 = .ok (.istore 6, 2) := by decide +kernel
theorem dX1_sendOff_112 : decode cX1_sendOff 112 = .ok (.aload_n 0, 1) := by decide +kernel
theorem dX1_sendOff_113 : decode cX1_sendOff 113 = .ok (.getfield 21, 3) := by decide +kernel
theorem dX1_sendOff_116 : decode cX1_sendOff 116 = .ok (.iload_n 1, 1) := by decide +kernel
theorem dX1_sendOff_117 : decode cX1_sendOff 117 = .ok (.iload 5, 2) := by decide +kernel
theorem dX1_sendOff_119 : decode cX1_sendOff 119 = .ok (.iastore, 1) := by decide +kernel
theorem dX1_sendOff_120 : decode cX1_sendOff 120 = .ok (.aload_n 0, 1) := by decide +kernel
theorem dX1_sendOff_121 : decode cX1_sendOff 121 = .ok (.getfield 11, 3) := by decide +kernel
theorem dX1_sendOff_124 : decode cX1_sendOff 124 = .ok (.iload_n 3, 1) := by decide +kernel
theorem dX1_sendOff_125 : decode cX1_sendOff 125 = .ok (.iload 5, 2) := by decide +kernel
theorem dX1_sendOff_127 : decode cX1_sendOff 127 = .ok (.iastore, 1) := by decide +kernel
theorem dX1_sendOff_128 : decode cX1_sendOff 128 = .ok (.aload_n 0, 1) := by decide +kernel
theorem dX1_sendOff_129 : decode cX1_sendOff 129 = .ok (.getfield 27, 3) := by decide +kernel
theorem dX1_sendOff_132 : decode cX1_sendOff 132 = .ok (.iload_n 1, 1) := by decide +kernel
theorem dX1_sendOff_133 : decode cX1_sendOff 133 = .ok (.dup2, 1) := by decide +kernel
theorem dX1_sendOff_134 : decode cX1_sendOff 134 = .ok (.iaload, 1) := by decide +kernel
theorem dX1_sendOff_135 : decode cX1_sendOff 135 = .ok (.iload 4, 2) := by decide +kernel
theorem dX1_sendOff_137 : decode cX1_sendOff 137 = .ok (.iload 6, 2) := by decide +kernel
theorem dX1_sendOff_139 : decode cX1_sendOff 139 = .ok (.invokestatic 114, 3) := by decide +kernel
theorem dX1_sendOff_142 : decode cX1_sendOff 142 = .ok (.iadd, 1) := by decide +kernel
theorem dX1_sendOff_143 : decode cX1_sendOff 143 = .ok (.iastore, 1) := by decide +kernel
theorem dX1_sendOff_144 : decode cX1_sendOff 144 = .ok (.aload_n 0, 1) := by decide +kernel
theorem dX1_sendOff_145 : decode cX1_sendOff 145 = .ok (.iload_n 3, 1) := by decide +kernel
theorem dX1_sendOff_146 : decode cX1_sendOff 146 = .ok (.iload 4, 2) := by decide +kernel
theorem dX1_sendOff_148 : decode cX1_sendOff 148 = .ok (.iload 6, 2) := by decide +kernel
theorem dX1_sendOff_150 : decode cX1_sendOff 150 = .ok (.invokestatic 117, 3) := by decide +kernel
theorem dX1_sendOff_153 : decode cX1_sendOff 153 = .ok (.invokevirtual 104, 3) := by decide +kernel
theorem dX1_sendOff_156 : decode cX1_sendOff 156 = .ok (.iconst 1, 1) := by decide +kernel
theorem dX1_sendOff_157 : decode cX1_sendOff 157 = .ok (.iload_n 3, 1) := by decide +kernel
theorem dX1_sendOff_158 : decode cX1_sendOff 158 = .ok (.ishl, 1) := by decide +kernel
theorem dX1_sendOff_159 : decode cX1_sendOff 159 = .ok (.ireturn, 1) := by decide +kernel
theorem dX1_tire_0 : decode cX1_tire 0 = .ok (.aload_n 0, 1) := by decide +kernel
theorem dX1_tire_1 : decode cX1_tire 1 = .ok (.getfield 15, 3) := by decide +kernel
theorem dX1_tire_4 : decode cX1_tire 4 = .ok (.iload_n 1, 1) := by decide +kernel
theorem dX1_tire_5 : decode cX1_tire 5 = .ok (.dup2, 1) := by decide +kernel
theorem dX1_tire_6 : decode cX1_tire 6 = .ok (.iaload, 1) := by decide +kernel
theorem dX1_tire_7 : decode cX1_tire 7 = .ok (.iload_n 2, 1) := by decide +kernel
theorem dX1_tire_8 : decode cX1_tire 8 = .ok (.iadd, 1) := by decide +kernel
theorem dX1_tire_9 : decode cX1_tire 9 = .ok (.iastore, 1) := by decide +kernel
theorem dX1_tire_10 : decode cX1_tire 10 = .ok (.aload_n 0, 1) := by decide +kernel
theorem dX1_tire_11 : decode cX1_tire 11 = .ok (.getfield 15, 3) := by decide +kernel
theorem dX1_tire_14 : decode cX1_tire 14 = .ok (.iload_n 1, 1) := by decide +kernel
theorem dX1_tire_15 : decode cX1_tire 15 = .ok (.iaload, 1) := by decide +kernel
theorem dX1_tire_16 : decode cX1_tire 16 = .ok (.bipush 10, 2) := by decide +kernel
theorem dX1_tire_18 : decode cX1_tire 18 = .ok (.if_icmp .lt 23, 3) := by decide +kernel
theorem dX1_tire_21 : decode cX1_tire 21 = .ok (.aload_n 0, 1) := by decide +kernel
theorem dX1_tire_22 : decode cX1_tire 22 = .ok (.getfield 15, 3) := by decide +kernel
theorem dX1_tire_25 : decode cX1_tire 25 = .ok (.iload_n 1, 1) := by decide +kernel
theorem dX1_tire_26 : decode cX1_tire 26 = .ok (.bipush 10, 2) := by decide +kernel
theorem dX1_tire_28 : decode cX1_tire 28 = .ok (.iastore, 1) := by decide +kernel
theorem dX1_tire_29 : decode cX1_tire 29 = .ok (.aload_n 0, 1) := by decide +kernel
theorem dX1_tire_30 : decode cX1_tire 30 = .ok (.dup, 1) := by decide +kernel
theorem dX1_tire_31 : decode cX1_tire 31 = .ok (.getfield 38, 3) := by decide +kernel
theorem dX1_tire_34 : decode cX1_tire 34 = .ok (.iconst 1, 1) := by decide +kernel
theorem dX1_tire_35 : decode cX1_tire 35 = .ok (.iload_n 1, 1) := by decide +kernel
theorem dX1_tire_36 : decode cX1_tire 36 = .ok (.ishl, 1) := by decide +kernel
theorem dX1_tire_37 : decode cX1_tire 37 = .ok (.ior, 1) := by decide +kernel
theorem dX1_tire_38 : decode cX1_tire 38 = .ok (.putfield 38, 3) := by decide +kernel
theorem dX1_tire_41 : decode cX1_tire 41 = .ok (.return_, 1) := by decide +kernel
theorem dX1_leadHome_0 : decode cX1_leadHome 0 = .ok (.iload_n 2, 1) := by decide +kernel
theorem dX1_leadHome_1 : decode cX1_leadHome 1 = .ok (.aload_n 0, 1) := by decide +kernel
theorem dX1_leadHome_2 : decode cX1_leadHome 2 = .ok (.getfield 38, 3) := by decide +kernel
theorem dX1_leadHome_5 : decode cX1_leadHome 5 = .ok (.ior, 1) := by decide +kernel
theorem dX1_leadHome_6 : decode cX1_leadHome 6 = .ok (.istore_n 3, 1) := by decide +kernel
theorem dX1_leadHome_7 : decode cX1_leadHome 7 = .ok (.iconst 0, 1) := by decide +kernel
theorem dX1_leadHome_8 : decode cX1_leadHome 8 = .ok (.istore 4, 2) := by decide +kernel
theorem dX1_leadHome_10 : decode cX1_leadHome 10 = .ok (.iload 4, 2) := by decide +kernel
theorem dX1_leadHome_12 : decode cX1_leadHome 12 = .ok (.aload_n 0, 1) := by decide +kernel
theorem dX1_leadHome_13 : decode cX1_leadHome 13 = .ok (.getfield 30, 3) := by decide +kernel
theorem dX1_leadHome_16 : decode cX1_leadHome 16 = .ok (.getfield 41, 3) := by decide +kernel
theorem dX1_leadHome_19 : decode cX1_leadHome 19 = .ok (.if_icmp .ge 69, 3) := by decide +kernel
theorem dX1_leadHome_22 : decode cX1_leadHome 22 = .ok (.aload_n 0, 1) := by decide +kernel
theorem dX1_leadHome_23 : decode cX1_leadHome 23 = .ok (.getfield 11, 3) := by decide +kernel
theorem dX1_leadHome_26 : decode cX1_leadHome 26 = .ok (.iload 4, 2) := by decide +kernel
theorem dX1_leadHome_28 : decode cX1_leadHome 28 = .ok (.iaload, 1) := by decide +kernel
theorem dX1_leadHome_29 : decode cX1_leadHome 29 = .ok (.iload_n 1, 1) := by decide +kernel
theorem dX1_leadHome_30 : decode cX1_leadHome 30 = .ok (.if_icmp .ne 52, 3) := by decide +kernel
theorem dX1_leadHome_33 : decode cX1_leadHome 33 = .ok (.aload_n 0, 1) := by decide +kernel
theorem dX1_leadHome_34 : decode cX1_leadHome 34 = .ok (.getfield 30, 3) := by decide +kernel
theorem dX1_leadHome_37 : decode cX1_leadHome 37 = .ok (.getfield 46, 3) := by decide +kernel
theorem dX1_leadHome_40 : decode cX1_leadHome 40 = .ok (.iload 4, 2) := by decide +kernel
theorem dX1_leadHome_42 : decode cX1_leadHome 42 = .ok (.iaload, 1) := by decide +kernel
theorem dX1_leadHome_43 : decode cX1_leadHome 43 = .ok (.iload_n 1, 1) := by decide +kernel
theorem dX1_leadHome_44 : decode cX1_leadHome 44 = .ok (.if_icmp .eq 38, 3) := by decide +kernel
theorem dX1_leadHome_47 : decode cX1_leadHome 47 = .ok (.iload_n 3, 1) := by decide +kernel
theorem dX1_leadHome_48 : decode cX1_leadHome 48 = .ok (.iload 4, 2) := by decide +kernel
theorem dX1_leadHome_50 : decode cX1_leadHome 50 = .ok (.ishr, 1) := by decide +kernel
theorem dX1_leadHome_51 : decode cX1_leadHome 51 = .ok (.iconst 1, 1) := by decide +kernel
theorem dX1_leadHome_52 : decode cX1_leadHome 52 = .ok (.iand, 1) := by decide +kernel
theorem dX1_leadHome_53 : decode cX1_leadHome 53 = .ok (.ifCond .ne 29, 3) := by decide +kernel
theorem dX1_leadHome_56 : decode cX1_leadHome 56 = .ok (.aload_n 0, 1) := by decide +kernel
theorem dX1_leadHome_57 : decode cX1_leadHome 57 = .ok (.getfield 11, 3) := by decide +kernel
theorem dX1_leadHome_60 : decode cX1_leadHome 60 = .ok (.iload 4, 2) := by decide +kernel
theorem dX1_leadHome_62 : decode cX1_leadHome 62 = .ok (.iload_n 1, 1) := by decide +kernel
theorem dX1_leadHome_63 : decode cX1_leadHome 63 = .ok (.aload_n 0, 1) := by decide +kernel
theorem dX1_leadHome_64 : decode cX1_leadHome 64 = .ok (.getfield 30, 3) := by decide +kernel
theorem dX1_leadHome_67 : decode cX1_leadHome 67 = .ok (.getfield 46, 3) := by decide +kernel
theorem dX1_leadHome_70 : decode cX1_leadHome 70 = .ok (.iload 4, 2) := by decide +kernel
theorem dX1_leadHome_72 : decode cX1_leadHome 72 = .ok (.iaload, 1) := by decide +kernel
theorem dX1_leadHome_73 : decode cX1_leadHome 73 = .ok (.invokestatic 108, 3) := by decide +kernel
theorem dX1_leadHome_76 : decode cX1_leadHome 76 = .ok (.iastore, 1) := by decide +kernel
theorem dX1_leadHome_77 : decode cX1_leadHome 77 = .ok (.iconst 1, 1) := by decide +kernel
theorem dX1_leadHome_78 : decode cX1_leadHome 78 = .ok (.iload 4, 2) := by decide +kernel
theorem dX1_leadHome_80 : decode cX1_leadHome 80 = .ok (.ishl, 1) := by decide +kernel
theorem dX1_leadHome_81 : decode cX1_leadHome 81 = .ok (.ireturn, 1) := by decide +kernel
theorem dX1_leadHome_82 : decode cX1_leadHome 82 = .ok (.iinc 4 1, 3) := by decide +kernel
theorem dX1_leadHome_85 : decode cX1_leadHome 85 = .ok (.goto (-75), 3) := by decide +kernel
theorem dX1_leadHome_88 : decode cX1_leadHome 88 = .ok (.iconst 0, 1) := by decide +kernel
theorem dX1_leadHome_89 : decode cX1_leadHome 89 = .ok (.ireturn, 1) := by decide +kernel
theorem dX1_rest_0 : decode cX1_rest 0 = .ok (.aload_n 0, 1) := by decide +kernel
theorem dX1_rest_1 : decode cX1_rest 1 = .ok (.iload_n 1, 1) := by decide +kernel
theorem dX1_rest_2 : decode cX1_rest 2 = .ok (.invokevirtual 120, 3) := by decide +kernel
theorem dX1_rest_5 : decode cX1_rest 5 = .ok (.ifCond .eq 7, 3) := by decide +kernel
theorem dX1_rest_8 : decode cX1_rest 8 = .ok (.iconst 1, 1) := by decide +kernel
theorem dX1_rest_9 : decode cX1_rest 9 = .ok (.goto 15, 3) := by decide +kernel
theorem dX1_rest_12 : decode cX1_rest 12 = .ok (.aload_n 0, 1) := by decide +kernel
theorem dX1_rest_13 : decode cX1_rest 13 = .ok (.getfield 30, 3) := by decide +kernel
theorem dX1_rest_16 : decode cX1_rest 16 = .ok (.getfield 77, 3) := by decide +kernel
theorem dX1_rest_19 : decode cX1_rest 19 = .ok (.iload_n 1, 1) := by decide +kernel
theorem dX1_rest_20 : decode cX1_rest 20 = .ok (.iaload, 1) := by decide +kernel
theorem dX1_rest_21 : decode cX1_rest 21 = .ok (.invokestatic 123, 3) := by decide +kernel
theorem dX1_rest_24 : decode cX1_rest 24 = .ok (.istore_n 2, 1) := by decide +kernel
theorem dX1_rest_25 : decode cX1_rest 25 = .ok (.aload_n 0, 1) := by decide +kernel
theorem dX1_rest_26 : decode cX1_rest 26 = .ok (.getfield 15, 3) := by decide +kernel
theorem dX1_rest_29 : decode cX1_rest 29 = .ok (.iload_n 1, 1) := by decide +kernel
theorem dX1_rest_30 : decode cX1_rest 30 = .ok (.iconst 0, 1) := by decide +kernel
theorem dX1_rest_31 : decode cX1_rest 31 = .ok (.aload_n 0, 1) := by decide +kernel
theorem dX1_rest_32 : decode cX1_rest 32 = .ok (.getfield 15, 3) := by decide +kernel
theorem dX1_rest_35 : decode cX1_rest 35 = .ok (.iload_n 1, 1) := by decide +kernel
theorem dX1_rest_36 : decode cX1_rest 36 = .ok (.iaload, 1) := by decide +kernel
theorem dX1_rest_37 : decode cX1_rest 37 = .ok (.iload_n 2, 1) := by decide +kernel
theorem dX1_rest_38 : decode cX1_rest 38 = .ok (.isub, 1) := by decide +kernel
theorem dX1_rest_39 : decode cX1_rest 39 = .ok (.invokestatic 67, 3) := by decide +kernel
theorem dX1_rest_42 : decode cX1_rest 42 = .ok (.iastore, 1) := by decide +kernel
theorem dX1_rest_43 : decode cX1_rest 43 = .ok (.aload_n 0, 1) := by decide +kernel
theorem dX1_rest_44 : decode cX1_rest 44 = .ok (.iload_n 1, 1) := by decide +kernel
theorem dX1_rest_45 : decode cX1_rest 45 = .ok (.invokevirtual 73, 3) := by decide +kernel
theorem dX1_rest_48 : decode cX1_rest 48 = .ok (.return_, 1) := by decide +kernel
theorem dX1_passUntilThere_0 : decode cX1_passUntilThere 0 = .ok (.iconst 0, 1) := by decide +kernel
theorem dX1_passUntilThere_1 : decode cX1_passUntilThere 1 = .ok (.istore_n 3, 1) := by decide +kernel
theorem dX1_passUntilThere_2 : decode cX1_passUntilThere 2 = .ok (.iload_n 3, 1) := by decide +kernel
theorem dX1_passUntilThere_3 : decode cX1_passUntilThere 3 = .ok (.iload_n 2, 1) := by decide +kernel
theorem dX1_passUntilThere_4 : decode cX1_passUntilThere 4 = .ok (.if_icmp .ge 23, 3) := by decide +kernel
theorem dX1_passUntilThere_7 : decode cX1_passUntilThere 7 = .ok (.aload_n 0, 1) := by decide +kernel
theorem dX1_passUntilThere_8 : decode cX1_passUntilThere 8 = .ok (.iload_n 1, 1) := by decide +kernel
theorem dX1_passUntilThere_9 : decode cX1_passUntilThere 9 = .ok (.invokevirtual 63, 3) := by decide +kernel
theorem dX1_passUntilThere_12 : decode cX1_passUntilThere 12 = .ok (.ifCond .eq 5, 3) := by decide +kernel
theorem dX1_passUntilThere_15 : decode cX1_passUntilThere 15 = .ok (.iload_n 3, 1) := by decide +kernel
theorem dX1_passUntilThere_16 : decode cX1_passUntilThere 16 = .ok (.ireturn, 1) := by decide +kernel
theorem dX1_passUntilThere_17 : decode cX1_passUntilThere 17 = .ok (.aload_n 0, 1) := by decide +kernel
theorem dX1_passUntilThere_18 : decode cX1_passUntilThere 18 = .ok (.invokevirtual 127, 3) := by decide +kernel
theorem dX1_passUntilThere_21 : decode cX1_passUntilThere 21 = .ok (.iinc 3 1, 3) := by decide +kernel
theorem dX1_passUntilThere_24 : decode cX1_passUntilThere 24 = .ok (.goto (-22), 3) := by decide +kernel
theorem dX1_passUntilThere_27 : decode cX1_passUntilThere 27 = .ok (.aload_n 0, 1) := by decide +kernel
theorem dX1_passUntilThere_28 : decode cX1_passUntilThere 28 = .ok (.iload_n 1, 1) := by decide +kernel
theorem dX1_passUntilThere_29 : decode cX1_passUntilThere 29 = .ok (.invokevirtual 63, 3) := by decide +kernel
theorem dX1_passUntilThere_32 : decode cX1_passUntilThere 32 = .ok (.ifCond .eq 7, 3) := by decide +kernel
theorem dX1_passUntilThere_35 : decode cX1_passUntilThere 35 = .ok (.iload_n 2, 1) := by decide +kernel
theorem dX1_passUntilThere_36 : decode cX1_passUntilThere 36 = .ok (.goto 4, 3) := by decide +kernel
theorem dX1_passUntilThere_39 : decode cX1_passUntilThere 39 = .ok (.iconst (-1), 1) := by decide +kernel
theorem dX1_passUntilThere_40 : decode cX1_passUntilThere 40 = .ok (.ireturn, 1) := by decide +kernel
theorem dX1_fastestRide_0 : decode cX1_fastestRide 0 = .ok (.iconst 0, 1) := by decide +kernel
theorem dX1_fastestRide_1 : decode cX1_fastestRide 1 = .ok (.istore_n 2, 1) := by decide +kernel
theorem dX1_fastestRide_2 : decode cX1_fastestRide 2 = .ok (.aload_n 0, 1) := by decide +kernel
theorem dX1_fastestRide_3 : decode cX1_fastestRide 3 = .ok (.getfield 21, 3) := by decide +kernel
theorem dX1_fastestRide_6 : decode cX1_fastestRide 6 = .ok (.iload_n 1, 1) := by decide +kernel
theorem dX1_fastestRide_7 : decode cX1_fastestRide 7 = .ok (.iaload, 1) := by decide +kernel
theorem dX1_fastestRide_8 : decode cX1_fastestRide 8 = .ok (.istore_n 3, 1) := by decide +kernel
theorem dX1_fastestRide_9 : decode cX1_fastestRide 9 = .ok (.iconst 0, 1) := by decide +kernel
theorem dX1_fastestRide_10 : decode cX1_fastestRide 10 = .ok (.istore 4, 2) := by decide +kernel
theorem dX1_fastestRide_12 : decode cX1_fastestRide 12 = .ok (.iload 4, 2) := by decide +kernel
theorem dX1_fastestRide_14 : decode cX1_fastestRide 14 = .ok (.bipush 6, 2) := by decide +kernel
theorem dX1_fastestRide_16 : decode cX1_fastestRide 16 = .ok (.if_icmp .ge 64, 3) := by decide +kernel
theorem dX1_fastestRide_19 : decode cX1_fastestRide 19 = .ok (.iload_n 3, 1) := by decide +kernel
theorem dX1_fastestRide_20 : decode cX1_fastestRide 20 = .ok (.aload_n 0, 1) := by decide +kernel
theorem dX1_fastestRide_21 : decode cX1_fastestRide 21 = .ok (.getfield 24, 3) := by decide +kernel
theorem dX1_fastestRide_24 : decode cX1_fastestRide 24 = .ok (.iload_n 1, 1) := by decide +kernel
theorem dX1_fastestRide_25 : decode cX1_fastestRide 25 = .ok (.iaload, 1) := by decide +kernel
theorem dX1_fastestRide_26 : decode cX1_fastestRide 26 = .ok (.if_icmp .eq 54, 3) := by decide +kernel
theorem dX1_fastestRide_29 : decode cX1_fastestRide 29 = .ok (.iload_n 3, 1) := by decide +kernel
theorem dX1_fastestRide_30 : decode cX1_fastestRide 30 = .ok (.aload_n 0, 1) := by decide +kernel
theorem dX1_fastestRide_31 : decode cX1_fastestRide 31 = .ok (.getfield 24, 3) := by decide +kernel
theorem dX1_fastestRide_34 : decode cX1_fastestRide 34 = .ok (.iload_n 1, 1) := by decide +kernel
theorem dX1_fastestRide_35 : decode cX1_fastestRide 35 = .ok (.iaload, 1) := by decide +kernel
theorem dX1_fastestRide_36 : decode cX1_fastestRide 36 = .ok (.invokestatic 108, 3) := by decide +kernel
theorem dX1_fastestRide_39 : decode cX1_fastestRide 39 = .ok (.istore 5, 2) := by decide +kernel
theorem dX1_fastestRide_41 : decode cX1_fastestRide 41 = .ok (.aload_n 0, 1) := by decide +kernel
theorem dX1_fastestRide_42 : decode cX1_fastestRide 42 = .ok (.iload_n 3, 1) := by decide +kernel
theorem dX1_fastestRide_43 : decode cX1_fastestRide 43 = .ok (.aload_n 0, 1) := by decide +kernel
theorem dX1_fastestRide_44 : decode cX1_fastestRide 44 = .ok (.getfield 30, 3) := by decide +kernel
theorem dX1_fastestRide_47 : decode cX1_fastestRide 47 = .ok (.iload_n 3, 1) := by decide +kernel
theorem dX1_fastestRide_48 : decode cX1_fastestRide 48 = .ok (.iload 5, 2) := by decide +kernel
theorem dX1_fastestRide_50 : decode cX1_fastestRide 50 = .ok (.invokevirtual 111, 3) := by decide +kernel
theorem dX1_fastestRide_53 : decode cX1_fastestRide 53 = .ok (.invokevirtual 130, 3) := by decide +kernel
theorem dX1_fastestRide_56 : decode cX1_fastestRide 56 = .ok (.istore 6, 2) := by decide +kernel
theorem dX1_fastestRide_58 : decode cX1_fastestRide 58 = .ok (.iload 6, 2) := by decide +kernel
theorem dX1_fastestRide_60 : decode cX1_fastestRide 60 = .ok (.iconst (-1), 1) := by decide +kernel
theorem dX1_fastestRide_61 : decode cX1_fastestRide 61 = .ok (.if_icmp .ne 5, 3) := by decide +kernel
theorem dX1_fastestRide_64 : decode cX1_fastestRide 64 = .ok (.iconst (-1), 1) := by decide +kernel
theorem dX1_fastestRide_65 : decode cX1_fastestRide 65 = .ok (.ireturn, 1) := by decide +kernel
theorem dX1_fastestRide_66 : decode cX1_fastestRide 66 = .ok (.iload_n 2, 1) := by decide +kernel
theorem dX1_fastestRide_67 : decode cX1_fastestRide 67 = .ok (.iload 6, 2) := by decide +kernel
theorem dX1_fastestRide_69 : decode cX1_fastestRide 69 = .ok (.iadd, 1) := by decide +kernel
theorem dX1_fastestRide_70 : decode cX1_fastestRide 70 = .ok (.istore_n 2, 1) := by decide +kernel
theorem dX1_fastestRide_71 : decode cX1_fastestRide 71 = .ok (.iload 5, 2) := by decide +kernel
theorem dX1_fastestRide_73 : decode cX1_fastestRide 73 = .ok (.istore_n 3, 1) := by decide +kernel
theorem dX1_fastestRide_74 : decode cX1_fastestRide 74 = .ok (.iinc 4 1, 3) := by decide +kernel
theorem dX1_fastestRide_77 : decode cX1_fastestRide 77 = .ok (.goto (-65), 3) := by decide +kernel
theorem dX1_fastestRide_80 : decode cX1_fastestRide 80 = .ok (.iload_n 2, 1) := by decide +kernel
theorem dX1_fastestRide_81 : decode cX1_fastestRide 81 = .ok (.ireturn, 1) := by decide +kernel
theorem dX1_leastTaken_0 : decode cX1_leastTaken 0 = .ok (.iconst (-1), 1) := by decide +kernel
theorem dX1_leastTaken_1 : decode cX1_leastTaken 1 = .ok (.istore_n 3, 1) := by decide +kernel
theorem dX1_leastTaken_2 : decode cX1_leastTaken 2 = .ok (.iconst 0, 1) := by decide +kernel
theorem dX1_leastTaken_3 : decode cX1_leastTaken 3 = .ok (.istore 4, 2) := by decide +kernel
theorem dX1_leastTaken_5 : decode cX1_leastTaken 5 = .ok (.iload 4, 2) := by decide +kernel
theorem dX1_leastTaken_7 : decode cX1_leastTaken 7 = .ok (.aload_n 0, 1) := by decide +kernel
theorem dX1_leastTaken_8 : decode cX1_leastTaken 8 = .ok (.getfield 30, 3) := by decide +kernel
theorem dX1_leastTaken_11 : decode cX1_leastTaken 11 = .ok (.getfield 41, 3) := by decide +kernel
theorem dX1_leastTaken_14 : decode cX1_leastTaken 14 = .ok (.if_icmp .ge 85, 3) := by decide +kernel
theorem dX1_leastTaken_17 : decode cX1_leastTaken 17 = .ok (.aload_n 0, 1) := by decide +kernel
theorem dX1_leastTaken_18 : decode cX1_leastTaken 18 = .ok (.getfield 30, 3) := by decide +kernel
theorem dX1_leastTaken_21 : decode cX1_leastTaken 21 = .ok (.getfield 77, 3) := by decide +kernel
theorem dX1_leastTaken_24 : decode cX1_leastTaken 24 = .ok (.iload 4, 2) := by decide +kernel
theorem dX1_leastTaken_26 : decode cX1_leastTaken 26 = .ok (.iaload, 1) := by decide +kernel
theorem dX1_leastTaken_27 : decode cX1_leastTaken 27 = .ok (.istore 5, 2) := by decide +kernel
theorem dX1_leastTaken_29 : decode cX1_leastTaken 29 = .ok (.aload_n 0, 1) := by decide +kernel
theorem dX1_leastTaken_30 : decode cX1_leastTaken 30 = .ok (.getfield 11, 3) := by decide +kernel
theorem dX1_leastTaken_33 : decode cX1_leastTaken 33 = .ok (.iload 4, 2) := by decide +kernel
theorem dX1_leastTaken_35 : decode cX1_leastTaken 35 = .ok (.iaload, 1) := by decide +kernel
theorem dX1_leastTaken_36 : decode cX1_leastTaken 36 = .ok (.iload_n 1, 1) := by decide +kernel
theorem dX1_leastTaken_37 : decode cX1_leastTaken 37 = .ok (.if_icmp .ne 56, 3) := by decide +kernel
theorem dX1_leastTaken_40 : decode cX1_leastTaken 40 = .ok (.aload_n 0, 1) := by decide +kernel
theorem dX1_leastTaken_41 : decode cX1_leastTaken 41 = .ok (.iload 4, 2) := by decide +kernel
theorem dX1_leastTaken_43 : decode cX1_leastTaken 43 = .ok (.invokevirtual 120, 3) := by decide +kernel
theorem dX1_leastTaken_46 : decode cX1_leastTaken 46 = .ok (.ifCond .ne 47, 3) := by decide +kernel
theorem dX1_leastTaken_49 : decode cX1_leastTaken 49 = .ok (.aload_n 0, 1) := by decide +kernel
theorem dX1_leastTaken_50 : decode cX1_leastTaken 50 = .ok (.getfield 15, 3) := by decide +kernel
theorem dX1_leastTaken_53 : decode cX1_leastTaken 53 = .ok (.iload 4, 2) := by decide +kernel
theorem dX1_leastTaken_55 : decode cX1_leastTaken 55 = .ok (.iaload, 1) := by decide +kernel
theorem dX1_leastTaken_56 : decode cX1_leastTaken 56 = .ok (.iload 5, 2) := by decide +kernel
theorem dX1_leastTaken_58 : decode cX1_leastTaken 58 = .ok (.iload_n 2, 1) := by decide +kernel
theorem dX1_leastTaken_59 : decode cX1_leastTaken 59 = .ok (.invokestatic 117, 3) := by decide +kernel
theorem dX1_leastTaken_62 : decode cX1_leastTaken 62 = .ok (.iadd, 1) := by decide +kernel
theorem dX1_leastTaken_63 : decode cX1_leastTaken 63 = .ok (.bipush 10, 2) := by decide +kernel
theorem dX1_leastTaken_65 : decode cX1_leastTaken 65 = .ok (.if_icmp .ge 28, 3) := by decide +kernel
theorem dX1_leastTaken_68 : decode cX1_leastTaken 68 = .ok (.iload 5, 2) := by decide +kernel
theorem dX1_leastTaken_70 : decode cX1_leastTaken 70 = .ok (.iload_n 2, 1) := by decide +kernel
theorem dX1_leastTaken_71 : decode cX1_leastTaken 71 = .ok (.invokestatic 114, 3) := by decide +kernel
theorem dX1_leastTaken_74 : decode cX1_leastTaken 74 = .ok (.istore 6, 2) := by decide +kernel
theorem dX1_leastTaken_76 : decode cX1_leastTaken 76 = .ok (.iload_n 3, 1) := by decide +kernel
theorem dX1_leastTaken_77 : decode cX1_leastTaken 77 = .ok (.iconst (-1), 1) := by decide +kernel
theorem dX1_leastTaken_78 : decode cX1_leastTaken 78 = .ok (.if_icmp .ne 8, 3) := by decide +kernel
theorem dX1_leastTaken_81 : decode cX1_leastTaken 81 = .ok (.iload 6, 2) := by decide +kernel
theorem dX1_leastTaken_83 : decode cX1_leastTaken 83 = .ok (.goto 9, 3) := by decide +kernel
theorem dX1_leastTaken_86 : decode cX1_leastTaken 86 = .ok (.iload_n 3, 1) := by decide +kernel
theorem dX1_leastTaken_87 : decode cX1_leastTaken 87 = .ok (.iload 6, 2) := by decide +kernel
theorem dX1_leastTaken_89 : decode cX1_leastTaken 89 = .ok (.invokestatic 133, 3) := by decide +kernel
theorem dX1_leastTaken_92 : decode cX1_leastTaken 92 = .ok (.istore_n 3, 1) := by decide +kernel
theorem dX1_leastTaken_93 : decode cX1_leastTaken 93 = .ok (.iinc 4 1, 3) := by decide +kernel
theorem dX1_leastTaken_96 : decode cX1_leastTaken 96 = .ok (.goto (-91), 3) := by decide +kernel
theorem dX1_leastTaken_99 : decode cX1_leastTaken 99 = .ok (.iload_n 3, 1) := by decide +kernel
theorem dX1_leastTaken_100 : decode cX1_leastTaken 100 = .ok (.ireturn, 1) := by decide +kernel
theorem dX2_takes_0 : decode cX2_takes 0 = .ok (.iload_n 0, 1) := by decide +kernel
theorem dX2_takes_1 : decode cX2_takes 1 = .ok (.tableswitch 37 2 4 #[27, 33, 33], 27) := by decide +kernel
theorem dX2_takes_28 : decode cX2_takes 28 = .ok (.iload_n 1, 1) := by decide +kernel
theorem dX2_takes_29 : decode cX2_takes 29 = .ok (.iconst 2, 1) := by decide +kernel
theorem dX2_takes_30 : decode cX2_takes 30 = .ok (.idiv, 1) := by decide +kernel
theorem dX2_takes_31 : decode cX2_takes 31 = .ok (.iconst 1, 1) := by decide +kernel
theorem dX2_takes_32 : decode cX2_takes 32 = .ok (.iadd, 1) := by decide +kernel
theorem dX2_takes_33 : decode cX2_takes 33 = .ok (.ireturn, 1) := by decide +kernel
theorem dX2_takes_34 : decode cX2_takes 34 = .ok (.iconst 2, 1) := by decide +kernel
theorem dX2_takes_35 : decode cX2_takes 35 = .ok (.iload_n 1, 1) := by decide +kernel
theorem dX2_takes_36 : decode cX2_takes 36 = .ok (.imul, 1) := by decide +kernel
theorem dX2_takes_37 : decode cX2_takes 37 = .ok (.ireturn, 1) := by decide +kernel
theorem dX2_takes_38 : decode cX2_takes 38 = .ok (.iload_n 1, 1) := by decide +kernel
theorem dX2_takes_39 : decode cX2_takes 39 = .ok (.ireturn, 1) := by decide +kernel
theorem dX2_tires_0 : decode cX2_tires 0 = .ok (.iload_n 0, 1) := by decide +kernel
theorem dX2_tires_1 : decode cX2_tires 1 = .ok (.tableswitch 35 2 4 #[27, 31, 33], 27) := by decide +kernel
theorem dX2_tires_28 : decode cX2_tires 28 = .ok (.iconst 2, 1) := by decide +kernel
theorem dX2_tires_29 : decode cX2_tires 29 = .ok (.iload_n 1, 1) := by decide +kernel
theorem dX2_tires_30 : decode cX2_tires 30 = .ok (.imul, 1) := by decide +kernel
theorem dX2_tires_31 : decode cX2_tires 31 = .ok (.ireturn, 1) := by decide +kernel
theorem dX2_tires_32 : decode cX2_tires 32 = .ok (.iconst 0, 1) := by decide +kernel
theorem dX2_tires_33 : decode cX2_tires 33 = .ok (.ireturn, 1) := by decide +kernel
theorem dX2_tires_34 : decode cX2_tires 34 = .ok (.iconst 1, 1) := by decide +kernel
theorem dX2_tires_35 : decode cX2_tires 35 = .ok (.ireturn, 1) := by decide +kernel
theorem dX2_tires_36 : decode cX2_tires 36 = .ok (.iload_n 1, 1) := by decide +kernel
theorem dX2_tires_37 : decode cX2_tires 37 = .ok (.ireturn, 1) := by decide +kernel
theorem dX2_rests_0 : decode cX2_rests 0 = .ok (.iload_n 0, 1) := by decide +kernel
theorem dX2_rests_1 : decode cX2_rests 1 = .ok (.tableswitch 35 1 4 #[31, 35, 33, 33], 31) := by decide +kernel
theorem dX2_rests_32 : decode cX2_rests 32 = .ok (.iconst 3, 1) := by decide +kernel
theorem dX2_rests_33 : decode cX2_rests 33 = .ok (.ireturn, 1) := by decide +kernel
theorem dX2_rests_34 : decode cX2_rests 34 = .ok (.iconst 1, 1) := by decide +kernel
theorem dX2_rests_35 : decode cX2_rests 35 = .ok (.ireturn, 1) := by decide +kernel
theorem dX2_rests_36 : decode cX2_rests 36 = .ok (.iconst 2, 1) := by decide +kernel
theorem dX2_rests_37 : decode cX2_rests 37 = .ok (.ireturn, 1) := by decide +kernel
theorem dX2_isWilling_0 : decode cX2_isWilling 0 = .ok (.iload_n 0, 1) := by decide +kernel
theorem dX2_isWilling_1 : decode cX2_isWilling 1 = .ok (.iconst 4, 1) := by decide +kernel
theorem dX2_isWilling_2 : decode cX2_isWilling 2 = .ok (.if_icmp .eq 7, 3) := by decide +kernel
theorem dX2_isWilling_5 : decode cX2_isWilling 5 = .ok (.iconst 1, 1) := by decide +kernel
theorem dX2_isWilling_6 : decode cX2_isWilling 6 = .ok (.goto 4, 3) := by decide +kernel
theorem dX2_isWilling_9 : decode cX2_isWilling 9 = .ok (.iconst 0, 1) := by decide +kernel
theorem dX2_isWilling_10 : decode cX2_isWilling 10 = .ok (.ireturn, 1) := by decide +kernel
theorem dX2_throwsOff_0 : decode cX2_throwsOff 0 = .ok (.iload_n 0, 1) := by decide +kernel
theorem dX2_throwsOff_1 : decode cX2_throwsOff 1 = .ok (.iconst 1, 1) := by decide +kernel
theorem dX2_throwsOff_2 : decode cX2_throwsOff 2 = .ok (.if_icmp .ne 13, 3) := by decide +kernel
theorem dX2_throwsOff_5 : decode cX2_throwsOff 5 = .ok (.iload_n 1, 1) := by decide +kernel
theorem dX2_throwsOff_6 : decode cX2_throwsOff 6 = .ok (.iconst 3, 1) := by decide +kernel
theorem dX2_throwsOff_7 : decode cX2_throwsOff 7 = .ok (.irem, 1) := by decide +kernel
theorem dX2_throwsOff_8 : decode cX2_throwsOff 8 = .ok (.ifCond .ne 7, 3) := by decide +kernel
theorem dX2_throwsOff_11 : decode cX2_throwsOff 11 = .ok (.iconst 1, 1) := by decide +kernel
theorem dX2_throwsOff_12 : decode cX2_throwsOff 12 = .ok (.goto 4, 3) := by decide +kernel
theorem dX2_throwsOff_15 : decode cX2_throwsOff 15 = .ok (.iconst 0, 1) := by decide +kernel
theorem dX2_throwsOff_16 : decode cX2_throwsOff 16 = .ok (.ireturn, 1) := by decide +kernel
theorem dX2_isUnder_0 : decode cX2_isUnder 0 = .ok (.iload_n 1, 1) := by decide +kernel
theorem dX2_isUnder_1 : decode cX2_isUnder 1 = .ok (.tableswitch 73 0 4 #[35, 37, 73, 73, 57], 35) := by decide +kernel
theorem dX2_isUnder_36 : decode cX2_isUnder 36 = .ok (.iconst 1, 1) := by decide +kernel
theorem dX2_isUnder_37 : decode cX2_isUnder 37 = .ok (.ireturn, 1) := by decide +kernel
theorem dX2_isUnder_38 : decode cX2_isUnder 38 = .ok (.iload_n 0, 1) := by decide +kernel
theorem dX2_isUnder_39 : decode cX2_isUnder 39 = .ok (.ifCond .eq 13, 3) := by decide +kernel
theorem dX2_isUnder_42 : decode cX2_isUnder 42 = .ok (.iload_n 0, 1) := by decide +kernel
theorem dX2_isUnder_43 : decode cX2_isUnder 43 = .ok (.iconst 1, 1) := by decide +kernel
theorem dX2_isUnder_44 : decode cX2_isUnder 44 = .ok (.if_icmp .eq 8, 3) := by decide +kernel
theorem dX2_isUnder_47 : decode cX2_isUnder 47 = .ok (.iload_n 0, 1) := by decide +kernel
theorem dX2_isUnder_48 : decode cX2_isUnder 48 = .ok (.iconst 2, 1) := by decide +kernel
theorem dX2_isUnder_49 : decode cX2_isUnder 49 = .ok (.if_icmp .ne 7, 3) := by decide +kernel
theorem dX2_isUnder_52 : decode cX2_isUnder 52 = .ok (.iconst 1, 1) := by decide +kernel
theorem dX2_isUnder_53 : decode cX2_isUnder 53 = .ok (.goto 4, 3) := by decide +kernel
theorem dX2_isUnder_56 : decode cX2_isUnder 56 = .ok (.iconst 0, 1) := by decide +kernel
theorem dX2_isUnder_57 : decode cX2_isUnder 57 = .ok (.ireturn, 1) := by decide +kernel
theorem dX2_isUnder_58 : decode cX2_isUnder 58 = .ok (.iload_n 0, 1) := by decide +kernel
theorem dX2_isUnder_59 : decode cX2_isUnder 59 = .ok (.iconst 3, 1) := by decide +kernel
theorem dX2_isUnder_60 : decode cX2_isUnder 60 = .ok (.if_icmp .eq 8, 3) := by decide +kernel
theorem dX2_isUnder_63 : decode cX2_isUnder 63 = .ok (.iload_n 0, 1) := by decide +kernel
theorem dX2_isUnder_64 : decode cX2_isUnder 64 = .ok (.iconst 4, 1) := by decide +kernel
theorem dX2_isUnder_65 : decode cX2_isUnder 65 = .ok (.if_icmp .ne 7, 3) := by decide +kernel
theorem dX2_isUnder_68 : decode cX2_isUnder 68 = .ok (.iconst 1, 1) := by decide +kernel
theorem dX2_isUnder_69 : decode cX2_isUnder 69 = .ok (.goto 4, 3) := by decide +kernel
theorem dX2_isUnder_72 : decode cX2_isUnder 72 = .ok (.iconst 0, 1) := by decide +kernel
theorem dX2_isUnder_73 : decode cX2_isUnder 73 = .ok (.ireturn, 1) := by decide +kernel
theorem dX2_isUnder_74 : decode cX2_isUnder 74 = .ok (.iload_n 0, 1) := by decide +kernel
theorem dX2_isUnder_75 : decode cX2_isUnder 75 = .ok (.iconst 1, 1) := by decide +kernel
theorem dX2_isUnder_76 : decode cX2_isUnder 76 = .ok (.iadd, 1) := by decide +kernel
theorem dX2_isUnder_77 : decode cX2_isUnder 77 = .ok (.iload_n 1, 1) := by decide +kernel
theorem dX2_isUnder_78 : decode cX2_isUnder 78 = .ok (.if_icmp .ne 7, 3) := by decide +kernel
theorem dX2_isUnder_81 : decode cX2_isUnder 81 = .ok (.iconst 1, 1) := by decide +kernel
theorem dX2_isUnder_82 : decode cX2_isUnder 82 = .ok (.goto 4, 3) := by decide +kernel
theorem dX2_isUnder_85 : decode cX2_isUnder 85 = .ok (.iconst 0, 1) := by decide +kernel
theorem dX2_isUnder_86 : decode cX2_isUnder 86 = .ok (.ireturn, 1) := by decide +kernel
theorem dX3_ofFalls_0 : decode cX3_ofFalls 0 = .ok (.lconst 0, 1) := by decide +kernel
theorem dX3_ofFalls_1 : decode cX3_ofFalls 1 = .ok (.lstore 4, 2) := by decide +kernel
theorem dX3_ofFalls_3 : decode cX3_ofFalls 3 = .ok (.iload_n 2, 1) := by decide +kernel
theorem dX3_ofFalls_4 : decode cX3_ofFalls 4 = .ok (.istore 6, 2) := by decide +kernel
theorem dX3_ofFalls_6 : decode cX3_ofFalls 6 = .ok (.iload 6, 2) := by decide +kernel
theorem dX3_ofFalls_8 : decode cX3_ofFalls 8 = .ok (.iload_n 0, 1) := by decide +kernel
theorem dX3_ofFalls_9 : decode cX3_ofFalls 9 = .ok (.if_icmp .gt 39, 3) := by decide +kernel
theorem dX3_ofFalls_12 : decode cX3_ofFalls 12 = .ok (.lload 4, 2) := by decide +kernel
theorem dX3_ofFalls_14 : decode cX3_ofFalls 14 = .ok (.iload_n 0, 1) := by decide +kernel
theorem dX3_ofFalls_15 : decode cX3_ofFalls 15 = .ok (.iload 6, 2) := by decide +kernel
theorem dX3_ofFalls_17 : decode cX3_ofFalls 17 = .ok (.invokestatic 7, 3) := by decide +kernel
theorem dX3_ofFalls_20 : decode cX3_ofFalls 20 = .ok (.iload_n 1, 1) := by decide +kernel
theorem dX3_ofFalls_21 : decode cX3_ofFalls 21 = .ok (.iload 6, 2) := by decide +kernel
theorem dX3_ofFalls_23 : decode cX3_ofFalls 23 = .ok (.invokestatic 13, 3) := by decide +kernel
theorem dX3_ofFalls_26 : decode cX3_ofFalls 26 = .ok (.lmul, 1) := by decide +kernel
theorem dX3_ofFalls_27 : decode cX3_ofFalls 27 = .ok (.bipush 10, 2) := by decide +kernel
theorem dX3_ofFalls_29 : decode cX3_ofFalls 29 = .ok (.iload_n 1, 1) := by decide +kernel
theorem dX3_ofFalls_30 : decode cX3_ofFalls 30 = .ok (.isub, 1) := by decide +kernel
theorem dX3_ofFalls_31 : decode cX3_ofFalls 31 = .ok (.iload_n 0, 1) := by decide +kernel
theorem dX3_ofFalls_32 : decode cX3_ofFalls 32 = .ok (.iload 6, 2) := by decide +kernel
theorem dX3_ofFalls_34 : decode cX3_ofFalls 34 = .ok (.isub, 1) := by decide +kernel
theorem dX3_ofFalls_35 : decode cX3_ofFalls 35 = .ok (.invokestatic 13, 3) := by decide +kernel
theorem dX3_ofFalls_38 : decode cX3_ofFalls 38 = .ok (.lmul, 1) := by decide +kernel
theorem dX3_ofFalls_39 : decode cX3_ofFalls 39 = .ok (.ladd, 1) := by decide +kernel
theorem dX3_ofFalls_40 : decode cX3_ofFalls 40 = .ok (.lstore 4, 2) := by decide +kernel
theorem dX3_ofFalls_42 : decode cX3_ofFalls 42 = .ok (.iinc 6 1, 3) := by decide +kernel
theorem dX3_ofFalls_45 : decode cX3_ofFalls 45 = .ok (.goto (-39), 3) := by decide +kernel
theorem dX3_ofFalls_48 : decode cX3_ofFalls 48 = .ok (.bipush 10, 2) := by decide +kernel
theorem dX3_ofFalls_50 : decode cX3_ofFalls 50 = .ok (.iload_n 0, 1) := by decide +kernel
theorem dX3_ofFalls_51 : decode cX3_ofFalls 51 = .ok (.invokestatic 13, 3) := by decide +kernel
theorem dX3_ofFalls_54 : decode cX3_ofFalls 54 = .ok (.lstore 6, 2) := by decide +kernel
theorem dX3_ofFalls_56 : decode cX3_ofFalls 56 = .ok (.iconst 0, 1) := by decide +kernel
theorem dX3_ofFalls_57 : decode cX3_ofFalls 57 = .ok (.istore 8, 2) := by decide +kernel
theorem dX3_ofFalls_59 : decode cX3_ofFalls 59 = .ok (.iload 8, 2) := by decide +kernel
theorem dX3_ofFalls_61 : decode cX3_ofFalls 61 = .ok (.iload_n 0, 1) := by decide +kernel
theorem dX3_ofFalls_62 : decode cX3_ofFalls 62 = .ok (.if_icmp .ge 85, 3) := by decide +kernel
theorem dX3_ofFalls_65 : decode cX3_ofFalls 65 = .ok (.lload 4, 2) := by decide +kernel
theorem dX3_ofFalls_67 : decode cX3_ofFalls 67 = .ok (.ldc2_w 16, 3) := by decide +kernel
theorem dX3_ofFalls_70 : decode cX3_ofFalls 70 = .ok (.lrem, 1) := by decide +kernel
theorem dX3_ofFalls_71 : decode cX3_ofFalls 71 = .ok (.lconst 0, 1) := by decide +kernel
theorem dX3_ofFalls_72 : decode cX3_ofFalls 72 = .ok (.lcmp, 1) := by decide +kernel
theorem dX3_ofFalls_73 : decode cX3_ofFalls 73 = .ok (.ifCond .ne 30, 3) := by decide +kernel
theorem dX3_ofFalls_76 : decode cX3_ofFalls 76 = .ok (.lload 6, 2) := by decide +kernel
theorem dX3_ofFalls_78 : decode cX3_ofFalls 78 = .ok (.ldc2_w 16, 3) := by decide +kernel
theorem dX3_ofFalls_81 : decode cX3_ofFalls 81 = .ok (.lrem, 1) := by decide +kernel
theorem dX3_ofFalls_82 : decode cX3_ofFalls 82 = .ok (.lconst 0, 1) := by decide +kernel
theorem dX3_ofFalls_83 : decode cX3_ofFalls 83 = .ok (.lcmp, 1) := by decide +kernel
theorem dX3_ofFalls_84 : decode cX3_ofFalls 84 = .ok (.ifCond .ne 19, 3) := by decide +kernel
theorem dX3_ofFalls_87 : decode cX3_ofFalls 87 = .ok (.lload 4, 2) := by decide +kernel
theorem dX3_ofFalls_89 : decode cX3_ofFalls 89 = .ok (.ldc2_w 16, 3) := by decide +kernel
theorem dX3_ofFalls_92 : decode cX3_ofFalls 92 = .ok (.ldiv, 1) := by decide +kernel
theorem dX3_ofFalls_93 : decode cX3_ofFalls 93 = .ok (.lstore 4, 2) := by decide +kernel
theorem dX3_ofFalls_95 : decode cX3_ofFalls 95 = .ok (.lload 6, 2) := by decide +kernel
theorem dX3_ofFalls_97 : decode cX3_ofFalls 97 = .ok (.ldc2_w 16, 3) := by decide +kernel
theorem dX3_ofFalls_100 : decode cX3_ofFalls 100 = .ok (.ldiv, 1) := by decide +kernel
theorem dX3_ofFalls_101 : decode cX3_ofFalls 101 = .ok (.lstore 6, 2) := by decide +kernel
theorem dX3_ofFalls_103 : decode cX3_ofFalls 103 = .ok (.lload 4, 2) := by decide +kernel
theorem dX3_ofFalls_105 : decode cX3_ofFalls 105 = .ok (.ldc2_w 18, 3) := by decide +kernel
theorem dX3_ofFalls_108 : decode cX3_ofFalls 108 = .ok (.lrem, 1) := by decide +kernel
theorem dX3_ofFalls_109 : decode cX3_ofFalls 109 = .ok (.lconst 0, 1) := by decide +kernel
theorem dX3_ofFalls_110 : decode cX3_ofFalls 110 = .ok (.lcmp, 1) := by decide +kernel
theorem dX3_ofFalls_111 : decode cX3_ofFalls 111 = .ok (.ifCond .ne 30, 3) := by decide +kernel
theorem dX3_ofFalls_114 : decode cX3_ofFalls 114 = .ok (.lload 6, 2) := by decide +kernel
theorem dX3_ofFalls_116 : decode cX3_ofFalls 116 = .ok (.ldc2_w 18, 3) := by decide +kernel
theorem dX3_ofFalls_119 : decode cX3_ofFalls 119 = .ok (.lrem, 1) := by decide +kernel
theorem dX3_ofFalls_120 : decode cX3_ofFalls 120 = .ok (.lconst 0, 1) := by decide +kernel
theorem dX3_ofFalls_121 : decode cX3_ofFalls 121 = .ok (.lcmp, 1) := by decide +kernel
theorem dX3_ofFalls_122 : decode cX3_ofFalls 122 = .ok (.ifCond .ne 19, 3) := by decide +kernel
theorem dX3_ofFalls_125 : decode cX3_ofFalls 125 = .ok (.lload 4, 2) := by decide +kernel
theorem dX3_ofFalls_127 : decode cX3_ofFalls 127 = .ok (.ldc2_w 18, 3) := by decide +kernel
theorem dX3_ofFalls_130 : decode cX3_ofFalls 130 = .ok (.ldiv, 1) := by decide +kernel
theorem dX3_ofFalls_131 : decode cX3_ofFalls 131 = .ok (.lstore 4, 2) := by decide +kernel
theorem dX3_ofFalls_133 : decode cX3_ofFalls 133 = .ok (.lload 6, 2) := by decide +kernel
theorem dX3_ofFalls_135 : decode cX3_ofFalls 135 = .ok (.ldc2_w 18, 3) := by decide +kernel
theorem dX3_ofFalls_138 : decode cX3_ofFalls 138 = .ok (.ldiv, 1) := by decide +kernel
theorem dX3_ofFalls_139 : decode cX3_ofFalls 139 = .ok (.lstore 6, 2) := by decide +kernel
theorem dX3_ofFalls_141 : decode cX3_ofFalls 141 = .ok (.iinc 8 1, 3) := by decide +kernel
theorem dX3_ofFalls_144 : decode cX3_ofFalls 144 = .ok (.goto (-85), 3) := by decide +kernel
theorem dX3_ofFalls_147 : decode cX3_ofFalls 147 = .ok (.iload_n 3, 1) := by decide +kernel
theorem dX3_ofFalls_148 : decode cX3_ofFalls 148 = .ok (.ifCond .ne 8, 3) := by decide +kernel
theorem dX3_ofFalls_151 : decode cX3_ofFalls 151 = .ok (.lload 4, 2) := by decide +kernel
theorem dX3_ofFalls_153 : decode cX3_ofFalls 153 = .ok (.goto 5, 3) := by decide +kernel
theorem dX3_ofFalls_156 : decode cX3_ofFalls 156 = .ok (.lload 6, 2) := by decide +kernel
theorem dX3_ofFalls_158 : decode cX3_ofFalls 158 = .ok (.l2i, 1) := by decide +kernel
theorem dX3_ofFalls_159 : decode cX3_ofFalls 159 = .ok (.ireturn, 1) := by decide +kernel
theorem dX3_ways_0 : decode cX3_ways 0 = .ok (.lconst 1, 1) := by decide +kernel
theorem dX3_ways_1 : decode cX3_ways 1 = .ok (.lstore_n 2, 1) := by decide +kernel
theorem dX3_ways_2 : decode cX3_ways 2 = .ok (.iconst 0, 1) := by decide +kernel
theorem dX3_ways_3 : decode cX3_ways 3 = .ok (.istore 4, 2) := by decide +kernel
theorem dX3_ways_5 : decode cX3_ways 5 = .ok (.iload 4, 2) := by decide +kernel
theorem dX3_ways_7 : decode cX3_ways 7 = .ok (.iload_n 1, 1) := by decide +kernel
theorem dX3_ways_8 : decode cX3_ways 8 = .ok (.if_icmp .ge 23, 3) := by decide +kernel
theorem dX3_ways_11 : decode cX3_ways 11 = .ok (.lload_n 2, 1) := by decide +kernel
theorem dX3_ways_12 : decode cX3_ways 12 = .ok (.iload_n 0, 1) := by decide +kernel
theorem dX3_ways_13 : decode cX3_ways 13 = .ok (.iload 4, 2) := by decide +kernel
theorem dX3_ways_15 : decode cX3_ways 15 = .ok (.isub, 1) := by decide +kernel
theorem dX3_ways_16 : decode cX3_ways 16 = .ok (.i2l, 1) := by decide +kernel
theorem dX3_ways_17 : decode cX3_ways 17 = .ok (.lmul, 1) := by decide +kernel
theorem dX3_ways_18 : decode cX3_ways 18 = .ok (.iload 4, 2) := by decide +kernel
theorem dX3_ways_20 : decode cX3_ways 20 = .ok (.iconst 1, 1) := by decide +kernel
theorem dX3_ways_21 : decode cX3_ways 21 = .ok (.iadd, 1) := by decide +kernel
theorem dX3_ways_22 : decode cX3_ways 22 = .ok (.i2l, 1) := by decide +kernel
theorem dX3_ways_23 : decode cX3_ways 23 = .ok (.ldiv, 1) := by decide +kernel
theorem dX3_ways_24 : decode cX3_ways 24 = .ok (.lstore_n 2, 1) := by decide +kernel
theorem dX3_ways_25 : decode cX3_ways 25 = .ok (.iinc 4 1, 3) := by decide +kernel
theorem dX3_ways_28 : decode cX3_ways 28 = .ok (.goto (-23), 3) := by decide +kernel
theorem dX3_ways_31 : decode cX3_ways 31 = .ok (.lload_n 2, 1) := by decide +kernel
theorem dX3_ways_32 : decode cX3_ways 32 = .ok (.lreturn, 1) := by decide +kernel
theorem dX3_power_0 : decode cX3_power 0 = .ok (.lconst 1, 1) := by decide +kernel
theorem dX3_power_1 : decode cX3_power 1 = .ok (.lstore_n 2, 1) := by decide +kernel
theorem dX3_power_2 : decode cX3_power 2 = .ok (.iconst 0, 1) := by decide +kernel
theorem dX3_power_3 : decode cX3_power 3 = .ok (.istore 4, 2) := by decide +kernel
theorem dX3_power_5 : decode cX3_power 5 = .ok (.iload 4, 2) := by decide +kernel
theorem dX3_power_7 : decode cX3_power 7 = .ok (.iload_n 1, 1) := by decide +kernel
theorem dX3_power_8 : decode cX3_power 8 = .ok (.if_icmp .ge 14, 3) := by decide +kernel
theorem dX3_power_11 : decode cX3_power 11 = .ok (.lload_n 2, 1) := by decide +kernel
theorem dX3_power_12 : decode cX3_power 12 = .ok (.iload_n 0, 1) := by decide +kernel
theorem dX3_power_13 : decode cX3_power 13 = .ok (.i2l, 1) := by decide +kernel
theorem dX3_power_14 : decode cX3_power 14 = .ok (.lmul, 1) := by decide +kernel
theorem dX3_power_15 : decode cX3_power 15 = .ok (.lstore_n 2, 1) := by decide +kernel
theorem dX3_power_16 : decode cX3_power 16 = .ok (.iinc 4 1, 3) := by decide +kernel
theorem dX3_power_19 : decode cX3_power 19 = .ok (.goto (-14), 3) := by decide +kernel
theorem dX3_power_22 : decode cX3_power 22 = .ok (.lload_n 2, 1) := by decide +kernel
theorem dX3_power_23 : decode cX3_power 23 = .ok (.lreturn, 1) := by decide +kernel
theorem dX4_init_0 : decode cX4_init 0 = .ok (.aload_n 0, 1) := by decide +kernel
theorem dX4_init_1 : decode cX4_init 1 = .ok (.invokespecial 3, 3) := by decide +kernel
theorem dX4_init_4 : decode cX4_init 4 = .ok (.aload_n 0, 1) := by decide +kernel
theorem dX4_init_5 : decode cX4_init 5 = .ok (.iconst 4, 1) := by decide +kernel
theorem dX4_init_6 : decode cX4_init 6 = .ok (.newarray .int, 2) := by decide +kernel
theorem dX4_init_8 : decode cX4_init 8 = .ok (.putfield 9, 3) := by decide +kernel
theorem dX4_init_11 : decode cX4_init 11 = .ok (.aload_n 0, 1) := by decide +kernel
theorem dX4_init_12 : decode cX4_init 12 = .ok (.iconst 4, 1) := by decide +kernel
theorem dX4_init_13 : decode cX4_init 13 = .ok (.newarray .int, 2) := by decide +kernel
theorem dX4_init_15 : decode cX4_init 15 = .ok (.putfield 15, 3) := by decide +kernel
theorem dX4_init_18 : decode cX4_init 18 = .ok (.return_, 1) := by decide +kernel
theorem dX4_pair_0 : decode cX4_pair 0 = .ok (.aload_n 0, 1) := by decide +kernel
theorem dX4_pair_1 : decode cX4_pair 1 = .ok (.iconst 0, 1) := by decide +kernel
theorem dX4_pair_2 : decode cX4_pair 2 = .ok (.putfield 18, 3) := by decide +kernel
theorem dX4_pair_5 : decode cX4_pair 5 = .ok (.aload_n 0, 1) := by decide +kernel
theorem dX4_pair_6 : decode cX4_pair 6 = .ok (.iconst 0, 1) := by decide +kernel
theorem dX4_pair_7 : decode cX4_pair 7 = .ok (.putfield 22, 3) := by decide +kernel
theorem dX4_pair_10 : decode cX4_pair 10 = .ok (.aload_n 0, 1) := by decide +kernel
theorem dX4_pair_11 : decode cX4_pair 11 = .ok (.aload_n 1, 1) := by decide +kernel
theorem dX4_pair_12 : decode cX4_pair 12 = .ok (.iconst 0, 1) := by decide +kernel
theorem dX4_pair_13 : decode cX4_pair 13 = .ok (.iconst 0, 1) := by decide +kernel
theorem dX4_pair_14 : decode cX4_pair 14 = .ok (.iconst 0, 1) := by decide +kernel
theorem dX4_pair_15 : decode cX4_pair 15 = .ok (.invokestatic 26, 3) := by decide +kernel
theorem dX4_pair_18 : decode cX4_pair 18 = .ok (.return_, 1) := by decide +kernel
theorem dX4_pairFrom_0 : decode cX4_pairFrom 0 = .ok (.aload_n 0, 1) := by decide +kernel
theorem dX4_pairFrom_1 : decode cX4_pairFrom 1 = .ok (.getfield 18, 3) := by decide +kernel
theorem dX4_pairFrom_4 : decode cX4_pairFrom 4 = .ok (.ifCond .eq 13, 3) := by decide +kernel
theorem dX4_pairFrom_7 : decode cX4_pairFrom 7 = .ok (.iload 4, 2) := by decide +kernel
theorem dX4_pairFrom_9 : decode cX4_pairFrom 9 = .ok (.aload_n 0, 1) := by decide +kernel
theorem dX4_pairFrom_10 : decode cX4_pairFrom 10 = .ok (.getfield 22, 3) := by decide +kernel
theorem dX4_pairFrom_13 : decode cX4_pairFrom 13 = .ok (.if_icmp .lt 4, 3) := by decide +kernel
theorem dX4_pairFrom_16 : decode cX4_pairFrom 16 = .ok (.return_, 1) := by decide +kernel
theorem dX4_pairFrom_17 : decode cX4_pairFrom 17 = .ok (.iload_n 2, 1) := by decide +kernel
theorem dX4_pairFrom_18 : decode cX4_pairFrom 18 = .ok (.aload_n 1, 1) := by decide +kernel
theorem dX4_pairFrom_19 : decode cX4_pairFrom 19 = .ok (.getfield 30, 3) := by decide +kernel
theorem dX4_pairFrom_22 : decode cX4_pairFrom 22 = .ok (.getfield 36, 3) := by decide +kernel
theorem dX4_pairFrom_25 : decode cX4_pairFrom 25 = .ok (.if_icmp .ge 8, 3) := by decide +kernel
theorem dX4_pairFrom_28 : decode cX4_pairFrom 28 = .ok (.iload_n 2, 1) := by decide +kernel
theorem dX4_pairFrom_29 : decode cX4_pairFrom 29 = .ok (.iconst 4, 1) := by decide +kernel
theorem dX4_pairFrom_30 : decode cX4_pairFrom 30 = .ok (.if_icmp .lt 10, 3) := by decide +kernel
theorem dX4_pairFrom_33 : decode cX4_pairFrom 33 = .ok (.aload_n 0, 1) := by decide +kernel
theorem dX4_pairFrom_34 : decode cX4_pairFrom 34 = .ok (.iload 4, 2) := by decide +kernel
theorem dX4_pairFrom_36 : decode cX4_pairFrom 36 = .ok (.invokevirtual 41, 3) := by decide +kernel
theorem dX4_pairFrom_39 : decode cX4_pairFrom 39 = .ok (.return_, 1) := by decide +kernel
theorem dX4_pairFrom_40 : decode cX4_pairFrom 40 = .ok (.aload_n 1, 1) := by decide +kernel
theorem dX4_pairFrom_41 : decode cX4_pairFrom 41 = .ok (.iload_n 2, 1) := by decide +kernel
theorem dX4_pairFrom_42 : decode cX4_pairFrom 42 = .ok (.invokevirtual 45, 3) := by decide +kernel
theorem dX4_pairFrom_45 : decode cX4_pairFrom 45 = .ok (.ifCond .eq 22, 3) := by decide +kernel
theorem dX4_pairFrom_48 : decode cX4_pairFrom 48 = .ok (.aload_n 0, 1) := by decide +kernel
theorem dX4_pairFrom_49 : decode cX4_pairFrom 49 = .ok (.getfield 9, 3) := by decide +kernel
theorem dX4_pairFrom_52 : decode cX4_pairFrom 52 = .ok (.iload_n 2, 1) := by decide +kernel
theorem dX4_pairFrom_53 : decode cX4_pairFrom 53 = .ok (.iconst (-1), 1) := by decide +kernel
theorem dX4_pairFrom_54 : decode cX4_pairFrom 54 = .ok (.iastore, 1) := by decide +kernel
theorem dX4_pairFrom_55 : decode cX4_pairFrom 55 = .ok (.aload_n 0, 1) := by decide +kernel
theorem dX4_pairFrom_56 : decode cX4_pairFrom 56 = .ok (.aload_n 1, 1) := by decide +kernel
theorem dX4_pairFrom_57 : decode cX4_pairFrom 57 = .ok (.iload_n 2, 1) := by decide +kernel
theorem dX4_pairFrom_58 : decode cX4_pairFrom 58 = .ok (.iconst 1, 1) := by decide +kernel
theorem dX4_pairFrom_59 : decode cX4_pairFrom 59 = .ok (.iadd, 1) := by decide +kernel
theorem dX4_pairFrom_60 : decode cX4_pairFrom 60 = .ok (.iload_n 3, 1) := by decide +kernel
theorem dX4_pairFrom_61 : decode cX4_pairFrom 61 = .ok (.iload 4, 2) := by decide +kernel
theorem dX4_pairFrom_63 : decode cX4_pairFrom 63 = .ok (.invokestatic 26, 3) := by decide +kernel
theorem dX4_pairFrom_66 : decode cX4_pairFrom 66 = .ok (.return_, 1) := by decide +kernel
theorem dX4_pairFrom_67 : decode cX4_pairFrom 67 = .ok (.aload_n 1, 1) := by decide +kernel
theorem dX4_pairFrom_68 : decode cX4_pairFrom 68 = .ok (.getfield 49, 3) := by decide +kernel
theorem dX4_pairFrom_71 : decode cX4_pairFrom 71 = .ok (.iload_n 2, 1) := by decide +kernel
theorem dX4_pairFrom_72 : decode cX4_pairFrom 72 = .ok (.iaload, 1) := by decide +kernel
theorem dX4_pairFrom_73 : decode cX4_pairFrom 73 = .ok (.istore 5, 2) := by decide +kernel
theorem dX4_pairFrom_75 : decode cX4_pairFrom 75 = .ok (.aload_n 1, 1) := by decide +kernel
theorem dX4_pairFrom_76 : decode cX4_pairFrom 76 = .ok (.getfield 30, 3) := by decide +kernel
theorem dX4_pairFrom_79 : decode cX4_pairFrom 79 = .ok (.iload 5, 2) := by decide +kernel
theorem dX4_pairFrom_81 : decode cX4_pairFrom 81 = .ok (.iload 5, 2) := by decide +kernel
theorem dX4_pairFrom_83 : decode cX4_pairFrom 83 = .ok (.aload_n 1, 1) := by decide +kernel
theorem dX4_pairFrom_84 : decode cX4_pairFrom 84 = .ok (.getfield 52, 3) := by decide +kernel
theorem dX4_pairFrom_87 : decode cX4_pairFrom 87 = .ok (.iload_n 2, 1) := by decide +kernel
theorem dX4_pairFrom_88 : decode cX4_pairFrom 88 = .ok (.iaload, 1) := by decide +kernel
theorem dX4_pairFrom_89 : decode cX4_pairFrom 89 = .ok (.invokestatic 55, 3) := by decide +kernel
theorem dX4_pairFrom_92 : decode cX4_pairFrom 92 = .ok (.invokevirtual 59, 3) := by decide +kernel
theorem dX4_pairFrom_95 : decode cX4_pairFrom 95 = .ok (.istore 6, 2) := by decide +kernel
theorem dX4_pairFrom_97 : decode cX4_pairFrom 97 = .ok (.iload_n 3, 1) := by decide +kernel
theorem dX4_pairFrom_98 : decode cX4_pairFrom 98 = .ok (.aload_n 1, 1) := by decide +kernel
theorem dX4_pairFrom_99 : decode cX4_pairFrom 99 = .ok (.getfield 62, 3) := by decide +kernel
theorem dX4_pairFrom_102 : decode cX4_pairFrom 102 = .ok (.ior, 1) := by decide +kernel
theorem dX4_pairFrom_103 : decode cX4_pairFrom 103 = .ok (.istore 7, 2) := by decide +kernel
theorem dX4_pairFrom_105 : decode cX4_pairFrom 105 = .ok (.iconst 0, 1) := by decide +kernel
theorem dX4_pairFrom_106 : decode cX4_pairFrom 106 = .ok (.istore 8, 2) := by decide +kernel
theorem dX4_pairFrom_108 : decode cX4_pairFrom 108 = .ok (.iload 8, 2) := by decide +kernel
theorem dX4_pairFrom_110 : decode cX4_pairFrom 110 = .ok (.aload_n 1, 1) := by decide +kernel
theorem dX4_pairFrom_111 : decode cX4_pairFrom 111 = .ok (.getfield 30, 3) := by decide +kernel
theorem dX4_pairFrom_114 : decode cX4_pairFrom 114 = .ok (.getfield 65, 3) := by decide +kernel
theorem dX4_pairFrom_117 : decode cX4_pairFrom 117 = .ok (.if_icmp .ge 71, 3) := by decide +kernel
theorem dX4_pairFrom_120 : decode cX4_pairFrom 120 = .ok (.aload_n 1, 1) := by decide +kernel
theorem dX4_pairFrom_121 : decode cX4_pairFrom 121 = .ok (.getfield 68, 3) := by decide +kernel
theorem dX4_pairFrom_124 : decode cX4_pairFrom 124 = .ok (.iload 8, 2) := by decide +kernel
theorem dX4_pairFrom_126 : decode cX4_pairFrom 126 = .ok (.iaload, 1) := by decide +kernel
theorem dX4_pairFrom_127 : decode cX4_pairFrom 127 = .ok (.iload 5, 2) := by decide +kernel
theorem dX4_pairFrom_129 : decode cX4_pairFrom 129 = .ok (.if_icmp .ne 53, 3) := by decide +kernel
theorem dX4_pairFrom_132 : decode cX4_pairFrom 132 = .ok (.iload 7, 2) := by decide +kernel
theorem dX4_pairFrom_134 : decode cX4_pairFrom 134 = .ok (.iload 8, 2) := by decide +kernel
theorem dX4_pairFrom_136 : decode cX4_pairFrom 136 = .ok (.ishr, 1) := by decide +kernel
theorem dX4_pairFrom_137 : decode cX4_pairFrom 137 = .ok (.iconst 1, 1) := by decide +kernel
theorem dX4_pairFrom_138 : decode cX4_pairFrom 138 = .ok (.iand, 1) := by decide +kernel
theorem dX4_pairFrom_139 : decode cX4_pairFrom 139 = .ok (.ifCond .ne 43, 3) := by decide +kernel
theorem dX4_pairFrom_142 : decode cX4_pairFrom 142 = .ok (.aload_n 0, 1) := by decide +kernel
theorem dX4_pairFrom_143 : decode cX4_pairFrom 143 = .ok (.getfield 9, 3) := by decide +kernel
theorem dX4_pairFrom_146 : decode cX4_pairFrom 146 = .ok (.iload_n 2, 1) := by decide +kernel
theorem dX4_pairFrom_147 : decode cX4_pairFrom 147 = .ok (.iload 8, 2) := by decide +kernel
theorem dX4_pairFrom_149 : decode cX4_pairFrom 149 = .ok (.iastore, 1) := by decide +kernel
theorem dX4_pairFrom_150 : decode cX4_pairFrom 150 = .ok (.aload_n 0, 1) := by decide +kernel
theorem dX4_pairFrom_151 : decode cX4_pairFrom 151 = .ok (.aload_n 1, 1) := by decide +kernel
theorem dX4_pairFrom_152 : decode cX4_pairFrom 152 = .ok (.iload_n 2, 1) := by decide +kernel
theorem dX4_pairFrom_153 : decode cX4_pairFrom 153 = .ok (.iconst 1, 1) := by decide +kernel
theorem dX4_pairFrom_154 : decode cX4_pairFrom 154 = .ok (.iadd, 1) := by decide +kernel
theorem dX4_pairFrom_155 : decode cX4_pairFrom 155 = .ok (.iload_n 3, 1) := by decide +kernel
theorem dX4_pairFrom_156 : decode cX4_pairFrom 156 = .ok (.iconst 1, 1) := by decide +kernel
theorem dX4_pairFrom_157 : decode cX4_pairFrom 157 = .ok (.iload 8, 2) := by decide +kernel
theorem dX4_pairFrom_159 : decode cX4_pairFrom 159 = .ok (.ishl, 1) := by decide +kernel
theorem dX4_pairFrom_160 : decode cX4_pairFrom 160 = .ok (.ior, 1) := by decide +kernel
theorem dX4_pairFrom_161 : decode cX4_pairFrom 161 = .ok (.iload 4, 2) := by decide +kernel
theorem dX4_pairFrom_163 : decode cX4_pairFrom 163 = .ok (.aload_n 1, 1) := by decide +kernel
theorem dX4_pairFrom_164 : decode cX4_pairFrom 164 = .ok (.getfield 30, 3) := by decide +kernel
theorem dX4_pairFrom_167 : decode cX4_pairFrom 167 = .ok (.getfield 71, 3) := by decide +kernel
theorem dX4_pairFrom_170 : decode cX4_pairFrom 170 = .ok (.iload 8, 2) := by decide +kernel
theorem dX4_pairFrom_172 : decode cX4_pairFrom 172 = .ok (.iaload, 1) := by decide +kernel
theorem dX4_pairFrom_173 : decode cX4_pairFrom 173 = .ok (.iload 6, 2) := by decide +kernel
theorem dX4_pairFrom_175 : decode cX4_pairFrom 175 = .ok (.invokestatic 74, 3) := by decide +kernel
theorem dX4_pairFrom_178 : decode cX4_pairFrom 178 = .ok (.iadd, 1) := by decide +kernel
theorem dX4_pairFrom_179 : decode cX4_pairFrom 179 = .ok (.invokestatic 26, 3) := by decide +kernel
theorem dX4_pairFrom_182 : decode cX4_pairFrom 182 = .ok (.iinc 8 1, 3) := by decide +kernel
theorem dX4_pairFrom_185 : decode cX4_pairFrom 185 = .ok (.goto (-77), 3) := by decide +kernel
theorem dX4_pairFrom_188 : decode cX4_pairFrom 188 = .ok (.return_, 1) := by decide +kernel
theorem dX4_accept_0 : decode cX4_accept 0 = .ok (.aload_n 0, 1) := by decide +kernel
theorem dX4_accept_1 : decode cX4_accept 1 = .ok (.iconst 1, 1) := by decide +kernel
theorem dX4_accept_2 : decode cX4_accept 2 = .ok (.putfield 18, 3) := by decide +kernel
theorem dX4_accept_5 : decode cX4_accept 5 = .ok (.aload_n 0, 1) := by decide +kernel
theorem dX4_accept_6 : decode cX4_accept 6 = .ok (.iload_n 1, 1) := by decide +kernel
theorem dX4_accept_7 : decode cX4_accept 7 = .ok (.putfield 22, 3) := by decide +kernel
theorem dX4_accept_10 : decode cX4_accept 10 = .ok (.aload_n 0, 1) := by decide +kernel
theorem dX4_accept_11 : decode cX4_accept 11 = .ok (.getfield 9, 3) := by decide +kernel
theorem dX4_accept_14 : decode cX4_accept 14 = .ok (.iconst 0, 1) := by decide +kernel
theorem dX4_accept_15 : decode cX4_accept 15 = .ok (.aload_n 0, 1) := by decide +kernel
theorem dX4_accept_16 : decode cX4_accept 16 = .ok (.getfield 15, 3) := by decide +kernel
theorem dX4_accept_19 : decode cX4_accept 19 = .ok (.iconst 0, 1) := by decide +kernel
theorem dX4_accept_20 : decode cX4_accept 20 = .ok (.iconst 4, 1) := by decide +kernel
theorem dX4_accept_21 : decode cX4_accept 21 = .ok (.invokestatic 79, 3) := by decide +kernel
theorem dX4_accept_24 : decode cX4_accept 24 = .ok (.return_, 1) := by decide +kernel
theorem dX5_init_0 : decode cX5_init 0 = .ok (.aload_n 0, 1) := by decide +kernel
theorem dX5_init_1 : decode cX5_init 1 = .ok (.invokespecial 3, 3) := by decide +kernel
theorem dX5_init_4 : decode cX5_init 4 = .ok (.aload_n 0, 1) := by decide +kernel
theorem dX5_init_5 : decode cX5_init 5 = .ok (.new 9, 3) := by decide +kernel
theorem dX5_init_8 : decode cX5_init 8 = .ok (.dup, 1) := by decide +kernel
theorem dX5_init_9 : decode cX5_init 9 = .ok (.invokespecial 11, 3) := by decide +kernel
theorem dX5_init_12 : decode cX5_init 12 = .ok (.putfield 12, 3) := by decide +kernel
theorem dX5_init_15 : decode cX5_init 15 = .ok (.aload_n 0, 1) := by decide +kernel
theorem dX5_init_16 : decode cX5_init 16 = .ok (.aload_n 1, 1) := by decide +kernel
theorem dX5_init_17 : decode cX5_init 17 = .ok (.putfield 18, 3) := by decide +kernel
theorem dX5_init_20 : decode cX5_init 20 = .ok (.return_, 1) := by decide +kernel
theorem dX5_findFault_0 : decode cX5_findFault 0 = .ok (.aload_n 0, 1) := by decide +kernel
theorem dX5_findFault_1 : decode cX5_findFault 1 = .ok (.getfield 12, 3) := by decide +kernel
theorem dX5_findFault_4 : decode cX5_findFault 4 = .ok (.aload_n 1, 1) := by decide +kernel
theorem dX5_findFault_5 : decode cX5_findFault 5 = .ok (.invokevirtual 22, 3) := by decide +kernel
theorem dX5_findFault_8 : decode cX5_findFault 8 = .ok (.aload_n 0, 1) := by decide +kernel
theorem dX5_findFault_9 : decode cX5_findFault 9 = .ok (.getfield 18, 3) := by decide +kernel
theorem dX5_findFault_12 : decode cX5_findFault 12 = .ok (.invokevirtual 26, 3) := by decide +kernel
theorem dX5_findFault_15 : decode cX5_findFault 15 = .ok (.aload_n 0, 1) := by decide +kernel
theorem dX5_findFault_16 : decode cX5_findFault 16 = .ok (.iconst 1, 1) := by decide +kernel
theorem dX5_findFault_17 : decode cX5_findFault 17 = .ok (.putfield 31, 3) := by decide +kernel
theorem dX5_findFault_20 : decode cX5_findFault 20 = .ok (.aload_n 0, 1) := by decide +kernel
theorem dX5_findFault_21 : decode cX5_findFault 21 = .ok (.getfield 31, 3) := by decide +kernel
theorem dX5_findFault_24 : decode cX5_findFault 24 = .ok (.bipush 20, 2) := by decide +kernel
theorem dX5_findFault_26 : decode cX5_findFault 26 = .ok (.if_icmp .gt 77, 3) := by decide +kernel
theorem dX5_findFault_29 : decode cX5_findFault 29 = .ok (.aload_n 0, 1) := by decide +kernel
theorem dX5_findFault_30 : decode cX5_findFault 30 = .ok (.invokevirtual 35, 3) := by decide +kernel
theorem dX5_findFault_33 : decode cX5_findFault 33 = .ok (.ifCond .ne 11, 3) := by decide +kernel
theorem dX5_findFault_36 : decode cX5_findFault 36 = .ok (.aload_n 0, 1) := by decide +kernel
theorem dX5_findFault_37 : decode cX5_findFault 37 = .ok (.getfield 18, 3) := by decide +kernel
theorem dX5_findFault_40 : decode cX5_findFault 40 = .ok (.getfield 39, 3) := by decide +kernel
theorem dX5_findFault_43 : decode cX5_findFault 43 = .ok (.ireturn, 1) := by decide +kernel
theorem dX5_findFault_44 : decode cX5_findFault 44 = .ok (.aload_n 0, 1) := by decide +kernel
theorem dX5_findFault_45 : decode cX5_findFault 45 = .ok (.getfield 18, 3) := by decide +kernel
theorem dX5_findFault_48 : decode cX5_findFault 48 = .ok (.getfield 42, 3) := by decide +kernel
theorem dX5_findFault_51 : decode cX5_findFault 51 = .ok (.ifCond .ne 5, 3) := by decide +kernel
theorem dX5_findFault_54 : decode cX5_findFault 54 = .ok (.iconst (-1), 1) := by decide +kernel
theorem dX5_findFault_55 : decode cX5_findFault 55 = .ok (.ireturn, 1) := by decide +kernel
theorem dX5_findFault_56 : decode cX5_findFault 56 = .ok (.aload_n 0, 1) := by decide +kernel
theorem dX5_findFault_57 : decode cX5_findFault 57 = .ok (.getfield 18, 3) := by decide +kernel
theorem dX5_findFault_60 : decode cX5_findFault 60 = .ok (.invokevirtual 45, 3) := by decide +kernel
theorem dX5_findFault_63 : decode cX5_findFault 63 = .ok (.ifCond .eq 12, 3) := by decide +kernel
theorem dX5_findFault_66 : decode cX5_findFault 66 = .ok (.aload_n 0, 1) := by decide +kernel
theorem dX5_findFault_67 : decode cX5_findFault 67 = .ok (.getfield 31, 3) := by decide +kernel
theorem dX5_findFault_70 : decode cX5_findFault 70 = .ok (.bipush 20, 2) := by decide +kernel
theorem dX5_findFault_72 : decode cX5_findFault 72 = .ok (.if_icmp .ne 11, 3) := by decide +kernel
theorem dX5_findFault_75 : decode cX5_findFault 75 = .ok (.aload_n 0, 1) := by decide +kernel
theorem dX5_findFault_76 : decode cX5_findFault 76 = .ok (.getfield 18, 3) := by decide +kernel
theorem dX5_findFault_79 : decode cX5_findFault 79 = .ok (.getfield 39, 3) := by decide +kernel
theorem dX5_findFault_82 : decode cX5_findFault 82 = .ok (.ireturn, 1) := by decide +kernel
theorem dX5_findFault_83 : decode cX5_findFault 83 = .ok (.aload_n 0, 1) := by decide +kernel
theorem dX5_findFault_84 : decode cX5_findFault 84 = .ok (.getfield 18, 3) := by decide +kernel
theorem dX5_findFault_87 : decode cX5_findFault 87 = .ok (.invokevirtual 48, 3) := by decide +kernel
theorem dX5_findFault_90 : decode cX5_findFault 90 = .ok (.aload_n 0, 1) := by decide +kernel
theorem dX5_findFault_91 : decode cX5_findFault 91 = .ok (.dup, 1) := by decide +kernel
theorem dX5_findFault_92 : decode cX5_findFault 92 = .ok (.getfield 31, 3) := by decide +kernel
theorem dX5_findFault_95 : decode cX5_findFault 95 = .ok (.iconst 1, 1) := by decide +kernel
theorem dX5_findFault_96 : decode cX5_findFault 96 = .ok (.iadd, 1) := by decide +kernel
theorem dX5_findFault_97 : decode cX5_findFault 97 = .ok (.putfield 31, 3) := by decide +kernel
theorem dX5_findFault_100 : decode cX5_findFault 100 = .ok (.goto (-80), 3) := by decide +kernel
theorem dX5_findFault_103 : decode cX5_findFault 103 = .ok (.aload_n 0, 1) := by decide +kernel
theorem dX5_findFault_104 : decode cX5_findFault 104 = .ok (.getfield 18, 3) := by decide +kernel
theorem dX5_findFault_107 : decode cX5_findFault 107 = .ok (.getfield 39, 3) := by decide +kernel
theorem dX5_findFault_110 : decode cX5_findFault 110 = .ok (.ireturn, 1) := by decide +kernel
theorem dX5_takeClause_0 : decode cX5_takeClause 0 = .ok (.aload_n 0, 1) := by decide +kernel
theorem dX5_takeClause_1 : decode cX5_takeClause 1 = .ok (.invokevirtual 51, 3) := by decide +kernel
theorem dX5_takeClause_4 : decode cX5_takeClause 4 = .ok (.istore_n 1, 1) := by decide +kernel
theorem dX5_takeClause_5 : decode cX5_takeClause 5 = .ok (.iload_n 1, 1) := by decide +kernel
theorem dX5_takeClause_6 : decode cX5_takeClause 6 = .ok (.iconst (-1), 1) := by decide +kernel
theorem dX5_takeClause_7 : decode cX5_takeClause 7 = .ok (.if_icmp .eq 11, 3) := by decide +kernel
theorem dX5_takeClause_10 : decode cX5_takeClause 10 = .ok (.aload_n 0, 1) := by decide +kernel
theorem dX5_takeClause_11 : decode cX5_takeClause 11 = .ok (.iload_n 1, 1) := by decide +kernel
theorem dX5_takeClause_12 : decode cX5_takeClause 12 = .ok (.invokevirtual 55, 3) := by decide +kernel
theorem dX5_takeClause_15 : decode cX5_takeClause 15 = .ok (.ifCond .eq 5, 3) := by decide +kernel
theorem dX5_takeClause_18 : decode cX5_takeClause 18 = .ok (.iconst 0, 1) := by decide +kernel
theorem dX5_takeClause_19 : decode cX5_takeClause 19 = .ok (.ireturn, 1) := by decide +kernel
theorem dX5_takeClause_20 : decode cX5_takeClause 20 = .ok (.aload_n 0, 1) := by decide +kernel
theorem dX5_takeClause_21 : decode cX5_takeClause 21 = .ok (.getfield 18, 3) := by decide +kernel
theorem dX5_takeClause_24 : decode cX5_takeClause 24 = .ok (.invokevirtual 48, 3) := by decide +kernel
theorem dX5_takeClause_27 : decode cX5_takeClause 27 = .ok (.iload_n 1, 1) := by decide +kernel
theorem dX5_takeClause_28 : decode cX5_takeClause 28 = .ok (.tableswitch 47 5 7 #[28, 37, 42], 28) := by decide +kernel
theorem dX5_takeClause_56 : decode cX5_takeClause 56 = .ok (.aload_n 0, 1) := by decide +kernel
theorem dX5_takeClause_57 : decode cX5_takeClause 57 = .ok (.getfield 12, 3) := by decide +kernel
theorem dX5_takeClause_60 : decode cX5_takeClause 60 = .ok (.invokevirtual 59, 3) := by decide +kernel
theorem dX5_takeClause_63 : decode cX5_takeClause 63 = .ok (.iconst 1, 1) := by decide +kernel
theorem dX5_takeClause_64 : decode cX5_takeClause 64 = .ok (.ireturn, 1) := by decide +kernel
theorem dX5_takeClause_65 : decode cX5_takeClause 65 = .ok (.aload_n 0, 1) := by decide +kernel
theorem dX5_takeClause_66 : decode cX5_takeClause 66 = .ok (.invokevirtual 62, 3) := by decide +kernel
theorem dX5_takeClause_69 : decode cX5_takeClause 69 = .ok (.ireturn, 1) := by decide +kernel
theorem dX5_takeClause_70 : decode cX5_takeClause 70 = .ok (.aload_n 0, 1) := by decide +kernel
theorem dX5_takeClause_71 : decode cX5_takeClause 71 = .ok (.invokevirtual 65, 3) := by decide +kernel
theorem dX5_takeClause_74 : decode cX5_takeClause 74 = .ok (.ireturn, 1) := by decide +kernel
theorem dX5_takeClause_75 : decode cX5_takeClause 75 = .ok (.aload_n 0, 1) := by decide +kernel
theorem dX5_takeClause_76 : decode cX5_takeClause 76 = .ok (.iload_n 1, 1) := by decide +kernel
theorem dX5_takeClause_77 : decode cX5_takeClause 77 = .ok (.invokevirtual 68, 3) := by decide +kernel
theorem dX5_takeClause_80 : decode cX5_takeClause 80 = .ok (.ireturn, 1) := by decide +kernel
theorem dX5_wordNumber_0 : decode cX5_wordNumber 0 = .ok (.aload_n 0, 1) := by decide +kernel
theorem dX5_wordNumber_1 : decode cX5_wordNumber 1 = .ok (.getfield 18, 3) := by decide +kernel
theorem dX5_wordNumber_4 : decode cX5_wordNumber 4 = .ok (.ldc 71, 2) := by decide +kernel
theorem dX5_wordNumber_6 : decode cX5_wordNumber 6 = .ok (.invokevirtual 73, 3) := by decide +kernel
theorem dX5_wordNumber_9 : decode cX5_wordNumber 9 = .ok (.ifCond .eq 5, 3) := by decide +kernel
theorem dX5_wordNumber_12 : decode cX5_wordNumber 12 = .ok (.iconst 0, 1) := by decide +kernel
theorem dX5_wordNumber_13 : decode cX5_wordNumber 13 = .ok (.ireturn, 1) := by decide +kernel
theorem dX5_wordNumber_14 : decode cX5_wordNumber 14 = .ok (.aload_n 0, 1) := by decide +kernel
theorem dX5_wordNumber_15 : decode cX5_wordNumber 15 = .ok (.getfield 18, 3) := by decide +kernel
theorem dX5_wordNumber_18 : decode cX5_wordNumber 18 = .ok (.ldc 79, 2) := by decide +kernel
theorem dX5_wordNumber_20 : decode cX5_wordNumber 20 = .ok (.invokevirtual 73, 3) := by decide +kernel
theorem dX5_wordNumber_23 : decode cX5_wordNumber 23 = .ok (.ifCond .eq 5, 3) := by decide +kernel
theorem dX5_wordNumber_26 : decode cX5_wordNumber 26 = .ok (.iconst 1, 1) := by decide +kernel
theorem dX5_wordNumber_27 : decode cX5_wordNumber 27 = .ok (.ireturn, 1) := by decide +kernel
theorem dX5_wordNumber_28 : decode cX5_wordNumber 28 = .ok (.aload_n 0, 1) := by decide +kernel
theorem dX5_wordNumber_29 : decode cX5_wordNumber 29 = .ok (.getfield 18, 3) := by decide +kernel
theorem dX5_wordNumber_32 : decode cX5_wordNumber 32 = .ok (.ldc 81, 2) := by decide +kernel
theorem dX5_wordNumber_34 : decode cX5_wordNumber 34 = .ok (.invokevirtual 73, 3) := by decide +kernel
theorem dX5_wordNumber_37 : decode cX5_wordNumber 37 = .ok (.ifCond .eq 5, 3) := by decide +kernel
theorem dX5_wordNumber_40 : decode cX5_wordNumber 40 = .ok (.iconst 2, 1) := by decide +kernel
theorem dX5_wordNumber_41 : decode cX5_wordNumber 41 = .ok (.ireturn, 1) := by decide +kernel
theorem dX5_wordNumber_42 : decode cX5_wordNumber 42 = .ok (.aload_n 0, 1) := by decide +kernel
theorem dX5_wordNumber_43 : decode cX5_wordNumber 43 = .ok (.getfield 18, 3) := by decide +kernel
theorem dX5_wordNumber_46 : decode cX5_wordNumber 46 = .ok (.ldc 83, 2) := by decide +kernel
theorem dX5_wordNumber_48 : decode cX5_wordNumber 48 = .ok (.invokevirtual 73, 3) := by decide +kernel
theorem dX5_wordNumber_51 : decode cX5_wordNumber 51 = .ok (.ifCond .eq 5, 3) := by decide +kernel
theorem dX5_wordNumber_54 : decode cX5_wordNumber 54 = .ok (.iconst 3, 1) := by decide +kernel
theorem dX5_wordNumber_55 : decode cX5_wordNumber 55 = .ok (.ireturn, 1) := by decide +kernel
theorem dX5_wordNumber_56 : decode cX5_wordNumber 56 = .ok (.aload_n 0, 1) := by decide +kernel
theorem dX5_wordNumber_57 : decode cX5_wordNumber 57 = .ok (.getfield 18, 3) := by decide +kernel
theorem dX5_wordNumber_60 : decode cX5_wordNumber 60 = .ok (.ldc 85, 2) := by decide +kernel
theorem dX5_wordNumber_62 : decode cX5_wordNumber 62 = .ok (.invokevirtual 73, 3) := by decide +kernel
theorem dX5_wordNumber_65 : decode cX5_wordNumber 65 = .ok (.ifCond .eq 5, 3) := by decide +kernel
theorem dX5_wordNumber_68 : decode cX5_wordNumber 68 = .ok (.iconst 4, 1) := by decide +kernel
theorem dX5_wordNumber_69 : decode cX5_wordNumber 69 = .ok (.ireturn, 1) := by decide +kernel
theorem dX5_wordNumber_70 : decode cX5_wordNumber 70 = .ok (.aload_n 0, 1) := by decide +kernel
theorem dX5_wordNumber_71 : decode cX5_wordNumber 71 = .ok (.getfield 18, 3) := by decide +kernel
theorem dX5_wordNumber_74 : decode cX5_wordNumber 74 = .ok (.ldc 87, 2) := by decide +kernel
theorem dX5_wordNumber_76 : decode cX5_wordNumber 76 = .ok (.invokevirtual 73, 3) := by decide +kernel
theorem dX5_wordNumber_79 : decode cX5_wordNumber 79 = .ok (.ifCond .eq 5, 3) := by decide +kernel
theorem dX5_wordNumber_82 : decode cX5_wordNumber 82 = .ok (.iconst 5, 1) := by decide +kernel
theorem dX5_wordNumber_83 : decode cX5_wordNumber 83 = .ok (.ireturn, 1) := by decide +kernel
theorem dX5_wordNumber_84 : decode cX5_wordNumber 84 = .ok (.aload_n 0, 1) := by decide +kernel
theorem dX5_wordNumber_85 : decode cX5_wordNumber 85 = .ok (.getfield 18, 3) := by decide +kernel
theorem dX5_wordNumber_88 : decode cX5_wordNumber 88 = .ok (.ldc 89, 2) := by decide +kernel
theorem dX5_wordNumber_90 : decode cX5_wordNumber 90 = .ok (.invokevirtual 73, 3) := by decide +kernel
theorem dX5_wordNumber_93 : decode cX5_wordNumber 93 = .ok (.ifCond .eq 6, 3) := by decide +kernel
theorem dX5_wordNumber_96 : decode cX5_wordNumber 96 = .ok (.bipush 6, 2) := by decide +kernel
theorem dX5_wordNumber_98 : decode cX5_wordNumber 98 = .ok (.ireturn, 1) := by decide +kernel
theorem dX5_wordNumber_99 : decode cX5_wordNumber 99 = .ok (.aload_n 0, 1) := by decide +kernel
theorem dX5_wordNumber_100 : decode cX5_wordNumber 100 = .ok (.getfield 18, 3) := by decide +kernel
theorem dX5_wordNumber_103 : decode cX5_wordNumber 103 = .ok (.ldc 91, 2) := by decide +kernel
theorem dX5_wordNumber_105 : decode cX5_wordNumber 105 = .ok (.invokevirtual 73, 3) := by decide +kernel
theorem dX5_wordNumber_108 : decode cX5_wordNumber 108 = .ok (.ifCond .eq 8, 3) := by decide +kernel
theorem dX5_wordNumber_111 : decode cX5_wordNumber 111 = .ok (.bipush 7, 2) := by decide +kernel
theorem dX5_wordNumber_113 : decode cX5_wordNumber 113 = .ok (.goto 4, 3) := by decide +kernel
theorem dX5_wordNumber_116 : decode cX5_wordNumber 116 = .ok (.iconst (-1), 1) := by decide +kernel
theorem dX5_wordNumber_117 : decode cX5_wordNumber 117 = .ok (.ireturn, 1) := by decide +kernel
theorem dX5_isOneTooMany_0 : decode cX5_isOneTooMany 0 = .ok (.iload_n 1, 1) := by decide +kernel
theorem dX5_isOneTooMany_1 : decode cX5_isOneTooMany 1 = .ok (.tableswitch 64 5 7 #[27, 29, 47], 27) := by decide +kernel
theorem dX5_isOneTooMany_28 : decode cX5_isOneTooMany 28 = .ok (.iconst 0, 1) := by decide +kernel
theorem dX5_isOneTooMany_29 : decode cX5_isOneTooMany 29 = .ok (.ireturn, 1) := by decide +kernel
theorem dX5_isOneTooMany_30 : decode cX5_isOneTooMany 30 = .ok (.aload_n 0, 1) := by decide +kernel
theorem dX5_isOneTooMany_31 : decode cX5_isOneTooMany 31 = .ok (.getfield 12, 3) := by decide +kernel
theorem dX5_isOneTooMany_34 : decode cX5_isOneTooMany 34 = .ok (.getfield 93, 3) := by decide +kernel
theorem dX5_isOneTooMany_37 : decode cX5_isOneTooMany 37 = .ok (.bipush 6, 2) := by decide +kernel
theorem dX5_isOneTooMany_39 : decode cX5_isOneTooMany 39 = .ok (.if_icmp .lt 7, 3) := by decide +kernel
theorem dX5_isOneTooMany_42 : decode cX5_isOneTooMany 42 = .ok (.iconst 1, 1) := by decide +kernel
theorem dX5_isOneTooMany_43 : decode cX5_isOneTooMany 43 = .ok (.goto 4, 3) := by decide +kernel
theorem dX5_isOneTooMany_46 : decode cX5_isOneTooMany 46 = .ok (.iconst 0, 1) := by decide +kernel
theorem dX5_isOneTooMany_47 : decode cX5_isOneTooMany 47 = .ok (.ireturn, 1) := by decide +kernel
theorem dX5_isOneTooMany_48 : decode cX5_isOneTooMany 48 = .ok (.aload_n 0, 1) := by decide +kernel
theorem dX5_isOneTooMany_49 : decode cX5_isOneTooMany 49 = .ok (.getfield 12, 3) := by decide +kernel
theorem dX5_isOneTooMany_52 : decode cX5_isOneTooMany 52 = .ok (.getfield 96, 3) := by decide +kernel
theorem dX5_isOneTooMany_55 : decode cX5_isOneTooMany 55 = .ok (.iconst 4, 1) := by decide +kernel
theorem dX5_isOneTooMany_56 : decode cX5_isOneTooMany 56 = .ok (.if_icmp .lt 7, 3) := by decide +kernel
theorem dX5_isOneTooMany_59 : decode cX5_isOneTooMany 59 = .ok (.iconst 1, 1) := by decide +kernel
theorem dX5_isOneTooMany_60 : decode cX5_isOneTooMany 60 = .ok (.goto 4, 3) := by decide +kernel
theorem dX5_isOneTooMany_63 : decode cX5_isOneTooMany 63 = .ok (.iconst 0, 1) := by decide +kernel
theorem dX5_isOneTooMany_64 : decode cX5_isOneTooMany 64 = .ok (.ireturn, 1) := by decide +kernel
theorem dX5_isOneTooMany_65 : decode cX5_isOneTooMany 65 = .ok (.aload_n 0, 1) := by decide +kernel
theorem dX5_isOneTooMany_66 : decode cX5_isOneTooMany 66 = .ok (.getfield 12, 3) := by decide +kernel
theorem dX5_isOneTooMany_69 : decode cX5_isOneTooMany 69 = .ok (.getfield 99, 3) := by decide +kernel
theorem dX5_isOneTooMany_72 : decode cX5_isOneTooMany 72 = .ok (.bipush 8, 2) := by decide +kernel
theorem dX5_isOneTooMany_74 : decode cX5_isOneTooMany 74 = .ok (.if_icmp .lt 7, 3) := by decide +kernel
theorem dX5_isOneTooMany_77 : decode cX5_isOneTooMany 77 = .ok (.iconst 1, 1) := by decide +kernel
theorem dX5_isOneTooMany_78 : decode cX5_isOneTooMany 78 = .ok (.goto 4, 3) := by decide +kernel
theorem dX5_isOneTooMany_81 : decode cX5_isOneTooMany 81 = .ok (.iconst 0, 1) := by decide +kernel
theorem dX5_isOneTooMany_82 : decode cX5_isOneTooMany 82 = .ok (.ireturn, 1) := by decide +kernel
theorem dX5_takeInn_0 : decode cX5_takeInn 0 = .ok (.aload_n 0, 1) := by decide +kernel
theorem dX5_takeInn_1 : decode cX5_takeInn 1 = .ok (.iconst 1, 1) := by decide +kernel
theorem dX5_takeInn_2 : decode cX5_takeInn 2 = .ok (.bipush 9, 2) := by decide +kernel
theorem dX5_takeInn_4 : decode cX5_takeInn 4 = .ok (.invokevirtual 102, 3) := by decide +kernel
theorem dX5_takeInn_7 : decode cX5_takeInn 7 = .ok (.istore_n 1, 1) := by decide +kernel
theorem dX5_takeInn_8 : decode cX5_takeInn 8 = .ok (.iload_n 1, 1) := by decide +kernel
theorem dX5_takeInn_9 : decode cX5_takeInn 9 = .ok (.iconst (-1), 1) := by decide +kernel
theorem dX5_takeInn_10 : decode cX5_takeInn 10 = .ok (.if_icmp .ne 5, 3) := by decide +kernel
theorem dX5_takeInn_13 : decode cX5_takeInn 13 = .ok (.iconst 0, 1) := by decide +kernel
theorem dX5_takeInn_14 : decode cX5_takeInn 14 = .ok (.ireturn, 1) := by decide +kernel
theorem dX5_takeInn_15 : decode cX5_takeInn 15 = .ok (.aload_n 0, 1) := by decide +kernel
theorem dX5_takeInn_16 : decode cX5_takeInn 16 = .ok (.getfield 12, 3) := by decide +kernel
theorem dX5_takeInn_19 : decode cX5_takeInn 19 = .ok (.iload_n 1, 1) := by decide +kernel
theorem dX5_takeInn_20 : decode cX5_takeInn 20 = .ok (.invokevirtual 106, 3) := by decide +kernel
theorem dX5_takeInn_23 : decode cX5_takeInn 23 = .ok (.iconst 1, 1) := by decide +kernel
theorem dX5_takeInn_24 : decode cX5_takeInn 24 = .ok (.ireturn, 1) := by decide +kernel
theorem dX5_takeHour_0 : decode cX5_takeHour 0 = .ok (.aload_n 0, 1) := by decide +kernel
theorem dX5_takeHour_1 : decode cX5_takeHour 1 = .ok (.iconst 0, 1) := by decide +kernel
theorem dX5_takeHour_2 : decode cX5_takeHour 2 = .ok (.aload_n 0, 1) := by decide +kernel
theorem dX5_takeHour_3 : decode cX5_takeHour 3 = .ok (.getfield 12, 3) := by decide +kernel
theorem dX5_takeHour_6 : decode cX5_takeHour 6 = .ok (.getfield 93, 3) := by decide +kernel
theorem dX5_takeHour_9 : decode cX5_takeHour 9 = .ok (.iconst 1, 1) := by decide +kernel
theorem dX5_takeHour_10 : decode cX5_takeHour 10 = .ok (.isub, 1) := by decide +kernel
theorem dX5_takeHour_11 : decode cX5_takeHour 11 = .ok (.invokevirtual 102, 3) := by decide +kernel
theorem dX5_takeHour_14 : decode cX5_takeHour 14 = .ok (.istore_n 2, 1) := by decide +kernel
theorem dX5_takeHour_15 : decode cX5_takeHour 15 = .ok (.iload_n 2, 1) := by decide +kernel
theorem dX5_takeHour_16 : decode cX5_takeHour 16 = .ok (.iconst (-1), 1) := by decide +kernel
theorem dX5_takeHour_17 : decode cX5_takeHour 17 = .ok (.if_icmp .ne 5, 3) := by decide +kernel
theorem dX5_takeHour_20 : decode cX5_takeHour 20 = .ok (.iconst 0, 1) := by decide +kernel
theorem dX5_takeHour_21 : decode cX5_takeHour 21 = .ok (.ireturn, 1) := by decide +kernel
theorem dX5_takeHour_22 : decode cX5_takeHour 22 = .ok (.aload_n 0, 1) := by decide +kernel
theorem dX5_takeHour_23 : decode cX5_takeHour 23 = .ok (.iconst 0, 1) := by decide +kernel
theorem dX5_takeHour_24 : decode cX5_takeHour 24 = .ok (.bipush 9, 2) := by decide +kernel
theorem dX5_takeHour_26 : decode cX5_takeHour 26 = .ok (.invokevirtual 102, 3) := by decide +kernel
theorem dX5_takeHour_29 : decode cX5_takeHour 29 = .ok (.istore_n 3, 1) := by decide +kernel
theorem dX5_takeHour_30 : decode cX5_takeHour 30 = .ok (.iload_n 3, 1) := by decide +kernel
theorem dX5_takeHour_31 : decode cX5_takeHour 31 = .ok (.iconst (-1), 1) := by decide +kernel
theorem dX5_takeHour_32 : decode cX5_takeHour 32 = .ok (.if_icmp .ne 5, 3) := by decide +kernel
theorem dX5_takeHour_35 : decode cX5_takeHour 35 = .ok (.iconst 0, 1) := by decide +kernel
theorem dX5_takeHour_36 : decode cX5_takeHour 36 = .ok (.ireturn, 1) := by decide +kernel
theorem dX5_takeHour_37 : decode cX5_takeHour 37 = .ok (.aload_n 0, 1) := by decide +kernel
theorem dX5_takeHour_38 : decode cX5_takeHour 38 = .ok (.getfield 12, 3) := by decide +kernel
theorem dX5_takeHour_41 : decode cX5_takeHour 41 = .ok (.iload_n 1, 1) := by decide +kernel
theorem dX5_takeHour_42 : decode cX5_takeHour 42 = .ok (.iload_n 2, 1) := by decide +kernel
theorem dX5_takeHour_43 : decode cX5_takeHour 43 = .ok (.iload_n 3, 1) := by decide +kernel
theorem dX5_takeHour_44 : decode cX5_takeHour 44 = .ok (.invokevirtual 110, 3) := by decide +kernel
theorem dX5_takeHour_47 : decode cX5_takeHour 47 = .ok (.iconst 1, 1) := by decide +kernel
theorem dX5_takeHour_48 : decode cX5_takeHour 48 = .ok (.ireturn, 1) := by decide +kernel
theorem dX5_takeRider_0 : decode cX5_takeRider 0 = .ok (.aload_n 0, 1) := by decide +kernel
theorem dX5_takeRider_1 : decode cX5_takeRider 1 = .ok (.iconst 0, 1) := by decide +kernel
theorem dX5_takeRider_2 : decode cX5_takeRider 2 = .ok (.aload_n 0, 1) := by decide +kernel
theorem dX5_takeRider_3 : decode cX5_takeRider 3 = .ok (.getfield 12, 3) := by decide +kernel
theorem dX5_takeRider_6 : decode cX5_takeRider 6 = .ok (.getfield 93, 3) := by decide +kernel
theorem dX5_takeRider_9 : decode cX5_takeRider 9 = .ok (.iconst 1, 1) := by decide +kernel
theorem dX5_takeRider_10 : decode cX5_takeRider 10 = .ok (.isub, 1) := by decide +kernel
theorem dX5_takeRider_11 : decode cX5_takeRider 11 = .ok (.invokevirtual 102, 3) := by decide +kernel
theorem dX5_takeRider_14 : decode cX5_takeRider 14 = .ok (.istore_n 1, 1) := by decide +kernel
theorem dX5_takeRider_15 : decode cX5_takeRider 15 = .ok (.iload_n 1, 1) := by decide +kernel
theorem dX5_takeRider_16 : decode cX5_takeRider 16 = .ok (.iconst (-1), 1) := by decide +kernel
theorem dX5_takeRider_17 : decode cX5_takeRider 17 = .ok (.if_icmp .ne 5, 3) := by decide +kernel
theorem dX5_takeRider_20 : decode cX5_takeRider 20 = .ok (.iconst 0, 1) := by decide +kernel
theorem dX5_takeRider_21 : decode cX5_takeRider 21 = .ok (.ireturn, 1) := by decide +kernel
theorem dX5_takeRider_22 : decode cX5_takeRider 22 = .ok (.aload_n 0, 1) := by decide +kernel
theorem dX5_takeRider_23 : decode cX5_takeRider 23 = .ok (.iconst 0, 1) := by decide +kernel
theorem dX5_takeRider_24 : decode cX5_takeRider 24 = .ok (.aload_n 0, 1) := by decide +kernel
theorem dX5_takeRider_25 : decode cX5_takeRider 25 = .ok (.getfield 12, 3) := by decide +kernel
theorem dX5_takeRider_28 : decode cX5_takeRider 28 = .ok (.getfield 93, 3) := by decide +kernel
theorem dX5_takeRider_31 : decode cX5_takeRider 31 = .ok (.iconst 1, 1) := by decide +kernel
theorem dX5_takeRider_32 : decode cX5_takeRider 32 = .ok (.isub, 1) := by decide +kernel
theorem dX5_takeRider_33 : decode cX5_takeRider 33 = .ok (.invokevirtual 102, 3) := by decide +kernel
theorem dX5_takeRider_36 : decode cX5_takeRider 36 = .ok (.istore_n 2, 1) := by decide +kernel
theorem dX5_takeRider_37 : decode cX5_takeRider 37 = .ok (.iload_n 2, 1) := by decide +kernel
theorem dX5_takeRider_38 : decode cX5_takeRider 38 = .ok (.iconst (-1), 1) := by decide +kernel
theorem dX5_takeRider_39 : decode cX5_takeRider 39 = .ok (.if_icmp .ne 5, 3) := by decide +kernel
theorem dX5_takeRider_42 : decode cX5_takeRider 42 = .ok (.iconst 0, 1) := by decide +kernel
theorem dX5_takeRider_43 : decode cX5_takeRider 43 = .ok (.ireturn, 1) := by decide +kernel
theorem dX5_takeRider_44 : decode cX5_takeRider 44 = .ok (.aload_n 0, 1) := by decide +kernel
theorem dX5_takeRider_45 : decode cX5_takeRider 45 = .ok (.getfield 12, 3) := by decide +kernel
theorem dX5_takeRider_48 : decode cX5_takeRider 48 = .ok (.iload_n 1, 1) := by decide +kernel
theorem dX5_takeRider_49 : decode cX5_takeRider 49 = .ok (.iload_n 2, 1) := by decide +kernel
theorem dX5_takeRider_50 : decode cX5_takeRider 50 = .ok (.invokevirtual 114, 3) := by decide +kernel
theorem dX5_takeRider_53 : decode cX5_takeRider 53 = .ok (.iconst 1, 1) := by decide +kernel
theorem dX5_takeRider_54 : decode cX5_takeRider 54 = .ok (.ireturn, 1) := by decide +kernel
theorem dX5_takeNumber_0 : decode cX5_takeNumber 0 = .ok (.aload_n 0, 1) := by decide +kernel
theorem dX5_takeNumber_1 : decode cX5_takeNumber 1 = .ok (.getfield 18, 3) := by decide +kernel
theorem dX5_takeNumber_4 : decode cX5_takeNumber 4 = .ok (.invokevirtual 118, 3) := by decide +kernel
theorem dX5_takeNumber_7 : decode cX5_takeNumber 7 = .ok (.istore_n 3, 1) := by decide +kernel
theorem dX5_takeNumber_8 : decode cX5_takeNumber 8 = .ok (.iload_n 3, 1) := by decide +kernel
theorem dX5_takeNumber_9 : decode cX5_takeNumber 9 = .ok (.iconst (-1), 1) := by decide +kernel
theorem dX5_takeNumber_10 : decode cX5_takeNumber 10 = .ok (.if_icmp .eq 13, 3) := by decide +kernel
theorem dX5_takeNumber_13 : decode cX5_takeNumber 13 = .ok (.iload_n 3, 1) := by decide +kernel
theorem dX5_takeNumber_14 : decode cX5_takeNumber 14 = .ok (.iload_n 1, 1) := by decide +kernel
theorem dX5_takeNumber_15 : decode cX5_takeNumber 15 = .ok (.if_icmp .lt 8, 3) := by decide +kernel
theorem dX5_takeNumber_18 : decode cX5_takeNumber 18 = .ok (.iload_n 3, 1) := by decide +kernel
theorem dX5_takeNumber_19 : decode cX5_takeNumber 19 = .ok (.iload_n 2, 1) := by decide +kernel
theorem dX5_takeNumber_20 : decode cX5_takeNumber 20 = .ok (.if_icmp .le 5, 3) := by decide +kernel
theorem dX5_takeNumber_23 : decode cX5_takeNumber 23 = .ok (.iconst (-1), 1) := by decide +kernel
theorem dX5_takeNumber_24 : decode cX5_takeNumber 24 = .ok (.ireturn, 1) := by decide +kernel
theorem dX5_takeNumber_25 : decode cX5_takeNumber 25 = .ok (.aload_n 0, 1) := by decide +kernel
theorem dX5_takeNumber_26 : decode cX5_takeNumber 26 = .ok (.getfield 18, 3) := by decide +kernel
theorem dX5_takeNumber_29 : decode cX5_takeNumber 29 = .ok (.invokevirtual 48, 3) := by decide +kernel
theorem dX5_takeNumber_32 : decode cX5_takeNumber 32 = .ok (.iload_n 3, 1) := by decide +kernel
theorem dX5_takeNumber_33 : decode cX5_takeNumber 33 = .ok (.ireturn, 1) := by decide +kernel
theorem dX6_init_0 : decode cX6_init 0 = .ok (.aload_n 0, 1) := by decide +kernel
theorem dX6_init_1 : decode cX6_init 1 = .ok (.invokespecial 3, 3) := by decide +kernel
theorem dX6_init_4 : decode cX6_init 4 = .ok (.aload_n 0, 1) := by decide +kernel
theorem dX6_init_5 : decode cX6_init 5 = .ok (.bipush 8, 2) := by decide +kernel
theorem dX6_init_7 : decode cX6_init 7 = .ok (.anewarray 9, 3) := by decide +kernel
theorem dX6_init_10 : decode cX6_init 10 = .ok (.putfield 11, 3) := by decide +kernel
theorem dX6_init_13 : decode cX6_init 13 = .ok (.iconst 0, 1) := by decide +kernel
theorem dX6_init_14 : decode cX6_init 14 = .ok (.istore_n 2, 1) := by decide +kernel
theorem dX6_init_15 : decode cX6_init 15 = .ok (.iload_n 2, 1) := by decide +kernel
theorem dX6_init_16 : decode cX6_init 16 = .ok (.aload_n 0, 1) := by decide +kernel
theorem dX6_init_17 : decode cX6_init 17 = .ok (.getfield 11, 3) := by decide +kernel
theorem dX6_init_20 : decode cX6_init 20 = .ok (.arraylength, 1) := by decide +kernel
theorem dX6_init_21 : decode cX6_init 21 = .ok (.if_icmp .ge 23, 3) := by decide +kernel
theorem dX6_init_24 : decode cX6_init 24 = .ok (.aload_n 0, 1) := by decide +kernel
theorem dX6_init_25 : decode cX6_init 25 = .ok (.getfield 11, 3) := by decide +kernel
theorem dX6_init_28 : decode cX6_init 28 = .ok (.iload_n 2, 1) := by decide +kernel
theorem dX6_init_29 : decode cX6_init 29 = .ok (.new 9, 3) := by decide +kernel
theorem dX6_init_32 : decode cX6_init 32 = .ok (.dup, 1) := by decide +kernel
theorem dX6_init_33 : decode cX6_init 33 = .ok (.aload_n 1, 1) := by decide +kernel
theorem dX6_init_34 : decode cX6_init 34 = .ok (.invokespecial 17, 3) := by decide +kernel
theorem dX6_init_37 : decode cX6_init 37 = .ok (.aastore, 1) := by decide +kernel
theorem dX6_init_38 : decode cX6_init 38 = .ok (.iinc 2 1, 3) := by decide +kernel
theorem dX6_init_41 : decode cX6_init 41 = .ok (.goto (-26), 3) := by decide +kernel
theorem dX6_init_44 : decode cX6_init 44 = .ok (.return_, 1) := by decide +kernel
theorem dX6_remember_0 : decode cX6_remember 0 = .ok (.aload_n 0, 1) := by decide +kernel
theorem dX6_remember_1 : decode cX6_remember 1 = .ok (.getfield 11, 3) := by decide +kernel
theorem dX6_remember_4 : decode cX6_remember 4 = .ok (.aload_n 0, 1) := by decide +kernel
theorem dX6_remember_5 : decode cX6_remember 5 = .ok (.getfield 20, 3) := by decide +kernel
theorem dX6_remember_8 : decode cX6_remember 8 = .ok (.aaload, 1) := by decide +kernel
theorem dX6_remember_9 : decode cX6_remember 9 = .ok (.aload_n 1, 1) := by decide +kernel
theorem dX6_remember_10 : decode cX6_remember 10 = .ok (.invokevirtual 24, 3) := by decide +kernel
theorem dX6_remember_13 : decode cX6_remember 13 = .ok (.aload_n 0, 1) := by decide +kernel
theorem dX6_remember_14 : decode cX6_remember 14 = .ok (.aload_n 0, 1) := by decide +kernel
theorem dX6_remember_15 : decode cX6_remember 15 = .ok (.getfield 20, 3) := by decide +kernel
theorem dX6_remember_18 : decode cX6_remember 18 = .ok (.iconst 1, 1) := by decide +kernel
theorem dX6_remember_19 : decode cX6_remember 19 = .ok (.iadd, 1) := by decide +kernel
theorem dX6_remember_20 : decode cX6_remember 20 = .ok (.bipush 8, 2) := by decide +kernel
theorem dX6_remember_22 : decode cX6_remember 22 = .ok (.irem, 1) := by decide +kernel
theorem dX6_remember_23 : decode cX6_remember 23 = .ok (.putfield 20, 3) := by decide +kernel
theorem dX6_remember_26 : decode cX6_remember 26 = .ok (.aload_n 0, 1) := by decide +kernel
theorem dX6_remember_27 : decode cX6_remember 27 = .ok (.aload_n 0, 1) := by decide +kernel
theorem dX6_remember_28 : decode cX6_remember 28 = .ok (.getfield 28, 3) := by decide +kernel
theorem dX6_remember_31 : decode cX6_remember 31 = .ok (.iconst 1, 1) := by decide +kernel
theorem dX6_remember_32 : decode cX6_remember 32 = .ok (.iadd, 1) := by decide +kernel
theorem dX6_remember_33 : decode cX6_remember 33 = .ok (.bipush 8, 2) := by decide +kernel
theorem dX6_remember_35 : decode cX6_remember 35 = .ok (.invokestatic 31, 3) := by decide +kernel
theorem dX6_remember_38 : decode cX6_remember 38 = .ok (.putfield 28, 3) := by decide +kernel
theorem dX6_remember_41 : decode cX6_remember 41 = .ok (.return_, 1) := by decide +kernel
theorem dX6_clear_0 : decode cX6_clear 0 = .ok (.aload_n 0, 1) := by decide +kernel
theorem dX6_clear_1 : decode cX6_clear 1 = .ok (.iconst 0, 1) := by decide +kernel
theorem dX6_clear_2 : decode cX6_clear 2 = .ok (.putfield 28, 3) := by decide +kernel
theorem dX6_clear_5 : decode cX6_clear 5 = .ok (.return_, 1) := by decide +kernel
theorem dX6_restore_0 : decode cX6_restore 0 = .ok (.aload_n 0, 1) := by decide +kernel
theorem dX6_restore_1 : decode cX6_restore 1 = .ok (.getfield 28, 3) := by decide +kernel
theorem dX6_restore_4 : decode cX6_restore 4 = .ok (.ifCond .le 42, 3) := by decide +kernel
theorem dX6_restore_7 : decode cX6_restore 7 = .ok (.aload_n 0, 1) := by decide +kernel
theorem dX6_restore_8 : decode cX6_restore 8 = .ok (.aload_n 0, 1) := by decide +kernel
theorem dX6_restore_9 : decode cX6_restore 9 = .ok (.getfield 20, 3) := by decide +kernel
theorem dX6_restore_12 : decode cX6_restore 12 = .ok (.bipush 8, 2) := by decide +kernel
theorem dX6_restore_14 : decode cX6_restore 14 = .ok (.iadd, 1) := by decide +kernel
theorem dX6_restore_15 : decode cX6_restore 15 = .ok (.iconst 1, 1) := by decide +kernel
theorem dX6_restore_16 : decode cX6_restore 16 = .ok (.isub, 1) := by decide +kernel
theorem dX6_restore_17 : decode cX6_restore 17 = .ok (.bipush 8, 2) := by decide +kernel
theorem dX6_restore_19 : decode cX6_restore 19 = .ok (.irem, 1) := by decide +kernel
theorem dX6_restore_20 : decode cX6_restore 20 = .ok (.putfield 20, 3) := by decide +kernel
theorem dX6_restore_23 : decode cX6_restore 23 = .ok (.aload_n 0, 1) := by decide +kernel
theorem dX6_restore_24 : decode cX6_restore 24 = .ok (.dup, 1) := by decide +kernel
theorem dX6_restore_25 : decode cX6_restore 25 = .ok (.getfield 28, 3) := by decide +kernel
theorem dX6_restore_28 : decode cX6_restore 28 = .ok (.iconst 1, 1) := by decide +kernel
theorem dX6_restore_29 : decode cX6_restore 29 = .ok (.isub, 1) := by decide +kernel
theorem dX6_restore_30 : decode cX6_restore 30 = .ok (.putfield 28, 3) := by decide +kernel
theorem dX6_restore_33 : decode cX6_restore 33 = .ok (.aload_n 1, 1) := by decide +kernel
theorem dX6_restore_34 : decode cX6_restore 34 = .ok (.aload_n 0, 1) := by decide +kernel
theorem dX6_restore_35 : decode cX6_restore 35 = .ok (.getfield 11, 3) := by decide +kernel
theorem dX6_restore_38 : decode cX6_restore 38 = .ok (.aload_n 0, 1) := by decide +kernel
theorem dX6_restore_39 : decode cX6_restore 39 = .ok (.getfield 20, 3) := by decide +kernel
theorem dX6_restore_42 : decode cX6_restore 42 = .ok (.aaload, 1) := by decide +kernel
theorem dX6_restore_43 : decode cX6_restore 43 = .ok (.invokevirtual 24, 3) := by decide +kernel
theorem dX6_restore_46 : decode cX6_restore 46 = .ok (.return_, 1) := by decide +kernel
theorem dX7_init_0 : decode cX7_init 0 = .ok (.aload_n 0, 1) := by decide +kernel
theorem dX7_init_1 : decode cX7_init 1 = .ok (.invokespecial 3, 3) := by decide +kernel
theorem dX7_init_4 : decode cX7_init 4 = .ok (.aload_n 0, 1) := by decide +kernel
theorem dX7_init_5 : decode cX7_init 5 = .ok (.bipush 6, 2) := by decide +kernel
theorem dX7_init_7 : decode cX7_init 7 = .ok (.newarray .int, 2) := by decide +kernel
theorem dX7_init_9 : decode cX7_init 9 = .ok (.putfield 9, 3) := by decide +kernel
theorem dX7_init_12 : decode cX7_init 12 = .ok (.aload_n 0, 1) := by decide +kernel
theorem dX7_init_13 : decode cX7_init 13 = .ok (.bipush 8, 2) := by decide +kernel
theorem dX7_init_15 : decode cX7_init 15 = .ok (.newarray .int, 2) := by decide +kernel
theorem dX7_init_17 : decode cX7_init 17 = .ok (.putfield 15, 3) := by decide +kernel
theorem dX7_init_20 : decode cX7_init 20 = .ok (.aload_n 0, 1) := by decide +kernel
theorem dX7_init_21 : decode cX7_init 21 = .ok (.bipush 8, 2) := by decide +kernel
theorem dX7_init_23 : decode cX7_init 23 = .ok (.newarray .int, 2) := by decide +kernel
theorem dX7_init_25 : decode cX7_init 25 = .ok (.putfield 18, 3) := by decide +kernel
theorem dX7_init_28 : decode cX7_init 28 = .ok (.aload_n 0, 1) := by decide +kernel
theorem dX7_init_29 : decode cX7_init 29 = .ok (.bipush 8, 2) := by decide +kernel
theorem dX7_init_31 : decode cX7_init 31 = .ok (.newarray .int, 2) := by decide +kernel
theorem dX7_init_33 : decode cX7_init 33 = .ok (.putfield 21, 3) := by decide +kernel
theorem dX7_init_36 : decode cX7_init 36 = .ok (.aload_n 0, 1) := by decide +kernel
theorem dX7_init_37 : decode cX7_init 37 = .ok (.iconst 4, 1) := by decide +kernel
theorem dX7_init_38 : decode cX7_init 38 = .ok (.newarray .int, 2) := by decide +kernel
theorem dX7_init_40 : decode cX7_init 40 = .ok (.putfield 24, 3) := by decide +kernel
theorem dX7_init_43 : decode cX7_init 43 = .ok (.aload_n 0, 1) := by decide +kernel
theorem dX7_init_44 : decode cX7_init 44 = .ok (.iconst 4, 1) := by decide +kernel
theorem dX7_init_45 : decode cX7_init 45 = .ok (.newarray .int, 2) := by decide +kernel
theorem dX7_init_47 : decode cX7_init 47 = .ok (.putfield 27, 3) := by decide +kernel
theorem dX7_init_50 : decode cX7_init 50 = .ok (.return_, 1) := by decide +kernel
theorem dX7_clear_0 : decode cX7_clear 0 = .ok (.aload_n 0, 1) := by decide +kernel
theorem dX7_clear_1 : decode cX7_clear 1 = .ok (.iconst 0, 1) := by decide +kernel
theorem dX7_clear_2 : decode cX7_clear 2 = .ok (.putfield 30, 3) := by decide +kernel
theorem dX7_clear_5 : decode cX7_clear 5 = .ok (.aload_n 0, 1) := by decide +kernel
theorem dX7_clear_6 : decode cX7_clear 6 = .ok (.iconst 0, 1) := by decide +kernel
theorem dX7_clear_7 : decode cX7_clear 7 = .ok (.putfield 34, 3) := by decide +kernel
theorem dX7_clear_10 : decode cX7_clear 10 = .ok (.aload_n 0, 1) := by decide +kernel
theorem dX7_clear_11 : decode cX7_clear 11 = .ok (.iconst 0, 1) := by decide +kernel
theorem dX7_clear_12 : decode cX7_clear 12 = .ok (.putfield 37, 3) := by decide +kernel
theorem dX7_clear_15 : decode cX7_clear 15 = .ok (.return_, 1) := by decide +kernel
theorem dX7_become_0 : decode cX7_become 0 = .ok (.aload_n 0, 1) := by decide +kernel
theorem dX7_become_1 : decode cX7_become 1 = .ok (.aload_n 1, 1) := by decide +kernel
theorem dX7_become_2 : decode cX7_become 2 = .ok (.getfield 30, 3) := by decide +kernel
theorem dX7_become_5 : decode cX7_become 5 = .ok (.putfield 30, 3) := by decide +kernel
theorem dX7_become_8 : decode cX7_become 8 = .ok (.aload_n 0, 1) := by decide +kernel
theorem dX7_become_9 : decode cX7_become 9 = .ok (.aload_n 1, 1) := by decide +kernel
theorem dX7_become_10 : decode cX7_become 10 = .ok (.getfield 34, 3) := by decide +kernel
theorem dX7_become_13 : decode cX7_become 13 = .ok (.putfield 34, 3) := by decide +kernel
theorem dX7_become_16 : decode cX7_become 16 = .ok (.aload_n 0, 1) := by decide +kernel
theorem dX7_become_17 : decode cX7_become 17 = .ok (.aload_n 1, 1) := by decide +kernel
theorem dX7_become_18 : decode cX7_become 18 = .ok (.getfield 37, 3) := by decide +kernel
theorem dX7_become_21 : decode cX7_become 21 = .ok (.putfield 37, 3) := by decide +kernel
theorem dX7_become_24 : decode cX7_become 24 = .ok (.aload_n 1, 1) := by decide +kernel
theorem dX7_become_25 : decode cX7_become 25 = .ok (.getfield 9, 3) := by decide +kernel
theorem dX7_become_28 : decode cX7_become 28 = .ok (.iconst 0, 1) := by decide +kernel
theorem dX7_become_29 : decode cX7_become 29 = .ok (.aload_n 0, 1) := by decide +kernel
theorem dX7_become_30 : decode cX7_become 30 = .ok (.getfield 9, 3) := by decide +kernel
theorem dX7_become_33 : decode cX7_become 33 = .ok (.iconst 0, 1) := by decide +kernel
theorem dX7_become_34 : decode cX7_become 34 = .ok (.bipush 6, 2) := by decide +kernel
theorem dX7_become_36 : decode cX7_become 36 = .ok (.invokestatic 40, 3) := by decide +kernel
theorem dX7_become_39 : decode cX7_become 39 = .ok (.aload_n 1, 1) := by decide +kernel
theorem dX7_become_40 : decode cX7_become 40 = .ok (.getfield 15, 3) := by decide +kernel
theorem dX7_become_43 : decode cX7_become 43 = .ok (.iconst 0, 1) := by decide +kernel
theorem dX7_become_44 : decode cX7_become 44 = .ok (.aload_n 0, 1) := by decide +kernel
theorem dX7_become_45 : decode cX7_become 45 = .ok (.getfield 15, 3) := by decide +kernel
theorem dX7_become_48 : decode cX7_become 48 = .ok (.iconst 0, 1) := by decide +kernel
theorem dX7_become_49 : decode cX7_become 49 = .ok (.bipush 8, 2) := by decide +kernel
theorem dX7_become_51 : decode cX7_become 51 = .ok (.invokestatic 40, 3) := by decide +kernel
theorem dX7_become_54 : decode cX7_become 54 = .ok (.aload_n 1, 1) := by decide +kernel
theorem dX7_become_55 : decode cX7_become 55 = .ok (.getfield 18, 3) := by decide +kernel
theorem dX7_become_58 : decode cX7_become 58 = .ok (.iconst 0, 1) := by decide +kernel
theorem dX7_become_59 : decode cX7_become 59 = .ok (.aload_n 0, 1) := by decide +kernel
theorem dX7_become_60 : decode cX7_become 60 = .ok (.getfield 18, 3) := by decide +kernel
theorem dX7_become_63 : decode cX7_become 63 = .ok (.iconst 0, 1) := by decide +kernel
theorem dX7_become_64 : decode cX7_become 64 = .ok (.bipush 8, 2) := by decide +kernel
theorem dX7_become_66 : decode cX7_become 66 = .ok (.invokestatic 40, 3) := by decide +kernel
theorem dX7_become_69 : decode cX7_become 69 = .ok (.aload_n 1, 1) := by decide +kernel
theorem dX7_become_70 : decode cX7_become 70 = .ok (.getfield 21, 3) := by decide +kernel
theorem dX7_become_73 : decode cX7_become 73 = .ok (.iconst 0, 1) := by decide +kernel
theorem dX7_become_74 : decode cX7_become 74 = .ok (.aload_n 0, 1) := by decide +kernel
theorem dX7_become_75 : decode cX7_become 75 = .ok (.getfield 21, 3) := by decide +kernel
theorem dX7_become_78 : decode cX7_become 78 = .ok (.iconst 0, 1) := by decide +kernel
theorem dX7_become_79 : decode cX7_become 79 = .ok (.bipush 8, 2) := by decide +kernel
theorem dX7_become_81 : decode cX7_become 81 = .ok (.invokestatic 40, 3) := by decide +kernel
theorem dX7_become_84 : decode cX7_become 84 = .ok (.aload_n 1, 1) := by decide +kernel
theorem dX7_become_85 : decode cX7_become 85 = .ok (.getfield 24, 3) := by decide +kernel
theorem dX7_become_88 : decode cX7_become 88 = .ok (.iconst 0, 1) := by decide +kernel
theorem dX7_become_89 : decode cX7_become 89 = .ok (.aload_n 0, 1) := by decide +kernel
theorem dX7_become_90 : decode cX7_become 90 = .ok (.getfield 24, 3) := by decide +kernel
theorem dX7_become_93 : decode cX7_become 93 = .ok (.iconst 0, 1) := by decide +kernel
theorem dX7_become_94 : decode cX7_become 94 = .ok (.iconst 4, 1) := by decide +kernel
theorem dX7_become_95 : decode cX7_become 95 = .ok (.invokestatic 40, 3) := by decide +kernel
theorem dX7_become_98 : decode cX7_become 98 = .ok (.aload_n 1, 1) := by decide +kernel
theorem dX7_become_99 : decode cX7_become 99 = .ok (.getfield 27, 3) := by decide +kernel
theorem dX7_become_102 : decode cX7_become 102 = .ok (.iconst 0, 1) := by decide +kernel
theorem dX7_become_103 : decode cX7_become 103 = .ok (.aload_n 0, 1) := by decide +kernel
theorem dX7_become_104 : decode cX7_become 104 = .ok (.getfield 27, 3) := by decide +kernel
theorem dX7_become_107 : decode cX7_become 107 = .ok (.iconst 0, 1) := by decide +kernel
theorem dX7_become_108 : decode cX7_become 108 = .ok (.iconst 4, 1) := by decide +kernel
theorem dX7_become_109 : decode cX7_become 109 = .ok (.invokestatic 40, 3) := by decide +kernel
theorem dX7_become_112 : decode cX7_become 112 = .ok (.return_, 1) := by decide +kernel
theorem dX7_hasInn_0 : decode cX7_hasInn 0 = .ok (.iload_n 1, 1) := by decide +kernel
theorem dX7_hasInn_1 : decode cX7_hasInn 1 = .ok (.ifCond .lt 15, 3) := by decide +kernel
theorem dX7_hasInn_4 : decode cX7_hasInn 4 = .ok (.iload_n 1, 1) := by decide +kernel
theorem dX7_hasInn_5 : decode cX7_hasInn 5 = .ok (.aload_n 0, 1) := by decide +kernel
theorem dX7_hasInn_6 : decode cX7_hasInn 6 = .ok (.getfield 30, 3) := by decide +kernel
theorem dX7_hasInn_9 : decode cX7_hasInn 9 = .ok (.if_icmp .ge 7, 3) := by decide +kernel
theorem dX7_hasInn_12 : decode cX7_hasInn 12 = .ok (.iconst 1, 1) := by decide +kernel
theorem dX7_hasInn_13 : decode cX7_hasInn 13 = .ok (.goto 4, 3) := by decide +kernel
theorem dX7_hasInn_16 : decode cX7_hasInn 16 = .ok (.iconst 0, 1) := by decide +kernel
theorem dX7_hasInn_17 : decode cX7_hasInn 17 = .ok (.ireturn, 1) := by decide +kernel
theorem dX7_hasHour_0 : decode cX7_hasHour 0 = .ok (.iload_n 1, 1) := by decide +kernel
theorem dX7_hasHour_1 : decode cX7_hasHour 1 = .ok (.ifCond .lt 15, 3) := by decide +kernel
theorem dX7_hasHour_4 : decode cX7_hasHour 4 = .ok (.iload_n 1, 1) := by decide +kernel
theorem dX7_hasHour_5 : decode cX7_hasHour 5 = .ok (.aload_n 0, 1) := by decide +kernel
theorem dX7_hasHour_6 : decode cX7_hasHour 6 = .ok (.getfield 34, 3) := by decide +kernel
theorem dX7_hasHour_9 : decode cX7_hasHour 9 = .ok (.if_icmp .ge 7, 3) := by decide +kernel
theorem dX7_hasHour_12 : decode cX7_hasHour 12 = .ok (.iconst 1, 1) := by decide +kernel
theorem dX7_hasHour_13 : decode cX7_hasHour 13 = .ok (.goto 4, 3) := by decide +kernel
theorem dX7_hasHour_16 : decode cX7_hasHour 16 = .ok (.iconst 0, 1) := by decide +kernel
theorem dX7_hasHour_17 : decode cX7_hasHour 17 = .ok (.ireturn, 1) := by decide +kernel
theorem dX7_hasRider_0 : decode cX7_hasRider 0 = .ok (.iload_n 1, 1) := by decide +kernel
theorem dX7_hasRider_1 : decode cX7_hasRider 1 = .ok (.ifCond .lt 15, 3) := by decide +kernel
theorem dX7_hasRider_4 : decode cX7_hasRider 4 = .ok (.iload_n 1, 1) := by decide +kernel
theorem dX7_hasRider_5 : decode cX7_hasRider 5 = .ok (.aload_n 0, 1) := by decide +kernel
theorem dX7_hasRider_6 : decode cX7_hasRider 6 = .ok (.getfield 37, 3) := by decide +kernel
theorem dX7_hasRider_9 : decode cX7_hasRider 9 = .ok (.if_icmp .ge 7, 3) := by decide +kernel
theorem dX7_hasRider_12 : decode cX7_hasRider 12 = .ok (.iconst 1, 1) := by decide +kernel
theorem dX7_hasRider_13 : decode cX7_hasRider 13 = .ok (.goto 4, 3) := by decide +kernel
theorem dX7_hasRider_16 : decode cX7_hasRider 16 = .ok (.iconst 0, 1) := by decide +kernel
theorem dX7_hasRider_17 : decode cX7_hasRider 17 = .ok (.ireturn, 1) := by decide +kernel
theorem dX7_addInn_0 : decode cX7_addInn 0 = .ok (.aload_n 0, 1) := by decide +kernel
theorem dX7_addInn_1 : decode cX7_addInn 1 = .ok (.getfield 30, 3) := by decide +kernel
theorem dX7_addInn_4 : decode cX7_addInn 4 = .ok (.bipush 6, 2) := by decide +kernel
theorem dX7_addInn_6 : decode cX7_addInn 6 = .ok (.if_icmp .ge 23, 3) := by decide +kernel
theorem dX7_addInn_9 : decode cX7_addInn 9 = .ok (.aload_n 0, 1) := by decide +kernel
theorem dX7_addInn_10 : decode cX7_addInn 10 = .ok (.getfield 9, 3) := by decide +kernel
theorem dX7_addInn_13 : decode cX7_addInn 13 = .ok (.aload_n 0, 1) := by decide +kernel
theorem dX7_addInn_14 : decode cX7_addInn 14 = .ok (.getfield 30, 3) := by decide +kernel
theorem dX7_addInn_17 : decode cX7_addInn 17 = .ok (.iload_n 1, 1) := by decide +kernel
theorem dX7_addInn_18 : decode cX7_addInn 18 = .ok (.iastore, 1) := by decide +kernel
theorem dX7_addInn_19 : decode cX7_addInn 19 = .ok (.aload_n 0, 1) := by decide +kernel
theorem dX7_addInn_20 : decode cX7_addInn 20 = .ok (.dup, 1) := by decide +kernel
theorem dX7_addInn_21 : decode cX7_addInn 21 = .ok (.getfield 30, 3) := by decide +kernel
theorem dX7_addInn_24 : decode cX7_addInn 24 = .ok (.iconst 1, 1) := by decide +kernel
theorem dX7_addInn_25 : decode cX7_addInn 25 = .ok (.iadd, 1) := by decide +kernel
theorem dX7_addInn_26 : decode cX7_addInn 26 = .ok (.putfield 30, 3) := by decide +kernel
theorem dX7_addInn_29 : decode cX7_addInn 29 = .ok (.return_, 1) := by decide +kernel
theorem dX7_addHour_0 : decode cX7_addHour 0 = .ok (.aload_n 0, 1) := by decide +kernel
theorem dX7_addHour_1 : decode cX7_addHour 1 = .ok (.getfield 34, 3) := by decide +kernel
theorem dX7_addHour_4 : decode cX7_addHour 4 = .ok (.bipush 8, 2) := by decide +kernel
theorem dX7_addHour_6 : decode cX7_addHour 6 = .ok (.if_icmp .ge 43, 3) := by decide +kernel
theorem dX7_addHour_9 : decode cX7_addHour 9 = .ok (.aload_n 0, 1) := by decide +kernel
theorem dX7_addHour_10 : decode cX7_addHour 10 = .ok (.getfield 15, 3) := by decide +kernel
theorem dX7_addHour_13 : decode cX7_addHour 13 = .ok (.aload_n 0, 1) := by decide +kernel
theorem dX7_addHour_14 : decode cX7_addHour 14 = .ok (.getfield 34, 3) := by decide +kernel
theorem dX7_addHour_17 : decode cX7_addHour 17 = .ok (.iload_n 1, 1) := by decide +kernel
theorem dX7_addHour_18 : decode cX7_addHour 18 = .ok (.iastore, 1) := by decide +kernel
theorem dX7_addHour_19 : decode cX7_addHour 19 = .ok (.aload_n 0, 1) := by decide +kernel
theorem dX7_addHour_20 : decode cX7_addHour 20 = .ok (.getfield 18, 3) := by decide +kernel
theorem dX7_addHour_23 : decode cX7_addHour 23 = .ok (.aload_n 0, 1) := by decide +kernel
theorem dX7_addHour_24 : decode cX7_addHour 24 = .ok (.getfield 34, 3) := by decide +kernel
theorem dX7_addHour_27 : decode cX7_addHour 27 = .ok (.iload_n 2, 1) := by decide +kernel
theorem dX7_addHour_28 : decode cX7_addHour 28 = .ok (.iastore, 1) := by decide +kernel
theorem dX7_addHour_29 : decode cX7_addHour 29 = .ok (.aload_n 0, 1) := by decide +kernel
theorem dX7_addHour_30 : decode cX7_addHour 30 = .ok (.getfield 21, 3) := by decide +kernel
theorem dX7_addHour_33 : decode cX7_addHour 33 = .ok (.aload_n 0, 1) := by decide +kernel
theorem dX7_addHour_34 : decode cX7_addHour 34 = .ok (.getfield 34, 3) := by decide +kernel
theorem dX7_addHour_37 : decode cX7_addHour 37 = .ok (.iload_n 3, 1) := by decide +kernel
theorem dX7_addHour_38 : decode cX7_addHour 38 = .ok (.iastore, 1) := by decide +kernel
theorem dX7_addHour_39 : decode cX7_addHour 39 = .ok (.aload_n 0, 1) := by decide +kernel
theorem dX7_addHour_40 : decode cX7_addHour 40 = .ok (.dup, 1) := by decide +kernel
theorem dX7_addHour_41 : decode cX7_addHour 41 = .ok (.getfield 34, 3) := by decide +kernel
theorem dX7_addHour_44 : decode cX7_addHour 44 = .ok (.iconst 1, 1) := by decide +kernel
theorem dX7_addHour_45 : decode cX7_addHour 45 = .ok (.iadd, 1) := by decide +kernel
theorem dX7_addHour_46 : decode cX7_addHour 46 = .ok (.putfield 34, 3) := by decide +kernel
theorem dX7_addHour_49 : decode cX7_addHour 49 = .ok (.return_, 1) := by decide +kernel
theorem dX7_addRider_0 : decode cX7_addRider 0 = .ok (.aload_n 0, 1) := by decide +kernel
theorem dX7_addRider_1 : decode cX7_addRider 1 = .ok (.getfield 37, 3) := by decide +kernel
theorem dX7_addRider_4 : decode cX7_addRider 4 = .ok (.iconst 4, 1) := by decide +kernel
theorem dX7_addRider_5 : decode cX7_addRider 5 = .ok (.if_icmp .ge 33, 3) := by decide +kernel
theorem dX7_addRider_8 : decode cX7_addRider 8 = .ok (.aload_n 0, 1) := by decide +kernel
theorem dX7_addRider_9 : decode cX7_addRider 9 = .ok (.getfield 24, 3) := by decide +kernel
theorem dX7_addRider_12 : decode cX7_addRider 12 = .ok (.aload_n 0, 1) := by decide +kernel
theorem dX7_addRider_13 : decode cX7_addRider 13 = .ok (.getfield 37, 3) := by decide +kernel
theorem dX7_addRider_16 : decode cX7_addRider 16 = .ok (.iload_n 1, 1) := by decide +kernel
theorem dX7_addRider_17 : decode cX7_addRider 17 = .ok (.iastore, 1) := by decide +kernel
theorem dX7_addRider_18 : decode cX7_addRider 18 = .ok (.aload_n 0, 1) := by decide +kernel
theorem dX7_addRider_19 : decode cX7_addRider 19 = .ok (.getfield 27, 3) := by decide +kernel
theorem dX7_addRider_22 : decode cX7_addRider 22 = .ok (.aload_n 0, 1) := by decide +kernel
theorem dX7_addRider_23 : decode cX7_addRider 23 = .ok (.getfield 37, 3) := by decide +kernel
theorem dX7_addRider_26 : decode cX7_addRider 26 = .ok (.iload_n 2, 1) := by decide +kernel
theorem dX7_addRider_27 : decode cX7_addRider 27 = .ok (.iastore, 1) := by decide +kernel
theorem dX7_addRider_28 : decode cX7_addRider 28 = .ok (.aload_n 0, 1) := by decide +kernel
theorem dX7_addRider_29 : decode cX7_addRider 29 = .ok (.dup, 1) := by decide +kernel
theorem dX7_addRider_30 : decode cX7_addRider 30 = .ok (.getfield 37, 3) := by decide +kernel
theorem dX7_addRider_33 : decode cX7_addRider 33 = .ok (.iconst 1, 1) := by decide +kernel
theorem dX7_addRider_34 : decode cX7_addRider 34 = .ok (.iadd, 1) := by decide +kernel
theorem dX7_addRider_35 : decode cX7_addRider 35 = .ok (.putfield 37, 3) := by decide +kernel
theorem dX7_addRider_38 : decode cX7_addRider 38 = .ok (.return_, 1) := by decide +kernel
theorem dX7_nextInn_0 : decode cX7_nextInn 0 = .ok (.iload_n 0, 1) := by decide +kernel
theorem dX7_nextInn_1 : decode cX7_nextInn 1 = .ok (.iload_n 1, 1) := by decide +kernel
theorem dX7_nextInn_2 : decode cX7_nextInn 2 = .ok (.iload_n 0, 1) := by decide +kernel
theorem dX7_nextInn_3 : decode cX7_nextInn 3 = .ok (.invokestatic 46, 3) := by decide +kernel
theorem dX7_nextInn_6 : decode cX7_nextInn 6 = .ok (.iadd, 1) := by decide +kernel
theorem dX7_nextInn_7 : decode cX7_nextInn 7 = .ok (.ireturn, 1) := by decide +kernel
theorem dX7_milesBetween_0 : decode cX7_milesBetween 0 = .ok (.iload_n 1, 1) := by decide +kernel
theorem dX7_milesBetween_1 : decode cX7_milesBetween 1 = .ok (.iload_n 2, 1) := by decide +kernel
theorem dX7_milesBetween_2 : decode cX7_milesBetween 2 = .ok (.invokestatic 52, 3) := by decide +kernel
theorem dX7_milesBetween_5 : decode cX7_milesBetween 5 = .ok (.istore_n 3, 1) := by decide +kernel
theorem dX7_milesBetween_6 : decode cX7_milesBetween 6 = .ok (.aload_n 0, 1) := by decide +kernel
theorem dX7_milesBetween_7 : decode cX7_milesBetween 7 = .ok (.iload_n 3, 1) := by decide +kernel
theorem dX7_milesBetween_8 : decode cX7_milesBetween 8 = .ok (.invokevirtual 57, 3) := by decide +kernel
theorem dX7_milesBetween_11 : decode cX7_milesBetween 11 = .ok (.ifCond .eq 12, 3) := by decide +kernel
theorem dX7_milesBetween_14 : decode cX7_milesBetween 14 = .ok (.aload_n 0, 1) := by decide +kernel
theorem dX7_milesBetween_15 : decode cX7_milesBetween 15 = .ok (.getfield 9, 3) := by decide +kernel
theorem dX7_milesBetween_18 : decode cX7_milesBetween 18 = .ok (.iload_n 3, 1) := by decide +kernel
theorem dX7_milesBetween_19 : decode cX7_milesBetween 19 = .ok (.iaload, 1) := by decide +kernel
theorem dX7_milesBetween_20 : decode cX7_milesBetween 20 = .ok (.goto 4, 3) := by decide +kernel
theorem dX7_milesBetween_23 : decode cX7_milesBetween 23 = .ok (.iconst 0, 1) := by decide +kernel
theorem dX7_milesBetween_24 : decode cX7_milesBetween 24 = .ok (.ireturn, 1) := by decide +kernel
theorem dX8_init_0 : decode cX8_init 0 = .ok (.aload_n 0, 1) := by decide +kernel
theorem dX8_init_1 : decode cX8_init 1 = .ok (.invokespecial 3, 3) := by decide +kernel
theorem dX8_init_4 : decode cX8_init 4 = .ok (.aload_n 0, 1) := by decide +kernel
theorem dX8_init_5 : decode cX8_init 5 = .ok (.iconst 4, 1) := by decide +kernel
theorem dX8_init_6 : decode cX8_init 6 = .ok (.anewarray 9, 3) := by decide +kernel
theorem dX8_init_9 : decode cX8_init 9 = .ok (.putfield 11, 3) := by decide +kernel
theorem dX8_init_12 : decode cX8_init 12 = .ok (.iconst 0, 1) := by decide +kernel
theorem dX8_init_13 : decode cX8_init 13 = .ok (.istore_n 1, 1) := by decide +kernel
theorem dX8_init_14 : decode cX8_init 14 = .ok (.iload_n 1, 1) := by decide +kernel
theorem dX8_init_15 : decode cX8_init 15 = .ok (.aload_n 0, 1) := by decide +kernel
theorem dX8_init_16 : decode cX8_init 16 = .ok (.getfield 11, 3) := by decide +kernel
theorem dX8_init_19 : decode cX8_init 19 = .ok (.arraylength, 1) := by decide +kernel
theorem dX8_init_20 : decode cX8_init 20 = .ok (.if_icmp .ge 22, 3) := by decide +kernel
theorem dX8_init_23 : decode cX8_init 23 = .ok (.aload_n 0, 1) := by decide +kernel
theorem dX8_init_24 : decode cX8_init 24 = .ok (.getfield 11, 3) := by decide +kernel
theorem dX8_init_27 : decode cX8_init 27 = .ok (.iload_n 1, 1) := by decide +kernel
theorem dX8_init_28 : decode cX8_init 28 = .ok (.new 9, 3) := by decide +kernel
theorem dX8_init_31 : decode cX8_init 31 = .ok (.dup, 1) := by decide +kernel
theorem dX8_init_32 : decode cX8_init 32 = .ok (.invokespecial 17, 3) := by decide +kernel
theorem dX8_init_35 : decode cX8_init 35 = .ok (.aastore, 1) := by decide +kernel
theorem dX8_init_36 : decode cX8_init 36 = .ok (.iinc 1 1, 3) := by decide +kernel
theorem dX8_init_39 : decode cX8_init 39 = .ok (.goto (-25), 3) := by decide +kernel
theorem dX8_init_42 : decode cX8_init 42 = .ok (.return_, 1) := by decide +kernel
theorem dX8_hasPlace_0 : decode cX8_hasPlace 0 = .ok (.iload_n 1, 1) := by decide +kernel
theorem dX8_hasPlace_1 : decode cX8_hasPlace 1 = .ok (.ifCond .lt 12, 3) := by decide +kernel
theorem dX8_hasPlace_4 : decode cX8_hasPlace 4 = .ok (.iload_n 1, 1) := by decide +kernel
theorem dX8_hasPlace_5 : decode cX8_hasPlace 5 = .ok (.iconst 4, 1) := by decide +kernel
theorem dX8_hasPlace_6 : decode cX8_hasPlace 6 = .ok (.if_icmp .ge 7, 3) := by decide +kernel
theorem dX8_hasPlace_9 : decode cX8_hasPlace 9 = .ok (.iconst 1, 1) := by decide +kernel
theorem dX8_hasPlace_10 : decode cX8_hasPlace 10 = .ok (.goto 4, 3) := by decide +kernel
theorem dX8_hasPlace_13 : decode cX8_hasPlace 13 = .ok (.iconst 0, 1) := by decide +kernel
theorem dX8_hasPlace_14 : decode cX8_hasPlace 14 = .ok (.ireturn, 1) := by decide +kernel
theorem dX8_closeAll_0 : decode cX8_closeAll 0 = .ok (.iconst 0, 1) := by decide +kernel
theorem dX8_closeAll_1 : decode cX8_closeAll 1 = .ok (.istore_n 1, 1) := by decide +kernel
theorem dX8_closeAll_2 : decode cX8_closeAll 2 = .ok (.iload_n 1, 1) := by decide +kernel
theorem dX8_closeAll_3 : decode cX8_closeAll 3 = .ok (.iconst 4, 1) := by decide +kernel
theorem dX8_closeAll_4 : decode cX8_closeAll 4 = .ok (.if_icmp .ge 18, 3) := by decide +kernel
theorem dX8_closeAll_7 : decode cX8_closeAll 7 = .ok (.aload_n 0, 1) := by decide +kernel
theorem dX8_closeAll_8 : decode cX8_closeAll 8 = .ok (.getfield 11, 3) := by decide +kernel
theorem dX8_closeAll_11 : decode cX8_closeAll 11 = .ok (.iload_n 1, 1) := by decide +kernel
theorem dX8_closeAll_12 : decode cX8_closeAll 12 = .ok (.aaload, 1) := by decide +kernel
theorem dX8_closeAll_13 : decode cX8_closeAll 13 = .ok (.invokevirtual 18, 3) := by decide +kernel
theorem dX8_closeAll_16 : decode cX8_closeAll 16 = .ok (.iinc 1 1, 3) := by decide +kernel
theorem dX8_closeAll_19 : decode cX8_closeAll 19 = .ok (.goto (-17), 3) := by decide +kernel
theorem dX8_closeAll_22 : decode cX8_closeAll 22 = .ok (.return_, 1) := by decide +kernel
theorem dX8_openBooks_0 : decode cX8_openBooks 0 = .ok (.iconst 0, 1) := by decide +kernel
theorem dX8_openBooks_1 : decode cX8_openBooks 1 = .ok (.istore_n 1, 1) := by decide +kernel
theorem dX8_openBooks_2 : decode cX8_openBooks 2 = .ok (.iconst 0, 1) := by decide +kernel
theorem dX8_openBooks_3 : decode cX8_openBooks 3 = .ok (.istore_n 2, 1) := by decide +kernel
theorem dX8_openBooks_4 : decode cX8_openBooks 4 = .ok (.iload_n 2, 1) := by decide +kernel
theorem dX8_openBooks_5 : decode cX8_openBooks 5 = .ok (.iconst 4, 1) := by decide +kernel
theorem dX8_openBooks_6 : decode cX8_openBooks 6 = .ok (.if_icmp .ge 24, 3) := by decide +kernel
theorem dX8_openBooks_9 : decode cX8_openBooks 9 = .ok (.aload_n 0, 1) := by decide +kernel
theorem dX8_openBooks_10 : decode cX8_openBooks 10 = .ok (.getfield 11, 3) := by decide +kernel
theorem dX8_openBooks_13 : decode cX8_openBooks 13 = .ok (.iload_n 2, 1) := by decide +kernel
theorem dX8_openBooks_14 : decode cX8_openBooks 14 = .ok (.aaload, 1) := by decide +kernel
theorem dX8_openBooks_15 : decode cX8_openBooks 15 = .ok (.invokevirtual 21, 3) := by decide +kernel
theorem dX8_openBooks_18 : decode cX8_openBooks 18 = .ok (.ifCond .ne 6, 3) := by decide +kernel
theorem dX8_openBooks_21 : decode cX8_openBooks 21 = .ok (.iinc 1 1, 3) := by decide +kernel
theorem dX8_openBooks_24 : decode cX8_openBooks 24 = .ok (.iinc 2 1, 3) := by decide +kernel
theorem dX8_openBooks_27 : decode cX8_openBooks 27 = .ok (.goto (-23), 3) := by decide +kernel
theorem dX8_openBooks_30 : decode cX8_openBooks 30 = .ok (.iload_n 1, 1) := by decide +kernel
theorem dX8_openBooks_31 : decode cX8_openBooks 31 = .ok (.ireturn, 1) := by decide +kernel
theorem dX8_reachFrom_0 : decode cX8_reachFrom 0 = .ok (.iconst 1, 1) := by decide +kernel
theorem dX8_reachFrom_1 : decode cX8_reachFrom 1 = .ok (.iload_n 1, 1) := by decide +kernel
theorem dX8_reachFrom_2 : decode cX8_reachFrom 2 = .ok (.ishl, 1) := by decide +kernel
theorem dX8_reachFrom_3 : decode cX8_reachFrom 3 = .ok (.istore_n 2, 1) := by decide +kernel
theorem dX8_reachFrom_4 : decode cX8_reachFrom 4 = .ok (.iconst 1, 1) := by decide +kernel
theorem dX8_reachFrom_5 : decode cX8_reachFrom 5 = .ok (.istore_n 3, 1) := by decide +kernel
theorem dX8_reachFrom_6 : decode cX8_reachFrom 6 = .ok (.iload_n 3, 1) := by decide +kernel
theorem dX8_reachFrom_7 : decode cX8_reachFrom 7 = .ok (.iconst 4, 1) := by decide +kernel
theorem dX8_reachFrom_8 : decode cX8_reachFrom 8 = .ok (.if_icmp .ge 17, 3) := by decide +kernel
theorem dX8_reachFrom_11 : decode cX8_reachFrom 11 = .ok (.iload_n 2, 1) := by decide +kernel
theorem dX8_reachFrom_12 : decode cX8_reachFrom 12 = .ok (.aload_n 0, 1) := by decide +kernel
theorem dX8_reachFrom_13 : decode cX8_reachFrom 13 = .ok (.iload_n 2, 1) := by decide +kernel
theorem dX8_reachFrom_14 : decode cX8_reachFrom 14 = .ok (.invokevirtual 25, 3) := by decide +kernel
theorem dX8_reachFrom_17 : decode cX8_reachFrom 17 = .ok (.ior, 1) := by decide +kernel
theorem dX8_reachFrom_18 : decode cX8_reachFrom 18 = .ok (.istore_n 2, 1) := by decide +kernel
theorem dX8_reachFrom_19 : decode cX8_reachFrom 19 = .ok (.iinc 3 1, 3) := by decide +kernel
theorem dX8_reachFrom_22 : decode cX8_reachFrom 22 = .ok (.goto (-16), 3) := by decide +kernel
theorem dX8_reachFrom_25 : decode cX8_reachFrom 25 = .ok (.iload_n 2, 1) := by decide +kernel
theorem dX8_reachFrom_26 : decode cX8_reachFrom 26 = .ok (.ireturn, 1) := by decide +kernel
theorem dX8_toldByAll_0 : decode cX8_toldByAll 0 = .ok (.iconst 0, 1) := by decide +kernel
theorem dX8_toldByAll_1 : decode cX8_toldByAll 1 = .ok (.istore_n 2, 1) := by decide +kernel
theorem dX8_toldByAll_2 : decode cX8_toldByAll 2 = .ok (.iconst 0, 1) := by decide +kernel
theorem dX8_toldByAll_3 : decode cX8_toldByAll 3 = .ok (.istore_n 3, 1) := by decide +kernel
theorem dX8_toldByAll_4 : decode cX8_toldByAll 4 = .ok (.iload_n 3, 1) := by decide +kernel
theorem dX8_toldByAll_5 : decode cX8_toldByAll 5 = .ok (.iconst 4, 1) := by decide +kernel
theorem dX8_toldByAll_6 : decode cX8_toldByAll 6 = .ok (.if_icmp .ge 29, 3) := by decide +kernel
theorem dX8_toldByAll_9 : decode cX8_toldByAll 9 = .ok (.iload_n 1, 1) := by decide +kernel
theorem dX8_toldByAll_10 : decode cX8_toldByAll 10 = .ok (.iload_n 3, 1) := by decide +kernel
theorem dX8_toldByAll_11 : decode cX8_toldByAll 11 = .ok (.ishr, 1) := by decide +kernel
theorem dX8_toldByAll_12 : decode cX8_toldByAll 12 = .ok (.iconst 1, 1) := by decide +kernel
theorem dX8_toldByAll_13 : decode cX8_toldByAll 13 = .ok (.iand, 1) := by decide +kernel
theorem dX8_toldByAll_14 : decode cX8_toldByAll 14 = .ok (.ifCond .eq 15, 3) := by decide +kernel
theorem dX8_toldByAll_17 : decode cX8_toldByAll 17 = .ok (.iload_n 2, 1) := by decide +kernel
theorem dX8_toldByAll_18 : decode cX8_toldByAll 18 = .ok (.aload_n 0, 1) := by decide +kernel
theorem dX8_toldByAll_19 : decode cX8_toldByAll 19 = .ok (.getfield 11, 3) := by decide +kernel
theorem dX8_toldByAll_22 : decode cX8_toldByAll 22 = .ok (.iload_n 3, 1) := by decide +kernel
theorem dX8_toldByAll_23 : decode cX8_toldByAll 23 = .ok (.aaload, 1) := by decide +kernel
theorem dX8_toldByAll_24 : decode cX8_toldByAll 24 = .ok (.invokevirtual 29, 3) := by decide +kernel
theorem dX8_toldByAll_27 : decode cX8_toldByAll 27 = .ok (.ior, 1) := by decide +kernel
theorem dX8_toldByAll_28 : decode cX8_toldByAll 28 = .ok (.istore_n 2, 1) := by decide +kernel
theorem dX8_toldByAll_29 : decode cX8_toldByAll 29 = .ok (.iinc 3 1, 3) := by decide +kernel
theorem dX8_toldByAll_32 : decode cX8_toldByAll 32 = .ok (.goto (-28), 3) := by decide +kernel
theorem dX8_toldByAll_35 : decode cX8_toldByAll 35 = .ok (.aload_n 0, 1) := by decide +kernel
theorem dX8_toldByAll_36 : decode cX8_toldByAll 36 = .ok (.iload_n 2, 1) := by decide +kernel
theorem dX8_toldByAll_37 : decode cX8_toldByAll 37 = .ok (.invokevirtual 33, 3) := by decide +kernel
theorem dX8_toldByAll_40 : decode cX8_toldByAll 40 = .ok (.ireturn, 1) := by decide +kernel
theorem dX8_withoutMissing_0 : decode cX8_withoutMissing 0 = .ok (.iload_n 1, 1) := by decide +kernel
theorem dX8_withoutMissing_1 : decode cX8_withoutMissing 1 = .ok (.istore_n 2, 1) := by decide +kernel
theorem dX8_withoutMissing_2 : decode cX8_withoutMissing 2 = .ok (.iconst 0, 1) := by decide +kernel
theorem dX8_withoutMissing_3 : decode cX8_withoutMissing 3 = .ok (.istore_n 3, 1) := by decide +kernel
theorem dX8_withoutMissing_4 : decode cX8_withoutMissing 4 = .ok (.iload_n 3, 1) := by decide +kernel
theorem dX8_withoutMissing_5 : decode cX8_withoutMissing 5 = .ok (.iconst 4, 1) := by decide +kernel
theorem dX8_withoutMissing_6 : decode cX8_withoutMissing 6 = .ok (.if_icmp .ge 29, 3) := by decide +kernel
theorem dX8_withoutMissing_9 : decode cX8_withoutMissing 9 = .ok (.aload_n 0, 1) := by decide +kernel
theorem dX8_withoutMissing_10 : decode cX8_withoutMissing 10 = .ok (.getfield 11, 3) := by decide +kernel
theorem dX8_withoutMissing_13 : decode cX8_withoutMissing 13 = .ok (.iload_n 3, 1) := by decide +kernel
theorem dX8_withoutMissing_14 : decode cX8_withoutMissing 14 = .ok (.aaload, 1) := by decide +kernel
theorem dX8_withoutMissing_15 : decode cX8_withoutMissing 15 = .ok (.invokevirtual 21, 3) := by decide +kernel
theorem dX8_withoutMissing_18 : decode cX8_withoutMissing 18 = .ok (.ifCond .eq 11, 3) := by decide +kernel
theorem dX8_withoutMissing_21 : decode cX8_withoutMissing 21 = .ok (.iload_n 2, 1) := by decide +kernel
theorem dX8_withoutMissing_22 : decode cX8_withoutMissing 22 = .ok (.iconst 1, 1) := by decide +kernel
theorem dX8_withoutMissing_23 : decode cX8_withoutMissing 23 = .ok (.iload_n 3, 1) := by decide +kernel
theorem dX8_withoutMissing_24 : decode cX8_withoutMissing 24 = .ok (.ishl, 1) := by decide +kernel
theorem dX8_withoutMissing_25 : decode cX8_withoutMissing 25 = .ok (.iconst (-1), 1) := by decide +kernel
theorem dX8_withoutMissing_26 : decode cX8_withoutMissing 26 = .ok (.ixor, 1) := by decide +kernel
theorem dX8_withoutMissing_27 : decode cX8_withoutMissing 27 = .ok (.iand, 1) := by decide +kernel
theorem dX8_withoutMissing_28 : decode cX8_withoutMissing 28 = .ok (.istore_n 2, 1) := by decide +kernel
theorem dX8_withoutMissing_29 : decode cX8_withoutMissing 29 = .ok (.iinc 3 1, 3) := by decide +kernel
theorem dX8_withoutMissing_32 : decode cX8_withoutMissing 32 = .ok (.goto (-28), 3) := by decide +kernel
theorem dX8_withoutMissing_35 : decode cX8_withoutMissing 35 = .ok (.iload_n 2, 1) := by decide +kernel
theorem dX8_withoutMissing_36 : decode cX8_withoutMissing 36 = .ok (.ireturn, 1) := by decide +kernel
theorem dX8_weightOf_0 : decode cX8_weightOf 0 = .ok (.ldc 36, 2) := by decide +kernel
theorem dX8_weightOf_2 : decode cX8_weightOf 2 = .ok (.istore_n 2, 1) := by decide +kernel
theorem dX8_weightOf_3 : decode cX8_weightOf 3 = .ok (.iconst 0, 1) := by decide +kernel
theorem dX8_weightOf_4 : decode cX8_weightOf 4 = .ok (.istore_n 3, 1) := by decide +kernel
theorem dX8_weightOf_5 : decode cX8_weightOf 5 = .ok (.iload_n 3, 1) := by decide +kernel
theorem dX8_weightOf_6 : decode cX8_weightOf 6 = .ok (.iconst 4, 1) := by decide +kernel
theorem dX8_weightOf_7 : decode cX8_weightOf 7 = .ok (.if_icmp .ge 29, 3) := by decide +kernel
theorem dX8_weightOf_10 : decode cX8_weightOf 10 = .ok (.iload_n 1, 1) := by decide +kernel
theorem dX8_weightOf_11 : decode cX8_weightOf 11 = .ok (.iload_n 3, 1) := by decide +kernel
theorem dX8_weightOf_12 : decode cX8_weightOf 12 = .ok (.ishr, 1) := by decide +kernel
theorem dX8_weightOf_13 : decode cX8_weightOf 13 = .ok (.iconst 1, 1) := by decide +kernel
theorem dX8_weightOf_14 : decode cX8_weightOf 14 = .ok (.iand, 1) := by decide +kernel
theorem dX8_weightOf_15 : decode cX8_weightOf 15 = .ok (.ifCond .eq 15, 3) := by decide +kernel
theorem dX8_weightOf_18 : decode cX8_weightOf 18 = .ok (.iload_n 2, 1) := by decide +kernel
theorem dX8_weightOf_19 : decode cX8_weightOf 19 = .ok (.aload_n 0, 1) := by decide +kernel
theorem dX8_weightOf_20 : decode cX8_weightOf 20 = .ok (.getfield 11, 3) := by decide +kernel
theorem dX8_weightOf_23 : decode cX8_weightOf 23 = .ok (.iload_n 3, 1) := by decide +kernel
theorem dX8_weightOf_24 : decode cX8_weightOf 24 = .ok (.aaload, 1) := by decide +kernel
theorem dX8_weightOf_25 : decode cX8_weightOf 25 = .ok (.invokevirtual 37, 3) := by decide +kernel
theorem dX8_weightOf_28 : decode cX8_weightOf 28 = .ok (.iadd, 1) := by decide +kernel
theorem dX8_weightOf_29 : decode cX8_weightOf 29 = .ok (.istore_n 2, 1) := by decide +kernel
theorem dX8_weightOf_30 : decode cX8_weightOf 30 = .ok (.iinc 3 1, 3) := by decide +kernel
theorem dX8_weightOf_33 : decode cX8_weightOf 33 = .ok (.goto (-28), 3) := by decide +kernel
theorem dX8_weightOf_36 : decode cX8_weightOf 36 = .ok (.iload_n 2, 1) := by decide +kernel
theorem dX8_weightOf_37 : decode cX8_weightOf 37 = .ok (.ireturn, 1) := by decide +kernel
theorem dX9_init_0 : decode cX9_init 0 = .ok (.aload_n 0, 1) := by decide +kernel
theorem dX9_init_1 : decode cX9_init 1 = .ok (.invokespecial 3, 3) := by decide +kernel
theorem dX9_init_4 : decode cX9_init 4 = .ok (.aload_n 0, 1) := by decide +kernel
theorem dX9_init_5 : decode cX9_init 5 = .ok (.bipush 6, 2) := by decide +kernel
theorem dX9_init_7 : decode cX9_init 7 = .ok (.newarray .int, 2) := by decide +kernel
theorem dX9_init_9 : decode cX9_init 9 = .ok (.putfield 11, 3) := by decide +kernel
theorem dX9_init_12 : decode cX9_init 12 = .ok (.aload_n 0, 1) := by decide +kernel
theorem dX9_init_13 : decode cX9_init 13 = .ok (.bipush 6, 2) := by decide +kernel
theorem dX9_init_15 : decode cX9_init 15 = .ok (.newarray .int, 2) := by decide +kernel
theorem dX9_init_17 : decode cX9_init 17 = .ok (.putfield 15, 3) := by decide +kernel
theorem dX9_init_20 : decode cX9_init 20 = .ok (.aload_n 0, 1) := by decide +kernel
theorem dX9_init_21 : decode cX9_init 21 = .ok (.bipush 6, 2) := by decide +kernel
theorem dX9_init_23 : decode cX9_init 23 = .ok (.newarray .int, 2) := by decide +kernel
theorem dX9_init_25 : decode cX9_init 25 = .ok (.putfield 18, 3) := by decide +kernel
theorem dX9_init_28 : decode cX9_init 28 = .ok (.return_, 1) := by decide +kernel
theorem dX9_append_0 : decode cX9_append 0 = .ok (.aload_n 0, 1) := by decide +kernel
theorem dX9_append_1 : decode cX9_append 1 = .ok (.getfield 21, 3) := by decide +kernel
theorem dX9_append_4 : decode cX9_append 4 = .ok (.bipush 6, 2) := by decide +kernel
theorem dX9_append_6 : decode cX9_append 6 = .ok (.if_icmp .ge 43, 3) := by decide +kernel
theorem dX9_append_9 : decode cX9_append 9 = .ok (.aload_n 0, 1) := by decide +kernel
theorem dX9_append_10 : decode cX9_append 10 = .ok (.getfield 11, 3) := by decide +kernel
theorem dX9_append_13 : decode cX9_append 13 = .ok (.aload_n 0, 1) := by decide +kernel
theorem dX9_append_14 : decode cX9_append 14 = .ok (.getfield 21, 3) := by decide +kernel
theorem dX9_append_17 : decode cX9_append 17 = .ok (.iload_n 1, 1) := by decide +kernel
theorem dX9_append_18 : decode cX9_append 18 = .ok (.iastore, 1) := by decide +kernel
theorem dX9_append_19 : decode cX9_append 19 = .ok (.aload_n 0, 1) := by decide +kernel
theorem dX9_append_20 : decode cX9_append 20 = .ok (.getfield 15, 3) := by decide +kernel
theorem dX9_append_23 : decode cX9_append 23 = .ok (.aload_n 0, 1) := by decide +kernel
theorem dX9_append_24 : decode cX9_append 24 = .ok (.getfield 21, 3) := by decide +kernel
theorem dX9_append_27 : decode cX9_append 27 = .ok (.iload_n 2, 1) := by decide +kernel
theorem dX9_append_28 : decode cX9_append 28 = .ok (.iastore, 1) := by decide +kernel
theorem dX9_append_29 : decode cX9_append 29 = .ok (.aload_n 0, 1) := by decide +kernel
theorem dX9_append_30 : decode cX9_append 30 = .ok (.getfield 18, 3) := by decide +kernel
theorem dX9_append_33 : decode cX9_append 33 = .ok (.aload_n 0, 1) := by decide +kernel
theorem dX9_append_34 : decode cX9_append 34 = .ok (.getfield 21, 3) := by decide +kernel
theorem dX9_append_37 : decode cX9_append 37 = .ok (.iload_n 3, 1) := by decide +kernel
theorem dX9_append_38 : decode cX9_append 38 = .ok (.iastore, 1) := by decide +kernel
theorem dX9_append_39 : decode cX9_append 39 = .ok (.aload_n 0, 1) := by decide +kernel
theorem dX9_append_40 : decode cX9_append 40 = .ok (.dup, 1) := by decide +kernel
theorem dX9_append_41 : decode cX9_append 41 = .ok (.getfield 21, 3) := by decide +kernel
theorem dX9_append_44 : decode cX9_append 44 = .ok (.iconst 1, 1) := by decide +kernel
theorem dX9_append_45 : decode cX9_append 45 = .ok (.iadd, 1) := by decide +kernel
theorem dX9_append_46 : decode cX9_append 46 = .ok (.putfield 21, 3) := by decide +kernel
theorem dX9_append_49 : decode cX9_append 49 = .ok (.return_, 1) := by decide +kernel
theorem dX9_clear_0 : decode cX9_clear 0 = .ok (.aload_n 0, 1) := by decide +kernel
theorem dX9_clear_1 : decode cX9_clear 1 = .ok (.iconst 0, 1) := by decide +kernel
theorem dX9_clear_2 : decode cX9_clear 2 = .ok (.putfield 21, 3) := by decide +kernel
theorem dX9_clear_5 : decode cX9_clear 5 = .ok (.return_, 1) := by decide +kernel
theorem dX9_fittingKinds_0 : decode cX9_fittingKinds 0 = .ok (.iconst 0, 1) := by decide +kernel
theorem dX9_fittingKinds_1 : decode cX9_fittingKinds 1 = .ok (.istore_n 1, 1) := by decide +kernel
theorem dX9_fittingKinds_2 : decode cX9_fittingKinds 2 = .ok (.iconst 0, 1) := by decide +kernel
theorem dX9_fittingKinds_3 : decode cX9_fittingKinds 3 = .ok (.istore_n 2, 1) := by decide +kernel
theorem dX9_fittingKinds_4 : decode cX9_fittingKinds 4 = .ok (.iload_n 2, 1) := by decide +kernel
theorem dX9_fittingKinds_5 : decode cX9_fittingKinds 5 = .ok (.iconst 5, 1) := by decide +kernel
theorem dX9_fittingKinds_6 : decode cX9_fittingKinds 6 = .ok (.if_icmp .ge 23, 3) := by decide +kernel
theorem dX9_fittingKinds_9 : decode cX9_fittingKinds 9 = .ok (.aload_n 0, 1) := by decide +kernel
theorem dX9_fittingKinds_10 : decode cX9_fittingKinds 10 = .ok (.iload_n 2, 1) := by decide +kernel
theorem dX9_fittingKinds_11 : decode cX9_fittingKinds 11 = .ok (.invokevirtual 27, 3) := by decide +kernel
theorem dX9_fittingKinds_14 : decode cX9_fittingKinds 14 = .ok (.ifCond .eq 9, 3) := by decide +kernel
theorem dX9_fittingKinds_17 : decode cX9_fittingKinds 17 = .ok (.iload_n 1, 1) := by decide +kernel
theorem dX9_fittingKinds_18 : decode cX9_fittingKinds 18 = .ok (.iconst 1, 1) := by decide +kernel
theorem dX9_fittingKinds_19 : decode cX9_fittingKinds 19 = .ok (.iload_n 2, 1) := by decide +kernel
theorem dX9_fittingKinds_20 : decode cX9_fittingKinds 20 = .ok (.ishl, 1) := by decide +kernel
theorem dX9_fittingKinds_21 : decode cX9_fittingKinds 21 = .ok (.ior, 1) := by decide +kernel
theorem dX9_fittingKinds_22 : decode cX9_fittingKinds 22 = .ok (.istore_n 1, 1) := by decide +kernel
theorem dX9_fittingKinds_23 : decode cX9_fittingKinds 23 = .ok (.iinc 2 1, 3) := by decide +kernel
theorem dX9_fittingKinds_26 : decode cX9_fittingKinds 26 = .ok (.goto (-22), 3) := by decide +kernel
theorem dX9_fittingKinds_29 : decode cX9_fittingKinds 29 = .ok (.iload_n 1, 1) := by decide +kernel
theorem dX9_fittingKinds_30 : decode cX9_fittingKinds 30 = .ok (.ireturn, 1) := by decide +kernel
theorem dX9_fits_0 : decode cX9_fits 0 = .ok (.iconst 0, 1) := by decide +kernel
theorem dX9_fits_1 : decode cX9_fits 1 = .ok (.istore_n 2, 1) := by decide +kernel
theorem dX9_fits_2 : decode cX9_fits 2 = .ok (.iload_n 2, 1) := by decide +kernel
theorem dX9_fits_3 : decode cX9_fits 3 = .ok (.aload_n 0, 1) := by decide +kernel
theorem dX9_fits_4 : decode cX9_fits 4 = .ok (.getfield 21, 3) := by decide +kernel
theorem dX9_fits_7 : decode cX9_fits 7 = .ok (.if_icmp .ge 49, 3) := by decide +kernel
theorem dX9_fits_10 : decode cX9_fits 10 = .ok (.iload_n 1, 1) := by decide +kernel
theorem dX9_fits_11 : decode cX9_fits 11 = .ok (.aload_n 0, 1) := by decide +kernel
theorem dX9_fits_12 : decode cX9_fits 12 = .ok (.getfield 11, 3) := by decide +kernel
theorem dX9_fits_15 : decode cX9_fits 15 = .ok (.iload_n 2, 1) := by decide +kernel
theorem dX9_fits_16 : decode cX9_fits 16 = .ok (.iaload, 1) := by decide +kernel
theorem dX9_fits_17 : decode cX9_fits 17 = .ok (.invokestatic 31, 3) := by decide +kernel
theorem dX9_fits_20 : decode cX9_fits 20 = .ok (.aload_n 0, 1) := by decide +kernel
theorem dX9_fits_21 : decode cX9_fits 21 = .ok (.getfield 15, 3) := by decide +kernel
theorem dX9_fits_24 : decode cX9_fits 24 = .ok (.iload_n 2, 1) := by decide +kernel
theorem dX9_fits_25 : decode cX9_fits 25 = .ok (.iaload, 1) := by decide +kernel
theorem dX9_fits_26 : decode cX9_fits 26 = .ok (.if_icmp .ne 22, 3) := by decide +kernel
theorem dX9_fits_29 : decode cX9_fits 29 = .ok (.iload_n 1, 1) := by decide +kernel
theorem dX9_fits_30 : decode cX9_fits 30 = .ok (.aload_n 0, 1) := by decide +kernel
theorem dX9_fits_31 : decode cX9_fits 31 = .ok (.getfield 11, 3) := by decide +kernel
theorem dX9_fits_34 : decode cX9_fits 34 = .ok (.iload_n 2, 1) := by decide +kernel
theorem dX9_fits_35 : decode cX9_fits 35 = .ok (.iaload, 1) := by decide +kernel
theorem dX9_fits_36 : decode cX9_fits 36 = .ok (.invokestatic 35, 3) := by decide +kernel
theorem dX9_fits_39 : decode cX9_fits 39 = .ok (.aload_n 0, 1) := by decide +kernel
theorem dX9_fits_40 : decode cX9_fits 40 = .ok (.getfield 18, 3) := by decide +kernel
theorem dX9_fits_43 : decode cX9_fits 43 = .ok (.iload_n 2, 1) := by decide +kernel
theorem dX9_fits_44 : decode cX9_fits 44 = .ok (.iaload, 1) := by decide +kernel
theorem dX9_fits_45 : decode cX9_fits 45 = .ok (.if_icmp .eq 5, 3) := by decide +kernel
theorem dX9_fits_48 : decode cX9_fits 48 = .ok (.iconst 0, 1) := by decide +kernel
theorem dX9_fits_49 : decode cX9_fits 49 = .ok (.ireturn, 1) := by decide +kernel
theorem dX9_fits_50 : decode cX9_fits 50 = .ok (.iinc 2 1, 3) := by decide +kernel
theorem dX9_fits_53 : decode cX9_fits 53 = .ok (.goto (-51), 3) := by decide +kernel
theorem dX9_fits_56 : decode cX9_fits 56 = .ok (.iconst 1, 1) := by decide +kernel
theorem dX9_fits_57 : decode cX9_fits 57 = .ok (.ireturn, 1) := by decide +kernel
theorem dX9_bestMiles_0 : decode cX9_bestMiles 0 = .ok (.aload_n 0, 1) := by decide +kernel
theorem dX9_bestMiles_1 : decode cX9_bestMiles 1 = .ok (.invokevirtual 38, 3) := by decide +kernel
theorem dX9_bestMiles_4 : decode cX9_bestMiles 4 = .ok (.istore_n 1, 1) := by decide +kernel
theorem dX9_bestMiles_5 : decode cX9_bestMiles 5 = .ok (.iconst (-1), 1) := by decide +kernel
theorem dX9_bestMiles_6 : decode cX9_bestMiles 6 = .ok (.istore_n 2, 1) := by decide +kernel
theorem dX9_bestMiles_7 : decode cX9_bestMiles 7 = .ok (.iload_n 1, 1) := by decide +kernel
theorem dX9_bestMiles_8 : decode cX9_bestMiles 8 = .ok (.invokestatic 42, 3) := by decide +kernel
theorem dX9_bestMiles_11 : decode cX9_bestMiles 11 = .ok (.istore_n 3, 1) := by decide +kernel
theorem dX9_bestMiles_12 : decode cX9_bestMiles 12 = .ok (.iconst 1, 1) := by decide +kernel
theorem dX9_bestMiles_13 : decode cX9_bestMiles 13 = .ok (.istore 4, 2) := by decide +kernel
theorem dX9_bestMiles_15 : decode cX9_bestMiles 15 = .ok (.iload 4, 2) := by decide +kernel
theorem dX9_bestMiles_17 : decode cX9_bestMiles 17 = .ok (.bipush 9, 2) := by decide +kernel
theorem dX9_bestMiles_19 : decode cX9_bestMiles 19 = .ok (.if_icmp .gt 29, 3) := by decide +kernel
theorem dX9_bestMiles_22 : decode cX9_bestMiles 22 = .ok (.iload_n 1, 1) := by decide +kernel
theorem dX9_bestMiles_23 : decode cX9_bestMiles 23 = .ok (.iload 4, 2) := by decide +kernel
theorem dX9_bestMiles_25 : decode cX9_bestMiles 25 = .ok (.invokestatic 48, 3) := by decide +kernel
theorem dX9_bestMiles_28 : decode cX9_bestMiles 28 = .ok (.istore 5, 2) := by decide +kernel
theorem dX9_bestMiles_30 : decode cX9_bestMiles 30 = .ok (.iload 5, 2) := by decide +kernel
theorem dX9_bestMiles_32 : decode cX9_bestMiles 32 = .ok (.iload_n 3, 1) := by decide +kernel
theorem dX9_bestMiles_33 : decode cX9_bestMiles 33 = .ok (.if_icmp .ge 9, 3) := by decide +kernel
theorem dX9_bestMiles_36 : decode cX9_bestMiles 36 = .ok (.iload 5, 2) := by decide +kernel
theorem dX9_bestMiles_38 : decode cX9_bestMiles 38 = .ok (.istore_n 3, 1) := by decide +kernel
theorem dX9_bestMiles_39 : decode cX9_bestMiles 39 = .ok (.iload 4, 2) := by decide +kernel
theorem dX9_bestMiles_41 : decode cX9_bestMiles 41 = .ok (.istore_n 2, 1) := by decide +kernel
theorem dX9_bestMiles_42 : decode cX9_bestMiles 42 = .ok (.iinc 4 1, 3) := by decide +kernel
theorem dX9_bestMiles_45 : decode cX9_bestMiles 45 = .ok (.goto (-30), 3) := by decide +kernel
theorem dX9_bestMiles_48 : decode cX9_bestMiles 48 = .ok (.iload_n 2, 1) := by decide +kernel
theorem dX9_bestMiles_49 : decode cX9_bestMiles 49 = .ok (.ireturn, 1) := by decide +kernel
theorem dX9_greatestPart_0 : decode cX9_greatestPart 0 = .ok (.iconst 0, 1) := by decide +kernel
theorem dX9_greatestPart_1 : decode cX9_greatestPart 1 = .ok (.istore_n 2, 1) := by decide +kernel
theorem dX9_greatestPart_2 : decode cX9_greatestPart 2 = .ok (.iconst 0, 1) := by decide +kernel
theorem dX9_greatestPart_3 : decode cX9_greatestPart 3 = .ok (.istore_n 3, 1) := by decide +kernel
theorem dX9_greatestPart_4 : decode cX9_greatestPart 4 = .ok (.iload_n 3, 1) := by decide +kernel
theorem dX9_greatestPart_5 : decode cX9_greatestPart 5 = .ok (.iconst 5, 1) := by decide +kernel
theorem dX9_greatestPart_6 : decode cX9_greatestPart 6 = .ok (.if_icmp .ge 28, 3) := by decide +kernel
theorem dX9_greatestPart_9 : decode cX9_greatestPart 9 = .ok (.iload_n 0, 1) := by decide +kernel
theorem dX9_greatestPart_10 : decode cX9_greatestPart 10 = .ok (.iload_n 3, 1) := by decide +kernel
theorem dX9_greatestPart_11 : decode cX9_greatestPart 11 = .ok (.ishr, 1) := by decide +kernel
theorem dX9_greatestPart_12 : decode cX9_greatestPart 12 = .ok (.iconst 1, 1) := by decide +kernel
theorem dX9_greatestPart_13 : decode cX9_greatestPart 13 = .ok (.iand, 1) := by decide +kernel
theorem dX9_greatestPart_14 : decode cX9_greatestPart 14 = .ok (.ifCond .eq 14, 3) := by decide +kernel
theorem dX9_greatestPart_17 : decode cX9_greatestPart 17 = .ok (.iload_n 2, 1) := by decide +kernel
theorem dX9_greatestPart_18 : decode cX9_greatestPart 18 = .ok (.iload_n 0, 1) := by decide +kernel
theorem dX9_greatestPart_19 : decode cX9_greatestPart 19 = .ok (.iload_n 1, 1) := by decide +kernel
theorem dX9_greatestPart_20 : decode cX9_greatestPart 20 = .ok (.iload_n 3, 1) := by decide +kernel
theorem dX9_greatestPart_21 : decode cX9_greatestPart 21 = .ok (.invokestatic 51, 3) := by decide +kernel
theorem dX9_greatestPart_24 : decode cX9_greatestPart 24 = .ok (.invokestatic 55, 3) := by decide +kernel
theorem dX9_greatestPart_27 : decode cX9_greatestPart 27 = .ok (.istore_n 2, 1) := by decide +kernel
theorem dX9_greatestPart_28 : decode cX9_greatestPart 28 = .ok (.iinc 3 1, 3) := by decide +kernel
theorem dX9_greatestPart_31 : decode cX9_greatestPart 31 = .ok (.goto (-27), 3) := by decide +kernel
theorem dX9_greatestPart_34 : decode cX9_greatestPart 34 = .ok (.iload_n 2, 1) := by decide +kernel
theorem dX9_greatestPart_35 : decode cX9_greatestPart 35 = .ok (.ireturn, 1) := by decide +kernel
theorem dX9_likeKinds_0 : decode cX9_likeKinds 0 = .ok (.iconst 0, 1) := by decide +kernel
theorem dX9_likeKinds_1 : decode cX9_likeKinds 1 = .ok (.istore_n 3, 1) := by decide +kernel
theorem dX9_likeKinds_2 : decode cX9_likeKinds 2 = .ok (.iconst 0, 1) := by decide +kernel
theorem dX9_likeKinds_3 : decode cX9_likeKinds 3 = .ok (.istore 4, 2) := by decide +kernel
theorem dX9_likeKinds_5 : decode cX9_likeKinds 5 = .ok (.iload 4, 2) := by decide +kernel
theorem dX9_likeKinds_7 : decode cX9_likeKinds 7 = .ok (.iconst 5, 1) := by decide +kernel
theorem dX9_likeKinds_8 : decode cX9_likeKinds 8 = .ok (.if_icmp .ge 49, 3) := by decide +kernel
theorem dX9_likeKinds_11 : decode cX9_likeKinds 11 = .ok (.iload_n 0, 1) := by decide +kernel
theorem dX9_likeKinds_12 : decode cX9_likeKinds 12 = .ok (.iload 4, 2) := by decide +kernel
theorem dX9_likeKinds_14 : decode cX9_likeKinds 14 = .ok (.ishr, 1) := by decide +kernel
theorem dX9_likeKinds_15 : decode cX9_likeKinds 15 = .ok (.iconst 1, 1) := by decide +kernel
theorem dX9_likeKinds_16 : decode cX9_likeKinds 16 = .ok (.iand, 1) := by decide +kernel
theorem dX9_likeKinds_17 : decode cX9_likeKinds 17 = .ok (.ifCond .eq 34, 3) := by decide +kernel
theorem dX9_likeKinds_20 : decode cX9_likeKinds 20 = .ok (.iload 4, 2) := by decide +kernel
theorem dX9_likeKinds_22 : decode cX9_likeKinds 22 = .ok (.iload_n 1, 1) := by decide +kernel
theorem dX9_likeKinds_23 : decode cX9_likeKinds 23 = .ok (.invokestatic 31, 3) := by decide +kernel
theorem dX9_likeKinds_26 : decode cX9_likeKinds 26 = .ok (.iload_n 2, 1) := by decide +kernel
theorem dX9_likeKinds_27 : decode cX9_likeKinds 27 = .ok (.iload_n 1, 1) := by decide +kernel
theorem dX9_likeKinds_28 : decode cX9_likeKinds 28 = .ok (.invokestatic 31, 3) := by decide +kernel
theorem dX9_likeKinds_31 : decode cX9_likeKinds 31 = .ok (.if_icmp .ne 20, 3) := by decide +kernel
theorem dX9_likeKinds_34 : decode cX9_likeKinds 34 = .ok (.iload 4, 2) := by decide +kernel
theorem dX9_likeKinds_36 : decode cX9_likeKinds 36 = .ok (.iload_n 1, 1) := by decide +kernel
theorem dX9_likeKinds_37 : decode cX9_likeKinds 37 = .ok (.invokestatic 35, 3) := by decide +kernel
theorem dX9_likeKinds_40 : decode cX9_likeKinds 40 = .ok (.iload_n 2, 1) := by decide +kernel
theorem dX9_likeKinds_41 : decode cX9_likeKinds 41 = .ok (.iload_n 1, 1) := by decide +kernel
theorem dX9_likeKinds_42 : decode cX9_likeKinds 42 = .ok (.invokestatic 35, 3) := by decide +kernel
theorem dX9_likeKinds_45 : decode cX9_likeKinds 45 = .ok (.if_icmp .ne 6, 3) := by decide +kernel
theorem dX9_likeKinds_48 : decode cX9_likeKinds 48 = .ok (.iinc 3 1, 3) := by decide +kernel
theorem dX9_likeKinds_51 : decode cX9_likeKinds 51 = .ok (.iinc 4 1, 3) := by decide +kernel
theorem dX9_likeKinds_54 : decode cX9_likeKinds 54 = .ok (.goto (-49), 3) := by decide +kernel
theorem dX9_likeKinds_57 : decode cX9_likeKinds 57 = .ok (.iload_n 3, 1) := by decide +kernel
theorem dX9_likeKinds_58 : decode cX9_likeKinds 58 = .ok (.ireturn, 1) := by decide +kernel
theorem dX10_init_0 : decode cX10_init 0 = .ok (.aload_n 0, 1) := by decide +kernel
theorem dX10_init_1 : decode cX10_init 1 = .ok (.invokespecial 3, 3) := by decide +kernel
theorem dX10_init_4 : decode cX10_init 4 = .ok (.aload_n 0, 1) := by decide +kernel
theorem dX10_init_5 : decode cX10_init 5 = .ok (.sipush 200, 3) := by decide +kernel
theorem dX10_init_8 : decode cX10_init 8 = .ok (.newarray .int, 2) := by decide +kernel
theorem dX10_init_10 : decode cX10_init 10 = .ok (.putfield 9, 3) := by decide +kernel
theorem dX10_init_13 : decode cX10_init 13 = .ok (.return_, 1) := by decide +kernel
theorem dX10_append_0 : decode cX10_append 0 = .ok (.aload_n 0, 1) := by decide +kernel
theorem dX10_append_1 : decode cX10_append 1 = .ok (.getfield 15, 3) := by decide +kernel
theorem dX10_append_4 : decode cX10_append 4 = .ok (.sipush 200, 3) := by decide +kernel
theorem dX10_append_7 : decode cX10_append 7 = .ok (.if_icmp .ge 23, 3) := by decide +kernel
theorem dX10_append_10 : decode cX10_append 10 = .ok (.aload_n 0, 1) := by decide +kernel
theorem dX10_append_11 : decode cX10_append 11 = .ok (.getfield 9, 3) := by decide +kernel
theorem dX10_append_14 : decode cX10_append 14 = .ok (.aload_n 0, 1) := by decide +kernel
theorem dX10_append_15 : decode cX10_append 15 = .ok (.getfield 15, 3) := by decide +kernel
theorem dX10_append_18 : decode cX10_append 18 = .ok (.iload_n 1, 1) := by decide +kernel
theorem dX10_append_19 : decode cX10_append 19 = .ok (.iastore, 1) := by decide +kernel
theorem dX10_append_20 : decode cX10_append 20 = .ok (.aload_n 0, 1) := by decide +kernel
theorem dX10_append_21 : decode cX10_append 21 = .ok (.dup, 1) := by decide +kernel
theorem dX10_append_22 : decode cX10_append 22 = .ok (.getfield 15, 3) := by decide +kernel
theorem dX10_append_25 : decode cX10_append 25 = .ok (.iconst 1, 1) := by decide +kernel
theorem dX10_append_26 : decode cX10_append 26 = .ok (.iadd, 1) := by decide +kernel
theorem dX10_append_27 : decode cX10_append 27 = .ok (.putfield 15, 3) := by decide +kernel
theorem dX10_append_30 : decode cX10_append 30 = .ok (.return_, 1) := by decide +kernel
theorem dX10_clear_0 : decode cX10_clear 0 = .ok (.aload_n 0, 1) := by decide +kernel
theorem dX10_clear_1 : decode cX10_clear 1 = .ok (.iconst 0, 1) := by decide +kernel
theorem dX10_clear_2 : decode cX10_clear 2 = .ok (.putfield 15, 3) := by decide +kernel
theorem dX10_clear_5 : decode cX10_clear 5 = .ok (.return_, 1) := by decide +kernel
theorem dX10_firstToken_0 : decode cX10_firstToken 0 = .ok (.aload_n 0, 1) := by decide +kernel
theorem dX10_firstToken_1 : decode cX10_firstToken 1 = .ok (.iconst 0, 1) := by decide +kernel
theorem dX10_firstToken_2 : decode cX10_firstToken 2 = .ok (.putfield 19, 3) := by decide +kernel
theorem dX10_firstToken_5 : decode cX10_firstToken 5 = .ok (.aload_n 0, 1) := by decide +kernel
theorem dX10_firstToken_6 : decode cX10_firstToken 6 = .ok (.invokevirtual 22, 3) := by decide +kernel
theorem dX10_firstToken_9 : decode cX10_firstToken 9 = .ok (.return_, 1) := by decide +kernel
theorem dX10_nextToken_0 : decode cX10_nextToken 0 = .ok (.aload_n 0, 1) := by decide +kernel
theorem dX10_nextToken_1 : decode cX10_nextToken 1 = .ok (.aload_n 0, 1) := by decide +kernel
theorem dX10_nextToken_2 : decode cX10_nextToken 2 = .ok (.getfield 19, 3) := by decide +kernel
theorem dX10_nextToken_5 : decode cX10_nextToken 5 = .ok (.putfield 25, 3) := by decide +kernel
theorem dX10_nextToken_8 : decode cX10_nextToken 8 = .ok (.aload_n 0, 1) := by decide +kernel
theorem dX10_nextToken_9 : decode cX10_nextToken 9 = .ok (.getfield 25, 3) := by decide +kernel
theorem dX10_nextToken_12 : decode cX10_nextToken 12 = .ok (.aload_n 0, 1) := by decide +kernel
theorem dX10_nextToken_13 : decode cX10_nextToken 13 = .ok (.getfield 15, 3) := by decide +kernel
theorem dX10_nextToken_16 : decode cX10_nextToken 16 = .ok (.if_icmp .ge 30, 3) := by decide +kernel
theorem dX10_nextToken_19 : decode cX10_nextToken 19 = .ok (.aload_n 0, 1) := by decide +kernel
theorem dX10_nextToken_20 : decode cX10_nextToken 20 = .ok (.getfield 9, 3) := by decide +kernel
theorem dX10_nextToken_23 : decode cX10_nextToken 23 = .ok (.aload_n 0, 1) := by decide +kernel
theorem dX10_nextToken_24 : decode cX10_nextToken 24 = .ok (.getfield 25, 3) := by decide +kernel
theorem dX10_nextToken_27 : decode cX10_nextToken 27 = .ok (.iaload, 1) := by decide +kernel
theorem dX10_nextToken_28 : decode cX10_nextToken 28 = .ok (.bipush 32, 2) := by decide +kernel
theorem dX10_nextToken_30 : decode cX10_nextToken 30 = .ok (.if_icmp .ne 16, 3) := by decide +kernel
theorem dX10_nextToken_33 : decode cX10_nextToken 33 = .ok (.aload_n 0, 1) := by decide +kernel
theorem dX10_nextToken_34 : decode cX10_nextToken 34 = .ok (.dup, 1) := by decide +kernel
theorem dX10_nextToken_35 : decode cX10_nextToken 35 = .ok (.getfield 25, 3) := by decide +kernel
theorem dX10_nextToken_38 : decode cX10_nextToken 38 = .ok (.iconst 1, 1) := by decide +kernel
theorem dX10_nextToken_39 : decode cX10_nextToken 39 = .ok (.iadd, 1) := by decide +kernel
theorem dX10_nextToken_40 : decode cX10_nextToken 40 = .ok (.putfield 25, 3) := by decide +kernel
theorem dX10_nextToken_43 : decode cX10_nextToken 43 = .ok (.goto (-35), 3) := by decide +kernel
theorem dX10_nextToken_46 : decode cX10_nextToken 46 = .ok (.aload_n 0, 1) := by decide +kernel
theorem dX10_nextToken_47 : decode cX10_nextToken 47 = .ok (.aload_n 0, 1) := by decide +kernel
theorem dX10_nextToken_48 : decode cX10_nextToken 48 = .ok (.getfield 25, 3) := by decide +kernel
theorem dX10_nextToken_51 : decode cX10_nextToken 51 = .ok (.putfield 19, 3) := by decide +kernel
theorem dX10_nextToken_54 : decode cX10_nextToken 54 = .ok (.aload_n 0, 1) := by decide +kernel
theorem dX10_nextToken_55 : decode cX10_nextToken 55 = .ok (.getfield 25, 3) := by decide +kernel
theorem dX10_nextToken_58 : decode cX10_nextToken 58 = .ok (.aload_n 0, 1) := by decide +kernel
theorem dX10_nextToken_59 : decode cX10_nextToken 59 = .ok (.getfield 15, 3) := by decide +kernel
theorem dX10_nextToken_62 : decode cX10_nextToken 62 = .ok (.if_icmp .lt 9, 3) := by decide +kernel
theorem dX10_nextToken_65 : decode cX10_nextToken 65 = .ok (.aload_n 0, 1) := by decide +kernel
theorem dX10_nextToken_66 : decode cX10_nextToken 66 = .ok (.iconst 0, 1) := by decide +kernel
theorem dX10_nextToken_67 : decode cX10_nextToken 67 = .ok (.putfield 28, 3) := by decide +kernel
theorem dX10_nextToken_70 : decode cX10_nextToken 70 = .ok (.return_, 1) := by decide +kernel
theorem dX10_nextToken_71 : decode cX10_nextToken 71 = .ok (.aload_n 0, 1) := by decide +kernel
theorem dX10_nextToken_72 : decode cX10_nextToken 72 = .ok (.aload_n 0, 1) := by decide +kernel
theorem dX10_nextToken_73 : decode cX10_nextToken 73 = .ok (.getfield 9, 3) := by decide +kernel
theorem dX10_nextToken_76 : decode cX10_nextToken 76 = .ok (.aload_n 0, 1) := by decide +kernel
theorem dX10_nextToken_77 : decode cX10_nextToken 77 = .ok (.getfield 25, 3) := by decide +kernel
theorem dX10_nextToken_80 : decode cX10_nextToken 80 = .ok (.iaload, 1) := by decide +kernel
theorem dX10_nextToken_81 : decode cX10_nextToken 81 = .ok (.invokestatic 31, 3) := by decide +kernel
theorem dX10_nextToken_84 : decode cX10_nextToken 84 = .ok (.putfield 28, 3) := by decide +kernel
theorem dX10_nextToken_87 : decode cX10_nextToken 87 = .ok (.aload_n 0, 1) := by decide +kernel
theorem dX10_nextToken_88 : decode cX10_nextToken 88 = .ok (.dup, 1) := by decide +kernel
theorem dX10_nextToken_89 : decode cX10_nextToken 89 = .ok (.getfield 19, 3) := by decide +kernel
theorem dX10_nextToken_92 : decode cX10_nextToken 92 = .ok (.iconst 1, 1) := by decide +kernel
theorem dX10_nextToken_93 : decode cX10_nextToken 93 = .ok (.iadd, 1) := by decide +kernel
theorem dX10_nextToken_94 : decode cX10_nextToken 94 = .ok (.putfield 19, 3) := by decide +kernel
theorem dX10_nextToken_97 : decode cX10_nextToken 97 = .ok (.aload_n 0, 1) := by decide +kernel
theorem dX10_nextToken_98 : decode cX10_nextToken 98 = .ok (.getfield 28, 3) := by decide +kernel
theorem dX10_nextToken_101 : decode cX10_nextToken 101 = .ok (.iconst 3, 1) := by decide +kernel
theorem dX10_nextToken_102 : decode cX10_nextToken 102 = .ok (.if_icmp .eq 46, 3) := by decide +kernel
theorem dX10_nextToken_105 : decode cX10_nextToken 105 = .ok (.aload_n 0, 1) := by decide +kernel
theorem dX10_nextToken_106 : decode cX10_nextToken 106 = .ok (.getfield 19, 3) := by decide +kernel
theorem dX10_nextToken_109 : decode cX10_nextToken 109 = .ok (.aload_n 0, 1) := by decide +kernel
theorem dX10_nextToken_110 : decode cX10_nextToken 110 = .ok (.getfield 15, 3) := by decide +kernel
theorem dX10_nextToken_113 : decode cX10_nextToken 113 = .ok (.if_icmp .ge 35, 3) := by decide +kernel
theorem dX10_nextToken_116 : decode cX10_nextToken 116 = .ok (.aload_n 0, 1) := by decide +kernel
theorem dX10_nextToken_117 : decode cX10_nextToken 117 = .ok (.getfield 9, 3) := by decide +kernel
theorem dX10_nextToken_120 : decode cX10_nextToken 120 = .ok (.aload_n 0, 1) := by decide +kernel
theorem dX10_nextToken_121 : decode cX10_nextToken 121 = .ok (.getfield 19, 3) := by decide +kernel
theorem dX10_nextToken_124 : decode cX10_nextToken 124 = .ok (.iaload, 1) := by decide +kernel
theorem dX10_nextToken_125 : decode cX10_nextToken 125 = .ok (.invokestatic 31, 3) := by decide +kernel
theorem dX10_nextToken_128 : decode cX10_nextToken 128 = .ok (.aload_n 0, 1) := by decide +kernel
theorem dX10_nextToken_129 : decode cX10_nextToken 129 = .ok (.getfield 28, 3) := by decide +kernel
theorem dX10_nextToken_132 : decode cX10_nextToken 132 = .ok (.if_icmp .ne 16, 3) := by decide +kernel
theorem dX10_nextToken_135 : decode cX10_nextToken 135 = .ok (.aload_n 0, 1) := by decide +kernel
theorem dX10_nextToken_136 : decode cX10_nextToken 136 = .ok (.dup, 1) := by decide +kernel
theorem dX10_nextToken_137 : decode cX10_nextToken 137 = .ok (.getfield 19, 3) := by decide +kernel
theorem dX10_nextToken_140 : decode cX10_nextToken 140 = .ok (.iconst 1, 1) := by decide +kernel
theorem dX10_nextToken_141 : decode cX10_nextToken 141 = .ok (.iadd, 1) := by decide +kernel
theorem dX10_nextToken_142 : decode cX10_nextToken 142 = .ok (.putfield 19, 3) := by decide +kernel
theorem dX10_nextToken_145 : decode cX10_nextToken 145 = .ok (.goto (-48), 3) := by decide +kernel
theorem dX10_nextToken_148 : decode cX10_nextToken 148 = .ok (.return_, 1) := by decide +kernel
theorem dX10_sortOf_0 : decode cX10_sortOf 0 = .ok (.iload_n 0, 1) := by decide +kernel
theorem dX10_sortOf_1 : decode cX10_sortOf 1 = .ok (.bipush 97, 2) := by decide +kernel
theorem dX10_sortOf_3 : decode cX10_sortOf 3 = .ok (.if_icmp .lt 11, 3) := by decide +kernel
theorem dX10_sortOf_6 : decode cX10_sortOf 6 = .ok (.iload_n 0, 1) := by decide +kernel
theorem dX10_sortOf_7 : decode cX10_sortOf 7 = .ok (.bipush 122, 2) := by decide +kernel
theorem dX10_sortOf_9 : decode cX10_sortOf 9 = .ok (.if_icmp .gt 5, 3) := by decide +kernel
theorem dX10_sortOf_12 : decode cX10_sortOf 12 = .ok (.iconst 1, 1) := by decide +kernel
theorem dX10_sortOf_13 : decode cX10_sortOf 13 = .ok (.ireturn, 1) := by decide +kernel
theorem dX10_sortOf_14 : decode cX10_sortOf 14 = .ok (.iload_n 0, 1) := by decide +kernel
theorem dX10_sortOf_15 : decode cX10_sortOf 15 = .ok (.bipush 48, 2) := by decide +kernel
theorem dX10_sortOf_17 : decode cX10_sortOf 17 = .ok (.if_icmp .lt 13, 3) := by decide +kernel
theorem dX10_sortOf_20 : decode cX10_sortOf 20 = .ok (.iload_n 0, 1) := by decide +kernel
theorem dX10_sortOf_21 : decode cX10_sortOf 21 = .ok (.bipush 57, 2) := by decide +kernel
theorem dX10_sortOf_23 : decode cX10_sortOf 23 = .ok (.if_icmp .gt 7, 3) := by decide +kernel
theorem dX10_sortOf_26 : decode cX10_sortOf 26 = .ok (.iconst 2, 1) := by decide +kernel
theorem dX10_sortOf_27 : decode cX10_sortOf 27 = .ok (.goto 4, 3) := by decide +kernel
theorem dX10_sortOf_30 : decode cX10_sortOf 30 = .ok (.iconst 3, 1) := by decide +kernel
theorem dX10_sortOf_31 : decode cX10_sortOf 31 = .ok (.ireturn, 1) := by decide +kernel
theorem dX10_isSemicolon_0 : decode cX10_isSemicolon 0 = .ok (.aload_n 0, 1) := by decide +kernel
theorem dX10_isSemicolon_1 : decode cX10_isSemicolon 1 = .ok (.getfield 28, 3) := by decide +kernel
theorem dX10_isSemicolon_4 : decode cX10_isSemicolon 4 = .ok (.iconst 3, 1) := by decide +kernel
theorem dX10_isSemicolon_5 : decode cX10_isSemicolon 5 = .ok (.if_icmp .ne 32, 3) := by decide +kernel
theorem dX10_isSemicolon_8 : decode cX10_isSemicolon 8 = .ok (.aload_n 0, 1) := by decide +kernel
theorem dX10_isSemicolon_9 : decode cX10_isSemicolon 9 = .ok (.getfield 25, 3) := by decide +kernel
theorem dX10_isSemicolon_12 : decode cX10_isSemicolon 12 = .ok (.aload_n 0, 1) := by decide +kernel
theorem dX10_isSemicolon_13 : decode cX10_isSemicolon 13 = .ok (.getfield 15, 3) := by decide +kernel
theorem dX10_isSemicolon_16 : decode cX10_isSemicolon 16 = .ok (.if_icmp .ge 21, 3) := by decide +kernel
theorem dX10_isSemicolon_19 : decode cX10_isSemicolon 19 = .ok (.aload_n 0, 1) := by decide +kernel
theorem dX10_isSemicolon_20 : decode cX10_isSemicolon 20 = .ok (.getfield 9, 3) := by decide +kernel
theorem dX10_isSemicolon_23 : decode cX10_isSemicolon 23 = .ok (.aload_n 0, 1) := by decide +kernel
theorem dX10_isSemicolon_24 : decode cX10_isSemicolon 24 = .ok (.getfield 25, 3) := by decide +kernel
theorem dX10_isSemicolon_27 : decode cX10_isSemicolon 27 = .ok (.iaload, 1) := by decide +kernel
theorem dX10_isSemicolon_28 : decode cX10_isSemicolon 28 = .ok (.bipush 59, 2) := by decide +kernel
theorem dX10_isSemicolon_30 : decode cX10_isSemicolon 30 = .ok (.if_icmp .ne 7, 3) := by decide +kernel
theorem dX10_isSemicolon_33 : decode cX10_isSemicolon 33 = .ok (.iconst 1, 1) := by decide +kernel
theorem dX10_isSemicolon_34 : decode cX10_isSemicolon 34 = .ok (.goto 4, 3) := by decide +kernel
theorem dX10_isSemicolon_37 : decode cX10_isSemicolon 37 = .ok (.iconst 0, 1) := by decide +kernel
theorem dX10_isSemicolon_38 : decode cX10_isSemicolon 38 = .ok (.ireturn, 1) := by decide +kernel
theorem dX10_isWord_0 : decode cX10_isWord 0 = .ok (.aload_n 0, 1) := by decide +kernel
theorem dX10_isWord_1 : decode cX10_isWord 1 = .ok (.getfield 28, 3) := by decide +kernel
theorem dX10_isWord_4 : decode cX10_isWord 4 = .ok (.iconst 1, 1) := by decide +kernel
theorem dX10_isWord_5 : decode cX10_isWord 5 = .ok (.if_icmp .ne 19, 3) := by decide +kernel
theorem dX10_isWord_8 : decode cX10_isWord 8 = .ok (.aload_n 0, 1) := by decide +kernel
theorem dX10_isWord_9 : decode cX10_isWord 9 = .ok (.getfield 19, 3) := by decide +kernel
theorem dX10_isWord_12 : decode cX10_isWord 12 = .ok (.aload_n 0, 1) := by decide +kernel
theorem dX10_isWord_13 : decode cX10_isWord 13 = .ok (.getfield 25, 3) := by decide +kernel
theorem dX10_isWord_16 : decode cX10_isWord 16 = .ok (.isub, 1) := by decide +kernel
theorem dX10_isWord_17 : decode cX10_isWord 17 = .ok (.aload_n 1, 1) := by decide +kernel
theorem dX10_isWord_18 : decode cX10_isWord 18 = .ok (.invokevirtual 35, 3) := by decide +kernel
theorem dX10_isWord_21 : decode cX10_isWord 21 = .ok (.if_icmp .eq 5, 3) := by decide +kernel
theorem dX10_isWord_24 : decode cX10_isWord 24 = .ok (.iconst 0, 1) := by decide +kernel
theorem dX10_isWord_25 : decode cX10_isWord 25 = .ok (.ireturn, 1) := by decide +kernel
theorem dX10_isWord_26 : decode cX10_isWord 26 = .ok (.iconst 0, 1) := by decide +kernel
theorem dX10_isWord_27 : decode cX10_isWord 27 = .ok (.istore_n 2, 1) := by decide +kernel
theorem dX10_isWord_28 : decode cX10_isWord 28 = .ok (.iload_n 2, 1) := by decide +kernel
theorem dX10_isWord_29 : decode cX10_isWord 29 = .ok (.aload_n 1, 1) := by decide +kernel
theorem dX10_isWord_30 : decode cX10_isWord 30 = .ok (.invokevirtual 35, 3) := by decide +kernel
theorem dX10_isWord_33 : decode cX10_isWord 33 = .ok (.if_icmp .ge 43, 3) := by decide +kernel
theorem dX10_isWord_36 : decode cX10_isWord 36 = .ok (.aload_n 0, 1) := by decide +kernel
theorem dX10_isWord_37 : decode cX10_isWord 37 = .ok (.getfield 25, 3) := by decide +kernel
theorem dX10_isWord_40 : decode cX10_isWord 40 = .ok (.iload_n 2, 1) := by decide +kernel
theorem dX10_isWord_41 : decode cX10_isWord 41 = .ok (.iadd, 1) := by decide +kernel
theorem dX10_isWord_42 : decode cX10_isWord 42 = .ok (.aload_n 0, 1) := by decide +kernel
theorem dX10_isWord_43 : decode cX10_isWord 43 = .ok (.getfield 15, 3) := by decide +kernel
theorem dX10_isWord_46 : decode cX10_isWord 46 = .ok (.if_icmp .ge 30, 3) := by decide +kernel
theorem dX10_isWord_49 : decode cX10_isWord 49 = .ok (.aload_n 0, 1) := by decide +kernel
theorem dX10_isWord_50 : decode cX10_isWord 50 = .ok (.getfield 9, 3) := by decide +kernel
theorem dX10_isWord_53 : decode cX10_isWord 53 = .ok (.aload_n 0, 1) := by decide +kernel
theorem dX10_isWord_54 : decode cX10_isWord 54 = .ok (.getfield 25, 3) := by decide +kernel
theorem dX10_isWord_57 : decode cX10_isWord 57 = .ok (.iload_n 2, 1) := by decide +kernel
theorem dX10_isWord_58 : decode cX10_isWord 58 = .ok (.iadd, 1) := by decide +kernel
theorem dX10_isWord_59 : decode cX10_isWord 59 = .ok (.iaload, 1) := by decide +kernel
theorem dX10_isWord_60 : decode cX10_isWord 60 = .ok (.aload_n 1, 1) := by decide +kernel
theorem dX10_isWord_61 : decode cX10_isWord 61 = .ok (.iload_n 2, 1) := by decide +kernel
theorem dX10_isWord_62 : decode cX10_isWord 62 = .ok (.invokevirtual 40, 3) := by decide +kernel
theorem dX10_isWord_65 : decode cX10_isWord 65 = .ok (.if_icmp .eq 5, 3) := by decide +kernel
theorem dX10_isWord_68 : decode cX10_isWord 68 = .ok (.iconst 0, 1) := by decide +kernel
theorem dX10_isWord_69 : decode cX10_isWord 69 = .ok (.ireturn, 1) := by decide +kernel
theorem dX10_isWord_70 : decode cX10_isWord 70 = .ok (.iinc 2 1, 3) := by decide +kernel
theorem dX10_isWord_73 : decode cX10_isWord 73 = .ok (.goto (-45), 3) := by decide +kernel
theorem dX10_isWord_76 : decode cX10_isWord 76 = .ok (.iconst 1, 1) := by decide +kernel
theorem dX10_isWord_77 : decode cX10_isWord 77 = .ok (.ireturn, 1) := by decide +kernel
theorem dX10_digit_0 : decode cX10_digit 0 = .ok (.aload_n 0, 1) := by decide +kernel
theorem dX10_digit_1 : decode cX10_digit 1 = .ok (.getfield 28, 3) := by decide +kernel
theorem dX10_digit_4 : decode cX10_digit 4 = .ok (.iconst 2, 1) := by decide +kernel
theorem dX10_digit_5 : decode cX10_digit 5 = .ok (.if_icmp .ne 42, 3) := by decide +kernel
theorem dX10_digit_8 : decode cX10_digit 8 = .ok (.aload_n 0, 1) := by decide +kernel
theorem dX10_digit_9 : decode cX10_digit 9 = .ok (.getfield 19, 3) := by decide +kernel
theorem dX10_digit_12 : decode cX10_digit 12 = .ok (.aload_n 0, 1) := by decide +kernel
theorem dX10_digit_13 : decode cX10_digit 13 = .ok (.getfield 25, 3) := by decide +kernel
theorem dX10_digit_16 : decode cX10_digit 16 = .ok (.isub, 1) := by decide +kernel
theorem dX10_digit_17 : decode cX10_digit 17 = .ok (.iconst 1, 1) := by decide +kernel
theorem dX10_digit_18 : decode cX10_digit 18 = .ok (.if_icmp .ne 29, 3) := by decide +kernel
theorem dX10_digit_21 : decode cX10_digit 21 = .ok (.aload_n 0, 1) := by decide +kernel
theorem dX10_digit_22 : decode cX10_digit 22 = .ok (.getfield 25, 3) := by decide +kernel
theorem dX10_digit_25 : decode cX10_digit 25 = .ok (.aload_n 0, 1) := by decide +kernel
theorem dX10_digit_26 : decode cX10_digit 26 = .ok (.getfield 15, 3) := by decide +kernel
theorem dX10_digit_29 : decode cX10_digit 29 = .ok (.if_icmp .ge 18, 3) := by decide +kernel
theorem dX10_digit_32 : decode cX10_digit 32 = .ok (.aload_n 0, 1) := by decide +kernel
theorem dX10_digit_33 : decode cX10_digit 33 = .ok (.getfield 9, 3) := by decide +kernel
theorem dX10_digit_36 : decode cX10_digit 36 = .ok (.aload_n 0, 1) := by decide +kernel
theorem dX10_digit_37 : decode cX10_digit 37 = .ok (.getfield 25, 3) := by decide +kernel
theorem dX10_digit_40 : decode cX10_digit 40 = .ok (.iaload, 1) := by decide +kernel
theorem dX10_digit_41 : decode cX10_digit 41 = .ok (.bipush 48, 2) := by decide +kernel
theorem dX10_digit_43 : decode cX10_digit 43 = .ok (.isub, 1) := by decide +kernel
theorem dX10_digit_44 : decode cX10_digit 44 = .ok (.goto 4, 3) := by decide +kernel
theorem dX10_digit_47 : decode cX10_digit 47 = .ok (.iconst (-1), 1) := by decide +kernel
theorem dX10_digit_48 : decode cX10_digit 48 = .ok (.ireturn, 1) := by decide +kernel
theorem dX11_init_0 : decode cX11_init 0 = .ok (.aload_n 0, 1) := by decide +kernel
theorem dX11_init_1 : decode cX11_init 1 = .ok (.invokespecial 1, 3) := by decide +kernel
theorem dX11_init_4 : decode cX11_init 4 = .ok (.aload_n 0, 1) := by decide +kernel
theorem dX11_init_5 : decode cX11_init 5 = .ok (.new 7, 3) := by decide +kernel
theorem dX11_init_8 : decode cX11_init 8 = .ok (.dup, 1) := by decide +kernel
theorem dX11_init_9 : decode cX11_init 9 = .ok (.invokespecial 9, 3) := by decide +kernel
theorem dX11_init_12 : decode cX11_init 12 = .ok (.putfield 10, 3) := by decide +kernel
theorem dX11_init_15 : decode cX11_init 15 = .ok (.aload_n 0, 1) := by decide +kernel
theorem dX11_init_16 : decode cX11_init 16 = .ok (.new 16, 3) := by decide +kernel
theorem dX11_init_19 : decode cX11_init 19 = .ok (.dup, 1) := by decide +kernel
theorem dX11_init_20 : decode cX11_init 20 = .ok (.invokespecial 18, 3) := by decide +kernel
theorem dX11_init_23 : decode cX11_init 23 = .ok (.putfield 19, 3) := by decide +kernel
theorem dX11_init_26 : decode cX11_init 26 = .ok (.aload_n 0, 1) := by decide +kernel
theorem dX11_init_27 : decode cX11_init 27 = .ok (.new 23, 3) := by decide +kernel
theorem dX11_init_30 : decode cX11_init 30 = .ok (.dup, 1) := by decide +kernel
theorem dX11_init_31 : decode cX11_init 31 = .ok (.aload_n 0, 1) := by decide +kernel
theorem dX11_init_32 : decode cX11_init 32 = .ok (.getfield 19, 3) := by decide +kernel
theorem dX11_init_35 : decode cX11_init 35 = .ok (.invokespecial 25, 3) := by decide +kernel
theorem dX11_init_38 : decode cX11_init 38 = .ok (.putfield 28, 3) := by decide +kernel
theorem dX11_init_41 : decode cX11_init 41 = .ok (.aload_n 0, 1) := by decide +kernel
theorem dX11_init_42 : decode cX11_init 42 = .ok (.new 32, 3) := by decide +kernel
theorem dX11_init_45 : decode cX11_init 45 = .ok (.dup, 1) := by decide +kernel
theorem dX11_init_46 : decode cX11_init 46 = .ok (.aload_n 0, 1) := by decide +kernel
theorem dX11_init_47 : decode cX11_init 47 = .ok (.getfield 10, 3) := by decide +kernel
theorem dX11_init_50 : decode cX11_init 50 = .ok (.invokespecial 34, 3) := by decide +kernel
theorem dX11_init_53 : decode cX11_init 53 = .ok (.putfield 37, 3) := by decide +kernel
theorem dX11_init_56 : decode cX11_init 56 = .ok (.aload_n 0, 1) := by decide +kernel
theorem dX11_init_57 : decode cX11_init 57 = .ok (.new 32, 3) := by decide +kernel
theorem dX11_init_60 : decode cX11_init 60 = .ok (.dup, 1) := by decide +kernel
theorem dX11_init_61 : decode cX11_init 61 = .ok (.aload_n 0, 1) := by decide +kernel
theorem dX11_init_62 : decode cX11_init 62 = .ok (.getfield 10, 3) := by decide +kernel
theorem dX11_init_65 : decode cX11_init 65 = .ok (.invokespecial 34, 3) := by decide +kernel
theorem dX11_init_68 : decode cX11_init 68 = .ok (.putfield 41, 3) := by decide +kernel
theorem dX11_init_71 : decode cX11_init 71 = .ok (.aload_n 0, 1) := by decide +kernel
theorem dX11_init_72 : decode cX11_init 72 = .ok (.new 44, 3) := by decide +kernel
theorem dX11_init_75 : decode cX11_init 75 = .ok (.dup, 1) := by decide +kernel
theorem dX11_init_76 : decode cX11_init 76 = .ok (.aload_n 0, 1) := by decide +kernel
theorem dX11_init_77 : decode cX11_init 77 = .ok (.getfield 10, 3) := by decide +kernel
theorem dX11_init_80 : decode cX11_init 80 = .ok (.invokespecial 46, 3) := by decide +kernel
theorem dX11_init_83 : decode cX11_init 83 = .ok (.putfield 47, 3) := by decide +kernel
theorem dX11_init_86 : decode cX11_init 86 = .ok (.aload_n 0, 1) := by decide +kernel
theorem dX11_init_87 : decode cX11_init 87 = .ok (.iconst 2, 1) := by decide +kernel
theorem dX11_init_88 : decode cX11_init 88 = .ok (.anewarray 32, 3) := by decide +kernel
theorem dX11_init_91 : decode cX11_init 91 = .ok (.putfield 51, 3) := by decide +kernel
theorem dX11_init_94 : decode cX11_init 94 = .ok (.iconst 0, 1) := by decide +kernel
theorem dX11_init_95 : decode cX11_init 95 = .ok (.istore_n 1, 1) := by decide +kernel
theorem dX11_init_96 : decode cX11_init 96 = .ok (.iload_n 1, 1) := by decide +kernel
theorem dX11_init_97 : decode cX11_init 97 = .ok (.aload_n 0, 1) := by decide +kernel
theorem dX11_init_98 : decode cX11_init 98 = .ok (.getfield 51, 3) := by decide +kernel
theorem dX11_init_101 : decode cX11_init 101 = .ok (.arraylength, 1) := by decide +kernel
theorem dX11_init_102 : decode cX11_init 102 = .ok (.if_icmp .ge 26, 3) := by decide +kernel
theorem dX11_init_105 : decode cX11_init 105 = .ok (.aload_n 0, 1) := by decide +kernel
theorem dX11_init_106 : decode cX11_init 106 = .ok (.getfield 51, 3) := by decide +kernel
theorem dX11_init_109 : decode cX11_init 109 = .ok (.iload_n 1, 1) := by decide +kernel
theorem dX11_init_110 : decode cX11_init 110 = .ok (.new 32, 3) := by decide +kernel
theorem dX11_init_113 : decode cX11_init 113 = .ok (.dup, 1) := by decide +kernel
theorem dX11_init_114 : decode cX11_init 114 = .ok (.aload_n 0, 1) := by decide +kernel
theorem dX11_init_115 : decode cX11_init 115 = .ok (.getfield 10, 3) := by decide +kernel
theorem dX11_init_118 : decode cX11_init 118 = .ok (.invokespecial 34, 3) := by decide +kernel
theorem dX11_init_121 : decode cX11_init 121 = .ok (.aastore, 1) := by decide +kernel
theorem dX11_init_122 : decode cX11_init 122 = .ok (.iinc 1 1, 3) := by decide +kernel
theorem dX11_init_125 : decode cX11_init 125 = .ok (.goto (-29), 3) := by decide +kernel
theorem dX11_init_128 : decode cX11_init 128 = .ok (.aload_n 0, 1) := by decide +kernel
theorem dX11_init_129 : decode cX11_init 129 = .ok (.iconst 2, 1) := by decide +kernel
theorem dX11_init_130 : decode cX11_init 130 = .ok (.newarray .boolean, 2) := by decide +kernel
theorem dX11_init_132 : decode cX11_init 132 = .ok (.putfield 55, 3) := by decide +kernel
theorem dX11_init_135 : decode cX11_init 135 = .ok (.aload_n 0, 1) := by decide +kernel
theorem dX11_init_136 : decode cX11_init 136 = .ok (.new 59, 3) := by decide +kernel
theorem dX11_init_139 : decode cX11_init 139 = .ok (.dup, 1) := by decide +kernel
theorem dX11_init_140 : decode cX11_init 140 = .ok (.invokespecial 61, 3) := by decide +kernel
theorem dX11_init_143 : decode cX11_init 143 = .ok (.putfield 62, 3) := by decide +kernel
theorem dX11_init_146 : decode cX11_init 146 = .ok (.aload_n 0, 1) := by decide +kernel
theorem dX11_init_147 : decode cX11_init 147 = .ok (.new 66, 3) := by decide +kernel
theorem dX11_init_150 : decode cX11_init 150 = .ok (.dup, 1) := by decide +kernel
theorem dX11_init_151 : decode cX11_init 151 = .ok (.invokespecial 68, 3) := by decide +kernel
theorem dX11_init_154 : decode cX11_init 154 = .ok (.putfield 69, 3) := by decide +kernel
theorem dX11_init_157 : decode cX11_init 157 = .ok (.aload_n 0, 1) := by decide +kernel
theorem dX11_init_158 : decode cX11_init 158 = .ok (.new 73, 3) := by decide +kernel
theorem dX11_init_161 : decode cX11_init 161 = .ok (.dup, 1) := by decide +kernel
theorem dX11_init_162 : decode cX11_init 162 = .ok (.invokespecial 75, 3) := by decide +kernel
theorem dX11_init_165 : decode cX11_init 165 = .ok (.putfield 76, 3) := by decide +kernel
theorem dX11_init_168 : decode cX11_init 168 = .ok (.return_, 1) := by decide +kernel
theorem dX11_write_0 : decode cX11_write 0 = .ok (.iload_n 1, 1) := by decide +kernel
theorem dX11_write_1 : decode cX11_write 1 = .ok (.ifCond .lt 10, 3) := by decide +kernel
theorem dX11_write_4 : decode cX11_write 4 = .ok (.iload_n 1, 1) := by decide +kernel
theorem dX11_write_5 : decode cX11_write 5 = .ok (.sipush 255, 3) := by decide +kernel
theorem dX11_write_8 : decode cX11_write 8 = .ok (.if_icmp .le 6, 3) := by decide +kernel
theorem dX11_write_11 : decode cX11_write 11 = .ok (.bipush (-3), 2) := by decide +kernel
theorem dX11_write_13 : decode cX11_write 13 = .ok (.ireturn, 1) := by decide +kernel
theorem dX11_write_14 : decode cX11_write 14 = .ok (.aload_n 0, 1) := by decide +kernel
theorem dX11_write_15 : decode cX11_write 15 = .ok (.getfield 19, 3) := by decide +kernel
theorem dX11_write_18 : decode cX11_write 18 = .ok (.getfield 80, 3) := by decide +kernel
theorem dX11_write_21 : decode cX11_write 21 = .ok (.sipush 200, 3) := by decide +kernel
theorem dX11_write_24 : decode cX11_write 24 = .ok (.if_icmp .lt 6, 3) := by decide +kernel
theorem dX11_write_27 : decode cX11_write 27 = .ok (.bipush (-5), 2) := by decide +kernel
theorem dX11_write_29 : decode cX11_write 29 = .ok (.ireturn, 1) := by decide +kernel
theorem dX11_write_30 : decode cX11_write 30 = .ok (.aload_n 0, 1) := by decide +kernel
theorem dX11_write_31 : decode cX11_write 31 = .ok (.getfield 19, 3) := by decide +kernel
theorem dX11_write_34 : decode cX11_write 34 = .ok (.iload_n 1, 1) := by decide +kernel
theorem dX11_write_35 : decode cX11_write 35 = .ok (.invokevirtual 84, 3) := by decide +kernel
theorem dX11_write_38 : decode cX11_write 38 = .ok (.aload_n 0, 1) := by decide +kernel
theorem dX11_write_39 : decode cX11_write 39 = .ok (.getfield 19, 3) := by decide +kernel
theorem dX11_write_42 : decode cX11_write 42 = .ok (.getfield 80, 3) := by decide +kernel
theorem dX11_write_45 : decode cX11_write 45 = .ok (.ireturn, 1) := by decide +kernel
theorem dX11_erase_0 : decode cX11_erase 0 = .ok (.aload_n 0, 1) := by decide +kernel
theorem dX11_erase_1 : decode cX11_erase 1 = .ok (.getfield 19, 3) := by decide +kernel
theorem dX11_erase_4 : decode cX11_erase 4 = .ok (.getfield 80, 3) := by decide +kernel
theorem dX11_erase_7 : decode cX11_erase 7 = .ok (.istore_n 1, 1) := by decide +kernel
theorem dX11_erase_8 : decode cX11_erase 8 = .ok (.aload_n 0, 1) := by decide +kernel
theorem dX11_erase_9 : decode cX11_erase 9 = .ok (.getfield 19, 3) := by decide +kernel
theorem dX11_erase_12 : decode cX11_erase 12 = .ok (.invokevirtual 88, 3) := by decide +kernel
theorem dX11_erase_15 : decode cX11_erase 15 = .ok (.iload_n 1, 1) := by decide +kernel
theorem dX11_erase_16 : decode cX11_erase 16 = .ok (.ireturn, 1) := by decide +kernel
theorem dX11_fault_0 : decode cX11_fault 0 = .ok (.aload_n 0, 1) := by decide +kernel
theorem dX11_fault_1 : decode cX11_fault 1 = .ok (.getfield 28, 3) := by decide +kernel
theorem dX11_fault_4 : decode cX11_fault 4 = .ok (.aload_n 0, 1) := by decide +kernel
theorem dX11_fault_5 : decode cX11_fault 5 = .ok (.getfield 10, 3) := by decide +kernel
theorem dX11_fault_8 : decode cX11_fault 8 = .ok (.invokevirtual 91, 3) := by decide +kernel
theorem dX11_fault_11 : decode cX11_fault 11 = .ok (.ireturn, 1) := by decide +kernel
theorem dX11_road_0 : decode cX11_road 0 = .ok (.aload_n 0, 1) := by decide +kernel
theorem dX11_road_1 : decode cX11_road 1 = .ok (.getfield 28, 3) := by decide +kernel
theorem dX11_road_4 : decode cX11_road 4 = .ok (.aload_n 0, 1) := by decide +kernel
theorem dX11_road_5 : decode cX11_road 5 = .ok (.getfield 10, 3) := by decide +kernel
theorem dX11_road_8 : decode cX11_road 8 = .ok (.invokevirtual 91, 3) := by decide +kernel
theorem dX11_road_11 : decode cX11_road 11 = .ok (.iconst (-1), 1) := by decide +kernel
theorem dX11_road_12 : decode cX11_road 12 = .ok (.if_icmp .eq 6, 3) := by decide +kernel
theorem dX11_road_15 : decode cX11_road 15 = .ok (.bipush (-4), 2) := by decide +kernel
theorem dX11_road_17 : decode cX11_road 17 = .ok (.ireturn, 1) := by decide +kernel
theorem dX11_road_18 : decode cX11_road 18 = .ok (.aload_n 0, 1) := by decide +kernel
theorem dX11_road_19 : decode cX11_road 19 = .ok (.getfield 10, 3) := by decide +kernel
theorem dX11_road_22 : decode cX11_road 22 = .ok (.aload_n 0, 1) := by decide +kernel
theorem dX11_road_23 : decode cX11_road 23 = .ok (.getfield 28, 3) := by decide +kernel
theorem dX11_road_26 : decode cX11_road 26 = .ok (.getfield 95, 3) := by decide +kernel
theorem dX11_road_29 : decode cX11_road 29 = .ok (.invokevirtual 98, 3) := by decide +kernel
theorem dX11_road_32 : decode cX11_road 32 = .ok (.aload_n 0, 1) := by decide +kernel
theorem dX11_road_33 : decode cX11_road 33 = .ok (.getfield 19, 3) := by decide +kernel
theorem dX11_road_36 : decode cX11_road 36 = .ok (.invokevirtual 88, 3) := by decide +kernel
theorem dX11_road_39 : decode cX11_road 39 = .ok (.aload_n 0, 1) := by decide +kernel
theorem dX11_road_40 : decode cX11_road 40 = .ok (.invokevirtual 101, 3) := by decide +kernel
theorem dX11_road_43 : decode cX11_road 43 = .ok (.aload_n 0, 1) := by decide +kernel
theorem dX11_road_44 : decode cX11_road 44 = .ok (.getfield 28, 3) := by decide +kernel
theorem dX11_road_47 : decode cX11_road 47 = .ok (.getfield 104, 3) := by decide +kernel
theorem dX11_road_50 : decode cX11_road 50 = .ok (.ireturn, 1) := by decide +kernel
theorem dX11_hour_0 : decode cX11_hour 0 = .ok (.aload_n 0, 1) := by decide +kernel
theorem dX11_hour_1 : decode cX11_hour 1 = .ok (.getfield 10, 3) := by decide +kernel
theorem dX11_hour_4 : decode cX11_hour 4 = .ok (.iload_n 1, 1) := by decide +kernel
theorem dX11_hour_5 : decode cX11_hour 5 = .ok (.invokevirtual 107, 3) := by decide +kernel
theorem dX11_hour_8 : decode cX11_hour 8 = .ok (.ifCond .ne 6, 3) := by decide +kernel
theorem dX11_hour_11 : decode cX11_hour 11 = .ok (.bipush (-2), 2) := by decide +kernel
theorem dX11_hour_13 : decode cX11_hour 13 = .ok (.ireturn, 1) := by decide +kernel
theorem dX11_hour_14 : decode cX11_hour 14 = .ok (.iload_n 2, 1) := by decide +kernel
theorem dX11_hour_15 : decode cX11_hour 15 = .ok (.tableswitch 104 0 5 #[37, 47, 57, 67, 77, 94], 37) := by decide +kernel
theorem dX11_hour_52 : decode cX11_hour 52 = .ok (.aload_n 0, 1) := by decide +kernel
theorem dX11_hour_53 : decode cX11_hour 53 = .ok (.getfield 10, 3) := by decide +kernel
theorem dX11_hour_56 : decode cX11_hour 56 = .ok (.getfield 111, 3) := by decide +kernel
theorem dX11_hour_59 : decode cX11_hour 59 = .ok (.iload_n 1, 1) := by decide +kernel
theorem dX11_hour_60 : decode cX11_hour 60 = .ok (.iaload, 1) := by decide +kernel
theorem dX11_hour_61 : decode cX11_hour 61 = .ok (.ireturn, 1) := by decide +kernel
theorem dX11_hour_62 : decode cX11_hour 62 = .ok (.aload_n 0, 1) := by decide +kernel
theorem dX11_hour_63 : decode cX11_hour 63 = .ok (.getfield 10, 3) := by decide +kernel
theorem dX11_hour_66 : decode cX11_hour 66 = .ok (.getfield 115, 3) := by decide +kernel
theorem dX11_hour_69 : decode cX11_hour 69 = .ok (.iload_n 1, 1) := by decide +kernel
theorem dX11_hour_70 : decode cX11_hour 70 = .ok (.iaload, 1) := by decide +kernel
theorem dX11_hour_71 : decode cX11_hour 71 = .ok (.ireturn, 1) := by decide +kernel
theorem dX11_hour_72 : decode cX11_hour 72 = .ok (.aload_n 0, 1) := by decide +kernel
theorem dX11_hour_73 : decode cX11_hour 73 = .ok (.getfield 37, 3) := by decide +kernel
theorem dX11_hour_76 : decode cX11_hour 76 = .ok (.getfield 118, 3) := by decide +kernel
theorem dX11_hour_79 : decode cX11_hour 79 = .ok (.iload_n 1, 1) := by decide +kernel
theorem dX11_hour_80 : decode cX11_hour 80 = .ok (.iaload, 1) := by decide +kernel
theorem dX11_hour_81 : decode cX11_hour 81 = .ok (.ireturn, 1) := by decide +kernel
theorem dX11_hour_82 : decode cX11_hour 82 = .ok (.aload_n 0, 1) := by decide +kernel
theorem dX11_hour_83 : decode cX11_hour 83 = .ok (.getfield 37, 3) := by decide +kernel
theorem dX11_hour_86 : decode cX11_hour 86 = .ok (.getfield 121, 3) := by decide +kernel
theorem dX11_hour_89 : decode cX11_hour 89 = .ok (.iload_n 1, 1) := by decide +kernel
theorem dX11_hour_90 : decode cX11_hour 90 = .ok (.iaload, 1) := by decide +kernel
theorem dX11_hour_91 : decode cX11_hour 91 = .ok (.ireturn, 1) := by decide +kernel
theorem dX11_hour_92 : decode cX11_hour 92 = .ok (.aload_n 0, 1) := by decide +kernel
theorem dX11_hour_93 : decode cX11_hour 93 = .ok (.getfield 37, 3) := by decide +kernel
theorem dX11_hour_96 : decode cX11_hour 96 = .ok (.iload_n 1, 1) := by decide +kernel
theorem dX11_hour_97 : decode cX11_hour 97 = .ok (.invokevirtual 124, 3) := by decide +kernel
theorem dX11_hour_100 : decode cX11_hour 100 = .ok (.ifCond .eq 7, 3) := by decide +kernel
theorem dX11_hour_103 : decode cX11_hour 103 = .ok (.iconst 1, 1) := by decide +kernel
theorem dX11_hour_104 : decode cX11_hour 104 = .ok (.goto 4, 3) := by decide +kernel
theorem dX11_hour_107 : decode cX11_hour 107 = .ok (.iconst 0, 1) := by decide +kernel
theorem dX11_hour_108 : decode cX11_hour 108 = .ok (.ireturn, 1) := by decide +kernel
theorem dX11_hour_109 : decode cX11_hour 109 = .ok (.aload_n 0, 1) := by decide +kernel
theorem dX11_hour_110 : decode cX11_hour 110 = .ok (.getfield 37, 3) := by decide +kernel
theorem dX11_hour_113 : decode cX11_hour 113 = .ok (.getfield 127, 3) := by decide +kernel
theorem dX11_hour_116 : decode cX11_hour 116 = .ok (.iload_n 1, 1) := by decide +kernel
theorem dX11_hour_117 : decode cX11_hour 117 = .ok (.iaload, 1) := by decide +kernel
theorem dX11_hour_118 : decode cX11_hour 118 = .ok (.ireturn, 1) := by decide +kernel
theorem dX11_hour_119 : decode cX11_hour 119 = .ok (.bipush (-3), 2) := by decide +kernel
theorem dX11_hour_121 : decode cX11_hour 121 = .ok (.ireturn, 1) := by decide +kernel
theorem dX11_rider_0 : decode cX11_rider 0 = .ok (.aload_n 0, 1) := by decide +kernel
theorem dX11_rider_1 : decode cX11_rider 1 = .ok (.getfield 10, 3) := by decide +kernel
theorem dX11_rider_4 : decode cX11_rider 4 = .ok (.iload_n 1, 1) := by decide +kernel
theorem dX11_rider_5 : decode cX11_rider 5 = .ok (.invokevirtual 130, 3) := by decide +kernel
theorem dX11_rider_8 : decode cX11_rider 8 = .ok (.ifCond .ne 6, 3) := by decide +kernel
theorem dX11_rider_11 : decode cX11_rider 11 = .ok (.bipush (-2), 2) := by decide +kernel
theorem dX11_rider_13 : decode cX11_rider 13 = .ok (.ireturn, 1) := by decide +kernel
theorem dX11_rider_14 : decode cX11_rider 14 = .ok (.iload_n 2, 1) := by decide +kernel
theorem dX11_rider_15 : decode cX11_rider 15 = .ok (.tableswitch 55 0 2 #[25, 35, 45], 25) := by decide +kernel
theorem dX11_rider_40 : decode cX11_rider 40 = .ok (.aload_n 0, 1) := by decide +kernel
theorem dX11_rider_41 : decode cX11_rider 41 = .ok (.getfield 37, 3) := by decide +kernel
theorem dX11_rider_44 : decode cX11_rider 44 = .ok (.getfield 133, 3) := by decide +kernel
theorem dX11_rider_47 : decode cX11_rider 47 = .ok (.iload_n 1, 1) := by decide +kernel
theorem dX11_rider_48 : decode cX11_rider 48 = .ok (.iaload, 1) := by decide +kernel
theorem dX11_rider_49 : decode cX11_rider 49 = .ok (.ireturn, 1) := by decide +kernel
theorem dX11_rider_50 : decode cX11_rider 50 = .ok (.aload_n 0, 1) := by decide +kernel
theorem dX11_rider_51 : decode cX11_rider 51 = .ok (.getfield 37, 3) := by decide +kernel
theorem dX11_rider_54 : decode cX11_rider 54 = .ok (.getfield 136, 3) := by decide +kernel
theorem dX11_rider_57 : decode cX11_rider 57 = .ok (.iload_n 1, 1) := by decide +kernel
theorem dX11_rider_58 : decode cX11_rider 58 = .ok (.iaload, 1) := by decide +kernel
theorem dX11_rider_59 : decode cX11_rider 59 = .ok (.ireturn, 1) := by decide +kernel
theorem dX11_rider_60 : decode cX11_rider 60 = .ok (.aload_n 0, 1) := by decide +kernel
theorem dX11_rider_61 : decode cX11_rider 61 = .ok (.getfield 37, 3) := by decide +kernel
theorem dX11_rider_64 : decode cX11_rider 64 = .ok (.getfield 139, 3) := by decide +kernel
theorem dX11_rider_67 : decode cX11_rider 67 = .ok (.iload_n 1, 1) := by decide +kernel
theorem dX11_rider_68 : decode cX11_rider 68 = .ok (.iaload, 1) := by decide +kernel
theorem dX11_rider_69 : decode cX11_rider 69 = .ok (.ireturn, 1) := by decide +kernel
theorem dX11_rider_70 : decode cX11_rider 70 = .ok (.bipush (-3), 2) := by decide +kernel
theorem dX11_rider_72 : decode cX11_rider 72 = .ok (.ireturn, 1) := by decide +kernel
theorem dX11_inn_0 : decode cX11_inn 0 = .ok (.aload_n 0, 1) := by decide +kernel
theorem dX11_inn_1 : decode cX11_inn 1 = .ok (.getfield 10, 3) := by decide +kernel
theorem dX11_inn_4 : decode cX11_inn 4 = .ok (.iload_n 1, 1) := by decide +kernel
theorem dX11_inn_5 : decode cX11_inn 5 = .ok (.invokevirtual 142, 3) := by decide +kernel
theorem dX11_inn_8 : decode cX11_inn 8 = .ok (.ifCond .eq 15, 3) := by decide +kernel
theorem dX11_inn_11 : decode cX11_inn 11 = .ok (.aload_n 0, 1) := by decide +kernel
theorem dX11_inn_12 : decode cX11_inn 12 = .ok (.getfield 10, 3) := by decide +kernel
theorem dX11_inn_15 : decode cX11_inn 15 = .ok (.getfield 145, 3) := by decide +kernel
theorem dX11_inn_18 : decode cX11_inn 18 = .ok (.iload_n 1, 1) := by decide +kernel
theorem dX11_inn_19 : decode cX11_inn 19 = .ok (.iaload, 1) := by decide +kernel
theorem dX11_inn_20 : decode cX11_inn 20 = .ok (.goto 5, 3) := by decide +kernel
theorem dX11_inn_23 : decode cX11_inn 23 = .ok (.bipush (-2), 2) := by decide +kernel
theorem dX11_inn_25 : decode cX11_inn 25 = .ok (.ireturn, 1) := by decide +kernel
theorem dX11_as_0 : decode cX11_as 0 = .ok (.aload_n 0, 1) := by decide +kernel
theorem dX11_as_1 : decode cX11_as 1 = .ok (.getfield 10, 3) := by decide +kernel
theorem dX11_as_4 : decode cX11_as 4 = .ok (.iload_n 1, 1) := by decide +kernel
theorem dX11_as_5 : decode cX11_as 5 = .ok (.invokevirtual 107, 3) := by decide +kernel
theorem dX11_as_8 : decode cX11_as 8 = .ok (.ifCond .ne 6, 3) := by decide +kernel
theorem dX11_as_11 : decode cX11_as 11 = .ok (.bipush (-2), 2) := by decide +kernel
theorem dX11_as_13 : decode cX11_as 13 = .ok (.ireturn, 1) := by decide +kernel
theorem dX11_as_14 : decode cX11_as 14 = .ok (.iload_n 2, 1) := by decide +kernel
theorem dX11_as_15 : decode cX11_as 15 = .ok (.ifCond .lt 8, 3) := by decide +kernel
theorem dX11_as_18 : decode cX11_as 18 = .ok (.iload_n 2, 1) := by decide +kernel
theorem dX11_as_19 : decode cX11_as 19 = .ok (.iconst 5, 1) := by decide +kernel
theorem dX11_as_20 : decode cX11_as 20 = .ok (.if_icmp .le 6, 3) := by decide +kernel
theorem dX11_as_23 : decode cX11_as 23 = .ok (.bipush (-3), 2) := by decide +kernel
theorem dX11_as_25 : decode cX11_as 25 = .ok (.ireturn, 1) := by decide +kernel
theorem dX11_as_26 : decode cX11_as 26 = .ok (.aload_n 0, 1) := by decide +kernel
theorem dX11_as_27 : decode cX11_as 27 = .ok (.getfield 10, 3) := by decide +kernel
theorem dX11_as_30 : decode cX11_as 30 = .ok (.getfield 111, 3) := by decide +kernel
theorem dX11_as_33 : decode cX11_as 33 = .ok (.iload_n 1, 1) := by decide +kernel
theorem dX11_as_34 : decode cX11_as 34 = .ok (.iaload, 1) := by decide +kernel
theorem dX11_as_35 : decode cX11_as 35 = .ok (.istore_n 3, 1) := by decide +kernel
theorem dX11_as_36 : decode cX11_as 36 = .ok (.iload_n 3, 1) := by decide +kernel
theorem dX11_as_37 : decode cX11_as 37 = .ok (.iload_n 2, 1) := by decide +kernel
theorem dX11_as_38 : decode cX11_as 38 = .ok (.invokestatic 150, 3) := by decide +kernel
theorem dX11_as_41 : decode cX11_as 41 = .ok (.ifCond .eq 11, 3) := by decide +kernel
theorem dX11_as_44 : decode cX11_as 44 = .ok (.iload_n 3, 1) := by decide +kernel
theorem dX11_as_45 : decode cX11_as 45 = .ok (.iconst 5, 1) := by decide +kernel
theorem dX11_as_46 : decode cX11_as 46 = .ok (.invokestatic 154, 3) := by decide +kernel
theorem dX11_as_49 : decode cX11_as 49 = .ok (.goto 5, 3) := by decide +kernel
theorem dX11_as_52 : decode cX11_as 52 = .ok (.bipush (-4), 2) := by decide +kernel
theorem dX11_as_54 : decode cX11_as 54 = .ok (.ireturn, 1) := by decide +kernel
theorem dX11_stage_0 : decode cX11_stage 0 = .ok (.iload_n 1, 1) := by decide +kernel
theorem dX11_stage_1 : decode cX11_stage 1 = .ok (.iconst 1, 1) := by decide +kernel
theorem dX11_stage_2 : decode cX11_stage 2 = .ok (.if_icmp .lt 9, 3) := by decide +kernel
theorem dX11_stage_5 : decode cX11_stage 5 = .ok (.iload_n 1, 1) := by decide +kernel
theorem dX11_stage_6 : decode cX11_stage 6 = .ok (.bipush 12, 2) := by decide +kernel
theorem dX11_stage_8 : decode cX11_stage 8 = .ok (.if_icmp .le 6, 3) := by decide +kernel
theorem dX11_stage_11 : decode cX11_stage 11 = .ok (.bipush (-3), 2) := by decide +kernel
theorem dX11_stage_13 : decode cX11_stage 13 = .ok (.ireturn, 1) := by decide +kernel
theorem dX11_stage_14 : decode cX11_stage 14 = .ok (.aload_n 0, 1) := by decide +kernel
theorem dX11_stage_15 : decode cX11_stage 15 = .ok (.getfield 37, 3) := by decide +kernel
theorem dX11_stage_18 : decode cX11_stage 18 = .ok (.getfield 158, 3) := by decide +kernel
theorem dX11_stage_21 : decode cX11_stage 21 = .ok (.iload_n 1, 1) := by decide +kernel
theorem dX11_stage_22 : decode cX11_stage 22 = .ok (.iadd, 1) := by decide +kernel
theorem dX11_stage_23 : decode cX11_stage 23 = .ok (.sipush 999, 3) := by decide +kernel
theorem dX11_stage_26 : decode cX11_stage 26 = .ok (.if_icmp .le 6, 3) := by decide +kernel
theorem dX11_stage_29 : decode cX11_stage 29 = .ok (.bipush (-5), 2) := by decide +kernel
theorem dX11_stage_31 : decode cX11_stage 31 = .ok (.ireturn, 1) := by decide +kernel
theorem dX11_stage_32 : decode cX11_stage 32 = .ok (.aload_n 0, 1) := by decide +kernel
theorem dX11_stage_33 : decode cX11_stage 33 = .ok (.getfield 47, 3) := by decide +kernel
theorem dX11_stage_36 : decode cX11_stage 36 = .ok (.aload_n 0, 1) := by decide +kernel
theorem dX11_stage_37 : decode cX11_stage 37 = .ok (.getfield 37, 3) := by decide +kernel
theorem dX11_stage_40 : decode cX11_stage 40 = .ok (.invokevirtual 161, 3) := by decide +kernel
theorem dX11_stage_43 : decode cX11_stage 43 = .ok (.iconst 0, 1) := by decide +kernel
theorem dX11_stage_44 : decode cX11_stage 44 = .ok (.istore_n 2, 1) := by decide +kernel
theorem dX11_stage_45 : decode cX11_stage 45 = .ok (.iload_n 2, 1) := by decide +kernel
theorem dX11_stage_46 : decode cX11_stage 46 = .ok (.iload_n 1, 1) := by decide +kernel
theorem dX11_stage_47 : decode cX11_stage 47 = .ok (.if_icmp .ge 16, 3) := by decide +kernel
theorem dX11_stage_50 : decode cX11_stage 50 = .ok (.aload_n 0, 1) := by decide +kernel
theorem dX11_stage_51 : decode cX11_stage 51 = .ok (.getfield 37, 3) := by decide +kernel
theorem dX11_stage_54 : decode cX11_stage 54 = .ok (.invokevirtual 165, 3) := by decide +kernel
theorem dX11_stage_57 : decode cX11_stage 57 = .ok (.iinc 2 1, 3) := by decide +kernel
theorem dX11_stage_60 : decode cX11_stage 60 = .ok (.goto (-15), 3) := by decide +kernel
theorem dX11_stage_63 : decode cX11_stage 63 = .ok (.aload_n 0, 1) := by decide +kernel
theorem dX11_stage_64 : decode cX11_stage 64 = .ok (.getfield 37, 3) := by decide +kernel
theorem dX11_stage_67 : decode cX11_stage 67 = .ok (.getfield 158, 3) := by decide +kernel
theorem dX11_stage_70 : decode cX11_stage 70 = .ok (.ireturn, 1) := by decide +kernel
theorem dX11_oats_0 : decode cX11_oats 0 = .ok (.aload_n 0, 1) := by decide +kernel
theorem dX11_oats_1 : decode cX11_oats 1 = .ok (.getfield 10, 3) := by decide +kernel
theorem dX11_oats_4 : decode cX11_oats 4 = .ok (.iload_n 1, 1) := by decide +kernel
theorem dX11_oats_5 : decode cX11_oats 5 = .ok (.invokevirtual 107, 3) := by decide +kernel
theorem dX11_oats_8 : decode cX11_oats 8 = .ok (.ifCond .ne 6, 3) := by decide +kernel
theorem dX11_oats_11 : decode cX11_oats 11 = .ok (.bipush (-2), 2) := by decide +kernel
theorem dX11_oats_13 : decode cX11_oats 13 = .ok (.ireturn, 1) := by decide +kernel
theorem dX11_oats_14 : decode cX11_oats 14 = .ok (.aload_n 0, 1) := by decide +kernel
theorem dX11_oats_15 : decode cX11_oats 15 = .ok (.getfield 37, 3) := by decide +kernel
theorem dX11_oats_18 : decode cX11_oats 18 = .ok (.getfield 121, 3) := by decide +kernel
theorem dX11_oats_21 : decode cX11_oats 21 = .ok (.iload_n 1, 1) := by decide +kernel
theorem dX11_oats_22 : decode cX11_oats 22 = .ok (.iaload, 1) := by decide +kernel
theorem dX11_oats_23 : decode cX11_oats 23 = .ok (.ifCond .ne 6, 3) := by decide +kernel
theorem dX11_oats_26 : decode cX11_oats 26 = .ok (.bipush (-4), 2) := by decide +kernel
theorem dX11_oats_28 : decode cX11_oats 28 = .ok (.ireturn, 1) := by decide +kernel
theorem dX11_oats_29 : decode cX11_oats 29 = .ok (.aload_n 0, 1) := by decide +kernel
theorem dX11_oats_30 : decode cX11_oats 30 = .ok (.getfield 47, 3) := by decide +kernel
theorem dX11_oats_33 : decode cX11_oats 33 = .ok (.aload_n 0, 1) := by decide +kernel
theorem dX11_oats_34 : decode cX11_oats 34 = .ok (.getfield 37, 3) := by decide +kernel
theorem dX11_oats_37 : decode cX11_oats 37 = .ok (.invokevirtual 161, 3) := by decide +kernel
theorem dX11_oats_40 : decode cX11_oats 40 = .ok (.aload_n 0, 1) := by decide +kernel
theorem dX11_oats_41 : decode cX11_oats 41 = .ok (.getfield 37, 3) := by decide +kernel
theorem dX11_oats_44 : decode cX11_oats 44 = .ok (.iload_n 1, 1) := by decide +kernel
theorem dX11_oats_45 : decode cX11_oats 45 = .ok (.invokevirtual 168, 3) := by decide +kernel
theorem dX11_oats_48 : decode cX11_oats 48 = .ok (.aload_n 0, 1) := by decide +kernel
theorem dX11_oats_49 : decode cX11_oats 49 = .ok (.getfield 37, 3) := by decide +kernel
theorem dX11_oats_52 : decode cX11_oats 52 = .ok (.getfield 121, 3) := by decide +kernel
theorem dX11_oats_55 : decode cX11_oats 55 = .ok (.iload_n 1, 1) := by decide +kernel
theorem dX11_oats_56 : decode cX11_oats 56 = .ok (.iaload, 1) := by decide +kernel
theorem dX11_oats_57 : decode cX11_oats 57 = .ok (.ireturn, 1) := by decide +kernel
theorem dX11_shoe_0 : decode cX11_shoe 0 = .ok (.aload_n 0, 1) := by decide +kernel
theorem dX11_shoe_1 : decode cX11_shoe 1 = .ok (.getfield 10, 3) := by decide +kernel
theorem dX11_shoe_4 : decode cX11_shoe 4 = .ok (.iload_n 1, 1) := by decide +kernel
theorem dX11_shoe_5 : decode cX11_shoe 5 = .ok (.invokevirtual 107, 3) := by decide +kernel
theorem dX11_shoe_8 : decode cX11_shoe 8 = .ok (.ifCond .ne 6, 3) := by decide +kernel
theorem dX11_shoe_11 : decode cX11_shoe 11 = .ok (.bipush (-2), 2) := by decide +kernel
theorem dX11_shoe_13 : decode cX11_shoe 13 = .ok (.ireturn, 1) := by decide +kernel
theorem dX11_shoe_14 : decode cX11_shoe 14 = .ok (.aload_n 0, 1) := by decide +kernel
theorem dX11_shoe_15 : decode cX11_shoe 15 = .ok (.getfield 37, 3) := by decide +kernel
theorem dX11_shoe_18 : decode cX11_shoe 18 = .ok (.iload_n 1, 1) := by decide +kernel
theorem dX11_shoe_19 : decode cX11_shoe 19 = .ok (.invokevirtual 124, 3) := by decide +kernel
theorem dX11_shoe_22 : decode cX11_shoe 22 = .ok (.ifCond .ne 6, 3) := by decide +kernel
theorem dX11_shoe_25 : decode cX11_shoe 25 = .ok (.bipush (-4), 2) := by decide +kernel
theorem dX11_shoe_27 : decode cX11_shoe 27 = .ok (.ireturn, 1) := by decide +kernel
theorem dX11_shoe_28 : decode cX11_shoe 28 = .ok (.aload_n 0, 1) := by decide +kernel
theorem dX11_shoe_29 : decode cX11_shoe 29 = .ok (.getfield 47, 3) := by decide +kernel
theorem dX11_shoe_32 : decode cX11_shoe 32 = .ok (.aload_n 0, 1) := by decide +kernel
theorem dX11_shoe_33 : decode cX11_shoe 33 = .ok (.getfield 37, 3) := by decide +kernel
theorem dX11_shoe_36 : decode cX11_shoe 36 = .ok (.invokevirtual 161, 3) := by decide +kernel
theorem dX11_shoe_39 : decode cX11_shoe 39 = .ok (.aload_n 0, 1) := by decide +kernel
theorem dX11_shoe_40 : decode cX11_shoe 40 = .ok (.getfield 37, 3) := by decide +kernel
theorem dX11_shoe_43 : decode cX11_shoe 43 = .ok (.getfield 121, 3) := by decide +kernel
theorem dX11_shoe_46 : decode cX11_shoe 46 = .ok (.iload_n 1, 1) := by decide +kernel
theorem dX11_shoe_47 : decode cX11_shoe 47 = .ok (.iaload, 1) := by decide +kernel
theorem dX11_shoe_48 : decode cX11_shoe 48 = .ok (.istore_n 2, 1) := by decide +kernel
theorem dX11_shoe_49 : decode cX11_shoe 49 = .ok (.aload_n 0, 1) := by decide +kernel
theorem dX11_shoe_50 : decode cX11_shoe 50 = .ok (.getfield 37, 3) := by decide +kernel
theorem dX11_shoe_53 : decode cX11_shoe 53 = .ok (.iload_n 1, 1) := by decide +kernel
theorem dX11_shoe_54 : decode cX11_shoe 54 = .ok (.invokevirtual 171, 3) := by decide +kernel
theorem dX11_shoe_57 : decode cX11_shoe 57 = .ok (.iload_n 2, 1) := by decide +kernel
theorem dX11_shoe_58 : decode cX11_shoe 58 = .ok (.ireturn, 1) := by decide +kernel
theorem dX11_lead_0 : decode cX11_lead 0 = .ok (.aload_n 0, 1) := by decide +kernel
theorem dX11_lead_1 : decode cX11_lead 1 = .ok (.getfield 10, 3) := by decide +kernel
theorem dX11_lead_4 : decode cX11_lead 4 = .ok (.iload_n 1, 1) := by decide +kernel
theorem dX11_lead_5 : decode cX11_lead 5 = .ok (.invokevirtual 107, 3) := by decide +kernel
theorem dX11_lead_8 : decode cX11_lead 8 = .ok (.ifCond .eq 14, 3) := by decide +kernel
theorem dX11_lead_11 : decode cX11_lead 11 = .ok (.aload_n 0, 1) := by decide +kernel
theorem dX11_lead_12 : decode cX11_lead 12 = .ok (.getfield 10, 3) := by decide +kernel
theorem dX11_lead_15 : decode cX11_lead 15 = .ok (.iload_n 2, 1) := by decide +kernel
theorem dX11_lead_16 : decode cX11_lead 16 = .ok (.invokevirtual 142, 3) := by decide +kernel
theorem dX11_lead_19 : decode cX11_lead 19 = .ok (.ifCond .ne 6, 3) := by decide +kernel
theorem dX11_lead_22 : decode cX11_lead 22 = .ok (.bipush (-2), 2) := by decide +kernel
theorem dX11_lead_24 : decode cX11_lead 24 = .ok (.ireturn, 1) := by decide +kernel
theorem dX11_lead_25 : decode cX11_lead 25 = .ok (.aload_n 0, 1) := by decide +kernel
theorem dX11_lead_26 : decode cX11_lead 26 = .ok (.getfield 37, 3) := by decide +kernel
theorem dX11_lead_29 : decode cX11_lead 29 = .ok (.getfield 118, 3) := by decide +kernel
theorem dX11_lead_32 : decode cX11_lead 32 = .ok (.iload_n 1, 1) := by decide +kernel
theorem dX11_lead_33 : decode cX11_lead 33 = .ok (.iaload, 1) := by decide +kernel
theorem dX11_lead_34 : decode cX11_lead 34 = .ok (.istore_n 3, 1) := by decide +kernel
theorem dX11_lead_35 : decode cX11_lead 35 = .ok (.iload_n 3, 1) := by decide +kernel
theorem dX11_lead_36 : decode cX11_lead 36 = .ok (.iload_n 2, 1) := by decide +kernel
theorem dX11_lead_37 : decode cX11_lead 37 = .ok (.if_icmp .ne 6, 3) := by decide +kernel
theorem dX11_lead_40 : decode cX11_lead 40 = .ok (.bipush (-4), 2) := by decide +kernel
theorem dX11_lead_42 : decode cX11_lead 42 = .ok (.ireturn, 1) := by decide +kernel
theorem dX11_lead_43 : decode cX11_lead 43 = .ok (.aload_n 0, 1) := by decide +kernel
theorem dX11_lead_44 : decode cX11_lead 44 = .ok (.getfield 47, 3) := by decide +kernel
theorem dX11_lead_47 : decode cX11_lead 47 = .ok (.aload_n 0, 1) := by decide +kernel
theorem dX11_lead_48 : decode cX11_lead 48 = .ok (.getfield 37, 3) := by decide +kernel
