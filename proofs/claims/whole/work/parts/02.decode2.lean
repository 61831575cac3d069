theorem dX12_lead_8 : decode cX12_lead 8 = .ok (.aload_n 0, 1) := by decide +kernel
theorem dX12_lead_9 : decode cX12_lead 9 = .ok (.iload_n 2, 1) := by decide +kernel
theorem dX12_lead_10 : decode cX12_lead 10 = .ok (.invokevirtual 175, 3) := by decide +kernel
theorem dX12_lead_13 : decode cX12_lead 13 = .ok (.ifCond .ne 6, 3) := by decide +kernel
theorem dX12_lead_16 : decode cX12_lead 16 = .ok (.bipush (-2), 2) := by decide +kernel
theorem dX12_lead_18 : decode cX12_lead 18 = .ok (.ireturn, 1) := by decide +kernel
theorem dX12_lead_19 : decode cX12_lead 19 = .ok (.aload_n 0, 1) := by decide +kernel
theorem dX12_lead_20 : decode cX12_lead 20 = .ok (.getfield 7, 3) := by decide +kernel
theorem dX12_lead_23 : decode cX12_lead 23 = .ok (.bipush 19, 2) := by decide +kernel
theorem dX12_lead_25 : decode cX12_lead 25 = .ok (.iload_n 1, 1) := by decide +kernel
theorem dX12_lead_26 : decode cX12_lead 26 = .ok (.iadd, 1) := by decide +kernel
theorem dX12_lead_27 : decode cX12_lead 27 = .ok (.iaload, 1) := by decide +kernel
theorem dX12_lead_28 : decode cX12_lead 28 = .ok (.istore_n 3, 1) := by decide +kernel
theorem dX12_lead_29 : decode cX12_lead 29 = .ok (.iload_n 3, 1) := by decide +kernel
theorem dX12_lead_30 : decode cX12_lead 30 = .ok (.iload_n 2, 1) := by decide +kernel
theorem dX12_lead_31 : decode cX12_lead 31 = .ok (.if_icmp .ne 6, 3) := by decide +kernel
theorem dX12_lead_34 : decode cX12_lead 34 = .ok (.bipush (-4), 2) := by decide +kernel
theorem dX12_lead_36 : decode cX12_lead 36 = .ok (.ireturn, 1) := by decide +kernel
theorem dX12_lead_37 : decode cX12_lead 37 = .ok (.aload_n 0, 1) := by decide +kernel
theorem dX12_lead_38 : decode cX12_lead 38 = .ok (.invokevirtual 228, 3) := by decide +kernel
theorem dX12_lead_41 : decode cX12_lead 41 = .ok (.aload_n 0, 1) := by decide +kernel
theorem dX12_lead_42 : decode cX12_lead 42 = .ok (.getfield 7, 3) := by decide +kernel
theorem dX12_lead_45 : decode cX12_lead 45 = .ok (.bipush 19, 2) := by decide +kernel
theorem dX12_lead_47 : decode cX12_lead 47 = .ok (.iload_n 1, 1) := by decide +kernel
theorem dX12_lead_48 : decode cX12_lead 48 = .ok (.iadd, 1) := by decide +kernel
theorem dX12_lead_49 : decode cX12_lead 49 = .ok (.iload_n 2, 1) := by decide +kernel
theorem dX12_lead_50 : decode cX12_lead 50 = .ok (.iastore, 1) := by decide +kernel
theorem dX12_lead_51 : decode cX12_lead 51 = .ok (.iload_n 3, 1) := by decide +kernel
theorem dX12_lead_52 : decode cX12_lead 52 = .ok (.ireturn, 1) := by decide +kernel
theorem dX12_turn_0 : decode cX12_turn 0 = .ok (.aload_n 0, 1) := by decide +kernel
theorem dX12_turn_1 : decode cX12_turn 1 = .ok (.iload_n 1, 1) := by decide +kernel
theorem dX12_turn_2 : decode cX12_turn 2 = .ok (.invokevirtual 172, 3) := by decide +kernel
theorem dX12_turn_5 : decode cX12_turn 5 = .ok (.ifCond .eq 11, 3) := by decide +kernel
theorem dX12_turn_8 : decode cX12_turn 8 = .ok (.aload_n 0, 1) := by decide +kernel
theorem dX12_turn_9 : decode cX12_turn 9 = .ok (.iload_n 2, 1) := by decide +kernel
theorem dX12_turn_10 : decode cX12_turn 10 = .ok (.invokevirtual 175, 3) := by decide +kernel
theorem dX12_turn_13 : decode cX12_turn 13 = .ok (.ifCond .ne 6, 3) := by decide +kernel
theorem dX12_turn_16 : decode cX12_turn 16 = .ok (.bipush (-2), 2) := by decide +kernel
theorem dX12_turn_18 : decode cX12_turn 18 = .ok (.ireturn, 1) := by decide +kernel
theorem dX12_turn_19 : decode cX12_turn 19 = .ok (.aload_n 0, 1) := by decide +kernel
theorem dX12_turn_20 : decode cX12_turn 20 = .ok (.getfield 7, 3) := by decide +kernel
theorem dX12_turn_23 : decode cX12_turn 23 = .ok (.bipush 55, 2) := by decide +kernel
theorem dX12_turn_25 : decode cX12_turn 25 = .ok (.iload_n 1, 1) := by decide +kernel
theorem dX12_turn_26 : decode cX12_turn 26 = .ok (.iadd, 1) := by decide +kernel
theorem dX12_turn_27 : decode cX12_turn 27 = .ok (.iaload, 1) := by decide +kernel
theorem dX12_turn_28 : decode cX12_turn 28 = .ok (.istore_n 3, 1) := by decide +kernel
theorem dX12_turn_29 : decode cX12_turn 29 = .ok (.iload_n 3, 1) := by decide +kernel
theorem dX12_turn_30 : decode cX12_turn 30 = .ok (.iload_n 2, 1) := by decide +kernel
theorem dX12_turn_31 : decode cX12_turn 31 = .ok (.if_icmp .ne 6, 3) := by decide +kernel
theorem dX12_turn_34 : decode cX12_turn 34 = .ok (.bipush (-4), 2) := by decide +kernel
theorem dX12_turn_36 : decode cX12_turn 36 = .ok (.ireturn, 1) := by decide +kernel
theorem dX12_turn_37 : decode cX12_turn 37 = .ok (.aload_n 0, 1) := by decide +kernel
theorem dX12_turn_38 : decode cX12_turn 38 = .ok (.invokevirtual 228, 3) := by decide +kernel
theorem dX12_turn_41 : decode cX12_turn 41 = .ok (.aload_n 0, 1) := by decide +kernel
theorem dX12_turn_42 : decode cX12_turn 42 = .ok (.getfield 7, 3) := by decide +kernel
theorem dX12_turn_45 : decode cX12_turn 45 = .ok (.bipush 55, 2) := by decide +kernel
theorem dX12_turn_47 : decode cX12_turn 47 = .ok (.iload_n 1, 1) := by decide +kernel
theorem dX12_turn_48 : decode cX12_turn 48 = .ok (.iadd, 1) := by decide +kernel
theorem dX12_turn_49 : decode cX12_turn 49 = .ok (.iload_n 2, 1) := by decide +kernel
theorem dX12_turn_50 : decode cX12_turn 50 = .ok (.iastore, 1) := by decide +kernel
theorem dX12_turn_51 : decode cX12_turn 51 = .ok (.iload_n 3, 1) := by decide +kernel
theorem dX12_turn_52 : decode cX12_turn 52 = .ok (.ireturn, 1) := by decide +kernel
theorem dX12_undo_0 : decode cX12_undo 0 = .ok (.aload_n 0, 1) := by decide +kernel
theorem dX12_undo_1 : decode cX12_undo 1 = .ok (.getfield 163, 3) := by decide +kernel
theorem dX12_undo_4 : decode cX12_undo 4 = .ok (.ifCond .ne 6, 3) := by decide +kernel
theorem dX12_undo_7 : decode cX12_undo 7 = .ok (.bipush (-4), 2) := by decide +kernel
theorem dX12_undo_9 : decode cX12_undo 9 = .ok (.ireturn, 1) := by decide +kernel
theorem dX12_undo_10 : decode cX12_undo 10 = .ok (.aload_n 0, 1) := by decide +kernel
theorem dX12_undo_11 : decode cX12_undo 11 = .ok (.dup, 1) := by decide +kernel
theorem dX12_undo_12 : decode cX12_undo 12 = .ok (.getfield 163, 3) := by decide +kernel
theorem dX12_undo_15 : decode cX12_undo 15 = .ok (.iconst 1, 1) := by decide +kernel
theorem dX12_undo_16 : decode cX12_undo 16 = .ok (.isub, 1) := by decide +kernel
theorem dX12_undo_17 : decode cX12_undo 17 = .ok (.putfield 163, 3) := by decide +kernel
theorem dX12_undo_20 : decode cX12_undo 20 = .ok (.aload_n 0, 1) := by decide +kernel
theorem dX12_undo_21 : decode cX12_undo 21 = .ok (.sipush 140, 3) := by decide +kernel
theorem dX12_undo_24 : decode cX12_undo 24 = .ok (.bipush 70, 2) := by decide +kernel
theorem dX12_undo_26 : decode cX12_undo 26 = .ok (.aload_n 0, 1) := by decide +kernel
theorem dX12_undo_27 : decode cX12_undo 27 = .ok (.getfield 163, 3) := by decide +kernel
theorem dX12_undo_30 : decode cX12_undo 30 = .ok (.imul, 1) := by decide +kernel
theorem dX12_undo_31 : decode cX12_undo 31 = .ok (.iadd, 1) := by decide +kernel
theorem dX12_undo_32 : decode cX12_undo 32 = .ok (.iconst 0, 1) := by decide +kernel
theorem dX12_undo_33 : decode cX12_undo 33 = .ok (.invokevirtual 159, 3) := by decide +kernel
theorem dX12_undo_36 : decode cX12_undo 36 = .ok (.aload_n 0, 1) := by decide +kernel
theorem dX12_undo_37 : decode cX12_undo 37 = .ok (.getfield 163, 3) := by decide +kernel
theorem dX12_undo_40 : decode cX12_undo 40 = .ok (.ireturn, 1) := by decide +kernel
theorem dX12_keep_0 : decode cX12_keep 0 = .ok (.iload_n 1, 1) := by decide +kernel
theorem dX12_keep_1 : decode cX12_keep 1 = .ok (.i2l, 1) := by decide +kernel
theorem dX12_keep_2 : decode cX12_keep 2 = .ok (.lconst 0, 1) := by decide +kernel
theorem dX12_keep_3 : decode cX12_keep 3 = .ok (.lconst 1, 1) := by decide +kernel
theorem dX12_keep_4 : decode cX12_keep 4 = .ok (.invokestatic 79, 3) := by decide +kernel
theorem dX12_keep_7 : decode cX12_keep 7 = .ok (.ifCond .ne 6, 3) := by decide +kernel
theorem dX12_keep_10 : decode cX12_keep 10 = .ok (.bipush (-2), 2) := by decide +kernel
theorem dX12_keep_12 : decode cX12_keep 12 = .ok (.ireturn, 1) := by decide +kernel
theorem dX12_keep_13 : decode cX12_keep 13 = .ok (.aload_n 0, 1) := by decide +kernel
theorem dX12_keep_14 : decode cX12_keep 14 = .ok (.iconst 0, 1) := by decide +kernel
theorem dX12_keep_15 : decode cX12_keep 15 = .ok (.sipush 700, 3) := by decide +kernel
theorem dX12_keep_18 : decode cX12_keep 18 = .ok (.bipush 70, 2) := by decide +kernel
theorem dX12_keep_20 : decode cX12_keep 20 = .ok (.iload_n 1, 1) := by decide +kernel
theorem dX12_keep_21 : decode cX12_keep 21 = .ok (.imul, 1) := by decide +kernel
theorem dX12_keep_22 : decode cX12_keep 22 = .ok (.iadd, 1) := by decide +kernel
theorem dX12_keep_23 : decode cX12_keep 23 = .ok (.invokevirtual 159, 3) := by decide +kernel
theorem dX12_keep_26 : decode cX12_keep 26 = .ok (.aload_n 0, 1) := by decide +kernel
theorem dX12_keep_27 : decode cX12_keep 27 = .ok (.getfield 13, 3) := by decide +kernel
theorem dX12_keep_30 : decode cX12_keep 30 = .ok (.iload_n 1, 1) := by decide +kernel
theorem dX12_keep_31 : decode cX12_keep 31 = .ok (.iconst 1, 1) := by decide +kernel
theorem dX12_keep_32 : decode cX12_keep 32 = .ok (.bastore, 1) := by decide +kernel
theorem dX12_keep_33 : decode cX12_keep 33 = .ok (.aload_n 0, 1) := by decide +kernel
theorem dX12_keep_34 : decode cX12_keep 34 = .ok (.getfield 7, 3) := by decide +kernel
theorem dX12_keep_37 : decode cX12_keep 37 = .ok (.iconst 2, 1) := by decide +kernel
theorem dX12_keep_38 : decode cX12_keep 38 = .ok (.iaload, 1) := by decide +kernel
theorem dX12_keep_39 : decode cX12_keep 39 = .ok (.ireturn, 1) := by decide +kernel
theorem dX12_back_0 : decode cX12_back 0 = .ok (.iload_n 1, 1) := by decide +kernel
theorem dX12_back_1 : decode cX12_back 1 = .ok (.i2l, 1) := by decide +kernel
theorem dX12_back_2 : decode cX12_back 2 = .ok (.lconst 0, 1) := by decide +kernel
theorem dX12_back_3 : decode cX12_back 3 = .ok (.lconst 1, 1) := by decide +kernel
theorem dX12_back_4 : decode cX12_back 4 = .ok (.invokestatic 79, 3) := by decide +kernel
theorem dX12_back_7 : decode cX12_back 7 = .ok (.ifCond .ne 6, 3) := by decide +kernel
theorem dX12_back_10 : decode cX12_back 10 = .ok (.bipush (-2), 2) := by decide +kernel
theorem dX12_back_12 : decode cX12_back 12 = .ok (.ireturn, 1) := by decide +kernel
theorem dX12_back_13 : decode cX12_back 13 = .ok (.aload_n 0, 1) := by decide +kernel
theorem dX12_back_14 : decode cX12_back 14 = .ok (.getfield 13, 3) := by decide +kernel
theorem dX12_back_17 : decode cX12_back 17 = .ok (.iload_n 1, 1) := by decide +kernel
theorem dX12_back_18 : decode cX12_back 18 = .ok (.baload, 1) := by decide +kernel
theorem dX12_back_19 : decode cX12_back 19 = .ok (.ifCond .ne 6, 3) := by decide +kernel
theorem dX12_back_22 : decode cX12_back 22 = .ok (.bipush (-4), 2) := by decide +kernel
theorem dX12_back_24 : decode cX12_back 24 = .ok (.ireturn, 1) := by decide +kernel
theorem dX12_back_25 : decode cX12_back 25 = .ok (.aload_n 0, 1) := by decide +kernel
theorem dX12_back_26 : decode cX12_back 26 = .ok (.sipush 700, 3) := by decide +kernel
theorem dX12_back_29 : decode cX12_back 29 = .ok (.bipush 70, 2) := by decide +kernel
theorem dX12_back_31 : decode cX12_back 31 = .ok (.iload_n 1, 1) := by decide +kernel
theorem dX12_back_32 : decode cX12_back 32 = .ok (.imul, 1) := by decide +kernel
theorem dX12_back_33 : decode cX12_back 33 = .ok (.iadd, 1) := by decide +kernel
theorem dX12_back_34 : decode cX12_back 34 = .ok (.iconst 0, 1) := by decide +kernel
theorem dX12_back_35 : decode cX12_back 35 = .ok (.invokevirtual 159, 3) := by decide +kernel
theorem dX12_back_38 : decode cX12_back 38 = .ok (.aload_n 0, 1) := by decide +kernel
theorem dX12_back_39 : decode cX12_back 39 = .ok (.iconst 0, 1) := by decide +kernel
theorem dX12_back_40 : decode cX12_back 40 = .ok (.putfield 163, 3) := by decide +kernel
theorem dX12_back_43 : decode cX12_back 43 = .ok (.aload_n 0, 1) := by decide +kernel
theorem dX12_back_44 : decode cX12_back 44 = .ok (.getfield 7, 3) := by decide +kernel
theorem dX12_back_47 : decode cX12_back 47 = .ok (.iconst 2, 1) := by decide +kernel
theorem dX12_back_48 : decode cX12_back 48 = .ok (.iaload, 1) := by decide +kernel
theorem dX12_back_49 : decode cX12_back 49 = .ok (.ireturn, 1) := by decide +kernel
theorem dX12_isRiding_0 : decode cX12_isRiding 0 = .ok (.aload_n 0, 1) := by decide +kernel
theorem dX12_isRiding_1 : decode cX12_isRiding 1 = .ok (.getfield 7, 3) := by decide +kernel
theorem dX12_isRiding_4 : decode cX12_isRiding 4 = .ok (.bipush 51, 2) := by decide +kernel
theorem dX12_isRiding_6 : decode cX12_isRiding 6 = .ok (.iload_n 1, 1) := by decide +kernel
theorem dX12_isRiding_7 : decode cX12_isRiding 7 = .ok (.iadd, 1) := by decide +kernel
theorem dX12_isRiding_8 : decode cX12_isRiding 8 = .ok (.iaload, 1) := by decide +kernel
theorem dX12_isRiding_9 : decode cX12_isRiding 9 = .ok (.aload_n 0, 1) := by decide +kernel
theorem dX12_isRiding_10 : decode cX12_isRiding 10 = .ok (.getfield 7, 3) := by decide +kernel
theorem dX12_isRiding_13 : decode cX12_isRiding 13 = .ok (.bipush 55, 2) := by decide +kernel
theorem dX12_isRiding_15 : decode cX12_isRiding 15 = .ok (.iload_n 1, 1) := by decide +kernel
theorem dX12_isRiding_16 : decode cX12_isRiding 16 = .ok (.iadd, 1) := by decide +kernel
theorem dX12_isRiding_17 : decode cX12_isRiding 17 = .ok (.iaload, 1) := by decide +kernel
theorem dX12_isRiding_18 : decode cX12_isRiding 18 = .ok (.if_icmp .eq 7, 3) := by decide +kernel
theorem dX12_isRiding_21 : decode cX12_isRiding 21 = .ok (.iconst 1, 1) := by decide +kernel
theorem dX12_isRiding_22 : decode cX12_isRiding 22 = .ok (.goto 4, 3) := by decide +kernel
theorem dX12_isRiding_25 : decode cX12_isRiding 25 = .ok (.iconst 0, 1) := by decide +kernel
theorem dX12_isRiding_26 : decode cX12_isRiding 26 = .ok (.ireturn, 1) := by decide +kernel
theorem dX12_given_0 : decode cX12_given 0 = .ok (.aload_n 0, 1) := by decide +kernel
theorem dX12_given_1 : decode cX12_given 1 = .ok (.iload_n 1, 1) := by decide +kernel
theorem dX12_given_2 : decode cX12_given 2 = .ok (.invokevirtual 172, 3) := by decide +kernel
theorem dX12_given_5 : decode cX12_given 5 = .ok (.ifCond .ne 6, 3) := by decide +kernel
theorem dX12_given_8 : decode cX12_given 8 = .ok (.bipush (-2), 2) := by decide +kernel
theorem dX12_given_10 : decode cX12_given 10 = .ok (.ireturn, 1) := by decide +kernel
theorem dX12_given_11 : decode cX12_given 11 = .ok (.aload_n 0, 1) := by decide +kernel
theorem dX12_given_12 : decode cX12_given 12 = .ok (.iconst 0, 1) := by decide +kernel
theorem dX12_given_13 : decode cX12_given 13 = .ok (.putfield 185, 3) := by decide +kernel
theorem dX12_given_16 : decode cX12_given 16 = .ok (.aload_n 0, 1) := by decide +kernel
theorem dX12_given_17 : decode cX12_given 17 = .ok (.iload_n 1, 1) := by decide +kernel
theorem dX12_given_18 : decode cX12_given 18 = .ok (.invokevirtual 237, 3) := by decide +kernel
theorem dX12_given_21 : decode cX12_given 21 = .ok (.ifCond .eq 12, 3) := by decide +kernel
theorem dX12_given_24 : decode cX12_given 24 = .ok (.aload_n 0, 1) := by decide +kernel
theorem dX12_given_25 : decode cX12_given 25 = .ok (.iconst 0, 1) := by decide +kernel
theorem dX12_given_26 : decode cX12_given 26 = .ok (.iload_n 1, 1) := by decide +kernel
theorem dX12_given_27 : decode cX12_given 27 = .ok (.invokevirtual 192, 3) := by decide +kernel
theorem dX12_given_30 : decode cX12_given 30 = .ok (.goto 4, 3) := by decide +kernel
theorem dX12_given_33 : decode cX12_given 33 = .ok (.iconst (-1), 1) := by decide +kernel
theorem dX12_given_34 : decode cX12_given 34 = .ok (.ireturn, 1) := by decide +kernel
theorem dX12_layTried_0 : decode cX12_layTried 0 = .ok (.aload_n 0, 1) := by decide +kernel
theorem dX12_layTried_1 : decode cX12_layTried 1 = .ok (.iconst 0, 1) := by decide +kernel
theorem dX12_layTried_2 : decode cX12_layTried 2 = .ok (.sipush 840, 3) := by decide +kernel
theorem dX12_layTried_5 : decode cX12_layTried 5 = .ok (.invokevirtual 159, 3) := by decide +kernel
theorem dX12_layTried_8 : decode cX12_layTried 8 = .ok (.return_, 1) := by decide +kernel
theorem dX12_ahead_0 : decode cX12_ahead 0 = .ok (.aload_n 0, 1) := by decide +kernel
theorem dX12_ahead_1 : decode cX12_ahead 1 = .ok (.iload_n 1, 1) := by decide +kernel
theorem dX12_ahead_2 : decode cX12_ahead 2 = .ok (.invokevirtual 169, 3) := by decide +kernel
theorem dX12_ahead_5 : decode cX12_ahead 5 = .ok (.ifCond .ne 6, 3) := by decide +kernel
theorem dX12_ahead_8 : decode cX12_ahead 8 = .ok (.bipush (-2), 2) := by decide +kernel
theorem dX12_ahead_10 : decode cX12_ahead 10 = .ok (.ireturn, 1) := by decide +kernel
theorem dX12_ahead_11 : decode cX12_ahead 11 = .ok (.iload_n 2, 1) := by decide +kernel
theorem dX12_ahead_12 : decode cX12_ahead 12 = .ok (.i2l, 1) := by decide +kernel
theorem dX12_ahead_13 : decode cX12_ahead 13 = .ok (.lconst 0, 1) := by decide +kernel
theorem dX12_ahead_14 : decode cX12_ahead 14 = .ok (.ldc2_w 240, 3) := by decide +kernel
theorem dX12_ahead_17 : decode cX12_ahead 17 = .ok (.invokestatic 79, 3) := by decide +kernel
theorem dX12_ahead_20 : decode cX12_ahead 20 = .ok (.ifCond .eq 15, 3) := by decide +kernel
theorem dX12_ahead_23 : decode cX12_ahead 23 = .ok (.iload_n 3, 1) := by decide +kernel
theorem dX12_ahead_24 : decode cX12_ahead 24 = .ok (.i2l, 1) := by decide +kernel
theorem dX12_ahead_25 : decode cX12_ahead 25 = .ok (.lconst 0, 1) := by decide +kernel
theorem dX12_ahead_26 : decode cX12_ahead 26 = .ok (.ldc2_w 242, 3) := by decide +kernel
theorem dX12_ahead_29 : decode cX12_ahead 29 = .ok (.invokestatic 79, 3) := by decide +kernel
theorem dX12_ahead_32 : decode cX12_ahead 32 = .ok (.ifCond .ne 6, 3) := by decide +kernel
theorem dX12_ahead_35 : decode cX12_ahead 35 = .ok (.bipush (-3), 2) := by decide +kernel
theorem dX12_ahead_37 : decode cX12_ahead 37 = .ok (.ireturn, 1) := by decide +kernel
theorem dX12_ahead_38 : decode cX12_ahead 38 = .ok (.aload_n 0, 1) := by decide +kernel
theorem dX12_ahead_39 : decode cX12_ahead 39 = .ok (.invokevirtual 244, 3) := by decide +kernel
theorem dX12_ahead_42 : decode cX12_ahead 42 = .ok (.iconst 0, 1) := by decide +kernel
theorem dX12_ahead_43 : decode cX12_ahead 43 = .ok (.istore 4, 2) := by decide +kernel
theorem dX12_ahead_45 : decode cX12_ahead 45 = .ok (.iload 4, 2) := by decide +kernel
theorem dX12_ahead_47 : decode cX12_ahead 47 = .ok (.iload_n 2, 1) := by decide +kernel
theorem dX12_ahead_48 : decode cX12_ahead 48 = .ok (.if_icmp .ge 16, 3) := by decide +kernel
theorem dX12_ahead_51 : decode cX12_ahead 51 = .ok (.aload_n 0, 1) := by decide +kernel
theorem dX12_ahead_52 : decode cX12_ahead 52 = .ok (.sipush 840, 3) := by decide +kernel
theorem dX12_ahead_55 : decode cX12_ahead 55 = .ok (.invokevirtual 231, 3) := by decide +kernel
theorem dX12_ahead_58 : decode cX12_ahead 58 = .ok (.iinc 4 1, 3) := by decide +kernel
theorem dX12_ahead_61 : decode cX12_ahead 61 = .ok (.goto (-16), 3) := by decide +kernel
theorem dX12_ahead_64 : decode cX12_ahead 64 = .ok (.aload_n 0, 1) := by decide +kernel
theorem dX12_ahead_65 : decode cX12_ahead 65 = .ok (.getfield 7, 3) := by decide +kernel
theorem dX12_ahead_68 : decode cX12_ahead 68 = .ok (.sipush 840, 3) := by decide +kernel
theorem dX12_ahead_71 : decode cX12_ahead 71 = .ok (.iload_n 3, 1) := by decide +kernel
theorem dX12_ahead_72 : decode cX12_ahead 72 = .ok (.ifCond .ne 8, 3) := by decide +kernel
theorem dX12_ahead_75 : decode cX12_ahead 75 = .ok (.bipush 19, 2) := by decide +kernel
theorem dX12_ahead_77 : decode cX12_ahead 77 = .ok (.goto 15, 3) := by decide +kernel
theorem dX12_ahead_80 : decode cX12_ahead 80 = .ok (.iload_n 3, 1) := by decide +kernel
theorem dX12_ahead_81 : decode cX12_ahead 81 = .ok (.iconst 1, 1) := by decide +kernel
theorem dX12_ahead_82 : decode cX12_ahead 82 = .ok (.if_icmp .ne 8, 3) := by decide +kernel
theorem dX12_ahead_85 : decode cX12_ahead 85 = .ok (.bipush 27, 2) := by decide +kernel
theorem dX12_ahead_87 : decode cX12_ahead 87 = .ok (.goto 5, 3) := by decide +kernel
theorem dX12_ahead_90 : decode cX12_ahead 90 = .ok (.bipush 35, 2) := by decide +kernel
theorem dX12_ahead_92 : decode cX12_ahead 92 = .ok (.iadd, 1) := by decide +kernel
theorem dX12_ahead_93 : decode cX12_ahead 93 = .ok (.iload_n 1, 1) := by decide +kernel
theorem dX12_ahead_94 : decode cX12_ahead 94 = .ok (.iadd, 1) := by decide +kernel
theorem dX12_ahead_95 : decode cX12_ahead 95 = .ok (.iaload, 1) := by decide +kernel
theorem dX12_ahead_96 : decode cX12_ahead 96 = .ok (.ireturn, 1) := by decide +kernel
theorem dX12_comesBy_0 : decode cX12_comesBy 0 = .ok (.iconst 0, 1) := by decide +kernel
theorem dX12_comesBy_1 : decode cX12_comesBy 1 = .ok (.istore_n 3, 1) := by decide +kernel
theorem dX12_comesBy_2 : decode cX12_comesBy 2 = .ok (.iload_n 3, 1) := by decide +kernel
theorem dX12_comesBy_3 : decode cX12_comesBy 3 = .ok (.iload_n 2, 1) := by decide +kernel
theorem dX12_comesBy_4 : decode cX12_comesBy 4 = .ok (.if_icmp .gt 41, 3) := by decide +kernel
theorem dX12_comesBy_7 : decode cX12_comesBy 7 = .ok (.aload_n 0, 1) := by decide +kernel
theorem dX12_comesBy_8 : decode cX12_comesBy 8 = .ok (.getfield 7, 3) := by decide +kernel
theorem dX12_comesBy_11 : decode cX12_comesBy 11 = .ok (.sipush 891, 3) := by decide +kernel
theorem dX12_comesBy_14 : decode cX12_comesBy 14 = .ok (.iload_n 1, 1) := by decide +kernel
theorem dX12_comesBy_15 : decode cX12_comesBy 15 = .ok (.iadd, 1) := by decide +kernel
theorem dX12_comesBy_16 : decode cX12_comesBy 16 = .ok (.iaload, 1) := by decide +kernel
theorem dX12_comesBy_17 : decode cX12_comesBy 17 = .ok (.aload_n 0, 1) := by decide +kernel
theorem dX12_comesBy_18 : decode cX12_comesBy 18 = .ok (.getfield 7, 3) := by decide +kernel
theorem dX12_comesBy_21 : decode cX12_comesBy 21 = .ok (.sipush 895, 3) := by decide +kernel
theorem dX12_comesBy_24 : decode cX12_comesBy 24 = .ok (.iload_n 1, 1) := by decide +kernel
theorem dX12_comesBy_25 : decode cX12_comesBy 25 = .ok (.iadd, 1) := by decide +kernel
theorem dX12_comesBy_26 : decode cX12_comesBy 26 = .ok (.iaload, 1) := by decide +kernel
theorem dX12_comesBy_27 : decode cX12_comesBy 27 = .ok (.if_icmp .ne 5, 3) := by decide +kernel
theorem dX12_comesBy_30 : decode cX12_comesBy 30 = .ok (.iload_n 3, 1) := by decide +kernel
theorem dX12_comesBy_31 : decode cX12_comesBy 31 = .ok (.ireturn, 1) := by decide +kernel
theorem dX12_comesBy_32 : decode cX12_comesBy 32 = .ok (.aload_n 0, 1) := by decide +kernel
theorem dX12_comesBy_33 : decode cX12_comesBy 33 = .ok (.sipush 840, 3) := by decide +kernel
theorem dX12_comesBy_36 : decode cX12_comesBy 36 = .ok (.invokevirtual 231, 3) := by decide +kernel
theorem dX12_comesBy_39 : decode cX12_comesBy 39 = .ok (.iinc 3 1, 3) := by decide +kernel
theorem dX12_comesBy_42 : decode cX12_comesBy 42 = .ok (.goto (-40), 3) := by decide +kernel
theorem dX12_comesBy_45 : decode cX12_comesBy 45 = .ok (.iconst (-1), 1) := by decide +kernel
theorem dX12_comesBy_46 : decode cX12_comesBy 46 = .ok (.ireturn, 1) := by decide +kernel
theorem dX12_comes_0 : decode cX12_comes 0 = .ok (.aload_n 0, 1) := by decide +kernel
theorem dX12_comes_1 : decode cX12_comes 1 = .ok (.iload_n 1, 1) := by decide +kernel
theorem dX12_comes_2 : decode cX12_comes 2 = .ok (.invokevirtual 172, 3) := by decide +kernel
theorem dX12_comes_5 : decode cX12_comes 5 = .ok (.ifCond .ne 6, 3) := by decide +kernel
theorem dX12_comes_8 : decode cX12_comes 8 = .ok (.bipush (-2), 2) := by decide +kernel
theorem dX12_comes_10 : decode cX12_comes 10 = .ok (.ireturn, 1) := by decide +kernel
theorem dX12_comes_11 : decode cX12_comes 11 = .ok (.iload_n 2, 1) := by decide +kernel
theorem dX12_comes_12 : decode cX12_comes 12 = .ok (.i2l, 1) := by decide +kernel
theorem dX12_comes_13 : decode cX12_comes 13 = .ok (.lconst 0, 1) := by decide +kernel
theorem dX12_comes_14 : decode cX12_comes 14 = .ok (.lconst 1, 1) := by decide +kernel
theorem dX12_comes_15 : decode cX12_comes 15 = .ok (.invokestatic 79, 3) := by decide +kernel
theorem dX12_comes_18 : decode cX12_comes 18 = .ok (.ifCond .ne 6, 3) := by decide +kernel
theorem dX12_comes_21 : decode cX12_comes 21 = .ok (.bipush (-3), 2) := by decide +kernel
theorem dX12_comes_23 : decode cX12_comes 23 = .ok (.ireturn, 1) := by decide +kernel
theorem dX12_comes_24 : decode cX12_comes 24 = .ok (.aload_n 0, 1) := by decide +kernel
theorem dX12_comes_25 : decode cX12_comes 25 = .ok (.invokevirtual 244, 3) := by decide +kernel
theorem dX12_comes_28 : decode cX12_comes 28 = .ok (.aload_n 0, 1) := by decide +kernel
theorem dX12_comes_29 : decode cX12_comes 29 = .ok (.iload_n 1, 1) := by decide +kernel
theorem dX12_comes_30 : decode cX12_comes 30 = .ok (.bipush 60, 2) := by decide +kernel
theorem dX12_comes_32 : decode cX12_comes 32 = .ok (.invokevirtual 247, 3) := by decide +kernel
theorem dX12_comes_35 : decode cX12_comes 35 = .ok (.istore_n 3, 1) := by decide +kernel
theorem dX12_comes_36 : decode cX12_comes 36 = .ok (.iload_n 2, 1) := by decide +kernel
theorem dX12_comes_37 : decode cX12_comes 37 = .ok (.ifCond .eq 8, 3) := by decide +kernel
theorem dX12_comes_40 : decode cX12_comes 40 = .ok (.iload_n 3, 1) := by decide +kernel
theorem dX12_comes_41 : decode cX12_comes 41 = .ok (.iconst (-1), 1) := by decide +kernel
theorem dX12_comes_42 : decode cX12_comes 42 = .ok (.if_icmp .ne 7, 3) := by decide +kernel
theorem dX12_comes_45 : decode cX12_comes 45 = .ok (.iload_n 3, 1) := by decide +kernel
theorem dX12_comes_46 : decode cX12_comes 46 = .ok (.goto 13, 3) := by decide +kernel
theorem dX12_comes_49 : decode cX12_comes 49 = .ok (.aload_n 0, 1) := by decide +kernel
theorem dX12_comes_50 : decode cX12_comes 50 = .ok (.getfield 7, 3) := by decide +kernel
theorem dX12_comes_53 : decode cX12_comes 53 = .ok (.sipush 899, 3) := by decide +kernel
theorem dX12_comes_56 : decode cX12_comes 56 = .ok (.iload_n 1, 1) := by decide +kernel
theorem dX12_comes_57 : decode cX12_comes 57 = .ok (.iadd, 1) := by decide +kernel
theorem dX12_comes_58 : decode cX12_comes 58 = .ok (.iaload, 1) := by decide +kernel
theorem dX12_comes_59 : decode cX12_comes 59 = .ok (.ireturn, 1) := by decide +kernel
theorem dX12_takenByLine_0 : decode cX12_takenByLine 0 = .ok (.iconst 0, 1) := by decide +kernel
theorem dX12_takenByLine_1 : decode cX12_takenByLine 1 = .ok (.istore_n 1, 1) := by decide +kernel
theorem dX12_takenByLine_2 : decode cX12_takenByLine 2 = .ok (.iconst 0, 1) := by decide +kernel
theorem dX12_takenByLine_3 : decode cX12_takenByLine 3 = .ok (.istore_n 2, 1) := by decide +kernel
theorem dX12_takenByLine_4 : decode cX12_takenByLine 4 = .ok (.iconst 1, 1) := by decide +kernel
theorem dX12_takenByLine_5 : decode cX12_takenByLine 5 = .ok (.istore_n 3, 1) := by decide +kernel
theorem dX12_takenByLine_6 : decode cX12_takenByLine 6 = .ok (.iconst 0, 1) := by decide +kernel
theorem dX12_takenByLine_7 : decode cX12_takenByLine 7 = .ok (.istore 4, 2) := by decide +kernel
theorem dX12_takenByLine_9 : decode cX12_takenByLine 9 = .ok (.iload 4, 2) := by decide +kernel
theorem dX12_takenByLine_11 : decode cX12_takenByLine 11 = .ok (.aload_n 0, 1) := by decide +kernel
theorem dX12_takenByLine_12 : decode cX12_takenByLine 12 = .ok (.getfield 7, 3) := by decide +kernel
theorem dX12_takenByLine_15 : decode cX12_takenByLine 15 = .ok (.iconst 1, 1) := by decide +kernel
theorem dX12_takenByLine_16 : decode cX12_takenByLine 16 = .ok (.iaload, 1) := by decide +kernel
theorem dX12_takenByLine_17 : decode cX12_takenByLine 17 = .ok (.if_icmp .ge 173, 3) := by decide +kernel
theorem dX12_takenByLine_20 : decode cX12_takenByLine 20 = .ok (.aload_n 0, 1) := by decide +kernel
theorem dX12_takenByLine_21 : decode cX12_takenByLine 21 = .ok (.getfield 65, 3) := by decide +kernel
theorem dX12_takenByLine_24 : decode cX12_takenByLine 24 = .ok (.iload 4, 2) := by decide +kernel
theorem dX12_takenByLine_26 : decode cX12_takenByLine 26 = .ok (.iaload, 1) := by decide +kernel
theorem dX12_takenByLine_27 : decode cX12_takenByLine 27 = .ok (.istore 5, 2) := by decide +kernel
theorem dX12_takenByLine_29 : decode cX12_takenByLine 29 = .ok (.iload 5, 2) := by decide +kernel
theorem dX12_takenByLine_31 : decode cX12_takenByLine 31 = .ok (.aload_n 0, 1) := by decide +kernel
theorem dX12_takenByLine_32 : decode cX12_takenByLine 32 = .ok (.getfield 7, 3) := by decide +kernel
theorem dX12_takenByLine_35 : decode cX12_takenByLine 35 = .ok (.iconst 0, 1) := by decide +kernel
theorem dX12_takenByLine_36 : decode cX12_takenByLine 36 = .ok (.iaload, 1) := by decide +kernel
theorem dX12_takenByLine_37 : decode cX12_takenByLine 37 = .ok (.if_icmp .ge 7, 3) := by decide +kernel
theorem dX12_takenByLine_40 : decode cX12_takenByLine 40 = .ok (.iconst 1, 1) := by decide +kernel
theorem dX12_takenByLine_41 : decode cX12_takenByLine 41 = .ok (.goto 4, 3) := by decide +kernel
theorem dX12_takenByLine_44 : decode cX12_takenByLine 44 = .ok (.iconst 0, 1) := by decide +kernel
theorem dX12_takenByLine_45 : decode cX12_takenByLine 45 = .ok (.istore 6, 2) := by decide +kernel
theorem dX12_takenByLine_47 : decode cX12_takenByLine 47 = .ok (.iload_n 3, 1) := by decide +kernel
theorem dX12_takenByLine_48 : decode cX12_takenByLine 48 = .ok (.ifCond .eq 69, 3) := by decide +kernel
theorem dX12_takenByLine_51 : decode cX12_takenByLine 51 = .ok (.iload 6, 2) := by decide +kernel
theorem dX12_takenByLine_53 : decode cX12_takenByLine 53 = .ok (.aload_n 0, 1) := by decide +kernel
theorem dX12_takenByLine_54 : decode cX12_takenByLine 54 = .ok (.iload 4, 2) := by decide +kernel
theorem dX12_takenByLine_56 : decode cX12_takenByLine 56 = .ok (.invokevirtual 237, 3) := by decide +kernel
theorem dX12_takenByLine_59 : decode cX12_takenByLine 59 = .ok (.if_icmp .ne 58, 3) := by decide +kernel
theorem dX12_takenByLine_62 : decode cX12_takenByLine 62 = .ok (.iload 6, 2) := by decide +kernel
theorem dX12_takenByLine_64 : decode cX12_takenByLine 64 = .ok (.ifCond .eq 49, 3) := by decide +kernel
theorem dX12_takenByLine_67 : decode cX12_takenByLine 67 = .ok (.iload_n 2, 1) := by decide +kernel
theorem dX12_takenByLine_68 : decode cX12_takenByLine 68 = .ok (.iload 5, 2) := by decide +kernel
theorem dX12_takenByLine_70 : decode cX12_takenByLine 70 = .ok (.invokestatic 188, 3) := by decide +kernel
theorem dX12_takenByLine_73 : decode cX12_takenByLine 73 = .ok (.ifCond .ne 44, 3) := by decide +kernel
theorem dX12_takenByLine_76 : decode cX12_takenByLine 76 = .ok (.aload_n 0, 1) := by decide +kernel
theorem dX12_takenByLine_77 : decode cX12_takenByLine 77 = .ok (.getfield 7, 3) := by decide +kernel
theorem dX12_takenByLine_80 : decode cX12_takenByLine 80 = .ok (.bipush 19, 2) := by decide +kernel
theorem dX12_takenByLine_82 : decode cX12_takenByLine 82 = .ok (.iload 5, 2) := by decide +kernel
theorem dX12_takenByLine_84 : decode cX12_takenByLine 84 = .ok (.iadd, 1) := by decide +kernel
theorem dX12_takenByLine_85 : decode cX12_takenByLine 85 = .ok (.iaload, 1) := by decide +kernel
theorem dX12_takenByLine_86 : decode cX12_takenByLine 86 = .ok (.aload_n 0, 1) := by decide +kernel
theorem dX12_takenByLine_87 : decode cX12_takenByLine 87 = .ok (.getfield 7, 3) := by decide +kernel
theorem dX12_takenByLine_90 : decode cX12_takenByLine 90 = .ok (.bipush 51, 2) := by decide +kernel
theorem dX12_takenByLine_92 : decode cX12_takenByLine 92 = .ok (.iload 4, 2) := by decide +kernel
theorem dX12_takenByLine_94 : decode cX12_takenByLine 94 = .ok (.iadd, 1) := by decide +kernel
theorem dX12_takenByLine_95 : decode cX12_takenByLine 95 = .ok (.iaload, 1) := by decide +kernel
theorem dX12_takenByLine_96 : decode cX12_takenByLine 96 = .ok (.if_icmp .ne 21, 3) := by decide +kernel
theorem dX12_takenByLine_99 : decode cX12_takenByLine 99 = .ok (.aload_n 0, 1) := by decide +kernel
theorem dX12_takenByLine_100 : decode cX12_takenByLine 100 = .ok (.getfield 7, 3) := by decide +kernel
theorem dX12_takenByLine_103 : decode cX12_takenByLine 103 = .ok (.bipush 35, 2) := by decide +kernel
theorem dX12_takenByLine_105 : decode cX12_takenByLine 105 = .ok (.iload 5, 2) := by decide +kernel
theorem dX12_takenByLine_107 : decode cX12_takenByLine 107 = .ok (.iadd, 1) := by decide +kernel
theorem dX12_takenByLine_108 : decode cX12_takenByLine 108 = .ok (.iaload, 1) := by decide +kernel
theorem dX12_takenByLine_109 : decode cX12_takenByLine 109 = .ok (.iconst 1, 1) := by decide +kernel
theorem dX12_takenByLine_110 : decode cX12_takenByLine 110 = .ok (.if_icmp .eq 7, 3) := by decide +kernel
theorem dX12_takenByLine_113 : decode cX12_takenByLine 113 = .ok (.iconst 1, 1) := by decide +kernel
theorem dX12_takenByLine_114 : decode cX12_takenByLine 114 = .ok (.goto 4, 3) := by decide +kernel
theorem dX12_takenByLine_117 : decode cX12_takenByLine 117 = .ok (.iconst 0, 1) := by decide +kernel
theorem dX12_takenByLine_118 : decode cX12_takenByLine 118 = .ok (.istore_n 3, 1) := by decide +kernel
theorem dX12_takenByLine_119 : decode cX12_takenByLine 119 = .ok (.iload_n 2, 1) := by decide +kernel
theorem dX12_takenByLine_120 : decode cX12_takenByLine 120 = .ok (.iload 6, 2) := by decide +kernel
theorem dX12_takenByLine_122 : decode cX12_takenByLine 122 = .ok (.ifCond .eq 10, 3) := by decide +kernel
theorem dX12_takenByLine_125 : decode cX12_takenByLine 125 = .ok (.iconst 1, 1) := by decide +kernel
theorem dX12_takenByLine_126 : decode cX12_takenByLine 126 = .ok (.iload 5, 2) := by decide +kernel
theorem dX12_takenByLine_128 : decode cX12_takenByLine 128 = .ok (.ishl, 1) := by decide +kernel
theorem dX12_takenByLine_129 : decode cX12_takenByLine 129 = .ok (.goto 4, 3) := by decide +kernel
theorem dX12_takenByLine_132 : decode cX12_takenByLine 132 = .ok (.iconst 0, 1) := by decide +kernel
theorem dX12_takenByLine_133 : decode cX12_takenByLine 133 = .ok (.ior, 1) := by decide +kernel
theorem dX12_takenByLine_134 : decode cX12_takenByLine 134 = .ok (.istore_n 2, 1) := by decide +kernel
theorem dX12_takenByLine_135 : decode cX12_takenByLine 135 = .ok (.iload_n 1, 1) := by decide +kernel
theorem dX12_takenByLine_136 : decode cX12_takenByLine 136 = .ok (.iload 6, 2) := by decide +kernel
theorem dX12_takenByLine_138 : decode cX12_takenByLine 138 = .ok (.ifCond .eq 43, 3) := by decide +kernel
theorem dX12_takenByLine_141 : decode cX12_takenByLine 141 = .ok (.aload_n 0, 1) := by decide +kernel
theorem dX12_takenByLine_142 : decode cX12_takenByLine 142 = .ok (.getfield 7, 3) := by decide +kernel
theorem dX12_takenByLine_145 : decode cX12_takenByLine 145 = .ok (.iconst 3, 1) := by decide +kernel
theorem dX12_takenByLine_146 : decode cX12_takenByLine 146 = .ok (.iload 5, 2) := by decide +kernel
theorem dX12_takenByLine_148 : decode cX12_takenByLine 148 = .ok (.iadd, 1) := by decide +kernel
theorem dX12_takenByLine_149 : decode cX12_takenByLine 149 = .ok (.iaload, 1) := by decide +kernel
theorem dX12_takenByLine_150 : decode cX12_takenByLine 150 = .ok (.aload_n 0, 1) := by decide +kernel
theorem dX12_takenByLine_151 : decode cX12_takenByLine 151 = .ok (.iconst 0, 1) := by decide +kernel
theorem dX12_takenByLine_152 : decode cX12_takenByLine 152 = .ok (.aload_n 0, 1) := by decide +kernel
theorem dX12_takenByLine_153 : decode cX12_takenByLine 153 = .ok (.getfield 7, 3) := by decide +kernel
theorem dX12_takenByLine_156 : decode cX12_takenByLine 156 = .ok (.bipush 51, 2) := by decide +kernel
theorem dX12_takenByLine_158 : decode cX12_takenByLine 158 = .ok (.iload 4, 2) := by decide +kernel
theorem dX12_takenByLine_160 : decode cX12_takenByLine 160 = .ok (.iadd, 1) := by decide +kernel
theorem dX12_takenByLine_161 : decode cX12_takenByLine 161 = .ok (.iaload, 1) := by decide +kernel
theorem dX12_takenByLine_162 : decode cX12_takenByLine 162 = .ok (.aload_n 0, 1) := by decide +kernel
theorem dX12_takenByLine_163 : decode cX12_takenByLine 163 = .ok (.getfield 7, 3) := by decide +kernel
theorem dX12_takenByLine_166 : decode cX12_takenByLine 166 = .ok (.bipush 55, 2) := by decide +kernel
theorem dX12_takenByLine_168 : decode cX12_takenByLine 168 = .ok (.iload 4, 2) := by decide +kernel
theorem dX12_takenByLine_170 : decode cX12_takenByLine 170 = .ok (.iadd, 1) := by decide +kernel
theorem dX12_takenByLine_171 : decode cX12_takenByLine 171 = .ok (.iaload, 1) := by decide +kernel
theorem dX12_takenByLine_172 : decode cX12_takenByLine 172 = .ok (.invokevirtual 199, 3) := by decide +kernel
theorem dX12_takenByLine_175 : decode cX12_takenByLine 175 = .ok (.invokestatic 180, 3) := by decide +kernel
theorem dX12_takenByLine_178 : decode cX12_takenByLine 178 = .ok (.goto 4, 3) := by decide +kernel
theorem dX12_takenByLine_181 : decode cX12_takenByLine 181 = .ok (.iconst 0, 1) := by decide +kernel
theorem dX12_takenByLine_182 : decode cX12_takenByLine 182 = .ok (.iadd, 1) := by decide +kernel
theorem dX12_takenByLine_183 : decode cX12_takenByLine 183 = .ok (.istore_n 1, 1) := by decide +kernel
theorem dX12_takenByLine_184 : decode cX12_takenByLine 184 = .ok (.iinc 4 1, 3) := by decide +kernel
theorem dX12_takenByLine_187 : decode cX12_takenByLine 187 = .ok (.goto (-178), 3) := by decide +kernel
theorem dX12_takenByLine_190 : decode cX12_takenByLine 190 = .ok (.iload_n 3, 1) := by decide +kernel
theorem dX12_takenByLine_191 : decode cX12_takenByLine 191 = .ok (.ifCond .eq 7, 3) := by decide +kernel
theorem dX12_takenByLine_194 : decode cX12_takenByLine 194 = .ok (.iload_n 1, 1) := by decide +kernel
theorem dX12_takenByLine_195 : decode cX12_takenByLine 195 = .ok (.goto 5, 3) := by decide +kernel
theorem dX12_takenByLine_198 : decode cX12_takenByLine 198 = .ok (.ldc 184, 2) := by decide +kernel
theorem dX12_takenByLine_200 : decode cX12_takenByLine 200 = .ok (.ireturn, 1) := by decide +kernel
theorem dX12_nextLine_0 : decode cX12_nextLine 0 = .ok (.aload_n 0, 1) := by decide +kernel
theorem dX12_nextLine_1 : decode cX12_nextLine 1 = .ok (.getfield 7, 3) := by decide +kernel
theorem dX12_nextLine_4 : decode cX12_nextLine 4 = .ok (.iconst 1, 1) := by decide +kernel
theorem dX12_nextLine_5 : decode cX12_nextLine 5 = .ok (.iaload, 1) := by decide +kernel
theorem dX12_nextLine_6 : decode cX12_nextLine 6 = .ok (.iconst 1, 1) := by decide +kernel
theorem dX12_nextLine_7 : decode cX12_nextLine 7 = .ok (.isub, 1) := by decide +kernel
theorem dX12_nextLine_8 : decode cX12_nextLine 8 = .ok (.istore_n 1, 1) := by decide +kernel
theorem dX12_nextLine_9 : decode cX12_nextLine 9 = .ok (.iload_n 1, 1) := by decide +kernel
theorem dX12_nextLine_10 : decode cX12_nextLine 10 = .ok (.ifCond .lt 31, 3) := by decide +kernel
theorem dX12_nextLine_13 : decode cX12_nextLine 13 = .ok (.aload_n 0, 1) := by decide +kernel
theorem dX12_nextLine_14 : decode cX12_nextLine 14 = .ok (.getfield 65, 3) := by decide +kernel
theorem dX12_nextLine_17 : decode cX12_nextLine 17 = .ok (.iload_n 1, 1) := by decide +kernel
theorem dX12_nextLine_18 : decode cX12_nextLine 18 = .ok (.iaload, 1) := by decide +kernel
theorem dX12_nextLine_19 : decode cX12_nextLine 19 = .ok (.aload_n 0, 1) := by decide +kernel
theorem dX12_nextLine_20 : decode cX12_nextLine 20 = .ok (.getfield 7, 3) := by decide +kernel
theorem dX12_nextLine_23 : decode cX12_nextLine 23 = .ok (.iconst 0, 1) := by decide +kernel
theorem dX12_nextLine_24 : decode cX12_nextLine 24 = .ok (.iaload, 1) := by decide +kernel
theorem dX12_nextLine_25 : decode cX12_nextLine 25 = .ok (.if_icmp .ne 16, 3) := by decide +kernel
theorem dX12_nextLine_28 : decode cX12_nextLine 28 = .ok (.aload_n 0, 1) := by decide +kernel
theorem dX12_nextLine_29 : decode cX12_nextLine 29 = .ok (.getfield 65, 3) := by decide +kernel
theorem dX12_nextLine_32 : decode cX12_nextLine 32 = .ok (.iload_n 1, 1) := by decide +kernel
theorem dX12_nextLine_33 : decode cX12_nextLine 33 = .ok (.iconst 0, 1) := by decide +kernel
theorem dX12_nextLine_34 : decode cX12_nextLine 34 = .ok (.iastore, 1) := by decide +kernel
theorem dX12_nextLine_35 : decode cX12_nextLine 35 = .ok (.iinc 1 (-1), 3) := by decide +kernel
theorem dX12_nextLine_38 : decode cX12_nextLine 38 = .ok (.goto (-29), 3) := by decide +kernel
theorem dX12_nextLine_41 : decode cX12_nextLine 41 = .ok (.iload_n 1, 1) := by decide +kernel
theorem dX12_nextLine_42 : decode cX12_nextLine 42 = .ok (.ifCond .lt 13, 3) := by decide +kernel
theorem dX12_nextLine_45 : decode cX12_nextLine 45 = .ok (.aload_n 0, 1) := by decide +kernel
theorem dX12_nextLine_46 : decode cX12_nextLine 46 = .ok (.getfield 65, 3) := by decide +kernel
theorem dX12_nextLine_49 : decode cX12_nextLine 49 = .ok (.iload_n 1, 1) := by decide +kernel
theorem dX12_nextLine_50 : decode cX12_nextLine 50 = .ok (.dup2, 1) := by decide +kernel
theorem dX12_nextLine_51 : decode cX12_nextLine 51 = .ok (.iaload, 1) := by decide +kernel
theorem dX12_nextLine_52 : decode cX12_nextLine 52 = .ok (.iconst 1, 1) := by decide +kernel
theorem dX12_nextLine_53 : decode cX12_nextLine 53 = .ok (.iadd, 1) := by decide +kernel
theorem dX12_nextLine_54 : decode cX12_nextLine 54 = .ok (.iastore, 1) := by decide +kernel
theorem dX12_nextLine_55 : decode cX12_nextLine 55 = .ok (.iload_n 1, 1) := by decide +kernel
theorem dX12_nextLine_56 : decode cX12_nextLine 56 = .ok (.ifCond .lt 7, 3) := by decide +kernel
theorem dX12_nextLine_59 : decode cX12_nextLine 59 = .ok (.iconst 1, 1) := by decide +kernel
theorem dX12_nextLine_60 : decode cX12_nextLine 60 = .ok (.goto 4, 3) := by decide +kernel
theorem dX12_nextLine_63 : decode cX12_nextLine 63 = .ok (.iconst 0, 1) := by decide +kernel
theorem dX12_nextLine_64 : decode cX12_nextLine 64 = .ok (.ireturn, 1) := by decide +kernel
theorem dX12_match_0 : decode cX12_match 0 = .ok (.iload_n 1, 1) := by decide +kernel
theorem dX12_match_1 : decode cX12_match 1 = .ok (.iconst (-1), 1) := by decide +kernel
theorem dX12_match_2 : decode cX12_match 2 = .ok (.if_icmp .eq 14, 3) := by decide +kernel
theorem dX12_match_5 : decode cX12_match 5 = .ok (.aload_n 0, 1) := by decide +kernel
theorem dX12_match_6 : decode cX12_match 6 = .ok (.iload_n 1, 1) := by decide +kernel
theorem dX12_match_7 : decode cX12_match 7 = .ok (.invokevirtual 172, 3) := by decide +kernel
theorem dX12_match_10 : decode cX12_match 10 = .ok (.ifCond .ne 6, 3) := by decide +kernel
theorem dX12_match_13 : decode cX12_match 13 = .ok (.bipush (-2), 2) := by decide +kernel
theorem dX12_match_15 : decode cX12_match 15 = .ok (.ireturn, 1) := by decide +kernel
theorem dX12_match_16 : decode cX12_match 16 = .ok (.iconst 0, 1) := by decide +kernel
theorem dX12_match_17 : decode cX12_match 17 = .ok (.istore_n 2, 1) := by decide +kernel
theorem dX12_match_18 : decode cX12_match 18 = .ok (.iload_n 2, 1) := by decide +kernel
theorem dX12_match_19 : decode cX12_match 19 = .ok (.iconst 4, 1) := by decide +kernel
theorem dX12_match_20 : decode cX12_match 20 = .ok (.if_icmp .ge 16, 3) := by decide +kernel
theorem dX12_match_23 : decode cX12_match 23 = .ok (.aload_n 0, 1) := by decide +kernel
theorem dX12_match_24 : decode cX12_match 24 = .ok (.getfield 65, 3) := by decide +kernel
theorem dX12_match_27 : decode cX12_match 27 = .ok (.iload_n 2, 1) := by decide +kernel
theorem dX12_match_28 : decode cX12_match 28 = .ok (.iconst 0, 1) := by decide +kernel
theorem dX12_match_29 : decode cX12_match 29 = .ok (.iastore, 1) := by decide +kernel
theorem dX12_match_30 : decode cX12_match 30 = .ok (.iinc 2 1, 3) := by decide +kernel
theorem dX12_match_33 : decode cX12_match 33 = .ok (.goto (-15), 3) := by decide +kernel
theorem dX12_match_36 : decode cX12_match 36 = .ok (.ldc 184, 2) := by decide +kernel
theorem dX12_match_38 : decode cX12_match 38 = .ok (.istore_n 2, 1) := by decide +kernel
theorem dX12_match_39 : decode cX12_match 39 = .ok (.iconst 1, 1) := by decide +kernel
theorem dX12_match_40 : decode cX12_match 40 = .ok (.istore_n 3, 1) := by decide +kernel
theorem dX12_match_41 : decode cX12_match 41 = .ok (.iload_n 3, 1) := by decide +kernel
theorem dX12_match_42 : decode cX12_match 42 = .ok (.ifCond .eq 55, 3) := by decide +kernel
theorem dX12_match_45 : decode cX12_match 45 = .ok (.aload_n 0, 1) := by decide +kernel
theorem dX12_match_46 : decode cX12_match 46 = .ok (.invokevirtual 250, 3) := by decide +kernel
theorem dX12_match_49 : decode cX12_match 49 = .ok (.istore 4, 2) := by decide +kernel
theorem dX12_match_51 : decode cX12_match 51 = .ok (.iload 4, 2) := by decide +kernel
theorem dX12_match_53 : decode cX12_match 53 = .ok (.iload_n 2, 1) := by decide +kernel
theorem dX12_match_54 : decode cX12_match 54 = .ok (.if_icmp .ge 35, 3) := by decide +kernel
theorem dX12_match_57 : decode cX12_match 57 = .ok (.iload 4, 2) := by decide +kernel
theorem dX12_match_59 : decode cX12_match 59 = .ok (.istore_n 2, 1) := by decide +kernel
theorem dX12_match_60 : decode cX12_match 60 = .ok (.iconst 0, 1) := by decide +kernel
theorem dX12_match_61 : decode cX12_match 61 = .ok (.istore 5, 2) := by decide +kernel
theorem dX12_match_63 : decode cX12_match 63 = .ok (.iload 5, 2) := by decide +kernel
theorem dX12_match_65 : decode cX12_match 65 = .ok (.iconst 4, 1) := by decide +kernel
theorem dX12_match_66 : decode cX12_match 66 = .ok (.if_icmp .ge 23, 3) := by decide +kernel
theorem dX12_match_69 : decode cX12_match 69 = .ok (.aload_n 0, 1) := by decide +kernel
theorem dX12_match_70 : decode cX12_match 70 = .ok (.getfield 68, 3) := by decide +kernel
theorem dX12_match_73 : decode cX12_match 73 = .ok (.iload 5, 2) := by decide +kernel
theorem dX12_match_75 : decode cX12_match 75 = .ok (.aload_n 0, 1) := by decide +kernel
theorem dX12_match_76 : decode cX12_match 76 = .ok (.getfield 65, 3) := by decide +kernel
theorem dX12_match_79 : decode cX12_match 79 = .ok (.iload 5, 2) := by decide +kernel
theorem dX12_match_81 : decode cX12_match 81 = .ok (.iaload, 1) := by decide +kernel
theorem dX12_match_82 : decode cX12_match 82 = .ok (.iastore, 1) := by decide +kernel
theorem dX12_match_83 : decode cX12_match 83 = .ok (.iinc 5 1, 3) := by decide +kernel
theorem dX12_match_86 : decode cX12_match 86 = .ok (.goto (-23), 3) := by decide +kernel
theorem dX12_match_89 : decode cX12_match 89 = .ok (.aload_n 0, 1) := by decide +kernel
theorem dX12_match_90 : decode cX12_match 90 = .ok (.invokevirtual 253, 3) := by decide +kernel
theorem dX12_match_93 : decode cX12_match 93 = .ok (.istore_n 3, 1) := by decide +kernel
theorem dX12_match_94 : decode cX12_match 94 = .ok (.goto (-53), 3) := by decide +kernel
theorem dX12_match_97 : decode cX12_match 97 = .ok (.iload_n 2, 1) := by decide +kernel
theorem dX12_match_98 : decode cX12_match 98 = .ok (.ldc 184, 2) := by decide +kernel
theorem dX12_match_100 : decode cX12_match 100 = .ok (.if_icmp .ne 5, 3) := by decide +kernel
theorem dX12_match_103 : decode cX12_match 103 = .ok (.iconst (-1), 1) := by decide +kernel
theorem dX12_match_104 : decode cX12_match 104 = .ok (.ireturn, 1) := by decide +kernel
theorem dX12_match_105 : decode cX12_match 105 = .ok (.iload_n 1, 1) := by decide +kernel
theorem dX12_match_106 : decode cX12_match 106 = .ok (.iconst (-1), 1) := by decide +kernel
theorem dX12_match_107 : decode cX12_match 107 = .ok (.if_icmp .ne 7, 3) := by decide +kernel
theorem dX12_match_110 : decode cX12_match 110 = .ok (.iload_n 2, 1) := by decide +kernel
theorem dX12_match_111 : decode cX12_match 111 = .ok (.goto 28, 3) := by decide +kernel
theorem dX12_match_114 : decode cX12_match 114 = .ok (.aload_n 0, 1) := by decide +kernel
theorem dX12_match_115 : decode cX12_match 115 = .ok (.getfield 68, 3) := by decide +kernel
theorem dX12_match_118 : decode cX12_match 118 = .ok (.iload_n 1, 1) := by decide +kernel
theorem dX12_match_119 : decode cX12_match 119 = .ok (.iaload, 1) := by decide +kernel
theorem dX12_match_120 : decode cX12_match 120 = .ok (.aload_n 0, 1) := by decide +kernel
theorem dX12_match_121 : decode cX12_match 121 = .ok (.getfield 7, 3) := by decide +kernel
theorem dX12_match_124 : decode cX12_match 124 = .ok (.iconst 0, 1) := by decide +kernel
theorem dX12_match_125 : decode cX12_match 125 = .ok (.iaload, 1) := by decide +kernel
theorem dX12_match_126 : decode cX12_match 126 = .ok (.if_icmp .ne 7, 3) := by decide +kernel
theorem dX12_match_129 : decode cX12_match 129 = .ok (.iconst (-1), 1) := by decide +kernel
theorem dX12_match_130 : decode cX12_match 130 = .ok (.goto 9, 3) := by decide +kernel
theorem dX12_match_133 : decode cX12_match 133 = .ok (.aload_n 0, 1) := by decide +kernel
theorem dX12_match_134 : decode cX12_match 134 = .ok (.getfield 68, 3) := by decide +kernel
theorem dX12_match_137 : decode cX12_match 137 = .ok (.iload_n 1, 1) := by decide +kernel
theorem dX12_match_138 : decode cX12_match 138 = .ok (.iaload, 1) := by decide +kernel
theorem dX12_match_139 : decode cX12_match 139 = .ok (.ireturn, 1) := by decide +kernel
theorem dX12_fastestAt_0 : decode cX12_fastestAt 0 = .ok (.ldc 184, 2) := by decide +kernel
theorem dX12_fastestAt_2 : decode cX12_fastestAt 2 = .ok (.istore_n 3, 1) := by decide +kernel
theorem dX12_fastestAt_3 : decode cX12_fastestAt 3 = .ok (.iconst 0, 1) := by decide +kernel
theorem dX12_fastestAt_4 : decode cX12_fastestAt 4 = .ok (.istore 4, 2) := by decide +kernel
theorem dX12_fastestAt_6 : decode cX12_fastestAt 6 = .ok (.iload 4, 2) := by decide +kernel
theorem dX12_fastestAt_8 : decode cX12_fastestAt 8 = .ok (.aload_n 0, 1) := by decide +kernel
theorem dX12_fastestAt_9 : decode cX12_fastestAt 9 = .ok (.getfield 7, 3) := by decide +kernel
theorem dX12_fastestAt_12 : decode cX12_fastestAt 12 = .ok (.iconst 0, 1) := by decide +kernel
theorem dX12_fastestAt_13 : decode cX12_fastestAt 13 = .ok (.iaload, 1) := by decide +kernel
theorem dX12_fastestAt_14 : decode cX12_fastestAt 14 = .ok (.if_icmp .ge 102, 3) := by decide +kernel
theorem dX12_fastestAt_17 : decode cX12_fastestAt 17 = .ok (.aload_n 0, 1) := by decide +kernel
theorem dX12_fastestAt_18 : decode cX12_fastestAt 18 = .ok (.getfield 7, 3) := by decide +kernel
theorem dX12_fastestAt_21 : decode cX12_fastestAt 21 = .ok (.iconst 3, 1) := by decide +kernel
theorem dX12_fastestAt_22 : decode cX12_fastestAt 22 = .ok (.iload 4, 2) := by decide +kernel
theorem dX12_fastestAt_24 : decode cX12_fastestAt 24 = .ok (.iadd, 1) := by decide +kernel
theorem dX12_fastestAt_25 : decode cX12_fastestAt 25 = .ok (.iaload, 1) := by decide +kernel
theorem dX12_fastestAt_26 : decode cX12_fastestAt 26 = .ok (.istore 5, 2) := by decide +kernel
theorem dX12_fastestAt_28 : decode cX12_fastestAt 28 = .ok (.aload_n 0, 1) := by decide +kernel
theorem dX12_fastestAt_29 : decode cX12_fastestAt 29 = .ok (.getfield 7, 3) := by decide +kernel
theorem dX12_fastestAt_32 : decode cX12_fastestAt 32 = .ok (.bipush 19, 2) := by decide +kernel
theorem dX12_fastestAt_34 : decode cX12_fastestAt 34 = .ok (.iload 4, 2) := by decide +kernel
theorem dX12_fastestAt_36 : decode cX12_fastestAt 36 = .ok (.iadd, 1) := by decide +kernel
theorem dX12_fastestAt_37 : decode cX12_fastestAt 37 = .ok (.iaload, 1) := by decide +kernel
theorem dX12_fastestAt_38 : decode cX12_fastestAt 38 = .ok (.iload_n 1, 1) := by decide +kernel
theorem dX12_fastestAt_39 : decode cX12_fastestAt 39 = .ok (.if_icmp .ne 42, 3) := by decide +kernel
theorem dX12_fastestAt_42 : decode cX12_fastestAt 42 = .ok (.aload_n 0, 1) := by decide +kernel
theorem dX12_fastestAt_43 : decode cX12_fastestAt 43 = .ok (.getfield 7, 3) := by decide +kernel
theorem dX12_fastestAt_46 : decode cX12_fastestAt 46 = .ok (.bipush 35, 2) := by decide +kernel
theorem dX12_fastestAt_48 : decode cX12_fastestAt 48 = .ok (.iload 4, 2) := by decide +kernel
theorem dX12_fastestAt_50 : decode cX12_fastestAt 50 = .ok (.iadd, 1) := by decide +kernel
theorem dX12_fastestAt_51 : decode cX12_fastestAt 51 = .ok (.iaload, 1) := by decide +kernel
theorem dX12_fastestAt_52 : decode cX12_fastestAt 52 = .ok (.ifCond .ne 29, 3) := by decide +kernel
theorem dX12_fastestAt_55 : decode cX12_fastestAt 55 = .ok (.aload_n 0, 1) := by decide +kernel
theorem dX12_fastestAt_56 : decode cX12_fastestAt 56 = .ok (.getfield 7, 3) := by decide +kernel
theorem dX12_fastestAt_59 : decode cX12_fastestAt 59 = .ok (.bipush 27, 2) := by decide +kernel
theorem dX12_fastestAt_61 : decode cX12_fastestAt 61 = .ok (.iload 4, 2) := by decide +kernel
theorem dX12_fastestAt_63 : decode cX12_fastestAt 63 = .ok (.iadd, 1) := by decide +kernel
theorem dX12_fastestAt_64 : decode cX12_fastestAt 64 = .ok (.iaload, 1) := by decide +kernel
theorem dX12_fastestAt_65 : decode cX12_fastestAt 65 = .ok (.iload 5, 2) := by decide +kernel
theorem dX12_fastestAt_67 : decode cX12_fastestAt 67 = .ok (.iload_n 2, 1) := by decide +kernel
theorem dX12_fastestAt_68 : decode cX12_fastestAt 68 = .ok (.invokestatic 206, 3) := by decide +kernel
theorem dX12_fastestAt_71 : decode cX12_fastestAt 71 = .ok (.iadd, 1) := by decide +kernel
theorem dX12_fastestAt_72 : decode cX12_fastestAt 72 = .ok (.bipush 10, 2) := by decide +kernel
theorem dX12_fastestAt_74 : decode cX12_fastestAt 74 = .ok (.if_icmp .ge 7, 3) := by decide +kernel
theorem dX12_fastestAt_77 : decode cX12_fastestAt 77 = .ok (.iconst 1, 1) := by decide +kernel
theorem dX12_fastestAt_78 : decode cX12_fastestAt 78 = .ok (.goto 4, 3) := by decide +kernel
theorem dX12_fastestAt_81 : decode cX12_fastestAt 81 = .ok (.iconst 0, 1) := by decide +kernel
theorem dX12_fastestAt_82 : decode cX12_fastestAt 82 = .ok (.istore 6, 2) := by decide +kernel
theorem dX12_fastestAt_84 : decode cX12_fastestAt 84 = .ok (.iload 6, 2) := by decide +kernel
theorem dX12_fastestAt_86 : decode cX12_fastestAt 86 = .ok (.ifCond .eq 22, 3) := by decide +kernel
theorem dX12_fastestAt_89 : decode cX12_fastestAt 89 = .ok (.iload 5, 2) := by decide +kernel
theorem dX12_fastestAt_91 : decode cX12_fastestAt 91 = .ok (.iload_n 2, 1) := by decide +kernel
theorem dX12_fastestAt_92 : decode cX12_fastestAt 92 = .ok (.invokestatic 180, 3) := by decide +kernel
theorem dX12_fastestAt_95 : decode cX12_fastestAt 95 = .ok (.iload_n 3, 1) := by decide +kernel
theorem dX12_fastestAt_96 : decode cX12_fastestAt 96 = .ok (.if_icmp .ge 12, 3) := by decide +kernel
theorem dX12_fastestAt_99 : decode cX12_fastestAt 99 = .ok (.iload 5, 2) := by decide +kernel
theorem dX12_fastestAt_101 : decode cX12_fastestAt 101 = .ok (.iload_n 2, 1) := by decide +kernel
theorem dX12_fastestAt_102 : decode cX12_fastestAt 102 = .ok (.invokestatic 180, 3) := by decide +kernel
theorem dX12_fastestAt_105 : decode cX12_fastestAt 105 = .ok (.goto 4, 3) := by decide +kernel
theorem dX12_fastestAt_108 : decode cX12_fastestAt 108 = .ok (.iload_n 3, 1) := by decide +kernel
theorem dX12_fastestAt_109 : decode cX12_fastestAt 109 = .ok (.istore_n 3, 1) := by decide +kernel
theorem dX12_fastestAt_110 : decode cX12_fastestAt 110 = .ok (.iinc 4 1, 3) := by decide +kernel
theorem dX12_fastestAt_113 : decode cX12_fastestAt 113 = .ok (.goto (-107), 3) := by decide +kernel
theorem dX12_fastestAt_116 : decode cX12_fastestAt 116 = .ok (.iload_n 3, 1) := by decide +kernel
theorem dX12_fastestAt_117 : decode cX12_fastestAt 117 = .ok (.ireturn, 1) := by decide +kernel
theorem dX12_fastest_0 : decode cX12_fastest 0 = .ok (.aload_n 0, 1) := by decide +kernel
theorem dX12_fastest_1 : decode cX12_fastest 1 = .ok (.iload_n 1, 1) := by decide +kernel
theorem dX12_fastest_2 : decode cX12_fastest 2 = .ok (.invokevirtual 172, 3) := by decide +kernel
theorem dX12_fastest_5 : decode cX12_fastest 5 = .ok (.ifCond .ne 6, 3) := by decide +kernel
theorem dX12_fastest_8 : decode cX12_fastest 8 = .ok (.bipush (-2), 2) := by decide +kernel
theorem dX12_fastest_10 : decode cX12_fastest 10 = .ok (.ireturn, 1) := by decide +kernel
theorem dX12_fastest_11 : decode cX12_fastest 11 = .ok (.iconst 0, 1) := by decide +kernel
theorem dX12_fastest_12 : decode cX12_fastest 12 = .ok (.istore_n 2, 1) := by decide +kernel
theorem dX12_fastest_13 : decode cX12_fastest 13 = .ok (.aload_n 0, 1) := by decide +kernel
theorem dX12_fastest_14 : decode cX12_fastest 14 = .ok (.getfield 7, 3) := by decide +kernel
theorem dX12_fastest_17 : decode cX12_fastest 17 = .ok (.bipush 51, 2) := by decide +kernel
theorem dX12_fastest_19 : decode cX12_fastest 19 = .ok (.iload_n 1, 1) := by decide +kernel
theorem dX12_fastest_20 : decode cX12_fastest 20 = .ok (.iadd, 1) := by decide +kernel
theorem dX12_fastest_21 : decode cX12_fastest 21 = .ok (.iaload, 1) := by decide +kernel
theorem dX12_fastest_22 : decode cX12_fastest 22 = .ok (.istore_n 3, 1) := by decide +kernel
theorem dX12_fastest_23 : decode cX12_fastest 23 = .ok (.iload_n 3, 1) := by decide +kernel
theorem dX12_fastest_24 : decode cX12_fastest 24 = .ok (.aload_n 0, 1) := by decide +kernel
theorem dX12_fastest_25 : decode cX12_fastest 25 = .ok (.getfield 7, 3) := by decide +kernel
theorem dX12_fastest_28 : decode cX12_fastest 28 = .ok (.bipush 55, 2) := by decide +kernel
theorem dX12_fastest_30 : decode cX12_fastest 30 = .ok (.iload_n 1, 1) := by decide +kernel
theorem dX12_fastest_31 : decode cX12_fastest 31 = .ok (.iadd, 1) := by decide +kernel
theorem dX12_fastest_32 : decode cX12_fastest 32 = .ok (.iaload, 1) := by decide +kernel
theorem dX12_fastest_33 : decode cX12_fastest 33 = .ok (.if_icmp .eq 43, 3) := by decide +kernel
theorem dX12_fastest_36 : decode cX12_fastest 36 = .ok (.iload_n 2, 1) := by decide +kernel
theorem dX12_fastest_37 : decode cX12_fastest 37 = .ok (.aload_n 0, 1) := by decide +kernel
theorem dX12_fastest_38 : decode cX12_fastest 38 = .ok (.iload_n 3, 1) := by decide +kernel
theorem dX12_fastest_39 : decode cX12_fastest 39 = .ok (.aload_n 0, 1) := by decide +kernel
theorem dX12_fastest_40 : decode cX12_fastest 40 = .ok (.iconst 0, 1) := by decide +kernel
theorem dX12_fastest_41 : decode cX12_fastest 41 = .ok (.iload_n 3, 1) := by decide +kernel
theorem dX12_fastest_42 : decode cX12_fastest 42 = .ok (.aload_n 0, 1) := by decide +kernel
theorem dX12_fastest_43 : decode cX12_fastest 43 = .ok (.getfield 7, 3) := by decide +kernel
theorem dX12_fastest_46 : decode cX12_fastest 46 = .ok (.bipush 55, 2) := by decide +kernel
theorem dX12_fastest_48 : decode cX12_fastest 48 = .ok (.iload_n 1, 1) := by decide +kernel
theorem dX12_fastest_49 : decode cX12_fastest 49 = .ok (.iadd, 1) := by decide +kernel
theorem dX12_fastest_50 : decode cX12_fastest 50 = .ok (.iaload, 1) := by decide +kernel
theorem dX12_fastest_51 : decode cX12_fastest 51 = .ok (.invokevirtual 199, 3) := by decide +kernel
theorem dX12_fastest_54 : decode cX12_fastest 54 = .ok (.invokevirtual 256, 3) := by decide +kernel
theorem dX12_fastest_57 : decode cX12_fastest 57 = .ok (.iadd, 1) := by decide +kernel
theorem dX12_fastest_58 : decode cX12_fastest 58 = .ok (.istore_n 2, 1) := by decide +kernel
theorem dX12_fastest_59 : decode cX12_fastest 59 = .ok (.iload_n 3, 1) := by decide +kernel
theorem dX12_fastest_60 : decode cX12_fastest 60 = .ok (.aload_n 0, 1) := by decide +kernel
theorem dX12_fastest_61 : decode cX12_fastest 61 = .ok (.getfield 7, 3) := by decide +kernel
theorem dX12_fastest_64 : decode cX12_fastest 64 = .ok (.bipush 55, 2) := by decide +kernel
theorem dX12_fastest_66 : decode cX12_fastest 66 = .ok (.iload_n 1, 1) := by decide +kernel
theorem dX12_fastest_67 : decode cX12_fastest 67 = .ok (.iadd, 1) := by decide +kernel
theorem dX12_fastest_68 : decode cX12_fastest 68 = .ok (.iaload, 1) := by decide +kernel
theorem dX12_fastest_69 : decode cX12_fastest 69 = .ok (.invokestatic 203, 3) := by decide +kernel
theorem dX12_fastest_72 : decode cX12_fastest 72 = .ok (.istore_n 3, 1) := by decide +kernel
theorem dX12_fastest_73 : decode cX12_fastest 73 = .ok (.goto (-50), 3) := by decide +kernel
theorem dX12_fastest_76 : decode cX12_fastest 76 = .ok (.iload_n 2, 1) := by decide +kernel
theorem dX12_fastest_77 : decode cX12_fastest 77 = .ok (.ldc 184, 2) := by decide +kernel
theorem dX12_fastest_79 : decode cX12_fastest 79 = .ok (.if_icmp .lt 7, 3) := by decide +kernel
theorem dX12_fastest_82 : decode cX12_fastest 82 = .ok (.iconst (-1), 1) := by decide +kernel
theorem dX12_fastest_83 : decode cX12_fastest 83 = .ok (.goto 4, 3) := by decide +kernel
theorem dX12_fastest_86 : decode cX12_fastest 86 = .ok (.iload_n 2, 1) := by decide +kernel
theorem dX12_fastest_87 : decode cX12_fastest 87 = .ok (.ireturn, 1) := by decide +kernel
theorem dX12_feed_0 : decode cX12_feed 0 = .ok (.aload_n 0, 1) := by decide +kernel
theorem dX12_feed_1 : decode cX12_feed 1 = .ok (.iload_n 1, 1) := by decide +kernel
theorem dX12_feed_2 : decode cX12_feed 2 = .ok (.invokevirtual 172, 3) := by decide +kernel
theorem dX12_feed_5 : decode cX12_feed 5 = .ok (.ifCond .ne 6, 3) := by decide +kernel
theorem dX12_feed_8 : decode cX12_feed 8 = .ok (.bipush (-2), 2) := by decide +kernel
theorem dX12_feed_10 : decode cX12_feed 10 = .ok (.ireturn, 1) := by decide +kernel
theorem dX12_feed_11 : decode cX12_feed 11 = .ok (.iload_n 2, 1) := by decide +kernel
theorem dX12_feed_12 : decode cX12_feed 12 = .ok (.i2l, 1) := by decide +kernel
theorem dX12_feed_13 : decode cX12_feed 13 = .ok (.lconst 1, 1) := by decide +kernel
theorem dX12_feed_14 : decode cX12_feed 14 = .ok (.ldc2_w 259, 3) := by decide +kernel
theorem dX12_feed_17 : decode cX12_feed 17 = .ok (.invokestatic 79, 3) := by decide +kernel
theorem dX12_feed_20 : decode cX12_feed 20 = .ok (.ifCond .ne 6, 3) := by decide +kernel
theorem dX12_feed_23 : decode cX12_feed 23 = .ok (.bipush (-3), 2) := by decide +kernel
theorem dX12_feed_25 : decode cX12_feed 25 = .ok (.ireturn, 1) := by decide +kernel
theorem dX12_feed_26 : decode cX12_feed 26 = .ok (.iconst (-1), 1) := by decide +kernel
theorem dX12_feed_27 : decode cX12_feed 27 = .ok (.istore_n 3, 1) := by decide +kernel
theorem dX12_feed_28 : decode cX12_feed 28 = .ok (.iconst 4, 1) := by decide +kernel
theorem dX12_feed_29 : decode cX12_feed 29 = .ok (.istore 4, 2) := by decide +kernel
theorem dX12_feed_31 : decode cX12_feed 31 = .ok (.iconst 0, 1) := by decide +kernel
theorem dX12_feed_32 : decode cX12_feed 32 = .ok (.istore 5, 2) := by decide +kernel
theorem dX12_feed_34 : decode cX12_feed 34 = .ok (.iload 5, 2) := by decide +kernel
theorem dX12_feed_36 : decode cX12_feed 36 = .ok (.iconst 1, 1) := by decide +kernel
theorem dX12_feed_37 : decode cX12_feed 37 = .ok (.aload_n 0, 1) := by decide +kernel
theorem dX12_feed_38 : decode cX12_feed 38 = .ok (.getfield 7, 3) := by decide +kernel
theorem dX12_feed_41 : decode cX12_feed 41 = .ok (.iconst 0, 1) := by decide +kernel
theorem dX12_feed_42 : decode cX12_feed 42 = .ok (.iaload, 1) := by decide +kernel
theorem dX12_feed_43 : decode cX12_feed 43 = .ok (.ishl, 1) := by decide +kernel
theorem dX12_feed_44 : decode cX12_feed 44 = .ok (.if_icmp .ge 108, 3) := by decide +kernel
theorem dX12_feed_47 : decode cX12_feed 47 = .ok (.iload 5, 2) := by decide +kernel
theorem dX12_feed_49 : decode cX12_feed 49 = .ok (.invokestatic 261, 3) := by decide +kernel
theorem dX12_feed_52 : decode cX12_feed 52 = .ok (.iload 4, 2) := by decide +kernel
theorem dX12_feed_54 : decode cX12_feed 54 = .ok (.if_icmp .ge 92, 3) := by decide +kernel
theorem dX12_feed_57 : decode cX12_feed 57 = .ok (.aload_n 0, 1) := by decide +kernel
theorem dX12_feed_58 : decode cX12_feed 58 = .ok (.invokevirtual 244, 3) := by decide +kernel
theorem dX12_feed_61 : decode cX12_feed 61 = .ok (.iconst 0, 1) := by decide +kernel
theorem dX12_feed_62 : decode cX12_feed 62 = .ok (.istore 6, 2) := by decide +kernel
theorem dX12_feed_64 : decode cX12_feed 64 = .ok (.iload 6, 2) := by decide +kernel
theorem dX12_feed_66 : decode cX12_feed 66 = .ok (.aload_n 0, 1) := by decide +kernel
theorem dX12_feed_67 : decode cX12_feed 67 = .ok (.getfield 7, 3) := by decide +kernel
theorem dX12_feed_70 : decode cX12_feed 70 = .ok (.iconst 0, 1) := by decide +kernel
theorem dX12_feed_71 : decode cX12_feed 71 = .ok (.iaload, 1) := by decide +kernel
theorem dX12_feed_72 : decode cX12_feed 72 = .ok (.if_icmp .ge 28, 3) := by decide +kernel
theorem dX12_feed_75 : decode cX12_feed 75 = .ok (.iload 5, 2) := by decide +kernel
theorem dX12_feed_77 : decode cX12_feed 77 = .ok (.iload 6, 2) := by decide +kernel
theorem dX12_feed_79 : decode cX12_feed 79 = .ok (.invokestatic 188, 3) := by decide +kernel
theorem dX12_feed_82 : decode cX12_feed 82 = .ok (.ifCond .eq 12, 3) := by decide +kernel
theorem dX12_feed_85 : decode cX12_feed 85 = .ok (.aload_n 0, 1) := by decide +kernel
theorem dX12_feed_86 : decode cX12_feed 86 = .ok (.sipush 840, 3) := by decide +kernel
theorem dX12_feed_89 : decode cX12_feed 89 = .ok (.iload 6, 2) := by decide +kernel
theorem dX12_feed_91 : decode cX12_feed 91 = .ok (.invokevirtual 234, 3) := by decide +kernel
theorem dX12_feed_94 : decode cX12_feed 94 = .ok (.iinc 6 1, 3) := by decide +kernel
theorem dX12_feed_97 : decode cX12_feed 97 = .ok (.goto (-33), 3) := by decide +kernel
theorem dX12_feed_100 : decode cX12_feed 100 = .ok (.aload_n 0, 1) := by decide +kernel
theorem dX12_feed_101 : decode cX12_feed 101 = .ok (.iload_n 1, 1) := by decide +kernel
theorem dX12_feed_102 : decode cX12_feed 102 = .ok (.iload_n 2, 1) := by decide +kernel
theorem dX12_feed_103 : decode cX12_feed 103 = .ok (.invokevirtual 247, 3) := by decide +kernel
theorem dX12_feed_106 : decode cX12_feed 106 = .ok (.iconst (-1), 1) := by decide +kernel
theorem dX12_feed_107 : decode cX12_feed 107 = .ok (.if_icmp .eq 7, 3) := by decide +kernel
theorem dX12_feed_110 : decode cX12_feed 110 = .ok (.iconst 1, 1) := by decide +kernel
theorem dX12_feed_111 : decode cX12_feed 111 = .ok (.goto 4, 3) := by decide +kernel
theorem dX12_feed_114 : decode cX12_feed 114 = .ok (.iconst 0, 1) := by decide +kernel
theorem dX12_feed_115 : decode cX12_feed 115 = .ok (.istore 6, 2) := by decide +kernel
theorem dX12_feed_117 : decode cX12_feed 117 = .ok (.iload 6, 2) := by decide +kernel
theorem dX12_feed_119 : decode cX12_feed 119 = .ok (.ifCond .eq 8, 3) := by decide +kernel
theorem dX12_feed_122 : decode cX12_feed 122 = .ok (.iload 5, 2) := by decide +kernel
theorem dX12_feed_124 : decode cX12_feed 124 = .ok (.goto 4, 3) := by decide +kernel
theorem dX12_feed_127 : decode cX12_feed 127 = .ok (.iload_n 3, 1) := by decide +kernel
theorem dX12_feed_128 : decode cX12_feed 128 = .ok (.istore_n 3, 1) := by decide +kernel
theorem dX12_feed_129 : decode cX12_feed 129 = .ok (.iload 6, 2) := by decide +kernel
theorem dX12_feed_131 : decode cX12_feed 131 = .ok (.ifCond .eq 11, 3) := by decide +kernel
theorem dX12_feed_134 : decode cX12_feed 134 = .ok (.iload 5, 2) := by decide +kernel
theorem dX12_feed_136 : decode cX12_feed 136 = .ok (.invokestatic 261, 3) := by decide +kernel
theorem dX12_feed_139 : decode cX12_feed 139 = .ok (.goto 5, 3) := by decide +kernel
theorem dX12_feed_142 : decode cX12_feed 142 = .ok (.iload 4, 2) := by decide +kernel
theorem dX12_feed_144 : decode cX12_feed 144 = .ok (.istore 4, 2) := by decide +kernel
theorem dX12_feed_146 : decode cX12_feed 146 = .ok (.iinc 5 1, 3) := by decide +kernel
theorem dX12_feed_149 : decode cX12_feed 149 = .ok (.goto (-115), 3) := by decide +kernel
theorem dX12_feed_152 : decode cX12_feed 152 = .ok (.iload_n 3, 1) := by decide +kernel
theorem dX12_feed_153 : decode cX12_feed 153 = .ok (.ireturn, 1) := by decide +kernel
theorem dX12_falls_0 : decode cX12_falls 0 = .ok (.iload_n 1, 1) := by decide +kernel
theorem dX12_falls_1 : decode cX12_falls 1 = .ok (.i2l, 1) := by decide +kernel
theorem dX12_falls_2 : decode cX12_falls 2 = .ok (.lconst 0, 1) := by decide +kernel
theorem dX12_falls_3 : decode cX12_falls 3 = .ok (.ldc2_w 264, 3) := by decide +kernel
theorem dX12_falls_6 : decode cX12_falls 6 = .ok (.invokestatic 79, 3) := by decide +kernel
theorem dX12_falls_9 : decode cX12_falls 9 = .ok (.ifCond .eq 38, 3) := by decide +kernel
theorem dX12_falls_12 : decode cX12_falls 12 = .ok (.iload_n 2, 1) := by decide +kernel
theorem dX12_falls_13 : decode cX12_falls 13 = .ok (.i2l, 1) := by decide +kernel
theorem dX12_falls_14 : decode cX12_falls 14 = .ok (.lconst 0, 1) := by decide +kernel
theorem dX12_falls_15 : decode cX12_falls 15 = .ok (.ldc2_w 266, 3) := by decide +kernel
theorem dX12_falls_18 : decode cX12_falls 18 = .ok (.invokestatic 79, 3) := by decide +kernel
theorem dX12_falls_21 : decode cX12_falls 21 = .ok (.ifCond .eq 26, 3) := by decide +kernel
theorem dX12_falls_24 : decode cX12_falls 24 = .ok (.iload_n 3, 1) := by decide +kernel
theorem dX12_falls_25 : decode cX12_falls 25 = .ok (.i2l, 1) := by decide +kernel
theorem dX12_falls_26 : decode cX12_falls 26 = .ok (.lconst 0, 1) := by decide +kernel
theorem dX12_falls_27 : decode cX12_falls 27 = .ok (.ldc2_w 264, 3) := by decide +kernel
theorem dX12_falls_30 : decode cX12_falls 30 = .ok (.invokestatic 79, 3) := by decide +kernel
theorem dX12_falls_33 : decode cX12_falls 33 = .ok (.ifCond .eq 14, 3) := by decide +kernel
theorem dX12_falls_36 : decode cX12_falls 36 = .ok (.iload 4, 2) := by decide +kernel
theorem dX12_falls_38 : decode cX12_falls 38 = .ok (.i2l, 1) := by decide +kernel
theorem dX12_falls_39 : decode cX12_falls 39 = .ok (.lconst 0, 1) := by decide +kernel
theorem dX12_falls_40 : decode cX12_falls 40 = .ok (.lconst 1, 1) := by decide +kernel
theorem dX12_falls_41 : decode cX12_falls 41 = .ok (.invokestatic 79, 3) := by decide +kernel
theorem dX12_falls_44 : decode cX12_falls 44 = .ok (.ifCond .ne 6, 3) := by decide +kernel
theorem dX12_falls_47 : decode cX12_falls 47 = .ok (.bipush (-3), 2) := by decide +kernel
theorem dX12_falls_49 : decode cX12_falls 49 = .ok (.ireturn, 1) := by decide +kernel
theorem dX12_falls_50 : decode cX12_falls 50 = .ok (.lconst 0, 1) := by decide +kernel
theorem dX12_falls_51 : decode cX12_falls 51 = .ok (.lstore 5, 2) := by decide +kernel
theorem dX12_falls_53 : decode cX12_falls 53 = .ok (.lconst 0, 1) := by decide +kernel
theorem dX12_falls_54 : decode cX12_falls 54 = .ok (.lstore 7, 2) := by decide +kernel
theorem dX12_falls_56 : decode cX12_falls 56 = .ok (.lconst 1, 1) := by decide +kernel
theorem dX12_falls_57 : decode cX12_falls 57 = .ok (.lstore 9, 2) := by decide +kernel
theorem dX12_falls_59 : decode cX12_falls 59 = .ok (.iconst 0, 1) := by decide +kernel
theorem dX12_falls_60 : decode cX12_falls 60 = .ok (.istore 11, 2) := by decide +kernel
theorem dX12_falls_62 : decode cX12_falls 62 = .ok (.iload 11, 2) := by decide +kernel
theorem dX12_falls_64 : decode cX12_falls 64 = .ok (.iload_n 1, 1) := by decide +kernel
theorem dX12_falls_65 : decode cX12_falls 65 = .ok (.if_icmp .gt 90, 3) := by decide +kernel
theorem dX12_falls_68 : decode cX12_falls 68 = .ok (.lload 9, 2) := by decide +kernel
theorem dX12_falls_70 : decode cX12_falls 70 = .ok (.lstore 12, 2) := by decide +kernel
theorem dX12_falls_72 : decode cX12_falls 72 = .ok (.iconst 0, 1) := by decide +kernel
theorem dX12_falls_73 : decode cX12_falls 73 = .ok (.istore 14, 2) := by decide +kernel
theorem dX12_falls_75 : decode cX12_falls 75 = .ok (.iload 14, 2) := by decide +kernel
theorem dX12_falls_77 : decode cX12_falls 77 = .ok (.iload_n 1, 1) := by decide +kernel
theorem dX12_falls_78 : decode cX12_falls 78 = .ok (.if_icmp .ge 31, 3) := by decide +kernel
theorem dX12_falls_81 : decode cX12_falls 81 = .ok (.lload 12, 2) := by decide +kernel
theorem dX12_falls_83 : decode cX12_falls 83 = .ok (.iload 14, 2) := by decide +kernel
theorem dX12_falls_85 : decode cX12_falls 85 = .ok (.iload 11, 2) := by decide +kernel
theorem dX12_falls_87 : decode cX12_falls 87 = .ok (.if_icmp .ge 8, 3) := by decide +kernel
theorem dX12_falls_90 : decode cX12_falls 90 = .ok (.iload_n 2, 1) := by decide +kernel
theorem dX12_falls_91 : decode cX12_falls 91 = .ok (.i2l, 1) := by decide +kernel
theorem dX12_falls_92 : decode cX12_falls 92 = .ok (.goto 8, 3) := by decide +kernel
theorem dX12_falls_95 : decode cX12_falls 95 = .ok (.bipush 10, 2) := by decide +kernel
theorem dX12_falls_97 : decode cX12_falls 97 = .ok (.iload_n 2, 1) := by decide +kernel
theorem dX12_falls_98 : decode cX12_falls 98 = .ok (.isub, 1) := by decide +kernel
theorem dX12_falls_99 : decode cX12_falls 99 = .ok (.i2l, 1) := by decide +kernel
theorem dX12_falls_100 : decode cX12_falls 100 = .ok (.lmul, 1) := by decide +kernel
theorem dX12_falls_101 : decode cX12_falls 101 = .ok (.lstore 12, 2) := by decide +kernel
theorem dX12_falls_103 : decode cX12_falls 103 = .ok (.iinc 14 1, 3) := by decide +kernel
theorem dX12_falls_106 : decode cX12_falls 106 = .ok (.goto (-31), 3) := by decide +kernel
theorem dX12_falls_109 : decode cX12_falls 109 = .ok (.lload 5, 2) := by decide +kernel
theorem dX12_falls_111 : decode cX12_falls 111 = .ok (.iload 11, 2) := by decide +kernel
theorem dX12_falls_113 : decode cX12_falls 113 = .ok (.iload_n 3, 1) := by decide +kernel
theorem dX12_falls_114 : decode cX12_falls 114 = .ok (.if_icmp .ge 7, 3) := by decide +kernel
theorem dX12_falls_117 : decode cX12_falls 117 = .ok (.lconst 0, 1) := by decide +kernel
theorem dX12_falls_118 : decode cX12_falls 118 = .ok (.goto 5, 3) := by decide +kernel
theorem dX12_falls_121 : decode cX12_falls 121 = .ok (.lload 12, 2) := by decide +kernel
theorem dX12_falls_123 : decode cX12_falls 123 = .ok (.ladd, 1) := by decide +kernel
theorem dX12_falls_124 : decode cX12_falls 124 = .ok (.lstore 5, 2) := by decide +kernel
theorem dX12_falls_126 : decode cX12_falls 126 = .ok (.lload 7, 2) := by decide +kernel
theorem dX12_falls_128 : decode cX12_falls 128 = .ok (.lload 12, 2) := by decide +kernel
theorem dX12_falls_130 : decode cX12_falls 130 = .ok (.ladd, 1) := by decide +kernel
theorem dX12_falls_131 : decode cX12_falls 131 = .ok (.lstore 7, 2) := by decide +kernel
theorem dX12_falls_133 : decode cX12_falls 133 = .ok (.lload 9, 2) := by decide +kernel
theorem dX12_falls_135 : decode cX12_falls 135 = .ok (.iload_n 1, 1) := by decide +kernel
theorem dX12_falls_136 : decode cX12_falls 136 = .ok (.iload 11, 2) := by decide +kernel
theorem dX12_falls_138 : decode cX12_falls 138 = .ok (.isub, 1) := by decide +kernel
theorem dX12_falls_139 : decode cX12_falls 139 = .ok (.i2l, 1) := by decide +kernel
theorem dX12_falls_140 : decode cX12_falls 140 = .ok (.lmul, 1) := by decide +kernel
theorem dX12_falls_141 : decode cX12_falls 141 = .ok (.iload 11, 2) := by decide +kernel
theorem dX12_falls_143 : decode cX12_falls 143 = .ok (.iconst 1, 1) := by decide +kernel
theorem dX12_falls_144 : decode cX12_falls 144 = .ok (.iadd, 1) := by decide +kernel
theorem dX12_falls_145 : decode cX12_falls 145 = .ok (.i2l, 1) := by decide +kernel
theorem dX12_falls_146 : decode cX12_falls 146 = .ok (.ldiv, 1) := by decide +kernel
theorem dX12_falls_147 : decode cX12_falls 147 = .ok (.lstore 9, 2) := by decide +kernel
theorem dX12_falls_149 : decode cX12_falls 149 = .ok (.iinc 11 1, 3) := by decide +kernel
theorem dX12_falls_152 : decode cX12_falls 152 = .ok (.goto (-90), 3) := by decide +kernel
theorem dX12_falls_155 : decode cX12_falls 155 = .ok (.lload 5, 2) := by decide +kernel
theorem dX12_falls_157 : decode cX12_falls 157 = .ok (.lstore 11, 2) := by decide +kernel
theorem dX12_falls_159 : decode cX12_falls 159 = .ok (.lload 7, 2) := by decide +kernel
theorem dX12_falls_161 : decode cX12_falls 161 = .ok (.lstore 13, 2) := by decide +kernel
theorem dX12_falls_163 : decode cX12_falls 163 = .ok (.lload 13, 2) := by decide +kernel
theorem dX12_falls_165 : decode cX12_falls 165 = .ok (.lconst 0, 1) := by decide +kernel
theorem dX12_falls_166 : decode cX12_falls 166 = .ok (.lcmp, 1) := by decide +kernel
theorem dX12_falls_167 : decode cX12_falls 167 = .ok (.ifCond .eq 21, 3) := by decide +kernel
theorem dX12_falls_170 : decode cX12_falls 170 = .ok (.lload 11, 2) := by decide +kernel
theorem dX12_falls_172 : decode cX12_falls 172 = .ok (.lload 13, 2) := by decide +kernel
theorem dX12_falls_174 : decode cX12_falls 174 = .ok (.lrem, 1) := by decide +kernel
theorem dX12_falls_175 : decode cX12_falls 175 = .ok (.lstore 15, 2) := by decide +kernel
theorem dX12_falls_177 : decode cX12_falls 177 = .ok (.lload 13, 2) := by decide +kernel
theorem dX12_falls_179 : decode cX12_falls 179 = .ok (.lstore 11, 2) := by decide +kernel
theorem dX12_falls_181 : decode cX12_falls 181 = .ok (.lload 15, 2) := by decide +kernel
theorem dX12_falls_183 : decode cX12_falls 183 = .ok (.lstore 13, 2) := by decide +kernel
theorem dX12_falls_185 : decode cX12_falls 185 = .ok (.goto (-22), 3) := by decide +kernel
theorem dX12_falls_188 : decode cX12_falls 188 = .ok (.iload 4, 2) := by decide +kernel
theorem dX12_falls_190 : decode cX12_falls 190 = .ok (.ifCond .ne 11, 3) := by decide +kernel
theorem dX12_falls_193 : decode cX12_falls 193 = .ok (.lload 5, 2) := by decide +kernel
theorem dX12_falls_195 : decode cX12_falls 195 = .ok (.lload 11, 2) := by decide +kernel
theorem dX12_falls_197 : decode cX12_falls 197 = .ok (.ldiv, 1) := by decide +kernel
theorem dX12_falls_198 : decode cX12_falls 198 = .ok (.goto 8, 3) := by decide +kernel
theorem dX12_falls_201 : decode cX12_falls 201 = .ok (.lload 7, 2) := by decide +kernel
theorem dX12_falls_203 : decode cX12_falls 203 = .ok (.lload 11, 2) := by decide +kernel
theorem dX12_falls_205 : decode cX12_falls 205 = .ok (.ldiv, 1) := by decide +kernel
theorem dX12_falls_206 : decode cX12_falls 206 = .ok (.l2i, 1) := by decide +kernel
theorem dX12_falls_207 : decode cX12_falls 207 = .ok (.ireturn, 1) := by decide +kernel
theorem dX12_seen_0 : decode cX12_seen 0 = .ok (.iload_n 1, 1) := by decide +kernel
theorem dX12_seen_1 : decode cX12_seen 1 = .ok (.i2l, 1) := by decide +kernel
theorem dX12_seen_2 : decode cX12_seen 2 = .ok (.lconst 1, 1) := by decide +kernel
theorem dX12_seen_3 : decode cX12_seen 3 = .ok (.ldc2_w 264, 3) := by decide +kernel
theorem dX12_seen_6 : decode cX12_seen 6 = .ok (.invokestatic 79, 3) := by decide +kernel
theorem dX12_seen_9 : decode cX12_seen 9 = .ok (.ifCond .eq 27, 3) := by decide +kernel
theorem dX12_seen_12 : decode cX12_seen 12 = .ok (.iload_n 2, 1) := by decide +kernel
theorem dX12_seen_13 : decode cX12_seen 13 = .ok (.i2l, 1) := by decide +kernel
theorem dX12_seen_14 : decode cX12_seen 14 = .ok (.lconst 0, 1) := by decide +kernel
theorem dX12_seen_15 : decode cX12_seen 15 = .ok (.ldc2_w 268, 3) := by decide +kernel
theorem dX12_seen_18 : decode cX12_seen 18 = .ok (.invokestatic 79, 3) := by decide +kernel
theorem dX12_seen_21 : decode cX12_seen 21 = .ok (.ifCond .eq 15, 3) := by decide +kernel
theorem dX12_seen_24 : decode cX12_seen 24 = .ok (.iload_n 3, 1) := by decide +kernel
theorem dX12_seen_25 : decode cX12_seen 25 = .ok (.i2l, 1) := by decide +kernel
theorem dX12_seen_26 : decode cX12_seen 26 = .ok (.lconst 0, 1) := by decide +kernel
theorem dX12_seen_27 : decode cX12_seen 27 = .ok (.ldc2_w 268, 3) := by decide +kernel
theorem dX12_seen_30 : decode cX12_seen 30 = .ok (.invokestatic 79, 3) := by decide +kernel
theorem dX12_seen_33 : decode cX12_seen 33 = .ok (.ifCond .ne 6, 3) := by decide +kernel
theorem dX12_seen_36 : decode cX12_seen 36 = .ok (.bipush (-3), 2) := by decide +kernel
theorem dX12_seen_38 : decode cX12_seen 38 = .ok (.ireturn, 1) := by decide +kernel
theorem dX12_seen_39 : decode cX12_seen 39 = .ok (.aload_n 0, 1) := by decide +kernel
theorem dX12_seen_40 : decode cX12_seen 40 = .ok (.getfield 166, 3) := by decide +kernel
theorem dX12_seen_43 : decode cX12_seen 43 = .ok (.bipush 6, 2) := by decide +kernel
theorem dX12_seen_45 : decode cX12_seen 45 = .ok (.if_icmp .ne 6, 3) := by decide +kernel
theorem dX12_seen_48 : decode cX12_seen 48 = .ok (.bipush (-5), 2) := by decide +kernel
theorem dX12_seen_50 : decode cX12_seen 50 = .ok (.ireturn, 1) := by decide +kernel
theorem dX12_seen_51 : decode cX12_seen 51 = .ok (.aload_n 0, 1) := by decide +kernel
theorem dX12_seen_52 : decode cX12_seen 52 = .ok (.getfield 20, 3) := by decide +kernel
theorem dX12_seen_55 : decode cX12_seen 55 = .ok (.aload_n 0, 1) := by decide +kernel
theorem dX12_seen_56 : decode cX12_seen 56 = .ok (.getfield 166, 3) := by decide +kernel
theorem dX12_seen_59 : decode cX12_seen 59 = .ok (.iload_n 1, 1) := by decide +kernel
theorem dX12_seen_60 : decode cX12_seen 60 = .ok (.iastore, 1) := by decide +kernel
theorem dX12_seen_61 : decode cX12_seen 61 = .ok (.aload_n 0, 1) := by decide +kernel
theorem dX12_seen_62 : decode cX12_seen 62 = .ok (.getfield 23, 3) := by decide +kernel
theorem dX12_seen_65 : decode cX12_seen 65 = .ok (.aload_n 0, 1) := by decide +kernel
theorem dX12_seen_66 : decode cX12_seen 66 = .ok (.getfield 166, 3) := by decide +kernel
theorem dX12_seen_69 : decode cX12_seen 69 = .ok (.iload_n 2, 1) := by decide +kernel
theorem dX12_seen_70 : decode cX12_seen 70 = .ok (.iastore, 1) := by decide +kernel
theorem dX12_seen_71 : decode cX12_seen 71 = .ok (.aload_n 0, 1) := by decide +kernel
theorem dX12_seen_72 : decode cX12_seen 72 = .ok (.getfield 26, 3) := by decide +kernel
theorem dX12_seen_75 : decode cX12_seen 75 = .ok (.aload_n 0, 1) := by decide +kernel
theorem dX12_seen_76 : decode cX12_seen 76 = .ok (.getfield 166, 3) := by decide +kernel
theorem dX12_seen_79 : decode cX12_seen 79 = .ok (.iload_n 3, 1) := by decide +kernel
theorem dX12_seen_80 : decode cX12_seen 80 = .ok (.iastore, 1) := by decide +kernel
theorem dX12_seen_81 : decode cX12_seen 81 = .ok (.aload_n 0, 1) := by decide +kernel
theorem dX12_seen_82 : decode cX12_seen 82 = .ok (.dup, 1) := by decide +kernel
theorem dX12_seen_83 : decode cX12_seen 83 = .ok (.getfield 166, 3) := by decide +kernel
theorem dX12_seen_86 : decode cX12_seen 86 = .ok (.iconst 1, 1) := by decide +kernel
theorem dX12_seen_87 : decode cX12_seen 87 = .ok (.iadd, 1) := by decide +kernel
theorem dX12_seen_88 : decode cX12_seen 88 = .ok (.putfield 166, 3) := by decide +kernel
theorem dX12_seen_91 : decode cX12_seen 91 = .ok (.aload_n 0, 1) := by decide +kernel
theorem dX12_seen_92 : decode cX12_seen 92 = .ok (.getfield 166, 3) := by decide +kernel
theorem dX12_seen_95 : decode cX12_seen 95 = .ok (.ireturn, 1) := by decide +kernel
theorem dX12_forget_0 : decode cX12_forget 0 = .ok (.aload_n 0, 1) := by decide +kernel
theorem dX12_forget_1 : decode cX12_forget 1 = .ok (.getfield 166, 3) := by decide +kernel
theorem dX12_forget_4 : decode cX12_forget 4 = .ok (.istore_n 1, 1) := by decide +kernel
theorem dX12_forget_5 : decode cX12_forget 5 = .ok (.aload_n 0, 1) := by decide +kernel
theorem dX12_forget_6 : decode cX12_forget 6 = .ok (.iconst 0, 1) := by decide +kernel
theorem dX12_forget_7 : decode cX12_forget 7 = .ok (.putfield 166, 3) := by decide +kernel
theorem dX12_forget_10 : decode cX12_forget 10 = .ok (.iload_n 1, 1) := by decide +kernel
theorem dX12_forget_11 : decode cX12_forget 11 = .ok (.ireturn, 1) := by decide +kernel
theorem dX12_kinds_0 : decode cX12_kinds 0 = .ok (.iconst 0, 1) := by decide +kernel
theorem dX12_kinds_1 : decode cX12_kinds 1 = .ok (.istore_n 1, 1) := by decide +kernel
theorem dX12_kinds_2 : decode cX12_kinds 2 = .ok (.iconst 0, 1) := by decide +kernel
theorem dX12_kinds_3 : decode cX12_kinds 3 = .ok (.istore_n 2, 1) := by decide +kernel
theorem dX12_kinds_4 : decode cX12_kinds 4 = .ok (.iload_n 2, 1) := by decide +kernel
theorem dX12_kinds_5 : decode cX12_kinds 5 = .ok (.iconst 5, 1) := by decide +kernel
theorem dX12_kinds_6 : decode cX12_kinds 6 = .ok (.if_icmp .ge 95, 3) := by decide +kernel
theorem dX12_kinds_9 : decode cX12_kinds 9 = .ok (.iconst 1, 1) := by decide +kernel
theorem dX12_kinds_10 : decode cX12_kinds 10 = .ok (.istore_n 3, 1) := by decide +kernel
theorem dX12_kinds_11 : decode cX12_kinds 11 = .ok (.iconst 0, 1) := by decide +kernel
theorem dX12_kinds_12 : decode cX12_kinds 12 = .ok (.istore 4, 2) := by decide +kernel
theorem dX12_kinds_14 : decode cX12_kinds 14 = .ok (.iload 4, 2) := by decide +kernel
theorem dX12_kinds_16 : decode cX12_kinds 16 = .ok (.aload_n 0, 1) := by decide +kernel
theorem dX12_kinds_17 : decode cX12_kinds 17 = .ok (.getfield 166, 3) := by decide +kernel
theorem dX12_kinds_20 : decode cX12_kinds 20 = .ok (.if_icmp .ge 61, 3) := by decide +kernel
theorem dX12_kinds_23 : decode cX12_kinds 23 = .ok (.iload_n 3, 1) := by decide +kernel
theorem dX12_kinds_24 : decode cX12_kinds 24 = .ok (.ifCond .eq 49, 3) := by decide +kernel
theorem dX12_kinds_27 : decode cX12_kinds 27 = .ok (.iload_n 2, 1) := by decide +kernel
theorem dX12_kinds_28 : decode cX12_kinds 28 = .ok (.aload_n 0, 1) := by decide +kernel
theorem dX12_kinds_29 : decode cX12_kinds 29 = .ok (.getfield 20, 3) := by decide +kernel
theorem dX12_kinds_32 : decode cX12_kinds 32 = .ok (.iload 4, 2) := by decide +kernel
theorem dX12_kinds_34 : decode cX12_kinds 34 = .ok (.iaload, 1) := by decide +kernel
theorem dX12_kinds_35 : decode cX12_kinds 35 = .ok (.invokestatic 180, 3) := by decide +kernel
theorem dX12_kinds_38 : decode cX12_kinds 38 = .ok (.aload_n 0, 1) := by decide +kernel
theorem dX12_kinds_39 : decode cX12_kinds 39 = .ok (.getfield 23, 3) := by decide +kernel
theorem dX12_kinds_42 : decode cX12_kinds 42 = .ok (.iload 4, 2) := by decide +kernel
theorem dX12_kinds_44 : decode cX12_kinds 44 = .ok (.iaload, 1) := by decide +kernel
theorem dX12_kinds_45 : decode cX12_kinds 45 = .ok (.if_icmp .ne 28, 3) := by decide +kernel
theorem dX12_kinds_48 : decode cX12_kinds 48 = .ok (.iload_n 2, 1) := by decide +kernel
theorem dX12_kinds_49 : decode cX12_kinds 49 = .ok (.aload_n 0, 1) := by decide +kernel
theorem dX12_kinds_50 : decode cX12_kinds 50 = .ok (.getfield 20, 3) := by decide +kernel
theorem dX12_kinds_53 : decode cX12_kinds 53 = .ok (.iload 4, 2) := by decide +kernel
theorem dX12_kinds_55 : decode cX12_kinds 55 = .ok (.iaload, 1) := by decide +kernel
theorem dX12_kinds_56 : decode cX12_kinds 56 = .ok (.invokestatic 206, 3) := by decide +kernel
theorem dX12_kinds_59 : decode cX12_kinds 59 = .ok (.aload_n 0, 1) := by decide +kernel
theorem dX12_kinds_60 : decode cX12_kinds 60 = .ok (.getfield 26, 3) := by decide +kernel
theorem dX12_kinds_63 : decode cX12_kinds 63 = .ok (.iload 4, 2) := by decide +kernel
theorem dX12_kinds_65 : decode cX12_kinds 65 = .ok (.iaload, 1) := by decide +kernel
theorem dX12_kinds_66 : decode cX12_kinds 66 = .ok (.if_icmp .ne 7, 3) := by decide +kernel
theorem dX12_kinds_69 : decode cX12_kinds 69 = .ok (.iconst 1, 1) := by decide +kernel
theorem dX12_kinds_70 : decode cX12_kinds 70 = .ok (.goto 4, 3) := by decide +kernel
theorem dX12_kinds_73 : decode cX12_kinds 73 = .ok (.iconst 0, 1) := by decide +kernel
theorem dX12_kinds_74 : decode cX12_kinds 74 = .ok (.istore_n 3, 1) := by decide +kernel
theorem dX12_kinds_75 : decode cX12_kinds 75 = .ok (.iinc 4 1, 3) := by decide +kernel
theorem dX12_kinds_78 : decode cX12_kinds 78 = .ok (.goto (-64), 3) := by decide +kernel
theorem dX12_kinds_81 : decode cX12_kinds 81 = .ok (.iload_n 1, 1) := by decide +kernel
theorem dX12_kinds_82 : decode cX12_kinds 82 = .ok (.iload_n 3, 1) := by decide +kernel
theorem dX12_kinds_83 : decode cX12_kinds 83 = .ok (.ifCond .eq 9, 3) := by decide +kernel
theorem dX12_kinds_86 : decode cX12_kinds 86 = .ok (.iconst 1, 1) := by decide +kernel
theorem dX12_kinds_87 : decode cX12_kinds 87 = .ok (.iload_n 2, 1) := by decide +kernel
theorem dX12_kinds_88 : decode cX12_kinds 88 = .ok (.ishl, 1) := by decide +kernel
theorem dX12_kinds_89 : decode cX12_kinds 89 = .ok (.goto 4, 3) := by decide +kernel
theorem dX12_kinds_92 : decode cX12_kinds 92 = .ok (.iconst 0, 1) := by decide +kernel
theorem dX12_kinds_93 : decode cX12_kinds 93 = .ok (.ior, 1) := by decide +kernel
theorem dX12_kinds_94 : decode cX12_kinds 94 = .ok (.istore_n 1, 1) := by decide +kernel
theorem dX12_kinds_95 : decode cX12_kinds 95 = .ok (.iinc 2 1, 3) := by decide +kernel
theorem dX12_kinds_98 : decode cX12_kinds 98 = .ok (.goto (-94), 3) := by decide +kernel
theorem dX12_kinds_101 : decode cX12_kinds 101 = .ok (.iload_n 1, 1) := by decide +kernel
theorem dX12_kinds_102 : decode cX12_kinds 102 = .ok (.ireturn, 1) := by decide +kernel
theorem dX12_greatestPart_0 : decode cX12_greatestPart 0 = .ok (.iconst 0, 1) := by decide +kernel
theorem dX12_greatestPart_1 : decode cX12_greatestPart 1 = .ok (.istore_n 2, 1) := by decide +kernel
theorem dX12_greatestPart_2 : decode cX12_greatestPart 2 = .ok (.iconst 0, 1) := by decide +kernel
theorem dX12_greatestPart_3 : decode cX12_greatestPart 3 = .ok (.istore_n 3, 1) := by decide +kernel
theorem dX12_greatestPart_4 : decode cX12_greatestPart 4 = .ok (.iload_n 3, 1) := by decide +kernel
theorem dX12_greatestPart_5 : decode cX12_greatestPart 5 = .ok (.iconst 5, 1) := by decide +kernel
theorem dX12_greatestPart_6 : decode cX12_greatestPart 6 = .ok (.if_icmp .ge 95, 3) := by decide +kernel
theorem dX12_greatestPart_9 : decode cX12_greatestPart 9 = .ok (.iconst 0, 1) := by decide +kernel
theorem dX12_greatestPart_10 : decode cX12_greatestPart 10 = .ok (.istore 4, 2) := by decide +kernel
theorem dX12_greatestPart_12 : decode cX12_greatestPart 12 = .ok (.iconst 0, 1) := by decide +kernel
theorem dX12_greatestPart_13 : decode cX12_greatestPart 13 = .ok (.istore 5, 2) := by decide +kernel
theorem dX12_greatestPart_15 : decode cX12_greatestPart 15 = .ok (.iload 5, 2) := by decide +kernel
theorem dX12_greatestPart_17 : decode cX12_greatestPart 17 = .ok (.iconst 5, 1) := by decide +kernel
theorem dX12_greatestPart_18 : decode cX12_greatestPart 18 = .ok (.if_icmp .ge 64, 3) := by decide +kernel
theorem dX12_greatestPart_21 : decode cX12_greatestPart 21 = .ok (.iload 4, 2) := by decide +kernel
theorem dX12_greatestPart_23 : decode cX12_greatestPart 23 = .ok (.iload_n 0, 1) := by decide +kernel
theorem dX12_greatestPart_24 : decode cX12_greatestPart 24 = .ok (.iload_n 3, 1) := by decide +kernel
theorem dX12_greatestPart_25 : decode cX12_greatestPart 25 = .ok (.invokestatic 188, 3) := by decide +kernel
theorem dX12_greatestPart_28 : decode cX12_greatestPart 28 = .ok (.ifCond .eq 44, 3) := by decide +kernel
theorem dX12_greatestPart_31 : decode cX12_greatestPart 31 = .ok (.iload_n 0, 1) := by decide +kernel
theorem dX12_greatestPart_32 : decode cX12_greatestPart 32 = .ok (.iload 5, 2) := by decide +kernel
theorem dX12_greatestPart_34 : decode cX12_greatestPart 34 = .ok (.invokestatic 188, 3) := by decide +kernel
theorem dX12_greatestPart_37 : decode cX12_greatestPart 37 = .ok (.ifCond .eq 35, 3) := by decide +kernel
theorem dX12_greatestPart_40 : decode cX12_greatestPart 40 = .ok (.iload_n 3, 1) := by decide +kernel
theorem dX12_greatestPart_41 : decode cX12_greatestPart 41 = .ok (.iload_n 1, 1) := by decide +kernel
theorem dX12_greatestPart_42 : decode cX12_greatestPart 42 = .ok (.invokestatic 180, 3) := by decide +kernel
theorem dX12_greatestPart_45 : decode cX12_greatestPart 45 = .ok (.iload 5, 2) := by decide +kernel
theorem dX12_greatestPart_47 : decode cX12_greatestPart 47 = .ok (.iload_n 1, 1) := by decide +kernel
theorem dX12_greatestPart_48 : decode cX12_greatestPart 48 = .ok (.invokestatic 180, 3) := by decide +kernel
theorem dX12_greatestPart_51 : decode cX12_greatestPart 51 = .ok (.if_icmp .ne 21, 3) := by decide +kernel
theorem dX12_greatestPart_54 : decode cX12_greatestPart 54 = .ok (.iload_n 3, 1) := by decide +kernel
theorem dX12_greatestPart_55 : decode cX12_greatestPart 55 = .ok (.iload_n 1, 1) := by decide +kernel
theorem dX12_greatestPart_56 : decode cX12_greatestPart 56 = .ok (.invokestatic 206, 3) := by decide +kernel
theorem dX12_greatestPart_59 : decode cX12_greatestPart 59 = .ok (.iload 5, 2) := by decide +kernel
theorem dX12_greatestPart_61 : decode cX12_greatestPart 61 = .ok (.iload_n 1, 1) := by decide +kernel
theorem dX12_greatestPart_62 : decode cX12_greatestPart 62 = .ok (.invokestatic 206, 3) := by decide +kernel
theorem dX12_greatestPart_65 : decode cX12_greatestPart 65 = .ok (.if_icmp .ne 7, 3) := by decide +kernel
theorem dX12_greatestPart_68 : decode cX12_greatestPart 68 = .ok (.iconst 1, 1) := by decide +kernel
theorem dX12_greatestPart_69 : decode cX12_greatestPart 69 = .ok (.goto 4, 3) := by decide +kernel
theorem dX12_greatestPart_72 : decode cX12_greatestPart 72 = .ok (.iconst 0, 1) := by decide +kernel
theorem dX12_greatestPart_73 : decode cX12_greatestPart 73 = .ok (.iadd, 1) := by decide +kernel
theorem dX12_greatestPart_74 : decode cX12_greatestPart 74 = .ok (.istore 4, 2) := by decide +kernel
theorem dX12_greatestPart_76 : decode cX12_greatestPart 76 = .ok (.iinc 5 1, 3) := by decide +kernel
theorem dX12_greatestPart_79 : decode cX12_greatestPart 79 = .ok (.goto (-64), 3) := by decide +kernel
theorem dX12_greatestPart_82 : decode cX12_greatestPart 82 = .ok (.iload 4, 2) := by decide +kernel
theorem dX12_greatestPart_84 : decode cX12_greatestPart 84 = .ok (.iload_n 2, 1) := by decide +kernel
theorem dX12_greatestPart_85 : decode cX12_greatestPart 85 = .ok (.if_icmp .le 8, 3) := by decide +kernel
theorem dX12_greatestPart_88 : decode cX12_greatestPart 88 = .ok (.iload 4, 2) := by decide +kernel
theorem dX12_greatestPart_90 : decode cX12_greatestPart 90 = .ok (.goto 4, 3) := by decide +kernel
theorem dX12_greatestPart_93 : decode cX12_greatestPart 93 = .ok (.iload_n 2, 1) := by decide +kernel
theorem dX12_greatestPart_94 : decode cX12_greatestPart 94 = .ok (.istore_n 2, 1) := by decide +kernel
theorem dX12_greatestPart_95 : decode cX12_greatestPart 95 = .ok (.iinc 3 1, 3) := by decide +kernel
theorem dX12_greatestPart_98 : decode cX12_greatestPart 98 = .ok (.goto (-94), 3) := by decide +kernel
theorem dX12_greatestPart_101 : decode cX12_greatestPart 101 = .ok (.iload_n 2, 1) := by decide +kernel
theorem dX12_greatestPart_102 : decode cX12_greatestPart 102 = .ok (.ireturn, 1) := by decide +kernel
theorem dX12_ask_0 : decode cX12_ask 0 = .ok (.aload_n 0, 1) := by decide +kernel
theorem dX12_ask_1 : decode cX12_ask 1 = .ok (.invokevirtual 270, 3) := by decide +kernel
theorem dX12_ask_4 : decode cX12_ask 4 = .ok (.istore_n 1, 1) := by decide +kernel
theorem dX12_ask_5 : decode cX12_ask 5 = .ok (.iconst (-1), 1) := by decide +kernel
theorem dX12_ask_6 : decode cX12_ask 6 = .ok (.istore_n 2, 1) := by decide +kernel
theorem dX12_ask_7 : decode cX12_ask 7 = .ok (.iload_n 1, 1) := by decide +kernel
theorem dX12_ask_8 : decode cX12_ask 8 = .ok (.invokestatic 261, 3) := by decide +kernel
theorem dX12_ask_11 : decode cX12_ask 11 = .ok (.istore_n 3, 1) := by decide +kernel
theorem dX12_ask_12 : decode cX12_ask 12 = .ok (.iconst 1, 1) := by decide +kernel
theorem dX12_ask_13 : decode cX12_ask 13 = .ok (.istore 4, 2) := by decide +kernel
theorem dX12_ask_15 : decode cX12_ask 15 = .ok (.iload 4, 2) := by decide +kernel
theorem dX12_ask_17 : decode cX12_ask 17 = .ok (.bipush 10, 2) := by decide +kernel
theorem dX12_ask_19 : decode cX12_ask 19 = .ok (.if_icmp .ge 43, 3) := by decide +kernel
theorem dX12_ask_22 : decode cX12_ask 22 = .ok (.iload_n 1, 1) := by decide +kernel
theorem dX12_ask_23 : decode cX12_ask 23 = .ok (.iload 4, 2) := by decide +kernel
theorem dX12_ask_25 : decode cX12_ask 25 = .ok (.invokestatic 273, 3) := by decide +kernel
theorem dX12_ask_28 : decode cX12_ask 28 = .ok (.istore 5, 2) := by decide +kernel
theorem dX12_ask_30 : decode cX12_ask 30 = .ok (.iload 5, 2) := by decide +kernel
theorem dX12_ask_32 : decode cX12_ask 32 = .ok (.iload_n 3, 1) := by decide +kernel
theorem dX12_ask_33 : decode cX12_ask 33 = .ok (.if_icmp .ge 8, 3) := by decide +kernel
theorem dX12_ask_36 : decode cX12_ask 36 = .ok (.iload 4, 2) := by decide +kernel
theorem dX12_ask_38 : decode cX12_ask 38 = .ok (.goto 4, 3) := by decide +kernel
theorem dX12_ask_41 : decode cX12_ask 41 = .ok (.iload_n 2, 1) := by decide +kernel
theorem dX12_ask_42 : decode cX12_ask 42 = .ok (.istore_n 2, 1) := by decide +kernel
theorem dX12_ask_43 : decode cX12_ask 43 = .ok (.iload 5, 2) := by decide +kernel
theorem dX12_ask_45 : decode cX12_ask 45 = .ok (.iload_n 3, 1) := by decide +kernel
theorem dX12_ask_46 : decode cX12_ask 46 = .ok (.if_icmp .ge 8, 3) := by decide +kernel
theorem dX12_ask_49 : decode cX12_ask 49 = .ok (.iload 5, 2) := by decide +kernel
theorem dX12_ask_51 : decode cX12_ask 51 = .ok (.goto 4, 3) := by decide +kernel
theorem dX12_ask_54 : decode cX12_ask 54 = .ok (.iload_n 3, 1) := by decide +kernel
theorem dX12_ask_55 : decode cX12_ask 55 = .ok (.istore_n 3, 1) := by decide +kernel
theorem dX12_ask_56 : decode cX12_ask 56 = .ok (.iinc 4 1, 3) := by decide +kernel
theorem dX12_ask_59 : decode cX12_ask 59 = .ok (.goto (-44), 3) := by decide +kernel
theorem dX12_ask_62 : decode cX12_ask 62 = .ok (.iload_n 2, 1) := by decide +kernel
theorem dX12_ask_63 : decode cX12_ask 63 = .ok (.ireturn, 1) := by decide +kernel
theorem dX12_isBook_0 : decode cX12_isBook 0 = .ok (.iload_n 0, 1) := by decide +kernel
theorem dX12_isBook_1 : decode cX12_isBook 1 = .ok (.i2l, 1) := by decide +kernel
theorem dX12_isBook_2 : decode cX12_isBook 2 = .ok (.lconst 0, 1) := by decide +kernel
theorem dX12_isBook_3 : decode cX12_isBook 3 = .ok (.ldc2_w 276, 3) := by decide +kernel
theorem dX12_isBook_6 : decode cX12_isBook 6 = .ok (.invokestatic 79, 3) := by decide +kernel
theorem dX12_isBook_9 : decode cX12_isBook 9 = .ok (.ireturn, 1) := by decide +kernel
theorem dX12_book_0 : decode cX12_book 0 = .ok (.iload_n 1, 1) := by decide +kernel
theorem dX12_book_1 : decode cX12_book 1 = .ok (.invokestatic 278, 3) := by decide +kernel
theorem dX12_book_4 : decode cX12_book 4 = .ok (.ifCond .ne 6, 3) := by decide +kernel
theorem dX12_book_7 : decode cX12_book 7 = .ok (.bipush (-2), 2) := by decide +kernel
theorem dX12_book_9 : decode cX12_book 9 = .ok (.ireturn, 1) := by decide +kernel
theorem dX12_book_10 : decode cX12_book 10 = .ok (.iload_n 2, 1) := by decide +kernel
theorem dX12_book_11 : decode cX12_book 11 = .ok (.bipush 10, 2) := by decide +kernel
theorem dX12_book_13 : decode cX12_book 13 = .ok (.if_icmp .le 6, 3) := by decide +kernel
theorem dX12_book_16 : decode cX12_book 16 = .ok (.bipush (-3), 2) := by decide +kernel
theorem dX12_book_18 : decode cX12_book 18 = .ok (.ireturn, 1) := by decide +kernel
theorem dX12_book_19 : decode cX12_book 19 = .ok (.iload_n 2, 1) := by decide +kernel
theorem dX12_book_20 : decode cX12_book 20 = .ok (.ifCond .ge 6, 3) := by decide +kernel
theorem dX12_book_23 : decode cX12_book 23 = .ok (.bipush (-15), 2) := by decide +kernel
theorem dX12_book_25 : decode cX12_book 25 = .ok (.ireturn, 1) := by decide +kernel
theorem dX12_book_26 : decode cX12_book 26 = .ok (.aload_n 0, 1) := by decide +kernel
theorem dX12_book_27 : decode cX12_book 27 = .ok (.getfield 29, 3) := by decide +kernel
theorem dX12_book_30 : decode cX12_book 30 = .ok (.iload_n 1, 1) := by decide +kernel
theorem dX12_book_31 : decode cX12_book 31 = .ok (.iload_n 2, 1) := by decide +kernel
theorem dX12_book_32 : decode cX12_book 32 = .ok (.iastore, 1) := by decide +kernel
theorem dX12_book_33 : decode cX12_book 33 = .ok (.iconst 0, 1) := by decide +kernel
theorem dX12_book_34 : decode cX12_book 34 = .ok (.istore_n 3, 1) := by decide +kernel
theorem dX12_book_35 : decode cX12_book 35 = .ok (.iload_n 3, 1) := by decide +kernel
theorem dX12_book_36 : decode cX12_book 36 = .ok (.bipush 10, 2) := by decide +kernel
theorem dX12_book_38 : decode cX12_book 38 = .ok (.if_icmp .ge 21, 3) := by decide +kernel
theorem dX12_book_41 : decode cX12_book 41 = .ok (.aload_n 0, 1) := by decide +kernel
theorem dX12_book_42 : decode cX12_book 42 = .ok (.getfield 32, 3) := by decide +kernel
theorem dX12_book_45 : decode cX12_book 45 = .ok (.bipush 10, 2) := by decide +kernel
theorem dX12_book_47 : decode cX12_book 47 = .ok (.iload_n 1, 1) := by decide +kernel
theorem dX12_book_48 : decode cX12_book 48 = .ok (.imul, 1) := by decide +kernel
theorem dX12_book_49 : decode cX12_book 49 = .ok (.iload_n 3, 1) := by decide +kernel
theorem dX12_book_50 : decode cX12_book 50 = .ok (.iadd, 1) := by decide +kernel
theorem dX12_book_51 : decode cX12_book 51 = .ok (.iconst (-1), 1) := by decide +kernel
theorem dX12_book_52 : decode cX12_book 52 = .ok (.iastore, 1) := by decide +kernel
theorem dX12_book_53 : decode cX12_book 53 = .ok (.iinc 3 1, 3) := by decide +kernel
theorem dX12_book_56 : decode cX12_book 56 = .ok (.goto (-21), 3) := by decide +kernel
theorem dX12_book_59 : decode cX12_book 59 = .ok (.iload_n 2, 1) := by decide +kernel
theorem dX12_book_60 : decode cX12_book 60 = .ok (.ireturn, 1) := by decide +kernel
theorem dX12_noLine_0 : decode cX12_noLine 0 = .ok (.aload_n 0, 1) := by decide +kernel
theorem dX12_noLine_1 : decode cX12_noLine 1 = .ok (.getfield 29, 3) := by decide +kernel
theorem dX12_noLine_4 : decode cX12_noLine 4 = .ok (.iload_n 1, 1) := by decide +kernel
theorem dX12_noLine_5 : decode cX12_noLine 5 = .ok (.iaload, 1) := by decide +kernel
theorem dX12_noLine_6 : decode cX12_noLine 6 = .ok (.ifCond .ge 8, 3) := by decide +kernel
theorem dX12_noLine_9 : decode cX12_noLine 9 = .ok (.bipush (-11), 2) := by decide +kernel
theorem dX12_noLine_11 : decode cX12_noLine 11 = .ok (.goto 27, 3) := by decide +kernel
theorem dX12_noLine_14 : decode cX12_noLine 14 = .ok (.iload_n 2, 1) := by decide +kernel
theorem dX12_noLine_15 : decode cX12_noLine 15 = .ok (.i2l, 1) := by decide +kernel
theorem dX12_noLine_16 : decode cX12_noLine 16 = .ok (.lconst 0, 1) := by decide +kernel
theorem dX12_noLine_17 : decode cX12_noLine 17 = .ok (.aload_n 0, 1) := by decide +kernel
theorem dX12_noLine_18 : decode cX12_noLine 18 = .ok (.getfield 29, 3) := by decide +kernel
theorem dX12_noLine_21 : decode cX12_noLine 21 = .ok (.iload_n 1, 1) := by decide +kernel
theorem dX12_noLine_22 : decode cX12_noLine 22 = .ok (.iaload, 1) := by decide +kernel
theorem dX12_noLine_23 : decode cX12_noLine 23 = .ok (.iconst 1, 1) := by decide +kernel
theorem dX12_noLine_24 : decode cX12_noLine 24 = .ok (.isub, 1) := by decide +kernel
theorem dX12_noLine_25 : decode cX12_noLine 25 = .ok (.i2l, 1) := by decide +kernel
theorem dX12_noLine_26 : decode cX12_noLine 26 = .ok (.invokestatic 79, 3) := by decide +kernel
theorem dX12_noLine_29 : decode cX12_noLine 29 = .ok (.ifCond .eq 7, 3) := by decide +kernel
theorem dX12_noLine_32 : decode cX12_noLine 32 = .ok (.iconst 0, 1) := by decide +kernel
theorem dX12_noLine_33 : decode cX12_noLine 33 = .ok (.goto 5, 3) := by decide +kernel
theorem dX12_noLine_36 : decode cX12_noLine 36 = .ok (.bipush (-12), 2) := by decide +kernel
theorem dX12_noLine_38 : decode cX12_noLine 38 = .ok (.ireturn, 1) := by decide +kernel
theorem dX12_enter_0 : decode cX12_enter 0 = .ok (.iload_n 1, 1) := by decide +kernel
theorem dX12_enter_1 : decode cX12_enter 1 = .ok (.invokestatic 278, 3) := by decide +kernel
theorem dX12_enter_4 : decode cX12_enter 4 = .ok (.ifCond .eq 30, 3) := by decide +kernel
theorem dX12_enter_7 : decode cX12_enter 7 = .ok (.iload_n 3, 1) := by decide +kernel
theorem dX12_enter_8 : decode cX12_enter 8 = .ok (.iconst 1, 1) := by decide +kernel
theorem dX12_enter_9 : decode cX12_enter 9 = .ok (.if_icmp .ne 12, 3) := by decide +kernel
theorem dX12_enter_12 : decode cX12_enter 12 = .ok (.aload_n 0, 1) := by decide +kernel
theorem dX12_enter_13 : decode cX12_enter 13 = .ok (.iload 4, 2) := by decide +kernel
theorem dX12_enter_15 : decode cX12_enter 15 = .ok (.invokevirtual 169, 3) := by decide +kernel
theorem dX12_enter_18 : decode cX12_enter 18 = .ok (.ifCond .eq 16, 3) := by decide +kernel
theorem dX12_enter_21 : decode cX12_enter 21 = .ok (.iload_n 3, 1) := by decide +kernel
theorem dX12_enter_22 : decode cX12_enter 22 = .ok (.iconst 2, 1) := by decide +kernel
theorem dX12_enter_23 : decode cX12_enter 23 = .ok (.if_icmp .ne 14, 3) := by decide +kernel
theorem dX12_enter_26 : decode cX12_enter 26 = .ok (.iload 4, 2) := by decide +kernel
theorem dX12_enter_28 : decode cX12_enter 28 = .ok (.invokestatic 278, 3) := by decide +kernel
theorem dX12_enter_31 : decode cX12_enter 31 = .ok (.ifCond .ne 6, 3) := by decide +kernel
theorem dX12_enter_34 : decode cX12_enter 34 = .ok (.bipush (-2), 2) := by decide +kernel
theorem dX12_enter_36 : decode cX12_enter 36 = .ok (.ireturn, 1) := by decide +kernel
theorem dX12_enter_37 : decode cX12_enter 37 = .ok (.iload_n 3, 1) := by decide +kernel
theorem dX12_enter_38 : decode cX12_enter 38 = .ok (.i2l, 1) := by decide +kernel
theorem dX12_enter_39 : decode cX12_enter 39 = .ok (.lconst 0, 1) := by decide +kernel
theorem dX12_enter_40 : decode cX12_enter 40 = .ok (.ldc2_w 276, 3) := by decide +kernel
theorem dX12_enter_43 : decode cX12_enter 43 = .ok (.invokestatic 79, 3) := by decide +kernel
theorem dX12_enter_46 : decode cX12_enter 46 = .ok (.ifCond .eq 22, 3) := by decide +kernel
theorem dX12_enter_49 : decode cX12_enter 49 = .ok (.iload_n 3, 1) := by decide +kernel
theorem dX12_enter_50 : decode cX12_enter 50 = .ok (.ifCond .ne 21, 3) := by decide +kernel
theorem dX12_enter_53 : decode cX12_enter 53 = .ok (.iload 4, 2) := by decide +kernel
theorem dX12_enter_55 : decode cX12_enter 55 = .ok (.i2l, 1) := by decide +kernel
theorem dX12_enter_56 : decode cX12_enter 56 = .ok (.ldc2_w 281, 3) := by decide +kernel
theorem dX12_enter_59 : decode cX12_enter 59 = .ok (.ldc2_w 283, 3) := by decide +kernel
theorem dX12_enter_62 : decode cX12_enter 62 = .ok (.invokestatic 79, 3) := by decide +kernel
theorem dX12_enter_65 : decode cX12_enter 65 = .ok (.ifCond .ne 6, 3) := by decide +kernel
theorem dX12_enter_68 : decode cX12_enter 68 = .ok (.bipush (-3), 2) := by decide +kernel
theorem dX12_enter_70 : decode cX12_enter 70 = .ok (.ireturn, 1) := by decide +kernel
theorem dX12_enter_71 : decode cX12_enter 71 = .ok (.aload_n 0, 1) := by decide +kernel
theorem dX12_enter_72 : decode cX12_enter 72 = .ok (.iload_n 1, 1) := by decide +kernel
theorem dX12_enter_73 : decode cX12_enter 73 = .ok (.iload_n 2, 1) := by decide +kernel
theorem dX12_enter_74 : decode cX12_enter 74 = .ok (.invokevirtual 285, 3) := by decide +kernel
theorem dX12_enter_77 : decode cX12_enter 77 = .ok (.istore 5, 2) := by decide +kernel
theorem dX12_enter_79 : decode cX12_enter 79 = .ok (.iload 5, 2) := by decide +kernel
theorem dX12_enter_81 : decode cX12_enter 81 = .ok (.ifCond .eq 6, 3) := by decide +kernel
theorem dX12_enter_84 : decode cX12_enter 84 = .ok (.iload 5, 2) := by decide +kernel
theorem dX12_enter_86 : decode cX12_enter 86 = .ok (.ireturn, 1) := by decide +kernel
theorem dX12_enter_87 : decode cX12_enter 87 = .ok (.aload_n 0, 1) := by decide +kernel
theorem dX12_enter_88 : decode cX12_enter 88 = .ok (.getfield 32, 3) := by decide +kernel
theorem dX12_enter_91 : decode cX12_enter 91 = .ok (.bipush 10, 2) := by decide +kernel
theorem dX12_enter_93 : decode cX12_enter 93 = .ok (.iload_n 1, 1) := by decide +kernel
theorem dX12_enter_94 : decode cX12_enter 94 = .ok (.imul, 1) := by decide +kernel
theorem dX12_enter_95 : decode cX12_enter 95 = .ok (.iload_n 2, 1) := by decide +kernel
theorem dX12_enter_96 : decode cX12_enter 96 = .ok (.iadd, 1) := by decide +kernel
theorem dX12_enter_97 : decode cX12_enter 97 = .ok (.iload_n 3, 1) := by decide +kernel
theorem dX12_enter_98 : decode cX12_enter 98 = .ok (.iconst 3, 1) := by decide +kernel
theorem dX12_enter_99 : decode cX12_enter 99 = .ok (.if_icmp .ne 7, 3) := by decide +kernel
theorem dX12_enter_102 : decode cX12_enter 102 = .ok (.iconst (-1), 1) := by decide +kernel
theorem dX12_enter_103 : decode cX12_enter 103 = .ok (.goto 4, 3) := by decide +kernel
theorem dX12_enter_106 : decode cX12_enter 106 = .ok (.iload_n 3, 1) := by decide +kernel
theorem dX12_enter_107 : decode cX12_enter 107 = .ok (.iastore, 1) := by decide +kernel
theorem dX12_enter_108 : decode cX12_enter 108 = .ok (.aload_n 0, 1) := by decide +kernel
theorem dX12_enter_109 : decode cX12_enter 109 = .ok (.getfield 35, 3) := by decide +kernel
theorem dX12_enter_112 : decode cX12_enter 112 = .ok (.bipush 10, 2) := by decide +kernel
theorem dX12_enter_114 : decode cX12_enter 114 = .ok (.iload_n 1, 1) := by decide +kernel
theorem dX12_enter_115 : decode cX12_enter 115 = .ok (.imul, 1) := by decide +kernel
theorem dX12_enter_116 : decode cX12_enter 116 = .ok (.iload_n 2, 1) := by decide +kernel
theorem dX12_enter_117 : decode cX12_enter 117 = .ok (.iadd, 1) := by decide +kernel
theorem dX12_enter_118 : decode cX12_enter 118 = .ok (.iload 4, 2) := by decide +kernel
theorem dX12_enter_120 : decode cX12_enter 120 = .ok (.iastore, 1) := by decide +kernel
theorem dX12_enter_121 : decode cX12_enter 121 = .ok (.iconst 1, 1) := by decide +kernel
theorem dX12_enter_122 : decode cX12_enter 122 = .ok (.ireturn, 1) := by decide +kernel
theorem dX12_read_0 : decode cX12_read 0 = .ok (.iload_n 1, 1) := by decide +kernel
theorem dX12_read_1 : decode cX12_read 1 = .ok (.invokestatic 278, 3) := by decide +kernel
theorem dX12_read_4 : decode cX12_read 4 = .ok (.ifCond .ne 6, 3) := by decide +kernel
theorem dX12_read_7 : decode cX12_read 7 = .ok (.bipush (-2), 2) := by decide +kernel
theorem dX12_read_9 : decode cX12_read 9 = .ok (.ireturn, 1) := by decide +kernel
theorem dX12_read_10 : decode cX12_read 10 = .ok (.iload_n 3, 1) := by decide +kernel
theorem dX12_read_11 : decode cX12_read 11 = .ok (.i2l, 1) := by decide +kernel
theorem dX12_read_12 : decode cX12_read 12 = .ok (.lconst 0, 1) := by decide +kernel
theorem dX12_read_13 : decode cX12_read 13 = .ok (.ldc2_w 242, 3) := by decide +kernel
theorem dX12_read_16 : decode cX12_read 16 = .ok (.invokestatic 79, 3) := by decide +kernel
theorem dX12_read_19 : decode cX12_read 19 = .ok (.ifCond .ne 6, 3) := by decide +kernel
theorem dX12_read_22 : decode cX12_read 22 = .ok (.bipush (-3), 2) := by decide +kernel
theorem dX12_read_24 : decode cX12_read 24 = .ok (.ireturn, 1) := by decide +kernel
theorem dX12_read_25 : decode cX12_read 25 = .ok (.aload_n 0, 1) := by decide +kernel
theorem dX12_read_26 : decode cX12_read 26 = .ok (.iload_n 1, 1) := by decide +kernel
theorem dX12_read_27 : decode cX12_read 27 = .ok (.iload_n 2, 1) := by decide +kernel
theorem dX12_read_28 : decode cX12_read 28 = .ok (.invokevirtual 285, 3) := by decide +kernel
theorem dX12_read_31 : decode cX12_read 31 = .ok (.istore 4, 2) := by decide +kernel
theorem dX12_read_33 : decode cX12_read 33 = .ok (.iload 4, 2) := by decide +kernel
theorem dX12_read_35 : decode cX12_read 35 = .ok (.ifCond .eq 6, 3) := by decide +kernel
theorem dX12_read_38 : decode cX12_read 38 = .ok (.iload 4, 2) := by decide +kernel
theorem dX12_read_40 : decode cX12_read 40 = .ok (.ireturn, 1) := by decide +kernel
theorem dX12_read_41 : decode cX12_read 41 = .ok (.aload_n 0, 1) := by decide +kernel
theorem dX12_read_42 : decode cX12_read 42 = .ok (.getfield 32, 3) := by decide +kernel
theorem dX12_read_45 : decode cX12_read 45 = .ok (.bipush 10, 2) := by decide +kernel
theorem dX12_read_47 : decode cX12_read 47 = .ok (.iload_n 1, 1) := by decide +kernel
theorem dX12_read_48 : decode cX12_read 48 = .ok (.imul, 1) := by decide +kernel
theorem dX12_read_49 : decode cX12_read 49 = .ok (.iload_n 2, 1) := by decide +kernel
theorem dX12_read_50 : decode cX12_read 50 = .ok (.iadd, 1) := by decide +kernel
theorem dX12_read_51 : decode cX12_read 51 = .ok (.iaload, 1) := by decide +kernel
theorem dX12_read_52 : decode cX12_read 52 = .ok (.istore 5, 2) := by decide +kernel
theorem dX12_read_54 : decode cX12_read 54 = .ok (.iload 5, 2) := by decide +kernel
theorem dX12_read_56 : decode cX12_read 56 = .ok (.iconst (-1), 1) := by decide +kernel
theorem dX12_read_57 : decode cX12_read 57 = .ok (.if_icmp .ne 6, 3) := by decide +kernel
theorem dX12_read_60 : decode cX12_read 60 = .ok (.bipush (-13), 2) := by decide +kernel
theorem dX12_read_62 : decode cX12_read 62 = .ok (.ireturn, 1) := by decide +kernel
theorem dX12_read_63 : decode cX12_read 63 = .ok (.iload 5, 2) := by decide +kernel
theorem dX12_read_65 : decode cX12_read 65 = .ok (.iload_n 3, 1) := by decide +kernel
theorem dX12_read_66 : decode cX12_read 66 = .ok (.if_icmp .eq 8, 3) := by decide +kernel
theorem dX12_read_69 : decode cX12_read 69 = .ok (.bipush (-14), 2) := by decide +kernel
theorem dX12_read_71 : decode cX12_read 71 = .ok (.goto 36, 3) := by decide +kernel
theorem dX12_read_74 : decode cX12_read 74 = .ok (.iload_n 3, 1) := by decide +kernel
theorem dX12_read_75 : decode cX12_read 75 = .ok (.ifCond .ne 21, 3) := by decide +kernel
theorem dX12_read_78 : decode cX12_read 78 = .ok (.aload_n 0, 1) := by decide +kernel
theorem dX12_read_79 : decode cX12_read 79 = .ok (.getfield 35, 3) := by decide +kernel
theorem dX12_read_82 : decode cX12_read 82 = .ok (.bipush 10, 2) := by decide +kernel
theorem dX12_read_84 : decode cX12_read 84 = .ok (.iload_n 1, 1) := by decide +kernel
theorem dX12_read_85 : decode cX12_read 85 = .ok (.imul, 1) := by decide +kernel
theorem dX12_read_86 : decode cX12_read 86 = .ok (.iload_n 2, 1) := by decide +kernel
theorem dX12_read_87 : decode cX12_read 87 = .ok (.iadd, 1) := by decide +kernel
theorem dX12_read_88 : decode cX12_read 88 = .ok (.iaload, 1) := by decide +kernel
theorem dX12_read_89 : decode cX12_read 89 = .ok (.ldc_w 288, 3) := by decide +kernel
theorem dX12_read_92 : decode cX12_read 92 = .ok (.iadd, 1) := by decide +kernel
theorem dX12_read_93 : decode cX12_read 93 = .ok (.goto 14, 3) := by decide +kernel
theorem dX12_read_96 : decode cX12_read 96 = .ok (.aload_n 0, 1) := by decide +kernel
theorem dX12_read_97 : decode cX12_read 97 = .ok (.getfield 35, 3) := by decide +kernel
theorem dX12_read_100 : decode cX12_read 100 = .ok (.bipush 10, 2) := by decide +kernel
theorem dX12_read_102 : decode cX12_read 102 = .ok (.iload_n 1, 1) := by decide +kernel
theorem dX12_read_103 : decode cX12_read 103 = .ok (.imul, 1) := by decide +kernel
theorem dX12_read_104 : decode cX12_read 104 = .ok (.iload_n 2, 1) := by decide +kernel
theorem dX12_read_105 : decode cX12_read 105 = .ok (.iadd, 1) := by decide +kernel
theorem dX12_read_106 : decode cX12_read 106 = .ok (.iaload, 1) := by decide +kernel
theorem dX12_read_107 : decode cX12_read 107 = .ok (.ireturn, 1) := by decide +kernel
theorem dX12_toldBy_0 : decode cX12_toldBy 0 = .ok (.iconst 0, 1) := by decide +kernel
theorem dX12_toldBy_1 : decode cX12_toldBy 1 = .ok (.istore_n 2, 1) := by decide +kernel
theorem dX12_toldBy_2 : decode cX12_toldBy 2 = .ok (.iconst 0, 1) := by decide +kernel
theorem dX12_toldBy_3 : decode cX12_toldBy 3 = .ok (.istore_n 3, 1) := by decide +kernel
theorem dX12_toldBy_4 : decode cX12_toldBy 4 = .ok (.iload_n 3, 1) := by decide +kernel
theorem dX12_toldBy_5 : decode cX12_toldBy 5 = .ok (.aload_n 0, 1) := by decide +kernel
theorem dX12_toldBy_6 : decode cX12_toldBy 6 = .ok (.getfield 29, 3) := by decide +kernel
theorem dX12_toldBy_9 : decode cX12_toldBy 9 = .ok (.iload_n 1, 1) := by decide +kernel
theorem dX12_toldBy_10 : decode cX12_toldBy 10 = .ok (.iaload, 1) := by decide +kernel
theorem dX12_toldBy_11 : decode cX12_toldBy 11 = .ok (.if_icmp .ge 59, 3) := by decide +kernel
theorem dX12_toldBy_14 : decode cX12_toldBy 14 = .ok (.bipush 10, 2) := by decide +kernel
theorem dX12_toldBy_16 : decode cX12_toldBy 16 = .ok (.iload_n 1, 1) := by decide +kernel
theorem dX12_toldBy_17 : decode cX12_toldBy 17 = .ok (.imul, 1) := by decide +kernel
theorem dX12_toldBy_18 : decode cX12_toldBy 18 = .ok (.iload_n 3, 1) := by decide +kernel
theorem dX12_toldBy_19 : decode cX12_toldBy 19 = .ok (.iadd, 1) := by decide +kernel
theorem dX12_toldBy_20 : decode cX12_toldBy 20 = .ok (.istore 4, 2) := by decide +kernel
theorem dX12_toldBy_22 : decode cX12_toldBy 22 = .ok (.iload_n 2, 1) := by decide +kernel
theorem dX12_toldBy_23 : decode cX12_toldBy 23 = .ok (.aload_n 0, 1) := by decide +kernel
theorem dX12_toldBy_24 : decode cX12_toldBy 24 = .ok (.getfield 32, 3) := by decide +kernel
theorem dX12_toldBy_27 : decode cX12_toldBy 27 = .ok (.iload 4, 2) := by decide +kernel
theorem dX12_toldBy_29 : decode cX12_toldBy 29 = .ok (.iaload, 1) := by decide +kernel
theorem dX12_toldBy_30 : decode cX12_toldBy 30 = .ok (.iconst 2, 1) := by decide +kernel
theorem dX12_toldBy_31 : decode cX12_toldBy 31 = .ok (.if_icmp .ne 30, 3) := by decide +kernel
theorem dX12_toldBy_34 : decode cX12_toldBy 34 = .ok (.aload_n 0, 1) := by decide +kernel
theorem dX12_toldBy_35 : decode cX12_toldBy 35 = .ok (.getfield 29, 3) := by decide +kernel
theorem dX12_toldBy_38 : decode cX12_toldBy 38 = .ok (.aload_n 0, 1) := by decide +kernel
theorem dX12_toldBy_39 : decode cX12_toldBy 39 = .ok (.getfield 35, 3) := by decide +kernel
theorem dX12_toldBy_42 : decode cX12_toldBy 42 = .ok (.iload 4, 2) := by decide +kernel
theorem dX12_toldBy_44 : decode cX12_toldBy 44 = .ok (.iaload, 1) := by decide +kernel
theorem dX12_toldBy_45 : decode cX12_toldBy 45 = .ok (.iaload, 1) := by decide +kernel
theorem dX12_toldBy_46 : decode cX12_toldBy 46 = .ok (.ifCond .lt 15, 3) := by decide +kernel
theorem dX12_toldBy_49 : decode cX12_toldBy 49 = .ok (.iconst 1, 1) := by decide +kernel
theorem dX12_toldBy_50 : decode cX12_toldBy 50 = .ok (.aload_n 0, 1) := by decide +kernel
theorem dX12_toldBy_51 : decode cX12_toldBy 51 = .ok (.getfield 35, 3) := by decide +kernel
theorem dX12_toldBy_54 : decode cX12_toldBy 54 = .ok (.iload 4, 2) := by decide +kernel
theorem dX12_toldBy_56 : decode cX12_toldBy 56 = .ok (.iaload, 1) := by decide +kernel
theorem dX12_toldBy_57 : decode cX12_toldBy 57 = .ok (.ishl, 1) := by decide +kernel
theorem dX12_toldBy_58 : decode cX12_toldBy 58 = .ok (.goto 4, 3) := by decide +kernel
theorem dX12_toldBy_61 : decode cX12_toldBy 61 = .ok (.iconst 0, 1) := by decide +kernel
theorem dX12_toldBy_62 : decode cX12_toldBy 62 = .ok (.ior, 1) := by decide +kernel
theorem dX12_toldBy_63 : decode cX12_toldBy 63 = .ok (.istore_n 2, 1) := by decide +kernel
theorem dX12_toldBy_64 : decode cX12_toldBy 64 = .ok (.iinc 3 1, 3) := by decide +kernel
theorem dX12_toldBy_67 : decode cX12_toldBy 67 = .ok (.goto (-63), 3) := by decide +kernel
theorem dX12_toldBy_70 : decode cX12_toldBy 70 = .ok (.iload_n 2, 1) := by decide +kernel
theorem dX12_toldBy_71 : decode cX12_toldBy 71 = .ok (.ireturn, 1) := by decide +kernel
theorem dX12_weightOf_0 : decode cX12_weightOf 0 = .ok (.iconst 0, 1) := by decide +kernel
theorem dX12_weightOf_1 : decode cX12_weightOf 1 = .ok (.istore_n 2, 1) := by decide +kernel
theorem dX12_weightOf_2 : decode cX12_weightOf 2 = .ok (.iconst 0, 1) := by decide +kernel
theorem dX12_weightOf_3 : decode cX12_weightOf 3 = .ok (.istore_n 3, 1) := by decide +kernel
theorem dX12_weightOf_4 : decode cX12_weightOf 4 = .ok (.iload_n 3, 1) := by decide +kernel
theorem dX12_weightOf_5 : decode cX12_weightOf 5 = .ok (.aload_n 0, 1) := by decide +kernel
theorem dX12_weightOf_6 : decode cX12_weightOf 6 = .ok (.getfield 29, 3) := by decide +kernel
theorem dX12_weightOf_9 : decode cX12_weightOf 9 = .ok (.iload_n 1, 1) := by decide +kernel
theorem dX12_weightOf_10 : decode cX12_weightOf 10 = .ok (.iaload, 1) := by decide +kernel
theorem dX12_weightOf_11 : decode cX12_weightOf 11 = .ok (.if_icmp .ge 58, 3) := by decide +kernel
theorem dX12_weightOf_14 : decode cX12_weightOf 14 = .ok (.bipush 10, 2) := by decide +kernel
theorem dX12_weightOf_16 : decode cX12_weightOf 16 = .ok (.iload_n 1, 1) := by decide +kernel
theorem dX12_weightOf_17 : decode cX12_weightOf 17 = .ok (.imul, 1) := by decide +kernel
theorem dX12_weightOf_18 : decode cX12_weightOf 18 = .ok (.iload_n 3, 1) := by decide +kernel
theorem dX12_weightOf_19 : decode cX12_weightOf 19 = .ok (.iadd, 1) := by decide +kernel
theorem dX12_weightOf_20 : decode cX12_weightOf 20 = .ok (.istore 4, 2) := by decide +kernel
theorem dX12_weightOf_22 : decode cX12_weightOf 22 = .ok (.iload_n 2, 1) := by decide +kernel
theorem dX12_weightOf_23 : decode cX12_weightOf 23 = .ok (.aload_n 0, 1) := by decide +kernel
theorem dX12_weightOf_24 : decode cX12_weightOf 24 = .ok (.getfield 32, 3) := by decide +kernel
theorem dX12_weightOf_27 : decode cX12_weightOf 27 = .ok (.iload 4, 2) := by decide +kernel
theorem dX12_weightOf_29 : decode cX12_weightOf 29 = .ok (.iaload, 1) := by decide +kernel
theorem dX12_weightOf_30 : decode cX12_weightOf 30 = .ok (.ifCond .ne 13, 3) := by decide +kernel
theorem dX12_weightOf_33 : decode cX12_weightOf 33 = .ok (.aload_n 0, 1) := by decide +kernel
theorem dX12_weightOf_34 : decode cX12_weightOf 34 = .ok (.getfield 35, 3) := by decide +kernel
theorem dX12_weightOf_37 : decode cX12_weightOf 37 = .ok (.iload 4, 2) := by decide +kernel
theorem dX12_weightOf_39 : decode cX12_weightOf 39 = .ok (.iaload, 1) := by decide +kernel
theorem dX12_weightOf_40 : decode cX12_weightOf 40 = .ok (.goto 21, 3) := by decide +kernel
theorem dX12_weightOf_43 : decode cX12_weightOf 43 = .ok (.aload_n 0, 1) := by decide +kernel
theorem dX12_weightOf_44 : decode cX12_weightOf 44 = .ok (.getfield 32, 3) := by decide +kernel
theorem dX12_weightOf_47 : decode cX12_weightOf 47 = .ok (.iload 4, 2) := by decide +kernel
theorem dX12_weightOf_49 : decode cX12_weightOf 49 = .ok (.iaload, 1) := by decide +kernel
theorem dX12_weightOf_50 : decode cX12_weightOf 50 = .ok (.iconst 1, 1) := by decide +kernel
theorem dX12_weightOf_51 : decode cX12_weightOf 51 = .ok (.if_icmp .ne 9, 3) := by decide +kernel
theorem dX12_weightOf_54 : decode cX12_weightOf 54 = .ok (.sipush 1000, 3) := by decide +kernel
theorem dX12_weightOf_57 : decode cX12_weightOf 57 = .ok (.goto 4, 3) := by decide +kernel
theorem dX12_weightOf_60 : decode cX12_weightOf 60 = .ok (.iconst 0, 1) := by decide +kernel
theorem dX12_weightOf_61 : decode cX12_weightOf 61 = .ok (.iadd, 1) := by decide +kernel
theorem dX12_weightOf_62 : decode cX12_weightOf 62 = .ok (.istore_n 2, 1) := by decide +kernel
theorem dX12_weightOf_63 : decode cX12_weightOf 63 = .ok (.iinc 3 1, 3) := by decide +kernel
theorem dX12_weightOf_66 : decode cX12_weightOf 66 = .ok (.goto (-62), 3) := by decide +kernel
theorem dX12_weightOf_69 : decode cX12_weightOf 69 = .ok (.iload_n 2, 1) := by decide +kernel
theorem dX12_weightOf_70 : decode cX12_weightOf 70 = .ok (.ireturn, 1) := by decide +kernel
theorem dX12_weigh_0 : decode cX12_weigh 0 = .ok (.iload_n 1, 1) := by decide +kernel
theorem dX12_weigh_1 : decode cX12_weigh 1 = .ok (.invokestatic 278, 3) := by decide +kernel
theorem dX12_weigh_4 : decode cX12_weigh 4 = .ok (.ifCond .ne 6, 3) := by decide +kernel
theorem dX12_weigh_7 : decode cX12_weigh 7 = .ok (.bipush (-2), 2) := by decide +kernel
theorem dX12_weigh_9 : decode cX12_weigh 9 = .ok (.ireturn, 1) := by decide +kernel
theorem dX12_weigh_10 : decode cX12_weigh 10 = .ok (.iload_n 2, 1) := by decide +kernel
theorem dX12_weigh_11 : decode cX12_weigh 11 = .ok (.i2l, 1) := by decide +kernel
theorem dX12_weigh_12 : decode cX12_weigh 12 = .ok (.lconst 0, 1) := by decide +kernel
theorem dX12_weigh_13 : decode cX12_weigh 13 = .ok (.lconst 1, 1) := by decide +kernel
theorem dX12_weigh_14 : decode cX12_weigh 14 = .ok (.invokestatic 79, 3) := by decide +kernel
theorem dX12_weigh_17 : decode cX12_weigh 17 = .ok (.ifCond .ne 6, 3) := by decide +kernel
theorem dX12_weigh_20 : decode cX12_weigh 20 = .ok (.bipush (-3), 2) := by decide +kernel
theorem dX12_weigh_22 : decode cX12_weigh 22 = .ok (.ireturn, 1) := by decide +kernel
theorem dX12_weigh_23 : decode cX12_weigh 23 = .ok (.aload_n 0, 1) := by decide +kernel
theorem dX12_weigh_24 : decode cX12_weigh 24 = .ok (.getfield 29, 3) := by decide +kernel
theorem dX12_weigh_27 : decode cX12_weigh 27 = .ok (.iload_n 1, 1) := by decide +kernel
theorem dX12_weigh_28 : decode cX12_weigh 28 = .ok (.iaload, 1) := by decide +kernel
theorem dX12_weigh_29 : decode cX12_weigh 29 = .ok (.ifCond .ge 6, 3) := by decide +kernel
theorem dX12_weigh_32 : decode cX12_weigh 32 = .ok (.bipush (-11), 2) := by decide +kernel
theorem dX12_weigh_34 : decode cX12_weigh 34 = .ok (.ireturn, 1) := by decide +kernel
theorem dX12_weigh_35 : decode cX12_weigh 35 = .ok (.iconst 1, 1) := by decide +kernel
theorem dX12_weigh_36 : decode cX12_weigh 36 = .ok (.iload_n 1, 1) := by decide +kernel
theorem dX12_weigh_37 : decode cX12_weigh 37 = .ok (.ishl, 1) := by decide +kernel
theorem dX12_weigh_38 : decode cX12_weigh 38 = .ok (.istore_n 3, 1) := by decide +kernel
theorem dX12_weigh_39 : decode cX12_weigh 39 = .ok (.iconst 0, 1) := by decide +kernel
theorem dX12_weigh_40 : decode cX12_weigh 40 = .ok (.istore 4, 2) := by decide +kernel
theorem dX12_weigh_42 : decode cX12_weigh 42 = .ok (.iload 4, 2) := by decide +kernel
theorem dX12_weigh_44 : decode cX12_weigh 44 = .ok (.iconst 4, 1) := by decide +kernel
theorem dX12_weigh_45 : decode cX12_weigh 45 = .ok (.if_icmp .ge 46, 3) := by decide +kernel
theorem dX12_weigh_48 : decode cX12_weigh 48 = .ok (.iconst 0, 1) := by decide +kernel
theorem dX12_weigh_49 : decode cX12_weigh 49 = .ok (.istore 5, 2) := by decide +kernel
theorem dX12_weigh_51 : decode cX12_weigh 51 = .ok (.iload 5, 2) := by decide +kernel
theorem dX12_weigh_53 : decode cX12_weigh 53 = .ok (.iconst 4, 1) := by decide +kernel
theorem dX12_weigh_54 : decode cX12_weigh 54 = .ok (.if_icmp .ge 31, 3) := by decide +kernel
theorem dX12_weigh_57 : decode cX12_weigh 57 = .ok (.iload_n 3, 1) := by decide +kernel
theorem dX12_weigh_58 : decode cX12_weigh 58 = .ok (.iload_n 3, 1) := by decide +kernel
theorem dX12_weigh_59 : decode cX12_weigh 59 = .ok (.iload 5, 2) := by decide +kernel
theorem dX12_weigh_61 : decode cX12_weigh 61 = .ok (.invokestatic 188, 3) := by decide +kernel
theorem dX12_weigh_64 : decode cX12_weigh 64 = .ok (.ifCond .eq 12, 3) := by decide +kernel
theorem dX12_weigh_67 : decode cX12_weigh 67 = .ok (.aload_n 0, 1) := by decide +kernel
theorem dX12_weigh_68 : decode cX12_weigh 68 = .ok (.iload 5, 2) := by decide +kernel
theorem dX12_weigh_70 : decode cX12_weigh 70 = .ok (.invokevirtual 289, 3) := by decide +kernel
theorem dX12_weigh_73 : decode cX12_weigh 73 = .ok (.goto 4, 3) := by decide +kernel
theorem dX12_weigh_76 : decode cX12_weigh 76 = .ok (.iconst 0, 1) := by decide +kernel
theorem dX12_weigh_77 : decode cX12_weigh 77 = .ok (.ior, 1) := by decide +kernel
theorem dX12_weigh_78 : decode cX12_weigh 78 = .ok (.istore_n 3, 1) := by decide +kernel
theorem dX12_weigh_79 : decode cX12_weigh 79 = .ok (.iinc 5 1, 3) := by decide +kernel
theorem dX12_weigh_82 : decode cX12_weigh 82 = .ok (.goto (-31), 3) := by decide +kernel
theorem dX12_weigh_85 : decode cX12_weigh 85 = .ok (.iinc 4 1, 3) := by decide +kernel
theorem dX12_weigh_88 : decode cX12_weigh 88 = .ok (.goto (-46), 3) := by decide +kernel
theorem dX12_weigh_91 : decode cX12_weigh 91 = .ok (.ldc_w 292, 3) := by decide +kernel
theorem dX12_weigh_94 : decode cX12_weigh 94 = .ok (.istore 4, 2) := by decide +kernel
theorem dX12_weigh_96 : decode cX12_weigh 96 = .ok (.iconst 0, 1) := by decide +kernel
theorem dX12_weigh_97 : decode cX12_weigh 97 = .ok (.istore 5, 2) := by decide +kernel
theorem dX12_weigh_99 : decode cX12_weigh 99 = .ok (.iload 5, 2) := by decide +kernel
theorem dX12_weigh_101 : decode cX12_weigh 101 = .ok (.iconst 4, 1) := by decide +kernel
theorem dX12_weigh_102 : decode cX12_weigh 102 = .ok (.if_icmp .ge 33, 3) := by decide +kernel
theorem dX12_weigh_105 : decode cX12_weigh 105 = .ok (.iload 4, 2) := by decide +kernel
theorem dX12_weigh_107 : decode cX12_weigh 107 = .ok (.iload_n 3, 1) := by decide +kernel
theorem dX12_weigh_108 : decode cX12_weigh 108 = .ok (.iload 5, 2) := by decide +kernel
theorem dX12_weigh_110 : decode cX12_weigh 110 = .ok (.invokestatic 188, 3) := by decide +kernel
theorem dX12_weigh_113 : decode cX12_weigh 113 = .ok (.ifCond .eq 12, 3) := by decide +kernel
theorem dX12_weigh_116 : decode cX12_weigh 116 = .ok (.aload_n 0, 1) := by decide +kernel
theorem dX12_weigh_117 : decode cX12_weigh 117 = .ok (.iload 5, 2) := by decide +kernel
theorem dX12_weigh_119 : decode cX12_weigh 119 = .ok (.invokevirtual 293, 3) := by decide +kernel
theorem dX12_weigh_122 : decode cX12_weigh 122 = .ok (.goto 4, 3) := by decide +kernel
theorem dX12_weigh_125 : decode cX12_weigh 125 = .ok (.iconst 0, 1) := by decide +kernel
theorem dX12_weigh_126 : decode cX12_weigh 126 = .ok (.iadd, 1) := by decide +kernel
theorem dX12_weigh_127 : decode cX12_weigh 127 = .ok (.istore 4, 2) := by decide +kernel
theorem dX12_weigh_129 : decode cX12_weigh 129 = .ok (.iinc 5 1, 3) := by decide +kernel
theorem dX12_weigh_132 : decode cX12_weigh 132 = .ok (.goto (-33), 3) := by decide +kernel
theorem dX12_weigh_135 : decode cX12_weigh 135 = .ok (.iload_n 2, 1) := by decide +kernel
theorem dX12_weigh_136 : decode cX12_weigh 136 = .ok (.ifCond .ne 8, 3) := by decide +kernel
theorem dX12_weigh_139 : decode cX12_weigh 139 = .ok (.iload 4, 2) := by decide +kernel
theorem dX12_weigh_141 : decode cX12_weigh 141 = .ok (.goto 7, 3) := by decide +kernel
theorem dX12_weigh_144 : decode cX12_weigh 144 = .ok (.iload_n 3, 1) := by decide +kernel
theorem dX12_weigh_145 : decode cX12_weigh 145 = .ok (.invokestatic 261, 3) := by decide +kernel
theorem dX12_weigh_148 : decode cX12_weigh 148 = .ok (.ireturn, 1) := by decide +kernel
theorem dX12_isSpan_0 : decode cX12_isSpan 0 = .ok (.iload_n 2, 1) := by decide +kernel
theorem dX12_isSpan_1 : decode cX12_isSpan 1 = .ok (.ifCond .lt 27, 3) := by decide +kernel
theorem dX12_isSpan_4 : decode cX12_isSpan 4 = .ok (.iload_n 3, 1) := by decide +kernel
theorem dX12_isSpan_5 : decode cX12_isSpan 5 = .ok (.ifCond .lt 23, 3) := by decide +kernel
theorem dX12_isSpan_8 : decode cX12_isSpan 8 = .ok (.iload_n 2, 1) := by decide +kernel
theorem dX12_isSpan_9 : decode cX12_isSpan 9 = .ok (.i2l, 1) := by decide +kernel
theorem dX12_isSpan_10 : decode cX12_isSpan 10 = .ok (.iload_n 3, 1) := by decide +kernel
theorem dX12_isSpan_11 : decode cX12_isSpan 11 = .ok (.i2l, 1) := by decide +kernel
theorem dX12_isSpan_12 : decode cX12_isSpan 12 = .ok (.ladd, 1) := by decide +kernel
theorem dX12_isSpan_13 : decode cX12_isSpan 13 = .ok (.aload_n 0, 1) := by decide +kernel
theorem dX12_isSpan_14 : decode cX12_isSpan 14 = .ok (.getfield 29, 3) := by decide +kernel
theorem dX12_isSpan_17 : decode cX12_isSpan 17 = .ok (.iload_n 1, 1) := by decide +kernel
theorem dX12_isSpan_18 : decode cX12_isSpan 18 = .ok (.iaload, 1) := by decide +kernel
theorem dX12_isSpan_19 : decode cX12_isSpan 19 = .ok (.i2l, 1) := by decide +kernel
theorem dX12_isSpan_20 : decode cX12_isSpan 20 = .ok (.lcmp, 1) := by decide +kernel
theorem dX12_isSpan_21 : decode cX12_isSpan 21 = .ok (.ifCond .gt 7, 3) := by decide +kernel
theorem dX12_isSpan_24 : decode cX12_isSpan 24 = .ok (.iconst 1, 1) := by decide +kernel
theorem dX12_isSpan_25 : decode cX12_isSpan 25 = .ok (.goto 4, 3) := by decide +kernel
theorem dX12_isSpan_28 : decode cX12_isSpan 28 = .ok (.iconst 0, 1) := by decide +kernel
theorem dX12_isSpan_29 : decode cX12_isSpan 29 = .ok (.ireturn, 1) := by decide +kernel
theorem dX12_copy_0 : decode cX12_copy 0 = .ok (.iload_n 1, 1) := by decide +kernel
theorem dX12_copy_1 : decode cX12_copy 1 = .ok (.invokestatic 278, 3) := by decide +kernel
theorem dX12_copy_4 : decode cX12_copy 4 = .ok (.ifCond .eq 10, 3) := by decide +kernel
theorem dX12_copy_7 : decode cX12_copy 7 = .ok (.iload_n 3, 1) := by decide +kernel
theorem dX12_copy_8 : decode cX12_copy 8 = .ok (.invokestatic 278, 3) := by decide +kernel
theorem dX12_copy_11 : decode cX12_copy 11 = .ok (.ifCond .ne 6, 3) := by decide +kernel
theorem dX12_copy_14 : decode cX12_copy 14 = .ok (.bipush (-2), 2) := by decide +kernel
theorem dX12_copy_16 : decode cX12_copy 16 = .ok (.ireturn, 1) := by decide +kernel
theorem dX12_copy_17 : decode cX12_copy 17 = .ok (.aload_n 0, 1) := by decide +kernel
theorem dX12_copy_18 : decode cX12_copy 18 = .ok (.getfield 29, 3) := by decide +kernel
theorem dX12_copy_21 : decode cX12_copy 21 = .ok (.iload_n 1, 1) := by decide +kernel
theorem dX12_copy_22 : decode cX12_copy 22 = .ok (.iaload, 1) := by decide +kernel
theorem dX12_copy_23 : decode cX12_copy 23 = .ok (.ifCond .lt 12, 3) := by decide +kernel
theorem dX12_copy_26 : decode cX12_copy 26 = .ok (.aload_n 0, 1) := by decide +kernel
theorem dX12_copy_27 : decode cX12_copy 27 = .ok (.getfield 29, 3) := by decide +kernel
theorem dX12_copy_30 : decode cX12_copy 30 = .ok (.iload_n 3, 1) := by decide +kernel
theorem dX12_copy_31 : decode cX12_copy 31 = .ok (.iaload, 1) := by decide +kernel
theorem dX12_copy_32 : decode cX12_copy 32 = .ok (.ifCond .ge 6, 3) := by decide +kernel
theorem dX12_copy_35 : decode cX12_copy 35 = .ok (.bipush (-11), 2) := by decide +kernel
theorem dX12_copy_37 : decode cX12_copy 37 = .ok (.ireturn, 1) := by decide +kernel
theorem dX12_copy_38 : decode cX12_copy 38 = .ok (.aload_n 0, 1) := by decide +kernel
theorem dX12_copy_39 : decode cX12_copy 39 = .ok (.iload_n 1, 1) := by decide +kernel
theorem dX12_copy_40 : decode cX12_copy 40 = .ok (.iload_n 2, 1) := by decide +kernel
theorem dX12_copy_41 : decode cX12_copy 41 = .ok (.iload 5, 2) := by decide +kernel
theorem dX12_copy_43 : decode cX12_copy 43 = .ok (.invokevirtual 296, 3) := by decide +kernel
theorem dX12_copy_46 : decode cX12_copy 46 = .ok (.ifCond .eq 15, 3) := by decide +kernel
theorem dX12_copy_49 : decode cX12_copy 49 = .ok (.aload_n 0, 1) := by decide +kernel
theorem dX12_copy_50 : decode cX12_copy 50 = .ok (.iload_n 3, 1) := by decide +kernel
theorem dX12_copy_51 : decode cX12_copy 51 = .ok (.iload 4, 2) := by decide +kernel
theorem dX12_copy_53 : decode cX12_copy 53 = .ok (.iload 5, 2) := by decide +kernel
theorem dX12_copy_55 : decode cX12_copy 55 = .ok (.invokevirtual 296, 3) := by decide +kernel
theorem dX12_copy_58 : decode cX12_copy 58 = .ok (.ifCond .ne 6, 3) := by decide +kernel
theorem dX12_copy_61 : decode cX12_copy 61 = .ok (.bipush (-12), 2) := by decide +kernel
theorem dX12_copy_63 : decode cX12_copy 63 = .ok (.ireturn, 1) := by decide +kernel
theorem dX12_copy_64 : decode cX12_copy 64 = .ok (.iconst 0, 1) := by decide +kernel
theorem dX12_copy_65 : decode cX12_copy 65 = .ok (.istore 6, 2) := by decide +kernel
theorem dX12_copy_67 : decode cX12_copy 67 = .ok (.iload 6, 2) := by decide +kernel
theorem dX12_copy_69 : decode cX12_copy 69 = .ok (.iload 5, 2) := by decide +kernel
theorem dX12_copy_71 : decode cX12_copy 71 = .ok (.if_icmp .ge 51, 3) := by decide +kernel
theorem dX12_copy_74 : decode cX12_copy 74 = .ok (.aload_n 0, 1) := by decide +kernel
theorem dX12_copy_75 : decode cX12_copy 75 = .ok (.getfield 71, 3) := by decide +kernel
theorem dX12_copy_78 : decode cX12_copy 78 = .ok (.iload 6, 2) := by decide +kernel
theorem dX12_copy_80 : decode cX12_copy 80 = .ok (.aload_n 0, 1) := by decide +kernel
theorem dX12_copy_81 : decode cX12_copy 81 = .ok (.getfield 32, 3) := by decide +kernel
theorem dX12_copy_84 : decode cX12_copy 84 = .ok (.bipush 10, 2) := by decide +kernel
theorem dX12_copy_86 : decode cX12_copy 86 = .ok (.iload_n 1, 1) := by decide +kernel
theorem dX12_copy_87 : decode cX12_copy 87 = .ok (.imul, 1) := by decide +kernel
theorem dX12_copy_88 : decode cX12_copy 88 = .ok (.iload_n 2, 1) := by decide +kernel
theorem dX12_copy_89 : decode cX12_copy 89 = .ok (.iadd, 1) := by decide +kernel
theorem dX12_copy_90 : decode cX12_copy 90 = .ok (.iload 6, 2) := by decide +kernel
theorem dX12_copy_92 : decode cX12_copy 92 = .ok (.iadd, 1) := by decide +kernel
theorem dX12_copy_93 : decode cX12_copy 93 = .ok (.iaload, 1) := by decide +kernel
theorem dX12_copy_94 : decode cX12_copy 94 = .ok (.iastore, 1) := by decide +kernel
theorem dX12_copy_95 : decode cX12_copy 95 = .ok (.aload_n 0, 1) := by decide +kernel
theorem dX12_copy_96 : decode cX12_copy 96 = .ok (.getfield 74, 3) := by decide +kernel
theorem dX12_copy_99 : decode cX12_copy 99 = .ok (.iload 6, 2) := by decide +kernel
theorem dX12_copy_101 : decode cX12_copy 101 = .ok (.aload_n 0, 1) := by decide +kernel
theorem dX12_copy_102 : decode cX12_copy 102 = .ok (.getfield 35, 3) := by decide +kernel
theorem dX12_copy_105 : decode cX12_copy 105 = .ok (.bipush 10, 2) := by decide +kernel
theorem dX12_copy_107 : decode cX12_copy 107 = .ok (.iload_n 1, 1) := by decide +kernel
theorem dX12_copy_108 : decode cX12_copy 108 = .ok (.imul, 1) := by decide +kernel
theorem dX12_copy_109 : decode cX12_copy 109 = .ok (.iload_n 2, 1) := by decide +kernel
theorem dX12_copy_110 : decode cX12_copy 110 = .ok (.iadd, 1) := by decide +kernel
theorem dX12_copy_111 : decode cX12_copy 111 = .ok (.iload 6, 2) := by decide +kernel
theorem dX12_copy_113 : decode cX12_copy 113 = .ok (.iadd, 1) := by decide +kernel
theorem dX12_copy_114 : decode cX12_copy 114 = .ok (.iaload, 1) := by decide +kernel
theorem dX12_copy_115 : decode cX12_copy 115 = .ok (.iastore, 1) := by decide +kernel
theorem dX12_copy_116 : decode cX12_copy 116 = .ok (.iinc 6 1, 3) := by decide +kernel
theorem dX12_copy_119 : decode cX12_copy 119 = .ok (.goto (-52), 3) := by decide +kernel
theorem dX12_copy_122 : decode cX12_copy 122 = .ok (.iconst 0, 1) := by decide +kernel
theorem dX12_copy_123 : decode cX12_copy 123 = .ok (.istore 6, 2) := by decide +kernel
theorem dX12_copy_125 : decode cX12_copy 125 = .ok (.iload 6, 2) := by decide +kernel
theorem dX12_copy_127 : decode cX12_copy 127 = .ok (.iload 5, 2) := by decide +kernel
theorem dX12_copy_129 : decode cX12_copy 129 = .ok (.if_icmp .ge 53, 3) := by decide +kernel
theorem dX12_copy_132 : decode cX12_copy 132 = .ok (.aload_n 0, 1) := by decide +kernel
theorem dX12_copy_133 : decode cX12_copy 133 = .ok (.getfield 32, 3) := by decide +kernel
theorem dX12_copy_136 : decode cX12_copy 136 = .ok (.bipush 10, 2) := by decide +kernel
theorem dX12_copy_138 : decode cX12_copy 138 = .ok (.iload_n 3, 1) := by decide +kernel
theorem dX12_copy_139 : decode cX12_copy 139 = .ok (.imul, 1) := by decide +kernel
theorem dX12_copy_140 : decode cX12_copy 140 = .ok (.iload 4, 2) := by decide +kernel
theorem dX12_copy_142 : decode cX12_copy 142 = .ok (.iadd, 1) := by decide +kernel
theorem dX12_copy_143 : decode cX12_copy 143 = .ok (.iload 6, 2) := by decide +kernel
theorem dX12_copy_145 : decode cX12_copy 145 = .ok (.iadd, 1) := by decide +kernel
theorem dX12_copy_146 : decode cX12_copy 146 = .ok (.aload_n 0, 1) := by decide +kernel
theorem dX12_copy_147 : decode cX12_copy 147 = .ok (.getfield 71, 3) := by decide +kernel
theorem dX12_copy_150 : decode cX12_copy 150 = .ok (.iload 6, 2) := by decide +kernel
theorem dX12_copy_152 : decode cX12_copy 152 = .ok (.iaload, 1) := by decide +kernel
theorem dX12_copy_153 : decode cX12_copy 153 = .ok (.iastore, 1) := by decide +kernel
theorem dX12_copy_154 : decode cX12_copy 154 = .ok (.aload_n 0, 1) := by decide +kernel
theorem dX12_copy_155 : decode cX12_copy 155 = .ok (.getfield 35, 3) := by decide +kernel
theorem dX12_copy_158 : decode cX12_copy 158 = .ok (.bipush 10, 2) := by decide +kernel
theorem dX12_copy_160 : decode cX12_copy 160 = .ok (.iload_n 3, 1) := by decide +kernel
theorem dX12_copy_161 : decode cX12_copy 161 = .ok (.imul, 1) := by decide +kernel
theorem dX12_copy_162 : decode cX12_copy 162 = .ok (.iload 4, 2) := by decide +kernel
theorem dX12_copy_164 : decode cX12_copy 164 = .ok (.iadd, 1) := by decide +kernel
theorem dX12_copy_165 : decode cX12_copy 165 = .ok (.iload 6, 2) := by decide +kernel
theorem dX12_copy_167 : decode cX12_copy 167 = .ok (.iadd, 1) := by decide +kernel
theorem dX12_copy_168 : decode cX12_copy 168 = .ok (.aload_n 0, 1) := by decide +kernel
theorem dX12_copy_169 : decode cX12_copy 169 = .ok (.getfield 74, 3) := by decide +kernel
theorem dX12_copy_172 : decode cX12_copy 172 = .ok (.iload 6, 2) := by decide +kernel
theorem dX12_copy_174 : decode cX12_copy 174 = .ok (.iaload, 1) := by decide +kernel
theorem dX12_copy_175 : decode cX12_copy 175 = .ok (.iastore, 1) := by decide +kernel
theorem dX12_copy_176 : decode cX12_copy 176 = .ok (.iinc 6 1, 3) := by decide +kernel
theorem dX12_copy_179 : decode cX12_copy 179 = .ok (.goto (-54), 3) := by decide +kernel
theorem dX12_copy_182 : decode cX12_copy 182 = .ok (.iload 5, 2) := by decide +kernel
theorem dX12_copy_184 : decode cX12_copy 184 = .ok (.ireturn, 1) := by decide +kernel
theorem dX12_drop_0 : decode cX12_drop 0 = .ok (.iload_n 1, 1) := by decide +kernel
theorem dX12_drop_1 : decode cX12_drop 1 = .ok (.invokestatic 278, 3) := by decide +kernel
theorem dX12_drop_4 : decode cX12_drop 4 = .ok (.ifCond .ne 6, 3) := by decide +kernel
theorem dX12_drop_7 : decode cX12_drop 7 = .ok (.bipush (-2), 2) := by decide +kernel
theorem dX12_drop_9 : decode cX12_drop 9 = .ok (.ireturn, 1) := by decide +kernel
theorem dX12_drop_10 : decode cX12_drop 10 = .ok (.aload_n 0, 1) := by decide +kernel
theorem dX12_drop_11 : decode cX12_drop 11 = .ok (.getfield 29, 3) := by decide +kernel
theorem dX12_drop_14 : decode cX12_drop 14 = .ok (.iload_n 1, 1) := by decide +kernel
theorem dX12_drop_15 : decode cX12_drop 15 = .ok (.iaload, 1) := by decide +kernel
theorem dX12_drop_16 : decode cX12_drop 16 = .ok (.ifCond .ge 6, 3) := by decide +kernel
theorem dX12_drop_19 : decode cX12_drop 19 = .ok (.bipush (-11), 2) := by decide +kernel
theorem dX12_drop_21 : decode cX12_drop 21 = .ok (.ireturn, 1) := by decide +kernel
theorem dX12_drop_22 : decode cX12_drop 22 = .ok (.iconst 0, 1) := by decide +kernel
theorem dX12_drop_23 : decode cX12_drop 23 = .ok (.istore_n 2, 1) := by decide +kernel
theorem dX12_drop_24 : decode cX12_drop 24 = .ok (.iconst 0, 1) := by decide +kernel
theorem dX12_drop_25 : decode cX12_drop 25 = .ok (.istore_n 3, 1) := by decide +kernel
theorem dX12_drop_26 : decode cX12_drop 26 = .ok (.iload_n 3, 1) := by decide +kernel
theorem dX12_drop_27 : decode cX12_drop 27 = .ok (.aload_n 0, 1) := by decide +kernel
theorem dX12_drop_28 : decode cX12_drop 28 = .ok (.getfield 29, 3) := by decide +kernel
theorem dX12_drop_31 : decode cX12_drop 31 = .ok (.iload_n 1, 1) := by decide +kernel
theorem dX12_drop_32 : decode cX12_drop 32 = .ok (.iaload, 1) := by decide +kernel
theorem dX12_drop_33 : decode cX12_drop 33 = .ok (.if_icmp .ge 32, 3) := by decide +kernel
theorem dX12_drop_36 : decode cX12_drop 36 = .ok (.iload_n 2, 1) := by decide +kernel
theorem dX12_drop_37 : decode cX12_drop 37 = .ok (.aload_n 0, 1) := by decide +kernel
theorem dX12_drop_38 : decode cX12_drop 38 = .ok (.getfield 32, 3) := by decide +kernel
theorem dX12_drop_41 : decode cX12_drop 41 = .ok (.bipush 10, 2) := by decide +kernel
theorem dX12_drop_43 : decode cX12_drop 43 = .ok (.iload_n 1, 1) := by decide +kernel
theorem dX12_drop_44 : decode cX12_drop 44 = .ok (.imul, 1) := by decide +kernel
theorem dX12_drop_45 : decode cX12_drop 45 = .ok (.iload_n 3, 1) := by decide +kernel
theorem dX12_drop_46 : decode cX12_drop 46 = .ok (.iadd, 1) := by decide +kernel
theorem dX12_drop_47 : decode cX12_drop 47 = .ok (.iaload, 1) := by decide +kernel
theorem dX12_drop_48 : decode cX12_drop 48 = .ok (.iconst (-1), 1) := by decide +kernel
theorem dX12_drop_49 : decode cX12_drop 49 = .ok (.if_icmp .ne 7, 3) := by decide +kernel
theorem dX12_drop_52 : decode cX12_drop 52 = .ok (.iconst 0, 1) := by decide +kernel
theorem dX12_drop_53 : decode cX12_drop 53 = .ok (.goto 4, 3) := by decide +kernel
theorem dX12_drop_56 : decode cX12_drop 56 = .ok (.iconst 1, 1) := by decide +kernel
theorem dX12_drop_57 : decode cX12_drop 57 = .ok (.iadd, 1) := by decide +kernel
theorem dX12_drop_58 : decode cX12_drop 58 = .ok (.istore_n 2, 1) := by decide +kernel
theorem dX12_drop_59 : decode cX12_drop 59 = .ok (.iinc 3 1, 3) := by decide +kernel
theorem dX12_drop_62 : decode cX12_drop 62 = .ok (.goto (-36), 3) := by decide +kernel
theorem dX12_drop_65 : decode cX12_drop 65 = .ok (.aload_n 0, 1) := by decide +kernel
theorem dX12_drop_66 : decode cX12_drop 66 = .ok (.getfield 29, 3) := by decide +kernel
theorem dX12_drop_69 : decode cX12_drop 69 = .ok (.iload_n 1, 1) := by decide +kernel
theorem dX12_drop_70 : decode cX12_drop 70 = .ok (.iconst (-1), 1) := by decide +kernel
theorem dX12_drop_71 : decode cX12_drop 71 = .ok (.iastore, 1) := by decide +kernel
theorem dX12_drop_72 : decode cX12_drop 72 = .ok (.iload_n 2, 1) := by decide +kernel
theorem dX12_drop_73 : decode cX12_drop 73 = .ok (.ireturn, 1) := by decide +kernel
theorem dX12_lameOnes_0 : decode cX12_lameOnes 0 = .ok (.iconst 0, 1) := by decide +kernel
theorem dX12_lameOnes_1 : decode cX12_lameOnes 1 = .ok (.istore_n 1, 1) := by decide +kernel
theorem dX12_lameOnes_2 : decode cX12_lameOnes 2 = .ok (.iconst 0, 1) := by decide +kernel
theorem dX12_lameOnes_3 : decode cX12_lameOnes 3 = .ok (.istore_n 2, 1) := by decide +kernel
theorem dX12_lameOnes_4 : decode cX12_lameOnes 4 = .ok (.iload_n 2, 1) := by decide +kernel
theorem dX12_lameOnes_5 : decode cX12_lameOnes 5 = .ok (.aload_n 0, 1) := by decide +kernel
theorem dX12_lameOnes_6 : decode cX12_lameOnes 6 = .ok (.getfield 7, 3) := by decide +kernel
theorem dX12_lameOnes_9 : decode cX12_lameOnes 9 = .ok (.iconst 0, 1) := by decide +kernel
theorem dX12_lameOnes_10 : decode cX12_lameOnes 10 = .ok (.iaload, 1) := by decide +kernel
theorem dX12_lameOnes_11 : decode cX12_lameOnes 11 = .ok (.if_icmp .ge 23, 3) := by decide +kernel
theorem dX12_lameOnes_14 : decode cX12_lameOnes 14 = .ok (.iload_n 1, 1) := by decide +kernel
theorem dX12_lameOnes_15 : decode cX12_lameOnes 15 = .ok (.aload_n 0, 1) := by decide +kernel
theorem dX12_lameOnes_16 : decode cX12_lameOnes 16 = .ok (.getfield 7, 3) := by decide +kernel
theorem dX12_lameOnes_19 : decode cX12_lameOnes 19 = .ok (.bipush 35, 2) := by decide +kernel
theorem dX12_lameOnes_21 : decode cX12_lameOnes 21 = .ok (.iload_n 2, 1) := by decide +kernel
theorem dX12_lameOnes_22 : decode cX12_lameOnes 22 = .ok (.iadd, 1) := by decide +kernel
theorem dX12_lameOnes_23 : decode cX12_lameOnes 23 = .ok (.iaload, 1) := by decide +kernel
theorem dX12_lameOnes_24 : decode cX12_lameOnes 24 = .ok (.iload_n 2, 1) := by decide +kernel
theorem dX12_lameOnes_25 : decode cX12_lameOnes 25 = .ok (.ishl, 1) := by decide +kernel
theorem dX12_lameOnes_26 : decode cX12_lameOnes 26 = .ok (.ior, 1) := by decide +kernel
theorem dX12_lameOnes_27 : decode cX12_lameOnes 27 = .ok (.istore_n 1, 1) := by decide +kernel
theorem dX12_lameOnes_28 : decode cX12_lameOnes 28 = .ok (.iinc 2 1, 3) := by decide +kernel
theorem dX12_lameOnes_31 : decode cX12_lameOnes 31 = .ok (.goto (-27), 3) := by decide +kernel
theorem dX12_lameOnes_34 : decode cX12_lameOnes 34 = .ok (.iload_n 1, 1) := by decide +kernel
theorem dX12_lameOnes_35 : decode cX12_lameOnes 35 = .ok (.ireturn, 1) := by decide +kernel
theorem dX12_thereOnes_0 : decode cX12_thereOnes 0 = .ok (.iconst 0, 1) := by decide +kernel
theorem dX12_thereOnes_1 : decode cX12_thereOnes 1 = .ok (.istore_n 1, 1) := by decide +kernel
theorem dX12_thereOnes_2 : decode cX12_thereOnes 2 = .ok (.iconst 0, 1) := by decide +kernel
theorem dX12_thereOnes_3 : decode cX12_thereOnes 3 = .ok (.istore_n 2, 1) := by decide +kernel
theorem dX12_thereOnes_4 : decode cX12_thereOnes 4 = .ok (.iload_n 2, 1) := by decide +kernel
theorem dX12_thereOnes_5 : decode cX12_thereOnes 5 = .ok (.aload_n 0, 1) := by decide +kernel
theorem dX12_thereOnes_6 : decode cX12_thereOnes 6 = .ok (.getfield 7, 3) := by decide +kernel
theorem dX12_thereOnes_9 : decode cX12_thereOnes 9 = .ok (.iconst 1, 1) := by decide +kernel
theorem dX12_thereOnes_10 : decode cX12_thereOnes 10 = .ok (.iaload, 1) := by decide +kernel
theorem dX12_thereOnes_11 : decode cX12_thereOnes 11 = .ok (.if_icmp .ge 27, 3) := by decide +kernel
theorem dX12_thereOnes_14 : decode cX12_thereOnes 14 = .ok (.iload_n 1, 1) := by decide +kernel
theorem dX12_thereOnes_15 : decode cX12_thereOnes 15 = .ok (.aload_n 0, 1) := by decide +kernel
theorem dX12_thereOnes_16 : decode cX12_thereOnes 16 = .ok (.iload_n 2, 1) := by decide +kernel
theorem dX12_thereOnes_17 : decode cX12_thereOnes 17 = .ok (.invokevirtual 237, 3) := by decide +kernel
theorem dX12_thereOnes_20 : decode cX12_thereOnes 20 = .ok (.ifCond .eq 7, 3) := by decide +kernel
theorem dX12_thereOnes_23 : decode cX12_thereOnes 23 = .ok (.iconst 0, 1) := by decide +kernel
theorem dX12_thereOnes_24 : decode cX12_thereOnes 24 = .ok (.goto 6, 3) := by decide +kernel
theorem dX12_thereOnes_27 : decode cX12_thereOnes 27 = .ok (.iconst 1, 1) := by decide +kernel
theorem dX12_thereOnes_28 : decode cX12_thereOnes 28 = .ok (.iload_n 2, 1) := by decide +kernel
theorem dX12_thereOnes_29 : decode cX12_thereOnes 29 = .ok (.ishl, 1) := by decide +kernel
theorem dX12_thereOnes_30 : decode cX12_thereOnes 30 = .ok (.ior, 1) := by decide +kernel
theorem dX12_thereOnes_31 : decode cX12_thereOnes 31 = .ok (.istore_n 1, 1) := by decide +kernel
theorem dX12_thereOnes_32 : decode cX12_thereOnes 32 = .ok (.iinc 2 1, 3) := by decide +kernel
theorem dX12_thereOnes_35 : decode cX12_thereOnes 35 = .ok (.goto (-31), 3) := by decide +kernel
theorem dX12_thereOnes_38 : decode cX12_thereOnes 38 = .ok (.iload_n 1, 1) := by decide +kernel
theorem dX12_thereOnes_39 : decode cX12_thereOnes 39 = .ok (.ireturn, 1) := by decide +kernel
theorem dX12_clocks_0 : decode cX12_clocks 0 = .ok (.iconst 0, 1) := by decide +kernel
theorem dX12_clocks_1 : decode cX12_clocks 1 = .ok (.istore_n 1, 1) := by decide +kernel
theorem dX12_clocks_2 : decode cX12_clocks 2 = .ok (.iconst 0, 1) := by decide +kernel
theorem dX12_clocks_3 : decode cX12_clocks 3 = .ok (.istore_n 2, 1) := by decide +kernel
theorem dX12_clocks_4 : decode cX12_clocks 4 = .ok (.iload_n 2, 1) := by decide +kernel
theorem dX12_clocks_5 : decode cX12_clocks 5 = .ok (.aload_n 0, 1) := by decide +kernel
theorem dX12_clocks_6 : decode cX12_clocks 6 = .ok (.getfield 7, 3) := by decide +kernel
theorem dX12_clocks_9 : decode cX12_clocks 9 = .ok (.iconst 1, 1) := by decide +kernel
theorem dX12_clocks_10 : decode cX12_clocks 10 = .ok (.iaload, 1) := by decide +kernel
theorem dX12_clocks_11 : decode cX12_clocks 11 = .ok (.if_icmp .ge 21, 3) := by decide +kernel
theorem dX12_clocks_14 : decode cX12_clocks 14 = .ok (.iload_n 1, 1) := by decide +kernel
theorem dX12_clocks_15 : decode cX12_clocks 15 = .ok (.aload_n 0, 1) := by decide +kernel
theorem dX12_clocks_16 : decode cX12_clocks 16 = .ok (.getfield 7, 3) := by decide +kernel
theorem dX12_clocks_19 : decode cX12_clocks 19 = .ok (.bipush 59, 2) := by decide +kernel
theorem dX12_clocks_21 : decode cX12_clocks 21 = .ok (.iload_n 2, 1) := by decide +kernel
theorem dX12_clocks_22 : decode cX12_clocks 22 = .ok (.iadd, 1) := by decide +kernel
theorem dX12_clocks_23 : decode cX12_clocks 23 = .ok (.iaload, 1) := by decide +kernel
theorem dX12_clocks_24 : decode cX12_clocks 24 = .ok (.iadd, 1) := by decide +kernel
theorem dX12_clocks_25 : decode cX12_clocks 25 = .ok (.istore_n 1, 1) := by decide +kernel
theorem dX12_clocks_26 : decode cX12_clocks 26 = .ok (.iinc 2 1, 3) := by decide +kernel
theorem dX12_clocks_29 : decode cX12_clocks 29 = .ok (.goto (-25), 3) := by decide +kernel
theorem dX12_clocks_32 : decode cX12_clocks 32 = .ok (.iload_n 1, 1) := by decide +kernel
theorem dX12_clocks_33 : decode cX12_clocks 33 = .ok (.ireturn, 1) := by decide +kernel
theorem dX12_booksThere_0 : decode cX12_booksThere 0 = .ok (.iconst 0, 1) := by decide +kernel
theorem dX12_booksThere_1 : decode cX12_booksThere 1 = .ok (.istore_n 1, 1) := by decide +kernel
theorem dX12_booksThere_2 : decode cX12_booksThere 2 = .ok (.iconst 0, 1) := by decide +kernel
theorem dX12_booksThere_3 : decode cX12_booksThere 3 = .ok (.istore_n 2, 1) := by decide +kernel
theorem dX12_booksThere_4 : decode cX12_booksThere 4 = .ok (.iload_n 2, 1) := by decide +kernel
theorem dX12_booksThere_5 : decode cX12_booksThere 5 = .ok (.iconst 4, 1) := by decide +kernel
theorem dX12_booksThere_6 : decode cX12_booksThere 6 = .ok (.if_icmp .ge 26, 3) := by decide +kernel
theorem dX12_booksThere_9 : decode cX12_booksThere 9 = .ok (.iload_n 1, 1) := by decide +kernel
theorem dX12_booksThere_10 : decode cX12_booksThere 10 = .ok (.aload_n 0, 1) := by decide +kernel
theorem dX12_booksThere_11 : decode cX12_booksThere 11 = .ok (.getfield 29, 3) := by decide +kernel
theorem dX12_booksThere_14 : decode cX12_booksThere 14 = .ok (.iload_n 2, 1) := by decide +kernel
theorem dX12_booksThere_15 : decode cX12_booksThere 15 = .ok (.iaload, 1) := by decide +kernel
theorem dX12_booksThere_16 : decode cX12_booksThere 16 = .ok (.ifCond .ge 7, 3) := by decide +kernel
theorem dX12_booksThere_19 : decode cX12_booksThere 19 = .ok (.iconst 0, 1) := by decide +kernel
theorem dX12_booksThere_20 : decode cX12_booksThere 20 = .ok (.goto 4, 3) := by decide +kernel
theorem dX12_booksThere_23 : decode cX12_booksThere 23 = .ok (.iconst 1, 1) := by decide +kernel
theorem dX12_booksThere_24 : decode cX12_booksThere 24 = .ok (.iadd, 1) := by decide +kernel
theorem dX12_booksThere_25 : decode cX12_booksThere 25 = .ok (.istore_n 1, 1) := by decide +kernel
theorem dX12_booksThere_26 : decode cX12_booksThere 26 = .ok (.iinc 2 1, 3) := by decide +kernel
theorem dX12_booksThere_29 : decode cX12_booksThere 29 = .ok (.goto (-25), 3) := by decide +kernel
theorem dX12_booksThere_32 : decode cX12_booksThere 32 = .ok (.iload_n 1, 1) := by decide +kernel
theorem dX12_booksThere_33 : decode cX12_booksThere 33 = .ok (.ireturn, 1) := by decide +kernel
theorem dX12_count_0 : decode cX12_count 0 = .ok (.iload_n 1, 1) := by decide +kernel
theorem dX12_count_1 : decode cX12_count 1 = .ok (.tableswitch 123 0 10 #[59, 67, 74, 81, 88, 93, 98, 103, 108, 113, 118], 59) := by decide +kernel
theorem dX12_count_60 : decode cX12_count 60 = .ok (.aload_n 0, 1) := by decide +kernel
theorem dX12_count_61 : decode cX12_count 61 = .ok (.getfield 7, 3) := by decide +kernel
theorem dX12_count_64 : decode cX12_count 64 = .ok (.bipush 63, 2) := by decide +kernel
theorem dX12_count_66 : decode cX12_count 66 = .ok (.iaload, 1) := by decide +kernel
theorem dX12_count_67 : decode cX12_count 67 = .ok (.ireturn, 1) := by decide +kernel
theorem dX12_count_68 : decode cX12_count 68 = .ok (.aload_n 0, 1) := by decide +kernel
theorem dX12_count_69 : decode cX12_count 69 = .ok (.getfield 7, 3) := by decide +kernel
theorem dX12_count_72 : decode cX12_count 72 = .ok (.iconst 0, 1) := by decide +kernel
theorem dX12_count_73 : decode cX12_count 73 = .ok (.iaload, 1) := by decide +kernel
theorem dX12_count_74 : decode cX12_count 74 = .ok (.ireturn, 1) := by decide +kernel
theorem dX12_count_75 : decode cX12_count 75 = .ok (.aload_n 0, 1) := by decide +kernel
theorem dX12_count_76 : decode cX12_count 76 = .ok (.getfield 7, 3) := by decide +kernel
theorem dX12_count_79 : decode cX12_count 79 = .ok (.iconst 1, 1) := by decide +kernel
theorem dX12_count_80 : decode cX12_count 80 = .ok (.iaload, 1) := by decide +kernel
theorem dX12_count_81 : decode cX12_count 81 = .ok (.ireturn, 1) := by decide +kernel
theorem dX12_count_82 : decode cX12_count 82 = .ok (.aload_n 0, 1) := by decide +kernel
theorem dX12_count_83 : decode cX12_count 83 = .ok (.getfield 7, 3) := by decide +kernel
theorem dX12_count_86 : decode cX12_count 86 = .ok (.iconst 2, 1) := by decide +kernel
theorem dX12_count_87 : decode cX12_count 87 = .ok (.iaload, 1) := by decide +kernel
theorem dX12_count_88 : decode cX12_count 88 = .ok (.ireturn, 1) := by decide +kernel
theorem dX12_count_89 : decode cX12_count 89 = .ok (.aload_n 0, 1) := by decide +kernel
theorem dX12_count_90 : decode cX12_count 90 = .ok (.invokevirtual 299, 3) := by decide +kernel
theorem dX12_count_93 : decode cX12_count 93 = .ok (.ireturn, 1) := by decide +kernel
theorem dX12_count_94 : decode cX12_count 94 = .ok (.aload_n 0, 1) := by decide +kernel
theorem dX12_count_95 : decode cX12_count 95 = .ok (.invokevirtual 302, 3) := by decide +kernel
theorem dX12_count_98 : decode cX12_count 98 = .ok (.ireturn, 1) := by decide +kernel
theorem dX12_count_99 : decode cX12_count 99 = .ok (.aload_n 0, 1) := by decide +kernel
theorem dX12_count_100 : decode cX12_count 100 = .ok (.invokevirtual 305, 3) := by decide +kernel
theorem dX12_count_103 : decode cX12_count 103 = .ok (.ireturn, 1) := by decide +kernel
theorem dX12_count_104 : decode cX12_count 104 = .ok (.aload_n 0, 1) := by decide +kernel
theorem dX12_count_105 : decode cX12_count 105 = .ok (.getfield 166, 3) := by decide +kernel
theorem dX12_count_108 : decode cX12_count 108 = .ok (.ireturn, 1) := by decide +kernel
theorem dX12_count_109 : decode cX12_count 109 = .ok (.aload_n 0, 1) := by decide +kernel
theorem dX12_count_110 : decode cX12_count 110 = .ok (.invokevirtual 308, 3) := by decide +kernel
theorem dX12_count_113 : decode cX12_count 113 = .ok (.ireturn, 1) := by decide +kernel
theorem dX12_count_114 : decode cX12_count 114 = .ok (.aload_n 0, 1) := by decide +kernel
theorem dX12_count_115 : decode cX12_count 115 = .ok (.getfield 163, 3) := by decide +kernel
theorem dX12_count_118 : decode cX12_count 118 = .ok (.ireturn, 1) := by decide +kernel
theorem dX12_count_119 : decode cX12_count 119 = .ok (.aload_n 0, 1) := by decide +kernel
theorem dX12_count_120 : decode cX12_count 120 = .ok (.getfield 83, 3) := by decide +kernel
theorem dX12_count_123 : decode cX12_count 123 = .ok (.ireturn, 1) := by decide +kernel
theorem dX12_count_124 : decode cX12_count 124 = .ok (.bipush (-3), 2) := by decide +kernel
theorem dX12_count_126 : decode cX12_count 126 = .ok (.ireturn, 1) := by decide +kernel
theorem dJ6_compare_7cf53_0 : decode cJ6_compare_7cf53 0 = .ok (.iload_n 0, 1) := by decide +kernel
theorem dJ6_compare_7cf53_1 : decode cJ6_compare_7cf53 1 = .ok (.iload_n 1, 1) := by decide +kernel
theorem dJ6_compare_7cf53_2 : decode cJ6_compare_7cf53 2 = .ok (.if_icmp .ge 7, 3) := by decide +kernel
theorem dJ6_compare_7cf53_5 : decode cJ6_compare_7cf53 5 = .ok (.iconst (-1), 1) := by decide +kernel
theorem dJ6_compare_7cf53_6 : decode cJ6_compare_7cf53 6 = .ok (.goto 13, 3) := by decide +kernel
theorem dJ6_compare_7cf53_9 : decode cJ6_compare_7cf53 9 = .ok (.iload_n 0, 1) := by decide +kernel
theorem dJ6_compare_7cf53_10 : decode cJ6_compare_7cf53 10 = .ok (.iload_n 1, 1) := by decide +kernel
theorem dJ6_compare_7cf53_11 : decode cJ6_compare_7cf53 11 = .ok (.if_icmp .ne 7, 3) := by decide +kernel
theorem dJ6_compare_7cf53_14 : decode cJ6_compare_7cf53 14 = .ok (.iconst 0, 1) := by decide +kernel
theorem dJ6_compare_7cf53_15 : decode cJ6_compare_7cf53 15 = .ok (.goto 4, 3) := by decide +kernel
theorem dJ6_compare_7cf53_18 : decode cJ6_compare_7cf53 18 = .ok (.iconst 1, 1) := by decide +kernel
theorem dJ6_compare_7cf53_19 : decode cJ6_compare_7cf53 19 = .ok (.ireturn, 1) := by decide +kernel
theorem dJ6_bitCount_0f7a4_0 : decode cJ6_bitCount_0f7a4 0 = .ok (.iload_n 0, 1) := by decide +kernel
theorem dJ6_bitCount_0f7a4_1 : decode cJ6_bitCount_0f7a4 1 = .ok (.iload_n 0, 1) := by decide +kernel
theorem dJ6_bitCount_0f7a4_2 : decode cJ6_bitCount_0f7a4 2 = .ok (.iconst 1, 1) := by decide +kernel
theorem dJ6_bitCount_0f7a4_3 : decode cJ6_bitCount_0f7a4 3 = .ok (.iushr, 1) := by decide +kernel
theorem dJ6_bitCount_0f7a4_4 : decode cJ6_bitCount_0f7a4 4 = .ok (.ldc_w 265, 3) := by decide +kernel
theorem dJ6_bitCount_0f7a4_7 : decode cJ6_bitCount_0f7a4 7 = .ok (.iand, 1) := by decide +kernel
theorem dJ6_bitCount_0f7a4_8 : decode cJ6_bitCount_0f7a4 8 = .ok (.isub, 1) := by decide +kernel
theorem dJ6_bitCount_0f7a4_9 : decode cJ6_bitCount_0f7a4 9 = .ok (.istore_n 0, 1) := by decide +kernel
theorem dJ6_bitCount_0f7a4_10 : decode cJ6_bitCount_0f7a4 10 = .ok (.iload_n 0, 1) := by decide +kernel
theorem dJ6_bitCount_0f7a4_11 : decode cJ6_bitCount_0f7a4 11 = .ok (.ldc_w 266, 3) := by decide +kernel
theorem dJ6_bitCount_0f7a4_14 : decode cJ6_bitCount_0f7a4 14 = .ok (.iand, 1) := by decide +kernel
theorem dJ6_bitCount_0f7a4_15 : decode cJ6_bitCount_0f7a4 15 = .ok (.iload_n 0, 1) := by decide +kernel
theorem dJ6_bitCount_0f7a4_16 : decode cJ6_bitCount_0f7a4 16 = .ok (.iconst 2, 1) := by decide +kernel
theorem dJ6_bitCount_0f7a4_17 : decode cJ6_bitCount_0f7a4 17 = .ok (.iushr, 1) := by decide +kernel
theorem dJ6_bitCount_0f7a4_18 : decode cJ6_bitCount_0f7a4 18 = .ok (.ldc_w 266, 3) := by decide +kernel
theorem dJ6_bitCount_0f7a4_21 : decode cJ6_bitCount_0f7a4 21 = .ok (.iand, 1) := by decide +kernel
theorem dJ6_bitCount_0f7a4_22 : decode cJ6_bitCount_0f7a4 22 = .ok (.iadd, 1) := by decide +kernel
theorem dJ6_bitCount_0f7a4_23 : decode cJ6_bitCount_0f7a4 23 = .ok (.istore_n 0, 1) := by decide +kernel
theorem dJ6_bitCount_0f7a4_24 : decode cJ6_bitCount_0f7a4 24 = .ok (.iload_n 0, 1) := by decide +kernel
theorem dJ6_bitCount_0f7a4_25 : decode cJ6_bitCount_0f7a4 25 = .ok (.iload_n 0, 1) := by decide +kernel
theorem dJ6_bitCount_0f7a4_26 : decode cJ6_bitCount_0f7a4 26 = .ok (.iconst 4, 1) := by decide +kernel
theorem dJ6_bitCount_0f7a4_27 : decode cJ6_bitCount_0f7a4 27 = .ok (.iushr, 1) := by decide +kernel
theorem dJ6_bitCount_0f7a4_28 : decode cJ6_bitCount_0f7a4 28 = .ok (.iadd, 1) := by decide +kernel
theorem dJ6_bitCount_0f7a4_29 : decode cJ6_bitCount_0f7a4 29 = .ok (.ldc_w 267, 3) := by decide +kernel
theorem dJ6_bitCount_0f7a4_32 : decode cJ6_bitCount_0f7a4 32 = .ok (.iand, 1) := by decide +kernel
theorem dJ6_bitCount_0f7a4_33 : decode cJ6_bitCount_0f7a4 33 = .ok (.istore_n 0, 1) := by decide +kernel
theorem dJ6_bitCount_0f7a4_34 : decode cJ6_bitCount_0f7a4 34 = .ok (.iload_n 0, 1) := by decide +kernel
theorem dJ6_bitCount_0f7a4_35 : decode cJ6_bitCount_0f7a4 35 = .ok (.iload_n 0, 1) := by decide +kernel
theorem dJ6_bitCount_0f7a4_36 : decode cJ6_bitCount_0f7a4 36 = .ok (.bipush 8, 2) := by decide +kernel
theorem dJ6_bitCount_0f7a4_38 : decode cJ6_bitCount_0f7a4 38 = .ok (.iushr, 1) := by decide +kernel
theorem dJ6_bitCount_0f7a4_39 : decode cJ6_bitCount_0f7a4 39 = .ok (.iadd, 1) := by decide +kernel
theorem dJ6_bitCount_0f7a4_40 : decode cJ6_bitCount_0f7a4 40 = .ok (.istore_n 0, 1) := by decide +kernel
theorem dJ6_bitCount_0f7a4_41 : decode cJ6_bitCount_0f7a4 41 = .ok (.iload_n 0, 1) := by decide +kernel
theorem dJ6_bitCount_0f7a4_42 : decode cJ6_bitCount_0f7a4 42 = .ok (.iload_n 0, 1) := by decide +kernel
theorem dJ6_bitCount_0f7a4_43 : decode cJ6_bitCount_0f7a4 43 = .ok (.bipush 16, 2) := by decide +kernel
theorem dJ6_bitCount_0f7a4_45 : decode cJ6_bitCount_0f7a4 45 = .ok (.iushr, 1) := by decide +kernel
theorem dJ6_bitCount_0f7a4_46 : decode cJ6_bitCount_0f7a4 46 = .ok (.iadd, 1) := by decide +kernel
theorem dJ6_bitCount_0f7a4_47 : decode cJ6_bitCount_0f7a4 47 = .ok (.istore_n 0, 1) := by decide +kernel
theorem dJ6_bitCount_0f7a4_48 : decode cJ6_bitCount_0f7a4 48 = .ok (.iload_n 0, 1) := by decide +kernel
theorem dJ6_bitCount_0f7a4_49 : decode cJ6_bitCount_0f7a4 49 = .ok (.bipush 63, 2) := by decide +kernel
theorem dJ6_bitCount_0f7a4_51 : decode cJ6_bitCount_0f7a4 51 = .ok (.iand, 1) := by decide +kernel
theorem dJ6_bitCount_0f7a4_52 : decode cJ6_bitCount_0f7a4 52 = .ok (.ireturn, 1) := by decide +kernel
theorem dJ9_max_7cf53_0 : decode cJ9_max_7cf53 0 = .ok (.iload_n 0, 1) := by decide +kernel
theorem dJ9_max_7cf53_1 : decode cJ9_max_7cf53 1 = .ok (.iload_n 1, 1) := by decide +kernel
theorem dJ9_max_7cf53_2 : decode cJ9_max_7cf53 2 = .ok (.if_icmp .lt 7, 3) := by decide +kernel
theorem dJ9_max_7cf53_5 : decode cJ9_max_7cf53 5 = .ok (.iload_n 0, 1) := by decide +kernel
theorem dJ9_max_7cf53_6 : decode cJ9_max_7cf53 6 = .ok (.goto 4, 3) := by decide +kernel
theorem dJ9_max_7cf53_9 : decode cJ9_max_7cf53 9 = .ok (.iload_n 1, 1) := by decide +kernel
theorem dJ9_max_7cf53_10 : decode cJ9_max_7cf53 10 = .ok (.ireturn, 1) := by decide +kernel
theorem dJ9_min_7cf53_0 : decode cJ9_min_7cf53 0 = .ok (.iload_n 0, 1) := by decide +kernel
theorem dJ9_min_7cf53_1 : decode cJ9_min_7cf53 1 = .ok (.iload_n 1, 1) := by decide +kernel
theorem dJ9_min_7cf53_2 : decode cJ9_min_7cf53 2 = .ok (.if_icmp .gt 7, 3) := by decide +kernel
theorem dJ9_min_7cf53_5 : decode cJ9_min_7cf53 5 = .ok (.iload_n 0, 1) := by decide +kernel
theorem dJ9_min_7cf53_6 : decode cJ9_min_7cf53 6 = .ok (.goto 4, 3) := by decide +kernel
theorem dJ9_min_7cf53_9 : decode cJ9_min_7cf53 9 = .ok (.iload_n 1, 1) := by decide +kernel
theorem dJ9_min_7cf53_10 : decode cJ9_min_7cf53 10 = .ok (.ireturn, 1) := by decide +kernel
theorem dJ0_length_8abf5_0 : decode cJ0_length_8abf5 0 = .ok (.aload_n 0, 1) := by decide +kernel
theorem dJ0_length_8abf5_1 : decode cJ0_length_8abf5 1 = .ok (.getfield 9, 3) := by decide +kernel
theorem dJ0_length_8abf5_4 : decode cJ0_length_8abf5 4 = .ok (.arraylength, 1) := by decide +kernel
theorem dJ0_length_8abf5_5 : decode cJ0_length_8abf5 5 = .ok (.aload_n 0, 1) := by decide +kernel
theorem dJ0_length_8abf5_6 : decode cJ0_length_8abf5 6 = .ok (.invokevirtual 335, 3) := by decide +kernel
theorem dJ0_length_8abf5_9 : decode cJ0_length_8abf5 9 = .ok (.ishr, 1) := by decide +kernel
theorem dJ0_length_8abf5_10 : decode cJ0_length_8abf5 10 = .ok (.ireturn, 1) := by decide +kernel
theorem dJ0_charAt_5068e_0 : decode cJ0_charAt_5068e 0 = .ok (.aload_n 0, 1) := by decide +kernel
theorem dJ0_charAt_5068e_1 : decode cJ0_charAt_5068e 1 = .ok (.invokevirtual 492, 3) := by decide +kernel
theorem dJ0_charAt_5068e_4 : decode cJ0_charAt_5068e 4 = .ok (.ifCond .eq 12, 3) := by decide +kernel
theorem dJ0_charAt_5068e_7 : decode cJ0_charAt_5068e 7 = .ok (.aload_n 0, 1) := by decide +kernel
theorem dJ0_charAt_5068e_8 : decode cJ0_charAt_5068e 8 = .ok (.getfield 9, 3) := by decide +kernel
theorem dJ0_charAt_5068e_11 : decode cJ0_charAt_5068e 11 = .ok (.iload_n 1, 1) := by decide +kernel
theorem dJ0_charAt_5068e_12 : decode cJ0_charAt_5068e 12 = .ok (.invokestatic 495, 3) := by decide +kernel
theorem dJ0_charAt_5068e_15 : decode cJ0_charAt_5068e 15 = .ok (.ireturn, 1) := by decide +kernel
theorem dJ0_charAt_5068e_16 : decode cJ0_charAt_5068e 16 = .ok (.aload_n 0, 1) := by decide +kernel
theorem dJ0_charAt_5068e_17 : decode cJ0_charAt_5068e 17 = .ok (.getfield 9, 3) := by decide +kernel
theorem dJ0_charAt_5068e_20 : decode cJ0_charAt_5068e 20 = .ok (.iload_n 1, 1) := by decide +kernel
theorem dJ0_charAt_5068e_21 : decode cJ0_charAt_5068e 21 = .ok (.invokestatic 498, 3) := by decide +kernel
theorem dJ0_charAt_5068e_24 : decode cJ0_charAt_5068e 24 = .ok (.ireturn, 1) := by decide +kernel
theorem dJ0_coder_7d493_0 : decode cJ0_coder_7d493 0 = .ok (.getstatic 38, 3) := by decide +kernel
theorem dJ0_coder_7d493_3 : decode cJ0_coder_7d493 3 = .ok (.ifCond .eq 10, 3) := by decide +kernel
theorem dJ0_coder_7d493_6 : decode cJ0_coder_7d493 6 = .ok (.aload_n 0, 1) := by decide +kernel
theorem dJ0_coder_7d493_7 : decode cJ0_coder_7d493 7 = .ok (.getfield 15, 3) := by decide +kernel
theorem dJ0_coder_7d493_10 : decode cJ0_coder_7d493 10 = .ok (.goto 4, 3) := by decide +kernel
theorem dJ0_coder_7d493_13 : decode cJ0_coder_7d493 13 = .ok (.iconst 1, 1) := by decide +kernel
theorem dJ0_coder_7d493_14 : decode cJ0_coder_7d493 14 = .ok (.ireturn, 1) := by decide +kernel
theorem dJ0_isLatin1_aae02_0 : decode cJ0_isLatin1_aae02 0 = .ok (.getstatic 38, 3) := by decide +kernel
theorem dJ0_isLatin1_aae02_3 : decode cJ0_isLatin1_aae02 3 = .ok (.ifCond .eq 14, 3) := by decide +kernel
theorem dJ0_isLatin1_aae02_6 : decode cJ0_isLatin1_aae02 6 = .ok (.aload_n 0, 1) := by decide +kernel
theorem dJ0_isLatin1_aae02_7 : decode cJ0_isLatin1_aae02 7 = .ok (.getfield 15, 3) := by decide +kernel
theorem dJ0_isLatin1_aae02_10 : decode cJ0_isLatin1_aae02 10 = .ok (.ifCond .ne 7, 3) := by decide +kernel
theorem dJ0_isLatin1_aae02_13 : decode cJ0_isLatin1_aae02 13 = .ok (.iconst 1, 1) := by decide +kernel
theorem dJ0_isLatin1_aae02_14 : decode cJ0_isLatin1_aae02 14 = .ok (.goto 4, 3) := by decide +kernel
theorem dJ0_isLatin1_aae02_17 : decode cJ0_isLatin1_aae02 17 = .ok (.iconst 0, 1) := by decide +kernel
theorem dJ0_isLatin1_aae02_18 : decode cJ0_isLatin1_aae02 18 = .ok (.ireturn, 1) := by decide +kernel
theorem dJ0_checkIndex_df160_0 : decode cJ0_checkIndex_df160 0 = .ok (.iload_n 0, 1) := by decide +kernel
theorem dJ0_checkIndex_df160_1 : decode cJ0_checkIndex_df160 1 = .ok (.iload_n 1, 1) := by decide +kernel
theorem dJ0_checkIndex_df160_2 : decode cJ0_checkIndex_df160 2 = .ok (.getstatic 1053, 3) := by decide +kernel
theorem dJ0_checkIndex_df160_5 : decode cJ0_checkIndex_df160 5 = .ok (.invokestatic 1059, 3) := by decide +kernel
theorem dJ0_checkIndex_df160_8 : decode cJ0_checkIndex_df160 8 = .ok (.pop, 1) := by decide +kernel
theorem dJ0_checkIndex_df160_9 : decode cJ0_checkIndex_df160 9 = .ok (.return_, 1) := by decide +kernel
theorem dJ1_charAt_3b067_0 : decode cJ1_charAt_3b067 0 = .ok (.iload_n 1, 1) := by decide +kernel
theorem dJ1_charAt_3b067_1 : decode cJ1_charAt_3b067 1 = .ok (.aload_n 0, 1) := by decide +kernel
theorem dJ1_charAt_3b067_2 : decode cJ1_charAt_3b067 2 = .ok (.arraylength, 1) := by decide +kernel
theorem dJ1_charAt_3b067_3 : decode cJ1_charAt_3b067 3 = .ok (.invokestatic 9, 3) := by decide +kernel
theorem dJ1_charAt_3b067_6 : decode cJ1_charAt_3b067 6 = .ok (.aload_n 0, 1) := by decide +kernel
theorem dJ1_charAt_3b067_7 : decode cJ1_charAt_3b067 7 = .ok (.iload_n 1, 1) := by decide +kernel
theorem dJ1_charAt_3b067_8 : decode cJ1_charAt_3b067 8 = .ok (.baload, 1) := by decide +kernel
theorem dJ1_charAt_3b067_9 : decode cJ1_charAt_3b067 9 = .ok (.sipush 255, 3) := by decide +kernel
theorem dJ1_charAt_3b067_12 : decode cJ1_charAt_3b067 12 = .ok (.iand, 1) := by decide +kernel
theorem dJ1_charAt_3b067_13 : decode cJ1_charAt_3b067 13 = .ok (.i2c, 1) := by decide +kernel
theorem dJ1_charAt_3b067_14 : decode cJ1_charAt_3b067 14 = .ok (.ireturn, 1) := by decide +kernel
theorem dJ2_getChar_3b067_0 : decode cJ2_getChar_3b067 0 = .ok (.getstatic 44, 3) := by decide +kernel
theorem dJ2_getChar_3b067_3 : decode cJ2_getChar_3b067 3 = .ok (.ifCond .ne 25, 3) := by decide +kernel
theorem dJ2_getChar_3b067_6 : decode cJ2_getChar_3b067 6 = .ok (.iload_n 1, 1) := by decide +kernel
theorem dJ2_getChar_3b067_7 : decode cJ2_getChar_3b067 7 = .ok (.ifCond .lt 11, 3) := by decide +kernel
theorem dJ2_getChar_3b067_10 : decode cJ2_getChar_3b067 10 = .ok (.iload_n 1, 1) := by decide +kernel
theorem dJ2_getChar_3b067_11 : decode cJ2_getChar_3b067 11 = .ok (.aload_n 0, 1) := by decide +kernel
theorem dJ2_getChar_3b067_12 : decode cJ2_getChar_3b067 12 = .ok (.invokestatic 48, 3) := by decide +kernel
theorem dJ2_getChar_3b067_15 : decode cJ2_getChar_3b067 15 = .ok (.if_icmp .lt 13, 3) := by decide +kernel
theorem dJ2_getChar_3b067_18 : decode cJ2_getChar_3b067 18 = .ok (.new 52, 3) := by decide +kernel
theorem dJ2_getChar_3b067_21 : decode cJ2_getChar_3b067 21 = .ok (.dup, 1) := by decide +kernel
theorem dJ2_getChar_3b067_22 : decode cJ2_getChar_3b067 22 = .ok (.ldc 54, 2) := by decide +kernel
theorem dJ2_getChar_3b067_24 : decode cJ2_getChar_3b067 24 = .ok (.invokespecial 56, 3) := by decide +kernel
theorem dJ2_getChar_3b067_27 : decode cJ2_getChar_3b067 27 = .ok (.athrow, 1) := by decide +kernel
theorem dJ2_getChar_3b067_28 : decode cJ2_getChar_3b067 28 = .ok (.iload_n 1, 1) := by decide +kernel
theorem dJ2_getChar_3b067_29 : decode cJ2_getChar_3b067 29 = .ok (.iconst 1, 1) := by decide +kernel
theorem dJ2_getChar_3b067_30 : decode cJ2_getChar_3b067 30 = .ok (.ishl, 1) := by decide +kernel
theorem dJ2_getChar_3b067_31 : decode cJ2_getChar_3b067 31 = .ok (.istore_n 1, 1) := by decide +kernel
theorem dJ2_getChar_3b067_32 : decode cJ2_getChar_3b067 32 = .ok (.aload_n 0, 1) := by decide +kernel
theorem dJ2_getChar_3b067_33 : decode cJ2_getChar_3b067 33 = .ok (.iload_n 1, 1) := by decide +kernel
theorem dJ2_getChar_3b067_34 : decode cJ2_getChar_3b067 34 = .ok (.iinc 1 1, 3) := by decide +kernel
theorem dJ2_getChar_3b067_37 : decode cJ2_getChar_3b067 37 = .ok (.baload, 1) := by decide +kernel
theorem dJ2_getChar_3b067_38 : decode cJ2_getChar_3b067 38 = .ok (.sipush 255, 3) := by decide +kernel
theorem dJ2_getChar_3b067_41 : decode cJ2_getChar_3b067 41 = .ok (.iand, 1) := by decide +kernel
theorem dJ2_getChar_3b067_42 : decode cJ2_getChar_3b067 42 = .ok (.getstatic 59, 3) := by decide +kernel
theorem dJ2_getChar_3b067_45 : decode cJ2_getChar_3b067 45 = .ok (.ishl, 1) := by decide +kernel
theorem dJ2_getChar_3b067_46 : decode cJ2_getChar_3b067 46 = .ok (.aload_n 0, 1) := by decide +kernel
theorem dJ2_getChar_3b067_47 : decode cJ2_getChar_3b067 47 = .ok (.iload_n 1, 1) := by decide +kernel
theorem dJ2_getChar_3b067_48 : decode cJ2_getChar_3b067 48 = .ok (.baload, 1) := by decide +kernel
theorem dJ2_getChar_3b067_49 : decode cJ2_getChar_3b067 49 = .ok (.sipush 255, 3) := by decide +kernel
theorem dJ2_getChar_3b067_52 : decode cJ2_getChar_3b067 52 = .ok (.iand, 1) := by decide +kernel
theorem dJ2_getChar_3b067_53 : decode cJ2_getChar_3b067 53 = .ok (.getstatic 63, 3) := by decide +kernel
theorem dJ2_getChar_3b067_56 : decode cJ2_getChar_3b067 56 = .ok (.ishl, 1) := by decide +kernel
theorem dJ2_getChar_3b067_57 : decode cJ2_getChar_3b067 57 = .ok (.ior, 1) := by decide +kernel
theorem dJ2_getChar_3b067_58 : decode cJ2_getChar_3b067 58 = .ok (.i2c, 1) := by decide +kernel
theorem dJ2_getChar_3b067_59 : decode cJ2_getChar_3b067 59 = .ok (.ireturn, 1) := by decide +kernel
theorem dJ2_length_9d52b_0 : decode cJ2_length_9d52b 0 = .ok (.aload_n 0, 1) := by decide +kernel
theorem dJ2_length_9d52b_1 : decode cJ2_length_9d52b 1 = .ok (.arraylength, 1) := by decide +kernel
theorem dJ2_length_9d52b_2 : decode cJ2_length_9d52b 2 = .ok (.iconst 1, 1) := by decide +kernel
theorem dJ2_length_9d52b_3 : decode cJ2_length_9d52b 3 = .ok (.ishr, 1) := by decide +kernel
theorem dJ2_length_9d52b_4 : decode cJ2_length_9d52b 4 = .ok (.ireturn, 1) := by decide +kernel
theorem dJ2_charAt_3b067_0 : decode cJ2_charAt_3b067 0 = .ok (.iload_n 1, 1) := by decide +kernel
theorem dJ2_charAt_3b067_1 : decode cJ2_charAt_3b067 1 = .ok (.aload_n 0, 1) := by decide +kernel
theorem dJ2_charAt_3b067_2 : decode cJ2_charAt_3b067 2 = .ok (.invokestatic 67, 3) := by decide +kernel
theorem dJ2_charAt_3b067_5 : decode cJ2_charAt_3b067 5 = .ok (.aload_n 0, 1) := by decide +kernel
theorem dJ2_charAt_3b067_6 : decode cJ2_charAt_3b067 6 = .ok (.iload_n 1, 1) := by decide +kernel
theorem dJ2_charAt_3b067_7 : decode cJ2_charAt_3b067 7 = .ok (.invokestatic 71, 3) := by decide +kernel
theorem dJ2_charAt_3b067_10 : decode cJ2_charAt_3b067 10 = .ok (.ireturn, 1) := by decide +kernel
theorem dJ2_checkIndex_2214a_0 : decode cJ2_checkIndex_2214a 0 = .ok (.iload_n 0, 1) := by decide +kernel
theorem dJ2_checkIndex_2214a_1 : decode cJ2_checkIndex_2214a 1 = .ok (.aload_n 1, 1) := by decide +kernel
theorem dJ2_checkIndex_2214a_2 : decode cJ2_checkIndex_2214a 2 = .ok (.invokestatic 48, 3) := by decide +kernel
theorem dJ2_checkIndex_2214a_5 : decode cJ2_checkIndex_2214a 5 = .ok (.invokestatic 414, 3) := by decide +kernel
theorem dJ2_checkIndex_2214a_8 : decode cJ2_checkIndex_2214a 8 = .ok (.return_, 1) := by decide +kernel
theorem dJ3_checkIndex_8e157_0 : decode cJ3_checkIndex_8e157 0 = .ok (.iload_n 0, 1) := by decide +kernel
theorem dJ3_checkIndex_8e157_1 : decode cJ3_checkIndex_8e157 1 = .ok (.ifCond .lt 8, 3) := by decide +kernel
theorem dJ3_checkIndex_8e157_4 : decode cJ3_checkIndex_8e157 4 = .ok (.iload_n 0, 1) := by decide +kernel
theorem dJ3_checkIndex_8e157_5 : decode cJ3_checkIndex_8e157 5 = .ok (.iload_n 1, 1) := by decide +kernel
theorem dJ3_checkIndex_8e157_6 : decode cJ3_checkIndex_8e157 6 = .ok (.if_icmp .lt 10, 3) := by decide +kernel
theorem dJ3_checkIndex_8e157_9 : decode cJ3_checkIndex_8e157 9 = .ok (.aload_n 2, 1) := by decide +kernel
theorem dJ3_checkIndex_8e157_10 : decode cJ3_checkIndex_8e157 10 = .ok (.iload_n 0, 1) := by decide +kernel
theorem dJ3_checkIndex_8e157_11 : decode cJ3_checkIndex_8e157 11 = .ok (.iload_n 1, 1) := by decide +kernel
theorem dJ3_checkIndex_8e157_12 : decode cJ3_checkIndex_8e157 12 = .ok (.invokestatic 95, 3) := by decide +kernel
theorem dJ3_checkIndex_8e157_15 : decode cJ3_checkIndex_8e157 15 = .ok (.athrow, 1) := by decide +kernel
theorem dJ3_checkIndex_8e157_16 : decode cJ3_checkIndex_8e157 16 = .ok (.iload_n 0, 1) := by decide +kernel
theorem dJ3_checkIndex_8e157_17 : decode cJ3_checkIndex_8e157 17 = .ok (.ireturn, 1) := by decide +kernel
theorem dL_law_0 : decode cL_law 0 = .ok (.new 7, 3) := by decide +kernel
theorem dL_law_3 : decode cL_law 3 = .ok (.dup, 1) := by decide +kernel
theorem dL_law_4 : decode cL_law 4 = .ok (.invokespecial 9, 3) := by decide +kernel
theorem dL_law_7 : decode cL_law 7 = .ok (.astore_n 1, 1) := by decide +kernel
theorem dL_law_8 : decode cL_law 8 = .ok (.new 10, 3) := by decide +kernel
theorem dL_law_11 : decode cL_law 11 = .ok (.dup, 1) := by decide +kernel
theorem dL_law_12 : decode cL_law 12 = .ok (.invokespecial 12, 3) := by decide +kernel
theorem dL_law_15 : decode cL_law 15 = .ok (.astore_n 2, 1) := by decide +kernel
theorem dL_law_16 : decode cL_law 16 = .ok (.iconst 0, 1) := by decide +kernel
theorem dL_law_17 : decode cL_law 17 = .ok (.istore_n 3, 1) := by decide +kernel
theorem dL_law_18 : decode cL_law 18 = .ok (.iload_n 3, 1) := by decide +kernel
theorem dL_law_19 : decode cL_law 19 = .ok (.aload_n 0, 1) := by decide +kernel
theorem dL_law_20 : decode cL_law 20 = .ok (.arraylength, 1) := by decide +kernel
theorem dL_law_21 : decode cL_law 21 = .ok (.bipush 6, 2) := by decide +kernel
theorem dL_law_23 : decode cL_law 23 = .ok (.isub, 1) := by decide +kernel
theorem dL_law_24 : decode cL_law 24 = .ok (.if_icmp .gt 1128, 3) := by decide +kernel
theorem dL_law_27 : decode cL_law 27 = .ok (.aload_n 0, 1) := by decide +kernel
theorem dL_law_28 : decode cL_law 28 = .ok (.iload_n 3, 1) := by decide +kernel
theorem dL_law_29 : decode cL_law 29 = .ok (.iaload, 1) := by decide +kernel
theorem dL_law_30 : decode cL_law 30 = .ok (.bipush 63, 2) := by decide +kernel
theorem dL_law_32 : decode cL_law 32 = .ok (.iand, 1) := by decide +kernel
theorem dL_law_33 : decode cL_law 33 = .ok (.tableswitch 1113 0 33 #[151, 174, 187, 200, 213, 246, 279, 302, 335, 358, 381, 404, 437, 470, 483, 506, 529, 552, 595, 628, 651, 674, 707, 760, 803, 816, 829, 842, 875, 928, 971, 1004, 1067, 1090], 151) := by decide +kernel
theorem dL_law_184 : decode cL_law 184 = .ok (.aload_n 1, 1) := by decide +kernel
theorem dL_law_185 : decode cL_law 185 = .ok (.aload_n 0, 1) := by decide +kernel
theorem dL_law_186 : decode cL_law 186 = .ok (.iload_n 3, 1) := by decide +kernel
theorem dL_law_187 : decode cL_law 187 = .ok (.iconst 1, 1) := by decide +kernel
theorem dL_law_188 : decode cL_law 188 = .ok (.iadd, 1) := by decide +kernel
theorem dL_law_189 : decode cL_law 189 = .ok (.iaload, 1) := by decide +kernel
theorem dL_law_190 : decode cL_law 190 = .ok (.invokevirtual 13, 3) := by decide +kernel
theorem dL_law_193 : decode cL_law 193 = .ok (.aload_n 2, 1) := by decide +kernel
theorem dL_law_194 : decode cL_law 194 = .ok (.aload_n 0, 1) := by decide +kernel
theorem dL_law_195 : decode cL_law 195 = .ok (.iload_n 3, 1) := by decide +kernel
theorem dL_law_196 : decode cL_law 196 = .ok (.iconst 1, 1) := by decide +kernel
theorem dL_law_197 : decode cL_law 197 = .ok (.iadd, 1) := by decide +kernel
theorem dL_law_198 : decode cL_law 198 = .ok (.iaload, 1) := by decide +kernel
theorem dL_law_199 : decode cL_law 199 = .ok (.invokevirtual 17, 3) := by decide +kernel
theorem dL_law_202 : decode cL_law 202 = .ok (.if_icmp .eq 944, 3) := by decide +kernel
theorem dL_law_205 : decode cL_law 205 = .ok (.iconst 0, 1) := by decide +kernel
theorem dL_law_206 : decode cL_law 206 = .ok (.ireturn, 1) := by decide +kernel
theorem dL_law_207 : decode cL_law 207 = .ok (.aload_n 1, 1) := by decide +kernel
theorem dL_law_208 : decode cL_law 208 = .ok (.invokevirtual 18, 3) := by decide +kernel
theorem dL_law_211 : decode cL_law 211 = .ok (.aload_n 2, 1) := by decide +kernel
theorem dL_law_212 : decode cL_law 212 = .ok (.invokevirtual 22, 3) := by decide +kernel
theorem dL_law_215 : decode cL_law 215 = .ok (.if_icmp .eq 931, 3) := by decide +kernel
theorem dL_law_218 : decode cL_law 218 = .ok (.iconst 0, 1) := by decide +kernel
theorem dL_law_219 : decode cL_law 219 = .ok (.ireturn, 1) := by decide +kernel
theorem dL_law_220 : decode cL_law 220 = .ok (.aload_n 1, 1) := by decide +kernel
theorem dL_law_221 : decode cL_law 221 = .ok (.invokevirtual 23, 3) := by decide +kernel
theorem dL_law_224 : decode cL_law 224 = .ok (.aload_n 2, 1) := by decide +kernel
theorem dL_law_225 : decode cL_law 225 = .ok (.invokevirtual 26, 3) := by decide +kernel
theorem dL_law_228 : decode cL_law 228 = .ok (.if_icmp .eq 918, 3) := by decide +kernel
theorem dL_law_231 : decode cL_law 231 = .ok (.iconst 0, 1) := by decide +kernel
theorem dL_law_232 : decode cL_law 232 = .ok (.ireturn, 1) := by decide +kernel
theorem dL_law_233 : decode cL_law 233 = .ok (.aload_n 1, 1) := by decide +kernel
theorem dL_law_234 : decode cL_law 234 = .ok (.invokevirtual 27, 3) := by decide +kernel
theorem dL_law_237 : decode cL_law 237 = .ok (.aload_n 2, 1) := by decide +kernel
theorem dL_law_238 : decode cL_law 238 = .ok (.invokevirtual 30, 3) := by decide +kernel
theorem dL_law_241 : decode cL_law 241 = .ok (.if_icmp .eq 905, 3) := by decide +kernel
theorem dL_law_244 : decode cL_law 244 = .ok (.iconst 0, 1) := by decide +kernel
theorem dL_law_245 : decode cL_law 245 = .ok (.ireturn, 1) := by decide +kernel
theorem dL_law_246 : decode cL_law 246 = .ok (.aload_n 1, 1) := by decide +kernel
theorem dL_law_247 : decode cL_law 247 = .ok (.aload_n 0, 1) := by decide +kernel
theorem dL_law_248 : decode cL_law 248 = .ok (.iload_n 3, 1) := by decide +kernel
theorem dL_law_249 : decode cL_law 249 = .ok (.iconst 1, 1) := by decide +kernel
theorem dL_law_250 : decode cL_law 250 = .ok (.iadd, 1) := by decide +kernel
theorem dL_law_251 : decode cL_law 251 = .ok (.iaload, 1) := by decide +kernel
theorem dL_law_252 : decode cL_law 252 = .ok (.aload_n 0, 1) := by decide +kernel
theorem dL_law_253 : decode cL_law 253 = .ok (.iload_n 3, 1) := by decide +kernel
theorem dL_law_254 : decode cL_law 254 = .ok (.iconst 2, 1) := by decide +kernel
theorem dL_law_255 : decode cL_law 255 = .ok (.iadd, 1) := by decide +kernel
theorem dL_law_256 : decode cL_law 256 = .ok (.iaload, 1) := by decide +kernel
theorem dL_law_257 : decode cL_law 257 = .ok (.invokevirtual 31, 3) := by decide +kernel
theorem dL_law_260 : decode cL_law 260 = .ok (.aload_n 2, 1) := by decide +kernel
theorem dL_law_261 : decode cL_law 261 = .ok (.aload_n 0, 1) := by decide +kernel
theorem dL_law_262 : decode cL_law 262 = .ok (.iload_n 3, 1) := by decide +kernel
theorem dL_law_263 : decode cL_law 263 = .ok (.iconst 1, 1) := by decide +kernel
theorem dL_law_264 : decode cL_law 264 = .ok (.iadd, 1) := by decide +kernel
theorem dL_law_265 : decode cL_law 265 = .ok (.iaload, 1) := by decide +kernel
theorem dL_law_266 : decode cL_law 266 = .ok (.aload_n 0, 1) := by decide +kernel
theorem dL_law_267 : decode cL_law 267 = .ok (.iload_n 3, 1) := by decide +kernel
theorem dL_law_268 : decode cL_law 268 = .ok (.iconst 2, 1) := by decide +kernel
theorem dL_law_269 : decode cL_law 269 = .ok (.iadd, 1) := by decide +kernel
theorem dL_law_270 : decode cL_law 270 = .ok (.iaload, 1) := by decide +kernel
theorem dL_law_271 : decode cL_law 271 = .ok (.invokevirtual 35, 3) := by decide +kernel
theorem dL_law_274 : decode cL_law 274 = .ok (.if_icmp .eq 872, 3) := by decide +kernel
theorem dL_law_277 : decode cL_law 277 = .ok (.iconst 0, 1) := by decide +kernel
theorem dL_law_278 : decode cL_law 278 = .ok (.ireturn, 1) := by decide +kernel
theorem dL_law_279 : decode cL_law 279 = .ok (.aload_n 1, 1) := by decide +kernel
theorem dL_law_280 : decode cL_law 280 = .ok (.aload_n 0, 1) := by decide +kernel
theorem dL_law_281 : decode cL_law 281 = .ok (.iload_n 3, 1) := by decide +kernel
theorem dL_law_282 : decode cL_law 282 = .ok (.iconst 1, 1) := by decide +kernel
theorem dL_law_283 : decode cL_law 283 = .ok (.iadd, 1) := by decide +kernel
theorem dL_law_284 : decode cL_law 284 = .ok (.iaload, 1) := by decide +kernel
theorem dL_law_285 : decode cL_law 285 = .ok (.aload_n 0, 1) := by decide +kernel
theorem dL_law_286 : decode cL_law 286 = .ok (.iload_n 3, 1) := by decide +kernel
theorem dL_law_287 : decode cL_law 287 = .ok (.iconst 2, 1) := by decide +kernel
theorem dL_law_288 : decode cL_law 288 = .ok (.iadd, 1) := by decide +kernel
theorem dL_law_289 : decode cL_law 289 = .ok (.iaload, 1) := by decide +kernel
theorem dL_law_290 : decode cL_law 290 = .ok (.invokevirtual 36, 3) := by decide +kernel
theorem dL_law_293 : decode cL_law 293 = .ok (.aload_n 2, 1) := by decide +kernel
theorem dL_law_294 : decode cL_law 294 = .ok (.aload_n 0, 1) := by decide +kernel
theorem dL_law_295 : decode cL_law 295 = .ok (.iload_n 3, 1) := by decide +kernel
theorem dL_law_296 : decode cL_law 296 = .ok (.iconst 1, 1) := by decide +kernel
theorem dL_law_297 : decode cL_law 297 = .ok (.iadd, 1) := by decide +kernel
theorem dL_law_298 : decode cL_law 298 = .ok (.iaload, 1) := by decide +kernel
theorem dL_law_299 : decode cL_law 299 = .ok (.aload_n 0, 1) := by decide +kernel
theorem dL_law_300 : decode cL_law 300 = .ok (.iload_n 3, 1) := by decide +kernel
theorem dL_law_301 : decode cL_law 301 = .ok (.iconst 2, 1) := by decide +kernel
theorem dL_law_302 : decode cL_law 302 = .ok (.iadd, 1) := by decide +kernel
theorem dL_law_303 : decode cL_law 303 = .ok (.iaload, 1) := by decide +kernel
theorem dL_law_304 : decode cL_law 304 = .ok (.invokevirtual 39, 3) := by decide +kernel
theorem dL_law_307 : decode cL_law 307 = .ok (.if_icmp .eq 839, 3) := by decide +kernel
theorem dL_law_310 : decode cL_law 310 = .ok (.iconst 0, 1) := by decide +kernel
theorem dL_law_311 : decode cL_law 311 = .ok (.ireturn, 1) := by decide +kernel
theorem dL_law_312 : decode cL_law 312 = .ok (.aload_n 1, 1) := by decide +kernel
theorem dL_law_313 : decode cL_law 313 = .ok (.aload_n 0, 1) := by decide +kernel
theorem dL_law_314 : decode cL_law 314 = .ok (.iload_n 3, 1) := by decide +kernel
theorem dL_law_315 : decode cL_law 315 = .ok (.iconst 1, 1) := by decide +kernel
theorem dL_law_316 : decode cL_law 316 = .ok (.iadd, 1) := by decide +kernel
theorem dL_law_317 : decode cL_law 317 = .ok (.iaload, 1) := by decide +kernel
theorem dL_law_318 : decode cL_law 318 = .ok (.invokevirtual 40, 3) := by decide +kernel
theorem dL_law_321 : decode cL_law 321 = .ok (.aload_n 2, 1) := by decide +kernel
theorem dL_law_322 : decode cL_law 322 = .ok (.aload_n 0, 1) := by decide +kernel
theorem dL_law_323 : decode cL_law 323 = .ok (.iload_n 3, 1) := by decide +kernel
theorem dL_law_324 : decode cL_law 324 = .ok (.iconst 1, 1) := by decide +kernel
theorem dL_law_325 : decode cL_law 325 = .ok (.iadd, 1) := by decide +kernel
theorem dL_law_326 : decode cL_law 326 = .ok (.iaload, 1) := by decide +kernel
theorem dL_law_327 : decode cL_law 327 = .ok (.invokevirtual 43, 3) := by decide +kernel
theorem dL_law_330 : decode cL_law 330 = .ok (.if_icmp .eq 816, 3) := by decide +kernel
theorem dL_law_333 : decode cL_law 333 = .ok (.iconst 0, 1) := by decide +kernel
theorem dL_law_334 : decode cL_law 334 = .ok (.ireturn, 1) := by decide +kernel
theorem dL_law_335 : decode cL_law 335 = .ok (.aload_n 1, 1) := by decide +kernel
theorem dL_law_336 : decode cL_law 336 = .ok (.aload_n 0, 1) := by decide +kernel
theorem dL_law_337 : decode cL_law 337 = .ok (.iload_n 3, 1) := by decide +kernel
theorem dL_law_338 : decode cL_law 338 = .ok (.iconst 1, 1) := by decide +kernel
theorem dL_law_339 : decode cL_law 339 = .ok (.iadd, 1) := by decide +kernel
theorem dL_law_340 : decode cL_law 340 = .ok (.iaload, 1) := by decide +kernel
theorem dL_law_341 : decode cL_law 341 = .ok (.aload_n 0, 1) := by decide +kernel
theorem dL_law_342 : decode cL_law 342 = .ok (.iload_n 3, 1) := by decide +kernel
theorem dL_law_343 : decode cL_law 343 = .ok (.iconst 2, 1) := by decide +kernel
theorem dL_law_344 : decode cL_law 344 = .ok (.iadd, 1) := by decide +kernel
theorem dL_law_345 : decode cL_law 345 = .ok (.iaload, 1) := by decide +kernel
theorem dL_law_346 : decode cL_law 346 = .ok (.invokevirtual 44, 3) := by decide +kernel
theorem dL_law_349 : decode cL_law 349 = .ok (.aload_n 2, 1) := by decide +kernel
theorem dL_law_350 : decode cL_law 350 = .ok (.aload_n 0, 1) := by decide +kernel
theorem dL_law_351 : decode cL_law 351 = .ok (.iload_n 3, 1) := by decide +kernel
theorem dL_law_352 : decode cL_law 352 = .ok (.iconst 1, 1) := by decide +kernel
theorem dL_law_353 : decode cL_law 353 = .ok (.iadd, 1) := by decide +kernel
theorem dL_law_354 : decode cL_law 354 = .ok (.iaload, 1) := by decide +kernel
theorem dL_law_355 : decode cL_law 355 = .ok (.aload_n 0, 1) := by decide +kernel
theorem dL_law_356 : decode cL_law 356 = .ok (.iload_n 3, 1) := by decide +kernel
theorem dL_law_357 : decode cL_law 357 = .ok (.iconst 2, 1) := by decide +kernel
theorem dL_law_358 : decode cL_law 358 = .ok (.iadd, 1) := by decide +kernel
theorem dL_law_359 : decode cL_law 359 = .ok (.iaload, 1) := by decide +kernel
theorem dL_law_360 : decode cL_law 360 = .ok (.invokevirtual 47, 3) := by decide +kernel
theorem dL_law_363 : decode cL_law 363 = .ok (.if_icmp .eq 783, 3) := by decide +kernel
theorem dL_law_366 : decode cL_law 366 = .ok (.iconst 0, 1) := by decide +kernel
theorem dL_law_367 : decode cL_law 367 = .ok (.ireturn, 1) := by decide +kernel
theorem dL_law_368 : decode cL_law 368 = .ok (.aload_n 1, 1) := by decide +kernel
theorem dL_law_369 : decode cL_law 369 = .ok (.aload_n 0, 1) := by decide +kernel
theorem dL_law_370 : decode cL_law 370 = .ok (.iload_n 3, 1) := by decide +kernel
theorem dL_law_371 : decode cL_law 371 = .ok (.iconst 1, 1) := by decide +kernel
theorem dL_law_372 : decode cL_law 372 = .ok (.iadd, 1) := by decide +kernel
theorem dL_law_373 : decode cL_law 373 = .ok (.iaload, 1) := by decide +kernel
theorem dL_law_374 : decode cL_law 374 = .ok (.invokevirtual 48, 3) := by decide +kernel
theorem dL_law_377 : decode cL_law 377 = .ok (.aload_n 2, 1) := by decide +kernel
theorem dL_law_378 : decode cL_law 378 = .ok (.aload_n 0, 1) := by decide +kernel
theorem dL_law_379 : decode cL_law 379 = .ok (.iload_n 3, 1) := by decide +kernel
theorem dL_law_380 : decode cL_law 380 = .ok (.iconst 1, 1) := by decide +kernel
theorem dL_law_381 : decode cL_law 381 = .ok (.iadd, 1) := by decide +kernel
theorem dL_law_382 : decode cL_law 382 = .ok (.iaload, 1) := by decide +kernel
theorem dL_law_383 : decode cL_law 383 = .ok (.invokevirtual 51, 3) := by decide +kernel
theorem dL_law_386 : decode cL_law 386 = .ok (.if_icmp .eq 760, 3) := by decide +kernel
theorem dL_law_389 : decode cL_law 389 = .ok (.iconst 0, 1) := by decide +kernel
theorem dL_law_390 : decode cL_law 390 = .ok (.ireturn, 1) := by decide +kernel
theorem dL_law_391 : decode cL_law 391 = .ok (.aload_n 1, 1) := by decide +kernel
theorem dL_law_392 : decode cL_law 392 = .ok (.aload_n 0, 1) := by decide +kernel
theorem dL_law_393 : decode cL_law 393 = .ok (.iload_n 3, 1) := by decide +kernel
theorem dL_law_394 : decode cL_law 394 = .ok (.iconst 1, 1) := by decide +kernel
theorem dL_law_395 : decode cL_law 395 = .ok (.iadd, 1) := by decide +kernel
theorem dL_law_396 : decode cL_law 396 = .ok (.iaload, 1) := by decide +kernel
theorem dL_law_397 : decode cL_law 397 = .ok (.invokevirtual 52, 3) := by decide +kernel
theorem dL_law_400 : decode cL_law 400 = .ok (.aload_n 2, 1) := by decide +kernel
theorem dL_law_401 : decode cL_law 401 = .ok (.aload_n 0, 1) := by decide +kernel
theorem dL_law_402 : decode cL_law 402 = .ok (.iload_n 3, 1) := by decide +kernel
theorem dL_law_403 : decode cL_law 403 = .ok (.iconst 1, 1) := by decide +kernel
theorem dL_law_404 : decode cL_law 404 = .ok (.iadd, 1) := by decide +kernel
theorem dL_law_405 : decode cL_law 405 = .ok (.iaload, 1) := by decide +kernel
theorem dL_law_406 : decode cL_law 406 = .ok (.invokevirtual 55, 3) := by decide +kernel
theorem dL_law_409 : decode cL_law 409 = .ok (.if_icmp .eq 737, 3) := by decide +kernel
theorem dL_law_412 : decode cL_law 412 = .ok (.iconst 0, 1) := by decide +kernel
theorem dL_law_413 : decode cL_law 413 = .ok (.ireturn, 1) := by decide +kernel
theorem dL_law_414 : decode cL_law 414 = .ok (.aload_n 1, 1) := by decide +kernel
theorem dL_law_415 : decode cL_law 415 = .ok (.aload_n 0, 1) := by decide +kernel
theorem dL_law_416 : decode cL_law 416 = .ok (.iload_n 3, 1) := by decide +kernel
theorem dL_law_417 : decode cL_law 417 = .ok (.iconst 1, 1) := by decide +kernel
theorem dL_law_418 : decode cL_law 418 = .ok (.iadd, 1) := by decide +kernel
theorem dL_law_419 : decode cL_law 419 = .ok (.iaload, 1) := by decide +kernel
theorem dL_law_420 : decode cL_law 420 = .ok (.invokevirtual 56, 3) := by decide +kernel
theorem dL_law_423 : decode cL_law 423 = .ok (.aload_n 2, 1) := by decide +kernel
theorem dL_law_424 : decode cL_law 424 = .ok (.aload_n 0, 1) := by decide +kernel
theorem dL_law_425 : decode cL_law 425 = .ok (.iload_n 3, 1) := by decide +kernel
theorem dL_law_426 : decode cL_law 426 = .ok (.iconst 1, 1) := by decide +kernel
theorem dL_law_427 : decode cL_law 427 = .ok (.iadd, 1) := by decide +kernel
theorem dL_law_428 : decode cL_law 428 = .ok (.iaload, 1) := by decide +kernel
theorem dL_law_429 : decode cL_law 429 = .ok (.invokevirtual 59, 3) := by decide +kernel
theorem dL_law_432 : decode cL_law 432 = .ok (.if_icmp .eq 714, 3) := by decide +kernel
theorem dL_law_435 : decode cL_law 435 = .ok (.iconst 0, 1) := by decide +kernel
theorem dL_law_436 : decode cL_law 436 = .ok (.ireturn, 1) := by decide +kernel
theorem dL_law_437 : decode cL_law 437 = .ok (.aload_n 1, 1) := by decide +kernel
theorem dL_law_438 : decode cL_law 438 = .ok (.aload_n 0, 1) := by decide +kernel
theorem dL_law_439 : decode cL_law 439 = .ok (.iload_n 3, 1) := by decide +kernel
theorem dL_law_440 : decode cL_law 440 = .ok (.iconst 1, 1) := by decide +kernel
theorem dL_law_441 : decode cL_law 441 = .ok (.iadd, 1) := by decide +kernel
theorem dL_law_442 : decode cL_law 442 = .ok (.iaload, 1) := by decide +kernel
theorem dL_law_443 : decode cL_law 443 = .ok (.aload_n 0, 1) := by decide +kernel
theorem dL_law_444 : decode cL_law 444 = .ok (.iload_n 3, 1) := by decide +kernel
theorem dL_law_445 : decode cL_law 445 = .ok (.iconst 2, 1) := by decide +kernel
theorem dL_law_446 : decode cL_law 446 = .ok (.iadd, 1) := by decide +kernel
theorem dL_law_447 : decode cL_law 447 = .ok (.iaload, 1) := by decide +kernel
theorem dL_law_448 : decode cL_law 448 = .ok (.invokevirtual 60, 3) := by decide +kernel
theorem dL_law_451 : decode cL_law 451 = .ok (.aload_n 2, 1) := by decide +kernel
theorem dL_law_452 : decode cL_law 452 = .ok (.aload_n 0, 1) := by decide +kernel
theorem dL_law_453 : decode cL_law 453 = .ok (.iload_n 3, 1) := by decide +kernel
theorem dL_law_454 : decode cL_law 454 = .ok (.iconst 1, 1) := by decide +kernel
theorem dL_law_455 : decode cL_law 455 = .ok (.iadd, 1) := by decide +kernel
theorem dL_law_456 : decode cL_law 456 = .ok (.iaload, 1) := by decide +kernel
theorem dL_law_457 : decode cL_law 457 = .ok (.aload_n 0, 1) := by decide +kernel
theorem dL_law_458 : decode cL_law 458 = .ok (.iload_n 3, 1) := by decide +kernel
theorem dL_law_459 : decode cL_law 459 = .ok (.iconst 2, 1) := by decide +kernel
theorem dL_law_460 : decode cL_law 460 = .ok (.iadd, 1) := by decide +kernel
theorem dL_law_461 : decode cL_law 461 = .ok (.iaload, 1) := by decide +kernel
theorem dL_law_462 : decode cL_law 462 = .ok (.invokevirtual 63, 3) := by decide +kernel
theorem dL_law_465 : decode cL_law 465 = .ok (.if_icmp .eq 681, 3) := by decide +kernel
theorem dL_law_468 : decode cL_law 468 = .ok (.iconst 0, 1) := by decide +kernel
theorem dL_law_469 : decode cL_law 469 = .ok (.ireturn, 1) := by decide +kernel
theorem dL_law_470 : decode cL_law 470 = .ok (.aload_n 1, 1) := by decide +kernel
theorem dL_law_471 : decode cL_law 471 = .ok (.aload_n 0, 1) := by decide +kernel
theorem dL_law_472 : decode cL_law 472 = .ok (.iload_n 3, 1) := by decide +kernel
theorem dL_law_473 : decode cL_law 473 = .ok (.iconst 1, 1) := by decide +kernel
theorem dL_law_474 : decode cL_law 474 = .ok (.iadd, 1) := by decide +kernel
theorem dL_law_475 : decode cL_law 475 = .ok (.iaload, 1) := by decide +kernel
theorem dL_law_476 : decode cL_law 476 = .ok (.aload_n 0, 1) := by decide +kernel
theorem dL_law_477 : decode cL_law 477 = .ok (.iload_n 3, 1) := by decide +kernel
theorem dL_law_478 : decode cL_law 478 = .ok (.iconst 2, 1) := by decide +kernel
theorem dL_law_479 : decode cL_law 479 = .ok (.iadd, 1) := by decide +kernel
theorem dL_law_480 : decode cL_law 480 = .ok (.iaload, 1) := by decide +kernel
theorem dL_law_481 : decode cL_law 481 = .ok (.invokevirtual 64, 3) := by decide +kernel
theorem dL_law_484 : decode cL_law 484 = .ok (.aload_n 2, 1) := by decide +kernel
theorem dL_law_485 : decode cL_law 485 = .ok (.aload_n 0, 1) := by decide +kernel
theorem dL_law_486 : decode cL_law 486 = .ok (.iload_n 3, 1) := by decide +kernel
theorem dL_law_487 : decode cL_law 487 = .ok (.iconst 1, 1) := by decide +kernel
theorem dL_law_488 : decode cL_law 488 = .ok (.iadd, 1) := by decide +kernel
theorem dL_law_489 : decode cL_law 489 = .ok (.iaload, 1) := by decide +kernel
theorem dL_law_490 : decode cL_law 490 = .ok (.aload_n 0, 1) := by decide +kernel
theorem dL_law_491 : decode cL_law 491 = .ok (.iload_n 3, 1) := by decide +kernel
theorem dL_law_492 : decode cL_law 492 = .ok (.iconst 2, 1) := by decide +kernel
theorem dL_law_493 : decode cL_law 493 = .ok (.iadd, 1) := by decide +kernel
theorem dL_law_494 : decode cL_law 494 = .ok (.iaload, 1) := by decide +kernel
theorem dL_law_495 : decode cL_law 495 = .ok (.invokevirtual 67, 3) := by decide +kernel
theorem dL_law_498 : decode cL_law 498 = .ok (.if_icmp .eq 648, 3) := by decide +kernel
theorem dL_law_501 : decode cL_law 501 = .ok (.iconst 0, 1) := by decide +kernel
theorem dL_law_502 : decode cL_law 502 = .ok (.ireturn, 1) := by decide +kernel
theorem dL_law_503 : decode cL_law 503 = .ok (.aload_n 1, 1) := by decide +kernel
theorem dL_law_504 : decode cL_law 504 = .ok (.invokevirtual 68, 3) := by decide +kernel
theorem dL_law_507 : decode cL_law 507 = .ok (.aload_n 2, 1) := by decide +kernel
theorem dL_law_508 : decode cL_law 508 = .ok (.invokevirtual 71, 3) := by decide +kernel
theorem dL_law_511 : decode cL_law 511 = .ok (.if_icmp .eq 635, 3) := by decide +kernel
theorem dL_law_514 : decode cL_law 514 = .ok (.iconst 0, 1) := by decide +kernel
theorem dL_law_515 : decode cL_law 515 = .ok (.ireturn, 1) := by decide +kernel
theorem dL_law_516 : decode cL_law 516 = .ok (.aload_n 1, 1) := by decide +kernel
theorem dL_law_517 : decode cL_law 517 = .ok (.aload_n 0, 1) := by decide +kernel
theorem dL_law_518 : decode cL_law 518 = .ok (.iload_n 3, 1) := by decide +kernel
theorem dL_law_519 : decode cL_law 519 = .ok (.iconst 1, 1) := by decide +kernel
theorem dL_law_520 : decode cL_law 520 = .ok (.iadd, 1) := by decide +kernel
theorem dL_law_521 : decode cL_law 521 = .ok (.iaload, 1) := by decide +kernel
theorem dL_law_522 : decode cL_law 522 = .ok (.invokevirtual 72, 3) := by decide +kernel
theorem dL_law_525 : decode cL_law 525 = .ok (.aload_n 2, 1) := by decide +kernel
theorem dL_law_526 : decode cL_law 526 = .ok (.aload_n 0, 1) := by decide +kernel
theorem dL_law_527 : decode cL_law 527 = .ok (.iload_n 3, 1) := by decide +kernel
theorem dL_law_528 : decode cL_law 528 = .ok (.iconst 1, 1) := by decide +kernel
theorem dL_law_529 : decode cL_law 529 = .ok (.iadd, 1) := by decide +kernel
theorem dL_law_530 : decode cL_law 530 = .ok (.iaload, 1) := by decide +kernel
theorem dL_law_531 : decode cL_law 531 = .ok (.invokevirtual 75, 3) := by decide +kernel
theorem dL_law_534 : decode cL_law 534 = .ok (.if_icmp .eq 612, 3) := by decide +kernel
theorem dL_law_537 : decode cL_law 537 = .ok (.iconst 0, 1) := by decide +kernel
theorem dL_law_538 : decode cL_law 538 = .ok (.ireturn, 1) := by decide +kernel
theorem dL_law_539 : decode cL_law 539 = .ok (.aload_n 1, 1) := by decide +kernel
theorem dL_law_540 : decode cL_law 540 = .ok (.aload_n 0, 1) := by decide +kernel
theorem dL_law_541 : decode cL_law 541 = .ok (.iload_n 3, 1) := by decide +kernel
theorem dL_law_542 : decode cL_law 542 = .ok (.iconst 1, 1) := by decide +kernel
theorem dL_law_543 : decode cL_law 543 = .ok (.iadd, 1) := by decide +kernel
theorem dL_law_544 : decode cL_law 544 = .ok (.iaload, 1) := by decide +kernel
theorem dL_law_545 : decode cL_law 545 = .ok (.invokevirtual 76, 3) := by decide +kernel
theorem dL_law_548 : decode cL_law 548 = .ok (.aload_n 2, 1) := by decide +kernel
theorem dL_law_549 : decode cL_law 549 = .ok (.aload_n 0, 1) := by decide +kernel
theorem dL_law_550 : decode cL_law 550 = .ok (.iload_n 3, 1) := by decide +kernel
theorem dL_law_551 : decode cL_law 551 = .ok (.iconst 1, 1) := by decide +kernel
theorem dL_law_552 : decode cL_law 552 = .ok (.iadd, 1) := by decide +kernel
theorem dL_law_553 : decode cL_law 553 = .ok (.iaload, 1) := by decide +kernel
theorem dL_law_554 : decode cL_law 554 = .ok (.invokevirtual 79, 3) := by decide +kernel
theorem dL_law_557 : decode cL_law 557 = .ok (.if_icmp .eq 589, 3) := by decide +kernel
theorem dL_law_560 : decode cL_law 560 = .ok (.iconst 0, 1) := by decide +kernel
theorem dL_law_561 : decode cL_law 561 = .ok (.ireturn, 1) := by decide +kernel
theorem dL_law_562 : decode cL_law 562 = .ok (.aload_n 1, 1) := by decide +kernel
theorem dL_law_563 : decode cL_law 563 = .ok (.aload_n 0, 1) := by decide +kernel
theorem dL_law_564 : decode cL_law 564 = .ok (.iload_n 3, 1) := by decide +kernel
theorem dL_law_565 : decode cL_law 565 = .ok (.iconst 1, 1) := by decide +kernel
theorem dL_law_566 : decode cL_law 566 = .ok (.iadd, 1) := by decide +kernel
theorem dL_law_567 : decode cL_law 567 = .ok (.iaload, 1) := by decide +kernel
theorem dL_law_568 : decode cL_law 568 = .ok (.invokevirtual 80, 3) := by decide +kernel
theorem dL_law_571 : decode cL_law 571 = .ok (.aload_n 2, 1) := by decide +kernel
theorem dL_law_572 : decode cL_law 572 = .ok (.aload_n 0, 1) := by decide +kernel
theorem dL_law_573 : decode cL_law 573 = .ok (.iload_n 3, 1) := by decide +kernel
theorem dL_law_574 : decode cL_law 574 = .ok (.iconst 1, 1) := by decide +kernel
theorem dL_law_575 : decode cL_law 575 = .ok (.iadd, 1) := by decide +kernel
theorem dL_law_576 : decode cL_law 576 = .ok (.iaload, 1) := by decide +kernel
theorem dL_law_577 : decode cL_law 577 = .ok (.invokevirtual 83, 3) := by decide +kernel
theorem dL_law_580 : decode cL_law 580 = .ok (.if_icmp .eq 566, 3) := by decide +kernel
theorem dL_law_583 : decode cL_law 583 = .ok (.iconst 0, 1) := by decide +kernel
theorem dL_law_584 : decode cL_law 584 = .ok (.ireturn, 1) := by decide +kernel
theorem dL_law_585 : decode cL_law 585 = .ok (.aload_n 1, 1) := by decide +kernel
theorem dL_law_586 : decode cL_law 586 = .ok (.aload_n 0, 1) := by decide +kernel
theorem dL_law_587 : decode cL_law 587 = .ok (.iload_n 3, 1) := by decide +kernel
theorem dL_law_588 : decode cL_law 588 = .ok (.iconst 1, 1) := by decide +kernel
theorem dL_law_589 : decode cL_law 589 = .ok (.iadd, 1) := by decide +kernel
theorem dL_law_590 : decode cL_law 590 = .ok (.iaload, 1) := by decide +kernel
theorem dL_law_591 : decode cL_law 591 = .ok (.aload_n 0, 1) := by decide +kernel
theorem dL_law_592 : decode cL_law 592 = .ok (.iload_n 3, 1) := by decide +kernel
theorem dL_law_593 : decode cL_law 593 = .ok (.iconst 2, 1) := by decide +kernel
theorem dL_law_594 : decode cL_law 594 = .ok (.iadd, 1) := by decide +kernel
theorem dL_law_595 : decode cL_law 595 = .ok (.iaload, 1) := by decide +kernel
theorem dL_law_596 : decode cL_law 596 = .ok (.aload_n 0, 1) := by decide +kernel
theorem dL_law_597 : decode cL_law 597 = .ok (.iload_n 3, 1) := by decide +kernel
theorem dL_law_598 : decode cL_law 598 = .ok (.iconst 3, 1) := by decide +kernel
theorem dL_law_599 : decode cL_law 599 = .ok (.iadd, 1) := by decide +kernel
theorem dL_law_600 : decode cL_law 600 = .ok (.iaload, 1) := by decide +kernel
theorem dL_law_601 : decode cL_law 601 = .ok (.invokevirtual 84, 3) := by decide +kernel
theorem dL_law_604 : decode cL_law 604 = .ok (.aload_n 2, 1) := by decide +kernel
theorem dL_law_605 : decode cL_law 605 = .ok (.aload_n 0, 1) := by decide +kernel
theorem dL_law_606 : decode cL_law 606 = .ok (.iload_n 3, 1) := by decide +kernel
theorem dL_law_607 : decode cL_law 607 = .ok (.iconst 1, 1) := by decide +kernel
theorem dL_law_608 : decode cL_law 608 = .ok (.iadd, 1) := by decide +kernel
theorem dL_law_609 : decode cL_law 609 = .ok (.iaload, 1) := by decide +kernel
theorem dL_law_610 : decode cL_law 610 = .ok (.aload_n 0, 1) := by decide +kernel
theorem dL_law_611 : decode cL_law 611 = .ok (.iload_n 3, 1) := by decide +kernel
theorem dL_law_612 : decode cL_law 612 = .ok (.iconst 2, 1) := by decide +kernel
theorem dL_law_613 : decode cL_law 613 = .ok (.iadd, 1) := by decide +kernel
theorem dL_law_614 : decode cL_law 614 = .ok (.iaload, 1) := by decide +kernel
theorem dL_law_615 : decode cL_law 615 = .ok (.aload_n 0, 1) := by decide +kernel
theorem dL_law_616 : decode cL_law 616 = .ok (.iload_n 3, 1) := by decide +kernel
theorem dL_law_617 : decode cL_law 617 = .ok (.iconst 3, 1) := by decide +kernel
theorem dL_law_618 : decode cL_law 618 = .ok (.iadd, 1) := by decide +kernel
theorem dL_law_619 : decode cL_law 619 = .ok (.iaload, 1) := by decide +kernel
theorem dL_law_620 : decode cL_law 620 = .ok (.invokevirtual 88, 3) := by decide +kernel
theorem dL_law_623 : decode cL_law 623 = .ok (.if_icmp .eq 523, 3) := by decide +kernel
theorem dL_law_626 : decode cL_law 626 = .ok (.iconst 0, 1) := by decide +kernel
theorem dL_law_627 : decode cL_law 627 = .ok (.ireturn, 1) := by decide +kernel
theorem dL_law_628 : decode cL_law 628 = .ok (.aload_n 1, 1) := by decide +kernel
theorem dL_law_629 : decode cL_law 629 = .ok (.aload_n 0, 1) := by decide +kernel
theorem dL_law_630 : decode cL_law 630 = .ok (.iload_n 3, 1) := by decide +kernel
theorem dL_law_631 : decode cL_law 631 = .ok (.iconst 1, 1) := by decide +kernel
theorem dL_law_632 : decode cL_law 632 = .ok (.iadd, 1) := by decide +kernel
theorem dL_law_633 : decode cL_law 633 = .ok (.iaload, 1) := by decide +kernel
theorem dL_law_634 : decode cL_law 634 = .ok (.aload_n 0, 1) := by decide +kernel
theorem dL_law_635 : decode cL_law 635 = .ok (.iload_n 3, 1) := by decide +kernel
theorem dL_law_636 : decode cL_law 636 = .ok (.iconst 2, 1) := by decide +kernel
theorem dL_law_637 : decode cL_law 637 = .ok (.iadd, 1) := by decide +kernel
theorem dL_law_638 : decode cL_law 638 = .ok (.iaload, 1) := by decide +kernel
theorem dL_law_639 : decode cL_law 639 = .ok (.invokevirtual 89, 3) := by decide +kernel
theorem dL_law_642 : decode cL_law 642 = .ok (.aload_n 2, 1) := by decide +kernel
theorem dL_law_643 : decode cL_law 643 = .ok (.aload_n 0, 1) := by decide +kernel
theorem dL_law_644 : decode cL_law 644 = .ok (.iload_n 3, 1) := by decide +kernel
theorem dL_law_645 : decode cL_law 645 = .ok (.iconst 1, 1) := by decide +kernel
theorem dL_law_646 : decode cL_law 646 = .ok (.iadd, 1) := by decide +kernel
theorem dL_law_647 : decode cL_law 647 = .ok (.iaload, 1) := by decide +kernel
theorem dL_law_648 : decode cL_law 648 = .ok (.aload_n 0, 1) := by decide +kernel
theorem dL_law_649 : decode cL_law 649 = .ok (.iload_n 3, 1) := by decide +kernel
theorem dL_law_650 : decode cL_law 650 = .ok (.iconst 2, 1) := by decide +kernel
theorem dL_law_651 : decode cL_law 651 = .ok (.iadd, 1) := by decide +kernel
theorem dL_law_652 : decode cL_law 652 = .ok (.iaload, 1) := by decide +kernel
theorem dL_law_653 : decode cL_law 653 = .ok (.invokevirtual 92, 3) := by decide +kernel
theorem dL_law_656 : decode cL_law 656 = .ok (.if_icmp .eq 490, 3) := by decide +kernel
theorem dL_law_659 : decode cL_law 659 = .ok (.iconst 0, 1) := by decide +kernel
theorem dL_law_660 : decode cL_law 660 = .ok (.ireturn, 1) := by decide +kernel
theorem dL_law_661 : decode cL_law 661 = .ok (.aload_n 1, 1) := by decide +kernel
theorem dL_law_662 : decode cL_law 662 = .ok (.aload_n 0, 1) := by decide +kernel
theorem dL_law_663 : decode cL_law 663 = .ok (.iload_n 3, 1) := by decide +kernel
theorem dL_law_664 : decode cL_law 664 = .ok (.iconst 1, 1) := by decide +kernel
theorem dL_law_665 : decode cL_law 665 = .ok (.iadd, 1) := by decide +kernel
theorem dL_law_666 : decode cL_law 666 = .ok (.iaload, 1) := by decide +kernel
theorem dL_law_667 : decode cL_law 667 = .ok (.invokevirtual 93, 3) := by decide +kernel
theorem dL_law_670 : decode cL_law 670 = .ok (.aload_n 2, 1) := by decide +kernel
theorem dL_law_671 : decode cL_law 671 = .ok (.aload_n 0, 1) := by decide +kernel
theorem dL_law_672 : decode cL_law 672 = .ok (.iload_n 3, 1) := by decide +kernel
theorem dL_law_673 : decode cL_law 673 = .ok (.iconst 1, 1) := by decide +kernel
theorem dL_law_674 : decode cL_law 674 = .ok (.iadd, 1) := by decide +kernel
theorem dL_law_675 : decode cL_law 675 = .ok (.iaload, 1) := by decide +kernel
theorem dL_law_676 : decode cL_law 676 = .ok (.invokevirtual 96, 3) := by decide +kernel
theorem dL_law_679 : decode cL_law 679 = .ok (.if_icmp .eq 467, 3) := by decide +kernel
theorem dL_law_682 : decode cL_law 682 = .ok (.iconst 0, 1) := by decide +kernel
theorem dL_law_683 : decode cL_law 683 = .ok (.ireturn, 1) := by decide +kernel
theorem dL_law_684 : decode cL_law 684 = .ok (.aload_n 1, 1) := by decide +kernel
theorem dL_law_685 : decode cL_law 685 = .ok (.aload_n 0, 1) := by decide +kernel
theorem dL_law_686 : decode cL_law 686 = .ok (.iload_n 3, 1) := by decide +kernel
theorem dL_law_687 : decode cL_law 687 = .ok (.iconst 1, 1) := by decide +kernel
theorem dL_law_688 : decode cL_law 688 = .ok (.iadd, 1) := by decide +kernel
theorem dL_law_689 : decode cL_law 689 = .ok (.iaload, 1) := by decide +kernel
theorem dL_law_690 : decode cL_law 690 = .ok (.invokevirtual 97, 3) := by decide +kernel
theorem dL_law_693 : decode cL_law 693 = .ok (.aload_n 2, 1) := by decide +kernel
theorem dL_law_694 : decode cL_law 694 = .ok (.aload_n 0, 1) := by decide +kernel
theorem dL_law_695 : decode cL_law 695 = .ok (.iload_n 3, 1) := by decide +kernel
theorem dL_law_696 : decode cL_law 696 = .ok (.iconst 1, 1) := by decide +kernel
theorem dL_law_697 : decode cL_law 697 = .ok (.iadd, 1) := by decide +kernel
theorem dL_law_698 : decode cL_law 698 = .ok (.iaload, 1) := by decide +kernel
theorem dL_law_699 : decode cL_law 699 = .ok (.invokevirtual 100, 3) := by decide +kernel
theorem dL_law_702 : decode cL_law 702 = .ok (.if_icmp .eq 444, 3) := by decide +kernel
theorem dL_law_705 : decode cL_law 705 = .ok (.iconst 0, 1) := by decide +kernel
theorem dL_law_706 : decode cL_law 706 = .ok (.ireturn, 1) := by decide +kernel
theorem dL_law_707 : decode cL_law 707 = .ok (.aload_n 1, 1) := by decide +kernel
theorem dL_law_708 : decode cL_law 708 = .ok (.aload_n 0, 1) := by decide +kernel
theorem dL_law_709 : decode cL_law 709 = .ok (.iload_n 3, 1) := by decide +kernel
theorem dL_law_710 : decode cL_law 710 = .ok (.iconst 1, 1) := by decide +kernel
theorem dL_law_711 : decode cL_law 711 = .ok (.iadd, 1) := by decide +kernel
theorem dL_law_712 : decode cL_law 712 = .ok (.iaload, 1) := by decide +kernel
theorem dL_law_713 : decode cL_law 713 = .ok (.aload_n 0, 1) := by decide +kernel
theorem dL_law_714 : decode cL_law 714 = .ok (.iload_n 3, 1) := by decide +kernel
theorem dL_law_715 : decode cL_law 715 = .ok (.iconst 2, 1) := by decide +kernel
theorem dL_law_716 : decode cL_law 716 = .ok (.iadd, 1) := by decide +kernel
theorem dL_law_717 : decode cL_law 717 = .ok (.iaload, 1) := by decide +kernel
theorem dL_law_718 : decode cL_law 718 = .ok (.invokevirtual 101, 3) := by decide +kernel
theorem dL_law_721 : decode cL_law 721 = .ok (.aload_n 2, 1) := by decide +kernel
theorem dL_law_722 : decode cL_law 722 = .ok (.aload_n 0, 1) := by decide +kernel
theorem dL_law_723 : decode cL_law 723 = .ok (.iload_n 3, 1) := by decide +kernel
theorem dL_law_724 : decode cL_law 724 = .ok (.iconst 1, 1) := by decide +kernel
theorem dL_law_725 : decode cL_law 725 = .ok (.iadd, 1) := by decide +kernel
theorem dL_law_726 : decode cL_law 726 = .ok (.iaload, 1) := by decide +kernel
theorem dL_law_727 : decode cL_law 727 = .ok (.aload_n 0, 1) := by decide +kernel
theorem dL_law_728 : decode cL_law 728 = .ok (.iload_n 3, 1) := by decide +kernel
theorem dL_law_729 : decode cL_law 729 = .ok (.iconst 2, 1) := by decide +kernel
theorem dL_law_730 : decode cL_law 730 = .ok (.iadd, 1) := by decide +kernel
theorem dL_law_731 : decode cL_law 731 = .ok (.iaload, 1) := by decide +kernel
theorem dL_law_732 : decode cL_law 732 = .ok (.invokevirtual 104, 3) := by decide +kernel
theorem dL_law_735 : decode cL_law 735 = .ok (.if_icmp .eq 411, 3) := by decide +kernel
theorem dL_law_738 : decode cL_law 738 = .ok (.iconst 0, 1) := by decide +kernel
theorem dL_law_739 : decode cL_law 739 = .ok (.ireturn, 1) := by decide +kernel
theorem dL_law_740 : decode cL_law 740 = .ok (.aload_n 1, 1) := by decide +kernel
theorem dL_law_741 : decode cL_law 741 = .ok (.aload_n 0, 1) := by decide +kernel
theorem dL_law_742 : decode cL_law 742 = .ok (.iload_n 3, 1) := by decide +kernel
theorem dL_law_743 : decode cL_law 743 = .ok (.iconst 1, 1) := by decide +kernel
theorem dL_law_744 : decode cL_law 744 = .ok (.iadd, 1) := by decide +kernel
theorem dL_law_745 : decode cL_law 745 = .ok (.iaload, 1) := by decide +kernel
theorem dL_law_746 : decode cL_law 746 = .ok (.aload_n 0, 1) := by decide +kernel
theorem dL_law_747 : decode cL_law 747 = .ok (.iload_n 3, 1) := by decide +kernel
theorem dL_law_748 : decode cL_law 748 = .ok (.iconst 2, 1) := by decide +kernel
theorem dL_law_749 : decode cL_law 749 = .ok (.iadd, 1) := by decide +kernel
theorem dL_law_750 : decode cL_law 750 = .ok (.iaload, 1) := by decide +kernel
theorem dL_law_751 : decode cL_law 751 = .ok (.aload_n 0, 1) := by decide +kernel
theorem dL_law_752 : decode cL_law 752 = .ok (.iload_n 3, 1) := by decide +kernel
theorem dL_law_753 : decode cL_law 753 = .ok (.iconst 3, 1) := by decide +kernel
theorem dL_law_754 : decode cL_law 754 = .ok (.iadd, 1) := by decide +kernel
theorem dL_law_755 : decode cL_law 755 = .ok (.iaload, 1) := by decide +kernel
theorem dL_law_756 : decode cL_law 756 = .ok (.aload_n 0, 1) := by decide +kernel
theorem dL_law_757 : decode cL_law 757 = .ok (.iload_n 3, 1) := by decide +kernel
theorem dL_law_758 : decode cL_law 758 = .ok (.iconst 4, 1) := by decide +kernel
theorem dL_law_759 : decode cL_law 759 = .ok (.iadd, 1) := by decide +kernel
theorem dL_law_760 : decode cL_law 760 = .ok (.iaload, 1) := by decide +kernel
theorem dL_law_761 : decode cL_law 761 = .ok (.invokevirtual 105, 3) := by decide +kernel
theorem dL_law_764 : decode cL_law 764 = .ok (.aload_n 2, 1) := by decide +kernel
theorem dL_law_765 : decode cL_law 765 = .ok (.aload_n 0, 1) := by decide +kernel
theorem dL_law_766 : decode cL_law 766 = .ok (.iload_n 3, 1) := by decide +kernel
theorem dL_law_767 : decode cL_law 767 = .ok (.iconst 1, 1) := by decide +kernel
theorem dL_law_768 : decode cL_law 768 = .ok (.iadd, 1) := by decide +kernel
theorem dL_law_769 : decode cL_law 769 = .ok (.iaload, 1) := by decide +kernel
theorem dL_law_770 : decode cL_law 770 = .ok (.aload_n 0, 1) := by decide +kernel
theorem dL_law_771 : decode cL_law 771 = .ok (.iload_n 3, 1) := by decide +kernel
theorem dL_law_772 : decode cL_law 772 = .ok (.iconst 2, 1) := by decide +kernel
theorem dL_law_773 : decode cL_law 773 = .ok (.iadd, 1) := by decide +kernel
theorem dL_law_774 : decode cL_law 774 = .ok (.iaload, 1) := by decide +kernel
theorem dL_law_775 : decode cL_law 775 = .ok (.aload_n 0, 1) := by decide +kernel
theorem dL_law_776 : decode cL_law 776 = .ok (.iload_n 3, 1) := by decide +kernel
theorem dL_law_777 : decode cL_law 777 = .ok (.iconst 3, 1) := by decide +kernel
theorem dL_law_778 : decode cL_law 778 = .ok (.iadd, 1) := by decide +kernel
theorem dL_law_779 : decode cL_law 779 = .ok (.iaload, 1) := by decide +kernel
theorem dL_law_780 : decode cL_law 780 = .ok (.aload_n 0, 1) := by decide +kernel
theorem dL_law_781 : decode cL_law 781 = .ok (.iload_n 3, 1) := by decide +kernel
theorem dL_law_782 : decode cL_law 782 = .ok (.iconst 4, 1) := by decide +kernel
theorem dL_law_783 : decode cL_law 783 = .ok (.iadd, 1) := by decide +kernel
theorem dL_law_784 : decode cL_law 784 = .ok (.iaload, 1) := by decide +kernel
theorem dL_law_785 : decode cL_law 785 = .ok (.invokevirtual 109, 3) := by decide +kernel
theorem dL_law_788 : decode cL_law 788 = .ok (.if_icmp .eq 358, 3) := by decide +kernel
theorem dL_law_791 : decode cL_law 791 = .ok (.iconst 0, 1) := by decide +kernel
theorem dL_law_792 : decode cL_law 792 = .ok (.ireturn, 1) := by decide +kernel
theorem dL_law_793 : decode cL_law 793 = .ok (.aload_n 1, 1) := by decide +kernel
theorem dL_law_794 : decode cL_law 794 = .ok (.aload_n 0, 1) := by decide +kernel
theorem dL_law_795 : decode cL_law 795 = .ok (.iload_n 3, 1) := by decide +kernel
theorem dL_law_796 : decode cL_law 796 = .ok (.iconst 1, 1) := by decide +kernel
theorem dL_law_797 : decode cL_law 797 = .ok (.iadd, 1) := by decide +kernel
theorem dL_law_798 : decode cL_law 798 = .ok (.iaload, 1) := by decide +kernel
theorem dL_law_799 : decode cL_law 799 = .ok (.aload_n 0, 1) := by decide +kernel
theorem dL_law_800 : decode cL_law 800 = .ok (.iload_n 3, 1) := by decide +kernel
theorem dL_law_801 : decode cL_law 801 = .ok (.iconst 2, 1) := by decide +kernel
theorem dL_law_802 : decode cL_law 802 = .ok (.iadd, 1) := by decide +kernel
theorem dL_law_803 : decode cL_law 803 = .ok (.iaload, 1) := by decide +kernel
theorem dL_law_804 : decode cL_law 804 = .ok (.aload_n 0, 1) := by decide +kernel
theorem dL_law_805 : decode cL_law 805 = .ok (.iload_n 3, 1) := by decide +kernel
theorem dL_law_806 : decode cL_law 806 = .ok (.iconst 3, 1) := by decide +kernel
theorem dL_law_807 : decode cL_law 807 = .ok (.iadd, 1) := by decide +kernel
theorem dL_law_808 : decode cL_law 808 = .ok (.iaload, 1) := by decide +kernel
theorem dL_law_809 : decode cL_law 809 = .ok (.invokevirtual 110, 3) := by decide +kernel
theorem dL_law_812 : decode cL_law 812 = .ok (.aload_n 2, 1) := by decide +kernel
theorem dL_law_813 : decode cL_law 813 = .ok (.aload_n 0, 1) := by decide +kernel
theorem dL_law_814 : decode cL_law 814 = .ok (.iload_n 3, 1) := by decide +kernel
theorem dL_law_815 : decode cL_law 815 = .ok (.iconst 1, 1) := by decide +kernel
theorem dL_law_816 : decode cL_law 816 = .ok (.iadd, 1) := by decide +kernel
theorem dL_law_817 : decode cL_law 817 = .ok (.iaload, 1) := by decide +kernel
theorem dL_law_818 : decode cL_law 818 = .ok (.aload_n 0, 1) := by decide +kernel
theorem dL_law_819 : decode cL_law 819 = .ok (.iload_n 3, 1) := by decide +kernel
theorem dL_law_820 : decode cL_law 820 = .ok (.iconst 2, 1) := by decide +kernel
theorem dL_law_821 : decode cL_law 821 = .ok (.iadd, 1) := by decide +kernel
theorem dL_law_822 : decode cL_law 822 = .ok (.iaload, 1) := by decide +kernel
theorem dL_law_823 : decode cL_law 823 = .ok (.aload_n 0, 1) := by decide +kernel
theorem dL_law_824 : decode cL_law 824 = .ok (.iload_n 3, 1) := by decide +kernel
theorem dL_law_825 : decode cL_law 825 = .ok (.iconst 3, 1) := by decide +kernel
theorem dL_law_826 : decode cL_law 826 = .ok (.iadd, 1) := by decide +kernel
theorem dL_law_827 : decode cL_law 827 = .ok (.iaload, 1) := by decide +kernel
theorem dL_law_828 : decode cL_law 828 = .ok (.invokevirtual 113, 3) := by decide +kernel
theorem dL_law_831 : decode cL_law 831 = .ok (.if_icmp .eq 315, 3) := by decide +kernel
theorem dL_law_834 : decode cL_law 834 = .ok (.iconst 0, 1) := by decide +kernel
theorem dL_law_835 : decode cL_law 835 = .ok (.ireturn, 1) := by decide +kernel
theorem dL_law_836 : decode cL_law 836 = .ok (.aload_n 1, 1) := by decide +kernel
theorem dL_law_837 : decode cL_law 837 = .ok (.invokevirtual 114, 3) := by decide +kernel
theorem dL_law_840 : decode cL_law 840 = .ok (.aload_n 2, 1) := by decide +kernel
theorem dL_law_841 : decode cL_law 841 = .ok (.invokevirtual 117, 3) := by decide +kernel
theorem dL_law_844 : decode cL_law 844 = .ok (.if_icmp .eq 302, 3) := by decide +kernel
theorem dL_law_847 : decode cL_law 847 = .ok (.iconst 0, 1) := by decide +kernel
theorem dL_law_848 : decode cL_law 848 = .ok (.ireturn, 1) := by decide +kernel
theorem dL_law_849 : decode cL_law 849 = .ok (.aload_n 1, 1) := by decide +kernel
theorem dL_law_850 : decode cL_law 850 = .ok (.invokevirtual 118, 3) := by decide +kernel
theorem dL_law_853 : decode cL_law 853 = .ok (.aload_n 2, 1) := by decide +kernel
theorem dL_law_854 : decode cL_law 854 = .ok (.invokevirtual 121, 3) := by decide +kernel
theorem dL_law_857 : decode cL_law 857 = .ok (.if_icmp .eq 289, 3) := by decide +kernel
theorem dL_law_860 : decode cL_law 860 = .ok (.iconst 0, 1) := by decide +kernel
theorem dL_law_861 : decode cL_law 861 = .ok (.ireturn, 1) := by decide +kernel
theorem dL_law_862 : decode cL_law 862 = .ok (.aload_n 1, 1) := by decide +kernel
theorem dL_law_863 : decode cL_law 863 = .ok (.invokevirtual 122, 3) := by decide +kernel
theorem dL_law_866 : decode cL_law 866 = .ok (.aload_n 2, 1) := by decide +kernel
theorem dL_law_867 : decode cL_law 867 = .ok (.invokevirtual 125, 3) := by decide +kernel
theorem dL_law_870 : decode cL_law 870 = .ok (.if_icmp .eq 276, 3) := by decide +kernel
theorem dL_law_873 : decode cL_law 873 = .ok (.iconst 0, 1) := by decide +kernel
theorem dL_law_874 : decode cL_law 874 = .ok (.ireturn, 1) := by decide +kernel
theorem dL_law_875 : decode cL_law 875 = .ok (.aload_n 1, 1) := by decide +kernel
theorem dL_law_876 : decode cL_law 876 = .ok (.aload_n 0, 1) := by decide +kernel
theorem dL_law_877 : decode cL_law 877 = .ok (.iload_n 3, 1) := by decide +kernel
theorem dL_law_878 : decode cL_law 878 = .ok (.iconst 1, 1) := by decide +kernel
theorem dL_law_879 : decode cL_law 879 = .ok (.iadd, 1) := by decide +kernel
theorem dL_law_880 : decode cL_law 880 = .ok (.iaload, 1) := by decide +kernel
theorem dL_law_881 : decode cL_law 881 = .ok (.aload_n 0, 1) := by decide +kernel
theorem dL_law_882 : decode cL_law 882 = .ok (.iload_n 3, 1) := by decide +kernel
theorem dL_law_883 : decode cL_law 883 = .ok (.iconst 2, 1) := by decide +kernel
theorem dL_law_884 : decode cL_law 884 = .ok (.iadd, 1) := by decide +kernel
theorem dL_law_885 : decode cL_law 885 = .ok (.iaload, 1) := by decide +kernel
theorem dL_law_886 : decode cL_law 886 = .ok (.invokevirtual 126, 3) := by decide +kernel
theorem dL_law_889 : decode cL_law 889 = .ok (.aload_n 2, 1) := by decide +kernel
theorem dL_law_890 : decode cL_law 890 = .ok (.aload_n 0, 1) := by decide +kernel
theorem dL_law_891 : decode cL_law 891 = .ok (.iload_n 3, 1) := by decide +kernel
theorem dL_law_892 : decode cL_law 892 = .ok (.iconst 1, 1) := by decide +kernel
theorem dL_law_893 : decode cL_law 893 = .ok (.iadd, 1) := by decide +kernel
theorem dL_law_894 : decode cL_law 894 = .ok (.iaload, 1) := by decide +kernel
theorem dL_law_895 : decode cL_law 895 = .ok (.aload_n 0, 1) := by decide +kernel
theorem dL_law_896 : decode cL_law 896 = .ok (.iload_n 3, 1) := by decide +kernel
theorem dL_law_897 : decode cL_law 897 = .ok (.iconst 2, 1) := by decide +kernel
theorem dL_law_898 : decode cL_law 898 = .ok (.iadd, 1) := by decide +kernel
theorem dL_law_899 : decode cL_law 899 = .ok (.iaload, 1) := by decide +kernel
theorem dL_law_900 : decode cL_law 900 = .ok (.invokevirtual 129, 3) := by decide +kernel
theorem dL_law_903 : decode cL_law 903 = .ok (.if_icmp .eq 243, 3) := by decide +kernel
theorem dL_law_906 : decode cL_law 906 = .ok (.iconst 0, 1) := by decide +kernel
theorem dL_law_907 : decode cL_law 907 = .ok (.ireturn, 1) := by decide +kernel
theorem dL_law_908 : decode cL_law 908 = .ok (.aload_n 1, 1) := by decide +kernel
theorem dL_law_909 : decode cL_law 909 = .ok (.aload_n 0, 1) := by decide +kernel
theorem dL_law_910 : decode cL_law 910 = .ok (.iload_n 3, 1) := by decide +kernel
theorem dL_law_911 : decode cL_law 911 = .ok (.iconst 1, 1) := by decide +kernel
theorem dL_law_912 : decode cL_law 912 = .ok (.iadd, 1) := by decide +kernel
theorem dL_law_913 : decode cL_law 913 = .ok (.iaload, 1) := by decide +kernel
theorem dL_law_914 : decode cL_law 914 = .ok (.aload_n 0, 1) := by decide +kernel
theorem dL_law_915 : decode cL_law 915 = .ok (.iload_n 3, 1) := by decide +kernel
theorem dL_law_916 : decode cL_law 916 = .ok (.iconst 2, 1) := by decide +kernel
theorem dL_law_917 : decode cL_law 917 = .ok (.iadd, 1) := by decide +kernel
theorem dL_law_918 : decode cL_law 918 = .ok (.iaload, 1) := by decide +kernel
theorem dL_law_919 : decode cL_law 919 = .ok (.aload_n 0, 1) := by decide +kernel
theorem dL_law_920 : decode cL_law 920 = .ok (.iload_n 3, 1) := by decide +kernel
theorem dL_law_921 : decode cL_law 921 = .ok (.iconst 3, 1) := by decide +kernel
theorem dL_law_922 : decode cL_law 922 = .ok (.iadd, 1) := by decide +kernel
theorem dL_law_923 : decode cL_law 923 = .ok (.iaload, 1) := by decide +kernel
theorem dL_law_924 : decode cL_law 924 = .ok (.aload_n 0, 1) := by decide +kernel
theorem dL_law_925 : decode cL_law 925 = .ok (.iload_n 3, 1) := by decide +kernel
theorem dL_law_926 : decode cL_law 926 = .ok (.iconst 4, 1) := by decide +kernel
theorem dL_law_927 : decode cL_law 927 = .ok (.iadd, 1) := by decide +kernel
theorem dL_law_928 : decode cL_law 928 = .ok (.iaload, 1) := by decide +kernel
theorem dL_law_929 : decode cL_law 929 = .ok (.invokevirtual 130, 3) := by decide +kernel
theorem dL_law_932 : decode cL_law 932 = .ok (.aload_n 2, 1) := by decide +kernel
theorem dL_law_933 : decode cL_law 933 = .ok (.aload_n 0, 1) := by decide +kernel
theorem dL_law_934 : decode cL_law 934 = .ok (.iload_n 3, 1) := by decide +kernel
theorem dL_law_935 : decode cL_law 935 = .ok (.iconst 1, 1) := by decide +kernel
theorem dL_law_936 : decode cL_law 936 = .ok (.iadd, 1) := by decide +kernel
theorem dL_law_937 : decode cL_law 937 = .ok (.iaload, 1) := by decide +kernel
theorem dL_law_938 : decode cL_law 938 = .ok (.aload_n 0, 1) := by decide +kernel
theorem dL_law_939 : decode cL_law 939 = .ok (.iload_n 3, 1) := by decide +kernel
theorem dL_law_940 : decode cL_law 940 = .ok (.iconst 2, 1) := by decide +kernel
theorem dL_law_941 : decode cL_law 941 = .ok (.iadd, 1) := by decide +kernel
theorem dL_law_942 : decode cL_law 942 = .ok (.iaload, 1) := by decide +kernel
theorem dL_law_943 : decode cL_law 943 = .ok (.aload_n 0, 1) := by decide +kernel
theorem dL_law_944 : decode cL_law 944 = .ok (.iload_n 3, 1) := by decide +kernel
theorem dL_law_945 : decode cL_law 945 = .ok (.iconst 3, 1) := by decide +kernel
theorem dL_law_946 : decode cL_law 946 = .ok (.iadd, 1) := by decide +kernel
theorem dL_law_947 : decode cL_law 947 = .ok (.iaload, 1) := by decide +kernel
theorem dL_law_948 : decode cL_law 948 = .ok (.aload_n 0, 1) := by decide +kernel
theorem dL_law_949 : decode cL_law 949 = .ok (.iload_n 3, 1) := by decide +kernel
theorem dL_law_950 : decode cL_law 950 = .ok (.iconst 4, 1) := by decide +kernel
theorem dL_law_951 : decode cL_law 951 = .ok (.iadd, 1) := by decide +kernel
theorem dL_law_952 : decode cL_law 952 = .ok (.iaload, 1) := by decide +kernel
theorem dL_law_953 : decode cL_law 953 = .ok (.invokevirtual 133, 3) := by decide +kernel
theorem dL_law_956 : decode cL_law 956 = .ok (.if_icmp .eq 190, 3) := by decide +kernel
theorem dL_law_959 : decode cL_law 959 = .ok (.iconst 0, 1) := by decide +kernel
theorem dL_law_960 : decode cL_law 960 = .ok (.ireturn, 1) := by decide +kernel
theorem dL_law_961 : decode cL_law 961 = .ok (.aload_n 1, 1) := by decide +kernel
theorem dL_law_962 : decode cL_law 962 = .ok (.aload_n 0, 1) := by decide +kernel
theorem dL_law_963 : decode cL_law 963 = .ok (.iload_n 3, 1) := by decide +kernel
theorem dL_law_964 : decode cL_law 964 = .ok (.iconst 1, 1) := by decide +kernel
theorem dL_law_965 : decode cL_law 965 = .ok (.iadd, 1) := by decide +kernel
theorem dL_law_966 : decode cL_law 966 = .ok (.iaload, 1) := by decide +kernel
theorem dL_law_967 : decode cL_law 967 = .ok (.aload_n 0, 1) := by decide +kernel
theorem dL_law_968 : decode cL_law 968 = .ok (.iload_n 3, 1) := by decide +kernel
theorem dL_law_969 : decode cL_law 969 = .ok (.iconst 2, 1) := by decide +kernel
theorem dL_law_970 : decode cL_law 970 = .ok (.iadd, 1) := by decide +kernel
theorem dL_law_971 : decode cL_law 971 = .ok (.iaload, 1) := by decide +kernel
theorem dL_law_972 : decode cL_law 972 = .ok (.aload_n 0, 1) := by decide +kernel
theorem dL_law_973 : decode cL_law 973 = .ok (.iload_n 3, 1) := by decide +kernel
theorem dL_law_974 : decode cL_law 974 = .ok (.iconst 3, 1) := by decide +kernel
theorem dL_law_975 : decode cL_law 975 = .ok (.iadd, 1) := by decide +kernel
theorem dL_law_976 : decode cL_law 976 = .ok (.iaload, 1) := by decide +kernel
theorem dL_law_977 : decode cL_law 977 = .ok (.invokevirtual 134, 3) := by decide +kernel
theorem dL_law_980 : decode cL_law 980 = .ok (.aload_n 2, 1) := by decide +kernel
theorem dL_law_981 : decode cL_law 981 = .ok (.aload_n 0, 1) := by decide +kernel
theorem dL_law_982 : decode cL_law 982 = .ok (.iload_n 3, 1) := by decide +kernel
theorem dL_law_983 : decode cL_law 983 = .ok (.iconst 1, 1) := by decide +kernel
theorem dL_law_984 : decode cL_law 984 = .ok (.iadd, 1) := by decide +kernel
theorem dL_law_985 : decode cL_law 985 = .ok (.iaload, 1) := by decide +kernel
theorem dL_law_986 : decode cL_law 986 = .ok (.aload_n 0, 1) := by decide +kernel
theorem dL_law_987 : decode cL_law 987 = .ok (.iload_n 3, 1) := by decide +kernel
theorem dL_law_988 : decode cL_law 988 = .ok (.iconst 2, 1) := by decide +kernel
theorem dL_law_989 : decode cL_law 989 = .ok (.iadd, 1) := by decide +kernel
theorem dL_law_990 : decode cL_law 990 = .ok (.iaload, 1) := by decide +kernel
theorem dL_law_991 : decode cL_law 991 = .ok (.aload_n 0, 1) := by decide +kernel
theorem dL_law_992 : decode cL_law 992 = .ok (.iload_n 3, 1) := by decide +kernel
theorem dL_law_993 : decode cL_law 993 = .ok (.iconst 3, 1) := by decide +kernel
theorem dL_law_994 : decode cL_law 994 = .ok (.iadd, 1) := by decide +kernel
theorem dL_law_995 : decode cL_law 995 = .ok (.iaload, 1) := by decide +kernel
theorem dL_law_996 : decode cL_law 996 = .ok (.invokevirtual 137, 3) := by decide +kernel
theorem dL_law_999 : decode cL_law 999 = .ok (.if_icmp .eq 147, 3) := by decide +kernel
theorem dL_law_1002 : decode cL_law 1002 = .ok (.iconst 0, 1) := by decide +kernel
theorem dL_law_1003 : decode cL_law 1003 = .ok (.ireturn, 1) := by decide +kernel
theorem dL_law_1004 : decode cL_law 1004 = .ok (.aload_n 1, 1) := by decide +kernel
theorem dL_law_1005 : decode cL_law 1005 = .ok (.aload_n 0, 1) := by decide +kernel
theorem dL_law_1006 : decode cL_law 1006 = .ok (.iload_n 3, 1) := by decide +kernel
theorem dL_law_1007 : decode cL_law 1007 = .ok (.iconst 1, 1) := by decide +kernel
theorem dL_law_1008 : decode cL_law 1008 = .ok (.iadd, 1) := by decide +kernel
theorem dL_law_1009 : decode cL_law 1009 = .ok (.iaload, 1) := by decide +kernel
theorem dL_law_1010 : decode cL_law 1010 = .ok (.aload_n 0, 1) := by decide +kernel
theorem dL_law_1011 : decode cL_law 1011 = .ok (.iload_n 3, 1) := by decide +kernel
theorem dL_law_1012 : decode cL_law 1012 = .ok (.iconst 2, 1) := by decide +kernel
theorem dL_law_1013 : decode cL_law 1013 = .ok (.iadd, 1) := by decide +kernel
theorem dL_law_1014 : decode cL_law 1014 = .ok (.iaload, 1) := by decide +kernel
theorem dL_law_1015 : decode cL_law 1015 = .ok (.invokevirtual 138, 3) := by decide +kernel
theorem dL_law_1018 : decode cL_law 1018 = .ok (.aload_n 2, 1) := by decide +kernel
theorem dL_law_1019 : decode cL_law 1019 = .ok (.aload_n 0, 1) := by decide +kernel
theorem dL_law_1020 : decode cL_law 1020 = .ok (.iload_n 3, 1) := by decide +kernel
theorem dL_law_1021 : decode cL_law 1021 = .ok (.iconst 1, 1) := by decide +kernel
theorem dL_law_1022 : decode cL_law 1022 = .ok (.iadd, 1) := by decide +kernel
theorem dL_law_1023 : decode cL_law 1023 = .ok (.iaload, 1) := by decide +kernel
theorem dL_law_1024 : decode cL_law 1024 = .ok (.aload_n 0, 1) := by decide +kernel
theorem dL_law_1025 : decode cL_law 1025 = .ok (.iload_n 3, 1) := by decide +kernel
theorem dL_law_1026 : decode cL_law 1026 = .ok (.iconst 2, 1) := by decide +kernel
theorem dL_law_1027 : decode cL_law 1027 = .ok (.iadd, 1) := by decide +kernel
theorem dL_law_1028 : decode cL_law 1028 = .ok (.iaload, 1) := by decide +kernel
theorem dL_law_1029 : decode cL_law 1029 = .ok (.invokevirtual 141, 3) := by decide +kernel
theorem dL_law_1032 : decode cL_law 1032 = .ok (.if_icmp .eq 114, 3) := by decide +kernel
theorem dL_law_1035 : decode cL_law 1035 = .ok (.iconst 0, 1) := by decide +kernel
theorem dL_law_1036 : decode cL_law 1036 = .ok (.ireturn, 1) := by decide +kernel
theorem dL_law_1037 : decode cL_law 1037 = .ok (.aload_n 1, 1) := by decide +kernel
theorem dL_law_1038 : decode cL_law 1038 = .ok (.aload_n 0, 1) := by decide +kernel
theorem dL_law_1039 : decode cL_law 1039 = .ok (.iload_n 3, 1) := by decide +kernel
theorem dL_law_1040 : decode cL_law 1040 = .ok (.iconst 1, 1) := by decide +kernel
theorem dL_law_1041 : decode cL_law 1041 = .ok (.iadd, 1) := by decide +kernel
theorem dL_law_1042 : decode cL_law 1042 = .ok (.iaload, 1) := by decide +kernel
theorem dL_law_1043 : decode cL_law 1043 = .ok (.aload_n 0, 1) := by decide +kernel
theorem dL_law_1044 : decode cL_law 1044 = .ok (.iload_n 3, 1) := by decide +kernel
theorem dL_law_1045 : decode cL_law 1045 = .ok (.iconst 2, 1) := by decide +kernel
theorem dL_law_1046 : decode cL_law 1046 = .ok (.iadd, 1) := by decide +kernel
theorem dL_law_1047 : decode cL_law 1047 = .ok (.iaload, 1) := by decide +kernel
theorem dL_law_1048 : decode cL_law 1048 = .ok (.aload_n 0, 1) := by decide +kernel
theorem dL_law_1049 : decode cL_law 1049 = .ok (.iload_n 3, 1) := by decide +kernel
theorem dL_law_1050 : decode cL_law 1050 = .ok (.iconst 3, 1) := by decide +kernel
theorem dL_law_1051 : decode cL_law 1051 = .ok (.iadd, 1) := by decide +kernel
theorem dL_law_1052 : decode cL_law 1052 = .ok (.iaload, 1) := by decide +kernel
theorem dL_law_1053 : decode cL_law 1053 = .ok (.aload_n 0, 1) := by decide +kernel
theorem dL_law_1054 : decode cL_law 1054 = .ok (.iload_n 3, 1) := by decide +kernel
theorem dL_law_1055 : decode cL_law 1055 = .ok (.iconst 4, 1) := by decide +kernel
theorem dL_law_1056 : decode cL_law 1056 = .ok (.iadd, 1) := by decide +kernel
theorem dL_law_1057 : decode cL_law 1057 = .ok (.iaload, 1) := by decide +kernel
theorem dL_law_1058 : decode cL_law 1058 = .ok (.aload_n 0, 1) := by decide +kernel
theorem dL_law_1059 : decode cL_law 1059 = .ok (.iload_n 3, 1) := by decide +kernel
theorem dL_law_1060 : decode cL_law 1060 = .ok (.iconst 5, 1) := by decide +kernel
theorem dL_law_1061 : decode cL_law 1061 = .ok (.iadd, 1) := by decide +kernel
theorem dL_law_1062 : decode cL_law 1062 = .ok (.iaload, 1) := by decide +kernel
theorem dL_law_1063 : decode cL_law 1063 = .ok (.invokevirtual 142, 3) := by decide +kernel
theorem dL_law_1066 : decode cL_law 1066 = .ok (.aload_n 2, 1) := by decide +kernel
theorem dL_law_1067 : decode cL_law 1067 = .ok (.aload_n 0, 1) := by decide +kernel
theorem dL_law_1068 : decode cL_law 1068 = .ok (.iload_n 3, 1) := by decide +kernel
theorem dL_law_1069 : decode cL_law 1069 = .ok (.iconst 1, 1) := by decide +kernel
theorem dL_law_1070 : decode cL_law 1070 = .ok (.iadd, 1) := by decide +kernel
theorem dL_law_1071 : decode cL_law 1071 = .ok (.iaload, 1) := by decide +kernel
theorem dL_law_1072 : decode cL_law 1072 = .ok (.aload_n 0, 1) := by decide +kernel
theorem dL_law_1073 : decode cL_law 1073 = .ok (.iload_n 3, 1) := by decide +kernel
theorem dL_law_1074 : decode cL_law 1074 = .ok (.iconst 2, 1) := by decide +kernel
theorem dL_law_1075 : decode cL_law 1075 = .ok (.iadd, 1) := by decide +kernel
theorem dL_law_1076 : decode cL_law 1076 = .ok (.iaload, 1) := by decide +kernel
theorem dL_law_1077 : decode cL_law 1077 = .ok (.aload_n 0, 1) := by decide +kernel
theorem dL_law_1078 : decode cL_law 1078 = .ok (.iload_n 3, 1) := by decide +kernel
theorem dL_law_1079 : decode cL_law 1079 = .ok (.iconst 3, 1) := by decide +kernel
theorem dL_law_1080 : decode cL_law 1080 = .ok (.iadd, 1) := by decide +kernel
theorem dL_law_1081 : decode cL_law 1081 = .ok (.iaload, 1) := by decide +kernel
theorem dL_law_1082 : decode cL_law 1082 = .ok (.aload_n 0, 1) := by decide +kernel
theorem dL_law_1083 : decode cL_law 1083 = .ok (.iload_n 3, 1) := by decide +kernel
theorem dL_law_1084 : decode cL_law 1084 = .ok (.iconst 4, 1) := by decide +kernel
theorem dL_law_1085 : decode cL_law 1085 = .ok (.iadd, 1) := by decide +kernel
theorem dL_law_1086 : decode cL_law 1086 = .ok (.iaload, 1) := by decide +kernel
theorem dL_law_1087 : decode cL_law 1087 = .ok (.aload_n 0, 1) := by decide +kernel
theorem dL_law_1088 : decode cL_law 1088 = .ok (.iload_n 3, 1) := by decide +kernel
theorem dL_law_1089 : decode cL_law 1089 = .ok (.iconst 5, 1) := by decide +kernel
theorem dL_law_1090 : decode cL_law 1090 = .ok (.iadd, 1) := by decide +kernel
theorem dL_law_1091 : decode cL_law 1091 = .ok (.iaload, 1) := by decide +kernel
theorem dL_law_1092 : decode cL_law 1092 = .ok (.invokevirtual 146, 3) := by decide +kernel
theorem dL_law_1095 : decode cL_law 1095 = .ok (.if_icmp .eq 51, 3) := by decide +kernel
theorem dL_law_1098 : decode cL_law 1098 = .ok (.iconst 0, 1) := by decide +kernel
theorem dL_law_1099 : decode cL_law 1099 = .ok (.ireturn, 1) := by decide +kernel
theorem dL_law_1100 : decode cL_law 1100 = .ok (.aload_n 1, 1) := by decide +kernel
theorem dL_law_1101 : decode cL_law 1101 = .ok (.aload_n 0, 1) := by decide +kernel
theorem dL_law_1102 : decode cL_law 1102 = .ok (.iload_n 3, 1) := by decide +kernel
theorem dL_law_1103 : decode cL_law 1103 = .ok (.iconst 1, 1) := by decide +kernel
theorem dL_law_1104 : decode cL_law 1104 = .ok (.iadd, 1) := by decide +kernel
theorem dL_law_1105 : decode cL_law 1105 = .ok (.iaload, 1) := by decide +kernel
theorem dL_law_1106 : decode cL_law 1106 = .ok (.invokevirtual 147, 3) := by decide +kernel
theorem dL_law_1109 : decode cL_law 1109 = .ok (.aload_n 2, 1) := by decide +kernel
theorem dL_law_1110 : decode cL_law 1110 = .ok (.aload_n 0, 1) := by decide +kernel
theorem dL_law_1111 : decode cL_law 1111 = .ok (.iload_n 3, 1) := by decide +kernel
theorem dL_law_1112 : decode cL_law 1112 = .ok (.iconst 1, 1) := by decide +kernel
theorem dL_law_1113 : decode cL_law 1113 = .ok (.iadd, 1) := by decide +kernel
theorem dL_law_1114 : decode cL_law 1114 = .ok (.iaload, 1) := by decide +kernel
theorem dL_law_1115 : decode cL_law 1115 = .ok (.invokevirtual 150, 3) := by decide +kernel
theorem dL_law_1118 : decode cL_law 1118 = .ok (.if_icmp .eq 28, 3) := by decide +kernel
theorem dL_law_1121 : decode cL_law 1121 = .ok (.iconst 0, 1) := by decide +kernel
theorem dL_law_1122 : decode cL_law 1122 = .ok (.ireturn, 1) := by decide +kernel
theorem dL_law_1123 : decode cL_law 1123 = .ok (.aload_n 1, 1) := by decide +kernel
theorem dL_law_1124 : decode cL_law 1124 = .ok (.aload_n 0, 1) := by decide +kernel
theorem dL_law_1125 : decode cL_law 1125 = .ok (.iload_n 3, 1) := by decide +kernel
theorem dL_law_1126 : decode cL_law 1126 = .ok (.iconst 1, 1) := by decide +kernel
theorem dL_law_1127 : decode cL_law 1127 = .ok (.iadd, 1) := by decide +kernel
theorem dL_law_1128 : decode cL_law 1128 = .ok (.iaload, 1) := by decide +kernel
theorem dL_law_1129 : decode cL_law 1129 = .ok (.invokevirtual 151, 3) := by decide +kernel
theorem dL_law_1132 : decode cL_law 1132 = .ok (.aload_n 2, 1) := by decide +kernel
theorem dL_law_1133 : decode cL_law 1133 = .ok (.aload_n 0, 1) := by decide +kernel
theorem dL_law_1134 : decode cL_law 1134 = .ok (.iload_n 3, 1) := by decide +kernel
theorem dL_law_1135 : decode cL_law 1135 = .ok (.iconst 1, 1) := by decide +kernel
theorem dL_law_1136 : decode cL_law 1136 = .ok (.iadd, 1) := by decide +kernel
theorem dL_law_1137 : decode cL_law 1137 = .ok (.iaload, 1) := by decide +kernel
theorem dL_law_1138 : decode cL_law 1138 = .ok (.invokevirtual 154, 3) := by decide +kernel
theorem dL_law_1141 : decode cL_law 1141 = .ok (.if_icmp .eq 5, 3) := by decide +kernel
theorem dL_law_1144 : decode cL_law 1144 = .ok (.iconst 0, 1) := by decide +kernel
theorem dL_law_1145 : decode cL_law 1145 = .ok (.ireturn, 1) := by decide +kernel
theorem dL_law_1146 : decode cL_law 1146 = .ok (.iinc 3 6, 3) := by decide +kernel
theorem dL_law_1149 : decode cL_law 1149 = .ok (.goto (-1131), 3) := by decide +kernel
theorem dL_law_1152 : decode cL_law 1152 = .ok (.iconst 1, 1) := by decide +kernel
theorem dL_law_1153 : decode cL_law 1153 = .ok (.ireturn, 1) := by decide +kernel
