theorem dX11_lead_51 : decode cX11_lead 51 = .ok (.invokevirtual 161, 3) := by decide +kernel
theorem dX11_lead_54 : decode cX11_lead 54 = .ok (.aload_n 0, 1) := by decide +kernel
theorem dX11_lead_55 : decode cX11_lead 55 = .ok (.getfield 37, 3) := by decide +kernel
theorem dX11_lead_58 : decode cX11_lead 58 = .ok (.getfield 118, 3) := by decide +kernel
theorem dX11_lead_61 : decode cX11_lead 61 = .ok (.iload_n 1, 1) := by decide +kernel
theorem dX11_lead_62 : decode cX11_lead 62 = .ok (.iload_n 2, 1) := by decide +kernel
theorem dX11_lead_63 : decode cX11_lead 63 = .ok (.iastore, 1) := by decide +kernel
theorem dX11_lead_64 : decode cX11_lead 64 = .ok (.iload_n 3, 1) := by decide +kernel
theorem dX11_lead_65 : decode cX11_lead 65 = .ok (.ireturn, 1) := by decide +kernel
theorem dX11_turn_0 : decode cX11_turn 0 = .ok (.aload_n 0, 1) := by decide +kernel
theorem dX11_turn_1 : decode cX11_turn 1 = .ok (.getfield 10, 3) := by decide +kernel
theorem dX11_turn_4 : decode cX11_turn 4 = .ok (.iload_n 1, 1) := by decide +kernel
theorem dX11_turn_5 : decode cX11_turn 5 = .ok (.invokevirtual 130, 3) := by decide +kernel
theorem dX11_turn_8 : decode cX11_turn 8 = .ok (.ifCond .eq 14, 3) := by decide +kernel
theorem dX11_turn_11 : decode cX11_turn 11 = .ok (.aload_n 0, 1) := by decide +kernel
theorem dX11_turn_12 : decode cX11_turn 12 = .ok (.getfield 10, 3) := by decide +kernel
theorem dX11_turn_15 : decode cX11_turn 15 = .ok (.iload_n 2, 1) := by decide +kernel
theorem dX11_turn_16 : decode cX11_turn 16 = .ok (.invokevirtual 142, 3) := by decide +kernel
theorem dX11_turn_19 : decode cX11_turn 19 = .ok (.ifCond .ne 6, 3) := by decide +kernel
theorem dX11_turn_22 : decode cX11_turn 22 = .ok (.bipush (-2), 2) := by decide +kernel
theorem dX11_turn_24 : decode cX11_turn 24 = .ok (.ireturn, 1) := by decide +kernel
theorem dX11_turn_25 : decode cX11_turn 25 = .ok (.aload_n 0, 1) := by decide +kernel
theorem dX11_turn_26 : decode cX11_turn 26 = .ok (.getfield 37, 3) := by decide +kernel
theorem dX11_turn_29 : decode cX11_turn 29 = .ok (.getfield 136, 3) := by decide +kernel
theorem dX11_turn_32 : decode cX11_turn 32 = .ok (.iload_n 1, 1) := by decide +kernel
theorem dX11_turn_33 : decode cX11_turn 33 = .ok (.iaload, 1) := by decide +kernel
theorem dX11_turn_34 : decode cX11_turn 34 = .ok (.istore_n 3, 1) := by decide +kernel
theorem dX11_turn_35 : decode cX11_turn 35 = .ok (.iload_n 3, 1) := by decide +kernel
theorem dX11_turn_36 : decode cX11_turn 36 = .ok (.iload_n 2, 1) := by decide +kernel
theorem dX11_turn_37 : decode cX11_turn 37 = .ok (.if_icmp .ne 6, 3) := by decide +kernel
theorem dX11_turn_40 : decode cX11_turn 40 = .ok (.bipush (-4), 2) := by decide +kernel
theorem dX11_turn_42 : decode cX11_turn 42 = .ok (.ireturn, 1) := by decide +kernel
theorem dX11_turn_43 : decode cX11_turn 43 = .ok (.aload_n 0, 1) := by decide +kernel
theorem dX11_turn_44 : decode cX11_turn 44 = .ok (.getfield 47, 3) := by decide +kernel
theorem dX11_turn_47 : decode cX11_turn 47 = .ok (.aload_n 0, 1) := by decide +kernel
theorem dX11_turn_48 : decode cX11_turn 48 = .ok (.getfield 37, 3) := by decide +kernel
theorem dX11_turn_51 : decode cX11_turn 51 = .ok (.invokevirtual 161, 3) := by decide +kernel
theorem dX11_turn_54 : decode cX11_turn 54 = .ok (.aload_n 0, 1) := by decide +kernel
theorem dX11_turn_55 : decode cX11_turn 55 = .ok (.getfield 37, 3) := by decide +kernel
theorem dX11_turn_58 : decode cX11_turn 58 = .ok (.getfield 136, 3) := by decide +kernel
theorem dX11_turn_61 : decode cX11_turn 61 = .ok (.iload_n 1, 1) := by decide +kernel
theorem dX11_turn_62 : decode cX11_turn 62 = .ok (.iload_n 2, 1) := by decide +kernel
theorem dX11_turn_63 : decode cX11_turn 63 = .ok (.iastore, 1) := by decide +kernel
theorem dX11_turn_64 : decode cX11_turn 64 = .ok (.iload_n 3, 1) := by decide +kernel
theorem dX11_turn_65 : decode cX11_turn 65 = .ok (.ireturn, 1) := by decide +kernel
theorem dX11_undo_0 : decode cX11_undo 0 = .ok (.aload_n 0, 1) := by decide +kernel
theorem dX11_undo_1 : decode cX11_undo 1 = .ok (.getfield 47, 3) := by decide +kernel
theorem dX11_undo_4 : decode cX11_undo 4 = .ok (.getfield 174, 3) := by decide +kernel
theorem dX11_undo_7 : decode cX11_undo 7 = .ok (.ifCond .ne 6, 3) := by decide +kernel
theorem dX11_undo_10 : decode cX11_undo 10 = .ok (.bipush (-4), 2) := by decide +kernel
theorem dX11_undo_12 : decode cX11_undo 12 = .ok (.ireturn, 1) := by decide +kernel
theorem dX11_undo_13 : decode cX11_undo 13 = .ok (.aload_n 0, 1) := by decide +kernel
theorem dX11_undo_14 : decode cX11_undo 14 = .ok (.getfield 47, 3) := by decide +kernel
theorem dX11_undo_17 : decode cX11_undo 17 = .ok (.aload_n 0, 1) := by decide +kernel
theorem dX11_undo_18 : decode cX11_undo 18 = .ok (.getfield 37, 3) := by decide +kernel
theorem dX11_undo_21 : decode cX11_undo 21 = .ok (.invokevirtual 177, 3) := by decide +kernel
theorem dX11_undo_24 : decode cX11_undo 24 = .ok (.aload_n 0, 1) := by decide +kernel
theorem dX11_undo_25 : decode cX11_undo 25 = .ok (.getfield 47, 3) := by decide +kernel
theorem dX11_undo_28 : decode cX11_undo 28 = .ok (.getfield 174, 3) := by decide +kernel
theorem dX11_undo_31 : decode cX11_undo 31 = .ok (.ireturn, 1) := by decide +kernel
theorem dX11_keep_0 : decode cX11_keep 0 = .ok (.iload_n 1, 1) := by decide +kernel
theorem dX11_keep_1 : decode cX11_keep 1 = .ok (.ifCond .lt 8, 3) := by decide +kernel
theorem dX11_keep_4 : decode cX11_keep 4 = .ok (.iload_n 1, 1) := by decide +kernel
theorem dX11_keep_5 : decode cX11_keep 5 = .ok (.iconst 2, 1) := by decide +kernel
theorem dX11_keep_6 : decode cX11_keep 6 = .ok (.if_icmp .lt 6, 3) := by decide +kernel
theorem dX11_keep_9 : decode cX11_keep 9 = .ok (.bipush (-2), 2) := by decide +kernel
theorem dX11_keep_11 : decode cX11_keep 11 = .ok (.ireturn, 1) := by decide +kernel
theorem dX11_keep_12 : decode cX11_keep 12 = .ok (.aload_n 0, 1) := by decide +kernel
theorem dX11_keep_13 : decode cX11_keep 13 = .ok (.getfield 51, 3) := by decide +kernel
theorem dX11_keep_16 : decode cX11_keep 16 = .ok (.iload_n 1, 1) := by decide +kernel
theorem dX11_keep_17 : decode cX11_keep 17 = .ok (.aaload, 1) := by decide +kernel
theorem dX11_keep_18 : decode cX11_keep 18 = .ok (.aload_n 0, 1) := by decide +kernel
theorem dX11_keep_19 : decode cX11_keep 19 = .ok (.getfield 37, 3) := by decide +kernel
theorem dX11_keep_22 : decode cX11_keep 22 = .ok (.invokevirtual 180, 3) := by decide +kernel
theorem dX11_keep_25 : decode cX11_keep 25 = .ok (.aload_n 0, 1) := by decide +kernel
theorem dX11_keep_26 : decode cX11_keep 26 = .ok (.getfield 55, 3) := by decide +kernel
theorem dX11_keep_29 : decode cX11_keep 29 = .ok (.iload_n 1, 1) := by decide +kernel
theorem dX11_keep_30 : decode cX11_keep 30 = .ok (.iconst 1, 1) := by decide +kernel
theorem dX11_keep_31 : decode cX11_keep 31 = .ok (.bastore, 1) := by decide +kernel
theorem dX11_keep_32 : decode cX11_keep 32 = .ok (.aload_n 0, 1) := by decide +kernel
theorem dX11_keep_33 : decode cX11_keep 33 = .ok (.getfield 37, 3) := by decide +kernel
theorem dX11_keep_36 : decode cX11_keep 36 = .ok (.getfield 158, 3) := by decide +kernel
theorem dX11_keep_39 : decode cX11_keep 39 = .ok (.ireturn, 1) := by decide +kernel
theorem dX11_back_0 : decode cX11_back 0 = .ok (.iload_n 1, 1) := by decide +kernel
theorem dX11_back_1 : decode cX11_back 1 = .ok (.ifCond .lt 8, 3) := by decide +kernel
theorem dX11_back_4 : decode cX11_back 4 = .ok (.iload_n 1, 1) := by decide +kernel
theorem dX11_back_5 : decode cX11_back 5 = .ok (.iconst 2, 1) := by decide +kernel
theorem dX11_back_6 : decode cX11_back 6 = .ok (.if_icmp .lt 6, 3) := by decide +kernel
theorem dX11_back_9 : decode cX11_back 9 = .ok (.bipush (-2), 2) := by decide +kernel
theorem dX11_back_11 : decode cX11_back 11 = .ok (.ireturn, 1) := by decide +kernel
theorem dX11_back_12 : decode cX11_back 12 = .ok (.aload_n 0, 1) := by decide +kernel
theorem dX11_back_13 : decode cX11_back 13 = .ok (.getfield 55, 3) := by decide +kernel
theorem dX11_back_16 : decode cX11_back 16 = .ok (.iload_n 1, 1) := by decide +kernel
theorem dX11_back_17 : decode cX11_back 17 = .ok (.baload, 1) := by decide +kernel
theorem dX11_back_18 : decode cX11_back 18 = .ok (.ifCond .ne 6, 3) := by decide +kernel
theorem dX11_back_21 : decode cX11_back 21 = .ok (.bipush (-4), 2) := by decide +kernel
theorem dX11_back_23 : decode cX11_back 23 = .ok (.ireturn, 1) := by decide +kernel
theorem dX11_back_24 : decode cX11_back 24 = .ok (.aload_n 0, 1) := by decide +kernel
theorem dX11_back_25 : decode cX11_back 25 = .ok (.getfield 37, 3) := by decide +kernel
theorem dX11_back_28 : decode cX11_back 28 = .ok (.aload_n 0, 1) := by decide +kernel
theorem dX11_back_29 : decode cX11_back 29 = .ok (.getfield 51, 3) := by decide +kernel
theorem dX11_back_32 : decode cX11_back 32 = .ok (.iload_n 1, 1) := by decide +kernel
theorem dX11_back_33 : decode cX11_back 33 = .ok (.aaload, 1) := by decide +kernel
theorem dX11_back_34 : decode cX11_back 34 = .ok (.invokevirtual 180, 3) := by decide +kernel
theorem dX11_back_37 : decode cX11_back 37 = .ok (.aload_n 0, 1) := by decide +kernel
theorem dX11_back_38 : decode cX11_back 38 = .ok (.getfield 47, 3) := by decide +kernel
theorem dX11_back_41 : decode cX11_back 41 = .ok (.invokevirtual 182, 3) := by decide +kernel
theorem dX11_back_44 : decode cX11_back 44 = .ok (.aload_n 0, 1) := by decide +kernel
theorem dX11_back_45 : decode cX11_back 45 = .ok (.getfield 37, 3) := by decide +kernel
theorem dX11_back_48 : decode cX11_back 48 = .ok (.getfield 158, 3) := by decide +kernel
theorem dX11_back_51 : decode cX11_back 51 = .ok (.ireturn, 1) := by decide +kernel
theorem dX11_given_0 : decode cX11_given 0 = .ok (.aload_n 0, 1) := by decide +kernel
theorem dX11_given_1 : decode cX11_given 1 = .ok (.getfield 10, 3) := by decide +kernel
theorem dX11_given_4 : decode cX11_given 4 = .ok (.iload_n 1, 1) := by decide +kernel
theorem dX11_given_5 : decode cX11_given 5 = .ok (.invokevirtual 130, 3) := by decide +kernel
theorem dX11_given_8 : decode cX11_given 8 = .ok (.ifCond .ne 6, 3) := by decide +kernel
theorem dX11_given_11 : decode cX11_given 11 = .ok (.bipush (-2), 2) := by decide +kernel
theorem dX11_given_13 : decode cX11_given 13 = .ok (.ireturn, 1) := by decide +kernel
theorem dX11_given_14 : decode cX11_given 14 = .ok (.aload_n 0, 1) := by decide +kernel
theorem dX11_given_15 : decode cX11_given 15 = .ok (.getfield 37, 3) := by decide +kernel
theorem dX11_given_18 : decode cX11_given 18 = .ok (.iload_n 1, 1) := by decide +kernel
theorem dX11_given_19 : decode cX11_given 19 = .ok (.invokevirtual 183, 3) := by decide +kernel
theorem dX11_given_22 : decode cX11_given 22 = .ok (.ifCond .eq 7, 3) := by decide +kernel
theorem dX11_given_25 : decode cX11_given 25 = .ok (.iconst (-1), 1) := by decide +kernel
theorem dX11_given_26 : decode cX11_given 26 = .ok (.goto 12, 3) := by decide +kernel
theorem dX11_given_29 : decode cX11_given 29 = .ok (.aload_n 0, 1) := by decide +kernel
theorem dX11_given_30 : decode cX11_given 30 = .ok (.getfield 37, 3) := by decide +kernel
theorem dX11_given_33 : decode cX11_given 33 = .ok (.iload_n 1, 1) := by decide +kernel
theorem dX11_given_34 : decode cX11_given 34 = .ok (.iconst 0, 1) := by decide +kernel
theorem dX11_given_35 : decode cX11_given 35 = .ok (.invokevirtual 186, 3) := by decide +kernel
theorem dX11_given_38 : decode cX11_given 38 = .ok (.ireturn, 1) := by decide +kernel
theorem dX11_ahead_0 : decode cX11_ahead 0 = .ok (.aload_n 0, 1) := by decide +kernel
theorem dX11_ahead_1 : decode cX11_ahead 1 = .ok (.getfield 10, 3) := by decide +kernel
theorem dX11_ahead_4 : decode cX11_ahead 4 = .ok (.iload_n 1, 1) := by decide +kernel
theorem dX11_ahead_5 : decode cX11_ahead 5 = .ok (.invokevirtual 107, 3) := by decide +kernel
theorem dX11_ahead_8 : decode cX11_ahead 8 = .ok (.ifCond .ne 6, 3) := by decide +kernel
theorem dX11_ahead_11 : decode cX11_ahead 11 = .ok (.bipush (-2), 2) := by decide +kernel
theorem dX11_ahead_13 : decode cX11_ahead 13 = .ok (.ireturn, 1) := by decide +kernel
theorem dX11_ahead_14 : decode cX11_ahead 14 = .ok (.iload_n 2, 1) := by decide +kernel
theorem dX11_ahead_15 : decode cX11_ahead 15 = .ok (.ifCond .lt 18, 3) := by decide +kernel
theorem dX11_ahead_18 : decode cX11_ahead 18 = .ok (.iload_n 2, 1) := by decide +kernel
theorem dX11_ahead_19 : decode cX11_ahead 19 = .ok (.bipush 60, 2) := by decide +kernel
theorem dX11_ahead_21 : decode cX11_ahead 21 = .ok (.if_icmp .gt 12, 3) := by decide +kernel
theorem dX11_ahead_24 : decode cX11_ahead 24 = .ok (.iload_n 3, 1) := by decide +kernel
theorem dX11_ahead_25 : decode cX11_ahead 25 = .ok (.ifCond .lt 8, 3) := by decide +kernel
theorem dX11_ahead_28 : decode cX11_ahead 28 = .ok (.iload_n 3, 1) := by decide +kernel
theorem dX11_ahead_29 : decode cX11_ahead 29 = .ok (.iconst 2, 1) := by decide +kernel
theorem dX11_ahead_30 : decode cX11_ahead 30 = .ok (.if_icmp .le 6, 3) := by decide +kernel
theorem dX11_ahead_33 : decode cX11_ahead 33 = .ok (.bipush (-3), 2) := by decide +kernel
theorem dX11_ahead_35 : decode cX11_ahead 35 = .ok (.ireturn, 1) := by decide +kernel
theorem dX11_ahead_36 : decode cX11_ahead 36 = .ok (.aload_n 0, 1) := by decide +kernel
theorem dX11_ahead_37 : decode cX11_ahead 37 = .ok (.getfield 41, 3) := by decide +kernel
theorem dX11_ahead_40 : decode cX11_ahead 40 = .ok (.aload_n 0, 1) := by decide +kernel
theorem dX11_ahead_41 : decode cX11_ahead 41 = .ok (.getfield 37, 3) := by decide +kernel
theorem dX11_ahead_44 : decode cX11_ahead 44 = .ok (.invokevirtual 180, 3) := by decide +kernel
theorem dX11_ahead_47 : decode cX11_ahead 47 = .ok (.iconst 0, 1) := by decide +kernel
theorem dX11_ahead_48 : decode cX11_ahead 48 = .ok (.istore 4, 2) := by decide +kernel
theorem dX11_ahead_50 : decode cX11_ahead 50 = .ok (.iload 4, 2) := by decide +kernel
theorem dX11_ahead_52 : decode cX11_ahead 52 = .ok (.iload_n 2, 1) := by decide +kernel
theorem dX11_ahead_53 : decode cX11_ahead 53 = .ok (.if_icmp .ge 16, 3) := by decide +kernel
theorem dX11_ahead_56 : decode cX11_ahead 56 = .ok (.aload_n 0, 1) := by decide +kernel
theorem dX11_ahead_57 : decode cX11_ahead 57 = .ok (.getfield 41, 3) := by decide +kernel
theorem dX11_ahead_60 : decode cX11_ahead 60 = .ok (.invokevirtual 165, 3) := by decide +kernel
theorem dX11_ahead_63 : decode cX11_ahead 63 = .ok (.iinc 4 1, 3) := by decide +kernel
theorem dX11_ahead_66 : decode cX11_ahead 66 = .ok (.goto (-16), 3) := by decide +kernel
theorem dX11_ahead_69 : decode cX11_ahead 69 = .ok (.iload_n 3, 1) := by decide +kernel
theorem dX11_ahead_70 : decode cX11_ahead 70 = .ok (.lookupswitch 46 #[(0, 26), (1, 36)], 26) := by decide +kernel
theorem dX11_ahead_96 : decode cX11_ahead 96 = .ok (.aload_n 0, 1) := by decide +kernel
theorem dX11_ahead_97 : decode cX11_ahead 97 = .ok (.getfield 41, 3) := by decide +kernel
theorem dX11_ahead_100 : decode cX11_ahead 100 = .ok (.getfield 118, 3) := by decide +kernel
theorem dX11_ahead_103 : decode cX11_ahead 103 = .ok (.iload_n 1, 1) := by decide +kernel
theorem dX11_ahead_104 : decode cX11_ahead 104 = .ok (.iaload, 1) := by decide +kernel
theorem dX11_ahead_105 : decode cX11_ahead 105 = .ok (.ireturn, 1) := by decide +kernel
theorem dX11_ahead_106 : decode cX11_ahead 106 = .ok (.aload_n 0, 1) := by decide +kernel
theorem dX11_ahead_107 : decode cX11_ahead 107 = .ok (.getfield 41, 3) := by decide +kernel
theorem dX11_ahead_110 : decode cX11_ahead 110 = .ok (.getfield 121, 3) := by decide +kernel
theorem dX11_ahead_113 : decode cX11_ahead 113 = .ok (.iload_n 1, 1) := by decide +kernel
theorem dX11_ahead_114 : decode cX11_ahead 114 = .ok (.iaload, 1) := by decide +kernel
theorem dX11_ahead_115 : decode cX11_ahead 115 = .ok (.ireturn, 1) := by decide +kernel
theorem dX11_ahead_116 : decode cX11_ahead 116 = .ok (.aload_n 0, 1) := by decide +kernel
theorem dX11_ahead_117 : decode cX11_ahead 117 = .ok (.getfield 41, 3) := by decide +kernel
theorem dX11_ahead_120 : decode cX11_ahead 120 = .ok (.iload_n 1, 1) := by decide +kernel
theorem dX11_ahead_121 : decode cX11_ahead 121 = .ok (.invokevirtual 124, 3) := by decide +kernel
theorem dX11_ahead_124 : decode cX11_ahead 124 = .ok (.ifCond .eq 7, 3) := by decide +kernel
theorem dX11_ahead_127 : decode cX11_ahead 127 = .ok (.iconst 1, 1) := by decide +kernel
theorem dX11_ahead_128 : decode cX11_ahead 128 = .ok (.goto 4, 3) := by decide +kernel
theorem dX11_ahead_131 : decode cX11_ahead 131 = .ok (.iconst 0, 1) := by decide +kernel
theorem dX11_ahead_132 : decode cX11_ahead 132 = .ok (.ireturn, 1) := by decide +kernel
theorem dX11_comes_0 : decode cX11_comes 0 = .ok (.aload_n 0, 1) := by decide +kernel
theorem dX11_comes_1 : decode cX11_comes 1 = .ok (.getfield 10, 3) := by decide +kernel
theorem dX11_comes_4 : decode cX11_comes 4 = .ok (.iload_n 1, 1) := by decide +kernel
theorem dX11_comes_5 : decode cX11_comes 5 = .ok (.invokevirtual 130, 3) := by decide +kernel
theorem dX11_comes_8 : decode cX11_comes 8 = .ok (.ifCond .ne 6, 3) := by decide +kernel
theorem dX11_comes_11 : decode cX11_comes 11 = .ok (.bipush (-2), 2) := by decide +kernel
theorem dX11_comes_13 : decode cX11_comes 13 = .ok (.ireturn, 1) := by decide +kernel
theorem dX11_comes_14 : decode cX11_comes 14 = .ok (.iload_n 2, 1) := by decide +kernel
theorem dX11_comes_15 : decode cX11_comes 15 = .ok (.ifCond .lt 8, 3) := by decide +kernel
theorem dX11_comes_18 : decode cX11_comes 18 = .ok (.iload_n 2, 1) := by decide +kernel
theorem dX11_comes_19 : decode cX11_comes 19 = .ok (.iconst 1, 1) := by decide +kernel
theorem dX11_comes_20 : decode cX11_comes 20 = .ok (.if_icmp .le 6, 3) := by decide +kernel
theorem dX11_comes_23 : decode cX11_comes 23 = .ok (.bipush (-3), 2) := by decide +kernel
theorem dX11_comes_25 : decode cX11_comes 25 = .ok (.ireturn, 1) := by decide +kernel
theorem dX11_comes_26 : decode cX11_comes 26 = .ok (.aload_n 0, 1) := by decide +kernel
theorem dX11_comes_27 : decode cX11_comes 27 = .ok (.getfield 41, 3) := by decide +kernel
theorem dX11_comes_30 : decode cX11_comes 30 = .ok (.aload_n 0, 1) := by decide +kernel
theorem dX11_comes_31 : decode cX11_comes 31 = .ok (.getfield 37, 3) := by decide +kernel
theorem dX11_comes_34 : decode cX11_comes 34 = .ok (.invokevirtual 180, 3) := by decide +kernel
theorem dX11_comes_37 : decode cX11_comes 37 = .ok (.aload_n 0, 1) := by decide +kernel
theorem dX11_comes_38 : decode cX11_comes 38 = .ok (.getfield 41, 3) := by decide +kernel
theorem dX11_comes_41 : decode cX11_comes 41 = .ok (.iload_n 1, 1) := by decide +kernel
theorem dX11_comes_42 : decode cX11_comes 42 = .ok (.bipush 60, 2) := by decide +kernel
theorem dX11_comes_44 : decode cX11_comes 44 = .ok (.invokevirtual 189, 3) := by decide +kernel
theorem dX11_comes_47 : decode cX11_comes 47 = .ok (.istore_n 3, 1) := by decide +kernel
theorem dX11_comes_48 : decode cX11_comes 48 = .ok (.iload_n 3, 1) := by decide +kernel
theorem dX11_comes_49 : decode cX11_comes 49 = .ok (.iconst (-1), 1) := by decide +kernel
theorem dX11_comes_50 : decode cX11_comes 50 = .ok (.if_icmp .eq 7, 3) := by decide +kernel
theorem dX11_comes_53 : decode cX11_comes 53 = .ok (.iload_n 2, 1) := by decide +kernel
theorem dX11_comes_54 : decode cX11_comes 54 = .ok (.ifCond .ne 7, 3) := by decide +kernel
theorem dX11_comes_57 : decode cX11_comes 57 = .ok (.iload_n 3, 1) := by decide +kernel
theorem dX11_comes_58 : decode cX11_comes 58 = .ok (.goto 12, 3) := by decide +kernel
theorem dX11_comes_61 : decode cX11_comes 61 = .ok (.aload_n 0, 1) := by decide +kernel
theorem dX11_comes_62 : decode cX11_comes 62 = .ok (.getfield 41, 3) := by decide +kernel
theorem dX11_comes_65 : decode cX11_comes 65 = .ok (.getfield 139, 3) := by decide +kernel
theorem dX11_comes_68 : decode cX11_comes 68 = .ok (.iload_n 1, 1) := by decide +kernel
theorem dX11_comes_69 : decode cX11_comes 69 = .ok (.iaload, 1) := by decide +kernel
theorem dX11_comes_70 : decode cX11_comes 70 = .ok (.ireturn, 1) := by decide +kernel
theorem dX11_match_0 : decode cX11_match 0 = .ok (.iload_n 1, 1) := by decide +kernel
theorem dX11_match_1 : decode cX11_match 1 = .ok (.iconst (-1), 1) := by decide +kernel
theorem dX11_match_2 : decode cX11_match 2 = .ok (.if_icmp .eq 17, 3) := by decide +kernel
theorem dX11_match_5 : decode cX11_match 5 = .ok (.aload_n 0, 1) := by decide +kernel
theorem dX11_match_6 : decode cX11_match 6 = .ok (.getfield 10, 3) := by decide +kernel
theorem dX11_match_9 : decode cX11_match 9 = .ok (.iload_n 1, 1) := by decide +kernel
theorem dX11_match_10 : decode cX11_match 10 = .ok (.invokevirtual 130, 3) := by decide +kernel
theorem dX11_match_13 : decode cX11_match 13 = .ok (.ifCond .ne 6, 3) := by decide +kernel
theorem dX11_match_16 : decode cX11_match 16 = .ok (.bipush (-2), 2) := by decide +kernel
theorem dX11_match_18 : decode cX11_match 18 = .ok (.ireturn, 1) := by decide +kernel
theorem dX11_match_19 : decode cX11_match 19 = .ok (.aload_n 0, 1) := by decide +kernel
theorem dX11_match_20 : decode cX11_match 20 = .ok (.getfield 62, 3) := by decide +kernel
theorem dX11_match_23 : decode cX11_match 23 = .ok (.aload_n 0, 1) := by decide +kernel
theorem dX11_match_24 : decode cX11_match 24 = .ok (.getfield 37, 3) := by decide +kernel
theorem dX11_match_27 : decode cX11_match 27 = .ok (.invokevirtual 192, 3) := by decide +kernel
theorem dX11_match_30 : decode cX11_match 30 = .ok (.aload_n 0, 1) := by decide +kernel
theorem dX11_match_31 : decode cX11_match 31 = .ok (.getfield 62, 3) := by decide +kernel
theorem dX11_match_34 : decode cX11_match 34 = .ok (.getfield 195, 3) := by decide +kernel
theorem dX11_match_37 : decode cX11_match 37 = .ok (.ifCond .ne 5, 3) := by decide +kernel
theorem dX11_match_40 : decode cX11_match 40 = .ok (.iconst (-1), 1) := by decide +kernel
theorem dX11_match_41 : decode cX11_match 41 = .ok (.ireturn, 1) := by decide +kernel
theorem dX11_match_42 : decode cX11_match 42 = .ok (.iload_n 1, 1) := by decide +kernel
theorem dX11_match_43 : decode cX11_match 43 = .ok (.iconst (-1), 1) := by decide +kernel
theorem dX11_match_44 : decode cX11_match 44 = .ok (.if_icmp .ne 13, 3) := by decide +kernel
theorem dX11_match_47 : decode cX11_match 47 = .ok (.aload_n 0, 1) := by decide +kernel
theorem dX11_match_48 : decode cX11_match 48 = .ok (.getfield 62, 3) := by decide +kernel
theorem dX11_match_51 : decode cX11_match 51 = .ok (.getfield 199, 3) := by decide +kernel
theorem dX11_match_54 : decode cX11_match 54 = .ok (.goto 12, 3) := by decide +kernel
theorem dX11_match_57 : decode cX11_match 57 = .ok (.aload_n 0, 1) := by decide +kernel
theorem dX11_match_58 : decode cX11_match 58 = .ok (.getfield 62, 3) := by decide +kernel
theorem dX11_match_61 : decode cX11_match 61 = .ok (.getfield 202, 3) := by decide +kernel
theorem dX11_match_64 : decode cX11_match 64 = .ok (.iload_n 1, 1) := by decide +kernel
theorem dX11_match_65 : decode cX11_match 65 = .ok (.iaload, 1) := by decide +kernel
theorem dX11_match_66 : decode cX11_match 66 = .ok (.ireturn, 1) := by decide +kernel
theorem dX11_fastest_0 : decode cX11_fastest 0 = .ok (.aload_n 0, 1) := by decide +kernel
theorem dX11_fastest_1 : decode cX11_fastest 1 = .ok (.getfield 10, 3) := by decide +kernel
theorem dX11_fastest_4 : decode cX11_fastest 4 = .ok (.iload_n 1, 1) := by decide +kernel
theorem dX11_fastest_5 : decode cX11_fastest 5 = .ok (.invokevirtual 130, 3) := by decide +kernel
theorem dX11_fastest_8 : decode cX11_fastest 8 = .ok (.ifCond .eq 14, 3) := by decide +kernel
theorem dX11_fastest_11 : decode cX11_fastest 11 = .ok (.aload_n 0, 1) := by decide +kernel
theorem dX11_fastest_12 : decode cX11_fastest 12 = .ok (.getfield 37, 3) := by decide +kernel
theorem dX11_fastest_15 : decode cX11_fastest 15 = .ok (.iload_n 1, 1) := by decide +kernel
theorem dX11_fastest_16 : decode cX11_fastest 16 = .ok (.invokevirtual 205, 3) := by decide +kernel
theorem dX11_fastest_19 : decode cX11_fastest 19 = .ok (.goto 5, 3) := by decide +kernel
theorem dX11_fastest_22 : decode cX11_fastest 22 = .ok (.bipush (-2), 2) := by decide +kernel
theorem dX11_fastest_24 : decode cX11_fastest 24 = .ok (.ireturn, 1) := by decide +kernel
theorem dX11_feed_0 : decode cX11_feed 0 = .ok (.aload_n 0, 1) := by decide +kernel
theorem dX11_feed_1 : decode cX11_feed 1 = .ok (.getfield 10, 3) := by decide +kernel
theorem dX11_feed_4 : decode cX11_feed 4 = .ok (.iload_n 1, 1) := by decide +kernel
theorem dX11_feed_5 : decode cX11_feed 5 = .ok (.invokevirtual 130, 3) := by decide +kernel
theorem dX11_feed_8 : decode cX11_feed 8 = .ok (.ifCond .ne 6, 3) := by decide +kernel
theorem dX11_feed_11 : decode cX11_feed 11 = .ok (.bipush (-2), 2) := by decide +kernel
theorem dX11_feed_13 : decode cX11_feed 13 = .ok (.ireturn, 1) := by decide +kernel
theorem dX11_feed_14 : decode cX11_feed 14 = .ok (.iload_n 2, 1) := by decide +kernel
theorem dX11_feed_15 : decode cX11_feed 15 = .ok (.iconst 1, 1) := by decide +kernel
theorem dX11_feed_16 : decode cX11_feed 16 = .ok (.if_icmp .lt 9, 3) := by decide +kernel
theorem dX11_feed_19 : decode cX11_feed 19 = .ok (.iload_n 2, 1) := by decide +kernel
theorem dX11_feed_20 : decode cX11_feed 20 = .ok (.bipush 40, 2) := by decide +kernel
theorem dX11_feed_22 : decode cX11_feed 22 = .ok (.if_icmp .le 6, 3) := by decide +kernel
theorem dX11_feed_25 : decode cX11_feed 25 = .ok (.bipush (-3), 2) := by decide +kernel
theorem dX11_feed_27 : decode cX11_feed 27 = .ok (.ireturn, 1) := by decide +kernel
theorem dX11_feed_28 : decode cX11_feed 28 = .ok (.aload_n 0, 1) := by decide +kernel
theorem dX11_feed_29 : decode cX11_feed 29 = .ok (.getfield 37, 3) := by decide +kernel
theorem dX11_feed_32 : decode cX11_feed 32 = .ok (.invokevirtual 209, 3) := by decide +kernel
theorem dX11_feed_35 : decode cX11_feed 35 = .ok (.iconst (-1), 1) := by decide +kernel
theorem dX11_feed_36 : decode cX11_feed 36 = .ok (.ixor, 1) := by decide +kernel
theorem dX11_feed_37 : decode cX11_feed 37 = .ok (.istore_n 3, 1) := by decide +kernel
theorem dX11_feed_38 : decode cX11_feed 38 = .ok (.iconst 1, 1) := by decide +kernel
theorem dX11_feed_39 : decode cX11_feed 39 = .ok (.aload_n 0, 1) := by decide +kernel
theorem dX11_feed_40 : decode cX11_feed 40 = .ok (.getfield 10, 3) := by decide +kernel
theorem dX11_feed_43 : decode cX11_feed 43 = .ok (.getfield 213, 3) := by decide +kernel
theorem dX11_feed_46 : decode cX11_feed 46 = .ok (.ishl, 1) := by decide +kernel
theorem dX11_feed_47 : decode cX11_feed 47 = .ok (.istore 4, 2) := by decide +kernel
theorem dX11_feed_49 : decode cX11_feed 49 = .ok (.iconst 0, 1) := by decide +kernel
theorem dX11_feed_50 : decode cX11_feed 50 = .ok (.istore 5, 2) := by decide +kernel
theorem dX11_feed_52 : decode cX11_feed 52 = .ok (.iload 5, 2) := by decide +kernel
theorem dX11_feed_54 : decode cX11_feed 54 = .ok (.iconst 3, 1) := by decide +kernel
theorem dX11_feed_55 : decode cX11_feed 55 = .ok (.if_icmp .gt 56, 3) := by decide +kernel
theorem dX11_feed_58 : decode cX11_feed 58 = .ok (.iconst 0, 1) := by decide +kernel
theorem dX11_feed_59 : decode cX11_feed 59 = .ok (.istore 6, 2) := by decide +kernel
theorem dX11_feed_61 : decode cX11_feed 61 = .ok (.iload 6, 2) := by decide +kernel
theorem dX11_feed_63 : decode cX11_feed 63 = .ok (.iload 4, 2) := by decide +kernel
theorem dX11_feed_65 : decode cX11_feed 65 = .ok (.if_icmp .ge 40, 3) := by decide +kernel
theorem dX11_feed_68 : decode cX11_feed 68 = .ok (.iload 6, 2) := by decide +kernel
theorem dX11_feed_70 : decode cX11_feed 70 = .ok (.invokestatic 216, 3) := by decide +kernel
theorem dX11_feed_73 : decode cX11_feed 73 = .ok (.iload 5, 2) := by decide +kernel
theorem dX11_feed_75 : decode cX11_feed 75 = .ok (.if_icmp .ne 24, 3) := by decide +kernel
theorem dX11_feed_78 : decode cX11_feed 78 = .ok (.iload 6, 2) := by decide +kernel
theorem dX11_feed_80 : decode cX11_feed 80 = .ok (.iload_n 3, 1) := by decide +kernel
theorem dX11_feed_81 : decode cX11_feed 81 = .ok (.iand, 1) := by decide +kernel
theorem dX11_feed_82 : decode cX11_feed 82 = .ok (.ifCond .ne 17, 3) := by decide +kernel
theorem dX11_feed_85 : decode cX11_feed 85 = .ok (.aload_n 0, 1) := by decide +kernel
theorem dX11_feed_86 : decode cX11_feed 86 = .ok (.iload_n 1, 1) := by decide +kernel
theorem dX11_feed_87 : decode cX11_feed 87 = .ok (.iload_n 2, 1) := by decide +kernel
theorem dX11_feed_88 : decode cX11_feed 88 = .ok (.iload 6, 2) := by decide +kernel
theorem dX11_feed_90 : decode cX11_feed 90 = .ok (.invokevirtual 221, 3) := by decide +kernel
theorem dX11_feed_93 : decode cX11_feed 93 = .ok (.ifCond .eq 6, 3) := by decide +kernel
theorem dX11_feed_96 : decode cX11_feed 96 = .ok (.iload 6, 2) := by decide +kernel
theorem dX11_feed_98 : decode cX11_feed 98 = .ok (.ireturn, 1) := by decide +kernel
theorem dX11_feed_99 : decode cX11_feed 99 = .ok (.iinc 6 1, 3) := by decide +kernel
theorem dX11_feed_102 : decode cX11_feed 102 = .ok (.goto (-41), 3) := by decide +kernel
theorem dX11_feed_105 : decode cX11_feed 105 = .ok (.iinc 5 1, 3) := by decide +kernel
theorem dX11_feed_108 : decode cX11_feed 108 = .ok (.goto (-56), 3) := by decide +kernel
theorem dX11_feed_111 : decode cX11_feed 111 = .ok (.iconst (-1), 1) := by decide +kernel
theorem dX11_feed_112 : decode cX11_feed 112 = .ok (.ireturn, 1) := by decide +kernel
theorem dX11_falls_0 : decode cX11_falls 0 = .ok (.iload_n 1, 1) := by decide +kernel
theorem dX11_falls_1 : decode cX11_falls 1 = .ok (.ifCond .lt 40, 3) := by decide +kernel
theorem dX11_falls_4 : decode cX11_falls 4 = .ok (.iload_n 1, 1) := by decide +kernel
theorem dX11_falls_5 : decode cX11_falls 5 = .ok (.bipush 9, 2) := by decide +kernel
theorem dX11_falls_7 : decode cX11_falls 7 = .ok (.if_icmp .gt 34, 3) := by decide +kernel
theorem dX11_falls_10 : decode cX11_falls 10 = .ok (.iload_n 2, 1) := by decide +kernel
theorem dX11_falls_11 : decode cX11_falls 11 = .ok (.ifCond .lt 30, 3) := by decide +kernel
theorem dX11_falls_14 : decode cX11_falls 14 = .ok (.iload_n 2, 1) := by decide +kernel
theorem dX11_falls_15 : decode cX11_falls 15 = .ok (.bipush 10, 2) := by decide +kernel
theorem dX11_falls_17 : decode cX11_falls 17 = .ok (.if_icmp .gt 24, 3) := by decide +kernel
theorem dX11_falls_20 : decode cX11_falls 20 = .ok (.iload_n 3, 1) := by decide +kernel
theorem dX11_falls_21 : decode cX11_falls 21 = .ok (.ifCond .lt 20, 3) := by decide +kernel
theorem dX11_falls_24 : decode cX11_falls 24 = .ok (.iload_n 3, 1) := by decide +kernel
theorem dX11_falls_25 : decode cX11_falls 25 = .ok (.bipush 9, 2) := by decide +kernel
theorem dX11_falls_27 : decode cX11_falls 27 = .ok (.if_icmp .gt 14, 3) := by decide +kernel
theorem dX11_falls_30 : decode cX11_falls 30 = .ok (.iload 4, 2) := by decide +kernel
theorem dX11_falls_32 : decode cX11_falls 32 = .ok (.ifCond .lt 9, 3) := by decide +kernel
theorem dX11_falls_35 : decode cX11_falls 35 = .ok (.iload 4, 2) := by decide +kernel
theorem dX11_falls_37 : decode cX11_falls 37 = .ok (.iconst 1, 1) := by decide +kernel
theorem dX11_falls_38 : decode cX11_falls 38 = .ok (.if_icmp .le 6, 3) := by decide +kernel
theorem dX11_falls_41 : decode cX11_falls 41 = .ok (.bipush (-3), 2) := by decide +kernel
theorem dX11_falls_43 : decode cX11_falls 43 = .ok (.ireturn, 1) := by decide +kernel
theorem dX11_falls_44 : decode cX11_falls 44 = .ok (.iload_n 1, 1) := by decide +kernel
theorem dX11_falls_45 : decode cX11_falls 45 = .ok (.iload_n 2, 1) := by decide +kernel
theorem dX11_falls_46 : decode cX11_falls 46 = .ok (.iload_n 3, 1) := by decide +kernel
theorem dX11_falls_47 : decode cX11_falls 47 = .ok (.iload 4, 2) := by decide +kernel
theorem dX11_falls_49 : decode cX11_falls 49 = .ok (.invokestatic 227, 3) := by decide +kernel
theorem dX11_falls_52 : decode cX11_falls 52 = .ok (.ireturn, 1) := by decide +kernel
theorem dX11_seen_0 : decode cX11_seen 0 = .ok (.iload_n 1, 1) := by decide +kernel
theorem dX11_seen_1 : decode cX11_seen 1 = .ok (.iconst 1, 1) := by decide +kernel
theorem dX11_seen_2 : decode cX11_seen 2 = .ok (.if_icmp .lt 29, 3) := by decide +kernel
theorem dX11_seen_5 : decode cX11_seen 5 = .ok (.iload_n 1, 1) := by decide +kernel
theorem dX11_seen_6 : decode cX11_seen 6 = .ok (.bipush 9, 2) := by decide +kernel
theorem dX11_seen_8 : decode cX11_seen 8 = .ok (.if_icmp .gt 23, 3) := by decide +kernel
theorem dX11_seen_11 : decode cX11_seen 11 = .ok (.iload_n 2, 1) := by decide +kernel
theorem dX11_seen_12 : decode cX11_seen 12 = .ok (.ifCond .lt 19, 3) := by decide +kernel
theorem dX11_seen_15 : decode cX11_seen 15 = .ok (.iload_n 2, 1) := by decide +kernel
theorem dX11_seen_16 : decode cX11_seen 16 = .ok (.bipush 20, 2) := by decide +kernel
theorem dX11_seen_18 : decode cX11_seen 18 = .ok (.if_icmp .gt 13, 3) := by decide +kernel
theorem dX11_seen_21 : decode cX11_seen 21 = .ok (.iload_n 3, 1) := by decide +kernel
theorem dX11_seen_22 : decode cX11_seen 22 = .ok (.ifCond .lt 9, 3) := by decide +kernel
theorem dX11_seen_25 : decode cX11_seen 25 = .ok (.iload_n 3, 1) := by decide +kernel
theorem dX11_seen_26 : decode cX11_seen 26 = .ok (.bipush 20, 2) := by decide +kernel
theorem dX11_seen_28 : decode cX11_seen 28 = .ok (.if_icmp .le 6, 3) := by decide +kernel
theorem dX11_seen_31 : decode cX11_seen 31 = .ok (.bipush (-3), 2) := by decide +kernel
theorem dX11_seen_33 : decode cX11_seen 33 = .ok (.ireturn, 1) := by decide +kernel
theorem dX11_seen_34 : decode cX11_seen 34 = .ok (.aload_n 0, 1) := by decide +kernel
theorem dX11_seen_35 : decode cX11_seen 35 = .ok (.getfield 69, 3) := by decide +kernel
theorem dX11_seen_38 : decode cX11_seen 38 = .ok (.getfield 231, 3) := by decide +kernel
theorem dX11_seen_41 : decode cX11_seen 41 = .ok (.bipush 6, 2) := by decide +kernel
theorem dX11_seen_43 : decode cX11_seen 43 = .ok (.if_icmp .lt 6, 3) := by decide +kernel
theorem dX11_seen_46 : decode cX11_seen 46 = .ok (.bipush (-5), 2) := by decide +kernel
theorem dX11_seen_48 : decode cX11_seen 48 = .ok (.ireturn, 1) := by decide +kernel
theorem dX11_seen_49 : decode cX11_seen 49 = .ok (.aload_n 0, 1) := by decide +kernel
theorem dX11_seen_50 : decode cX11_seen 50 = .ok (.getfield 69, 3) := by decide +kernel
theorem dX11_seen_53 : decode cX11_seen 53 = .ok (.iload_n 1, 1) := by decide +kernel
theorem dX11_seen_54 : decode cX11_seen 54 = .ok (.iload_n 2, 1) := by decide +kernel
theorem dX11_seen_55 : decode cX11_seen 55 = .ok (.iload_n 3, 1) := by decide +kernel
theorem dX11_seen_56 : decode cX11_seen 56 = .ok (.invokevirtual 232, 3) := by decide +kernel
theorem dX11_seen_59 : decode cX11_seen 59 = .ok (.aload_n 0, 1) := by decide +kernel
theorem dX11_seen_60 : decode cX11_seen 60 = .ok (.getfield 69, 3) := by decide +kernel
theorem dX11_seen_63 : decode cX11_seen 63 = .ok (.getfield 231, 3) := by decide +kernel
theorem dX11_seen_66 : decode cX11_seen 66 = .ok (.ireturn, 1) := by decide +kernel
theorem dX11_forget_0 : decode cX11_forget 0 = .ok (.aload_n 0, 1) := by decide +kernel
theorem dX11_forget_1 : decode cX11_forget 1 = .ok (.getfield 69, 3) := by decide +kernel
theorem dX11_forget_4 : decode cX11_forget 4 = .ok (.getfield 231, 3) := by decide +kernel
theorem dX11_forget_7 : decode cX11_forget 7 = .ok (.istore_n 1, 1) := by decide +kernel
theorem dX11_forget_8 : decode cX11_forget 8 = .ok (.aload_n 0, 1) := by decide +kernel
theorem dX11_forget_9 : decode cX11_forget 9 = .ok (.getfield 69, 3) := by decide +kernel
theorem dX11_forget_12 : decode cX11_forget 12 = .ok (.invokevirtual 235, 3) := by decide +kernel
theorem dX11_forget_15 : decode cX11_forget 15 = .ok (.iload_n 1, 1) := by decide +kernel
theorem dX11_forget_16 : decode cX11_forget 16 = .ok (.ireturn, 1) := by decide +kernel
theorem dX11_kinds_0 : decode cX11_kinds 0 = .ok (.aload_n 0, 1) := by decide +kernel
theorem dX11_kinds_1 : decode cX11_kinds 1 = .ok (.getfield 69, 3) := by decide +kernel
theorem dX11_kinds_4 : decode cX11_kinds 4 = .ok (.invokevirtual 236, 3) := by decide +kernel
theorem dX11_kinds_7 : decode cX11_kinds 7 = .ok (.ireturn, 1) := by decide +kernel
theorem dX11_ask_0 : decode cX11_ask 0 = .ok (.aload_n 0, 1) := by decide +kernel
theorem dX11_ask_1 : decode cX11_ask 1 = .ok (.getfield 69, 3) := by decide +kernel
theorem dX11_ask_4 : decode cX11_ask 4 = .ok (.invokevirtual 239, 3) := by decide +kernel
theorem dX11_ask_7 : decode cX11_ask 7 = .ok (.ireturn, 1) := by decide +kernel
theorem dX11_book_0 : decode cX11_book 0 = .ok (.aload_n 0, 1) := by decide +kernel
theorem dX11_book_1 : decode cX11_book 1 = .ok (.getfield 76, 3) := by decide +kernel
theorem dX11_book_4 : decode cX11_book 4 = .ok (.iload_n 1, 1) := by decide +kernel
theorem dX11_book_5 : decode cX11_book 5 = .ok (.invokevirtual 242, 3) := by decide +kernel
theorem dX11_book_8 : decode cX11_book 8 = .ok (.ifCond .ne 6, 3) := by decide +kernel
theorem dX11_book_11 : decode cX11_book 11 = .ok (.bipush (-2), 2) := by decide +kernel
theorem dX11_book_13 : decode cX11_book 13 = .ok (.ireturn, 1) := by decide +kernel
theorem dX11_book_14 : decode cX11_book 14 = .ok (.iload_n 2, 1) := by decide +kernel
theorem dX11_book_15 : decode cX11_book 15 = .ok (.bipush 10, 2) := by decide +kernel
theorem dX11_book_17 : decode cX11_book 17 = .ok (.if_icmp .le 6, 3) := by decide +kernel
theorem dX11_book_20 : decode cX11_book 20 = .ok (.bipush (-3), 2) := by decide +kernel
theorem dX11_book_22 : decode cX11_book 22 = .ok (.ireturn, 1) := by decide +kernel
theorem dX11_book_23 : decode cX11_book 23 = .ok (.iload_n 2, 1) := by decide +kernel
theorem dX11_book_24 : decode cX11_book 24 = .ok (.ifCond .ge 6, 3) := by decide +kernel
theorem dX11_book_27 : decode cX11_book 27 = .ok (.bipush (-15), 2) := by decide +kernel
theorem dX11_book_29 : decode cX11_book 29 = .ok (.ireturn, 1) := by decide +kernel
theorem dX11_book_30 : decode cX11_book 30 = .ok (.aload_n 0, 1) := by decide +kernel
theorem dX11_book_31 : decode cX11_book 31 = .ok (.getfield 76, 3) := by decide +kernel
theorem dX11_book_34 : decode cX11_book 34 = .ok (.getfield 245, 3) := by decide +kernel
theorem dX11_book_37 : decode cX11_book 37 = .ok (.iload_n 1, 1) := by decide +kernel
theorem dX11_book_38 : decode cX11_book 38 = .ok (.aaload, 1) := by decide +kernel
theorem dX11_book_39 : decode cX11_book 39 = .ok (.iload_n 2, 1) := by decide +kernel
theorem dX11_book_40 : decode cX11_book 40 = .ok (.invokevirtual 249, 3) := by decide +kernel
theorem dX11_book_43 : decode cX11_book 43 = .ok (.iload_n 2, 1) := by decide +kernel
theorem dX11_book_44 : decode cX11_book 44 = .ok (.ireturn, 1) := by decide +kernel
theorem dX11_enter_0 : decode cX11_enter 0 = .ok (.aload_n 0, 1) := by decide +kernel
theorem dX11_enter_1 : decode cX11_enter 1 = .ok (.getfield 76, 3) := by decide +kernel
theorem dX11_enter_4 : decode cX11_enter 4 = .ok (.iload_n 1, 1) := by decide +kernel
theorem dX11_enter_5 : decode cX11_enter 5 = .ok (.invokevirtual 242, 3) := by decide +kernel
theorem dX11_enter_8 : decode cX11_enter 8 = .ok (.ifCond .eq 37, 3) := by decide +kernel
theorem dX11_enter_11 : decode cX11_enter 11 = .ok (.iload_n 3, 1) := by decide +kernel
theorem dX11_enter_12 : decode cX11_enter 12 = .ok (.iconst 1, 1) := by decide +kernel
theorem dX11_enter_13 : decode cX11_enter 13 = .ok (.if_icmp .ne 15, 3) := by decide +kernel
theorem dX11_enter_16 : decode cX11_enter 16 = .ok (.aload_n 0, 1) := by decide +kernel
theorem dX11_enter_17 : decode cX11_enter 17 = .ok (.getfield 10, 3) := by decide +kernel
theorem dX11_enter_20 : decode cX11_enter 20 = .ok (.iload 4, 2) := by decide +kernel
theorem dX11_enter_22 : decode cX11_enter 22 = .ok (.invokevirtual 107, 3) := by decide +kernel
theorem dX11_enter_25 : decode cX11_enter 25 = .ok (.ifCond .eq 20, 3) := by decide +kernel
theorem dX11_enter_28 : decode cX11_enter 28 = .ok (.iload_n 3, 1) := by decide +kernel
theorem dX11_enter_29 : decode cX11_enter 29 = .ok (.iconst 2, 1) := by decide +kernel
theorem dX11_enter_30 : decode cX11_enter 30 = .ok (.if_icmp .ne 18, 3) := by decide +kernel
theorem dX11_enter_33 : decode cX11_enter 33 = .ok (.aload_n 0, 1) := by decide +kernel
theorem dX11_enter_34 : decode cX11_enter 34 = .ok (.getfield 76, 3) := by decide +kernel
theorem dX11_enter_37 : decode cX11_enter 37 = .ok (.iload 4, 2) := by decide +kernel
theorem dX11_enter_39 : decode cX11_enter 39 = .ok (.invokevirtual 242, 3) := by decide +kernel
theorem dX11_enter_42 : decode cX11_enter 42 = .ok (.ifCond .ne 6, 3) := by decide +kernel
theorem dX11_enter_45 : decode cX11_enter 45 = .ok (.bipush (-2), 2) := by decide +kernel
theorem dX11_enter_47 : decode cX11_enter 47 = .ok (.ireturn, 1) := by decide +kernel
theorem dX11_enter_48 : decode cX11_enter 48 = .ok (.iload_n 3, 1) := by decide +kernel
theorem dX11_enter_49 : decode cX11_enter 49 = .ok (.ifCond .lt 28, 3) := by decide +kernel
theorem dX11_enter_52 : decode cX11_enter 52 = .ok (.iload_n 3, 1) := by decide +kernel
theorem dX11_enter_53 : decode cX11_enter 53 = .ok (.iconst 3, 1) := by decide +kernel
theorem dX11_enter_54 : decode cX11_enter 54 = .ok (.if_icmp .gt 23, 3) := by decide +kernel
theorem dX11_enter_57 : decode cX11_enter 57 = .ok (.iload_n 3, 1) := by decide +kernel
theorem dX11_enter_58 : decode cX11_enter 58 = .ok (.ifCond .ne 22, 3) := by decide +kernel
theorem dX11_enter_61 : decode cX11_enter 61 = .ok (.iload 4, 2) := by decide +kernel
theorem dX11_enter_63 : decode cX11_enter 63 = .ok (.sipush (-9999), 3) := by decide +kernel
theorem dX11_enter_66 : decode cX11_enter 66 = .ok (.if_icmp .lt 11, 3) := by decide +kernel
theorem dX11_enter_69 : decode cX11_enter 69 = .ok (.iload 4, 2) := by decide +kernel
theorem dX11_enter_71 : decode cX11_enter 71 = .ok (.sipush 9999, 3) := by decide +kernel
theorem dX11_enter_74 : decode cX11_enter 74 = .ok (.if_icmp .le 6, 3) := by decide +kernel
theorem dX11_enter_77 : decode cX11_enter 77 = .ok (.bipush (-3), 2) := by decide +kernel
theorem dX11_enter_79 : decode cX11_enter 79 = .ok (.ireturn, 1) := by decide +kernel
theorem dX11_enter_80 : decode cX11_enter 80 = .ok (.aload_n 0, 1) := by decide +kernel
theorem dX11_enter_81 : decode cX11_enter 81 = .ok (.getfield 76, 3) := by decide +kernel
theorem dX11_enter_84 : decode cX11_enter 84 = .ok (.getfield 245, 3) := by decide +kernel
theorem dX11_enter_87 : decode cX11_enter 87 = .ok (.iload_n 1, 1) := by decide +kernel
theorem dX11_enter_88 : decode cX11_enter 88 = .ok (.aaload, 1) := by decide +kernel
theorem dX11_enter_89 : decode cX11_enter 89 = .ok (.astore 5, 2) := by decide +kernel
theorem dX11_enter_91 : decode cX11_enter 91 = .ok (.aload 5, 2) := by decide +kernel
theorem dX11_enter_93 : decode cX11_enter 93 = .ok (.invokevirtual 254, 3) := by decide +kernel
theorem dX11_enter_96 : decode cX11_enter 96 = .ok (.ifCond .eq 6, 3) := by decide +kernel
theorem dX11_enter_99 : decode cX11_enter 99 = .ok (.bipush (-11), 2) := by decide +kernel
theorem dX11_enter_101 : decode cX11_enter 101 = .ok (.ireturn, 1) := by decide +kernel
theorem dX11_enter_102 : decode cX11_enter 102 = .ok (.aload 5, 2) := by decide +kernel
theorem dX11_enter_104 : decode cX11_enter 104 = .ok (.iload_n 2, 1) := by decide +kernel
theorem dX11_enter_105 : decode cX11_enter 105 = .ok (.invokevirtual 258, 3) := by decide +kernel
theorem dX11_enter_108 : decode cX11_enter 108 = .ok (.ifCond .ne 6, 3) := by decide +kernel
theorem dX11_enter_111 : decode cX11_enter 111 = .ok (.bipush (-12), 2) := by decide +kernel
theorem dX11_enter_113 : decode cX11_enter 113 = .ok (.ireturn, 1) := by decide +kernel
theorem dX11_enter_114 : decode cX11_enter 114 = .ok (.aload 5, 2) := by decide +kernel
theorem dX11_enter_116 : decode cX11_enter 116 = .ok (.getfield 261, 3) := by decide +kernel
theorem dX11_enter_119 : decode cX11_enter 119 = .ok (.iload_n 2, 1) := by decide +kernel
theorem dX11_enter_120 : decode cX11_enter 120 = .ok (.iload_n 3, 1) := by decide +kernel
theorem dX11_enter_121 : decode cX11_enter 121 = .ok (.iastore, 1) := by decide +kernel
theorem dX11_enter_122 : decode cX11_enter 122 = .ok (.aload 5, 2) := by decide +kernel
theorem dX11_enter_124 : decode cX11_enter 124 = .ok (.getfield 264, 3) := by decide +kernel
theorem dX11_enter_127 : decode cX11_enter 127 = .ok (.iload_n 2, 1) := by decide +kernel
theorem dX11_enter_128 : decode cX11_enter 128 = .ok (.iload 4, 2) := by decide +kernel
theorem dX11_enter_130 : decode cX11_enter 130 = .ok (.iastore, 1) := by decide +kernel
theorem dX11_enter_131 : decode cX11_enter 131 = .ok (.iconst 1, 1) := by decide +kernel
theorem dX11_enter_132 : decode cX11_enter 132 = .ok (.ireturn, 1) := by decide +kernel
theorem dX11_read_0 : decode cX11_read 0 = .ok (.aload_n 0, 1) := by decide +kernel
theorem dX11_read_1 : decode cX11_read 1 = .ok (.getfield 76, 3) := by decide +kernel
theorem dX11_read_4 : decode cX11_read 4 = .ok (.iload_n 1, 1) := by decide +kernel
theorem dX11_read_5 : decode cX11_read 5 = .ok (.invokevirtual 242, 3) := by decide +kernel
theorem dX11_read_8 : decode cX11_read 8 = .ok (.ifCond .ne 6, 3) := by decide +kernel
theorem dX11_read_11 : decode cX11_read 11 = .ok (.bipush (-2), 2) := by decide +kernel
theorem dX11_read_13 : decode cX11_read 13 = .ok (.ireturn, 1) := by decide +kernel
theorem dX11_read_14 : decode cX11_read 14 = .ok (.iload_n 3, 1) := by decide +kernel
theorem dX11_read_15 : decode cX11_read 15 = .ok (.ifCond .lt 8, 3) := by decide +kernel
theorem dX11_read_18 : decode cX11_read 18 = .ok (.iload_n 3, 1) := by decide +kernel
theorem dX11_read_19 : decode cX11_read 19 = .ok (.iconst 2, 1) := by decide +kernel
theorem dX11_read_20 : decode cX11_read 20 = .ok (.if_icmp .le 6, 3) := by decide +kernel
theorem dX11_read_23 : decode cX11_read 23 = .ok (.bipush (-3), 2) := by decide +kernel
theorem dX11_read_25 : decode cX11_read 25 = .ok (.ireturn, 1) := by decide +kernel
theorem dX11_read_26 : decode cX11_read 26 = .ok (.aload_n 0, 1) := by decide +kernel
theorem dX11_read_27 : decode cX11_read 27 = .ok (.getfield 76, 3) := by decide +kernel
theorem dX11_read_30 : decode cX11_read 30 = .ok (.getfield 245, 3) := by decide +kernel
theorem dX11_read_33 : decode cX11_read 33 = .ok (.iload_n 1, 1) := by decide +kernel
theorem dX11_read_34 : decode cX11_read 34 = .ok (.aaload, 1) := by decide +kernel
theorem dX11_read_35 : decode cX11_read 35 = .ok (.astore 4, 2) := by decide +kernel
theorem dX11_read_37 : decode cX11_read 37 = .ok (.aload 4, 2) := by decide +kernel
theorem dX11_read_39 : decode cX11_read 39 = .ok (.invokevirtual 254, 3) := by decide +kernel
theorem dX11_read_42 : decode cX11_read 42 = .ok (.ifCond .eq 6, 3) := by decide +kernel
theorem dX11_read_45 : decode cX11_read 45 = .ok (.bipush (-11), 2) := by decide +kernel
theorem dX11_read_47 : decode cX11_read 47 = .ok (.ireturn, 1) := by decide +kernel
theorem dX11_read_48 : decode cX11_read 48 = .ok (.aload 4, 2) := by decide +kernel
theorem dX11_read_50 : decode cX11_read 50 = .ok (.iload_n 2, 1) := by decide +kernel
theorem dX11_read_51 : decode cX11_read 51 = .ok (.invokevirtual 258, 3) := by decide +kernel
theorem dX11_read_54 : decode cX11_read 54 = .ok (.ifCond .ne 6, 3) := by decide +kernel
theorem dX11_read_57 : decode cX11_read 57 = .ok (.bipush (-12), 2) := by decide +kernel
theorem dX11_read_59 : decode cX11_read 59 = .ok (.ireturn, 1) := by decide +kernel
theorem dX11_read_60 : decode cX11_read 60 = .ok (.aload 4, 2) := by decide +kernel
theorem dX11_read_62 : decode cX11_read 62 = .ok (.getfield 261, 3) := by decide +kernel
theorem dX11_read_65 : decode cX11_read 65 = .ok (.iload_n 2, 1) := by decide +kernel
theorem dX11_read_66 : decode cX11_read 66 = .ok (.iaload, 1) := by decide +kernel
theorem dX11_read_67 : decode cX11_read 67 = .ok (.iconst 3, 1) := by decide +kernel
theorem dX11_read_68 : decode cX11_read 68 = .ok (.if_icmp .ne 6, 3) := by decide +kernel
theorem dX11_read_71 : decode cX11_read 71 = .ok (.bipush (-13), 2) := by decide +kernel
theorem dX11_read_73 : decode cX11_read 73 = .ok (.ireturn, 1) := by decide +kernel
theorem dX11_read_74 : decode cX11_read 74 = .ok (.aload 4, 2) := by decide +kernel
theorem dX11_read_76 : decode cX11_read 76 = .ok (.getfield 261, 3) := by decide +kernel
theorem dX11_read_79 : decode cX11_read 79 = .ok (.iload_n 2, 1) := by decide +kernel
theorem dX11_read_80 : decode cX11_read 80 = .ok (.iaload, 1) := by decide +kernel
theorem dX11_read_81 : decode cX11_read 81 = .ok (.iload_n 3, 1) := by decide +kernel
theorem dX11_read_82 : decode cX11_read 82 = .ok (.if_icmp .eq 6, 3) := by decide +kernel
theorem dX11_read_85 : decode cX11_read 85 = .ok (.bipush (-14), 2) := by decide +kernel
theorem dX11_read_87 : decode cX11_read 87 = .ok (.ireturn, 1) := by decide +kernel
theorem dX11_read_88 : decode cX11_read 88 = .ok (.iload_n 3, 1) := by decide +kernel
theorem dX11_read_89 : decode cX11_read 89 = .ok (.ifCond .ne 17, 3) := by decide +kernel
theorem dX11_read_92 : decode cX11_read 92 = .ok (.aload 4, 2) := by decide +kernel
theorem dX11_read_94 : decode cX11_read 94 = .ok (.getfield 264, 3) := by decide +kernel
theorem dX11_read_97 : decode cX11_read 97 = .ok (.iload_n 2, 1) := by decide +kernel
theorem dX11_read_98 : decode cX11_read 98 = .ok (.iaload, 1) := by decide +kernel
theorem dX11_read_99 : decode cX11_read 99 = .ok (.ldc_w 267, 3) := by decide +kernel
theorem dX11_read_102 : decode cX11_read 102 = .ok (.iadd, 1) := by decide +kernel
theorem dX11_read_103 : decode cX11_read 103 = .ok (.goto 10, 3) := by decide +kernel
theorem dX11_read_106 : decode cX11_read 106 = .ok (.aload 4, 2) := by decide +kernel
theorem dX11_read_108 : decode cX11_read 108 = .ok (.getfield 264, 3) := by decide +kernel
theorem dX11_read_111 : decode cX11_read 111 = .ok (.iload_n 2, 1) := by decide +kernel
theorem dX11_read_112 : decode cX11_read 112 = .ok (.iaload, 1) := by decide +kernel
theorem dX11_read_113 : decode cX11_read 113 = .ok (.ireturn, 1) := by decide +kernel
theorem dX11_weigh_0 : decode cX11_weigh 0 = .ok (.aload_n 0, 1) := by decide +kernel
theorem dX11_weigh_1 : decode cX11_weigh 1 = .ok (.getfield 76, 3) := by decide +kernel
theorem dX11_weigh_4 : decode cX11_weigh 4 = .ok (.iload_n 1, 1) := by decide +kernel
theorem dX11_weigh_5 : decode cX11_weigh 5 = .ok (.invokevirtual 242, 3) := by decide +kernel
theorem dX11_weigh_8 : decode cX11_weigh 8 = .ok (.ifCond .ne 6, 3) := by decide +kernel
theorem dX11_weigh_11 : decode cX11_weigh 11 = .ok (.bipush (-2), 2) := by decide +kernel
theorem dX11_weigh_13 : decode cX11_weigh 13 = .ok (.ireturn, 1) := by decide +kernel
theorem dX11_weigh_14 : decode cX11_weigh 14 = .ok (.iload_n 2, 1) := by decide +kernel
theorem dX11_weigh_15 : decode cX11_weigh 15 = .ok (.ifCond .lt 8, 3) := by decide +kernel
theorem dX11_weigh_18 : decode cX11_weigh 18 = .ok (.iload_n 2, 1) := by decide +kernel
theorem dX11_weigh_19 : decode cX11_weigh 19 = .ok (.iconst 1, 1) := by decide +kernel
theorem dX11_weigh_20 : decode cX11_weigh 20 = .ok (.if_icmp .le 6, 3) := by decide +kernel
theorem dX11_weigh_23 : decode cX11_weigh 23 = .ok (.bipush (-3), 2) := by decide +kernel
theorem dX11_weigh_25 : decode cX11_weigh 25 = .ok (.ireturn, 1) := by decide +kernel
theorem dX11_weigh_26 : decode cX11_weigh 26 = .ok (.aload_n 0, 1) := by decide +kernel
theorem dX11_weigh_27 : decode cX11_weigh 27 = .ok (.getfield 76, 3) := by decide +kernel
theorem dX11_weigh_30 : decode cX11_weigh 30 = .ok (.getfield 245, 3) := by decide +kernel
theorem dX11_weigh_33 : decode cX11_weigh 33 = .ok (.iload_n 1, 1) := by decide +kernel
theorem dX11_weigh_34 : decode cX11_weigh 34 = .ok (.aaload, 1) := by decide +kernel
theorem dX11_weigh_35 : decode cX11_weigh 35 = .ok (.invokevirtual 254, 3) := by decide +kernel
theorem dX11_weigh_38 : decode cX11_weigh 38 = .ok (.ifCond .eq 6, 3) := by decide +kernel
theorem dX11_weigh_41 : decode cX11_weigh 41 = .ok (.bipush (-11), 2) := by decide +kernel
theorem dX11_weigh_43 : decode cX11_weigh 43 = .ok (.ireturn, 1) := by decide +kernel
theorem dX11_weigh_44 : decode cX11_weigh 44 = .ok (.aload_n 0, 1) := by decide +kernel
theorem dX11_weigh_45 : decode cX11_weigh 45 = .ok (.getfield 76, 3) := by decide +kernel
theorem dX11_weigh_48 : decode cX11_weigh 48 = .ok (.iload_n 1, 1) := by decide +kernel
theorem dX11_weigh_49 : decode cX11_weigh 49 = .ok (.invokevirtual 268, 3) := by decide +kernel
theorem dX11_weigh_52 : decode cX11_weigh 52 = .ok (.istore_n 3, 1) := by decide +kernel
theorem dX11_weigh_53 : decode cX11_weigh 53 = .ok (.iload_n 2, 1) := by decide +kernel
theorem dX11_weigh_54 : decode cX11_weigh 54 = .ok (.ifCond .ne 14, 3) := by decide +kernel
theorem dX11_weigh_57 : decode cX11_weigh 57 = .ok (.aload_n 0, 1) := by decide +kernel
theorem dX11_weigh_58 : decode cX11_weigh 58 = .ok (.getfield 76, 3) := by decide +kernel
theorem dX11_weigh_61 : decode cX11_weigh 61 = .ok (.iload_n 3, 1) := by decide +kernel
theorem dX11_weigh_62 : decode cX11_weigh 62 = .ok (.invokevirtual 271, 3) := by decide +kernel
theorem dX11_weigh_65 : decode cX11_weigh 65 = .ok (.goto 7, 3) := by decide +kernel
theorem dX11_weigh_68 : decode cX11_weigh 68 = .ok (.iload_n 3, 1) := by decide +kernel
theorem dX11_weigh_69 : decode cX11_weigh 69 = .ok (.invokestatic 216, 3) := by decide +kernel
theorem dX11_weigh_72 : decode cX11_weigh 72 = .ok (.ireturn, 1) := by decide +kernel
theorem dX11_copy_0 : decode cX11_copy 0 = .ok (.aload_n 0, 1) := by decide +kernel
theorem dX11_copy_1 : decode cX11_copy 1 = .ok (.getfield 76, 3) := by decide +kernel
theorem dX11_copy_4 : decode cX11_copy 4 = .ok (.iload_n 1, 1) := by decide +kernel
theorem dX11_copy_5 : decode cX11_copy 5 = .ok (.invokevirtual 242, 3) := by decide +kernel
theorem dX11_copy_8 : decode cX11_copy 8 = .ok (.ifCond .eq 14, 3) := by decide +kernel
theorem dX11_copy_11 : decode cX11_copy 11 = .ok (.aload_n 0, 1) := by decide +kernel
theorem dX11_copy_12 : decode cX11_copy 12 = .ok (.getfield 76, 3) := by decide +kernel
theorem dX11_copy_15 : decode cX11_copy 15 = .ok (.iload_n 3, 1) := by decide +kernel
theorem dX11_copy_16 : decode cX11_copy 16 = .ok (.invokevirtual 242, 3) := by decide +kernel
theorem dX11_copy_19 : decode cX11_copy 19 = .ok (.ifCond .ne 6, 3) := by decide +kernel
theorem dX11_copy_22 : decode cX11_copy 22 = .ok (.bipush (-2), 2) := by decide +kernel
theorem dX11_copy_24 : decode cX11_copy 24 = .ok (.ireturn, 1) := by decide +kernel
theorem dX11_copy_25 : decode cX11_copy 25 = .ok (.aload_n 0, 1) := by decide +kernel
theorem dX11_copy_26 : decode cX11_copy 26 = .ok (.getfield 76, 3) := by decide +kernel
theorem dX11_copy_29 : decode cX11_copy 29 = .ok (.getfield 245, 3) := by decide +kernel
theorem dX11_copy_32 : decode cX11_copy 32 = .ok (.iload_n 1, 1) := by decide +kernel
theorem dX11_copy_33 : decode cX11_copy 33 = .ok (.aaload, 1) := by decide +kernel
theorem dX11_copy_34 : decode cX11_copy 34 = .ok (.astore 6, 2) := by decide +kernel
theorem dX11_copy_36 : decode cX11_copy 36 = .ok (.aload_n 0, 1) := by decide +kernel
theorem dX11_copy_37 : decode cX11_copy 37 = .ok (.getfield 76, 3) := by decide +kernel
theorem dX11_copy_40 : decode cX11_copy 40 = .ok (.getfield 245, 3) := by decide +kernel
theorem dX11_copy_43 : decode cX11_copy 43 = .ok (.iload_n 3, 1) := by decide +kernel
theorem dX11_copy_44 : decode cX11_copy 44 = .ok (.aaload, 1) := by decide +kernel
theorem dX11_copy_45 : decode cX11_copy 45 = .ok (.astore 7, 2) := by decide +kernel
theorem dX11_copy_47 : decode cX11_copy 47 = .ok (.aload 6, 2) := by decide +kernel
theorem dX11_copy_49 : decode cX11_copy 49 = .ok (.invokevirtual 254, 3) := by decide +kernel
theorem dX11_copy_52 : decode cX11_copy 52 = .ok (.ifCond .ne 11, 3) := by decide +kernel
theorem dX11_copy_55 : decode cX11_copy 55 = .ok (.aload 7, 2) := by decide +kernel
theorem dX11_copy_57 : decode cX11_copy 57 = .ok (.invokevirtual 254, 3) := by decide +kernel
theorem dX11_copy_60 : decode cX11_copy 60 = .ok (.ifCond .eq 6, 3) := by decide +kernel
theorem dX11_copy_63 : decode cX11_copy 63 = .ok (.bipush (-11), 2) := by decide +kernel
theorem dX11_copy_65 : decode cX11_copy 65 = .ok (.ireturn, 1) := by decide +kernel
theorem dX11_copy_66 : decode cX11_copy 66 = .ok (.aload 6, 2) := by decide +kernel
theorem dX11_copy_68 : decode cX11_copy 68 = .ok (.iload_n 2, 1) := by decide +kernel
theorem dX11_copy_69 : decode cX11_copy 69 = .ok (.iload 5, 2) := by decide +kernel
theorem dX11_copy_71 : decode cX11_copy 71 = .ok (.invokevirtual 274, 3) := by decide +kernel
theorem dX11_copy_74 : decode cX11_copy 74 = .ok (.ifCond .eq 15, 3) := by decide +kernel
theorem dX11_copy_77 : decode cX11_copy 77 = .ok (.aload 7, 2) := by decide +kernel
theorem dX11_copy_79 : decode cX11_copy 79 = .ok (.iload 4, 2) := by decide +kernel
theorem dX11_copy_81 : decode cX11_copy 81 = .ok (.iload 5, 2) := by decide +kernel
theorem dX11_copy_83 : decode cX11_copy 83 = .ok (.invokevirtual 274, 3) := by decide +kernel
theorem dX11_copy_86 : decode cX11_copy 86 = .ok (.ifCond .ne 6, 3) := by decide +kernel
theorem dX11_copy_89 : decode cX11_copy 89 = .ok (.bipush (-12), 2) := by decide +kernel
theorem dX11_copy_91 : decode cX11_copy 91 = .ok (.ireturn, 1) := by decide +kernel
theorem dX11_copy_92 : decode cX11_copy 92 = .ok (.aload 6, 2) := by decide +kernel
theorem dX11_copy_94 : decode cX11_copy 94 = .ok (.getfield 261, 3) := by decide +kernel
theorem dX11_copy_97 : decode cX11_copy 97 = .ok (.iload_n 2, 1) := by decide +kernel
theorem dX11_copy_98 : decode cX11_copy 98 = .ok (.aload 7, 2) := by decide +kernel
theorem dX11_copy_100 : decode cX11_copy 100 = .ok (.getfield 261, 3) := by decide +kernel
theorem dX11_copy_103 : decode cX11_copy 103 = .ok (.iload 4, 2) := by decide +kernel
theorem dX11_copy_105 : decode cX11_copy 105 = .ok (.iload 5, 2) := by decide +kernel
theorem dX11_copy_107 : decode cX11_copy 107 = .ok (.invokestatic 277, 3) := by decide +kernel
theorem dX11_copy_110 : decode cX11_copy 110 = .ok (.aload 6, 2) := by decide +kernel
theorem dX11_copy_112 : decode cX11_copy 112 = .ok (.getfield 264, 3) := by decide +kernel
theorem dX11_copy_115 : decode cX11_copy 115 = .ok (.iload_n 2, 1) := by decide +kernel
theorem dX11_copy_116 : decode cX11_copy 116 = .ok (.aload 7, 2) := by decide +kernel
theorem dX11_copy_118 : decode cX11_copy 118 = .ok (.getfield 264, 3) := by decide +kernel
theorem dX11_copy_121 : decode cX11_copy 121 = .ok (.iload 4, 2) := by decide +kernel
theorem dX11_copy_123 : decode cX11_copy 123 = .ok (.iload 5, 2) := by decide +kernel
theorem dX11_copy_125 : decode cX11_copy 125 = .ok (.invokestatic 277, 3) := by decide +kernel
theorem dX11_copy_128 : decode cX11_copy 128 = .ok (.iload 5, 2) := by decide +kernel
theorem dX11_copy_130 : decode cX11_copy 130 = .ok (.ireturn, 1) := by decide +kernel
theorem dX11_drop_0 : decode cX11_drop 0 = .ok (.aload_n 0, 1) := by decide +kernel
theorem dX11_drop_1 : decode cX11_drop 1 = .ok (.getfield 76, 3) := by decide +kernel
theorem dX11_drop_4 : decode cX11_drop 4 = .ok (.iload_n 1, 1) := by decide +kernel
theorem dX11_drop_5 : decode cX11_drop 5 = .ok (.invokevirtual 242, 3) := by decide +kernel
theorem dX11_drop_8 : decode cX11_drop 8 = .ok (.ifCond .ne 6, 3) := by decide +kernel
theorem dX11_drop_11 : decode cX11_drop 11 = .ok (.bipush (-2), 2) := by decide +kernel
theorem dX11_drop_13 : decode cX11_drop 13 = .ok (.ireturn, 1) := by decide +kernel
theorem dX11_drop_14 : decode cX11_drop 14 = .ok (.aload_n 0, 1) := by decide +kernel
theorem dX11_drop_15 : decode cX11_drop 15 = .ok (.getfield 76, 3) := by decide +kernel
theorem dX11_drop_18 : decode cX11_drop 18 = .ok (.getfield 245, 3) := by decide +kernel
theorem dX11_drop_21 : decode cX11_drop 21 = .ok (.iload_n 1, 1) := by decide +kernel
theorem dX11_drop_22 : decode cX11_drop 22 = .ok (.aaload, 1) := by decide +kernel
theorem dX11_drop_23 : decode cX11_drop 23 = .ok (.astore_n 2, 1) := by decide +kernel
theorem dX11_drop_24 : decode cX11_drop 24 = .ok (.aload_n 2, 1) := by decide +kernel
theorem dX11_drop_25 : decode cX11_drop 25 = .ok (.invokevirtual 254, 3) := by decide +kernel
theorem dX11_drop_28 : decode cX11_drop 28 = .ok (.ifCond .eq 6, 3) := by decide +kernel
theorem dX11_drop_31 : decode cX11_drop 31 = .ok (.bipush (-11), 2) := by decide +kernel
theorem dX11_drop_33 : decode cX11_drop 33 = .ok (.ireturn, 1) := by decide +kernel
theorem dX11_drop_34 : decode cX11_drop 34 = .ok (.aload_n 2, 1) := by decide +kernel
theorem dX11_drop_35 : decode cX11_drop 35 = .ok (.invokevirtual 283, 3) := by decide +kernel
theorem dX11_drop_38 : decode cX11_drop 38 = .ok (.istore_n 3, 1) := by decide +kernel
theorem dX11_drop_39 : decode cX11_drop 39 = .ok (.aload_n 2, 1) := by decide +kernel
theorem dX11_drop_40 : decode cX11_drop 40 = .ok (.invokevirtual 286, 3) := by decide +kernel
theorem dX11_drop_43 : decode cX11_drop 43 = .ok (.iload_n 3, 1) := by decide +kernel
theorem dX11_drop_44 : decode cX11_drop 44 = .ok (.ireturn, 1) := by decide +kernel
theorem dX11_count_0 : decode cX11_count 0 = .ok (.iload_n 1, 1) := by decide +kernel
theorem dX11_count_1 : decode cX11_count 1 = .ok (.tableswitch 147 0 10 #[59, 67, 75, 83, 91, 99, 107, 115, 123, 131, 139], 59) := by decide +kernel
theorem dX11_count_60 : decode cX11_count 60 = .ok (.aload_n 0, 1) := by decide +kernel
theorem dX11_count_61 : decode cX11_count 61 = .ok (.getfield 10, 3) := by decide +kernel
theorem dX11_count_64 : decode cX11_count 64 = .ok (.getfield 289, 3) := by decide +kernel
theorem dX11_count_67 : decode cX11_count 67 = .ok (.ireturn, 1) := by decide +kernel
theorem dX11_count_68 : decode cX11_count 68 = .ok (.aload_n 0, 1) := by decide +kernel
theorem dX11_count_69 : decode cX11_count 69 = .ok (.getfield 10, 3) := by decide +kernel
theorem dX11_count_72 : decode cX11_count 72 = .ok (.getfield 213, 3) := by decide +kernel
theorem dX11_count_75 : decode cX11_count 75 = .ok (.ireturn, 1) := by decide +kernel
theorem dX11_count_76 : decode cX11_count 76 = .ok (.aload_n 0, 1) := by decide +kernel
theorem dX11_count_77 : decode cX11_count 77 = .ok (.getfield 10, 3) := by decide +kernel
theorem dX11_count_80 : decode cX11_count 80 = .ok (.getfield 292, 3) := by decide +kernel
theorem dX11_count_83 : decode cX11_count 83 = .ok (.ireturn, 1) := by decide +kernel
theorem dX11_count_84 : decode cX11_count 84 = .ok (.aload_n 0, 1) := by decide +kernel
theorem dX11_count_85 : decode cX11_count 85 = .ok (.getfield 37, 3) := by decide +kernel
theorem dX11_count_88 : decode cX11_count 88 = .ok (.getfield 158, 3) := by decide +kernel
theorem dX11_count_91 : decode cX11_count 91 = .ok (.ireturn, 1) := by decide +kernel
theorem dX11_count_92 : decode cX11_count 92 = .ok (.aload_n 0, 1) := by decide +kernel
theorem dX11_count_93 : decode cX11_count 93 = .ok (.getfield 37, 3) := by decide +kernel
theorem dX11_count_96 : decode cX11_count 96 = .ok (.getfield 295, 3) := by decide +kernel
theorem dX11_count_99 : decode cX11_count 99 = .ok (.ireturn, 1) := by decide +kernel
theorem dX11_count_100 : decode cX11_count 100 = .ok (.aload_n 0, 1) := by decide +kernel
theorem dX11_count_101 : decode cX11_count 101 = .ok (.getfield 37, 3) := by decide +kernel
theorem dX11_count_104 : decode cX11_count 104 = .ok (.invokevirtual 298, 3) := by decide +kernel
theorem dX11_count_107 : decode cX11_count 107 = .ok (.ireturn, 1) := by decide +kernel
theorem dX11_count_108 : decode cX11_count 108 = .ok (.aload_n 0, 1) := by decide +kernel
theorem dX11_count_109 : decode cX11_count 109 = .ok (.getfield 37, 3) := by decide +kernel
theorem dX11_count_112 : decode cX11_count 112 = .ok (.invokevirtual 301, 3) := by decide +kernel
theorem dX11_count_115 : decode cX11_count 115 = .ok (.ireturn, 1) := by decide +kernel
theorem dX11_count_116 : decode cX11_count 116 = .ok (.aload_n 0, 1) := by decide +kernel
theorem dX11_count_117 : decode cX11_count 117 = .ok (.getfield 69, 3) := by decide +kernel
theorem dX11_count_120 : decode cX11_count 120 = .ok (.getfield 231, 3) := by decide +kernel
theorem dX11_count_123 : decode cX11_count 123 = .ok (.ireturn, 1) := by decide +kernel
theorem dX11_count_124 : decode cX11_count 124 = .ok (.aload_n 0, 1) := by decide +kernel
theorem dX11_count_125 : decode cX11_count 125 = .ok (.getfield 76, 3) := by decide +kernel
theorem dX11_count_128 : decode cX11_count 128 = .ok (.invokevirtual 304, 3) := by decide +kernel
theorem dX11_count_131 : decode cX11_count 131 = .ok (.ireturn, 1) := by decide +kernel
theorem dX11_count_132 : decode cX11_count 132 = .ok (.aload_n 0, 1) := by decide +kernel
theorem dX11_count_133 : decode cX11_count 133 = .ok (.getfield 47, 3) := by decide +kernel
theorem dX11_count_136 : decode cX11_count 136 = .ok (.getfield 174, 3) := by decide +kernel
theorem dX11_count_139 : decode cX11_count 139 = .ok (.ireturn, 1) := by decide +kernel
theorem dX11_count_140 : decode cX11_count 140 = .ok (.aload_n 0, 1) := by decide +kernel
theorem dX11_count_141 : decode cX11_count 141 = .ok (.getfield 19, 3) := by decide +kernel
theorem dX11_count_144 : decode cX11_count 144 = .ok (.getfield 80, 3) := by decide +kernel
theorem dX11_count_147 : decode cX11_count 147 = .ok (.ireturn, 1) := by decide +kernel
theorem dX11_count_148 : decode cX11_count 148 = .ok (.bipush (-3), 2) := by decide +kernel
theorem dX11_count_150 : decode cX11_count 150 = .ok (.ireturn, 1) := by decide +kernel
theorem dX11_beginDay_0 : decode cX11_beginDay 0 = .ok (.aload_n 0, 1) := by decide +kernel
theorem dX11_beginDay_1 : decode cX11_beginDay 1 = .ok (.getfield 37, 3) := by decide +kernel
theorem dX11_beginDay_4 : decode cX11_beginDay 4 = .ok (.invokevirtual 307, 3) := by decide +kernel
theorem dX11_beginDay_7 : decode cX11_beginDay 7 = .ok (.aload_n 0, 1) := by decide +kernel
theorem dX11_beginDay_8 : decode cX11_beginDay 8 = .ok (.getfield 47, 3) := by decide +kernel
theorem dX11_beginDay_11 : decode cX11_beginDay 11 = .ok (.invokevirtual 182, 3) := by decide +kernel
theorem dX11_beginDay_14 : decode cX11_beginDay 14 = .ok (.iconst 0, 1) := by decide +kernel
theorem dX11_beginDay_15 : decode cX11_beginDay 15 = .ok (.istore_n 1, 1) := by decide +kernel
theorem dX11_beginDay_16 : decode cX11_beginDay 16 = .ok (.iload_n 1, 1) := by decide +kernel
theorem dX11_beginDay_17 : decode cX11_beginDay 17 = .ok (.aload_n 0, 1) := by decide +kernel
theorem dX11_beginDay_18 : decode cX11_beginDay 18 = .ok (.getfield 55, 3) := by decide +kernel
theorem dX11_beginDay_21 : decode cX11_beginDay 21 = .ok (.arraylength, 1) := by decide +kernel
theorem dX11_beginDay_22 : decode cX11_beginDay 22 = .ok (.if_icmp .ge 16, 3) := by decide +kernel
theorem dX11_beginDay_25 : decode cX11_beginDay 25 = .ok (.aload_n 0, 1) := by decide +kernel
theorem dX11_beginDay_26 : decode cX11_beginDay 26 = .ok (.getfield 55, 3) := by decide +kernel
theorem dX11_beginDay_29 : decode cX11_beginDay 29 = .ok (.iload_n 1, 1) := by decide +kernel
theorem dX11_beginDay_30 : decode cX11_beginDay 30 = .ok (.iconst 0, 1) := by decide +kernel
theorem dX11_beginDay_31 : decode cX11_beginDay 31 = .ok (.bastore, 1) := by decide +kernel
theorem dX11_beginDay_32 : decode cX11_beginDay 32 = .ok (.iinc 1 1, 3) := by decide +kernel
theorem dX11_beginDay_35 : decode cX11_beginDay 35 = .ok (.goto (-19), 3) := by decide +kernel
theorem dX11_beginDay_38 : decode cX11_beginDay 38 = .ok (.aload_n 0, 1) := by decide +kernel
theorem dX11_beginDay_39 : decode cX11_beginDay 39 = .ok (.getfield 69, 3) := by decide +kernel
theorem dX11_beginDay_42 : decode cX11_beginDay 42 = .ok (.invokevirtual 235, 3) := by decide +kernel
theorem dX11_beginDay_45 : decode cX11_beginDay 45 = .ok (.aload_n 0, 1) := by decide +kernel
theorem dX11_beginDay_46 : decode cX11_beginDay 46 = .ok (.getfield 76, 3) := by decide +kernel
theorem dX11_beginDay_49 : decode cX11_beginDay 49 = .ok (.invokevirtual 310, 3) := by decide +kernel
theorem dX11_beginDay_52 : decode cX11_beginDay 52 = .ok (.return_, 1) := by decide +kernel
theorem dX11_comesFed_0 : decode cX11_comesFed 0 = .ok (.aload_n 0, 1) := by decide +kernel
theorem dX11_comesFed_1 : decode cX11_comesFed 1 = .ok (.getfield 41, 3) := by decide +kernel
theorem dX11_comesFed_4 : decode cX11_comesFed 4 = .ok (.aload_n 0, 1) := by decide +kernel
theorem dX11_comesFed_5 : decode cX11_comesFed 5 = .ok (.getfield 37, 3) := by decide +kernel
theorem dX11_comesFed_8 : decode cX11_comesFed 8 = .ok (.invokevirtual 180, 3) := by decide +kernel
theorem dX11_comesFed_11 : decode cX11_comesFed 11 = .ok (.iconst 0, 1) := by decide +kernel
theorem dX11_comesFed_12 : decode cX11_comesFed 12 = .ok (.istore 4, 2) := by decide +kernel
theorem dX11_comesFed_14 : decode cX11_comesFed 14 = .ok (.iload 4, 2) := by decide +kernel
theorem dX11_comesFed_16 : decode cX11_comesFed 16 = .ok (.aload_n 0, 1) := by decide +kernel
theorem dX11_comesFed_17 : decode cX11_comesFed 17 = .ok (.getfield 10, 3) := by decide +kernel
theorem dX11_comesFed_20 : decode cX11_comesFed 20 = .ok (.getfield 213, 3) := by decide +kernel
theorem dX11_comesFed_23 : decode cX11_comesFed 23 = .ok (.if_icmp .ge 27, 3) := by decide +kernel
theorem dX11_comesFed_26 : decode cX11_comesFed 26 = .ok (.iload_n 3, 1) := by decide +kernel
theorem dX11_comesFed_27 : decode cX11_comesFed 27 = .ok (.iload 4, 2) := by decide +kernel
theorem dX11_comesFed_29 : decode cX11_comesFed 29 = .ok (.ishr, 1) := by decide +kernel
theorem dX11_comesFed_30 : decode cX11_comesFed 30 = .ok (.iconst 1, 1) := by decide +kernel
theorem dX11_comesFed_31 : decode cX11_comesFed 31 = .ok (.iand, 1) := by decide +kernel
theorem dX11_comesFed_32 : decode cX11_comesFed 32 = .ok (.ifCond .eq 12, 3) := by decide +kernel
theorem dX11_comesFed_35 : decode cX11_comesFed 35 = .ok (.aload_n 0, 1) := by decide +kernel
theorem dX11_comesFed_36 : decode cX11_comesFed 36 = .ok (.getfield 41, 3) := by decide +kernel
theorem dX11_comesFed_39 : decode cX11_comesFed 39 = .ok (.iload 4, 2) := by decide +kernel
theorem dX11_comesFed_41 : decode cX11_comesFed 41 = .ok (.invokevirtual 168, 3) := by decide +kernel
theorem dX11_comesFed_44 : decode cX11_comesFed 44 = .ok (.iinc 4 1, 3) := by decide +kernel
theorem dX11_comesFed_47 : decode cX11_comesFed 47 = .ok (.goto (-33), 3) := by decide +kernel
theorem dX11_comesFed_50 : decode cX11_comesFed 50 = .ok (.aload_n 0, 1) := by decide +kernel
theorem dX11_comesFed_51 : decode cX11_comesFed 51 = .ok (.getfield 41, 3) := by decide +kernel
theorem dX11_comesFed_54 : decode cX11_comesFed 54 = .ok (.iload_n 1, 1) := by decide +kernel
theorem dX11_comesFed_55 : decode cX11_comesFed 55 = .ok (.iload_n 2, 1) := by decide +kernel
theorem dX11_comesFed_56 : decode cX11_comesFed 56 = .ok (.invokevirtual 189, 3) := by decide +kernel
theorem dX11_comesFed_59 : decode cX11_comesFed 59 = .ok (.iconst (-1), 1) := by decide +kernel
theorem dX11_comesFed_60 : decode cX11_comesFed 60 = .ok (.if_icmp .eq 7, 3) := by decide +kernel
theorem dX11_comesFed_63 : decode cX11_comesFed 63 = .ok (.iconst 1, 1) := by decide +kernel
theorem dX11_comesFed_64 : decode cX11_comesFed 64 = .ok (.goto 4, 3) := by decide +kernel
theorem dX11_comesFed_67 : decode cX11_comesFed 67 = .ok (.iconst 0, 1) := by decide +kernel
theorem dX11_comesFed_68 : decode cX11_comesFed 68 = .ok (.ireturn, 1) := by decide +kernel
theorem dX12_init_0 : decode cX12_init 0 = .ok (.aload_n 0, 1) := by decide +kernel
theorem dX12_init_1 : decode cX12_init 1 = .ok (.invokespecial 1, 3) := by decide +kernel
theorem dX12_init_4 : decode cX12_init 4 = .ok (.aload_n 0, 1) := by decide +kernel
theorem dX12_init_5 : decode cX12_init 5 = .ok (.sipush 910, 3) := by decide +kernel
theorem dX12_init_8 : decode cX12_init 8 = .ok (.newarray .int, 2) := by decide +kernel
theorem dX12_init_10 : decode cX12_init 10 = .ok (.putfield 7, 3) := by decide +kernel
theorem dX12_init_13 : decode cX12_init 13 = .ok (.aload_n 0, 1) := by decide +kernel
theorem dX12_init_14 : decode cX12_init 14 = .ok (.iconst 2, 1) := by decide +kernel
theorem dX12_init_15 : decode cX12_init 15 = .ok (.newarray .boolean, 2) := by decide +kernel
theorem dX12_init_17 : decode cX12_init 17 = .ok (.putfield 13, 3) := by decide +kernel
theorem dX12_init_20 : decode cX12_init 20 = .ok (.aload_n 0, 1) := by decide +kernel
theorem dX12_init_21 : decode cX12_init 21 = .ok (.sipush 200, 3) := by decide +kernel
theorem dX12_init_24 : decode cX12_init 24 = .ok (.newarray .int, 2) := by decide +kernel
theorem dX12_init_26 : decode cX12_init 26 = .ok (.putfield 17, 3) := by decide +kernel
theorem dX12_init_29 : decode cX12_init 29 = .ok (.aload_n 0, 1) := by decide +kernel
theorem dX12_init_30 : decode cX12_init 30 = .ok (.bipush 6, 2) := by decide +kernel
theorem dX12_init_32 : decode cX12_init 32 = .ok (.newarray .int, 2) := by decide +kernel
theorem dX12_init_34 : decode cX12_init 34 = .ok (.putfield 20, 3) := by decide +kernel
theorem dX12_init_37 : decode cX12_init 37 = .ok (.aload_n 0, 1) := by decide +kernel
theorem dX12_init_38 : decode cX12_init 38 = .ok (.bipush 6, 2) := by decide +kernel
theorem dX12_init_40 : decode cX12_init 40 = .ok (.newarray .int, 2) := by decide +kernel
theorem dX12_init_42 : decode cX12_init 42 = .ok (.putfield 23, 3) := by decide +kernel
theorem dX12_init_45 : decode cX12_init 45 = .ok (.aload_n 0, 1) := by decide +kernel
theorem dX12_init_46 : decode cX12_init 46 = .ok (.bipush 6, 2) := by decide +kernel
theorem dX12_init_48 : decode cX12_init 48 = .ok (.newarray .int, 2) := by decide +kernel
theorem dX12_init_50 : decode cX12_init 50 = .ok (.putfield 26, 3) := by decide +kernel
theorem dX12_init_53 : decode cX12_init 53 = .ok (.aload_n 0, 1) := by decide +kernel
theorem dX12_init_54 : decode cX12_init 54 = .ok (.iconst 4, 1) := by decide +kernel
theorem dX12_init_55 : decode cX12_init 55 = .ok (.newarray .int, 2) := by decide +kernel
theorem dX12_init_57 : decode cX12_init 57 = .ok (.dup, 1) := by decide +kernel
theorem dX12_init_58 : decode cX12_init 58 = .ok (.iconst 0, 1) := by decide +kernel
theorem dX12_init_59 : decode cX12_init 59 = .ok (.iconst (-1), 1) := by decide +kernel
theorem dX12_init_60 : decode cX12_init 60 = .ok (.iastore, 1) := by decide +kernel
theorem dX12_init_61 : decode cX12_init 61 = .ok (.dup, 1) := by decide +kernel
theorem dX12_init_62 : decode cX12_init 62 = .ok (.iconst 1, 1) := by decide +kernel
theorem dX12_init_63 : decode cX12_init 63 = .ok (.iconst (-1), 1) := by decide +kernel
theorem dX12_init_64 : decode cX12_init 64 = .ok (.iastore, 1) := by decide +kernel
theorem dX12_init_65 : decode cX12_init 65 = .ok (.dup, 1) := by decide +kernel
theorem dX12_init_66 : decode cX12_init 66 = .ok (.iconst 2, 1) := by decide +kernel
theorem dX12_init_67 : decode cX12_init 67 = .ok (.iconst (-1), 1) := by decide +kernel
theorem dX12_init_68 : decode cX12_init 68 = .ok (.iastore, 1) := by decide +kernel
theorem dX12_init_69 : decode cX12_init 69 = .ok (.dup, 1) := by decide +kernel
theorem dX12_init_70 : decode cX12_init 70 = .ok (.iconst 3, 1) := by decide +kernel
theorem dX12_init_71 : decode cX12_init 71 = .ok (.iconst (-1), 1) := by decide +kernel
theorem dX12_init_72 : decode cX12_init 72 = .ok (.iastore, 1) := by decide +kernel
theorem dX12_init_73 : decode cX12_init 73 = .ok (.putfield 29, 3) := by decide +kernel
theorem dX12_init_76 : decode cX12_init 76 = .ok (.aload_n 0, 1) := by decide +kernel
theorem dX12_init_77 : decode cX12_init 77 = .ok (.bipush 40, 2) := by decide +kernel
theorem dX12_init_79 : decode cX12_init 79 = .ok (.newarray .int, 2) := by decide +kernel
theorem dX12_init_81 : decode cX12_init 81 = .ok (.putfield 32, 3) := by decide +kernel
theorem dX12_init_84 : decode cX12_init 84 = .ok (.aload_n 0, 1) := by decide +kernel
theorem dX12_init_85 : decode cX12_init 85 = .ok (.bipush 40, 2) := by decide +kernel
theorem dX12_init_87 : decode cX12_init 87 = .ok (.newarray .int, 2) := by decide +kernel
theorem dX12_init_89 : decode cX12_init 89 = .ok (.putfield 35, 3) := by decide +kernel
theorem dX12_init_92 : decode cX12_init 92 = .ok (.aload_n 0, 1) := by decide +kernel
theorem dX12_init_93 : decode cX12_init 93 = .ok (.iconst 2, 1) := by decide +kernel
theorem dX12_init_94 : decode cX12_init 94 = .ok (.newarray .int, 2) := by decide +kernel
theorem dX12_init_96 : decode cX12_init 96 = .ok (.putfield 38, 3) := by decide +kernel
theorem dX12_init_99 : decode cX12_init 99 = .ok (.aload_n 0, 1) := by decide +kernel
theorem dX12_init_100 : decode cX12_init 100 = .ok (.iconst 4, 1) := by decide +kernel
theorem dX12_init_101 : decode cX12_init 101 = .ok (.newarray .int, 2) := by decide +kernel
theorem dX12_init_103 : decode cX12_init 103 = .ok (.dup, 1) := by decide +kernel
theorem dX12_init_104 : decode cX12_init 104 = .ok (.iconst 0, 1) := by decide +kernel
theorem dX12_init_105 : decode cX12_init 105 = .ok (.bipush 114, 2) := by decide +kernel
theorem dX12_init_107 : decode cX12_init 107 = .ok (.iastore, 1) := by decide +kernel
theorem dX12_init_108 : decode cX12_init 108 = .ok (.dup, 1) := by decide +kernel
theorem dX12_init_109 : decode cX12_init 109 = .ok (.iconst 1, 1) := by decide +kernel
theorem dX12_init_110 : decode cX12_init 110 = .ok (.bipush 111, 2) := by decide +kernel
theorem dX12_init_112 : decode cX12_init 112 = .ok (.iastore, 1) := by decide +kernel
theorem dX12_init_113 : decode cX12_init 113 = .ok (.dup, 1) := by decide +kernel
theorem dX12_init_114 : decode cX12_init 114 = .ok (.iconst 2, 1) := by decide +kernel
theorem dX12_init_115 : decode cX12_init 115 = .ok (.bipush 97, 2) := by decide +kernel
theorem dX12_init_117 : decode cX12_init 117 = .ok (.iastore, 1) := by decide +kernel
theorem dX12_init_118 : decode cX12_init 118 = .ok (.dup, 1) := by decide +kernel
theorem dX12_init_119 : decode cX12_init 119 = .ok (.iconst 3, 1) := by decide +kernel
theorem dX12_init_120 : decode cX12_init 120 = .ok (.bipush 100, 2) := by decide +kernel
theorem dX12_init_122 : decode cX12_init 122 = .ok (.iastore, 1) := by decide +kernel
theorem dX12_init_123 : decode cX12_init 123 = .ok (.putfield 41, 3) := by decide +kernel
theorem dX12_init_126 : decode cX12_init 126 = .ok (.aload_n 0, 1) := by decide +kernel
theorem dX12_init_127 : decode cX12_init 127 = .ok (.iconst 3, 1) := by decide +kernel
theorem dX12_init_128 : decode cX12_init 128 = .ok (.newarray .int, 2) := by decide +kernel
theorem dX12_init_130 : decode cX12_init 130 = .ok (.dup, 1) := by decide +kernel
theorem dX12_init_131 : decode cX12_init 131 = .ok (.iconst 0, 1) := by decide +kernel
theorem dX12_init_132 : decode cX12_init 132 = .ok (.bipush 105, 2) := by decide +kernel
theorem dX12_init_134 : decode cX12_init 134 = .ok (.iastore, 1) := by decide +kernel
theorem dX12_init_135 : decode cX12_init 135 = .ok (.dup, 1) := by decide +kernel
theorem dX12_init_136 : decode cX12_init 136 = .ok (.iconst 1, 1) := by decide +kernel
theorem dX12_init_137 : decode cX12_init 137 = .ok (.bipush 110, 2) := by decide +kernel
theorem dX12_init_139 : decode cX12_init 139 = .ok (.iastore, 1) := by decide +kernel
theorem dX12_init_140 : decode cX12_init 140 = .ok (.dup, 1) := by decide +kernel
theorem dX12_init_141 : decode cX12_init 141 = .ok (.iconst 2, 1) := by decide +kernel
theorem dX12_init_142 : decode cX12_init 142 = .ok (.bipush 110, 2) := by decide +kernel
theorem dX12_init_144 : decode cX12_init 144 = .ok (.iastore, 1) := by decide +kernel
theorem dX12_init_145 : decode cX12_init 145 = .ok (.putfield 44, 3) := by decide +kernel
theorem dX12_init_148 : decode cX12_init 148 = .ok (.aload_n 0, 1) := by decide +kernel
theorem dX12_init_149 : decode cX12_init 149 = .ok (.iconst 4, 1) := by decide +kernel
theorem dX12_init_150 : decode cX12_init 150 = .ok (.newarray .int, 2) := by decide +kernel
theorem dX12_init_152 : decode cX12_init 152 = .ok (.dup, 1) := by decide +kernel
theorem dX12_init_153 : decode cX12_init 153 = .ok (.iconst 0, 1) := by decide +kernel
theorem dX12_init_154 : decode cX12_init 154 = .ok (.bipush 104, 2) := by decide +kernel
theorem dX12_init_156 : decode cX12_init 156 = .ok (.iastore, 1) := by decide +kernel
theorem dX12_init_157 : decode cX12_init 157 = .ok (.dup, 1) := by decide +kernel
theorem dX12_init_158 : decode cX12_init 158 = .ok (.iconst 1, 1) := by decide +kernel
theorem dX12_init_159 : decode cX12_init 159 = .ok (.bipush 97, 2) := by decide +kernel
theorem dX12_init_161 : decode cX12_init 161 = .ok (.iastore, 1) := by decide +kernel
theorem dX12_init_162 : decode cX12_init 162 = .ok (.dup, 1) := by decide +kernel
theorem dX12_init_163 : decode cX12_init 163 = .ok (.iconst 2, 1) := by decide +kernel
theorem dX12_init_164 : decode cX12_init 164 = .ok (.bipush 99, 2) := by decide +kernel
theorem dX12_init_166 : decode cX12_init 166 = .ok (.iastore, 1) := by decide +kernel
theorem dX12_init_167 : decode cX12_init 167 = .ok (.dup, 1) := by decide +kernel
theorem dX12_init_168 : decode cX12_init 168 = .ok (.iconst 3, 1) := by decide +kernel
theorem dX12_init_169 : decode cX12_init 169 = .ok (.bipush 107, 2) := by decide +kernel
theorem dX12_init_171 : decode cX12_init 171 = .ok (.iastore, 1) := by decide +kernel
theorem dX12_init_172 : decode cX12_init 172 = .ok (.putfield 47, 3) := by decide +kernel
theorem dX12_init_175 : decode cX12_init 175 = .ok (.aload_n 0, 1) := by decide +kernel
theorem dX12_init_176 : decode cX12_init 176 = .ok (.bipush 7, 2) := by decide +kernel
theorem dX12_init_178 : decode cX12_init 178 = .ok (.newarray .int, 2) := by decide +kernel
theorem dX12_init_180 : decode cX12_init 180 = .ok (.dup, 1) := by decide +kernel
theorem dX12_init_181 : decode cX12_init 181 = .ok (.iconst 0, 1) := by decide +kernel
theorem dX12_init_182 : decode cX12_init 182 = .ok (.bipush 118, 2) := by decide +kernel
theorem dX12_init_184 : decode cX12_init 184 = .ok (.iastore, 1) := by decide +kernel
theorem dX12_init_185 : decode cX12_init 185 = .ok (.dup, 1) := by decide +kernel
theorem dX12_init_186 : decode cX12_init 186 = .ok (.iconst 1, 1) := by decide +kernel
theorem dX12_init_187 : decode cX12_init 187 = .ok (.bipush 105, 2) := by decide +kernel
theorem dX12_init_189 : decode cX12_init 189 = .ok (.iastore, 1) := by decide +kernel
theorem dX12_init_190 : decode cX12_init 190 = .ok (.dup, 1) := by decide +kernel
theorem dX12_init_191 : decode cX12_init 191 = .ok (.iconst 2, 1) := by decide +kernel
theorem dX12_init_192 : decode cX12_init 192 = .ok (.bipush 99, 2) := by decide +kernel
theorem dX12_init_194 : decode cX12_init 194 = .ok (.iastore, 1) := by decide +kernel
theorem dX12_init_195 : decode cX12_init 195 = .ok (.dup, 1) := by decide +kernel
theorem dX12_init_196 : decode cX12_init 196 = .ok (.iconst 3, 1) := by decide +kernel
theorem dX12_init_197 : decode cX12_init 197 = .ok (.bipush 105, 2) := by decide +kernel
theorem dX12_init_199 : decode cX12_init 199 = .ok (.iastore, 1) := by decide +kernel
theorem dX12_init_200 : decode cX12_init 200 = .ok (.dup, 1) := by decide +kernel
theorem dX12_init_201 : decode cX12_init 201 = .ok (.iconst 4, 1) := by decide +kernel
theorem dX12_init_202 : decode cX12_init 202 = .ok (.bipush 111, 2) := by decide +kernel
theorem dX12_init_204 : decode cX12_init 204 = .ok (.iastore, 1) := by decide +kernel
theorem dX12_init_205 : decode cX12_init 205 = .ok (.dup, 1) := by decide +kernel
theorem dX12_init_206 : decode cX12_init 206 = .ok (.iconst 5, 1) := by decide +kernel
theorem dX12_init_207 : decode cX12_init 207 = .ok (.bipush 117, 2) := by decide +kernel
theorem dX12_init_209 : decode cX12_init 209 = .ok (.iastore, 1) := by decide +kernel
theorem dX12_init_210 : decode cX12_init 210 = .ok (.dup, 1) := by decide +kernel
theorem dX12_init_211 : decode cX12_init 211 = .ok (.bipush 6, 2) := by decide +kernel
theorem dX12_init_213 : decode cX12_init 213 = .ok (.bipush 115, 2) := by decide +kernel
theorem dX12_init_215 : decode cX12_init 215 = .ok (.iastore, 1) := by decide +kernel
theorem dX12_init_216 : decode cX12_init 216 = .ok (.putfield 50, 3) := by decide +kernel
theorem dX12_init_219 : decode cX12_init 219 = .ok (.aload_n 0, 1) := by decide +kernel
theorem dX12_init_220 : decode cX12_init 220 = .ok (.iconst 4, 1) := by decide +kernel
theorem dX12_init_221 : decode cX12_init 221 = .ok (.newarray .int, 2) := by decide +kernel
theorem dX12_init_223 : decode cX12_init 223 = .ok (.dup, 1) := by decide +kernel
theorem dX12_init_224 : decode cX12_init 224 = .ok (.iconst 0, 1) := by decide +kernel
theorem dX12_init_225 : decode cX12_init 225 = .ok (.bipush 100, 2) := by decide +kernel
theorem dX12_init_227 : decode cX12_init 227 = .ok (.iastore, 1) := by decide +kernel
theorem dX12_init_228 : decode cX12_init 228 = .ok (.dup, 1) := by decide +kernel
theorem dX12_init_229 : decode cX12_init 229 = .ok (.iconst 1, 1) := by decide +kernel
theorem dX12_init_230 : decode cX12_init 230 = .ok (.bipush 97, 2) := by decide +kernel
theorem dX12_init_232 : decode cX12_init 232 = .ok (.iastore, 1) := by decide +kernel
theorem dX12_init_233 : decode cX12_init 233 = .ok (.dup, 1) := by decide +kernel
theorem dX12_init_234 : decode cX12_init 234 = .ok (.iconst 2, 1) := by decide +kernel
theorem dX12_init_235 : decode cX12_init 235 = .ok (.bipush 119, 2) := by decide +kernel
theorem dX12_init_237 : decode cX12_init 237 = .ok (.iastore, 1) := by decide +kernel
theorem dX12_init_238 : decode cX12_init 238 = .ok (.dup, 1) := by decide +kernel
theorem dX12_init_239 : decode cX12_init 239 = .ok (.iconst 3, 1) := by decide +kernel
theorem dX12_init_240 : decode cX12_init 240 = .ok (.bipush 110, 2) := by decide +kernel
theorem dX12_init_242 : decode cX12_init 242 = .ok (.iastore, 1) := by decide +kernel
theorem dX12_init_243 : decode cX12_init 243 = .ok (.putfield 53, 3) := by decide +kernel
theorem dX12_init_246 : decode cX12_init 246 = .ok (.aload_n 0, 1) := by decide +kernel
theorem dX12_init_247 : decode cX12_init 247 = .ok (.iconst 4, 1) := by decide +kernel
theorem dX12_init_248 : decode cX12_init 248 = .ok (.newarray .int, 2) := by decide +kernel
theorem dX12_init_250 : decode cX12_init 250 = .ok (.dup, 1) := by decide +kernel
theorem dX12_init_251 : decode cX12_init 251 = .ok (.iconst 0, 1) := by decide +kernel
theorem dX12_init_252 : decode cX12_init 252 = .ok (.bipush 103, 2) := by decide +kernel
theorem dX12_init_254 : decode cX12_init 254 = .ok (.iastore, 1) := by decide +kernel
theorem dX12_init_255 : decode cX12_init 255 = .ok (.dup, 1) := by decide +kernel
theorem dX12_init_256 : decode cX12_init 256 = .ok (.iconst 1, 1) := by decide +kernel
theorem dX12_init_257 : decode cX12_init 257 = .ok (.bipush 114, 2) := by decide +kernel
theorem dX12_init_259 : decode cX12_init 259 = .ok (.iastore, 1) := by decide +kernel
theorem dX12_init_260 : decode cX12_init 260 = .ok (.dup, 1) := by decide +kernel
theorem dX12_init_261 : decode cX12_init 261 = .ok (.iconst 2, 1) := by decide +kernel
theorem dX12_init_262 : decode cX12_init 262 = .ok (.bipush 101, 2) := by decide +kernel
theorem dX12_init_264 : decode cX12_init 264 = .ok (.iastore, 1) := by decide +kernel
theorem dX12_init_265 : decode cX12_init 265 = .ok (.dup, 1) := by decide +kernel
theorem dX12_init_266 : decode cX12_init 266 = .ok (.iconst 3, 1) := by decide +kernel
theorem dX12_init_267 : decode cX12_init 267 = .ok (.bipush 121, 2) := by decide +kernel
theorem dX12_init_269 : decode cX12_init 269 = .ok (.iastore, 1) := by decide +kernel
theorem dX12_init_270 : decode cX12_init 270 = .ok (.putfield 56, 3) := by decide +kernel
theorem dX12_init_273 : decode cX12_init 273 = .ok (.aload_n 0, 1) := by decide +kernel
theorem dX12_init_274 : decode cX12_init 274 = .ok (.bipush 8, 2) := by decide +kernel
theorem dX12_init_276 : decode cX12_init 276 = .ok (.newarray .int, 2) := by decide +kernel
theorem dX12_init_278 : decode cX12_init 278 = .ok (.dup, 1) := by decide +kernel
theorem dX12_init_279 : decode cX12_init 279 = .ok (.iconst 0, 1) := by decide +kernel
theorem dX12_init_280 : decode cX12_init 280 = .ok (.bipush 109, 2) := by decide +kernel
theorem dX12_init_282 : decode cX12_init 282 = .ok (.iastore, 1) := by decide +kernel
theorem dX12_init_283 : decode cX12_init 283 = .ok (.dup, 1) := by decide +kernel
theorem dX12_init_284 : decode cX12_init 284 = .ok (.iconst 1, 1) := by decide +kernel
theorem dX12_init_285 : decode cX12_init 285 = .ok (.bipush 105, 2) := by decide +kernel
theorem dX12_init_287 : decode cX12_init 287 = .ok (.iastore, 1) := by decide +kernel
theorem dX12_init_288 : decode cX12_init 288 = .ok (.dup, 1) := by decide +kernel
theorem dX12_init_289 : decode cX12_init 289 = .ok (.iconst 2, 1) := by decide +kernel
theorem dX12_init_290 : decode cX12_init 290 = .ok (.bipush 100, 2) := by decide +kernel
theorem dX12_init_292 : decode cX12_init 292 = .ok (.iastore, 1) := by decide +kernel
theorem dX12_init_293 : decode cX12_init 293 = .ok (.dup, 1) := by decide +kernel
theorem dX12_init_294 : decode cX12_init 294 = .ok (.iconst 3, 1) := by decide +kernel
theorem dX12_init_295 : decode cX12_init 295 = .ok (.bipush 110, 2) := by decide +kernel
theorem dX12_init_297 : decode cX12_init 297 = .ok (.iastore, 1) := by decide +kernel
theorem dX12_init_298 : decode cX12_init 298 = .ok (.dup, 1) := by decide +kernel
theorem dX12_init_299 : decode cX12_init 299 = .ok (.iconst 4, 1) := by decide +kernel
theorem dX12_init_300 : decode cX12_init 300 = .ok (.bipush 105, 2) := by decide +kernel
theorem dX12_init_302 : decode cX12_init 302 = .ok (.iastore, 1) := by decide +kernel
theorem dX12_init_303 : decode cX12_init 303 = .ok (.dup, 1) := by decide +kernel
theorem dX12_init_304 : decode cX12_init 304 = .ok (.iconst 5, 1) := by decide +kernel
theorem dX12_init_305 : decode cX12_init 305 = .ok (.bipush 103, 2) := by decide +kernel
theorem dX12_init_307 : decode cX12_init 307 = .ok (.iastore, 1) := by decide +kernel
theorem dX12_init_308 : decode cX12_init 308 = .ok (.dup, 1) := by decide +kernel
theorem dX12_init_309 : decode cX12_init 309 = .ok (.bipush 6, 2) := by decide +kernel
theorem dX12_init_311 : decode cX12_init 311 = .ok (.bipush 104, 2) := by decide +kernel
theorem dX12_init_313 : decode cX12_init 313 = .ok (.iastore, 1) := by decide +kernel
theorem dX12_init_314 : decode cX12_init 314 = .ok (.dup, 1) := by decide +kernel
theorem dX12_init_315 : decode cX12_init 315 = .ok (.bipush 7, 2) := by decide +kernel
theorem dX12_init_317 : decode cX12_init 317 = .ok (.bipush 116, 2) := by decide +kernel
theorem dX12_init_319 : decode cX12_init 319 = .ok (.iastore, 1) := by decide +kernel
theorem dX12_init_320 : decode cX12_init 320 = .ok (.putfield 59, 3) := by decide +kernel
theorem dX12_init_323 : decode cX12_init 323 = .ok (.aload_n 0, 1) := by decide +kernel
theorem dX12_init_324 : decode cX12_init 324 = .ok (.iconst 5, 1) := by decide +kernel
theorem dX12_init_325 : decode cX12_init 325 = .ok (.newarray .int, 2) := by decide +kernel
theorem dX12_init_327 : decode cX12_init 327 = .ok (.dup, 1) := by decide +kernel
theorem dX12_init_328 : decode cX12_init 328 = .ok (.iconst 0, 1) := by decide +kernel
theorem dX12_init_329 : decode cX12_init 329 = .ok (.bipush 114, 2) := by decide +kernel
theorem dX12_init_331 : decode cX12_init 331 = .ok (.iastore, 1) := by decide +kernel
theorem dX12_init_332 : decode cX12_init 332 = .ok (.dup, 1) := by decide +kernel
theorem dX12_init_333 : decode cX12_init 333 = .ok (.iconst 1, 1) := by decide +kernel
theorem dX12_init_334 : decode cX12_init 334 = .ok (.bipush 105, 2) := by decide +kernel
theorem dX12_init_336 : decode cX12_init 336 = .ok (.iastore, 1) := by decide +kernel
theorem dX12_init_337 : decode cX12_init 337 = .ok (.dup, 1) := by decide +kernel
theorem dX12_init_338 : decode cX12_init 338 = .ok (.iconst 2, 1) := by decide +kernel
theorem dX12_init_339 : decode cX12_init 339 = .ok (.bipush 100, 2) := by decide +kernel
theorem dX12_init_341 : decode cX12_init 341 = .ok (.iastore, 1) := by decide +kernel
theorem dX12_init_342 : decode cX12_init 342 = .ok (.dup, 1) := by decide +kernel
theorem dX12_init_343 : decode cX12_init 343 = .ok (.iconst 3, 1) := by decide +kernel
theorem dX12_init_344 : decode cX12_init 344 = .ok (.bipush 101, 2) := by decide +kernel
theorem dX12_init_346 : decode cX12_init 346 = .ok (.iastore, 1) := by decide +kernel
theorem dX12_init_347 : decode cX12_init 347 = .ok (.dup, 1) := by decide +kernel
theorem dX12_init_348 : decode cX12_init 348 = .ok (.iconst 4, 1) := by decide +kernel
theorem dX12_init_349 : decode cX12_init 349 = .ok (.bipush 114, 2) := by decide +kernel
theorem dX12_init_351 : decode cX12_init 351 = .ok (.iastore, 1) := by decide +kernel
theorem dX12_init_352 : decode cX12_init 352 = .ok (.putfield 62, 3) := by decide +kernel
theorem dX12_init_355 : decode cX12_init 355 = .ok (.aload_n 0, 1) := by decide +kernel
theorem dX12_init_356 : decode cX12_init 356 = .ok (.iconst 4, 1) := by decide +kernel
theorem dX12_init_357 : decode cX12_init 357 = .ok (.newarray .int, 2) := by decide +kernel
theorem dX12_init_359 : decode cX12_init 359 = .ok (.putfield 65, 3) := by decide +kernel
theorem dX12_init_362 : decode cX12_init 362 = .ok (.aload_n 0, 1) := by decide +kernel
theorem dX12_init_363 : decode cX12_init 363 = .ok (.iconst 4, 1) := by decide +kernel
theorem dX12_init_364 : decode cX12_init 364 = .ok (.newarray .int, 2) := by decide +kernel
theorem dX12_init_366 : decode cX12_init 366 = .ok (.putfield 68, 3) := by decide +kernel
theorem dX12_init_369 : decode cX12_init 369 = .ok (.aload_n 0, 1) := by decide +kernel
theorem dX12_init_370 : decode cX12_init 370 = .ok (.bipush 10, 2) := by decide +kernel
theorem dX12_init_372 : decode cX12_init 372 = .ok (.newarray .int, 2) := by decide +kernel
theorem dX12_init_374 : decode cX12_init 374 = .ok (.putfield 71, 3) := by decide +kernel
theorem dX12_init_377 : decode cX12_init 377 = .ok (.aload_n 0, 1) := by decide +kernel
theorem dX12_init_378 : decode cX12_init 378 = .ok (.bipush 10, 2) := by decide +kernel
theorem dX12_init_380 : decode cX12_init 380 = .ok (.newarray .int, 2) := by decide +kernel
theorem dX12_init_382 : decode cX12_init 382 = .ok (.putfield 74, 3) := by decide +kernel
theorem dX12_init_385 : decode cX12_init 385 = .ok (.return_, 1) := by decide +kernel
theorem dX12_in_0 : decode cX12_in 0 = .ok (.lload_n 0, 1) := by decide +kernel
theorem dX12_in_1 : decode cX12_in 1 = .ok (.lload_n 2, 1) := by decide +kernel
theorem dX12_in_2 : decode cX12_in 2 = .ok (.lcmp, 1) := by decide +kernel
theorem dX12_in_3 : decode cX12_in 3 = .ok (.ifCond .lt 14, 3) := by decide +kernel
theorem dX12_in_6 : decode cX12_in 6 = .ok (.lload_n 0, 1) := by decide +kernel
theorem dX12_in_7 : decode cX12_in 7 = .ok (.lload 4, 2) := by decide +kernel
theorem dX12_in_9 : decode cX12_in 9 = .ok (.lcmp, 1) := by decide +kernel
theorem dX12_in_10 : decode cX12_in 10 = .ok (.ifCond .gt 7, 3) := by decide +kernel
theorem dX12_in_13 : decode cX12_in 13 = .ok (.iconst 1, 1) := by decide +kernel
theorem dX12_in_14 : decode cX12_in 14 = .ok (.goto 4, 3) := by decide +kernel
theorem dX12_in_17 : decode cX12_in 17 = .ok (.iconst 0, 1) := by decide +kernel
theorem dX12_in_18 : decode cX12_in 18 = .ok (.ireturn, 1) := by decide +kernel
theorem dX12_has_0 : decode cX12_has 0 = .ok (.iload_n 0, 1) := by decide +kernel
theorem dX12_has_1 : decode cX12_has 1 = .ok (.iload_n 1, 1) := by decide +kernel
theorem dX12_has_2 : decode cX12_has 2 = .ok (.ishr, 1) := by decide +kernel
theorem dX12_has_3 : decode cX12_has 3 = .ok (.iconst 1, 1) := by decide +kernel
theorem dX12_has_4 : decode cX12_has 4 = .ok (.iand, 1) := by decide +kernel
theorem dX12_has_5 : decode cX12_has 5 = .ok (.iconst 1, 1) := by decide +kernel
theorem dX12_has_6 : decode cX12_has 6 = .ok (.if_icmp .ne 7, 3) := by decide +kernel
theorem dX12_has_9 : decode cX12_has 9 = .ok (.iconst 1, 1) := by decide +kernel
theorem dX12_has_10 : decode cX12_has 10 = .ok (.goto 4, 3) := by decide +kernel
theorem dX12_has_13 : decode cX12_has 13 = .ok (.iconst 0, 1) := by decide +kernel
theorem dX12_has_14 : decode cX12_has 14 = .ok (.ireturn, 1) := by decide +kernel
theorem dX12_bits_0 : decode cX12_bits 0 = .ok (.iconst 0, 1) := by decide +kernel
theorem dX12_bits_1 : decode cX12_bits 1 = .ok (.istore_n 1, 1) := by decide +kernel
theorem dX12_bits_2 : decode cX12_bits 2 = .ok (.iconst 0, 1) := by decide +kernel
theorem dX12_bits_3 : decode cX12_bits 3 = .ok (.istore_n 2, 1) := by decide +kernel
theorem dX12_bits_4 : decode cX12_bits 4 = .ok (.iload_n 2, 1) := by decide +kernel
theorem dX12_bits_5 : decode cX12_bits 5 = .ok (.bipush 8, 2) := by decide +kernel
theorem dX12_bits_7 : decode cX12_bits 7 = .ok (.if_icmp .ge 17, 3) := by decide +kernel
theorem dX12_bits_10 : decode cX12_bits 10 = .ok (.iload_n 1, 1) := by decide +kernel
theorem dX12_bits_11 : decode cX12_bits 11 = .ok (.iload_n 0, 1) := by decide +kernel
theorem dX12_bits_12 : decode cX12_bits 12 = .ok (.iload_n 2, 1) := by decide +kernel
theorem dX12_bits_13 : decode cX12_bits 13 = .ok (.ishr, 1) := by decide +kernel
theorem dX12_bits_14 : decode cX12_bits 14 = .ok (.iconst 1, 1) := by decide +kernel
theorem dX12_bits_15 : decode cX12_bits 15 = .ok (.iand, 1) := by decide +kernel
theorem dX12_bits_16 : decode cX12_bits 16 = .ok (.iadd, 1) := by decide +kernel
theorem dX12_bits_17 : decode cX12_bits 17 = .ok (.istore_n 1, 1) := by decide +kernel
theorem dX12_bits_18 : decode cX12_bits 18 = .ok (.iinc 2 1, 3) := by decide +kernel
theorem dX12_bits_21 : decode cX12_bits 21 = .ok (.goto (-17), 3) := by decide +kernel
theorem dX12_bits_24 : decode cX12_bits 24 = .ok (.iload_n 1, 1) := by decide +kernel
theorem dX12_bits_25 : decode cX12_bits 25 = .ok (.ireturn, 1) := by decide +kernel
theorem dX12_write_0 : decode cX12_write 0 = .ok (.iload_n 1, 1) := by decide +kernel
theorem dX12_write_1 : decode cX12_write 1 = .ok (.i2l, 1) := by decide +kernel
theorem dX12_write_2 : decode cX12_write 2 = .ok (.lconst 0, 1) := by decide +kernel
theorem dX12_write_3 : decode cX12_write 3 = .ok (.ldc2_w 77, 3) := by decide +kernel
theorem dX12_write_6 : decode cX12_write 6 = .ok (.invokestatic 79, 3) := by decide +kernel
theorem dX12_write_9 : decode cX12_write 9 = .ok (.ifCond .ne 6, 3) := by decide +kernel
theorem dX12_write_12 : decode cX12_write 12 = .ok (.bipush (-3), 2) := by decide +kernel
theorem dX12_write_14 : decode cX12_write 14 = .ok (.ireturn, 1) := by decide +kernel
theorem dX12_write_15 : decode cX12_write 15 = .ok (.aload_n 0, 1) := by decide +kernel
theorem dX12_write_16 : decode cX12_write 16 = .ok (.getfield 83, 3) := by decide +kernel
theorem dX12_write_19 : decode cX12_write 19 = .ok (.sipush 200, 3) := by decide +kernel
theorem dX12_write_22 : decode cX12_write 22 = .ok (.if_icmp .ne 6, 3) := by decide +kernel
theorem dX12_write_25 : decode cX12_write 25 = .ok (.bipush (-5), 2) := by decide +kernel
theorem dX12_write_27 : decode cX12_write 27 = .ok (.ireturn, 1) := by decide +kernel
theorem dX12_write_28 : decode cX12_write 28 = .ok (.aload_n 0, 1) := by decide +kernel
theorem dX12_write_29 : decode cX12_write 29 = .ok (.getfield 17, 3) := by decide +kernel
theorem dX12_write_32 : decode cX12_write 32 = .ok (.aload_n 0, 1) := by decide +kernel
theorem dX12_write_33 : decode cX12_write 33 = .ok (.getfield 83, 3) := by decide +kernel
theorem dX12_write_36 : decode cX12_write 36 = .ok (.iload_n 1, 1) := by decide +kernel
theorem dX12_write_37 : decode cX12_write 37 = .ok (.iastore, 1) := by decide +kernel
theorem dX12_write_38 : decode cX12_write 38 = .ok (.aload_n 0, 1) := by decide +kernel
theorem dX12_write_39 : decode cX12_write 39 = .ok (.dup, 1) := by decide +kernel
theorem dX12_write_40 : decode cX12_write 40 = .ok (.getfield 83, 3) := by decide +kernel
theorem dX12_write_43 : decode cX12_write 43 = .ok (.iconst 1, 1) := by decide +kernel
theorem dX12_write_44 : decode cX12_write 44 = .ok (.iadd, 1) := by decide +kernel
theorem dX12_write_45 : decode cX12_write 45 = .ok (.putfield 83, 3) := by decide +kernel
theorem dX12_write_48 : decode cX12_write 48 = .ok (.aload_n 0, 1) := by decide +kernel
theorem dX12_write_49 : decode cX12_write 49 = .ok (.getfield 83, 3) := by decide +kernel
theorem dX12_write_52 : decode cX12_write 52 = .ok (.ireturn, 1) := by decide +kernel
theorem dX12_erase_0 : decode cX12_erase 0 = .ok (.aload_n 0, 1) := by decide +kernel
theorem dX12_erase_1 : decode cX12_erase 1 = .ok (.getfield 83, 3) := by decide +kernel
theorem dX12_erase_4 : decode cX12_erase 4 = .ok (.istore_n 1, 1) := by decide +kernel
theorem dX12_erase_5 : decode cX12_erase 5 = .ok (.aload_n 0, 1) := by decide +kernel
theorem dX12_erase_6 : decode cX12_erase 6 = .ok (.iconst 0, 1) := by decide +kernel
theorem dX12_erase_7 : decode cX12_erase 7 = .ok (.putfield 83, 3) := by decide +kernel
theorem dX12_erase_10 : decode cX12_erase 10 = .ok (.iload_n 1, 1) := by decide +kernel
theorem dX12_erase_11 : decode cX12_erase 11 = .ok (.ireturn, 1) := by decide +kernel
theorem dX12_isLetter_0 : decode cX12_isLetter 0 = .ok (.iload_n 0, 1) := by decide +kernel
theorem dX12_isLetter_1 : decode cX12_isLetter 1 = .ok (.i2l, 1) := by decide +kernel
theorem dX12_isLetter_2 : decode cX12_isLetter 2 = .ok (.ldc2_w 87, 3) := by decide +kernel
theorem dX12_isLetter_5 : decode cX12_isLetter 5 = .ok (.ldc2_w 89, 3) := by decide +kernel
theorem dX12_isLetter_8 : decode cX12_isLetter 8 = .ok (.invokestatic 79, 3) := by decide +kernel
theorem dX12_isLetter_11 : decode cX12_isLetter 11 = .ok (.ireturn, 1) := by decide +kernel
theorem dX12_isDigit_0 : decode cX12_isDigit 0 = .ok (.iload_n 0, 1) := by decide +kernel
theorem dX12_isDigit_1 : decode cX12_isDigit 1 = .ok (.i2l, 1) := by decide +kernel
theorem dX12_isDigit_2 : decode cX12_isDigit 2 = .ok (.ldc2_w 91, 3) := by decide +kernel
theorem dX12_isDigit_5 : decode cX12_isDigit 5 = .ok (.ldc2_w 93, 3) := by decide +kernel
theorem dX12_isDigit_8 : decode cX12_isDigit 8 = .ok (.invokestatic 79, 3) := by decide +kernel
theorem dX12_isDigit_11 : decode cX12_isDigit 11 = .ok (.ireturn, 1) := by decide +kernel
theorem dX12_nextToken_0 : decode cX12_nextToken 0 = .ok (.aload_n 0, 1) := by decide +kernel
theorem dX12_nextToken_1 : decode cX12_nextToken 1 = .ok (.aload_n 0, 1) := by decide +kernel
theorem dX12_nextToken_2 : decode cX12_nextToken 2 = .ok (.getfield 95, 3) := by decide +kernel
theorem dX12_nextToken_5 : decode cX12_nextToken 5 = .ok (.putfield 98, 3) := by decide +kernel
theorem dX12_nextToken_8 : decode cX12_nextToken 8 = .ok (.aload_n 0, 1) := by decide +kernel
theorem dX12_nextToken_9 : decode cX12_nextToken 9 = .ok (.getfield 98, 3) := by decide +kernel
theorem dX12_nextToken_12 : decode cX12_nextToken 12 = .ok (.aload_n 0, 1) := by decide +kernel
theorem dX12_nextToken_13 : decode cX12_nextToken 13 = .ok (.getfield 83, 3) := by decide +kernel
theorem dX12_nextToken_16 : decode cX12_nextToken 16 = .ok (.if_icmp .ge 30, 3) := by decide +kernel
theorem dX12_nextToken_19 : decode cX12_nextToken 19 = .ok (.aload_n 0, 1) := by decide +kernel
theorem dX12_nextToken_20 : decode cX12_nextToken 20 = .ok (.getfield 17, 3) := by decide +kernel
theorem dX12_nextToken_23 : decode cX12_nextToken 23 = .ok (.aload_n 0, 1) := by decide +kernel
theorem dX12_nextToken_24 : decode cX12_nextToken 24 = .ok (.getfield 98, 3) := by decide +kernel
theorem dX12_nextToken_27 : decode cX12_nextToken 27 = .ok (.iaload, 1) := by decide +kernel
theorem dX12_nextToken_28 : decode cX12_nextToken 28 = .ok (.bipush 32, 2) := by decide +kernel
theorem dX12_nextToken_30 : decode cX12_nextToken 30 = .ok (.if_icmp .ne 16, 3) := by decide +kernel
theorem dX12_nextToken_33 : decode cX12_nextToken 33 = .ok (.aload_n 0, 1) := by decide +kernel
theorem dX12_nextToken_34 : decode cX12_nextToken 34 = .ok (.dup, 1) := by decide +kernel
theorem dX12_nextToken_35 : decode cX12_nextToken 35 = .ok (.getfield 98, 3) := by decide +kernel
theorem dX12_nextToken_38 : decode cX12_nextToken 38 = .ok (.iconst 1, 1) := by decide +kernel
theorem dX12_nextToken_39 : decode cX12_nextToken 39 = .ok (.iadd, 1) := by decide +kernel
theorem dX12_nextToken_40 : decode cX12_nextToken 40 = .ok (.putfield 98, 3) := by decide +kernel
theorem dX12_nextToken_43 : decode cX12_nextToken 43 = .ok (.goto (-35), 3) := by decide +kernel
theorem dX12_nextToken_46 : decode cX12_nextToken 46 = .ok (.aload_n 0, 1) := by decide +kernel
theorem dX12_nextToken_47 : decode cX12_nextToken 47 = .ok (.aload_n 0, 1) := by decide +kernel
theorem dX12_nextToken_48 : decode cX12_nextToken 48 = .ok (.getfield 98, 3) := by decide +kernel
theorem dX12_nextToken_51 : decode cX12_nextToken 51 = .ok (.aload_n 0, 1) := by decide +kernel
theorem dX12_nextToken_52 : decode cX12_nextToken 52 = .ok (.getfield 83, 3) := by decide +kernel
theorem dX12_nextToken_55 : decode cX12_nextToken 55 = .ok (.if_icmp .ge 12, 3) := by decide +kernel
theorem dX12_nextToken_58 : decode cX12_nextToken 58 = .ok (.aload_n 0, 1) := by decide +kernel
theorem dX12_nextToken_59 : decode cX12_nextToken 59 = .ok (.getfield 98, 3) := by decide +kernel
theorem dX12_nextToken_62 : decode cX12_nextToken 62 = .ok (.iconst 1, 1) := by decide +kernel
theorem dX12_nextToken_63 : decode cX12_nextToken 63 = .ok (.iadd, 1) := by decide +kernel
theorem dX12_nextToken_64 : decode cX12_nextToken 64 = .ok (.goto 7, 3) := by decide +kernel
theorem dX12_nextToken_67 : decode cX12_nextToken 67 = .ok (.aload_n 0, 1) := by decide +kernel
theorem dX12_nextToken_68 : decode cX12_nextToken 68 = .ok (.getfield 98, 3) := by decide +kernel
theorem dX12_nextToken_71 : decode cX12_nextToken 71 = .ok (.putfield 95, 3) := by decide +kernel
theorem dX12_nextToken_74 : decode cX12_nextToken 74 = .ok (.aload_n 0, 1) := by decide +kernel
theorem dX12_nextToken_75 : decode cX12_nextToken 75 = .ok (.getfield 98, 3) := by decide +kernel
theorem dX12_nextToken_78 : decode cX12_nextToken 78 = .ok (.aload_n 0, 1) := by decide +kernel
theorem dX12_nextToken_79 : decode cX12_nextToken 79 = .ok (.getfield 83, 3) := by decide +kernel
theorem dX12_nextToken_82 : decode cX12_nextToken 82 = .ok (.if_icmp .ge 57, 3) := by decide +kernel
theorem dX12_nextToken_85 : decode cX12_nextToken 85 = .ok (.aload_n 0, 1) := by decide +kernel
theorem dX12_nextToken_86 : decode cX12_nextToken 86 = .ok (.getfield 17, 3) := by decide +kernel
theorem dX12_nextToken_89 : decode cX12_nextToken 89 = .ok (.aload_n 0, 1) := by decide +kernel
theorem dX12_nextToken_90 : decode cX12_nextToken 90 = .ok (.getfield 98, 3) := by decide +kernel
theorem dX12_nextToken_93 : decode cX12_nextToken 93 = .ok (.iaload, 1) := by decide +kernel
theorem dX12_nextToken_94 : decode cX12_nextToken 94 = .ok (.invokestatic 101, 3) := by decide +kernel
theorem dX12_nextToken_97 : decode cX12_nextToken 97 = .ok (.ifCond .eq 42, 3) := by decide +kernel
theorem dX12_nextToken_100 : decode cX12_nextToken 100 = .ok (.aload_n 0, 1) := by decide +kernel
theorem dX12_nextToken_101 : decode cX12_nextToken 101 = .ok (.getfield 95, 3) := by decide +kernel
theorem dX12_nextToken_104 : decode cX12_nextToken 104 = .ok (.aload_n 0, 1) := by decide +kernel
theorem dX12_nextToken_105 : decode cX12_nextToken 105 = .ok (.getfield 83, 3) := by decide +kernel
theorem dX12_nextToken_108 : decode cX12_nextToken 108 = .ok (.if_icmp .ge 96, 3) := by decide +kernel
theorem dX12_nextToken_111 : decode cX12_nextToken 111 = .ok (.aload_n 0, 1) := by decide +kernel
theorem dX12_nextToken_112 : decode cX12_nextToken 112 = .ok (.getfield 17, 3) := by decide +kernel
theorem dX12_nextToken_115 : decode cX12_nextToken 115 = .ok (.aload_n 0, 1) := by decide +kernel
theorem dX12_nextToken_116 : decode cX12_nextToken 116 = .ok (.getfield 95, 3) := by decide +kernel
theorem dX12_nextToken_119 : decode cX12_nextToken 119 = .ok (.iaload, 1) := by decide +kernel
theorem dX12_nextToken_120 : decode cX12_nextToken 120 = .ok (.invokestatic 101, 3) := by decide +kernel
theorem dX12_nextToken_123 : decode cX12_nextToken 123 = .ok (.ifCond .eq 81, 3) := by decide +kernel
theorem dX12_nextToken_126 : decode cX12_nextToken 126 = .ok (.aload_n 0, 1) := by decide +kernel
theorem dX12_nextToken_127 : decode cX12_nextToken 127 = .ok (.dup, 1) := by decide +kernel
theorem dX12_nextToken_128 : decode cX12_nextToken 128 = .ok (.getfield 95, 3) := by decide +kernel
theorem dX12_nextToken_131 : decode cX12_nextToken 131 = .ok (.iconst 1, 1) := by decide +kernel
theorem dX12_nextToken_132 : decode cX12_nextToken 132 = .ok (.iadd, 1) := by decide +kernel
theorem dX12_nextToken_133 : decode cX12_nextToken 133 = .ok (.putfield 95, 3) := by decide +kernel
theorem dX12_nextToken_136 : decode cX12_nextToken 136 = .ok (.goto (-36), 3) := by decide +kernel
theorem dX12_nextToken_139 : decode cX12_nextToken 139 = .ok (.aload_n 0, 1) := by decide +kernel
theorem dX12_nextToken_140 : decode cX12_nextToken 140 = .ok (.getfield 98, 3) := by decide +kernel
theorem dX12_nextToken_143 : decode cX12_nextToken 143 = .ok (.aload_n 0, 1) := by decide +kernel
theorem dX12_nextToken_144 : decode cX12_nextToken 144 = .ok (.getfield 83, 3) := by decide +kernel
theorem dX12_nextToken_147 : decode cX12_nextToken 147 = .ok (.if_icmp .ge 57, 3) := by decide +kernel
theorem dX12_nextToken_150 : decode cX12_nextToken 150 = .ok (.aload_n 0, 1) := by decide +kernel
theorem dX12_nextToken_151 : decode cX12_nextToken 151 = .ok (.getfield 17, 3) := by decide +kernel
theorem dX12_nextToken_154 : decode cX12_nextToken 154 = .ok (.aload_n 0, 1) := by decide +kernel
theorem dX12_nextToken_155 : decode cX12_nextToken 155 = .ok (.getfield 98, 3) := by decide +kernel
theorem dX12_nextToken_158 : decode cX12_nextToken 158 = .ok (.iaload, 1) := by decide +kernel
theorem dX12_nextToken_159 : decode cX12_nextToken 159 = .ok (.invokestatic 105, 3) := by decide +kernel
theorem dX12_nextToken_162 : decode cX12_nextToken 162 = .ok (.ifCond .eq 42, 3) := by decide +kernel
theorem dX12_nextToken_165 : decode cX12_nextToken 165 = .ok (.aload_n 0, 1) := by decide +kernel
theorem dX12_nextToken_166 : decode cX12_nextToken 166 = .ok (.getfield 95, 3) := by decide +kernel
theorem dX12_nextToken_169 : decode cX12_nextToken 169 = .ok (.aload_n 0, 1) := by decide +kernel
theorem dX12_nextToken_170 : decode cX12_nextToken 170 = .ok (.getfield 83, 3) := by decide +kernel
theorem dX12_nextToken_173 : decode cX12_nextToken 173 = .ok (.if_icmp .ge 31, 3) := by decide +kernel
theorem dX12_nextToken_176 : decode cX12_nextToken 176 = .ok (.aload_n 0, 1) := by decide +kernel
theorem dX12_nextToken_177 : decode cX12_nextToken 177 = .ok (.getfield 17, 3) := by decide +kernel
theorem dX12_nextToken_180 : decode cX12_nextToken 180 = .ok (.aload_n 0, 1) := by decide +kernel
theorem dX12_nextToken_181 : decode cX12_nextToken 181 = .ok (.getfield 95, 3) := by decide +kernel
theorem dX12_nextToken_184 : decode cX12_nextToken 184 = .ok (.iaload, 1) := by decide +kernel
theorem dX12_nextToken_185 : decode cX12_nextToken 185 = .ok (.invokestatic 105, 3) := by decide +kernel
theorem dX12_nextToken_188 : decode cX12_nextToken 188 = .ok (.ifCond .eq 16, 3) := by decide +kernel
theorem dX12_nextToken_191 : decode cX12_nextToken 191 = .ok (.aload_n 0, 1) := by decide +kernel
theorem dX12_nextToken_192 : decode cX12_nextToken 192 = .ok (.dup, 1) := by decide +kernel
theorem dX12_nextToken_193 : decode cX12_nextToken 193 = .ok (.getfield 95, 3) := by decide +kernel
theorem dX12_nextToken_196 : decode cX12_nextToken 196 = .ok (.iconst 1, 1) := by decide +kernel
theorem dX12_nextToken_197 : decode cX12_nextToken 197 = .ok (.iadd, 1) := by decide +kernel
theorem dX12_nextToken_198 : decode cX12_nextToken 198 = .ok (.putfield 95, 3) := by decide +kernel
theorem dX12_nextToken_201 : decode cX12_nextToken 201 = .ok (.goto (-36), 3) := by decide +kernel
theorem dX12_nextToken_204 : decode cX12_nextToken 204 = .ok (.return_, 1) := by decide +kernel
theorem dX12_isWord_0 : decode cX12_isWord 0 = .ok (.aload_n 0, 1) := by decide +kernel
theorem dX12_isWord_1 : decode cX12_isWord 1 = .ok (.getfield 95, 3) := by decide +kernel
theorem dX12_isWord_4 : decode cX12_isWord 4 = .ok (.aload_n 0, 1) := by decide +kernel
theorem dX12_isWord_5 : decode cX12_isWord 5 = .ok (.getfield 98, 3) := by decide +kernel
theorem dX12_isWord_8 : decode cX12_isWord 8 = .ok (.isub, 1) := by decide +kernel
theorem dX12_isWord_9 : decode cX12_isWord 9 = .ok (.aload_n 1, 1) := by decide +kernel
theorem dX12_isWord_10 : decode cX12_isWord 10 = .ok (.arraylength, 1) := by decide +kernel
theorem dX12_isWord_11 : decode cX12_isWord 11 = .ok (.if_icmp .ne 7, 3) := by decide +kernel
theorem dX12_isWord_14 : decode cX12_isWord 14 = .ok (.iconst 1, 1) := by decide +kernel
theorem dX12_isWord_15 : decode cX12_isWord 15 = .ok (.goto 4, 3) := by decide +kernel
theorem dX12_isWord_18 : decode cX12_isWord 18 = .ok (.iconst 0, 1) := by decide +kernel
theorem dX12_isWord_19 : decode cX12_isWord 19 = .ok (.istore_n 2, 1) := by decide +kernel
theorem dX12_isWord_20 : decode cX12_isWord 20 = .ok (.iconst 0, 1) := by decide +kernel
theorem dX12_isWord_21 : decode cX12_isWord 21 = .ok (.istore_n 3, 1) := by decide +kernel
theorem dX12_isWord_22 : decode cX12_isWord 22 = .ok (.iload_n 3, 1) := by decide +kernel
theorem dX12_isWord_23 : decode cX12_isWord 23 = .ok (.aload_n 1, 1) := by decide +kernel
theorem dX12_isWord_24 : decode cX12_isWord 24 = .ok (.arraylength, 1) := by decide +kernel
theorem dX12_isWord_25 : decode cX12_isWord 25 = .ok (.if_icmp .ge 36, 3) := by decide +kernel
theorem dX12_isWord_28 : decode cX12_isWord 28 = .ok (.iload_n 2, 1) := by decide +kernel
theorem dX12_isWord_29 : decode cX12_isWord 29 = .ok (.ifCond .eq 32, 3) := by decide +kernel
theorem dX12_isWord_32 : decode cX12_isWord 32 = .ok (.aload_n 0, 1) := by decide +kernel
theorem dX12_isWord_33 : decode cX12_isWord 33 = .ok (.getfield 17, 3) := by decide +kernel
theorem dX12_isWord_36 : decode cX12_isWord 36 = .ok (.aload_n 0, 1) := by decide +kernel
theorem dX12_isWord_37 : decode cX12_isWord 37 = .ok (.getfield 98, 3) := by decide +kernel
theorem dX12_isWord_40 : decode cX12_isWord 40 = .ok (.iload_n 3, 1) := by decide +kernel
theorem dX12_isWord_41 : decode cX12_isWord 41 = .ok (.iadd, 1) := by decide +kernel
theorem dX12_isWord_42 : decode cX12_isWord 42 = .ok (.iaload, 1) := by decide +kernel
theorem dX12_isWord_43 : decode cX12_isWord 43 = .ok (.aload_n 1, 1) := by decide +kernel
theorem dX12_isWord_44 : decode cX12_isWord 44 = .ok (.iload_n 3, 1) := by decide +kernel
theorem dX12_isWord_45 : decode cX12_isWord 45 = .ok (.iaload, 1) := by decide +kernel
theorem dX12_isWord_46 : decode cX12_isWord 46 = .ok (.if_icmp .ne 7, 3) := by decide +kernel
theorem dX12_isWord_49 : decode cX12_isWord 49 = .ok (.iconst 1, 1) := by decide +kernel
theorem dX12_isWord_50 : decode cX12_isWord 50 = .ok (.goto 4, 3) := by decide +kernel
theorem dX12_isWord_53 : decode cX12_isWord 53 = .ok (.iconst 0, 1) := by decide +kernel
theorem dX12_isWord_54 : decode cX12_isWord 54 = .ok (.istore_n 2, 1) := by decide +kernel
theorem dX12_isWord_55 : decode cX12_isWord 55 = .ok (.iinc 3 1, 3) := by decide +kernel
theorem dX12_isWord_58 : decode cX12_isWord 58 = .ok (.goto (-36), 3) := by decide +kernel
theorem dX12_isWord_61 : decode cX12_isWord 61 = .ok (.iload_n 2, 1) := by decide +kernel
theorem dX12_isWord_62 : decode cX12_isWord 62 = .ok (.ireturn, 1) := by decide +kernel
theorem dX12_number_0 : decode cX12_number 0 = .ok (.aload_n 0, 1) := by decide +kernel
theorem dX12_number_1 : decode cX12_number 1 = .ok (.getfield 98, 3) := by decide +kernel
theorem dX12_number_4 : decode cX12_number 4 = .ok (.aload_n 0, 1) := by decide +kernel
theorem dX12_number_5 : decode cX12_number 5 = .ok (.getfield 83, 3) := by decide +kernel
theorem dX12_number_8 : decode cX12_number 8 = .ok (.if_icmp .ge 58, 3) := by decide +kernel
theorem dX12_number_11 : decode cX12_number 11 = .ok (.aload_n 0, 1) := by decide +kernel
theorem dX12_number_12 : decode cX12_number 12 = .ok (.getfield 17, 3) := by decide +kernel
theorem dX12_number_15 : decode cX12_number 15 = .ok (.aload_n 0, 1) := by decide +kernel
theorem dX12_number_16 : decode cX12_number 16 = .ok (.getfield 98, 3) := by decide +kernel
theorem dX12_number_19 : decode cX12_number 19 = .ok (.iaload, 1) := by decide +kernel
theorem dX12_number_20 : decode cX12_number 20 = .ok (.invokestatic 105, 3) := by decide +kernel
theorem dX12_number_23 : decode cX12_number 23 = .ok (.ifCond .eq 43, 3) := by decide +kernel
theorem dX12_number_26 : decode cX12_number 26 = .ok (.aload_n 0, 1) := by decide +kernel
theorem dX12_number_27 : decode cX12_number 27 = .ok (.getfield 95, 3) := by decide +kernel
theorem dX12_number_30 : decode cX12_number 30 = .ok (.aload_n 0, 1) := by decide +kernel
theorem dX12_number_31 : decode cX12_number 31 = .ok (.getfield 98, 3) := by decide +kernel
theorem dX12_number_34 : decode cX12_number 34 = .ok (.isub, 1) := by decide +kernel
theorem dX12_number_35 : decode cX12_number 35 = .ok (.iconst 1, 1) := by decide +kernel
theorem dX12_number_36 : decode cX12_number 36 = .ok (.if_icmp .ne 30, 3) := by decide +kernel
theorem dX12_number_39 : decode cX12_number 39 = .ok (.aload_n 0, 1) := by decide +kernel
theorem dX12_number_40 : decode cX12_number 40 = .ok (.getfield 17, 3) := by decide +kernel
theorem dX12_number_43 : decode cX12_number 43 = .ok (.aload_n 0, 1) := by decide +kernel
theorem dX12_number_44 : decode cX12_number 44 = .ok (.getfield 98, 3) := by decide +kernel
theorem dX12_number_47 : decode cX12_number 47 = .ok (.iaload, 1) := by decide +kernel
theorem dX12_number_48 : decode cX12_number 48 = .ok (.bipush 48, 2) := by decide +kernel
theorem dX12_number_50 : decode cX12_number 50 = .ok (.isub, 1) := by decide +kernel
theorem dX12_number_51 : decode cX12_number 51 = .ok (.i2l, 1) := by decide +kernel
theorem dX12_number_52 : decode cX12_number 52 = .ok (.iload_n 2, 1) := by decide +kernel
theorem dX12_number_53 : decode cX12_number 53 = .ok (.i2l, 1) := by decide +kernel
theorem dX12_number_54 : decode cX12_number 54 = .ok (.iload_n 3, 1) := by decide +kernel
theorem dX12_number_55 : decode cX12_number 55 = .ok (.i2l, 1) := by decide +kernel
theorem dX12_number_56 : decode cX12_number 56 = .ok (.invokestatic 79, 3) := by decide +kernel
theorem dX12_number_59 : decode cX12_number 59 = .ok (.ifCond .eq 7, 3) := by decide +kernel
theorem dX12_number_62 : decode cX12_number 62 = .ok (.iconst 1, 1) := by decide +kernel
theorem dX12_number_63 : decode cX12_number 63 = .ok (.goto 4, 3) := by decide +kernel
theorem dX12_number_66 : decode cX12_number 66 = .ok (.iconst 0, 1) := by decide +kernel
theorem dX12_number_67 : decode cX12_number 67 = .ok (.istore 4, 2) := by decide +kernel
theorem dX12_number_69 : decode cX12_number 69 = .ok (.iload 4, 2) := by decide +kernel
theorem dX12_number_71 : decode cX12_number 71 = .ok (.ifCond .eq 25, 3) := by decide +kernel
theorem dX12_number_74 : decode cX12_number 74 = .ok (.aload_n 0, 1) := by decide +kernel
theorem dX12_number_75 : decode cX12_number 75 = .ok (.getfield 38, 3) := by decide +kernel
theorem dX12_number_78 : decode cX12_number 78 = .ok (.iload_n 1, 1) := by decide +kernel
theorem dX12_number_79 : decode cX12_number 79 = .ok (.aload_n 0, 1) := by decide +kernel
theorem dX12_number_80 : decode cX12_number 80 = .ok (.getfield 17, 3) := by decide +kernel
theorem dX12_number_83 : decode cX12_number 83 = .ok (.aload_n 0, 1) := by decide +kernel
theorem dX12_number_84 : decode cX12_number 84 = .ok (.getfield 98, 3) := by decide +kernel
theorem dX12_number_87 : decode cX12_number 87 = .ok (.iaload, 1) := by decide +kernel
theorem dX12_number_88 : decode cX12_number 88 = .ok (.bipush 48, 2) := by decide +kernel
theorem dX12_number_90 : decode cX12_number 90 = .ok (.isub, 1) := by decide +kernel
theorem dX12_number_91 : decode cX12_number 91 = .ok (.iastore, 1) := by decide +kernel
theorem dX12_number_92 : decode cX12_number 92 = .ok (.aload_n 0, 1) := by decide +kernel
theorem dX12_number_93 : decode cX12_number 93 = .ok (.invokevirtual 108, 3) := by decide +kernel
theorem dX12_number_96 : decode cX12_number 96 = .ok (.iload 4, 2) := by decide +kernel
theorem dX12_number_98 : decode cX12_number 98 = .ok (.ireturn, 1) := by decide +kernel
theorem dX12_kindHere_0 : decode cX12_kindHere 0 = .ok (.aload_n 0, 1) := by decide +kernel
theorem dX12_kindHere_1 : decode cX12_kindHere 1 = .ok (.aload_n 0, 1) := by decide +kernel
theorem dX12_kindHere_2 : decode cX12_kindHere 2 = .ok (.getfield 47, 3) := by decide +kernel
theorem dX12_kindHere_5 : decode cX12_kindHere 5 = .ok (.invokevirtual 111, 3) := by decide +kernel
theorem dX12_kindHere_8 : decode cX12_kindHere 8 = .ok (.ifCond .eq 7, 3) := by decide +kernel
theorem dX12_kindHere_11 : decode cX12_kindHere 11 = .ok (.iconst 0, 1) := by decide +kernel
theorem dX12_kindHere_12 : decode cX12_kindHere 12 = .ok (.goto 64, 3) := by decide +kernel
theorem dX12_kindHere_15 : decode cX12_kindHere 15 = .ok (.aload_n 0, 1) := by decide +kernel
theorem dX12_kindHere_16 : decode cX12_kindHere 16 = .ok (.aload_n 0, 1) := by decide +kernel
theorem dX12_kindHere_17 : decode cX12_kindHere 17 = .ok (.getfield 50, 3) := by decide +kernel
theorem dX12_kindHere_20 : decode cX12_kindHere 20 = .ok (.invokevirtual 111, 3) := by decide +kernel
theorem dX12_kindHere_23 : decode cX12_kindHere 23 = .ok (.ifCond .eq 7, 3) := by decide +kernel
theorem dX12_kindHere_26 : decode cX12_kindHere 26 = .ok (.iconst 1, 1) := by decide +kernel
theorem dX12_kindHere_27 : decode cX12_kindHere 27 = .ok (.goto 49, 3) := by decide +kernel
theorem dX12_kindHere_30 : decode cX12_kindHere 30 = .ok (.aload_n 0, 1) := by decide +kernel
theorem dX12_kindHere_31 : decode cX12_kindHere 31 = .ok (.aload_n 0, 1) := by decide +kernel
theorem dX12_kindHere_32 : decode cX12_kindHere 32 = .ok (.getfield 53, 3) := by decide +kernel
theorem dX12_kindHere_35 : decode cX12_kindHere 35 = .ok (.invokevirtual 111, 3) := by decide +kernel
theorem dX12_kindHere_38 : decode cX12_kindHere 38 = .ok (.ifCond .eq 7, 3) := by decide +kernel
theorem dX12_kindHere_41 : decode cX12_kindHere 41 = .ok (.iconst 2, 1) := by decide +kernel
theorem dX12_kindHere_42 : decode cX12_kindHere 42 = .ok (.goto 34, 3) := by decide +kernel
theorem dX12_kindHere_45 : decode cX12_kindHere 45 = .ok (.aload_n 0, 1) := by decide +kernel
theorem dX12_kindHere_46 : decode cX12_kindHere 46 = .ok (.aload_n 0, 1) := by decide +kernel
theorem dX12_kindHere_47 : decode cX12_kindHere 47 = .ok (.getfield 56, 3) := by decide +kernel
theorem dX12_kindHere_50 : decode cX12_kindHere 50 = .ok (.invokevirtual 111, 3) := by decide +kernel
theorem dX12_kindHere_53 : decode cX12_kindHere 53 = .ok (.ifCond .eq 7, 3) := by decide +kernel
theorem dX12_kindHere_56 : decode cX12_kindHere 56 = .ok (.iconst 3, 1) := by decide +kernel
theorem dX12_kindHere_57 : decode cX12_kindHere 57 = .ok (.goto 19, 3) := by decide +kernel
theorem dX12_kindHere_60 : decode cX12_kindHere 60 = .ok (.aload_n 0, 1) := by decide +kernel
theorem dX12_kindHere_61 : decode cX12_kindHere 61 = .ok (.aload_n 0, 1) := by decide +kernel
theorem dX12_kindHere_62 : decode cX12_kindHere 62 = .ok (.getfield 59, 3) := by decide +kernel
theorem dX12_kindHere_65 : decode cX12_kindHere 65 = .ok (.invokevirtual 111, 3) := by decide +kernel
theorem dX12_kindHere_68 : decode cX12_kindHere 68 = .ok (.ifCond .eq 7, 3) := by decide +kernel
theorem dX12_kindHere_71 : decode cX12_kindHere 71 = .ok (.iconst 4, 1) := by decide +kernel
theorem dX12_kindHere_72 : decode cX12_kindHere 72 = .ok (.goto 4, 3) := by decide +kernel
theorem dX12_kindHere_75 : decode cX12_kindHere 75 = .ok (.iconst (-1), 1) := by decide +kernel
theorem dX12_kindHere_76 : decode cX12_kindHere 76 = .ok (.ireturn, 1) := by decide +kernel
theorem dX12_readsHour_0 : decode cX12_readsHour 0 = .ok (.aload_n 0, 1) := by decide +kernel
theorem dX12_readsHour_1 : decode cX12_readsHour 1 = .ok (.getfield 115, 3) := by decide +kernel
theorem dX12_readsHour_4 : decode cX12_readsHour 4 = .ok (.bipush 8, 2) := by decide +kernel
theorem dX12_readsHour_6 : decode cX12_readsHour 6 = .ok (.if_icmp .ne 5, 3) := by decide +kernel
theorem dX12_readsHour_9 : decode cX12_readsHour 9 = .ok (.iconst 0, 1) := by decide +kernel
theorem dX12_readsHour_10 : decode cX12_readsHour 10 = .ok (.ireturn, 1) := by decide +kernel
theorem dX12_readsHour_11 : decode cX12_readsHour 11 = .ok (.aload_n 0, 1) := by decide +kernel
theorem dX12_readsHour_12 : decode cX12_readsHour 12 = .ok (.invokevirtual 108, 3) := by decide +kernel
theorem dX12_readsHour_15 : decode cX12_readsHour 15 = .ok (.aload_n 0, 1) := by decide +kernel
theorem dX12_readsHour_16 : decode cX12_readsHour 16 = .ok (.iconst 0, 1) := by decide +kernel
theorem dX12_readsHour_17 : decode cX12_readsHour 17 = .ok (.iconst 0, 1) := by decide +kernel
theorem dX12_readsHour_18 : decode cX12_readsHour 18 = .ok (.aload_n 0, 1) := by decide +kernel
theorem dX12_readsHour_19 : decode cX12_readsHour 19 = .ok (.getfield 118, 3) := by decide +kernel
theorem dX12_readsHour_22 : decode cX12_readsHour 22 = .ok (.iconst 1, 1) := by decide +kernel
theorem dX12_readsHour_23 : decode cX12_readsHour 23 = .ok (.isub, 1) := by decide +kernel
theorem dX12_readsHour_24 : decode cX12_readsHour 24 = .ok (.invokevirtual 121, 3) := by decide +kernel
theorem dX12_readsHour_27 : decode cX12_readsHour 27 = .ok (.ifCond .eq 14, 3) := by decide +kernel
theorem dX12_readsHour_30 : decode cX12_readsHour 30 = .ok (.aload_n 0, 1) := by decide +kernel
theorem dX12_readsHour_31 : decode cX12_readsHour 31 = .ok (.iconst 1, 1) := by decide +kernel
theorem dX12_readsHour_32 : decode cX12_readsHour 32 = .ok (.iconst 0, 1) := by decide +kernel
theorem dX12_readsHour_33 : decode cX12_readsHour 33 = .ok (.bipush 9, 2) := by decide +kernel
theorem dX12_readsHour_35 : decode cX12_readsHour 35 = .ok (.invokevirtual 121, 3) := by decide +kernel
theorem dX12_readsHour_38 : decode cX12_readsHour 38 = .ok (.ifCond .ne 5, 3) := by decide +kernel
theorem dX12_readsHour_41 : decode cX12_readsHour 41 = .ok (.iconst 0, 1) := by decide +kernel
theorem dX12_readsHour_42 : decode cX12_readsHour 42 = .ok (.ireturn, 1) := by decide +kernel
theorem dX12_readsHour_43 : decode cX12_readsHour 43 = .ok (.aload_n 0, 1) := by decide +kernel
theorem dX12_readsHour_44 : decode cX12_readsHour 44 = .ok (.getfield 125, 3) := by decide +kernel
theorem dX12_readsHour_47 : decode cX12_readsHour 47 = .ok (.ifCond .eq 81, 3) := by decide +kernel
theorem dX12_readsHour_50 : decode cX12_readsHour 50 = .ok (.aload_n 0, 1) := by decide +kernel
theorem dX12_readsHour_51 : decode cX12_readsHour 51 = .ok (.getfield 7, 3) := by decide +kernel
theorem dX12_readsHour_54 : decode cX12_readsHour 54 = .ok (.bipush 73, 2) := by decide +kernel
theorem dX12_readsHour_56 : decode cX12_readsHour 56 = .ok (.aload_n 0, 1) := by decide +kernel
theorem dX12_readsHour_57 : decode cX12_readsHour 57 = .ok (.getfield 115, 3) := by decide +kernel
theorem dX12_readsHour_60 : decode cX12_readsHour 60 = .ok (.iadd, 1) := by decide +kernel
theorem dX12_readsHour_61 : decode cX12_readsHour 61 = .ok (.iload_n 1, 1) := by decide +kernel
theorem dX12_readsHour_62 : decode cX12_readsHour 62 = .ok (.iastore, 1) := by decide +kernel
theorem dX12_readsHour_63 : decode cX12_readsHour 63 = .ok (.aload_n 0, 1) := by decide +kernel
theorem dX12_readsHour_64 : decode cX12_readsHour 64 = .ok (.getfield 7, 3) := by decide +kernel
theorem dX12_readsHour_67 : decode cX12_readsHour 67 = .ok (.bipush 81, 2) := by decide +kernel
theorem dX12_readsHour_69 : decode cX12_readsHour 69 = .ok (.aload_n 0, 1) := by decide +kernel
theorem dX12_readsHour_70 : decode cX12_readsHour 70 = .ok (.getfield 115, 3) := by decide +kernel
theorem dX12_readsHour_73 : decode cX12_readsHour 73 = .ok (.iadd, 1) := by decide +kernel
theorem dX12_readsHour_74 : decode cX12_readsHour 74 = .ok (.aload_n 0, 1) := by decide +kernel
theorem dX12_readsHour_75 : decode cX12_readsHour 75 = .ok (.getfield 38, 3) := by decide +kernel
theorem dX12_readsHour_78 : decode cX12_readsHour 78 = .ok (.iconst 0, 1) := by decide +kernel
theorem dX12_readsHour_79 : decode cX12_readsHour 79 = .ok (.iaload, 1) := by decide +kernel
theorem dX12_readsHour_80 : decode cX12_readsHour 80 = .ok (.iastore, 1) := by decide +kernel
theorem dX12_readsHour_81 : decode cX12_readsHour 81 = .ok (.aload_n 0, 1) := by decide +kernel
theorem dX12_readsHour_82 : decode cX12_readsHour 82 = .ok (.getfield 7, 3) := by decide +kernel
theorem dX12_readsHour_85 : decode cX12_readsHour 85 = .ok (.bipush 89, 2) := by decide +kernel
theorem dX12_readsHour_87 : decode cX12_readsHour 87 = .ok (.aload_n 0, 1) := by decide +kernel
theorem dX12_readsHour_88 : decode cX12_readsHour 88 = .ok (.getfield 115, 3) := by decide +kernel
theorem dX12_readsHour_91 : decode cX12_readsHour 91 = .ok (.iadd, 1) := by decide +kernel
theorem dX12_readsHour_92 : decode cX12_readsHour 92 = .ok (.aload_n 0, 1) := by decide +kernel
theorem dX12_readsHour_93 : decode cX12_readsHour 93 = .ok (.getfield 38, 3) := by decide +kernel
theorem dX12_readsHour_96 : decode cX12_readsHour 96 = .ok (.iconst 0, 1) := by decide +kernel
theorem dX12_readsHour_97 : decode cX12_readsHour 97 = .ok (.iaload, 1) := by decide +kernel
theorem dX12_readsHour_98 : decode cX12_readsHour 98 = .ok (.iastore, 1) := by decide +kernel
theorem dX12_readsHour_99 : decode cX12_readsHour 99 = .ok (.aload_n 0, 1) := by decide +kernel
theorem dX12_readsHour_100 : decode cX12_readsHour 100 = .ok (.getfield 7, 3) := by decide +kernel
theorem dX12_readsHour_103 : decode cX12_readsHour 103 = .ok (.bipush 97, 2) := by decide +kernel
theorem dX12_readsHour_105 : decode cX12_readsHour 105 = .ok (.aload_n 0, 1) := by decide +kernel
theorem dX12_readsHour_106 : decode cX12_readsHour 106 = .ok (.getfield 115, 3) := by decide +kernel
theorem dX12_readsHour_109 : decode cX12_readsHour 109 = .ok (.iadd, 1) := by decide +kernel
theorem dX12_readsHour_110 : decode cX12_readsHour 110 = .ok (.aload_n 0, 1) := by decide +kernel
theorem dX12_readsHour_111 : decode cX12_readsHour 111 = .ok (.getfield 38, 3) := by decide +kernel
theorem dX12_readsHour_114 : decode cX12_readsHour 114 = .ok (.iconst 1, 1) := by decide +kernel
theorem dX12_readsHour_115 : decode cX12_readsHour 115 = .ok (.iaload, 1) := by decide +kernel
theorem dX12_readsHour_116 : decode cX12_readsHour 116 = .ok (.iastore, 1) := by decide +kernel
theorem dX12_readsHour_117 : decode cX12_readsHour 117 = .ok (.aload_n 0, 1) := by decide +kernel
theorem dX12_readsHour_118 : decode cX12_readsHour 118 = .ok (.getfield 7, 3) := by decide +kernel
theorem dX12_readsHour_121 : decode cX12_readsHour 121 = .ok (.bipush 70, 2) := by decide +kernel
theorem dX12_readsHour_123 : decode cX12_readsHour 123 = .ok (.dup2, 1) := by decide +kernel
theorem dX12_readsHour_124 : decode cX12_readsHour 124 = .ok (.iaload, 1) := by decide +kernel
theorem dX12_readsHour_125 : decode cX12_readsHour 125 = .ok (.iconst 1, 1) := by decide +kernel
theorem dX12_readsHour_126 : decode cX12_readsHour 126 = .ok (.iadd, 1) := by decide +kernel
theorem dX12_readsHour_127 : decode cX12_readsHour 127 = .ok (.iastore, 1) := by decide +kernel
theorem dX12_readsHour_128 : decode cX12_readsHour 128 = .ok (.aload_n 0, 1) := by decide +kernel
theorem dX12_readsHour_129 : decode cX12_readsHour 129 = .ok (.dup, 1) := by decide +kernel
theorem dX12_readsHour_130 : decode cX12_readsHour 130 = .ok (.getfield 115, 3) := by decide +kernel
theorem dX12_readsHour_133 : decode cX12_readsHour 133 = .ok (.iconst 1, 1) := by decide +kernel
theorem dX12_readsHour_134 : decode cX12_readsHour 134 = .ok (.iadd, 1) := by decide +kernel
theorem dX12_readsHour_135 : decode cX12_readsHour 135 = .ok (.putfield 115, 3) := by decide +kernel
theorem dX12_readsHour_138 : decode cX12_readsHour 138 = .ok (.iconst 1, 1) := by decide +kernel
theorem dX12_readsHour_139 : decode cX12_readsHour 139 = .ok (.ireturn, 1) := by decide +kernel
theorem dX12_readsInn_0 : decode cX12_readsInn 0 = .ok (.aload_n 0, 1) := by decide +kernel
theorem dX12_readsInn_1 : decode cX12_readsInn 1 = .ok (.getfield 118, 3) := by decide +kernel
theorem dX12_readsInn_4 : decode cX12_readsInn 4 = .ok (.bipush 6, 2) := by decide +kernel
theorem dX12_readsInn_6 : decode cX12_readsInn 6 = .ok (.if_icmp .ne 5, 3) := by decide +kernel
theorem dX12_readsInn_9 : decode cX12_readsInn 9 = .ok (.iconst 0, 1) := by decide +kernel
theorem dX12_readsInn_10 : decode cX12_readsInn 10 = .ok (.ireturn, 1) := by decide +kernel
theorem dX12_readsInn_11 : decode cX12_readsInn 11 = .ok (.aload_n 0, 1) := by decide +kernel
theorem dX12_readsInn_12 : decode cX12_readsInn 12 = .ok (.invokevirtual 108, 3) := by decide +kernel
theorem dX12_readsInn_15 : decode cX12_readsInn 15 = .ok (.aload_n 0, 1) := by decide +kernel
theorem dX12_readsInn_16 : decode cX12_readsInn 16 = .ok (.iconst 0, 1) := by decide +kernel
theorem dX12_readsInn_17 : decode cX12_readsInn 17 = .ok (.iconst 1, 1) := by decide +kernel
theorem dX12_readsInn_18 : decode cX12_readsInn 18 = .ok (.bipush 9, 2) := by decide +kernel
theorem dX12_readsInn_20 : decode cX12_readsInn 20 = .ok (.invokevirtual 121, 3) := by decide +kernel
theorem dX12_readsInn_23 : decode cX12_readsInn 23 = .ok (.ifCond .ne 5, 3) := by decide +kernel
theorem dX12_readsInn_26 : decode cX12_readsInn 26 = .ok (.iconst 0, 1) := by decide +kernel
theorem dX12_readsInn_27 : decode cX12_readsInn 27 = .ok (.ireturn, 1) := by decide +kernel
theorem dX12_readsInn_28 : decode cX12_readsInn 28 = .ok (.aload_n 0, 1) := by decide +kernel
theorem dX12_readsInn_29 : decode cX12_readsInn 29 = .ok (.getfield 125, 3) := by decide +kernel
theorem dX12_readsInn_32 : decode cX12_readsInn 32 = .ok (.ifCond .eq 34, 3) := by decide +kernel
theorem dX12_readsInn_35 : decode cX12_readsInn 35 = .ok (.aload_n 0, 1) := by decide +kernel
theorem dX12_readsInn_36 : decode cX12_readsInn 36 = .ok (.getfield 7, 3) := by decide +kernel
theorem dX12_readsInn_39 : decode cX12_readsInn 39 = .ok (.sipush 134, 3) := by decide +kernel
theorem dX12_readsInn_42 : decode cX12_readsInn 42 = .ok (.aload_n 0, 1) := by decide +kernel
theorem dX12_readsInn_43 : decode cX12_readsInn 43 = .ok (.getfield 118, 3) := by decide +kernel
theorem dX12_readsInn_46 : decode cX12_readsInn 46 = .ok (.iadd, 1) := by decide +kernel
theorem dX12_readsInn_47 : decode cX12_readsInn 47 = .ok (.aload_n 0, 1) := by decide +kernel
theorem dX12_readsInn_48 : decode cX12_readsInn 48 = .ok (.getfield 38, 3) := by decide +kernel
theorem dX12_readsInn_51 : decode cX12_readsInn 51 = .ok (.iconst 0, 1) := by decide +kernel
theorem dX12_readsInn_52 : decode cX12_readsInn 52 = .ok (.iaload, 1) := by decide +kernel
theorem dX12_readsInn_53 : decode cX12_readsInn 53 = .ok (.iastore, 1) := by decide +kernel
theorem dX12_readsInn_54 : decode cX12_readsInn 54 = .ok (.aload_n 0, 1) := by decide +kernel
theorem dX12_readsInn_55 : decode cX12_readsInn 55 = .ok (.getfield 7, 3) := by decide +kernel
theorem dX12_readsInn_58 : decode cX12_readsInn 58 = .ok (.sipush 133, 3) := by decide +kernel
theorem dX12_readsInn_61 : decode cX12_readsInn 61 = .ok (.dup2, 1) := by decide +kernel
theorem dX12_readsInn_62 : decode cX12_readsInn 62 = .ok (.iaload, 1) := by decide +kernel
theorem dX12_readsInn_63 : decode cX12_readsInn 63 = .ok (.iconst 1, 1) := by decide +kernel
theorem dX12_readsInn_64 : decode cX12_readsInn 64 = .ok (.iadd, 1) := by decide +kernel
theorem dX12_readsInn_65 : decode cX12_readsInn 65 = .ok (.iastore, 1) := by decide +kernel
theorem dX12_readsInn_66 : decode cX12_readsInn 66 = .ok (.aload_n 0, 1) := by decide +kernel
theorem dX12_readsInn_67 : decode cX12_readsInn 67 = .ok (.dup, 1) := by decide +kernel
theorem dX12_readsInn_68 : decode cX12_readsInn 68 = .ok (.getfield 118, 3) := by decide +kernel
theorem dX12_readsInn_71 : decode cX12_readsInn 71 = .ok (.iconst 1, 1) := by decide +kernel
theorem dX12_readsInn_72 : decode cX12_readsInn 72 = .ok (.iadd, 1) := by decide +kernel
theorem dX12_readsInn_73 : decode cX12_readsInn 73 = .ok (.putfield 118, 3) := by decide +kernel
theorem dX12_readsInn_76 : decode cX12_readsInn 76 = .ok (.iconst 1, 1) := by decide +kernel
theorem dX12_readsInn_77 : decode cX12_readsInn 77 = .ok (.ireturn, 1) := by decide +kernel
theorem dX12_readsRider_0 : decode cX12_readsRider 0 = .ok (.aload_n 0, 1) := by decide +kernel
theorem dX12_readsRider_1 : decode cX12_readsRider 1 = .ok (.getfield 129, 3) := by decide +kernel
theorem dX12_readsRider_4 : decode cX12_readsRider 4 = .ok (.iconst 4, 1) := by decide +kernel
theorem dX12_readsRider_5 : decode cX12_readsRider 5 = .ok (.if_icmp .ne 5, 3) := by decide +kernel
theorem dX12_readsRider_8 : decode cX12_readsRider 8 = .ok (.iconst 0, 1) := by decide +kernel
theorem dX12_readsRider_9 : decode cX12_readsRider 9 = .ok (.ireturn, 1) := by decide +kernel
theorem dX12_readsRider_10 : decode cX12_readsRider 10 = .ok (.aload_n 0, 1) := by decide +kernel
theorem dX12_readsRider_11 : decode cX12_readsRider 11 = .ok (.invokevirtual 108, 3) := by decide +kernel
theorem dX12_readsRider_14 : decode cX12_readsRider 14 = .ok (.aload_n 0, 1) := by decide +kernel
theorem dX12_readsRider_15 : decode cX12_readsRider 15 = .ok (.iconst 0, 1) := by decide +kernel
theorem dX12_readsRider_16 : decode cX12_readsRider 16 = .ok (.iconst 0, 1) := by decide +kernel
theorem dX12_readsRider_17 : decode cX12_readsRider 17 = .ok (.aload_n 0, 1) := by decide +kernel
theorem dX12_readsRider_18 : decode cX12_readsRider 18 = .ok (.getfield 118, 3) := by decide +kernel
theorem dX12_readsRider_21 : decode cX12_readsRider 21 = .ok (.iconst 1, 1) := by decide +kernel
theorem dX12_readsRider_22 : decode cX12_readsRider 22 = .ok (.isub, 1) := by decide +kernel
theorem dX12_readsRider_23 : decode cX12_readsRider 23 = .ok (.invokevirtual 121, 3) := by decide +kernel
theorem dX12_readsRider_26 : decode cX12_readsRider 26 = .ok (.ifCond .eq 18, 3) := by decide +kernel
theorem dX12_readsRider_29 : decode cX12_readsRider 29 = .ok (.aload_n 0, 1) := by decide +kernel
theorem dX12_readsRider_30 : decode cX12_readsRider 30 = .ok (.iconst 1, 1) := by decide +kernel
theorem dX12_readsRider_31 : decode cX12_readsRider 31 = .ok (.iconst 0, 1) := by decide +kernel
theorem dX12_readsRider_32 : decode cX12_readsRider 32 = .ok (.aload_n 0, 1) := by decide +kernel
theorem dX12_readsRider_33 : decode cX12_readsRider 33 = .ok (.getfield 118, 3) := by decide +kernel
theorem dX12_readsRider_36 : decode cX12_readsRider 36 = .ok (.iconst 1, 1) := by decide +kernel
theorem dX12_readsRider_37 : decode cX12_readsRider 37 = .ok (.isub, 1) := by decide +kernel
theorem dX12_readsRider_38 : decode cX12_readsRider 38 = .ok (.invokevirtual 121, 3) := by decide +kernel
theorem dX12_readsRider_41 : decode cX12_readsRider 41 = .ok (.ifCond .ne 5, 3) := by decide +kernel
theorem dX12_readsRider_44 : decode cX12_readsRider 44 = .ok (.iconst 0, 1) := by decide +kernel
theorem dX12_readsRider_45 : decode cX12_readsRider 45 = .ok (.ireturn, 1) := by decide +kernel
theorem dX12_readsRider_46 : decode cX12_readsRider 46 = .ok (.aload_n 0, 1) := by decide +kernel
theorem dX12_readsRider_47 : decode cX12_readsRider 47 = .ok (.getfield 125, 3) := by decide +kernel
theorem dX12_readsRider_50 : decode cX12_readsRider 50 = .ok (.ifCond .eq 50, 3) := by decide +kernel
theorem dX12_readsRider_53 : decode cX12_readsRider 53 = .ok (.aload_n 0, 1) := by decide +kernel
theorem dX12_readsRider_54 : decode cX12_readsRider 54 = .ok (.getfield 7, 3) := by decide +kernel
theorem dX12_readsRider_57 : decode cX12_readsRider 57 = .ok (.bipush 121, 2) := by decide +kernel
theorem dX12_readsRider_59 : decode cX12_readsRider 59 = .ok (.aload_n 0, 1) := by decide +kernel
theorem dX12_readsRider_60 : decode cX12_readsRider 60 = .ok (.getfield 129, 3) := by decide +kernel
theorem dX12_readsRider_63 : decode cX12_readsRider 63 = .ok (.iadd, 1) := by decide +kernel
theorem dX12_readsRider_64 : decode cX12_readsRider 64 = .ok (.aload_n 0, 1) := by decide +kernel
theorem dX12_readsRider_65 : decode cX12_readsRider 65 = .ok (.getfield 38, 3) := by decide +kernel
theorem dX12_readsRider_68 : decode cX12_readsRider 68 = .ok (.iconst 0, 1) := by decide +kernel
theorem dX12_readsRider_69 : decode cX12_readsRider 69 = .ok (.iaload, 1) := by decide +kernel
theorem dX12_readsRider_70 : decode cX12_readsRider 70 = .ok (.iastore, 1) := by decide +kernel
theorem dX12_readsRider_71 : decode cX12_readsRider 71 = .ok (.aload_n 0, 1) := by decide +kernel
theorem dX12_readsRider_72 : decode cX12_readsRider 72 = .ok (.getfield 7, 3) := by decide +kernel
theorem dX12_readsRider_75 : decode cX12_readsRider 75 = .ok (.bipush 125, 2) := by decide +kernel
theorem dX12_readsRider_77 : decode cX12_readsRider 77 = .ok (.aload_n 0, 1) := by decide +kernel
theorem dX12_readsRider_78 : decode cX12_readsRider 78 = .ok (.getfield 129, 3) := by decide +kernel
theorem dX12_readsRider_81 : decode cX12_readsRider 81 = .ok (.iadd, 1) := by decide +kernel
theorem dX12_readsRider_82 : decode cX12_readsRider 82 = .ok (.aload_n 0, 1) := by decide +kernel
theorem dX12_readsRider_83 : decode cX12_readsRider 83 = .ok (.getfield 38, 3) := by decide +kernel
theorem dX12_readsRider_86 : decode cX12_readsRider 86 = .ok (.iconst 1, 1) := by decide +kernel
theorem dX12_readsRider_87 : decode cX12_readsRider 87 = .ok (.iaload, 1) := by decide +kernel
theorem dX12_readsRider_88 : decode cX12_readsRider 88 = .ok (.iastore, 1) := by decide +kernel
theorem dX12_readsRider_89 : decode cX12_readsRider 89 = .ok (.aload_n 0, 1) := by decide +kernel
theorem dX12_readsRider_90 : decode cX12_readsRider 90 = .ok (.getfield 7, 3) := by decide +kernel
theorem dX12_readsRider_93 : decode cX12_readsRider 93 = .ok (.bipush 71, 2) := by decide +kernel
theorem dX12_readsRider_95 : decode cX12_readsRider 95 = .ok (.dup2, 1) := by decide +kernel
theorem dX12_readsRider_96 : decode cX12_readsRider 96 = .ok (.iaload, 1) := by decide +kernel
theorem dX12_readsRider_97 : decode cX12_readsRider 97 = .ok (.iconst 1, 1) := by decide +kernel
theorem dX12_readsRider_98 : decode cX12_readsRider 98 = .ok (.iadd, 1) := by decide +kernel
theorem dX12_readsRider_99 : decode cX12_readsRider 99 = .ok (.iastore, 1) := by decide +kernel
theorem dX12_readsRider_100 : decode cX12_readsRider 100 = .ok (.aload_n 0, 1) := by decide +kernel
theorem dX12_readsRider_101 : decode cX12_readsRider 101 = .ok (.dup, 1) := by decide +kernel
theorem dX12_readsRider_102 : decode cX12_readsRider 102 = .ok (.getfield 129, 3) := by decide +kernel
theorem dX12_readsRider_105 : decode cX12_readsRider 105 = .ok (.iconst 1, 1) := by decide +kernel
theorem dX12_readsRider_106 : decode cX12_readsRider 106 = .ok (.iadd, 1) := by decide +kernel
theorem dX12_readsRider_107 : decode cX12_readsRider 107 = .ok (.putfield 129, 3) := by decide +kernel
theorem dX12_readsRider_110 : decode cX12_readsRider 110 = .ok (.iconst 1, 1) := by decide +kernel
theorem dX12_readsRider_111 : decode cX12_readsRider 111 = .ok (.ireturn, 1) := by decide +kernel
theorem dX12_readsRoad_0 : decode cX12_readsRoad 0 = .ok (.aload_n 0, 1) := by decide +kernel
theorem dX12_readsRoad_1 : decode cX12_readsRoad 1 = .ok (.invokevirtual 108, 3) := by decide +kernel
theorem dX12_readsRoad_4 : decode cX12_readsRoad 4 = .ok (.aload_n 0, 1) := by decide +kernel
theorem dX12_readsRoad_5 : decode cX12_readsRoad 5 = .ok (.iconst 0, 1) := by decide +kernel
theorem dX12_readsRoad_6 : decode cX12_readsRoad 6 = .ok (.putfield 118, 3) := by decide +kernel
theorem dX12_readsRoad_9 : decode cX12_readsRoad 9 = .ok (.aload_n 0, 1) := by decide +kernel
theorem dX12_readsRoad_10 : decode cX12_readsRoad 10 = .ok (.iconst 0, 1) := by decide +kernel
theorem dX12_readsRoad_11 : decode cX12_readsRoad 11 = .ok (.putfield 115, 3) := by decide +kernel
theorem dX12_readsRoad_14 : decode cX12_readsRoad 14 = .ok (.aload_n 0, 1) := by decide +kernel
theorem dX12_readsRoad_15 : decode cX12_readsRoad 15 = .ok (.iconst 0, 1) := by decide +kernel
theorem dX12_readsRoad_16 : decode cX12_readsRoad 16 = .ok (.putfield 129, 3) := by decide +kernel
theorem dX12_readsRoad_19 : decode cX12_readsRoad 19 = .ok (.iconst 0, 1) := by decide +kernel
theorem dX12_readsRoad_20 : decode cX12_readsRoad 20 = .ok (.istore_n 1, 1) := by decide +kernel
theorem dX12_readsRoad_21 : decode cX12_readsRoad 21 = .ok (.iload_n 1, 1) := by decide +kernel
theorem dX12_readsRoad_22 : decode cX12_readsRoad 22 = .ok (.bipush 70, 2) := by decide +kernel
theorem dX12_readsRoad_24 : decode cX12_readsRoad 24 = .ok (.if_icmp .ge 26, 3) := by decide +kernel
theorem dX12_readsRoad_27 : decode cX12_readsRoad 27 = .ok (.aload_n 0, 1) := by decide +kernel
theorem dX12_readsRoad_28 : decode cX12_readsRoad 28 = .ok (.getfield 125, 3) := by decide +kernel
theorem dX12_readsRoad_31 : decode cX12_readsRoad 31 = .ok (.ifCond .eq 19, 3) := by decide +kernel
theorem dX12_readsRoad_34 : decode cX12_readsRoad 34 = .ok (.aload_n 0, 1) := by decide +kernel
theorem dX12_readsRoad_35 : decode cX12_readsRoad 35 = .ok (.getfield 7, 3) := by decide +kernel
theorem dX12_readsRoad_38 : decode cX12_readsRoad 38 = .ok (.bipush 70, 2) := by decide +kernel
theorem dX12_readsRoad_40 : decode cX12_readsRoad 40 = .ok (.iload_n 1, 1) := by decide +kernel
theorem dX12_readsRoad_41 : decode cX12_readsRoad 41 = .ok (.iadd, 1) := by decide +kernel
theorem dX12_readsRoad_42 : decode cX12_readsRoad 42 = .ok (.iconst 0, 1) := by decide +kernel
theorem dX12_readsRoad_43 : decode cX12_readsRoad 43 = .ok (.iastore, 1) := by decide +kernel
theorem dX12_readsRoad_44 : decode cX12_readsRoad 44 = .ok (.iinc 1 1, 3) := by decide +kernel
theorem dX12_readsRoad_47 : decode cX12_readsRoad 47 = .ok (.goto (-26), 3) := by decide +kernel
theorem dX12_readsRoad_50 : decode cX12_readsRoad 50 = .ok (.iconst 1, 1) := by decide +kernel
theorem dX12_readsRoad_51 : decode cX12_readsRoad 51 = .ok (.ireturn, 1) := by decide +kernel
theorem dX12_readsClause_0 : decode cX12_readsClause 0 = .ok (.aload_n 0, 1) := by decide +kernel
theorem dX12_readsClause_1 : decode cX12_readsClause 1 = .ok (.invokevirtual 132, 3) := by decide +kernel
theorem dX12_readsClause_4 : decode cX12_readsClause 4 = .ok (.iconst (-1), 1) := by decide +kernel
theorem dX12_readsClause_5 : decode cX12_readsClause 5 = .ok (.if_icmp .eq 12, 3) := by decide +kernel
theorem dX12_readsClause_8 : decode cX12_readsClause 8 = .ok (.aload_n 0, 1) := by decide +kernel
theorem dX12_readsClause_9 : decode cX12_readsClause 9 = .ok (.aload_n 0, 1) := by decide +kernel
theorem dX12_readsClause_10 : decode cX12_readsClause 10 = .ok (.invokevirtual 132, 3) := by decide +kernel
theorem dX12_readsClause_13 : decode cX12_readsClause 13 = .ok (.invokevirtual 136, 3) := by decide +kernel
theorem dX12_readsClause_16 : decode cX12_readsClause 16 = .ok (.ireturn, 1) := by decide +kernel
theorem dX12_readsClause_17 : decode cX12_readsClause 17 = .ok (.aload_n 0, 1) := by decide +kernel
theorem dX12_readsClause_18 : decode cX12_readsClause 18 = .ok (.aload_n 0, 1) := by decide +kernel
theorem dX12_readsClause_19 : decode cX12_readsClause 19 = .ok (.getfield 41, 3) := by decide +kernel
theorem dX12_readsClause_22 : decode cX12_readsClause 22 = .ok (.invokevirtual 111, 3) := by decide +kernel
theorem dX12_readsClause_25 : decode cX12_readsClause 25 = .ok (.ifCond .eq 10, 3) := by decide +kernel
theorem dX12_readsClause_28 : decode cX12_readsClause 28 = .ok (.aload_n 0, 1) := by decide +kernel
theorem dX12_readsClause_29 : decode cX12_readsClause 29 = .ok (.invokevirtual 139, 3) := by decide +kernel
theorem dX12_readsClause_32 : decode cX12_readsClause 32 = .ok (.goto 44, 3) := by decide +kernel
theorem dX12_readsClause_35 : decode cX12_readsClause 35 = .ok (.aload_n 0, 1) := by decide +kernel
theorem dX12_readsClause_36 : decode cX12_readsClause 36 = .ok (.aload_n 0, 1) := by decide +kernel
theorem dX12_readsClause_37 : decode cX12_readsClause 37 = .ok (.getfield 44, 3) := by decide +kernel
theorem dX12_readsClause_40 : decode cX12_readsClause 40 = .ok (.invokevirtual 111, 3) := by decide +kernel
theorem dX12_readsClause_43 : decode cX12_readsClause 43 = .ok (.ifCond .eq 10, 3) := by decide +kernel
theorem dX12_readsClause_46 : decode cX12_readsClause 46 = .ok (.aload_n 0, 1) := by decide +kernel
theorem dX12_readsClause_47 : decode cX12_readsClause 47 = .ok (.invokevirtual 143, 3) := by decide +kernel
theorem dX12_readsClause_50 : decode cX12_readsClause 50 = .ok (.goto 26, 3) := by decide +kernel
theorem dX12_readsClause_53 : decode cX12_readsClause 53 = .ok (.aload_n 0, 1) := by decide +kernel
theorem dX12_readsClause_54 : decode cX12_readsClause 54 = .ok (.aload_n 0, 1) := by decide +kernel
theorem dX12_readsClause_55 : decode cX12_readsClause 55 = .ok (.getfield 62, 3) := by decide +kernel
theorem dX12_readsClause_58 : decode cX12_readsClause 58 = .ok (.invokevirtual 111, 3) := by decide +kernel
theorem dX12_readsClause_61 : decode cX12_readsClause 61 = .ok (.ifCond .eq 14, 3) := by decide +kernel
theorem dX12_readsClause_64 : decode cX12_readsClause 64 = .ok (.aload_n 0, 1) := by decide +kernel
theorem dX12_readsClause_65 : decode cX12_readsClause 65 = .ok (.invokevirtual 146, 3) := by decide +kernel
theorem dX12_readsClause_68 : decode cX12_readsClause 68 = .ok (.ifCond .eq 7, 3) := by decide +kernel
theorem dX12_readsClause_71 : decode cX12_readsClause 71 = .ok (.iconst 1, 1) := by decide +kernel
theorem dX12_readsClause_72 : decode cX12_readsClause 72 = .ok (.goto 4, 3) := by decide +kernel
theorem dX12_readsClause_75 : decode cX12_readsClause 75 = .ok (.iconst 0, 1) := by decide +kernel
theorem dX12_readsClause_76 : decode cX12_readsClause 76 = .ok (.ireturn, 1) := by decide +kernel
theorem dX12_reads_0 : decode cX12_reads 0 = .ok (.aload_n 0, 1) := by decide +kernel
theorem dX12_reads_1 : decode cX12_reads 1 = .ok (.iload_n 1, 1) := by decide +kernel
theorem dX12_reads_2 : decode cX12_reads 2 = .ok (.putfield 125, 3) := by decide +kernel
theorem dX12_reads_5 : decode cX12_reads 5 = .ok (.aload_n 0, 1) := by decide +kernel
theorem dX12_reads_6 : decode cX12_reads 6 = .ok (.iconst 0, 1) := by decide +kernel
theorem dX12_reads_7 : decode cX12_reads 7 = .ok (.putfield 95, 3) := by decide +kernel
theorem dX12_reads_10 : decode cX12_reads 10 = .ok (.aload_n 0, 1) := by decide +kernel
theorem dX12_reads_11 : decode cX12_reads 11 = .ok (.iconst 1, 1) := by decide +kernel
theorem dX12_reads_12 : decode cX12_reads 12 = .ok (.putfield 149, 3) := by decide +kernel
theorem dX12_reads_15 : decode cX12_reads 15 = .ok (.aload_n 0, 1) := by decide +kernel
theorem dX12_reads_16 : decode cX12_reads 16 = .ok (.aload_n 0, 1) := by decide +kernel
theorem dX12_reads_17 : decode cX12_reads 17 = .ok (.getfield 7, 3) := by decide +kernel
theorem dX12_reads_20 : decode cX12_reads 20 = .ok (.sipush 133, 3) := by decide +kernel
theorem dX12_reads_23 : decode cX12_reads 23 = .ok (.iaload, 1) := by decide +kernel
theorem dX12_reads_24 : decode cX12_reads 24 = .ok (.putfield 118, 3) := by decide +kernel
theorem dX12_reads_27 : decode cX12_reads 27 = .ok (.aload_n 0, 1) := by decide +kernel
theorem dX12_reads_28 : decode cX12_reads 28 = .ok (.aload_n 0, 1) := by decide +kernel
theorem dX12_reads_29 : decode cX12_reads 29 = .ok (.getfield 7, 3) := by decide +kernel
theorem dX12_reads_32 : decode cX12_reads 32 = .ok (.bipush 70, 2) := by decide +kernel
theorem dX12_reads_34 : decode cX12_reads 34 = .ok (.iaload, 1) := by decide +kernel
theorem dX12_reads_35 : decode cX12_reads 35 = .ok (.putfield 115, 3) := by decide +kernel
theorem dX12_reads_38 : decode cX12_reads 38 = .ok (.aload_n 0, 1) := by decide +kernel
theorem dX12_reads_39 : decode cX12_reads 39 = .ok (.aload_n 0, 1) := by decide +kernel
theorem dX12_reads_40 : decode cX12_reads 40 = .ok (.getfield 7, 3) := by decide +kernel
theorem dX12_reads_43 : decode cX12_reads 43 = .ok (.bipush 71, 2) := by decide +kernel
theorem dX12_reads_45 : decode cX12_reads 45 = .ok (.iaload, 1) := by decide +kernel
theorem dX12_reads_46 : decode cX12_reads 46 = .ok (.putfield 129, 3) := by decide +kernel
theorem dX12_reads_49 : decode cX12_reads 49 = .ok (.aload_n 0, 1) := by decide +kernel
theorem dX12_reads_50 : decode cX12_reads 50 = .ok (.invokevirtual 108, 3) := by decide +kernel
theorem dX12_reads_53 : decode cX12_reads 53 = .ok (.aload_n 0, 1) := by decide +kernel
theorem dX12_reads_54 : decode cX12_reads 54 = .ok (.invokevirtual 152, 3) := by decide +kernel
theorem dX12_reads_57 : decode cX12_reads 57 = .ok (.istore_n 2, 1) := by decide +kernel
theorem dX12_reads_58 : decode cX12_reads 58 = .ok (.iload_n 2, 1) := by decide +kernel
theorem dX12_reads_59 : decode cX12_reads 59 = .ok (.ifCond .eq 69, 3) := by decide +kernel
theorem dX12_reads_62 : decode cX12_reads 62 = .ok (.aload_n 0, 1) := by decide +kernel
theorem dX12_reads_63 : decode cX12_reads 63 = .ok (.getfield 98, 3) := by decide +kernel
theorem dX12_reads_66 : decode cX12_reads 66 = .ok (.aload_n 0, 1) := by decide +kernel
theorem dX12_reads_67 : decode cX12_reads 67 = .ok (.getfield 83, 3) := by decide +kernel
theorem dX12_reads_70 : decode cX12_reads 70 = .ok (.if_icmp .ge 58, 3) := by decide +kernel
theorem dX12_reads_73 : decode cX12_reads 73 = .ok (.aload_n 0, 1) := by decide +kernel
theorem dX12_reads_74 : decode cX12_reads 74 = .ok (.getfield 149, 3) := by decide +kernel
theorem dX12_reads_77 : decode cX12_reads 77 = .ok (.bipush 20, 2) := by decide +kernel
theorem dX12_reads_79 : decode cX12_reads 79 = .ok (.if_icmp .ge 21, 3) := by decide +kernel
theorem dX12_reads_82 : decode cX12_reads 82 = .ok (.aload_n 0, 1) := by decide +kernel
theorem dX12_reads_83 : decode cX12_reads 83 = .ok (.getfield 17, 3) := by decide +kernel
theorem dX12_reads_86 : decode cX12_reads 86 = .ok (.aload_n 0, 1) := by decide +kernel
theorem dX12_reads_87 : decode cX12_reads 87 = .ok (.getfield 98, 3) := by decide +kernel
theorem dX12_reads_90 : decode cX12_reads 90 = .ok (.iaload, 1) := by decide +kernel
theorem dX12_reads_91 : decode cX12_reads 91 = .ok (.bipush 59, 2) := by decide +kernel
theorem dX12_reads_93 : decode cX12_reads 93 = .ok (.if_icmp .ne 7, 3) := by decide +kernel
theorem dX12_reads_96 : decode cX12_reads 96 = .ok (.iconst 1, 1) := by decide +kernel
theorem dX12_reads_97 : decode cX12_reads 97 = .ok (.goto 4, 3) := by decide +kernel
theorem dX12_reads_100 : decode cX12_reads 100 = .ok (.iconst 0, 1) := by decide +kernel
theorem dX12_reads_101 : decode cX12_reads 101 = .ok (.istore_n 2, 1) := by decide +kernel
theorem dX12_reads_102 : decode cX12_reads 102 = .ok (.iload_n 2, 1) := by decide +kernel
theorem dX12_reads_103 : decode cX12_reads 103 = .ok (.ifCond .eq (-45), 3) := by decide +kernel
theorem dX12_reads_106 : decode cX12_reads 106 = .ok (.aload_n 0, 1) := by decide +kernel
theorem dX12_reads_107 : decode cX12_reads 107 = .ok (.invokevirtual 108, 3) := by decide +kernel
theorem dX12_reads_110 : decode cX12_reads 110 = .ok (.aload_n 0, 1) := by decide +kernel
theorem dX12_reads_111 : decode cX12_reads 111 = .ok (.invokevirtual 152, 3) := by decide +kernel
theorem dX12_reads_114 : decode cX12_reads 114 = .ok (.istore_n 2, 1) := by decide +kernel
theorem dX12_reads_115 : decode cX12_reads 115 = .ok (.aload_n 0, 1) := by decide +kernel
theorem dX12_reads_116 : decode cX12_reads 116 = .ok (.dup, 1) := by decide +kernel
theorem dX12_reads_117 : decode cX12_reads 117 = .ok (.getfield 149, 3) := by decide +kernel
theorem dX12_reads_120 : decode cX12_reads 120 = .ok (.iconst 1, 1) := by decide +kernel
theorem dX12_reads_121 : decode cX12_reads 121 = .ok (.iadd, 1) := by decide +kernel
theorem dX12_reads_122 : decode cX12_reads 122 = .ok (.putfield 149, 3) := by decide +kernel
theorem dX12_reads_125 : decode cX12_reads 125 = .ok (.goto (-67), 3) := by decide +kernel
theorem dX12_reads_128 : decode cX12_reads 128 = .ok (.iload_n 2, 1) := by decide +kernel
theorem dX12_reads_129 : decode cX12_reads 129 = .ok (.ireturn, 1) := by decide +kernel
theorem dX12_fault_0 : decode cX12_fault 0 = .ok (.aload_n 0, 1) := by decide +kernel
theorem dX12_fault_1 : decode cX12_fault 1 = .ok (.iconst 0, 1) := by decide +kernel
theorem dX12_fault_2 : decode cX12_fault 2 = .ok (.invokevirtual 155, 3) := by decide +kernel
theorem dX12_fault_5 : decode cX12_fault 5 = .ok (.ifCond .eq 7, 3) := by decide +kernel
theorem dX12_fault_8 : decode cX12_fault 8 = .ok (.iconst (-1), 1) := by decide +kernel
theorem dX12_fault_9 : decode cX12_fault 9 = .ok (.goto 7, 3) := by decide +kernel
theorem dX12_fault_12 : decode cX12_fault 12 = .ok (.aload_n 0, 1) := by decide +kernel
theorem dX12_fault_13 : decode cX12_fault 13 = .ok (.getfield 98, 3) := by decide +kernel
theorem dX12_fault_16 : decode cX12_fault 16 = .ok (.ireturn, 1) := by decide +kernel
theorem dX12_copyRoad_0 : decode cX12_copyRoad 0 = .ok (.iconst 0, 1) := by decide +kernel
theorem dX12_copyRoad_1 : decode cX12_copyRoad 1 = .ok (.istore_n 3, 1) := by decide +kernel
theorem dX12_copyRoad_2 : decode cX12_copyRoad 2 = .ok (.iload_n 3, 1) := by decide +kernel
theorem dX12_copyRoad_3 : decode cX12_copyRoad 3 = .ok (.bipush 70, 2) := by decide +kernel
theorem dX12_copyRoad_5 : decode cX12_copyRoad 5 = .ok (.if_icmp .ge 25, 3) := by decide +kernel
theorem dX12_copyRoad_8 : decode cX12_copyRoad 8 = .ok (.aload_n 0, 1) := by decide +kernel
theorem dX12_copyRoad_9 : decode cX12_copyRoad 9 = .ok (.getfield 7, 3) := by decide +kernel
theorem dX12_copyRoad_12 : decode cX12_copyRoad 12 = .ok (.iload_n 2, 1) := by decide +kernel
theorem dX12_copyRoad_13 : decode cX12_copyRoad 13 = .ok (.iload_n 3, 1) := by decide +kernel
theorem dX12_copyRoad_14 : decode cX12_copyRoad 14 = .ok (.iadd, 1) := by decide +kernel
theorem dX12_copyRoad_15 : decode cX12_copyRoad 15 = .ok (.aload_n 0, 1) := by decide +kernel
theorem dX12_copyRoad_16 : decode cX12_copyRoad 16 = .ok (.getfield 7, 3) := by decide +kernel
theorem dX12_copyRoad_19 : decode cX12_copyRoad 19 = .ok (.iload_n 1, 1) := by decide +kernel
theorem dX12_copyRoad_20 : decode cX12_copyRoad 20 = .ok (.iload_n 3, 1) := by decide +kernel
theorem dX12_copyRoad_21 : decode cX12_copyRoad 21 = .ok (.iadd, 1) := by decide +kernel
theorem dX12_copyRoad_22 : decode cX12_copyRoad 22 = .ok (.iaload, 1) := by decide +kernel
theorem dX12_copyRoad_23 : decode cX12_copyRoad 23 = .ok (.iastore, 1) := by decide +kernel
theorem dX12_copyRoad_24 : decode cX12_copyRoad 24 = .ok (.iinc 3 1, 3) := by decide +kernel
theorem dX12_copyRoad_27 : decode cX12_copyRoad 27 = .ok (.goto (-25), 3) := by decide +kernel
theorem dX12_copyRoad_30 : decode cX12_copyRoad 30 = .ok (.return_, 1) := by decide +kernel
theorem dX12_road_0 : decode cX12_road 0 = .ok (.aload_n 0, 1) := by decide +kernel
theorem dX12_road_1 : decode cX12_road 1 = .ok (.iconst 0, 1) := by decide +kernel
theorem dX12_road_2 : decode cX12_road 2 = .ok (.invokevirtual 155, 3) := by decide +kernel
theorem dX12_road_5 : decode cX12_road 5 = .ok (.ifCond .ne 6, 3) := by decide +kernel
theorem dX12_road_8 : decode cX12_road 8 = .ok (.bipush (-4), 2) := by decide +kernel
theorem dX12_road_10 : decode cX12_road 10 = .ok (.ireturn, 1) := by decide +kernel
theorem dX12_road_11 : decode cX12_road 11 = .ok (.aload_n 0, 1) := by decide +kernel
theorem dX12_road_12 : decode cX12_road 12 = .ok (.iconst 1, 1) := by decide +kernel
theorem dX12_road_13 : decode cX12_road 13 = .ok (.invokevirtual 155, 3) := by decide +kernel
theorem dX12_road_16 : decode cX12_road 16 = .ok (.pop, 1) := by decide +kernel
theorem dX12_road_17 : decode cX12_road 17 = .ok (.aload_n 0, 1) := by decide +kernel
theorem dX12_road_18 : decode cX12_road 18 = .ok (.iconst 0, 1) := by decide +kernel
theorem dX12_road_19 : decode cX12_road 19 = .ok (.putfield 83, 3) := by decide +kernel
theorem dX12_road_22 : decode cX12_road 22 = .ok (.aload_n 0, 1) := by decide +kernel
theorem dX12_road_23 : decode cX12_road 23 = .ok (.bipush 70, 2) := by decide +kernel
theorem dX12_road_25 : decode cX12_road 25 = .ok (.iconst 0, 1) := by decide +kernel
theorem dX12_road_26 : decode cX12_road 26 = .ok (.invokevirtual 159, 3) := by decide +kernel
theorem dX12_road_29 : decode cX12_road 29 = .ok (.aload_n 0, 1) := by decide +kernel
theorem dX12_road_30 : decode cX12_road 30 = .ok (.iconst 0, 1) := by decide +kernel
theorem dX12_road_31 : decode cX12_road 31 = .ok (.putfield 163, 3) := by decide +kernel
theorem dX12_road_34 : decode cX12_road 34 = .ok (.aload_n 0, 1) := by decide +kernel
theorem dX12_road_35 : decode cX12_road 35 = .ok (.getfield 13, 3) := by decide +kernel
theorem dX12_road_38 : decode cX12_road 38 = .ok (.iconst 0, 1) := by decide +kernel
theorem dX12_road_39 : decode cX12_road 39 = .ok (.iconst 0, 1) := by decide +kernel
theorem dX12_road_40 : decode cX12_road 40 = .ok (.bastore, 1) := by decide +kernel
theorem dX12_road_41 : decode cX12_road 41 = .ok (.aload_n 0, 1) := by decide +kernel
theorem dX12_road_42 : decode cX12_road 42 = .ok (.getfield 13, 3) := by decide +kernel
theorem dX12_road_45 : decode cX12_road 45 = .ok (.iconst 1, 1) := by decide +kernel
theorem dX12_road_46 : decode cX12_road 46 = .ok (.iconst 0, 1) := by decide +kernel
theorem dX12_road_47 : decode cX12_road 47 = .ok (.bastore, 1) := by decide +kernel
theorem dX12_road_48 : decode cX12_road 48 = .ok (.aload_n 0, 1) := by decide +kernel
theorem dX12_road_49 : decode cX12_road 49 = .ok (.iconst 0, 1) := by decide +kernel
theorem dX12_road_50 : decode cX12_road 50 = .ok (.putfield 166, 3) := by decide +kernel
theorem dX12_road_53 : decode cX12_road 53 = .ok (.iconst 0, 1) := by decide +kernel
theorem dX12_road_54 : decode cX12_road 54 = .ok (.istore_n 1, 1) := by decide +kernel
theorem dX12_road_55 : decode cX12_road 55 = .ok (.iload_n 1, 1) := by decide +kernel
theorem dX12_road_56 : decode cX12_road 56 = .ok (.iconst 4, 1) := by decide +kernel
theorem dX12_road_57 : decode cX12_road 57 = .ok (.if_icmp .ge 16, 3) := by decide +kernel
theorem dX12_road_60 : decode cX12_road 60 = .ok (.aload_n 0, 1) := by decide +kernel
theorem dX12_road_61 : decode cX12_road 61 = .ok (.getfield 29, 3) := by decide +kernel
theorem dX12_road_64 : decode cX12_road 64 = .ok (.iload_n 1, 1) := by decide +kernel
theorem dX12_road_65 : decode cX12_road 65 = .ok (.iconst (-1), 1) := by decide +kernel
theorem dX12_road_66 : decode cX12_road 66 = .ok (.iastore, 1) := by decide +kernel
theorem dX12_road_67 : decode cX12_road 67 = .ok (.iinc 1 1, 3) := by decide +kernel
theorem dX12_road_70 : decode cX12_road 70 = .ok (.goto (-15), 3) := by decide +kernel
theorem dX12_road_73 : decode cX12_road 73 = .ok (.aload_n 0, 1) := by decide +kernel
theorem dX12_road_74 : decode cX12_road 74 = .ok (.getfield 149, 3) := by decide +kernel
theorem dX12_road_77 : decode cX12_road 77 = .ok (.ireturn, 1) := by decide +kernel
theorem dX12_isInn_0 : decode cX12_isInn 0 = .ok (.iload_n 1, 1) := by decide +kernel
theorem dX12_isInn_1 : decode cX12_isInn 1 = .ok (.i2l, 1) := by decide +kernel
theorem dX12_isInn_2 : decode cX12_isInn 2 = .ok (.lconst 0, 1) := by decide +kernel
theorem dX12_isInn_3 : decode cX12_isInn 3 = .ok (.aload_n 0, 1) := by decide +kernel
theorem dX12_isInn_4 : decode cX12_isInn 4 = .ok (.getfield 7, 3) := by decide +kernel
theorem dX12_isInn_7 : decode cX12_isInn 7 = .ok (.bipush 63, 2) := by decide +kernel
theorem dX12_isInn_9 : decode cX12_isInn 9 = .ok (.iaload, 1) := by decide +kernel
theorem dX12_isInn_10 : decode cX12_isInn 10 = .ok (.iconst 1, 1) := by decide +kernel
theorem dX12_isInn_11 : decode cX12_isInn 11 = .ok (.isub, 1) := by decide +kernel
theorem dX12_isInn_12 : decode cX12_isInn 12 = .ok (.i2l, 1) := by decide +kernel
theorem dX12_isInn_13 : decode cX12_isInn 13 = .ok (.invokestatic 79, 3) := by decide +kernel
theorem dX12_isInn_16 : decode cX12_isInn 16 = .ok (.ireturn, 1) := by decide +kernel
theorem dX12_isHour_0 : decode cX12_isHour 0 = .ok (.iload_n 1, 1) := by decide +kernel
theorem dX12_isHour_1 : decode cX12_isHour 1 = .ok (.i2l, 1) := by decide +kernel
theorem dX12_isHour_2 : decode cX12_isHour 2 = .ok (.lconst 0, 1) := by decide +kernel
theorem dX12_isHour_3 : decode cX12_isHour 3 = .ok (.aload_n 0, 1) := by decide +kernel
theorem dX12_isHour_4 : decode cX12_isHour 4 = .ok (.getfield 7, 3) := by decide +kernel
theorem dX12_isHour_7 : decode cX12_isHour 7 = .ok (.iconst 0, 1) := by decide +kernel
theorem dX12_isHour_8 : decode cX12_isHour 8 = .ok (.iaload, 1) := by decide +kernel
theorem dX12_isHour_9 : decode cX12_isHour 9 = .ok (.iconst 1, 1) := by decide +kernel
theorem dX12_isHour_10 : decode cX12_isHour 10 = .ok (.isub, 1) := by decide +kernel
theorem dX12_isHour_11 : decode cX12_isHour 11 = .ok (.i2l, 1) := by decide +kernel
theorem dX12_isHour_12 : decode cX12_isHour 12 = .ok (.invokestatic 79, 3) := by decide +kernel
theorem dX12_isHour_15 : decode cX12_isHour 15 = .ok (.ireturn, 1) := by decide +kernel
theorem dX12_isRider_0 : decode cX12_isRider 0 = .ok (.iload_n 1, 1) := by decide +kernel
theorem dX12_isRider_1 : decode cX12_isRider 1 = .ok (.i2l, 1) := by decide +kernel
theorem dX12_isRider_2 : decode cX12_isRider 2 = .ok (.lconst 0, 1) := by decide +kernel
theorem dX12_isRider_3 : decode cX12_isRider 3 = .ok (.aload_n 0, 1) := by decide +kernel
theorem dX12_isRider_4 : decode cX12_isRider 4 = .ok (.getfield 7, 3) := by decide +kernel
theorem dX12_isRider_7 : decode cX12_isRider 7 = .ok (.iconst 1, 1) := by decide +kernel
theorem dX12_isRider_8 : decode cX12_isRider 8 = .ok (.iaload, 1) := by decide +kernel
theorem dX12_isRider_9 : decode cX12_isRider 9 = .ok (.iconst 1, 1) := by decide +kernel
theorem dX12_isRider_10 : decode cX12_isRider 10 = .ok (.isub, 1) := by decide +kernel
theorem dX12_isRider_11 : decode cX12_isRider 11 = .ok (.i2l, 1) := by decide +kernel
theorem dX12_isRider_12 : decode cX12_isRider 12 = .ok (.invokestatic 79, 3) := by decide +kernel
theorem dX12_isRider_15 : decode cX12_isRider 15 = .ok (.ireturn, 1) := by decide +kernel
theorem dX12_takes_0 : decode cX12_takes 0 = .ok (.iload_n 0, 1) := by decide +kernel
theorem dX12_takes_1 : decode cX12_takes 1 = .ok (.iconst 2, 1) := by decide +kernel
theorem dX12_takes_2 : decode cX12_takes 2 = .ok (.if_icmp .ne 11, 3) := by decide +kernel
theorem dX12_takes_5 : decode cX12_takes 5 = .ok (.iload_n 1, 1) := by decide +kernel
theorem dX12_takes_6 : decode cX12_takes 6 = .ok (.iconst 2, 1) := by decide +kernel
theorem dX12_takes_7 : decode cX12_takes 7 = .ok (.idiv, 1) := by decide +kernel
theorem dX12_takes_8 : decode cX12_takes 8 = .ok (.iconst 1, 1) := by decide +kernel
theorem dX12_takes_9 : decode cX12_takes 9 = .ok (.iadd, 1) := by decide +kernel
theorem dX12_takes_10 : decode cX12_takes 10 = .ok (.goto 20, 3) := by decide +kernel
theorem dX12_takes_13 : decode cX12_takes 13 = .ok (.iload_n 0, 1) := by decide +kernel
theorem dX12_takes_14 : decode cX12_takes 14 = .ok (.iconst 3, 1) := by decide +kernel
theorem dX12_takes_15 : decode cX12_takes 15 = .ok (.if_icmp .eq 8, 3) := by decide +kernel
theorem dX12_takes_18 : decode cX12_takes 18 = .ok (.iload_n 0, 1) := by decide +kernel
theorem dX12_takes_19 : decode cX12_takes 19 = .ok (.iconst 4, 1) := by decide +kernel
theorem dX12_takes_20 : decode cX12_takes 20 = .ok (.if_icmp .ne 9, 3) := by decide +kernel
theorem dX12_takes_23 : decode cX12_takes 23 = .ok (.iconst 2, 1) := by decide +kernel
theorem dX12_takes_24 : decode cX12_takes 24 = .ok (.iload_n 1, 1) := by decide +kernel
theorem dX12_takes_25 : decode cX12_takes 25 = .ok (.imul, 1) := by decide +kernel
theorem dX12_takes_26 : decode cX12_takes 26 = .ok (.goto 4, 3) := by decide +kernel
theorem dX12_takes_29 : decode cX12_takes 29 = .ok (.iload_n 1, 1) := by decide +kernel
theorem dX12_takes_30 : decode cX12_takes 30 = .ok (.ireturn, 1) := by decide +kernel
theorem dX12_tires_0 : decode cX12_tires 0 = .ok (.iload_n 0, 1) := by decide +kernel
theorem dX12_tires_1 : decode cX12_tires 1 = .ok (.iconst 2, 1) := by decide +kernel
theorem dX12_tires_2 : decode cX12_tires 2 = .ok (.if_icmp .ne 9, 3) := by decide +kernel
theorem dX12_tires_5 : decode cX12_tires 5 = .ok (.iconst 2, 1) := by decide +kernel
theorem dX12_tires_6 : decode cX12_tires 6 = .ok (.iload_n 1, 1) := by decide +kernel
theorem dX12_tires_7 : decode cX12_tires 7 = .ok (.imul, 1) := by decide +kernel
theorem dX12_tires_8 : decode cX12_tires 8 = .ok (.goto 22, 3) := by decide +kernel
theorem dX12_tires_11 : decode cX12_tires 11 = .ok (.iload_n 0, 1) := by decide +kernel
theorem dX12_tires_12 : decode cX12_tires 12 = .ok (.iconst 3, 1) := by decide +kernel
theorem dX12_tires_13 : decode cX12_tires 13 = .ok (.if_icmp .ne 7, 3) := by decide +kernel
theorem dX12_tires_16 : decode cX12_tires 16 = .ok (.iconst 0, 1) := by decide +kernel
theorem dX12_tires_17 : decode cX12_tires 17 = .ok (.goto 13, 3) := by decide +kernel
theorem dX12_tires_20 : decode cX12_tires 20 = .ok (.iload_n 0, 1) := by decide +kernel
theorem dX12_tires_21 : decode cX12_tires 21 = .ok (.iconst 4, 1) := by decide +kernel
theorem dX12_tires_22 : decode cX12_tires 22 = .ok (.if_icmp .ne 7, 3) := by decide +kernel
theorem dX12_tires_25 : decode cX12_tires 25 = .ok (.iconst 1, 1) := by decide +kernel
theorem dX12_tires_26 : decode cX12_tires 26 = .ok (.goto 4, 3) := by decide +kernel
theorem dX12_tires_29 : decode cX12_tires 29 = .ok (.iload_n 1, 1) := by decide +kernel
theorem dX12_tires_30 : decode cX12_tires 30 = .ok (.ireturn, 1) := by decide +kernel
theorem dX12_rests_0 : decode cX12_rests 0 = .ok (.iload_n 0, 1) := by decide +kernel
theorem dX12_rests_1 : decode cX12_rests 1 = .ok (.iconst 1, 1) := by decide +kernel
theorem dX12_rests_2 : decode cX12_rests 2 = .ok (.if_icmp .ne 7, 3) := by decide +kernel
theorem dX12_rests_5 : decode cX12_rests 5 = .ok (.iconst 3, 1) := by decide +kernel
theorem dX12_rests_6 : decode cX12_rests 6 = .ok (.goto 18, 3) := by decide +kernel
theorem dX12_rests_9 : decode cX12_rests 9 = .ok (.iload_n 0, 1) := by decide +kernel
theorem dX12_rests_10 : decode cX12_rests 10 = .ok (.iconst 3, 1) := by decide +kernel
theorem dX12_rests_11 : decode cX12_rests 11 = .ok (.if_icmp .eq 8, 3) := by decide +kernel
theorem dX12_rests_14 : decode cX12_rests 14 = .ok (.iload_n 0, 1) := by decide +kernel
theorem dX12_rests_15 : decode cX12_rests 15 = .ok (.iconst 4, 1) := by decide +kernel
theorem dX12_rests_16 : decode cX12_rests 16 = .ok (.if_icmp .ne 7, 3) := by decide +kernel
theorem dX12_rests_19 : decode cX12_rests 19 = .ok (.iconst 1, 1) := by decide +kernel
theorem dX12_rests_20 : decode cX12_rests 20 = .ok (.goto 4, 3) := by decide +kernel
theorem dX12_rests_23 : decode cX12_rests 23 = .ok (.iconst 2, 1) := by decide +kernel
theorem dX12_rests_24 : decode cX12_rests 24 = .ok (.ireturn, 1) := by decide +kernel
theorem dX12_hour_0 : decode cX12_hour 0 = .ok (.aload_n 0, 1) := by decide +kernel
theorem dX12_hour_1 : decode cX12_hour 1 = .ok (.iload_n 1, 1) := by decide +kernel
theorem dX12_hour_2 : decode cX12_hour 2 = .ok (.invokevirtual 169, 3) := by decide +kernel
theorem dX12_hour_5 : decode cX12_hour 5 = .ok (.ifCond .ne 6, 3) := by decide +kernel
theorem dX12_hour_8 : decode cX12_hour 8 = .ok (.bipush (-2), 2) := by decide +kernel
theorem dX12_hour_10 : decode cX12_hour 10 = .ok (.ireturn, 1) := by decide +kernel
theorem dX12_hour_11 : decode cX12_hour 11 = .ok (.iload_n 2, 1) := by decide +kernel
theorem dX12_hour_12 : decode cX12_hour 12 = .ok (.tableswitch 99 0 5 #[40, 49, 59, 69, 79, 89], 40) := by decide +kernel
theorem dX12_hour_52 : decode cX12_hour 52 = .ok (.aload_n 0, 1) := by decide +kernel
theorem dX12_hour_53 : decode cX12_hour 53 = .ok (.getfield 7, 3) := by decide +kernel
theorem dX12_hour_56 : decode cX12_hour 56 = .ok (.iconst 3, 1) := by decide +kernel
theorem dX12_hour_57 : decode cX12_hour 57 = .ok (.iload_n 1, 1) := by decide +kernel
theorem dX12_hour_58 : decode cX12_hour 58 = .ok (.iadd, 1) := by decide +kernel
theorem dX12_hour_59 : decode cX12_hour 59 = .ok (.iaload, 1) := by decide +kernel
theorem dX12_hour_60 : decode cX12_hour 60 = .ok (.ireturn, 1) := by decide +kernel
theorem dX12_hour_61 : decode cX12_hour 61 = .ok (.aload_n 0, 1) := by decide +kernel
theorem dX12_hour_62 : decode cX12_hour 62 = .ok (.getfield 7, 3) := by decide +kernel
theorem dX12_hour_65 : decode cX12_hour 65 = .ok (.bipush 11, 2) := by decide +kernel
theorem dX12_hour_67 : decode cX12_hour 67 = .ok (.iload_n 1, 1) := by decide +kernel
theorem dX12_hour_68 : decode cX12_hour 68 = .ok (.iadd, 1) := by decide +kernel
theorem dX12_hour_69 : decode cX12_hour 69 = .ok (.iaload, 1) := by decide +kernel
theorem dX12_hour_70 : decode cX12_hour 70 = .ok (.ireturn, 1) := by decide +kernel
theorem dX12_hour_71 : decode cX12_hour 71 = .ok (.aload_n 0, 1) := by decide +kernel
theorem dX12_hour_72 : decode cX12_hour 72 = .ok (.getfield 7, 3) := by decide +kernel
theorem dX12_hour_75 : decode cX12_hour 75 = .ok (.bipush 19, 2) := by decide +kernel
theorem dX12_hour_77 : decode cX12_hour 77 = .ok (.iload_n 1, 1) := by decide +kernel
theorem dX12_hour_78 : decode cX12_hour 78 = .ok (.iadd, 1) := by decide +kernel
theorem dX12_hour_79 : decode cX12_hour 79 = .ok (.iaload, 1) := by decide +kernel
theorem dX12_hour_80 : decode cX12_hour 80 = .ok (.ireturn, 1) := by decide +kernel
theorem dX12_hour_81 : decode cX12_hour 81 = .ok (.aload_n 0, 1) := by decide +kernel
theorem dX12_hour_82 : decode cX12_hour 82 = .ok (.getfield 7, 3) := by decide +kernel
theorem dX12_hour_85 : decode cX12_hour 85 = .ok (.bipush 27, 2) := by decide +kernel
theorem dX12_hour_87 : decode cX12_hour 87 = .ok (.iload_n 1, 1) := by decide +kernel
theorem dX12_hour_88 : decode cX12_hour 88 = .ok (.iadd, 1) := by decide +kernel
theorem dX12_hour_89 : decode cX12_hour 89 = .ok (.iaload, 1) := by decide +kernel
theorem dX12_hour_90 : decode cX12_hour 90 = .ok (.ireturn, 1) := by decide +kernel
theorem dX12_hour_91 : decode cX12_hour 91 = .ok (.aload_n 0, 1) := by decide +kernel
theorem dX12_hour_92 : decode cX12_hour 92 = .ok (.getfield 7, 3) := by decide +kernel
theorem dX12_hour_95 : decode cX12_hour 95 = .ok (.bipush 35, 2) := by decide +kernel
theorem dX12_hour_97 : decode cX12_hour 97 = .ok (.iload_n 1, 1) := by decide +kernel
theorem dX12_hour_98 : decode cX12_hour 98 = .ok (.iadd, 1) := by decide +kernel
theorem dX12_hour_99 : decode cX12_hour 99 = .ok (.iaload, 1) := by decide +kernel
theorem dX12_hour_100 : decode cX12_hour 100 = .ok (.ireturn, 1) := by decide +kernel
theorem dX12_hour_101 : decode cX12_hour 101 = .ok (.aload_n 0, 1) := by decide +kernel
theorem dX12_hour_102 : decode cX12_hour 102 = .ok (.getfield 7, 3) := by decide +kernel
theorem dX12_hour_105 : decode cX12_hour 105 = .ok (.bipush 43, 2) := by decide +kernel
theorem dX12_hour_107 : decode cX12_hour 107 = .ok (.iload_n 1, 1) := by decide +kernel
theorem dX12_hour_108 : decode cX12_hour 108 = .ok (.iadd, 1) := by decide +kernel
theorem dX12_hour_109 : decode cX12_hour 109 = .ok (.iaload, 1) := by decide +kernel
theorem dX12_hour_110 : decode cX12_hour 110 = .ok (.ireturn, 1) := by decide +kernel
theorem dX12_hour_111 : decode cX12_hour 111 = .ok (.bipush (-3), 2) := by decide +kernel
theorem dX12_hour_113 : decode cX12_hour 113 = .ok (.ireturn, 1) := by decide +kernel
theorem dX12_rider_0 : decode cX12_rider 0 = .ok (.aload_n 0, 1) := by decide +kernel
theorem dX12_rider_1 : decode cX12_rider 1 = .ok (.iload_n 1, 1) := by decide +kernel
theorem dX12_rider_2 : decode cX12_rider 2 = .ok (.invokevirtual 172, 3) := by decide +kernel
theorem dX12_rider_5 : decode cX12_rider 5 = .ok (.ifCond .ne 6, 3) := by decide +kernel
theorem dX12_rider_8 : decode cX12_rider 8 = .ok (.bipush (-2), 2) := by decide +kernel
theorem dX12_rider_10 : decode cX12_rider 10 = .ok (.ireturn, 1) := by decide +kernel
theorem dX12_rider_11 : decode cX12_rider 11 = .ok (.iload_n 2, 1) := by decide +kernel
theorem dX12_rider_12 : decode cX12_rider 12 = .ok (.ifCond .ne 15, 3) := by decide +kernel
theorem dX12_rider_15 : decode cX12_rider 15 = .ok (.aload_n 0, 1) := by decide +kernel
theorem dX12_rider_16 : decode cX12_rider 16 = .ok (.getfield 7, 3) := by decide +kernel
theorem dX12_rider_19 : decode cX12_rider 19 = .ok (.bipush 51, 2) := by decide +kernel
theorem dX12_rider_21 : decode cX12_rider 21 = .ok (.iload_n 1, 1) := by decide +kernel
theorem dX12_rider_22 : decode cX12_rider 22 = .ok (.iadd, 1) := by decide +kernel
theorem dX12_rider_23 : decode cX12_rider 23 = .ok (.iaload, 1) := by decide +kernel
theorem dX12_rider_24 : decode cX12_rider 24 = .ok (.goto 39, 3) := by decide +kernel
theorem dX12_rider_27 : decode cX12_rider 27 = .ok (.iload_n 2, 1) := by decide +kernel
theorem dX12_rider_28 : decode cX12_rider 28 = .ok (.iconst 1, 1) := by decide +kernel
theorem dX12_rider_29 : decode cX12_rider 29 = .ok (.if_icmp .ne 15, 3) := by decide +kernel
theorem dX12_rider_32 : decode cX12_rider 32 = .ok (.aload_n 0, 1) := by decide +kernel
theorem dX12_rider_33 : decode cX12_rider 33 = .ok (.getfield 7, 3) := by decide +kernel
theorem dX12_rider_36 : decode cX12_rider 36 = .ok (.bipush 55, 2) := by decide +kernel
theorem dX12_rider_38 : decode cX12_rider 38 = .ok (.iload_n 1, 1) := by decide +kernel
theorem dX12_rider_39 : decode cX12_rider 39 = .ok (.iadd, 1) := by decide +kernel
theorem dX12_rider_40 : decode cX12_rider 40 = .ok (.iaload, 1) := by decide +kernel
theorem dX12_rider_41 : decode cX12_rider 41 = .ok (.goto 22, 3) := by decide +kernel
theorem dX12_rider_44 : decode cX12_rider 44 = .ok (.iload_n 2, 1) := by decide +kernel
theorem dX12_rider_45 : decode cX12_rider 45 = .ok (.iconst 2, 1) := by decide +kernel
theorem dX12_rider_46 : decode cX12_rider 46 = .ok (.if_icmp .ne 15, 3) := by decide +kernel
theorem dX12_rider_49 : decode cX12_rider 49 = .ok (.aload_n 0, 1) := by decide +kernel
theorem dX12_rider_50 : decode cX12_rider 50 = .ok (.getfield 7, 3) := by decide +kernel
theorem dX12_rider_53 : decode cX12_rider 53 = .ok (.bipush 59, 2) := by decide +kernel
theorem dX12_rider_55 : decode cX12_rider 55 = .ok (.iload_n 1, 1) := by decide +kernel
theorem dX12_rider_56 : decode cX12_rider 56 = .ok (.iadd, 1) := by decide +kernel
theorem dX12_rider_57 : decode cX12_rider 57 = .ok (.iaload, 1) := by decide +kernel
theorem dX12_rider_58 : decode cX12_rider 58 = .ok (.goto 5, 3) := by decide +kernel
theorem dX12_rider_61 : decode cX12_rider 61 = .ok (.bipush (-3), 2) := by decide +kernel
theorem dX12_rider_63 : decode cX12_rider 63 = .ok (.ireturn, 1) := by decide +kernel
theorem dX12_inn_0 : decode cX12_inn 0 = .ok (.aload_n 0, 1) := by decide +kernel
theorem dX12_inn_1 : decode cX12_inn 1 = .ok (.iload_n 1, 1) := by decide +kernel
theorem dX12_inn_2 : decode cX12_inn 2 = .ok (.invokevirtual 175, 3) := by decide +kernel
theorem dX12_inn_5 : decode cX12_inn 5 = .ok (.ifCond .eq 15, 3) := by decide +kernel
theorem dX12_inn_8 : decode cX12_inn 8 = .ok (.aload_n 0, 1) := by decide +kernel
theorem dX12_inn_9 : decode cX12_inn 9 = .ok (.getfield 7, 3) := by decide +kernel
theorem dX12_inn_12 : decode cX12_inn 12 = .ok (.bipush 64, 2) := by decide +kernel
theorem dX12_inn_14 : decode cX12_inn 14 = .ok (.iload_n 1, 1) := by decide +kernel
theorem dX12_inn_15 : decode cX12_inn 15 = .ok (.iadd, 1) := by decide +kernel
theorem dX12_inn_16 : decode cX12_inn 16 = .ok (.iaload, 1) := by decide +kernel
theorem dX12_inn_17 : decode cX12_inn 17 = .ok (.goto 5, 3) := by decide +kernel
theorem dX12_inn_20 : decode cX12_inn 20 = .ok (.bipush (-2), 2) := by decide +kernel
theorem dX12_inn_22 : decode cX12_inn 22 = .ok (.ireturn, 1) := by decide +kernel
theorem dX12_as_0 : decode cX12_as 0 = .ok (.aload_n 0, 1) := by decide +kernel
theorem dX12_as_1 : decode cX12_as 1 = .ok (.iload_n 1, 1) := by decide +kernel
theorem dX12_as_2 : decode cX12_as 2 = .ok (.invokevirtual 169, 3) := by decide +kernel
theorem dX12_as_5 : decode cX12_as 5 = .ok (.ifCond .ne 6, 3) := by decide +kernel
theorem dX12_as_8 : decode cX12_as 8 = .ok (.bipush (-2), 2) := by decide +kernel
theorem dX12_as_10 : decode cX12_as 10 = .ok (.ireturn, 1) := by decide +kernel
theorem dX12_as_11 : decode cX12_as 11 = .ok (.iload_n 2, 1) := by decide +kernel
theorem dX12_as_12 : decode cX12_as 12 = .ok (.i2l, 1) := by decide +kernel
theorem dX12_as_13 : decode cX12_as 13 = .ok (.lconst 0, 1) := by decide +kernel
theorem dX12_as_14 : decode cX12_as 14 = .ok (.ldc2_w 178, 3) := by decide +kernel
theorem dX12_as_17 : decode cX12_as 17 = .ok (.invokestatic 79, 3) := by decide +kernel
theorem dX12_as_20 : decode cX12_as 20 = .ok (.ifCond .ne 6, 3) := by decide +kernel
theorem dX12_as_23 : decode cX12_as 23 = .ok (.bipush (-3), 2) := by decide +kernel
theorem dX12_as_25 : decode cX12_as 25 = .ok (.ireturn, 1) := by decide +kernel
theorem dX12_as_26 : decode cX12_as 26 = .ok (.aload_n 0, 1) := by decide +kernel
theorem dX12_as_27 : decode cX12_as 27 = .ok (.getfield 7, 3) := by decide +kernel
theorem dX12_as_30 : decode cX12_as 30 = .ok (.iconst 3, 1) := by decide +kernel
theorem dX12_as_31 : decode cX12_as 31 = .ok (.iload_n 1, 1) := by decide +kernel
theorem dX12_as_32 : decode cX12_as 32 = .ok (.iadd, 1) := by decide +kernel
theorem dX12_as_33 : decode cX12_as 33 = .ok (.iaload, 1) := by decide +kernel
theorem dX12_as_34 : decode cX12_as 34 = .ok (.istore_n 3, 1) := by decide +kernel
theorem dX12_as_35 : decode cX12_as 35 = .ok (.iload_n 2, 1) := by decide +kernel
theorem dX12_as_36 : decode cX12_as 36 = .ok (.ifCond .eq 30, 3) := by decide +kernel
theorem dX12_as_39 : decode cX12_as 39 = .ok (.iload_n 2, 1) := by decide +kernel
theorem dX12_as_40 : decode cX12_as 40 = .ok (.iload_n 3, 1) := by decide +kernel
theorem dX12_as_41 : decode cX12_as 41 = .ok (.iconst 1, 1) := by decide +kernel
theorem dX12_as_42 : decode cX12_as 42 = .ok (.iadd, 1) := by decide +kernel
theorem dX12_as_43 : decode cX12_as 43 = .ok (.if_icmp .eq 23, 3) := by decide +kernel
theorem dX12_as_46 : decode cX12_as 46 = .ok (.iload_n 2, 1) := by decide +kernel
theorem dX12_as_47 : decode cX12_as 47 = .ok (.iconst 1, 1) := by decide +kernel
theorem dX12_as_48 : decode cX12_as 48 = .ok (.if_icmp .ne 8, 3) := by decide +kernel
theorem dX12_as_51 : decode cX12_as 51 = .ok (.iload_n 3, 1) := by decide +kernel
theorem dX12_as_52 : decode cX12_as 52 = .ok (.iconst 3, 1) := by decide +kernel
theorem dX12_as_53 : decode cX12_as 53 = .ok (.if_icmp .lt 13, 3) := by decide +kernel
theorem dX12_as_56 : decode cX12_as 56 = .ok (.iload_n 2, 1) := by decide +kernel
theorem dX12_as_57 : decode cX12_as 57 = .ok (.iconst 4, 1) := by decide +kernel
theorem dX12_as_58 : decode cX12_as 58 = .ok (.if_icmp .ne 12, 3) := by decide +kernel
theorem dX12_as_61 : decode cX12_as 61 = .ok (.iload_n 3, 1) := by decide +kernel
theorem dX12_as_62 : decode cX12_as 62 = .ok (.iconst 4, 1) := by decide +kernel
theorem dX12_as_63 : decode cX12_as 63 = .ok (.if_icmp .ne 7, 3) := by decide +kernel
theorem dX12_as_66 : decode cX12_as 66 = .ok (.iconst 1, 1) := by decide +kernel
theorem dX12_as_67 : decode cX12_as 67 = .ok (.goto 4, 3) := by decide +kernel
theorem dX12_as_70 : decode cX12_as 70 = .ok (.iconst 0, 1) := by decide +kernel
theorem dX12_as_71 : decode cX12_as 71 = .ok (.istore 4, 2) := by decide +kernel
theorem dX12_as_73 : decode cX12_as 73 = .ok (.iload 4, 2) := by decide +kernel
theorem dX12_as_75 : decode cX12_as 75 = .ok (.ifCond .eq 11, 3) := by decide +kernel
theorem dX12_as_78 : decode cX12_as 78 = .ok (.iload_n 3, 1) := by decide +kernel
theorem dX12_as_79 : decode cX12_as 79 = .ok (.iconst 5, 1) := by decide +kernel
theorem dX12_as_80 : decode cX12_as 80 = .ok (.invokestatic 180, 3) := by decide +kernel
theorem dX12_as_83 : decode cX12_as 83 = .ok (.goto 5, 3) := by decide +kernel
theorem dX12_as_86 : decode cX12_as 86 = .ok (.bipush (-4), 2) := by decide +kernel
theorem dX12_as_88 : decode cX12_as 88 = .ok (.ireturn, 1) := by decide +kernel
theorem dX12_givenIn_0 : decode cX12_givenIn 0 = .ok (.iconst (-1), 1) := by decide +kernel
theorem dX12_givenIn_1 : decode cX12_givenIn 1 = .ok (.istore_n 3, 1) := by decide +kernel
theorem dX12_givenIn_2 : decode cX12_givenIn 2 = .ok (.ldc 184, 2) := by decide +kernel
theorem dX12_givenIn_4 : decode cX12_givenIn 4 = .ok (.istore 4, 2) := by decide +kernel
theorem dX12_givenIn_6 : decode cX12_givenIn 6 = .ok (.iconst 0, 1) := by decide +kernel
theorem dX12_givenIn_7 : decode cX12_givenIn 7 = .ok (.istore 5, 2) := by decide +kernel
theorem dX12_givenIn_9 : decode cX12_givenIn 9 = .ok (.iload 5, 2) := by decide +kernel
theorem dX12_givenIn_11 : decode cX12_givenIn 11 = .ok (.aload_n 0, 1) := by decide +kernel
theorem dX12_givenIn_12 : decode cX12_givenIn 12 = .ok (.getfield 7, 3) := by decide +kernel
theorem dX12_givenIn_15 : decode cX12_givenIn 15 = .ok (.iload_n 1, 1) := by decide +kernel
theorem dX12_givenIn_16 : decode cX12_givenIn 16 = .ok (.iconst 0, 1) := by decide +kernel
theorem dX12_givenIn_17 : decode cX12_givenIn 17 = .ok (.iadd, 1) := by decide +kernel
theorem dX12_givenIn_18 : decode cX12_givenIn 18 = .ok (.iaload, 1) := by decide +kernel
theorem dX12_givenIn_19 : decode cX12_givenIn 19 = .ok (.if_icmp .ge 124, 3) := by decide +kernel
theorem dX12_givenIn_22 : decode cX12_givenIn 22 = .ok (.aload_n 0, 1) := by decide +kernel
theorem dX12_givenIn_23 : decode cX12_givenIn 23 = .ok (.getfield 7, 3) := by decide +kernel
theorem dX12_givenIn_26 : decode cX12_givenIn 26 = .ok (.iload_n 1, 1) := by decide +kernel
theorem dX12_givenIn_27 : decode cX12_givenIn 27 = .ok (.bipush 19, 2) := by decide +kernel
theorem dX12_givenIn_29 : decode cX12_givenIn 29 = .ok (.iadd, 1) := by decide +kernel
theorem dX12_givenIn_30 : decode cX12_givenIn 30 = .ok (.iload 5, 2) := by decide +kernel
theorem dX12_givenIn_32 : decode cX12_givenIn 32 = .ok (.iadd, 1) := by decide +kernel
theorem dX12_givenIn_33 : decode cX12_givenIn 33 = .ok (.iaload, 1) := by decide +kernel
theorem dX12_givenIn_34 : decode cX12_givenIn 34 = .ok (.aload_n 0, 1) := by decide +kernel
theorem dX12_givenIn_35 : decode cX12_givenIn 35 = .ok (.getfield 7, 3) := by decide +kernel
theorem dX12_givenIn_38 : decode cX12_givenIn 38 = .ok (.iload_n 1, 1) := by decide +kernel
theorem dX12_givenIn_39 : decode cX12_givenIn 39 = .ok (.bipush 51, 2) := by decide +kernel
theorem dX12_givenIn_41 : decode cX12_givenIn 41 = .ok (.iadd, 1) := by decide +kernel
theorem dX12_givenIn_42 : decode cX12_givenIn 42 = .ok (.iload_n 2, 1) := by decide +kernel
theorem dX12_givenIn_43 : decode cX12_givenIn 43 = .ok (.iadd, 1) := by decide +kernel
theorem dX12_givenIn_44 : decode cX12_givenIn 44 = .ok (.iaload, 1) := by decide +kernel
theorem dX12_givenIn_45 : decode cX12_givenIn 45 = .ok (.if_icmp .ne 34, 3) := by decide +kernel
theorem dX12_givenIn_48 : decode cX12_givenIn 48 = .ok (.aload_n 0, 1) := by decide +kernel
theorem dX12_givenIn_49 : decode cX12_givenIn 49 = .ok (.getfield 7, 3) := by decide +kernel
theorem dX12_givenIn_52 : decode cX12_givenIn 52 = .ok (.iload_n 1, 1) := by decide +kernel
theorem dX12_givenIn_53 : decode cX12_givenIn 53 = .ok (.bipush 35, 2) := by decide +kernel
theorem dX12_givenIn_55 : decode cX12_givenIn 55 = .ok (.iadd, 1) := by decide +kernel
theorem dX12_givenIn_56 : decode cX12_givenIn 56 = .ok (.iload 5, 2) := by decide +kernel
theorem dX12_givenIn_58 : decode cX12_givenIn 58 = .ok (.iadd, 1) := by decide +kernel
theorem dX12_givenIn_59 : decode cX12_givenIn 59 = .ok (.iaload, 1) := by decide +kernel
theorem dX12_givenIn_60 : decode cX12_givenIn 60 = .ok (.ifCond .ne 19, 3) := by decide +kernel
theorem dX12_givenIn_63 : decode cX12_givenIn 63 = .ok (.aload_n 0, 1) := by decide +kernel
theorem dX12_givenIn_64 : decode cX12_givenIn 64 = .ok (.getfield 185, 3) := by decide +kernel
theorem dX12_givenIn_67 : decode cX12_givenIn 67 = .ok (.iload 5, 2) := by decide +kernel
theorem dX12_givenIn_69 : decode cX12_givenIn 69 = .ok (.invokestatic 188, 3) := by decide +kernel
theorem dX12_givenIn_72 : decode cX12_givenIn 72 = .ok (.ifCond .ne 7, 3) := by decide +kernel
theorem dX12_givenIn_75 : decode cX12_givenIn 75 = .ok (.iconst 1, 1) := by decide +kernel
theorem dX12_givenIn_76 : decode cX12_givenIn 76 = .ok (.goto 4, 3) := by decide +kernel
theorem dX12_givenIn_79 : decode cX12_givenIn 79 = .ok (.iconst 0, 1) := by decide +kernel
theorem dX12_givenIn_80 : decode cX12_givenIn 80 = .ok (.istore 6, 2) := by decide +kernel
theorem dX12_givenIn_82 : decode cX12_givenIn 82 = .ok (.aload_n 0, 1) := by decide +kernel
theorem dX12_givenIn_83 : decode cX12_givenIn 83 = .ok (.getfield 7, 3) := by decide +kernel
theorem dX12_givenIn_86 : decode cX12_givenIn 86 = .ok (.iload_n 1, 1) := by decide +kernel
theorem dX12_givenIn_87 : decode cX12_givenIn 87 = .ok (.bipush 27, 2) := by decide +kernel
theorem dX12_givenIn_89 : decode cX12_givenIn 89 = .ok (.iadd, 1) := by decide +kernel
theorem dX12_givenIn_90 : decode cX12_givenIn 90 = .ok (.iload 5, 2) := by decide +kernel
theorem dX12_givenIn_92 : decode cX12_givenIn 92 = .ok (.iadd, 1) := by decide +kernel
theorem dX12_givenIn_93 : decode cX12_givenIn 93 = .ok (.iaload, 1) := by decide +kernel
theorem dX12_givenIn_94 : decode cX12_givenIn 94 = .ok (.aload_n 0, 1) := by decide +kernel
theorem dX12_givenIn_95 : decode cX12_givenIn 95 = .ok (.getfield 7, 3) := by decide +kernel
theorem dX12_givenIn_98 : decode cX12_givenIn 98 = .ok (.iload_n 1, 1) := by decide +kernel
theorem dX12_givenIn_99 : decode cX12_givenIn 99 = .ok (.iconst 3, 1) := by decide +kernel
theorem dX12_givenIn_100 : decode cX12_givenIn 100 = .ok (.iadd, 1) := by decide +kernel
theorem dX12_givenIn_101 : decode cX12_givenIn 101 = .ok (.iload 5, 2) := by decide +kernel
theorem dX12_givenIn_103 : decode cX12_givenIn 103 = .ok (.iadd, 1) := by decide +kernel
theorem dX12_givenIn_104 : decode cX12_givenIn 104 = .ok (.iaload, 1) := by decide +kernel
theorem dX12_givenIn_105 : decode cX12_givenIn 105 = .ok (.iconst 4, 1) := by decide +kernel
theorem dX12_givenIn_106 : decode cX12_givenIn 106 = .ok (.if_icmp .ne 8, 3) := by decide +kernel
theorem dX12_givenIn_109 : decode cX12_givenIn 109 = .ok (.bipush 100, 2) := by decide +kernel
theorem dX12_givenIn_111 : decode cX12_givenIn 111 = .ok (.goto 4, 3) := by decide +kernel
theorem dX12_givenIn_114 : decode cX12_givenIn 114 = .ok (.iconst 0, 1) := by decide +kernel
theorem dX12_givenIn_115 : decode cX12_givenIn 115 = .ok (.iadd, 1) := by decide +kernel
theorem dX12_givenIn_116 : decode cX12_givenIn 116 = .ok (.istore 7, 2) := by decide +kernel
theorem dX12_givenIn_118 : decode cX12_givenIn 118 = .ok (.iload 6, 2) := by decide +kernel
theorem dX12_givenIn_120 : decode cX12_givenIn 120 = .ok (.ifCond .eq 17, 3) := by decide +kernel
theorem dX12_givenIn_123 : decode cX12_givenIn 123 = .ok (.iload 7, 2) := by decide +kernel
theorem dX12_givenIn_125 : decode cX12_givenIn 125 = .ok (.iload 4, 2) := by decide +kernel
theorem dX12_givenIn_127 : decode cX12_givenIn 127 = .ok (.if_icmp .ge 10, 3) := by decide +kernel
theorem dX12_givenIn_130 : decode cX12_givenIn 130 = .ok (.iload 5, 2) := by decide +kernel
theorem dX12_givenIn_132 : decode cX12_givenIn 132 = .ok (.istore_n 3, 1) := by decide +kernel
theorem dX12_givenIn_133 : decode cX12_givenIn 133 = .ok (.iload 7, 2) := by decide +kernel
theorem dX12_givenIn_135 : decode cX12_givenIn 135 = .ok (.istore 4, 2) := by decide +kernel
theorem dX12_givenIn_137 : decode cX12_givenIn 137 = .ok (.iinc 5 1, 3) := by decide +kernel
theorem dX12_givenIn_140 : decode cX12_givenIn 140 = .ok (.goto (-131), 3) := by decide +kernel
theorem dX12_givenIn_143 : decode cX12_givenIn 143 = .ok (.iload_n 3, 1) := by decide +kernel
theorem dX12_givenIn_144 : decode cX12_givenIn 144 = .ok (.ireturn, 1) := by decide +kernel
theorem dX12_next_0 : decode cX12_next 0 = .ok (.iload_n 1, 1) := by decide +kernel
theorem dX12_next_1 : decode cX12_next 1 = .ok (.iload_n 0, 1) := by decide +kernel
theorem dX12_next_2 : decode cX12_next 2 = .ok (.if_icmp .le 9, 3) := by decide +kernel
theorem dX12_next_5 : decode cX12_next 5 = .ok (.iload_n 0, 1) := by decide +kernel
theorem dX12_next_6 : decode cX12_next 6 = .ok (.iconst 1, 1) := by decide +kernel
theorem dX12_next_7 : decode cX12_next 7 = .ok (.iadd, 1) := by decide +kernel
theorem dX12_next_8 : decode cX12_next 8 = .ok (.goto 15, 3) := by decide +kernel
theorem dX12_next_11 : decode cX12_next 11 = .ok (.iload_n 1, 1) := by decide +kernel
theorem dX12_next_12 : decode cX12_next 12 = .ok (.iload_n 0, 1) := by decide +kernel
theorem dX12_next_13 : decode cX12_next 13 = .ok (.if_icmp .ge 9, 3) := by decide +kernel
theorem dX12_next_16 : decode cX12_next 16 = .ok (.iload_n 0, 1) := by decide +kernel
theorem dX12_next_17 : decode cX12_next 17 = .ok (.iconst 1, 1) := by decide +kernel
theorem dX12_next_18 : decode cX12_next 18 = .ok (.isub, 1) := by decide +kernel
theorem dX12_next_19 : decode cX12_next 19 = .ok (.goto 4, 3) := by decide +kernel
theorem dX12_next_22 : decode cX12_next 22 = .ok (.iload_n 0, 1) := by decide +kernel
theorem dX12_next_23 : decode cX12_next 23 = .ok (.ireturn, 1) := by decide +kernel
theorem dX12_milesOn_0 : decode cX12_milesOn 0 = .ok (.aload_n 0, 1) := by decide +kernel
theorem dX12_milesOn_1 : decode cX12_milesOn 1 = .ok (.getfield 7, 3) := by decide +kernel
theorem dX12_milesOn_4 : decode cX12_milesOn 4 = .ok (.iload_n 1, 1) := by decide +kernel
theorem dX12_milesOn_5 : decode cX12_milesOn 5 = .ok (.bipush 64, 2) := by decide +kernel
theorem dX12_milesOn_7 : decode cX12_milesOn 7 = .ok (.iadd, 1) := by decide +kernel
theorem dX12_milesOn_8 : decode cX12_milesOn 8 = .ok (.iload_n 3, 1) := by decide +kernel
theorem dX12_milesOn_9 : decode cX12_milesOn 9 = .ok (.iload_n 2, 1) := by decide +kernel
theorem dX12_milesOn_10 : decode cX12_milesOn 10 = .ok (.if_icmp .le 9, 3) := by decide +kernel
theorem dX12_milesOn_13 : decode cX12_milesOn 13 = .ok (.iload_n 2, 1) := by decide +kernel
theorem dX12_milesOn_14 : decode cX12_milesOn 14 = .ok (.iconst 1, 1) := by decide +kernel
theorem dX12_milesOn_15 : decode cX12_milesOn 15 = .ok (.iadd, 1) := by decide +kernel
theorem dX12_milesOn_16 : decode cX12_milesOn 16 = .ok (.goto 4, 3) := by decide +kernel
theorem dX12_milesOn_19 : decode cX12_milesOn 19 = .ok (.iload_n 2, 1) := by decide +kernel
theorem dX12_milesOn_20 : decode cX12_milesOn 20 = .ok (.iadd, 1) := by decide +kernel
theorem dX12_milesOn_21 : decode cX12_milesOn 21 = .ok (.iaload, 1) := by decide +kernel
theorem dX12_milesOn_22 : decode cX12_milesOn 22 = .ok (.ireturn, 1) := by decide +kernel
theorem dX12_tire_0 : decode cX12_tire 0 = .ok (.aload_n 0, 1) := by decide +kernel
theorem dX12_tire_1 : decode cX12_tire 1 = .ok (.getfield 7, 3) := by decide +kernel
theorem dX12_tire_4 : decode cX12_tire 4 = .ok (.iload_n 1, 1) := by decide +kernel
theorem dX12_tire_5 : decode cX12_tire 5 = .ok (.bipush 27, 2) := by decide +kernel
theorem dX12_tire_7 : decode cX12_tire 7 = .ok (.iadd, 1) := by decide +kernel
theorem dX12_tire_8 : decode cX12_tire 8 = .ok (.iload_n 2, 1) := by decide +kernel
theorem dX12_tire_9 : decode cX12_tire 9 = .ok (.iadd, 1) := by decide +kernel
theorem dX12_tire_10 : decode cX12_tire 10 = .ok (.dup2, 1) := by decide +kernel
theorem dX12_tire_11 : decode cX12_tire 11 = .ok (.iaload, 1) := by decide +kernel
theorem dX12_tire_12 : decode cX12_tire 12 = .ok (.iload_n 3, 1) := by decide +kernel
theorem dX12_tire_13 : decode cX12_tire 13 = .ok (.iadd, 1) := by decide +kernel
theorem dX12_tire_14 : decode cX12_tire 14 = .ok (.iastore, 1) := by decide +kernel
theorem dX12_tire_15 : decode cX12_tire 15 = .ok (.aload_n 0, 1) := by decide +kernel
theorem dX12_tire_16 : decode cX12_tire 16 = .ok (.getfield 7, 3) := by decide +kernel
theorem dX12_tire_19 : decode cX12_tire 19 = .ok (.iload_n 1, 1) := by decide +kernel
theorem dX12_tire_20 : decode cX12_tire 20 = .ok (.bipush 27, 2) := by decide +kernel
theorem dX12_tire_22 : decode cX12_tire 22 = .ok (.iadd, 1) := by decide +kernel
theorem dX12_tire_23 : decode cX12_tire 23 = .ok (.iload_n 2, 1) := by decide +kernel
theorem dX12_tire_24 : decode cX12_tire 24 = .ok (.iadd, 1) := by decide +kernel
theorem dX12_tire_25 : decode cX12_tire 25 = .ok (.iaload, 1) := by decide +kernel
theorem dX12_tire_26 : decode cX12_tire 26 = .ok (.bipush 9, 2) := by decide +kernel
theorem dX12_tire_28 : decode cX12_tire 28 = .ok (.if_icmp .le 28, 3) := by decide +kernel
theorem dX12_tire_31 : decode cX12_tire 31 = .ok (.aload_n 0, 1) := by decide +kernel
theorem dX12_tire_32 : decode cX12_tire 32 = .ok (.getfield 7, 3) := by decide +kernel
theorem dX12_tire_35 : decode cX12_tire 35 = .ok (.iload_n 1, 1) := by decide +kernel
theorem dX12_tire_36 : decode cX12_tire 36 = .ok (.bipush 27, 2) := by decide +kernel
theorem dX12_tire_38 : decode cX12_tire 38 = .ok (.iadd, 1) := by decide +kernel
theorem dX12_tire_39 : decode cX12_tire 39 = .ok (.iload_n 2, 1) := by decide +kernel
theorem dX12_tire_40 : decode cX12_tire 40 = .ok (.iadd, 1) := by decide +kernel
theorem dX12_tire_41 : decode cX12_tire 41 = .ok (.bipush 10, 2) := by decide +kernel
theorem dX12_tire_43 : decode cX12_tire 43 = .ok (.iastore, 1) := by decide +kernel
theorem dX12_tire_44 : decode cX12_tire 44 = .ok (.aload_n 0, 1) := by decide +kernel
theorem dX12_tire_45 : decode cX12_tire 45 = .ok (.getfield 7, 3) := by decide +kernel
theorem dX12_tire_48 : decode cX12_tire 48 = .ok (.iload_n 1, 1) := by decide +kernel
theorem dX12_tire_49 : decode cX12_tire 49 = .ok (.bipush 35, 2) := by decide +kernel
theorem dX12_tire_51 : decode cX12_tire 51 = .ok (.iadd, 1) := by decide +kernel
theorem dX12_tire_52 : decode cX12_tire 52 = .ok (.iload_n 2, 1) := by decide +kernel
theorem dX12_tire_53 : decode cX12_tire 53 = .ok (.iadd, 1) := by decide +kernel
theorem dX12_tire_54 : decode cX12_tire 54 = .ok (.iconst 1, 1) := by decide +kernel
theorem dX12_tire_55 : decode cX12_tire 55 = .ok (.iastore, 1) := by decide +kernel
theorem dX12_tire_56 : decode cX12_tire 56 = .ok (.return_, 1) := by decide +kernel
theorem dX12_rides_0 : decode cX12_rides 0 = .ok (.aload_n 0, 1) := by decide +kernel
theorem dX12_rides_1 : decode cX12_rides 1 = .ok (.iload_n 1, 1) := by decide +kernel
theorem dX12_rides_2 : decode cX12_rides 2 = .ok (.iload_n 2, 1) := by decide +kernel
theorem dX12_rides_3 : decode cX12_rides 3 = .ok (.invokevirtual 192, 3) := by decide +kernel
theorem dX12_rides_6 : decode cX12_rides 6 = .ok (.istore_n 3, 1) := by decide +kernel
theorem dX12_rides_7 : decode cX12_rides 7 = .ok (.iload_n 3, 1) := by decide +kernel
theorem dX12_rides_8 : decode cX12_rides 8 = .ok (.iconst (-1), 1) := by decide +kernel
theorem dX12_rides_9 : decode cX12_rides 9 = .ok (.if_icmp .ne 19, 3) := by decide +kernel
theorem dX12_rides_12 : decode cX12_rides 12 = .ok (.aload_n 0, 1) := by decide +kernel
theorem dX12_rides_13 : decode cX12_rides 13 = .ok (.getfield 7, 3) := by decide +kernel
theorem dX12_rides_16 : decode cX12_rides 16 = .ok (.iload_n 1, 1) := by decide +kernel
theorem dX12_rides_17 : decode cX12_rides 17 = .ok (.bipush 59, 2) := by decide +kernel
theorem dX12_rides_19 : decode cX12_rides 19 = .ok (.iadd, 1) := by decide +kernel
theorem dX12_rides_20 : decode cX12_rides 20 = .ok (.iload_n 2, 1) := by decide +kernel
theorem dX12_rides_21 : decode cX12_rides 21 = .ok (.iadd, 1) := by decide +kernel
theorem dX12_rides_22 : decode cX12_rides 22 = .ok (.dup2, 1) := by decide +kernel
theorem dX12_rides_23 : decode cX12_rides 23 = .ok (.iaload, 1) := by decide +kernel
theorem dX12_rides_24 : decode cX12_rides 24 = .ok (.iconst 1, 1) := by decide +kernel
theorem dX12_rides_25 : decode cX12_rides 25 = .ok (.iadd, 1) := by decide +kernel
theorem dX12_rides_26 : decode cX12_rides 26 = .ok (.iastore, 1) := by decide +kernel
theorem dX12_rides_27 : decode cX12_rides 27 = .ok (.return_, 1) := by decide +kernel
theorem dX12_rides_28 : decode cX12_rides 28 = .ok (.aload_n 0, 1) := by decide +kernel
theorem dX12_rides_29 : decode cX12_rides 29 = .ok (.getfield 7, 3) := by decide +kernel
theorem dX12_rides_32 : decode cX12_rides 32 = .ok (.iload_n 1, 1) := by decide +kernel
theorem dX12_rides_33 : decode cX12_rides 33 = .ok (.iconst 3, 1) := by decide +kernel
theorem dX12_rides_34 : decode cX12_rides 34 = .ok (.iadd, 1) := by decide +kernel
theorem dX12_rides_35 : decode cX12_rides 35 = .ok (.iload_n 3, 1) := by decide +kernel
theorem dX12_rides_36 : decode cX12_rides 36 = .ok (.iadd, 1) := by decide +kernel
theorem dX12_rides_37 : decode cX12_rides 37 = .ok (.iaload, 1) := by decide +kernel
theorem dX12_rides_38 : decode cX12_rides 38 = .ok (.istore 4, 2) := by decide +kernel
theorem dX12_rides_40 : decode cX12_rides 40 = .ok (.aload_n 0, 1) := by decide +kernel
theorem dX12_rides_41 : decode cX12_rides 41 = .ok (.dup, 1) := by decide +kernel
theorem dX12_rides_42 : decode cX12_rides 42 = .ok (.getfield 185, 3) := by decide +kernel
theorem dX12_rides_45 : decode cX12_rides 45 = .ok (.iconst 1, 1) := by decide +kernel
theorem dX12_rides_46 : decode cX12_rides 46 = .ok (.iload_n 3, 1) := by decide +kernel
theorem dX12_rides_47 : decode cX12_rides 47 = .ok (.ishl, 1) := by decide +kernel
theorem dX12_rides_48 : decode cX12_rides 48 = .ok (.ior, 1) := by decide +kernel
theorem dX12_rides_49 : decode cX12_rides 49 = .ok (.putfield 185, 3) := by decide +kernel
theorem dX12_rides_52 : decode cX12_rides 52 = .ok (.aload_n 0, 1) := by decide +kernel
theorem dX12_rides_53 : decode cX12_rides 53 = .ok (.getfield 7, 3) := by decide +kernel
theorem dX12_rides_56 : decode cX12_rides 56 = .ok (.iload_n 1, 1) := by decide +kernel
theorem dX12_rides_57 : decode cX12_rides 57 = .ok (.bipush 43, 2) := by decide +kernel
theorem dX12_rides_59 : decode cX12_rides 59 = .ok (.iadd, 1) := by decide +kernel
theorem dX12_rides_60 : decode cX12_rides 60 = .ok (.iload_n 3, 1) := by decide +kernel
theorem dX12_rides_61 : decode cX12_rides 61 = .ok (.iadd, 1) := by decide +kernel
theorem dX12_rides_62 : decode cX12_rides 62 = .ok (.dup2, 1) := by decide +kernel
theorem dX12_rides_63 : decode cX12_rides 63 = .ok (.iaload, 1) := by decide +kernel
theorem dX12_rides_64 : decode cX12_rides 64 = .ok (.iconst 1, 1) := by decide +kernel
theorem dX12_rides_65 : decode cX12_rides 65 = .ok (.iadd, 1) := by decide +kernel
theorem dX12_rides_66 : decode cX12_rides 66 = .ok (.iastore, 1) := by decide +kernel
theorem dX12_rides_67 : decode cX12_rides 67 = .ok (.iload 4, 2) := by decide +kernel
theorem dX12_rides_69 : decode cX12_rides 69 = .ok (.iconst 1, 1) := by decide +kernel
theorem dX12_rides_70 : decode cX12_rides 70 = .ok (.if_icmp .ne 42, 3) := by decide +kernel
theorem dX12_rides_73 : decode cX12_rides 73 = .ok (.aload_n 0, 1) := by decide +kernel
theorem dX12_rides_74 : decode cX12_rides 74 = .ok (.getfield 7, 3) := by decide +kernel
theorem dX12_rides_77 : decode cX12_rides 77 = .ok (.iload_n 1, 1) := by decide +kernel
theorem dX12_rides_78 : decode cX12_rides 78 = .ok (.bipush 43, 2) := by decide +kernel
theorem dX12_rides_80 : decode cX12_rides 80 = .ok (.iadd, 1) := by decide +kernel
theorem dX12_rides_81 : decode cX12_rides 81 = .ok (.iload_n 3, 1) := by decide +kernel
theorem dX12_rides_82 : decode cX12_rides 82 = .ok (.iadd, 1) := by decide +kernel
theorem dX12_rides_83 : decode cX12_rides 83 = .ok (.iaload, 1) := by decide +kernel
theorem dX12_rides_84 : decode cX12_rides 84 = .ok (.iconst 3, 1) := by decide +kernel
theorem dX12_rides_85 : decode cX12_rides 85 = .ok (.irem, 1) := by decide +kernel
theorem dX12_rides_86 : decode cX12_rides 86 = .ok (.ifCond .ne 26, 3) := by decide +kernel
theorem dX12_rides_89 : decode cX12_rides 89 = .ok (.aload_n 0, 1) := by decide +kernel
theorem dX12_rides_90 : decode cX12_rides 90 = .ok (.getfield 7, 3) := by decide +kernel
theorem dX12_rides_93 : decode cX12_rides 93 = .ok (.iload_n 1, 1) := by decide +kernel
theorem dX12_rides_94 : decode cX12_rides 94 = .ok (.bipush 59, 2) := by decide +kernel
theorem dX12_rides_96 : decode cX12_rides 96 = .ok (.iadd, 1) := by decide +kernel
theorem dX12_rides_97 : decode cX12_rides 97 = .ok (.iload_n 2, 1) := by decide +kernel
theorem dX12_rides_98 : decode cX12_rides 98 = .ok (.iadd, 1) := by decide +kernel
theorem dX12_rides_99 : decode cX12_rides 99 = .ok (.dup2, 1) := by decide +kernel
theorem dX12_rides_100 : decode cX12_rides 100 = .ok (.iaload, 1) := by decide +kernel
theorem dX12_rides_101 : decode cX12_rides 101 = .ok (.iconst 2, 1) := by decide +kernel
theorem dX12_rides_102 : decode cX12_rides 102 = .ok (.iadd, 1) := by decide +kernel
theorem dX12_rides_103 : decode cX12_rides 103 = .ok (.iastore, 1) := by decide +kernel
theorem dX12_rides_104 : decode cX12_rides 104 = .ok (.aload_n 0, 1) := by decide +kernel
theorem dX12_rides_105 : decode cX12_rides 105 = .ok (.iload_n 1, 1) := by decide +kernel
theorem dX12_rides_106 : decode cX12_rides 106 = .ok (.iload_n 3, 1) := by decide +kernel
theorem dX12_rides_107 : decode cX12_rides 107 = .ok (.iconst 1, 1) := by decide +kernel
theorem dX12_rides_108 : decode cX12_rides 108 = .ok (.invokevirtual 195, 3) := by decide +kernel
theorem dX12_rides_111 : decode cX12_rides 111 = .ok (.return_, 1) := by decide +kernel
theorem dX12_rides_112 : decode cX12_rides 112 = .ok (.aload_n 0, 1) := by decide +kernel
theorem dX12_rides_113 : decode cX12_rides 113 = .ok (.getfield 7, 3) := by decide +kernel
theorem dX12_rides_116 : decode cX12_rides 116 = .ok (.iload_n 1, 1) := by decide +kernel
theorem dX12_rides_117 : decode cX12_rides 117 = .ok (.bipush 51, 2) := by decide +kernel
theorem dX12_rides_119 : decode cX12_rides 119 = .ok (.iadd, 1) := by decide +kernel
theorem dX12_rides_120 : decode cX12_rides 120 = .ok (.iload_n 2, 1) := by decide +kernel
theorem dX12_rides_121 : decode cX12_rides 121 = .ok (.iadd, 1) := by decide +kernel
theorem dX12_rides_122 : decode cX12_rides 122 = .ok (.iaload, 1) := by decide +kernel
theorem dX12_rides_123 : decode cX12_rides 123 = .ok (.istore 5, 2) := by decide +kernel
theorem dX12_rides_125 : decode cX12_rides 125 = .ok (.aload_n 0, 1) := by decide +kernel
theorem dX12_rides_126 : decode cX12_rides 126 = .ok (.iload_n 1, 1) := by decide +kernel
theorem dX12_rides_127 : decode cX12_rides 127 = .ok (.iload 5, 2) := by decide +kernel
theorem dX12_rides_129 : decode cX12_rides 129 = .ok (.aload_n 0, 1) := by decide +kernel
theorem dX12_rides_130 : decode cX12_rides 130 = .ok (.getfield 7, 3) := by decide +kernel
theorem dX12_rides_133 : decode cX12_rides 133 = .ok (.iload_n 1, 1) := by decide +kernel
theorem dX12_rides_134 : decode cX12_rides 134 = .ok (.bipush 55, 2) := by decide +kernel
theorem dX12_rides_136 : decode cX12_rides 136 = .ok (.iadd, 1) := by decide +kernel
theorem dX12_rides_137 : decode cX12_rides 137 = .ok (.iload_n 2, 1) := by decide +kernel
theorem dX12_rides_138 : decode cX12_rides 138 = .ok (.iadd, 1) := by decide +kernel
theorem dX12_rides_139 : decode cX12_rides 139 = .ok (.iaload, 1) := by decide +kernel
theorem dX12_rides_140 : decode cX12_rides 140 = .ok (.invokevirtual 199, 3) := by decide +kernel
theorem dX12_rides_143 : decode cX12_rides 143 = .ok (.istore 6, 2) := by decide +kernel
theorem dX12_rides_145 : decode cX12_rides 145 = .ok (.aload_n 0, 1) := by decide +kernel
theorem dX12_rides_146 : decode cX12_rides 146 = .ok (.getfield 7, 3) := by decide +kernel
theorem dX12_rides_149 : decode cX12_rides 149 = .ok (.iload_n 1, 1) := by decide +kernel
theorem dX12_rides_150 : decode cX12_rides 150 = .ok (.bipush 51, 2) := by decide +kernel
theorem dX12_rides_152 : decode cX12_rides 152 = .ok (.iadd, 1) := by decide +kernel
theorem dX12_rides_153 : decode cX12_rides 153 = .ok (.iload_n 2, 1) := by decide +kernel
theorem dX12_rides_154 : decode cX12_rides 154 = .ok (.iadd, 1) := by decide +kernel
theorem dX12_rides_155 : decode cX12_rides 155 = .ok (.iload 5, 2) := by decide +kernel
theorem dX12_rides_157 : decode cX12_rides 157 = .ok (.aload_n 0, 1) := by decide +kernel
theorem dX12_rides_158 : decode cX12_rides 158 = .ok (.getfield 7, 3) := by decide +kernel
theorem dX12_rides_161 : decode cX12_rides 161 = .ok (.iload_n 1, 1) := by decide +kernel
theorem dX12_rides_162 : decode cX12_rides 162 = .ok (.bipush 55, 2) := by decide +kernel
theorem dX12_rides_164 : decode cX12_rides 164 = .ok (.iadd, 1) := by decide +kernel
theorem dX12_rides_165 : decode cX12_rides 165 = .ok (.iload_n 2, 1) := by decide +kernel
theorem dX12_rides_166 : decode cX12_rides 166 = .ok (.iadd, 1) := by decide +kernel
theorem dX12_rides_167 : decode cX12_rides 167 = .ok (.iaload, 1) := by decide +kernel
theorem dX12_rides_168 : decode cX12_rides 168 = .ok (.invokestatic 203, 3) := by decide +kernel
theorem dX12_rides_171 : decode cX12_rides 171 = .ok (.iastore, 1) := by decide +kernel
theorem dX12_rides_172 : decode cX12_rides 172 = .ok (.aload_n 0, 1) := by decide +kernel
theorem dX12_rides_173 : decode cX12_rides 173 = .ok (.getfield 7, 3) := by decide +kernel
theorem dX12_rides_176 : decode cX12_rides 176 = .ok (.iload_n 1, 1) := by decide +kernel
theorem dX12_rides_177 : decode cX12_rides 177 = .ok (.bipush 19, 2) := by decide +kernel
theorem dX12_rides_179 : decode cX12_rides 179 = .ok (.iadd, 1) := by decide +kernel
theorem dX12_rides_180 : decode cX12_rides 180 = .ok (.iload_n 3, 1) := by decide +kernel
theorem dX12_rides_181 : decode cX12_rides 181 = .ok (.iadd, 1) := by decide +kernel
theorem dX12_rides_182 : decode cX12_rides 182 = .ok (.aload_n 0, 1) := by decide +kernel
theorem dX12_rides_183 : decode cX12_rides 183 = .ok (.getfield 7, 3) := by decide +kernel
theorem dX12_rides_186 : decode cX12_rides 186 = .ok (.iload_n 1, 1) := by decide +kernel
theorem dX12_rides_187 : decode cX12_rides 187 = .ok (.bipush 51, 2) := by decide +kernel
theorem dX12_rides_189 : decode cX12_rides 189 = .ok (.iadd, 1) := by decide +kernel
theorem dX12_rides_190 : decode cX12_rides 190 = .ok (.iload_n 2, 1) := by decide +kernel
theorem dX12_rides_191 : decode cX12_rides 191 = .ok (.iadd, 1) := by decide +kernel
theorem dX12_rides_192 : decode cX12_rides 192 = .ok (.iaload, 1) := by decide +kernel
theorem dX12_rides_193 : decode cX12_rides 193 = .ok (.iastore, 1) := by decide +kernel
theorem dX12_rides_194 : decode cX12_rides 194 = .ok (.aload_n 0, 1) := by decide +kernel
theorem dX12_rides_195 : decode cX12_rides 195 = .ok (.getfield 7, 3) := by decide +kernel
theorem dX12_rides_198 : decode cX12_rides 198 = .ok (.iload_n 1, 1) := by decide +kernel
theorem dX12_rides_199 : decode cX12_rides 199 = .ok (.bipush 59, 2) := by decide +kernel
theorem dX12_rides_201 : decode cX12_rides 201 = .ok (.iadd, 1) := by decide +kernel
theorem dX12_rides_202 : decode cX12_rides 202 = .ok (.iload_n 2, 1) := by decide +kernel
theorem dX12_rides_203 : decode cX12_rides 203 = .ok (.iadd, 1) := by decide +kernel
theorem dX12_rides_204 : decode cX12_rides 204 = .ok (.dup2, 1) := by decide +kernel
theorem dX12_rides_205 : decode cX12_rides 205 = .ok (.iaload, 1) := by decide +kernel
theorem dX12_rides_206 : decode cX12_rides 206 = .ok (.iload 4, 2) := by decide +kernel
theorem dX12_rides_208 : decode cX12_rides 208 = .ok (.iload 6, 2) := by decide +kernel
theorem dX12_rides_210 : decode cX12_rides 210 = .ok (.invokestatic 180, 3) := by decide +kernel
theorem dX12_rides_213 : decode cX12_rides 213 = .ok (.iadd, 1) := by decide +kernel
theorem dX12_rides_214 : decode cX12_rides 214 = .ok (.iastore, 1) := by decide +kernel
theorem dX12_rides_215 : decode cX12_rides 215 = .ok (.aload_n 0, 1) := by decide +kernel
theorem dX12_rides_216 : decode cX12_rides 216 = .ok (.iload_n 1, 1) := by decide +kernel
theorem dX12_rides_217 : decode cX12_rides 217 = .ok (.iload_n 3, 1) := by decide +kernel
theorem dX12_rides_218 : decode cX12_rides 218 = .ok (.iload 4, 2) := by decide +kernel
theorem dX12_rides_220 : decode cX12_rides 220 = .ok (.iload 6, 2) := by decide +kernel
theorem dX12_rides_222 : decode cX12_rides 222 = .ok (.invokestatic 206, 3) := by decide +kernel
theorem dX12_rides_225 : decode cX12_rides 225 = .ok (.invokevirtual 195, 3) := by decide +kernel
theorem dX12_rides_228 : decode cX12_rides 228 = .ok (.return_, 1) := by decide +kernel
theorem dX12_leads_0 : decode cX12_leads 0 = .ok (.iconst (-1), 1) := by decide +kernel
theorem dX12_leads_1 : decode cX12_leads 1 = .ok (.istore_n 3, 1) := by decide +kernel
theorem dX12_leads_2 : decode cX12_leads 2 = .ok (.aload_n 0, 1) := by decide +kernel
theorem dX12_leads_3 : decode cX12_leads 3 = .ok (.getfield 7, 3) := by decide +kernel
theorem dX12_leads_6 : decode cX12_leads 6 = .ok (.iload_n 1, 1) := by decide +kernel
theorem dX12_leads_7 : decode cX12_leads 7 = .ok (.iconst 0, 1) := by decide +kernel
theorem dX12_leads_8 : decode cX12_leads 8 = .ok (.iadd, 1) := by decide +kernel
theorem dX12_leads_9 : decode cX12_leads 9 = .ok (.iaload, 1) := by decide +kernel
theorem dX12_leads_10 : decode cX12_leads 10 = .ok (.iconst 1, 1) := by decide +kernel
theorem dX12_leads_11 : decode cX12_leads 11 = .ok (.isub, 1) := by decide +kernel
theorem dX12_leads_12 : decode cX12_leads 12 = .ok (.istore 4, 2) := by decide +kernel
theorem dX12_leads_14 : decode cX12_leads 14 = .ok (.iload 4, 2) := by decide +kernel
theorem dX12_leads_16 : decode cX12_leads 16 = .ok (.ifCond .lt 92, 3) := by decide +kernel
theorem dX12_leads_19 : decode cX12_leads 19 = .ok (.aload_n 0, 1) := by decide +kernel
theorem dX12_leads_20 : decode cX12_leads 20 = .ok (.getfield 7, 3) := by decide +kernel
theorem dX12_leads_23 : decode cX12_leads 23 = .ok (.iload_n 1, 1) := by decide +kernel
theorem dX12_leads_24 : decode cX12_leads 24 = .ok (.bipush 19, 2) := by decide +kernel
theorem dX12_leads_26 : decode cX12_leads 26 = .ok (.iadd, 1) := by decide +kernel
theorem dX12_leads_27 : decode cX12_leads 27 = .ok (.iload 4, 2) := by decide +kernel
theorem dX12_leads_29 : decode cX12_leads 29 = .ok (.iadd, 1) := by decide +kernel
theorem dX12_leads_30 : decode cX12_leads 30 = .ok (.iaload, 1) := by decide +kernel
theorem dX12_leads_31 : decode cX12_leads 31 = .ok (.iload_n 2, 1) := by decide +kernel
theorem dX12_leads_32 : decode cX12_leads 32 = .ok (.if_icmp .ne 55, 3) := by decide +kernel
theorem dX12_leads_35 : decode cX12_leads 35 = .ok (.aload_n 0, 1) := by decide +kernel
theorem dX12_leads_36 : decode cX12_leads 36 = .ok (.getfield 7, 3) := by decide +kernel
theorem dX12_leads_39 : decode cX12_leads 39 = .ok (.iload_n 1, 1) := by decide +kernel
theorem dX12_leads_40 : decode cX12_leads 40 = .ok (.bipush 11, 2) := by decide +kernel
theorem dX12_leads_42 : decode cX12_leads 42 = .ok (.iadd, 1) := by decide +kernel
theorem dX12_leads_43 : decode cX12_leads 43 = .ok (.iload 4, 2) := by decide +kernel
theorem dX12_leads_45 : decode cX12_leads 45 = .ok (.iadd, 1) := by decide +kernel
theorem dX12_leads_46 : decode cX12_leads 46 = .ok (.iaload, 1) := by decide +kernel
theorem dX12_leads_47 : decode cX12_leads 47 = .ok (.iload_n 2, 1) := by decide +kernel
theorem dX12_leads_48 : decode cX12_leads 48 = .ok (.if_icmp .eq 39, 3) := by decide +kernel
theorem dX12_leads_51 : decode cX12_leads 51 = .ok (.aload_n 0, 1) := by decide +kernel
theorem dX12_leads_52 : decode cX12_leads 52 = .ok (.getfield 7, 3) := by decide +kernel
theorem dX12_leads_55 : decode cX12_leads 55 = .ok (.iload_n 1, 1) := by decide +kernel
theorem dX12_leads_56 : decode cX12_leads 56 = .ok (.bipush 35, 2) := by decide +kernel
theorem dX12_leads_58 : decode cX12_leads 58 = .ok (.iadd, 1) := by decide +kernel
theorem dX12_leads_59 : decode cX12_leads 59 = .ok (.iload 4, 2) := by decide +kernel
theorem dX12_leads_61 : decode cX12_leads 61 = .ok (.iadd, 1) := by decide +kernel
theorem dX12_leads_62 : decode cX12_leads 62 = .ok (.iaload, 1) := by decide +kernel
theorem dX12_leads_63 : decode cX12_leads 63 = .ok (.ifCond .ne 24, 3) := by decide +kernel
theorem dX12_leads_66 : decode cX12_leads 66 = .ok (.aload_n 0, 1) := by decide +kernel
theorem dX12_leads_67 : decode cX12_leads 67 = .ok (.getfield 185, 3) := by decide +kernel
theorem dX12_leads_70 : decode cX12_leads 70 = .ok (.aload_n 0, 1) := by decide +kernel
theorem dX12_leads_71 : decode cX12_leads 71 = .ok (.getfield 209, 3) := by decide +kernel
theorem dX12_leads_74 : decode cX12_leads 74 = .ok (.ior, 1) := by decide +kernel
theorem dX12_leads_75 : decode cX12_leads 75 = .ok (.iload 4, 2) := by decide +kernel
theorem dX12_leads_77 : decode cX12_leads 77 = .ok (.invokestatic 188, 3) := by decide +kernel
theorem dX12_leads_80 : decode cX12_leads 80 = .ok (.ifCond .ne 7, 3) := by decide +kernel
theorem dX12_leads_83 : decode cX12_leads 83 = .ok (.iconst 1, 1) := by decide +kernel
theorem dX12_leads_84 : decode cX12_leads 84 = .ok (.goto 4, 3) := by decide +kernel
theorem dX12_leads_87 : decode cX12_leads 87 = .ok (.iconst 0, 1) := by decide +kernel
theorem dX12_leads_88 : decode cX12_leads 88 = .ok (.istore 5, 2) := by decide +kernel
theorem dX12_leads_90 : decode cX12_leads 90 = .ok (.iload 5, 2) := by decide +kernel
theorem dX12_leads_92 : decode cX12_leads 92 = .ok (.ifCond .eq 8, 3) := by decide +kernel
theorem dX12_leads_95 : decode cX12_leads 95 = .ok (.iload 4, 2) := by decide +kernel
theorem dX12_leads_97 : decode cX12_leads 97 = .ok (.goto 4, 3) := by decide +kernel
theorem dX12_leads_100 : decode cX12_leads 100 = .ok (.iload_n 3, 1) := by decide +kernel
theorem dX12_leads_101 : decode cX12_leads 101 = .ok (.istore_n 3, 1) := by decide +kernel
theorem dX12_leads_102 : decode cX12_leads 102 = .ok (.iinc 4 (-1), 3) := by decide +kernel
theorem dX12_leads_105 : decode cX12_leads 105 = .ok (.goto (-91), 3) := by decide +kernel
theorem dX12_leads_108 : decode cX12_leads 108 = .ok (.iload_n 3, 1) := by decide +kernel
theorem dX12_leads_109 : decode cX12_leads 109 = .ok (.iconst (-1), 1) := by decide +kernel
theorem dX12_leads_110 : decode cX12_leads 110 = .ok (.if_icmp .eq 41, 3) := by decide +kernel
theorem dX12_leads_113 : decode cX12_leads 113 = .ok (.aload_n 0, 1) := by decide +kernel
theorem dX12_leads_114 : decode cX12_leads 114 = .ok (.dup, 1) := by decide +kernel
theorem dX12_leads_115 : decode cX12_leads 115 = .ok (.getfield 209, 3) := by decide +kernel
theorem dX12_leads_118 : decode cX12_leads 118 = .ok (.iconst 1, 1) := by decide +kernel
theorem dX12_leads_119 : decode cX12_leads 119 = .ok (.iload_n 3, 1) := by decide +kernel
theorem dX12_leads_120 : decode cX12_leads 120 = .ok (.ishl, 1) := by decide +kernel
theorem dX12_leads_121 : decode cX12_leads 121 = .ok (.ior, 1) := by decide +kernel
theorem dX12_leads_122 : decode cX12_leads 122 = .ok (.putfield 209, 3) := by decide +kernel
theorem dX12_leads_125 : decode cX12_leads 125 = .ok (.aload_n 0, 1) := by decide +kernel
theorem dX12_leads_126 : decode cX12_leads 126 = .ok (.getfield 7, 3) := by decide +kernel
theorem dX12_leads_129 : decode cX12_leads 129 = .ok (.iload_n 1, 1) := by decide +kernel
theorem dX12_leads_130 : decode cX12_leads 130 = .ok (.bipush 19, 2) := by decide +kernel
theorem dX12_leads_132 : decode cX12_leads 132 = .ok (.iadd, 1) := by decide +kernel
theorem dX12_leads_133 : decode cX12_leads 133 = .ok (.iload_n 3, 1) := by decide +kernel
theorem dX12_leads_134 : decode cX12_leads 134 = .ok (.iadd, 1) := by decide +kernel
theorem dX12_leads_135 : decode cX12_leads 135 = .ok (.iload_n 2, 1) := by decide +kernel
theorem dX12_leads_136 : decode cX12_leads 136 = .ok (.aload_n 0, 1) := by decide +kernel
theorem dX12_leads_137 : decode cX12_leads 137 = .ok (.getfield 7, 3) := by decide +kernel
theorem dX12_leads_140 : decode cX12_leads 140 = .ok (.iload_n 1, 1) := by decide +kernel
theorem dX12_leads_141 : decode cX12_leads 141 = .ok (.bipush 11, 2) := by decide +kernel
theorem dX12_leads_143 : decode cX12_leads 143 = .ok (.iadd, 1) := by decide +kernel
theorem dX12_leads_144 : decode cX12_leads 144 = .ok (.iload_n 3, 1) := by decide +kernel
theorem dX12_leads_145 : decode cX12_leads 145 = .ok (.iadd, 1) := by decide +kernel
theorem dX12_leads_146 : decode cX12_leads 146 = .ok (.iaload, 1) := by decide +kernel
theorem dX12_leads_147 : decode cX12_leads 147 = .ok (.invokestatic 203, 3) := by decide +kernel
theorem dX12_leads_150 : decode cX12_leads 150 = .ok (.iastore, 1) := by decide +kernel
theorem dX12_leads_151 : decode cX12_leads 151 = .ok (.return_, 1) := by decide +kernel
theorem dX12_restAll_0 : decode cX12_restAll 0 = .ok (.iconst 0, 1) := by decide +kernel
theorem dX12_restAll_1 : decode cX12_restAll 1 = .ok (.istore_n 2, 1) := by decide +kernel
theorem dX12_restAll_2 : decode cX12_restAll 2 = .ok (.iload_n 2, 1) := by decide +kernel
theorem dX12_restAll_3 : decode cX12_restAll 3 = .ok (.aload_n 0, 1) := by decide +kernel
theorem dX12_restAll_4 : decode cX12_restAll 4 = .ok (.getfield 7, 3) := by decide +kernel
theorem dX12_restAll_7 : decode cX12_restAll 7 = .ok (.iload_n 1, 1) := by decide +kernel
theorem dX12_restAll_8 : decode cX12_restAll 8 = .ok (.iconst 0, 1) := by decide +kernel
theorem dX12_restAll_9 : decode cX12_restAll 9 = .ok (.iadd, 1) := by decide +kernel
theorem dX12_restAll_10 : decode cX12_restAll 10 = .ok (.iaload, 1) := by decide +kernel
theorem dX12_restAll_11 : decode cX12_restAll 11 = .ok (.if_icmp .ge 115, 3) := by decide +kernel
theorem dX12_restAll_14 : decode cX12_restAll 14 = .ok (.aload_n 0, 1) := by decide +kernel
theorem dX12_restAll_15 : decode cX12_restAll 15 = .ok (.getfield 185, 3) := by decide +kernel
theorem dX12_restAll_18 : decode cX12_restAll 18 = .ok (.iload_n 2, 1) := by decide +kernel
theorem dX12_restAll_19 : decode cX12_restAll 19 = .ok (.invokestatic 188, 3) := by decide +kernel
theorem dX12_restAll_22 : decode cX12_restAll 22 = .ok (.ifCond .ne 98, 3) := by decide +kernel
theorem dX12_restAll_25 : decode cX12_restAll 25 = .ok (.aload_n 0, 1) := by decide +kernel
theorem dX12_restAll_26 : decode cX12_restAll 26 = .ok (.getfield 7, 3) := by decide +kernel
theorem dX12_restAll_29 : decode cX12_restAll 29 = .ok (.iload_n 1, 1) := by decide +kernel
theorem dX12_restAll_30 : decode cX12_restAll 30 = .ok (.bipush 27, 2) := by decide +kernel
theorem dX12_restAll_32 : decode cX12_restAll 32 = .ok (.iadd, 1) := by decide +kernel
theorem dX12_restAll_33 : decode cX12_restAll 33 = .ok (.iload_n 2, 1) := by decide +kernel
theorem dX12_restAll_34 : decode cX12_restAll 34 = .ok (.iadd, 1) := by decide +kernel
theorem dX12_restAll_35 : decode cX12_restAll 35 = .ok (.iaload, 1) := by decide +kernel
theorem dX12_restAll_36 : decode cX12_restAll 36 = .ok (.aload_n 0, 1) := by decide +kernel
theorem dX12_restAll_37 : decode cX12_restAll 37 = .ok (.getfield 7, 3) := by decide +kernel
theorem dX12_restAll_40 : decode cX12_restAll 40 = .ok (.iload_n 1, 1) := by decide +kernel
theorem dX12_restAll_41 : decode cX12_restAll 41 = .ok (.bipush 35, 2) := by decide +kernel
theorem dX12_restAll_43 : decode cX12_restAll 43 = .ok (.iadd, 1) := by decide +kernel
theorem dX12_restAll_44 : decode cX12_restAll 44 = .ok (.iload_n 2, 1) := by decide +kernel
theorem dX12_restAll_45 : decode cX12_restAll 45 = .ok (.iadd, 1) := by decide +kernel
theorem dX12_restAll_46 : decode cX12_restAll 46 = .ok (.iaload, 1) := by decide +kernel
theorem dX12_restAll_47 : decode cX12_restAll 47 = .ok (.iconst 1, 1) := by decide +kernel
theorem dX12_restAll_48 : decode cX12_restAll 48 = .ok (.if_icmp .ne 7, 3) := by decide +kernel
theorem dX12_restAll_51 : decode cX12_restAll 51 = .ok (.iconst 1, 1) := by decide +kernel
theorem dX12_restAll_52 : decode cX12_restAll 52 = .ok (.goto 16, 3) := by decide +kernel
theorem dX12_restAll_55 : decode cX12_restAll 55 = .ok (.aload_n 0, 1) := by decide +kernel
theorem dX12_restAll_56 : decode cX12_restAll 56 = .ok (.getfield 7, 3) := by decide +kernel
theorem dX12_restAll_59 : decode cX12_restAll 59 = .ok (.iload_n 1, 1) := by decide +kernel
theorem dX12_restAll_60 : decode cX12_restAll 60 = .ok (.iconst 3, 1) := by decide +kernel
theorem dX12_restAll_61 : decode cX12_restAll 61 = .ok (.iadd, 1) := by decide +kernel
theorem dX12_restAll_62 : decode cX12_restAll 62 = .ok (.iload_n 2, 1) := by decide +kernel
theorem dX12_restAll_63 : decode cX12_restAll 63 = .ok (.iadd, 1) := by decide +kernel
theorem dX12_restAll_64 : decode cX12_restAll 64 = .ok (.iaload, 1) := by decide +kernel
theorem dX12_restAll_65 : decode cX12_restAll 65 = .ok (.invokestatic 212, 3) := by decide +kernel
theorem dX12_restAll_68 : decode cX12_restAll 68 = .ok (.isub, 1) := by decide +kernel
theorem dX12_restAll_69 : decode cX12_restAll 69 = .ok (.istore_n 3, 1) := by decide +kernel
theorem dX12_restAll_70 : decode cX12_restAll 70 = .ok (.aload_n 0, 1) := by decide +kernel
theorem dX12_restAll_71 : decode cX12_restAll 71 = .ok (.getfield 7, 3) := by decide +kernel
theorem dX12_restAll_74 : decode cX12_restAll 74 = .ok (.iload_n 1, 1) := by decide +kernel
theorem dX12_restAll_75 : decode cX12_restAll 75 = .ok (.bipush 27, 2) := by decide +kernel
theorem dX12_restAll_77 : decode cX12_restAll 77 = .ok (.iadd, 1) := by decide +kernel
theorem dX12_restAll_78 : decode cX12_restAll 78 = .ok (.iload_n 2, 1) := by decide +kernel
theorem dX12_restAll_79 : decode cX12_restAll 79 = .ok (.iadd, 1) := by decide +kernel
theorem dX12_restAll_80 : decode cX12_restAll 80 = .ok (.iload_n 3, 1) := by decide +kernel
theorem dX12_restAll_81 : decode cX12_restAll 81 = .ok (.ifCond .ge 7, 3) := by decide +kernel
theorem dX12_restAll_84 : decode cX12_restAll 84 = .ok (.iconst 0, 1) := by decide +kernel
theorem dX12_restAll_85 : decode cX12_restAll 85 = .ok (.goto 4, 3) := by decide +kernel
theorem dX12_restAll_88 : decode cX12_restAll 88 = .ok (.iload_n 3, 1) := by decide +kernel
theorem dX12_restAll_89 : decode cX12_restAll 89 = .ok (.iastore, 1) := by decide +kernel
theorem dX12_restAll_90 : decode cX12_restAll 90 = .ok (.aload_n 0, 1) := by decide +kernel
theorem dX12_restAll_91 : decode cX12_restAll 91 = .ok (.getfield 7, 3) := by decide +kernel
theorem dX12_restAll_94 : decode cX12_restAll 94 = .ok (.iload_n 1, 1) := by decide +kernel
theorem dX12_restAll_95 : decode cX12_restAll 95 = .ok (.bipush 35, 2) := by decide +kernel
theorem dX12_restAll_97 : decode cX12_restAll 97 = .ok (.iadd, 1) := by decide +kernel
theorem dX12_restAll_98 : decode cX12_restAll 98 = .ok (.iload_n 2, 1) := by decide +kernel
theorem dX12_restAll_99 : decode cX12_restAll 99 = .ok (.iadd, 1) := by decide +kernel
theorem dX12_restAll_100 : decode cX12_restAll 100 = .ok (.iload_n 3, 1) := by decide +kernel
theorem dX12_restAll_101 : decode cX12_restAll 101 = .ok (.ifCond .le 17, 3) := by decide +kernel
theorem dX12_restAll_104 : decode cX12_restAll 104 = .ok (.aload_n 0, 1) := by decide +kernel
theorem dX12_restAll_105 : decode cX12_restAll 105 = .ok (.getfield 7, 3) := by decide +kernel
theorem dX12_restAll_108 : decode cX12_restAll 108 = .ok (.iload_n 1, 1) := by decide +kernel
theorem dX12_restAll_109 : decode cX12_restAll 109 = .ok (.bipush 35, 2) := by decide +kernel
theorem dX12_restAll_111 : decode cX12_restAll 111 = .ok (.iadd, 1) := by decide +kernel
theorem dX12_restAll_112 : decode cX12_restAll 112 = .ok (.iload_n 2, 1) := by decide +kernel
theorem dX12_restAll_113 : decode cX12_restAll 113 = .ok (.iadd, 1) := by decide +kernel
theorem dX12_restAll_114 : decode cX12_restAll 114 = .ok (.iaload, 1) := by decide +kernel
theorem dX12_restAll_115 : decode cX12_restAll 115 = .ok (.goto 4, 3) := by decide +kernel
theorem dX12_restAll_118 : decode cX12_restAll 118 = .ok (.iconst 0, 1) := by decide +kernel
theorem dX12_restAll_119 : decode cX12_restAll 119 = .ok (.iastore, 1) := by decide +kernel
theorem dX12_restAll_120 : decode cX12_restAll 120 = .ok (.iinc 2 1, 3) := by decide +kernel
theorem dX12_restAll_123 : decode cX12_restAll 123 = .ok (.goto (-121), 3) := by decide +kernel
theorem dX12_restAll_126 : decode cX12_restAll 126 = .ok (.return_, 1) := by decide +kernel
theorem dX12_passes_0 : decode cX12_passes 0 = .ok (.aload_n 0, 1) := by decide +kernel
theorem dX12_passes_1 : decode cX12_passes 1 = .ok (.iconst 0, 1) := by decide +kernel
theorem dX12_passes_2 : decode cX12_passes 2 = .ok (.putfield 185, 3) := by decide +kernel
theorem dX12_passes_5 : decode cX12_passes 5 = .ok (.aload_n 0, 1) := by decide +kernel
theorem dX12_passes_6 : decode cX12_passes 6 = .ok (.iconst 0, 1) := by decide +kernel
theorem dX12_passes_7 : decode cX12_passes 7 = .ok (.putfield 209, 3) := by decide +kernel
theorem dX12_passes_10 : decode cX12_passes 10 = .ok (.iconst 0, 1) := by decide +kernel
theorem dX12_passes_11 : decode cX12_passes 11 = .ok (.istore_n 2, 1) := by decide +kernel
theorem dX12_passes_12 : decode cX12_passes 12 = .ok (.iload_n 2, 1) := by decide +kernel
theorem dX12_passes_13 : decode cX12_passes 13 = .ok (.aload_n 0, 1) := by decide +kernel
theorem dX12_passes_14 : decode cX12_passes 14 = .ok (.getfield 7, 3) := by decide +kernel
theorem dX12_passes_17 : decode cX12_passes 17 = .ok (.iload_n 1, 1) := by decide +kernel
theorem dX12_passes_18 : decode cX12_passes 18 = .ok (.iconst 1, 1) := by decide +kernel
theorem dX12_passes_19 : decode cX12_passes 19 = .ok (.iadd, 1) := by decide +kernel
theorem dX12_passes_20 : decode cX12_passes 20 = .ok (.iaload, 1) := by decide +kernel
theorem dX12_passes_21 : decode cX12_passes 21 = .ok (.if_icmp .ge 40, 3) := by decide +kernel
theorem dX12_passes_24 : decode cX12_passes 24 = .ok (.aload_n 0, 1) := by decide +kernel
theorem dX12_passes_25 : decode cX12_passes 25 = .ok (.getfield 7, 3) := by decide +kernel
theorem dX12_passes_28 : decode cX12_passes 28 = .ok (.iload_n 1, 1) := by decide +kernel
theorem dX12_passes_29 : decode cX12_passes 29 = .ok (.bipush 51, 2) := by decide +kernel
theorem dX12_passes_31 : decode cX12_passes 31 = .ok (.iadd, 1) := by decide +kernel
theorem dX12_passes_32 : decode cX12_passes 32 = .ok (.iload_n 2, 1) := by decide +kernel
theorem dX12_passes_33 : decode cX12_passes 33 = .ok (.iadd, 1) := by decide +kernel
theorem dX12_passes_34 : decode cX12_passes 34 = .ok (.iaload, 1) := by decide +kernel
theorem dX12_passes_35 : decode cX12_passes 35 = .ok (.aload_n 0, 1) := by decide +kernel
theorem dX12_passes_36 : decode cX12_passes 36 = .ok (.getfield 7, 3) := by decide +kernel
theorem dX12_passes_39 : decode cX12_passes 39 = .ok (.iload_n 1, 1) := by decide +kernel
theorem dX12_passes_40 : decode cX12_passes 40 = .ok (.bipush 55, 2) := by decide +kernel
theorem dX12_passes_42 : decode cX12_passes 42 = .ok (.iadd, 1) := by decide +kernel
theorem dX12_passes_43 : decode cX12_passes 43 = .ok (.iload_n 2, 1) := by decide +kernel
theorem dX12_passes_44 : decode cX12_passes 44 = .ok (.iadd, 1) := by decide +kernel
theorem dX12_passes_45 : decode cX12_passes 45 = .ok (.iaload, 1) := by decide +kernel
theorem dX12_passes_46 : decode cX12_passes 46 = .ok (.if_icmp .eq 9, 3) := by decide +kernel
theorem dX12_passes_49 : decode cX12_passes 49 = .ok (.aload_n 0, 1) := by decide +kernel
theorem dX12_passes_50 : decode cX12_passes 50 = .ok (.iload_n 1, 1) := by decide +kernel
theorem dX12_passes_51 : decode cX12_passes 51 = .ok (.iload_n 2, 1) := by decide +kernel
theorem dX12_passes_52 : decode cX12_passes 52 = .ok (.invokevirtual 216, 3) := by decide +kernel
theorem dX12_passes_55 : decode cX12_passes 55 = .ok (.iinc 2 1, 3) := by decide +kernel
theorem dX12_passes_58 : decode cX12_passes 58 = .ok (.goto (-46), 3) := by decide +kernel
theorem dX12_passes_61 : decode cX12_passes 61 = .ok (.iconst 0, 1) := by decide +kernel
theorem dX12_passes_62 : decode cX12_passes 62 = .ok (.istore_n 2, 1) := by decide +kernel
theorem dX12_passes_63 : decode cX12_passes 63 = .ok (.iload_n 2, 1) := by decide +kernel
theorem dX12_passes_64 : decode cX12_passes 64 = .ok (.aload_n 0, 1) := by decide +kernel
theorem dX12_passes_65 : decode cX12_passes 65 = .ok (.getfield 7, 3) := by decide +kernel
theorem dX12_passes_68 : decode cX12_passes 68 = .ok (.iload_n 1, 1) := by decide +kernel
theorem dX12_passes_69 : decode cX12_passes 69 = .ok (.bipush 63, 2) := by decide +kernel
theorem dX12_passes_71 : decode cX12_passes 71 = .ok (.iadd, 1) := by decide +kernel
theorem dX12_passes_72 : decode cX12_passes 72 = .ok (.iaload, 1) := by decide +kernel
theorem dX12_passes_73 : decode cX12_passes 73 = .ok (.if_icmp .ge 15, 3) := by decide +kernel
theorem dX12_passes_76 : decode cX12_passes 76 = .ok (.aload_n 0, 1) := by decide +kernel
theorem dX12_passes_77 : decode cX12_passes 77 = .ok (.iload_n 1, 1) := by decide +kernel
theorem dX12_passes_78 : decode cX12_passes 78 = .ok (.iload_n 2, 1) := by decide +kernel
theorem dX12_passes_79 : decode cX12_passes 79 = .ok (.invokevirtual 219, 3) := by decide +kernel
theorem dX12_passes_82 : decode cX12_passes 82 = .ok (.iinc 2 1, 3) := by decide +kernel
theorem dX12_passes_85 : decode cX12_passes 85 = .ok (.goto (-22), 3) := by decide +kernel
theorem dX12_passes_88 : decode cX12_passes 88 = .ok (.aload_n 0, 1) := by decide +kernel
theorem dX12_passes_89 : decode cX12_passes 89 = .ok (.iload_n 1, 1) := by decide +kernel
theorem dX12_passes_90 : decode cX12_passes 90 = .ok (.invokevirtual 222, 3) := by decide +kernel
theorem dX12_passes_93 : decode cX12_passes 93 = .ok (.aload_n 0, 1) := by decide +kernel
theorem dX12_passes_94 : decode cX12_passes 94 = .ok (.getfield 7, 3) := by decide +kernel
theorem dX12_passes_97 : decode cX12_passes 97 = .ok (.iload_n 1, 1) := by decide +kernel
theorem dX12_passes_98 : decode cX12_passes 98 = .ok (.iconst 2, 1) := by decide +kernel
theorem dX12_passes_99 : decode cX12_passes 99 = .ok (.iadd, 1) := by decide +kernel
theorem dX12_passes_100 : decode cX12_passes 100 = .ok (.dup2, 1) := by decide +kernel
theorem dX12_passes_101 : decode cX12_passes 101 = .ok (.iaload, 1) := by decide +kernel
theorem dX12_passes_102 : decode cX12_passes 102 = .ok (.iconst 1, 1) := by decide +kernel
theorem dX12_passes_103 : decode cX12_passes 103 = .ok (.iadd, 1) := by decide +kernel
theorem dX12_passes_104 : decode cX12_passes 104 = .ok (.iastore, 1) := by decide +kernel
theorem dX12_passes_105 : decode cX12_passes 105 = .ok (.return_, 1) := by decide +kernel
theorem dX12_keepPast_0 : decode cX12_keepPast 0 = .ok (.aload_n 0, 1) := by decide +kernel
theorem dX12_keepPast_1 : decode cX12_keepPast 1 = .ok (.getfield 163, 3) := by decide +kernel
theorem dX12_keepPast_4 : decode cX12_keepPast 4 = .ok (.bipush 8, 2) := by decide +kernel
theorem dX12_keepPast_6 : decode cX12_keepPast 6 = .ok (.if_icmp .ne 48, 3) := by decide +kernel
theorem dX12_keepPast_9 : decode cX12_keepPast 9 = .ok (.iconst 0, 1) := by decide +kernel
theorem dX12_keepPast_10 : decode cX12_keepPast 10 = .ok (.istore_n 1, 1) := by decide +kernel
theorem dX12_keepPast_11 : decode cX12_keepPast 11 = .ok (.iload_n 1, 1) := by decide +kernel
theorem dX12_keepPast_12 : decode cX12_keepPast 12 = .ok (.sipush 490, 3) := by decide +kernel
theorem dX12_keepPast_15 : decode cX12_keepPast 15 = .ok (.if_icmp .ge 29, 3) := by decide +kernel
theorem dX12_keepPast_18 : decode cX12_keepPast 18 = .ok (.aload_n 0, 1) := by decide +kernel
theorem dX12_keepPast_19 : decode cX12_keepPast 19 = .ok (.getfield 7, 3) := by decide +kernel
theorem dX12_keepPast_22 : decode cX12_keepPast 22 = .ok (.sipush 140, 3) := by decide +kernel
theorem dX12_keepPast_25 : decode cX12_keepPast 25 = .ok (.iload_n 1, 1) := by decide +kernel
theorem dX12_keepPast_26 : decode cX12_keepPast 26 = .ok (.iadd, 1) := by decide +kernel
theorem dX12_keepPast_27 : decode cX12_keepPast 27 = .ok (.aload_n 0, 1) := by decide +kernel
theorem dX12_keepPast_28 : decode cX12_keepPast 28 = .ok (.getfield 7, 3) := by decide +kernel
theorem dX12_keepPast_31 : decode cX12_keepPast 31 = .ok (.sipush 210, 3) := by decide +kernel
theorem dX12_keepPast_34 : decode cX12_keepPast 34 = .ok (.iload_n 1, 1) := by decide +kernel
theorem dX12_keepPast_35 : decode cX12_keepPast 35 = .ok (.iadd, 1) := by decide +kernel
theorem dX12_keepPast_36 : decode cX12_keepPast 36 = .ok (.iaload, 1) := by decide +kernel
theorem dX12_keepPast_37 : decode cX12_keepPast 37 = .ok (.iastore, 1) := by decide +kernel
theorem dX12_keepPast_38 : decode cX12_keepPast 38 = .ok (.iinc 1 1, 3) := by decide +kernel
theorem dX12_keepPast_41 : decode cX12_keepPast 41 = .ok (.goto (-30), 3) := by decide +kernel
theorem dX12_keepPast_44 : decode cX12_keepPast 44 = .ok (.aload_n 0, 1) := by decide +kernel
theorem dX12_keepPast_45 : decode cX12_keepPast 45 = .ok (.dup, 1) := by decide +kernel
theorem dX12_keepPast_46 : decode cX12_keepPast 46 = .ok (.getfield 163, 3) := by decide +kernel
theorem dX12_keepPast_49 : decode cX12_keepPast 49 = .ok (.iconst 1, 1) := by decide +kernel
theorem dX12_keepPast_50 : decode cX12_keepPast 50 = .ok (.isub, 1) := by decide +kernel
theorem dX12_keepPast_51 : decode cX12_keepPast 51 = .ok (.putfield 163, 3) := by decide +kernel
theorem dX12_keepPast_54 : decode cX12_keepPast 54 = .ok (.aload_n 0, 1) := by decide +kernel
theorem dX12_keepPast_55 : decode cX12_keepPast 55 = .ok (.iconst 0, 1) := by decide +kernel
theorem dX12_keepPast_56 : decode cX12_keepPast 56 = .ok (.sipush 140, 3) := by decide +kernel
theorem dX12_keepPast_59 : decode cX12_keepPast 59 = .ok (.bipush 70, 2) := by decide +kernel
theorem dX12_keepPast_61 : decode cX12_keepPast 61 = .ok (.aload_n 0, 1) := by decide +kernel
theorem dX12_keepPast_62 : decode cX12_keepPast 62 = .ok (.getfield 163, 3) := by decide +kernel
theorem dX12_keepPast_65 : decode cX12_keepPast 65 = .ok (.imul, 1) := by decide +kernel
theorem dX12_keepPast_66 : decode cX12_keepPast 66 = .ok (.iadd, 1) := by decide +kernel
theorem dX12_keepPast_67 : decode cX12_keepPast 67 = .ok (.invokevirtual 159, 3) := by decide +kernel
theorem dX12_keepPast_70 : decode cX12_keepPast 70 = .ok (.aload_n 0, 1) := by decide +kernel
theorem dX12_keepPast_71 : decode cX12_keepPast 71 = .ok (.dup, 1) := by decide +kernel
theorem dX12_keepPast_72 : decode cX12_keepPast 72 = .ok (.getfield 163, 3) := by decide +kernel
theorem dX12_keepPast_75 : decode cX12_keepPast 75 = .ok (.iconst 1, 1) := by decide +kernel
theorem dX12_keepPast_76 : decode cX12_keepPast 76 = .ok (.iadd, 1) := by decide +kernel
theorem dX12_keepPast_77 : decode cX12_keepPast 77 = .ok (.putfield 163, 3) := by decide +kernel
theorem dX12_keepPast_80 : decode cX12_keepPast 80 = .ok (.return_, 1) := by decide +kernel
theorem dX12_stage_0 : decode cX12_stage 0 = .ok (.iload_n 1, 1) := by decide +kernel
theorem dX12_stage_1 : decode cX12_stage 1 = .ok (.i2l, 1) := by decide +kernel
theorem dX12_stage_2 : decode cX12_stage 2 = .ok (.lconst 1, 1) := by decide +kernel
theorem dX12_stage_3 : decode cX12_stage 3 = .ok (.ldc2_w 226, 3) := by decide +kernel
theorem dX12_stage_6 : decode cX12_stage 6 = .ok (.invokestatic 79, 3) := by decide +kernel
theorem dX12_stage_9 : decode cX12_stage 9 = .ok (.ifCond .ne 6, 3) := by decide +kernel
theorem dX12_stage_12 : decode cX12_stage 12 = .ok (.bipush (-3), 2) := by decide +kernel
theorem dX12_stage_14 : decode cX12_stage 14 = .ok (.ireturn, 1) := by decide +kernel
theorem dX12_stage_15 : decode cX12_stage 15 = .ok (.aload_n 0, 1) := by decide +kernel
theorem dX12_stage_16 : decode cX12_stage 16 = .ok (.getfield 7, 3) := by decide +kernel
theorem dX12_stage_19 : decode cX12_stage 19 = .ok (.iconst 2, 1) := by decide +kernel
theorem dX12_stage_20 : decode cX12_stage 20 = .ok (.iaload, 1) := by decide +kernel
theorem dX12_stage_21 : decode cX12_stage 21 = .ok (.iload_n 1, 1) := by decide +kernel
theorem dX12_stage_22 : decode cX12_stage 22 = .ok (.iadd, 1) := by decide +kernel
theorem dX12_stage_23 : decode cX12_stage 23 = .ok (.sipush 999, 3) := by decide +kernel
theorem dX12_stage_26 : decode cX12_stage 26 = .ok (.if_icmp .le 6, 3) := by decide +kernel
theorem dX12_stage_29 : decode cX12_stage 29 = .ok (.bipush (-5), 2) := by decide +kernel
theorem dX12_stage_31 : decode cX12_stage 31 = .ok (.ireturn, 1) := by decide +kernel
theorem dX12_stage_32 : decode cX12_stage 32 = .ok (.aload_n 0, 1) := by decide +kernel
theorem dX12_stage_33 : decode cX12_stage 33 = .ok (.invokevirtual 228, 3) := by decide +kernel
theorem dX12_stage_36 : decode cX12_stage 36 = .ok (.iconst 0, 1) := by decide +kernel
theorem dX12_stage_37 : decode cX12_stage 37 = .ok (.istore_n 2, 1) := by decide +kernel
theorem dX12_stage_38 : decode cX12_stage 38 = .ok (.iload_n 2, 1) := by decide +kernel
theorem dX12_stage_39 : decode cX12_stage 39 = .ok (.iload_n 1, 1) := by decide +kernel
theorem dX12_stage_40 : decode cX12_stage 40 = .ok (.if_icmp .ge 14, 3) := by decide +kernel
theorem dX12_stage_43 : decode cX12_stage 43 = .ok (.aload_n 0, 1) := by decide +kernel
theorem dX12_stage_44 : decode cX12_stage 44 = .ok (.iconst 0, 1) := by decide +kernel
theorem dX12_stage_45 : decode cX12_stage 45 = .ok (.invokevirtual 231, 3) := by decide +kernel
theorem dX12_stage_48 : decode cX12_stage 48 = .ok (.iinc 2 1, 3) := by decide +kernel
theorem dX12_stage_51 : decode cX12_stage 51 = .ok (.goto (-13), 3) := by decide +kernel
theorem dX12_stage_54 : decode cX12_stage 54 = .ok (.aload_n 0, 1) := by decide +kernel
theorem dX12_stage_55 : decode cX12_stage 55 = .ok (.getfield 7, 3) := by decide +kernel
theorem dX12_stage_58 : decode cX12_stage 58 = .ok (.iconst 2, 1) := by decide +kernel
theorem dX12_stage_59 : decode cX12_stage 59 = .ok (.iaload, 1) := by decide +kernel
theorem dX12_stage_60 : decode cX12_stage 60 = .ok (.ireturn, 1) := by decide +kernel
theorem dX12_oat_0 : decode cX12_oat 0 = .ok (.aload_n 0, 1) := by decide +kernel
theorem dX12_oat_1 : decode cX12_oat 1 = .ok (.getfield 7, 3) := by decide +kernel
theorem dX12_oat_4 : decode cX12_oat 4 = .ok (.iload_n 1, 1) := by decide +kernel
theorem dX12_oat_5 : decode cX12_oat 5 = .ok (.bipush 27, 2) := by decide +kernel
theorem dX12_oat_7 : decode cX12_oat 7 = .ok (.iadd, 1) := by decide +kernel
theorem dX12_oat_8 : decode cX12_oat 8 = .ok (.iload_n 2, 1) := by decide +kernel
theorem dX12_oat_9 : decode cX12_oat 9 = .ok (.iadd, 1) := by decide +kernel
theorem dX12_oat_10 : decode cX12_oat 10 = .ok (.iaload, 1) := by decide +kernel
theorem dX12_oat_11 : decode cX12_oat 11 = .ok (.iconst 3, 1) := by decide +kernel
theorem dX12_oat_12 : decode cX12_oat 12 = .ok (.isub, 1) := by decide +kernel
theorem dX12_oat_13 : decode cX12_oat 13 = .ok (.istore_n 3, 1) := by decide +kernel
theorem dX12_oat_14 : decode cX12_oat 14 = .ok (.aload_n 0, 1) := by decide +kernel
theorem dX12_oat_15 : decode cX12_oat 15 = .ok (.getfield 7, 3) := by decide +kernel
theorem dX12_oat_18 : decode cX12_oat 18 = .ok (.iload_n 1, 1) := by decide +kernel
theorem dX12_oat_19 : decode cX12_oat 19 = .ok (.bipush 27, 2) := by decide +kernel
theorem dX12_oat_21 : decode cX12_oat 21 = .ok (.iadd, 1) := by decide +kernel
theorem dX12_oat_22 : decode cX12_oat 22 = .ok (.iload_n 2, 1) := by decide +kernel
theorem dX12_oat_23 : decode cX12_oat 23 = .ok (.iadd, 1) := by decide +kernel
theorem dX12_oat_24 : decode cX12_oat 24 = .ok (.iload_n 3, 1) := by decide +kernel
theorem dX12_oat_25 : decode cX12_oat 25 = .ok (.ifCond .ge 7, 3) := by decide +kernel
theorem dX12_oat_28 : decode cX12_oat 28 = .ok (.iconst 0, 1) := by decide +kernel
theorem dX12_oat_29 : decode cX12_oat 29 = .ok (.goto 4, 3) := by decide +kernel
theorem dX12_oat_32 : decode cX12_oat 32 = .ok (.iload_n 3, 1) := by decide +kernel
theorem dX12_oat_33 : decode cX12_oat 33 = .ok (.iastore, 1) := by decide +kernel
theorem dX12_oat_34 : decode cX12_oat 34 = .ok (.aload_n 0, 1) := by decide +kernel
theorem dX12_oat_35 : decode cX12_oat 35 = .ok (.getfield 7, 3) := by decide +kernel
theorem dX12_oat_38 : decode cX12_oat 38 = .ok (.iload_n 1, 1) := by decide +kernel
theorem dX12_oat_39 : decode cX12_oat 39 = .ok (.bipush 35, 2) := by decide +kernel
theorem dX12_oat_41 : decode cX12_oat 41 = .ok (.iadd, 1) := by decide +kernel
theorem dX12_oat_42 : decode cX12_oat 42 = .ok (.iload_n 2, 1) := by decide +kernel
theorem dX12_oat_43 : decode cX12_oat 43 = .ok (.iadd, 1) := by decide +kernel
theorem dX12_oat_44 : decode cX12_oat 44 = .ok (.iload_n 3, 1) := by decide +kernel
theorem dX12_oat_45 : decode cX12_oat 45 = .ok (.ifCond .le 17, 3) := by decide +kernel
theorem dX12_oat_48 : decode cX12_oat 48 = .ok (.aload_n 0, 1) := by decide +kernel
theorem dX12_oat_49 : decode cX12_oat 49 = .ok (.getfield 7, 3) := by decide +kernel
theorem dX12_oat_52 : decode cX12_oat 52 = .ok (.iload_n 1, 1) := by decide +kernel
theorem dX12_oat_53 : decode cX12_oat 53 = .ok (.bipush 35, 2) := by decide +kernel
theorem dX12_oat_55 : decode cX12_oat 55 = .ok (.iadd, 1) := by decide +kernel
theorem dX12_oat_56 : decode cX12_oat 56 = .ok (.iload_n 2, 1) := by decide +kernel
theorem dX12_oat_57 : decode cX12_oat 57 = .ok (.iadd, 1) := by decide +kernel
theorem dX12_oat_58 : decode cX12_oat 58 = .ok (.iaload, 1) := by decide +kernel
theorem dX12_oat_59 : decode cX12_oat 59 = .ok (.goto 4, 3) := by decide +kernel
theorem dX12_oat_62 : decode cX12_oat 62 = .ok (.iconst 0, 1) := by decide +kernel
theorem dX12_oat_63 : decode cX12_oat 63 = .ok (.iastore, 1) := by decide +kernel
theorem dX12_oat_64 : decode cX12_oat 64 = .ok (.return_, 1) := by decide +kernel
theorem dX12_oats_0 : decode cX12_oats 0 = .ok (.aload_n 0, 1) := by decide +kernel
theorem dX12_oats_1 : decode cX12_oats 1 = .ok (.iload_n 1, 1) := by decide +kernel
theorem dX12_oats_2 : decode cX12_oats 2 = .ok (.invokevirtual 169, 3) := by decide +kernel
theorem dX12_oats_5 : decode cX12_oats 5 = .ok (.ifCond .ne 6, 3) := by decide +kernel
theorem dX12_oats_8 : decode cX12_oats 8 = .ok (.bipush (-2), 2) := by decide +kernel
theorem dX12_oats_10 : decode cX12_oats 10 = .ok (.ireturn, 1) := by decide +kernel
theorem dX12_oats_11 : decode cX12_oats 11 = .ok (.aload_n 0, 1) := by decide +kernel
theorem dX12_oats_12 : decode cX12_oats 12 = .ok (.getfield 7, 3) := by decide +kernel
theorem dX12_oats_15 : decode cX12_oats 15 = .ok (.bipush 27, 2) := by decide +kernel
theorem dX12_oats_17 : decode cX12_oats 17 = .ok (.iload_n 1, 1) := by decide +kernel
theorem dX12_oats_18 : decode cX12_oats 18 = .ok (.iadd, 1) := by decide +kernel
theorem dX12_oats_19 : decode cX12_oats 19 = .ok (.iaload, 1) := by decide +kernel
theorem dX12_oats_20 : decode cX12_oats 20 = .ok (.ifCond .ne 6, 3) := by decide +kernel
theorem dX12_oats_23 : decode cX12_oats 23 = .ok (.bipush (-4), 2) := by decide +kernel
theorem dX12_oats_25 : decode cX12_oats 25 = .ok (.ireturn, 1) := by decide +kernel
theorem dX12_oats_26 : decode cX12_oats 26 = .ok (.aload_n 0, 1) := by decide +kernel
theorem dX12_oats_27 : decode cX12_oats 27 = .ok (.invokevirtual 228, 3) := by decide +kernel
theorem dX12_oats_30 : decode cX12_oats 30 = .ok (.aload_n 0, 1) := by decide +kernel
theorem dX12_oats_31 : decode cX12_oats 31 = .ok (.iconst 0, 1) := by decide +kernel
theorem dX12_oats_32 : decode cX12_oats 32 = .ok (.iload_n 1, 1) := by decide +kernel
theorem dX12_oats_33 : decode cX12_oats 33 = .ok (.invokevirtual 234, 3) := by decide +kernel
theorem dX12_oats_36 : decode cX12_oats 36 = .ok (.aload_n 0, 1) := by decide +kernel
theorem dX12_oats_37 : decode cX12_oats 37 = .ok (.getfield 7, 3) := by decide +kernel
theorem dX12_oats_40 : decode cX12_oats 40 = .ok (.bipush 27, 2) := by decide +kernel
theorem dX12_oats_42 : decode cX12_oats 42 = .ok (.iload_n 1, 1) := by decide +kernel
theorem dX12_oats_43 : decode cX12_oats 43 = .ok (.iadd, 1) := by decide +kernel
theorem dX12_oats_44 : decode cX12_oats 44 = .ok (.iaload, 1) := by decide +kernel
theorem dX12_oats_45 : decode cX12_oats 45 = .ok (.ireturn, 1) := by decide +kernel
theorem dX12_shoe_0 : decode cX12_shoe 0 = .ok (.aload_n 0, 1) := by decide +kernel
theorem dX12_shoe_1 : decode cX12_shoe 1 = .ok (.iload_n 1, 1) := by decide +kernel
theorem dX12_shoe_2 : decode cX12_shoe 2 = .ok (.invokevirtual 169, 3) := by decide +kernel
theorem dX12_shoe_5 : decode cX12_shoe 5 = .ok (.ifCond .ne 6, 3) := by decide +kernel
theorem dX12_shoe_8 : decode cX12_shoe 8 = .ok (.bipush (-2), 2) := by decide +kernel
theorem dX12_shoe_10 : decode cX12_shoe 10 = .ok (.ireturn, 1) := by decide +kernel
theorem dX12_shoe_11 : decode cX12_shoe 11 = .ok (.aload_n 0, 1) := by decide +kernel
theorem dX12_shoe_12 : decode cX12_shoe 12 = .ok (.getfield 7, 3) := by decide +kernel
theorem dX12_shoe_15 : decode cX12_shoe 15 = .ok (.bipush 35, 2) := by decide +kernel
theorem dX12_shoe_17 : decode cX12_shoe 17 = .ok (.iload_n 1, 1) := by decide +kernel
theorem dX12_shoe_18 : decode cX12_shoe 18 = .ok (.iadd, 1) := by decide +kernel
theorem dX12_shoe_19 : decode cX12_shoe 19 = .ok (.iaload, 1) := by decide +kernel
theorem dX12_shoe_20 : decode cX12_shoe 20 = .ok (.ifCond .ne 6, 3) := by decide +kernel
theorem dX12_shoe_23 : decode cX12_shoe 23 = .ok (.bipush (-4), 2) := by decide +kernel
theorem dX12_shoe_25 : decode cX12_shoe 25 = .ok (.ireturn, 1) := by decide +kernel
theorem dX12_shoe_26 : decode cX12_shoe 26 = .ok (.aload_n 0, 1) := by decide +kernel
theorem dX12_shoe_27 : decode cX12_shoe 27 = .ok (.invokevirtual 228, 3) := by decide +kernel
theorem dX12_shoe_30 : decode cX12_shoe 30 = .ok (.aload_n 0, 1) := by decide +kernel
theorem dX12_shoe_31 : decode cX12_shoe 31 = .ok (.getfield 7, 3) := by decide +kernel
theorem dX12_shoe_34 : decode cX12_shoe 34 = .ok (.bipush 27, 2) := by decide +kernel
theorem dX12_shoe_36 : decode cX12_shoe 36 = .ok (.iload_n 1, 1) := by decide +kernel
theorem dX12_shoe_37 : decode cX12_shoe 37 = .ok (.iadd, 1) := by decide +kernel
theorem dX12_shoe_38 : decode cX12_shoe 38 = .ok (.iaload, 1) := by decide +kernel
theorem dX12_shoe_39 : decode cX12_shoe 39 = .ok (.istore_n 2, 1) := by decide +kernel
theorem dX12_shoe_40 : decode cX12_shoe 40 = .ok (.aload_n 0, 1) := by decide +kernel
theorem dX12_shoe_41 : decode cX12_shoe 41 = .ok (.getfield 7, 3) := by decide +kernel
theorem dX12_shoe_44 : decode cX12_shoe 44 = .ok (.bipush 35, 2) := by decide +kernel
theorem dX12_shoe_46 : decode cX12_shoe 46 = .ok (.iload_n 1, 1) := by decide +kernel
theorem dX12_shoe_47 : decode cX12_shoe 47 = .ok (.iadd, 1) := by decide +kernel
theorem dX12_shoe_48 : decode cX12_shoe 48 = .ok (.iconst 0, 1) := by decide +kernel
theorem dX12_shoe_49 : decode cX12_shoe 49 = .ok (.iastore, 1) := by decide +kernel
theorem dX12_shoe_50 : decode cX12_shoe 50 = .ok (.aload_n 0, 1) := by decide +kernel
theorem dX12_shoe_51 : decode cX12_shoe 51 = .ok (.getfield 7, 3) := by decide +kernel
theorem dX12_shoe_54 : decode cX12_shoe 54 = .ok (.bipush 27, 2) := by decide +kernel
theorem dX12_shoe_56 : decode cX12_shoe 56 = .ok (.iload_n 1, 1) := by decide +kernel
theorem dX12_shoe_57 : decode cX12_shoe 57 = .ok (.iadd, 1) := by decide +kernel
theorem dX12_shoe_58 : decode cX12_shoe 58 = .ok (.iconst 5, 1) := by decide +kernel
theorem dX12_shoe_59 : decode cX12_shoe 59 = .ok (.iastore, 1) := by decide +kernel
theorem dX12_shoe_60 : decode cX12_shoe 60 = .ok (.iload_n 2, 1) := by decide +kernel
theorem dX12_shoe_61 : decode cX12_shoe 61 = .ok (.ireturn, 1) := by decide +kernel
theorem dX12_lead_0 : decode cX12_lead 0 = .ok (.aload_n 0, 1) := by decide +kernel
theorem dX12_lead_1 : decode cX12_lead 1 = .ok (.iload_n 1, 1) := by decide +kernel
theorem dX12_lead_2 : decode cX12_lead 2 = .ok (.invokevirtual 169, 3) := by decide +kernel
theorem dX12_lead_5 : decode cX12_lead 5 = .ok (.ifCond .eq 11, 3) := by decide +kernel
