theorem dX8_doUphold_24 : decode cX8_doUphold 24 = .ok (.iconst 1, 1) := by decide +kernel
theorem dX8_doUphold_25 : decode cX8_doUphold 25 = .ok (.iconst (-1), 1) := by decide +kernel
theorem dX8_doUphold_26 : decode cX8_doUphold 26 = .ok (.invokevirtual 216, 3) := by decide +kernel
theorem dX8_doUphold_29 : decode cX8_doUphold 29 = .ok (.aload_n 0, 1) := by decide +kernel
theorem dX8_doUphold_30 : decode cX8_doUphold 30 = .ok (.aload_n 0, 1) := by decide +kernel
theorem dX8_doUphold_31 : decode cX8_doUphold 31 = .ok (.getfield 32, 3) := by decide +kernel
theorem dX8_doUphold_34 : decode cX8_doUphold 34 = .ok (.iload_n 1, 1) := by decide +kernel
theorem dX8_doUphold_35 : decode cX8_doUphold 35 = .ok (.iconst 1, 1) := by decide +kernel
theorem dX8_doUphold_36 : decode cX8_doUphold 36 = .ok (.iadd, 1) := by decide +kernel
theorem dX8_doUphold_37 : decode cX8_doUphold 37 = .ok (.invokevirtual 114, 3) := by decide +kernel
theorem dX8_doUphold_40 : decode cX8_doUphold 40 = .ok (.aload_n 0, 1) := by decide +kernel
theorem dX8_doUphold_41 : decode cX8_doUphold 41 = .ok (.getfield 74, 3) := by decide +kernel
theorem dX8_doUphold_44 : decode cX8_doUphold 44 = .ok (.invokevirtual 144, 3) := by decide +kernel
theorem dX8_doUphold_47 : decode cX8_doUphold 47 = .ok (.aload_n 0, 1) := by decide +kernel
theorem dX8_doUphold_48 : decode cX8_doUphold 48 = .ok (.iconst 0, 1) := by decide +kernel
theorem dX8_doUphold_49 : decode cX8_doUphold 49 = .ok (.putfield 74, 3) := by decide +kernel
theorem dX8_doUphold_52 : decode cX8_doUphold 52 = .ok (.aload_n 0, 1) := by decide +kernel
theorem dX8_doUphold_53 : decode cX8_doUphold 53 = .ok (.iload_n 1, 1) := by decide +kernel
theorem dX8_doUphold_54 : decode cX8_doUphold 54 = .ok (.iconst 3, 1) := by decide +kernel
theorem dX8_doUphold_55 : decode cX8_doUphold 55 = .ok (.iadd, 1) := by decide +kernel
theorem dX8_doUphold_56 : decode cX8_doUphold 56 = .ok (.putfield 111, 3) := by decide +kernel
theorem dX8_doUphold_59 : decode cX8_doUphold 59 = .ok (.return_, 1) := by decide +kernel
theorem dX8_goOut_0 : decode cX8_goOut 0 = .ok (.aload_n 0, 1) := by decide +kernel
theorem dX8_goOut_1 : decode cX8_goOut 1 = .ok (.getfield 94, 3) := by decide +kernel
theorem dX8_goOut_4 : decode cX8_goOut 4 = .ok (.ifCond .le 73, 3) := by decide +kernel
theorem dX8_goOut_7 : decode cX8_goOut 7 = .ok (.aload_n 0, 1) := by decide +kernel
theorem dX8_goOut_8 : decode cX8_goOut 8 = .ok (.aload_n 0, 1) := by decide +kernel
theorem dX8_goOut_9 : decode cX8_goOut 9 = .ok (.aload_n 0, 1) := by decide +kernel
theorem dX8_goOut_10 : decode cX8_goOut 10 = .ok (.getfield 94, 3) := by decide +kernel
theorem dX8_goOut_13 : decode cX8_goOut 13 = .ok (.iconst 1, 1) := by decide +kernel
theorem dX8_goOut_14 : decode cX8_goOut 14 = .ok (.isub, 1) := by decide +kernel
theorem dX8_goOut_15 : decode cX8_goOut 15 = .ok (.iconst 1, 1) := by decide +kernel
theorem dX8_goOut_16 : decode cX8_goOut 16 = .ok (.invokevirtual 219, 3) := by decide +kernel
theorem dX8_goOut_19 : decode cX8_goOut 19 = .ok (.invokevirtual 222, 3) := by decide +kernel
theorem dX8_goOut_22 : decode cX8_goOut 22 = .ok (.istore_n 1, 1) := by decide +kernel
theorem dX8_goOut_23 : decode cX8_goOut 23 = .ok (.iload_n 1, 1) := by decide +kernel
theorem dX8_goOut_24 : decode cX8_goOut 24 = .ok (.iconst (-1), 1) := by decide +kernel
theorem dX8_goOut_25 : decode cX8_goOut 25 = .ok (.if_icmp .eq 9, 3) := by decide +kernel
theorem dX8_goOut_28 : decode cX8_goOut 28 = .ok (.aload_n 0, 1) := by decide +kernel
theorem dX8_goOut_29 : decode cX8_goOut 29 = .ok (.iload_n 1, 1) := by decide +kernel
theorem dX8_goOut_30 : decode cX8_goOut 30 = .ok (.invokevirtual 225, 3) := by decide +kernel
theorem dX8_goOut_33 : decode cX8_goOut 33 = .ok (.return_, 1) := by decide +kernel
theorem dX8_goOut_34 : decode cX8_goOut 34 = .ok (.aload_n 0, 1) := by decide +kernel
theorem dX8_goOut_35 : decode cX8_goOut 35 = .ok (.aload_n 0, 1) := by decide +kernel
theorem dX8_goOut_36 : decode cX8_goOut 36 = .ok (.getfield 94, 3) := by decide +kernel
theorem dX8_goOut_39 : decode cX8_goOut 39 = .ok (.iconst 1, 1) := by decide +kernel
theorem dX8_goOut_40 : decode cX8_goOut 40 = .ok (.isub, 1) := by decide +kernel
theorem dX8_goOut_41 : decode cX8_goOut 41 = .ok (.iconst 2, 1) := by decide +kernel
theorem dX8_goOut_42 : decode cX8_goOut 42 = .ok (.invokevirtual 219, 3) := by decide +kernel
theorem dX8_goOut_45 : decode cX8_goOut 45 = .ok (.iconst (-1), 1) := by decide +kernel
theorem dX8_goOut_46 : decode cX8_goOut 46 = .ok (.if_icmp .eq 18, 3) := by decide +kernel
theorem dX8_goOut_49 : decode cX8_goOut 49 = .ok (.aload_n 0, 1) := by decide +kernel
theorem dX8_goOut_50 : decode cX8_goOut 50 = .ok (.iconst 1, 1) := by decide +kernel
theorem dX8_goOut_51 : decode cX8_goOut 51 = .ok (.aload_n 0, 1) := by decide +kernel
theorem dX8_goOut_52 : decode cX8_goOut 52 = .ok (.getfield 74, 3) := by decide +kernel
theorem dX8_goOut_55 : decode cX8_goOut 55 = .ok (.invokevirtual 201, 3) := by decide +kernel
theorem dX8_goOut_58 : decode cX8_goOut 58 = .ok (.aload_n 0, 1) := by decide +kernel
theorem dX8_goOut_59 : decode cX8_goOut 59 = .ok (.iconst 0, 1) := by decide +kernel
theorem dX8_goOut_60 : decode cX8_goOut 60 = .ok (.putfield 74, 3) := by decide +kernel
theorem dX8_goOut_63 : decode cX8_goOut 63 = .ok (.return_, 1) := by decide +kernel
theorem dX8_goOut_64 : decode cX8_goOut 64 = .ok (.aload_n 0, 1) := by decide +kernel
theorem dX8_goOut_65 : decode cX8_goOut 65 = .ok (.dup, 1) := by decide +kernel
theorem dX8_goOut_66 : decode cX8_goOut 66 = .ok (.getfield 94, 3) := by decide +kernel
theorem dX8_goOut_69 : decode cX8_goOut 69 = .ok (.iconst 1, 1) := by decide +kernel
theorem dX8_goOut_70 : decode cX8_goOut 70 = .ok (.isub, 1) := by decide +kernel
theorem dX8_goOut_71 : decode cX8_goOut 71 = .ok (.putfield 94, 3) := by decide +kernel
theorem dX8_goOut_74 : decode cX8_goOut 74 = .ok (.goto (-74), 3) := by decide +kernel
theorem dX8_goOut_77 : decode cX8_goOut 77 = .ok (.aload_n 0, 1) := by decide +kernel
theorem dX8_goOut_78 : decode cX8_goOut 78 = .ok (.iconst 2, 1) := by decide +kernel
theorem dX8_goOut_79 : decode cX8_goOut 79 = .ok (.putfield 53, 3) := by decide +kernel
theorem dX8_goOut_82 : decode cX8_goOut 82 = .ok (.return_, 1) := by decide +kernel
theorem dX5_rest_0 : decode cX5_rest 0 = .ok (.aload_n 0, 1) := by decide +kernel
theorem dX5_rest_1 : decode cX5_rest 1 = .ok (.iconst 0, 1) := by decide +kernel
theorem dX5_rest_2 : decode cX5_rest 2 = .ok (.putfield 15, 3) := by decide +kernel
theorem dX5_rest_5 : decode cX5_rest 5 = .ok (.aload_n 0, 1) := by decide +kernel
theorem dX5_rest_6 : decode cX5_rest 6 = .ok (.iload_n 1, 1) := by decide +kernel
theorem dX5_rest_7 : decode cX5_rest 7 = .ok (.putfield 25, 3) := by decide +kernel
theorem dX5_rest_10 : decode cX5_rest 10 = .ok (.return_, 1) := by decide +kernel
theorem dX5_adjourn_0 : decode cX5_adjourn 0 = .ok (.aload_n 0, 1) := by decide +kernel
theorem dX5_adjourn_1 : decode cX5_adjourn 1 = .ok (.iconst 3, 1) := by decide +kernel
theorem dX5_adjourn_2 : decode cX5_adjourn 2 = .ok (.putfield 15, 3) := by decide +kernel
theorem dX5_adjourn_5 : decode cX5_adjourn 5 = .ok (.return_, 1) := by decide +kernel
theorem dX8_hold_0 : decode cX8_hold 0 = .ok (.aload_n 0, 1) := by decide +kernel
theorem dX8_hold_1 : decode cX8_hold 1 = .ok (.iload_n 1, 1) := by decide +kernel
theorem dX8_hold_2 : decode cX8_hold 2 = .ok (.iload_n 2, 1) := by decide +kernel
theorem dX8_hold_3 : decode cX8_hold 3 = .ok (.iload_n 3, 1) := by decide +kernel
theorem dX8_hold_4 : decode cX8_hold 4 = .ok (.invokevirtual 48, 3) := by decide +kernel
theorem dX8_hold_7 : decode cX8_hold 7 = .ok (.iconst 0, 1) := by decide +kernel
theorem dX8_hold_8 : decode cX8_hold 8 = .ok (.istore 4, 2) := by decide +kernel
theorem dX8_hold_10 : decode cX8_hold 10 = .ok (.iload 4, 2) := by decide +kernel
theorem dX8_hold_12 : decode cX8_hold 12 = .ok (.ldc 52, 2) := by decide +kernel
theorem dX8_hold_14 : decode cX8_hold 14 = .ok (.if_icmp .ge 87, 3) := by decide +kernel
theorem dX8_hold_17 : decode cX8_hold 17 = .ok (.aload_n 0, 1) := by decide +kernel
theorem dX8_hold_18 : decode cX8_hold 18 = .ok (.getfield 53, 3) := by decide +kernel
theorem dX8_hold_21 : decode cX8_hold 21 = .ok (.ifCond .ne 80, 3) := by decide +kernel
theorem dX8_hold_24 : decode cX8_hold 24 = .ok (.aload_n 0, 1) := by decide +kernel
theorem dX8_hold_25 : decode cX8_hold 25 = .ok (.invokevirtual 56, 3) := by decide +kernel
theorem dX8_hold_28 : decode cX8_hold 28 = .ok (.istore 5, 2) := by decide +kernel
theorem dX8_hold_30 : decode cX8_hold 30 = .ok (.iload 5, 2) := by decide +kernel
theorem dX8_hold_32 : decode cX8_hold 32 = .ok (.bipush 6, 2) := by decide +kernel
theorem dX8_hold_34 : decode cX8_hold 34 = .ok (.if_icmp .gt 12, 3) := by decide +kernel
theorem dX8_hold_37 : decode cX8_hold 37 = .ok (.aload_n 0, 1) := by decide +kernel
theorem dX8_hold_38 : decode cX8_hold 38 = .ok (.iload 5, 2) := by decide +kernel
theorem dX8_hold_40 : decode cX8_hold 40 = .ok (.invokevirtual 62, 3) := by decide +kernel
theorem dX8_hold_43 : decode cX8_hold 43 = .ok (.goto 41, 3) := by decide +kernel
theorem dX8_hold_46 : decode cX8_hold 46 = .ok (.iload 5, 2) := by decide +kernel
theorem dX8_hold_48 : decode cX8_hold 48 = .ok (.bipush 13, 2) := by decide +kernel
theorem dX8_hold_50 : decode cX8_hold 50 = .ok (.if_icmp .gt 12, 3) := by decide +kernel
theorem dX8_hold_53 : decode cX8_hold 53 = .ok (.aload_n 0, 1) := by decide +kernel
theorem dX8_hold_54 : decode cX8_hold 54 = .ok (.iload 5, 2) := by decide +kernel
theorem dX8_hold_56 : decode cX8_hold 56 = .ok (.invokevirtual 65, 3) := by decide +kernel
theorem dX8_hold_59 : decode cX8_hold 59 = .ok (.goto 25, 3) := by decide +kernel
theorem dX8_hold_62 : decode cX8_hold 62 = .ok (.iload 5, 2) := by decide +kernel
theorem dX8_hold_64 : decode cX8_hold 64 = .ok (.bipush 21, 2) := by decide +kernel
theorem dX8_hold_66 : decode cX8_hold 66 = .ok (.if_icmp .gt 12, 3) := by decide +kernel
theorem dX8_hold_69 : decode cX8_hold 69 = .ok (.aload_n 0, 1) := by decide +kernel
theorem dX8_hold_70 : decode cX8_hold 70 = .ok (.iload 5, 2) := by decide +kernel
theorem dX8_hold_72 : decode cX8_hold 72 = .ok (.invokevirtual 68, 3) := by decide +kernel
theorem dX8_hold_75 : decode cX8_hold 75 = .ok (.goto 9, 3) := by decide +kernel
theorem dX8_hold_78 : decode cX8_hold 78 = .ok (.aload_n 0, 1) := by decide +kernel
theorem dX8_hold_79 : decode cX8_hold 79 = .ok (.iload 5, 2) := by decide +kernel
theorem dX8_hold_81 : decode cX8_hold 81 = .ok (.invokevirtual 71, 3) := by decide +kernel
theorem dX8_hold_84 : decode cX8_hold 84 = .ok (.aload_n 0, 1) := by decide +kernel
theorem dX8_hold_85 : decode cX8_hold 85 = .ok (.getfield 74, 3) := by decide +kernel
theorem dX8_hold_88 : decode cX8_hold 88 = .ok (.ifCond .eq 7, 3) := by decide +kernel
theorem dX8_hold_91 : decode cX8_hold 91 = .ok (.aload_n 0, 1) := by decide +kernel
theorem dX8_hold_92 : decode cX8_hold 92 = .ok (.invokevirtual 77, 3) := by decide +kernel
theorem dX8_hold_95 : decode cX8_hold 95 = .ok (.iinc 4 1, 3) := by decide +kernel
theorem dX8_hold_98 : decode cX8_hold 98 = .ok (.goto (-88), 3) := by decide +kernel
theorem dX8_hold_101 : decode cX8_hold 101 = .ok (.aload_n 0, 1) := by decide +kernel
theorem dX8_hold_102 : decode cX8_hold 102 = .ok (.getfield 53, 3) := by decide +kernel
theorem dX8_hold_105 : decode cX8_hold 105 = .ok (.iconst 2, 1) := by decide +kernel
theorem dX8_hold_106 : decode cX8_hold 106 = .ok (.if_icmp .ne 8, 3) := by decide +kernel
theorem dX8_hold_109 : decode cX8_hold 109 = .ok (.aload_n 0, 1) := by decide +kernel
theorem dX8_hold_110 : decode cX8_hold 110 = .ok (.getfield 74, 3) := by decide +kernel
theorem dX8_hold_113 : decode cX8_hold 113 = .ok (.ireturn, 1) := by decide +kernel
theorem dX8_hold_114 : decode cX8_hold 114 = .ok (.aload_n 0, 1) := by decide +kernel
theorem dX8_hold_115 : decode cX8_hold 115 = .ok (.getfield 53, 3) := by decide +kernel
theorem dX8_hold_118 : decode cX8_hold 118 = .ok (.iconst 1, 1) := by decide +kernel
theorem dX8_hold_119 : decode cX8_hold 119 = .ok (.if_icmp .ne 17, 3) := by decide +kernel
theorem dX8_hold_122 : decode cX8_hold 122 = .ok (.aload_n 0, 1) := by decide +kernel
theorem dX8_hold_123 : decode cX8_hold 123 = .ok (.getfield 40, 3) := by decide +kernel
theorem dX8_hold_126 : decode cX8_hold 126 = .ok (.aload_n 0, 1) := by decide +kernel
theorem dX8_hold_127 : decode cX8_hold 127 = .ok (.getfield 80, 3) := by decide +kernel
theorem dX8_hold_130 : decode cX8_hold 130 = .ok (.invokevirtual 83, 3) := by decide +kernel
theorem dX8_hold_133 : decode cX8_hold 133 = .ok (.goto 10, 3) := by decide +kernel
theorem dX8_hold_136 : decode cX8_hold 136 = .ok (.aload_n 0, 1) := by decide +kernel
theorem dX8_hold_137 : decode cX8_hold 137 = .ok (.getfield 40, 3) := by decide +kernel
theorem dX8_hold_140 : decode cX8_hold 140 = .ok (.invokevirtual 88, 3) := by decide +kernel
theorem dX8_hold_143 : decode cX8_hold 143 = .ok (.iconst 0, 1) := by decide +kernel
theorem dX8_hold_144 : decode cX8_hold 144 = .ok (.ireturn, 1) := by decide +kernel
theorem dX5_strike_0 : decode cX5_strike 0 = .ok (.aload_n 0, 1) := by decide +kernel
theorem dX5_strike_1 : decode cX5_strike 1 = .ok (.iconst 1, 1) := by decide +kernel
theorem dX5_strike_2 : decode cX5_strike 2 = .ok (.putfield 15, 3) := by decide +kernel
theorem dX5_strike_5 : decode cX5_strike 5 = .ok (.aload_n 0, 1) := by decide +kernel
theorem dX5_strike_6 : decode cX5_strike 6 = .ok (.iload_n 1, 1) := by decide +kernel
theorem dX5_strike_7 : decode cX5_strike 7 = .ok (.putfield 19, 3) := by decide +kernel
theorem dX5_strike_10 : decode cX5_strike 10 = .ok (.aload_n 0, 1) := by decide +kernel
theorem dX5_strike_11 : decode cX5_strike 11 = .ok (.iload_n 2, 1) := by decide +kernel
theorem dX5_strike_12 : decode cX5_strike 12 = .ok (.putfield 28, 3) := by decide +kernel
theorem dX5_strike_15 : decode cX5_strike 15 = .ok (.return_, 1) := by decide +kernel
theorem dX0_struck_0 : decode cX0_struck 0 = .ok (.aload_n 0, 1) := by decide +kernel
theorem dX0_struck_1 : decode cX0_struck 1 = .ok (.getfield 27, 3) := by decide +kernel
theorem dX0_struck_4 : decode cX0_struck 4 = .ok (.iload_n 1, 1) := by decide +kernel
theorem dX0_struck_5 : decode cX0_struck 5 = .ok (.iload_n 2, 1) := by decide +kernel
theorem dX0_struck_6 : decode cX0_struck 6 = .ok (.invokevirtual 96, 3) := by decide +kernel
theorem dX0_struck_9 : decode cX0_struck 9 = .ok (.iconst 0, 1) := by decide +kernel
theorem dX0_struck_10 : decode cX0_struck 10 = .ok (.ireturn, 1) := by decide +kernel
theorem dX2_groundOf_0 : decode cX2_groundOf 0 = .ok (.aload_n 0, 1) := by decide +kernel
theorem dX2_groundOf_1 : decode cX2_groundOf 1 = .ok (.iload_n 1, 1) := by decide +kernel
theorem dX2_groundOf_2 : decode cX2_groundOf 2 = .ok (.iconst 1, 1) := by decide +kernel
theorem dX2_groundOf_3 : decode cX2_groundOf 3 = .ok (.invokevirtual 32, 3) := by decide +kernel
theorem dX2_groundOf_6 : decode cX2_groundOf 6 = .ok (.ireturn, 1) := by decide +kernel
theorem dX0_wrapped_0 : decode cX0_wrapped 0 = .ok (.aload_n 0, 1) := by decide +kernel
theorem dX0_wrapped_1 : decode cX0_wrapped 1 = .ok (.getfield 23, 3) := by decide +kernel
theorem dX0_wrapped_4 : decode cX0_wrapped 4 = .ok (.iload_n 2, 1) := by decide +kernel
theorem dX0_wrapped_5 : decode cX0_wrapped 5 = .ok (.aload_n 0, 1) := by decide +kernel
theorem dX0_wrapped_6 : decode cX0_wrapped 6 = .ok (.getfield 23, 3) := by decide +kernel
theorem dX0_wrapped_9 : decode cX0_wrapped 9 = .ok (.iload_n 1, 1) := by decide +kernel
theorem dX0_wrapped_10 : decode cX0_wrapped 10 = .ok (.invokevirtual 100, 3) := by decide +kernel
theorem dX0_wrapped_13 : decode cX0_wrapped 13 = .ok (.iconst 0, 1) := by decide +kernel
theorem dX0_wrapped_14 : decode cX0_wrapped 14 = .ok (.iconst (-1), 1) := by decide +kernel
theorem dX0_wrapped_15 : decode cX0_wrapped 15 = .ok (.invokevirtual 103, 3) := by decide +kernel
theorem dX0_wrapped_18 : decode cX0_wrapped 18 = .ok (.istore_n 3, 1) := by decide +kernel
theorem dX0_wrapped_19 : decode cX0_wrapped 19 = .ok (.iload_n 3, 1) := by decide +kernel
theorem dX0_wrapped_20 : decode cX0_wrapped 20 = .ok (.ifCond .ne 12, 3) := by decide +kernel
theorem dX0_wrapped_23 : decode cX0_wrapped 23 = .ok (.aload_n 0, 1) := by decide +kernel
theorem dX0_wrapped_24 : decode cX0_wrapped 24 = .ok (.getfield 27, 3) := by decide +kernel
theorem dX0_wrapped_27 : decode cX0_wrapped 27 = .ok (.invokevirtual 106, 3) := by decide +kernel
theorem dX0_wrapped_30 : decode cX0_wrapped 30 = .ok (.iconst 0, 1) := by decide +kernel
theorem dX0_wrapped_31 : decode cX0_wrapped 31 = .ok (.ireturn, 1) := by decide +kernel
theorem dX0_wrapped_32 : decode cX0_wrapped 32 = .ok (.aload_n 0, 1) := by decide +kernel
theorem dX0_wrapped_33 : decode cX0_wrapped 33 = .ok (.getfield 23, 3) := by decide +kernel
theorem dX0_wrapped_36 : decode cX0_wrapped 36 = .ok (.iload_n 3, 1) := by decide +kernel
theorem dX0_wrapped_37 : decode cX0_wrapped 37 = .ok (.iload_n 1, 1) := by decide +kernel
theorem dX0_wrapped_38 : decode cX0_wrapped 38 = .ok (.invokevirtual 109, 3) := by decide +kernel
theorem dX0_wrapped_41 : decode cX0_wrapped 41 = .ok (.iload_n 3, 1) := by decide +kernel
theorem dX0_wrapped_42 : decode cX0_wrapped 42 = .ok (.ireturn, 1) := by decide +kernel
theorem dX0_entered_0 : decode cX0_entered 0 = .ok (.aload_n 0, 1) := by decide +kernel
theorem dX0_entered_1 : decode cX0_entered 1 = .ok (.iload_n 1, 1) := by decide +kernel
theorem dX0_entered_2 : decode cX0_entered 2 = .ok (.invokevirtual 112, 3) := by decide +kernel
theorem dX0_entered_5 : decode cX0_entered 5 = .ok (.istore_n 3, 1) := by decide +kernel
theorem dX0_entered_6 : decode cX0_entered 6 = .ok (.iload_n 3, 1) := by decide +kernel
theorem dX0_entered_7 : decode cX0_entered 7 = .ok (.ifCond .ne 5, 3) := by decide +kernel
theorem dX0_entered_10 : decode cX0_entered 10 = .ok (.iload_n 2, 1) := by decide +kernel
theorem dX0_entered_11 : decode cX0_entered 11 = .ok (.ireturn, 1) := by decide +kernel
theorem dX0_entered_12 : decode cX0_entered 12 = .ok (.aload_n 0, 1) := by decide +kernel
theorem dX0_entered_13 : decode cX0_entered 13 = .ok (.getfield 23, 3) := by decide +kernel
theorem dX0_entered_16 : decode cX0_entered 16 = .ok (.iload_n 3, 1) := by decide +kernel
theorem dX0_entered_17 : decode cX0_entered 17 = .ok (.iload_n 2, 1) := by decide +kernel
theorem dX0_entered_18 : decode cX0_entered 18 = .ok (.invokevirtual 115, 3) := by decide +kernel
theorem dX0_entered_21 : decode cX0_entered 21 = .ok (.iconst (-1), 1) := by decide +kernel
theorem dX0_entered_22 : decode cX0_entered 22 = .ok (.if_icmp .ne 7, 3) := by decide +kernel
theorem dX0_entered_25 : decode cX0_entered 25 = .ok (.iload_n 3, 1) := by decide +kernel
theorem dX0_entered_26 : decode cX0_entered 26 = .ok (.goto 4, 3) := by decide +kernel
theorem dX0_entered_29 : decode cX0_entered 29 = .ok (.iload_n 2, 1) := by decide +kernel
theorem dX0_entered_30 : decode cX0_entered 30 = .ok (.ireturn, 1) := by decide +kernel
theorem dX0_dealtWith_0 : decode cX0_dealtWith 0 = .ok (.iload_n 3, 1) := by decide +kernel
theorem dX0_dealtWith_1 : decode cX0_dealtWith 1 = .ok (.tableswitch 81 1 5 #[35, 42, 81, 50, 57], 35) := by decide +kernel
theorem dX0_dealtWith_36 : decode cX0_dealtWith 36 = .ok (.aload_n 0, 1) := by decide +kernel
theorem dX0_dealtWith_37 : decode cX0_dealtWith 37 = .ok (.iload_n 1, 1) := by decide +kernel
theorem dX0_dealtWith_38 : decode cX0_dealtWith 38 = .ok (.iload_n 2, 1) := by decide +kernel
theorem dX0_dealtWith_39 : decode cX0_dealtWith 39 = .ok (.invokevirtual 84, 3) := by decide +kernel
theorem dX0_dealtWith_42 : decode cX0_dealtWith 42 = .ok (.ireturn, 1) := by decide +kernel
theorem dX0_dealtWith_43 : decode cX0_dealtWith 43 = .ok (.aload_n 0, 1) := by decide +kernel
theorem dX0_dealtWith_44 : decode cX0_dealtWith 44 = .ok (.iload_n 2, 1) := by decide +kernel
theorem dX0_dealtWith_45 : decode cX0_dealtWith 45 = .ok (.iload 4, 2) := by decide +kernel
theorem dX0_dealtWith_47 : decode cX0_dealtWith 47 = .ok (.invokevirtual 87, 3) := by decide +kernel
theorem dX0_dealtWith_50 : decode cX0_dealtWith 50 = .ok (.ireturn, 1) := by decide +kernel
theorem dX0_dealtWith_51 : decode cX0_dealtWith 51 = .ok (.aload_n 0, 1) := by decide +kernel
theorem dX0_dealtWith_52 : decode cX0_dealtWith 52 = .ok (.iload_n 1, 1) := by decide +kernel
theorem dX0_dealtWith_53 : decode cX0_dealtWith 53 = .ok (.iload_n 2, 1) := by decide +kernel
theorem dX0_dealtWith_54 : decode cX0_dealtWith 54 = .ok (.invokevirtual 90, 3) := by decide +kernel
theorem dX0_dealtWith_57 : decode cX0_dealtWith 57 = .ok (.ireturn, 1) := by decide +kernel
theorem dX0_dealtWith_58 : decode cX0_dealtWith 58 = .ok (.aload_n 0, 1) := by decide +kernel
theorem dX0_dealtWith_59 : decode cX0_dealtWith 59 = .ok (.getfield 23, 3) := by decide +kernel
theorem dX0_dealtWith_62 : decode cX0_dealtWith 62 = .ok (.iload_n 2, 1) := by decide +kernel
theorem dX0_dealtWith_63 : decode cX0_dealtWith 63 = .ok (.invokevirtual 93, 3) := by decide +kernel
theorem dX0_dealtWith_66 : decode cX0_dealtWith 66 = .ok (.iload 4, 2) := by decide +kernel
theorem dX0_dealtWith_68 : decode cX0_dealtWith 68 = .ok (.if_icmp .ge 12, 3) := by decide +kernel
theorem dX0_dealtWith_71 : decode cX0_dealtWith 71 = .ok (.aload_n 0, 1) := by decide +kernel
theorem dX0_dealtWith_72 : decode cX0_dealtWith 72 = .ok (.iload_n 1, 1) := by decide +kernel
theorem dX0_dealtWith_73 : decode cX0_dealtWith 73 = .ok (.iload_n 2, 1) := by decide +kernel
theorem dX0_dealtWith_74 : decode cX0_dealtWith 74 = .ok (.invokevirtual 84, 3) := by decide +kernel
theorem dX0_dealtWith_77 : decode cX0_dealtWith 77 = .ok (.goto 4, 3) := by decide +kernel
theorem dX0_dealtWith_80 : decode cX0_dealtWith 80 = .ok (.iload_n 2, 1) := by decide +kernel
theorem dX0_dealtWith_81 : decode cX0_dealtWith 81 = .ok (.ireturn, 1) := by decide +kernel
theorem dX0_dealtWith_82 : decode cX0_dealtWith 82 = .ok (.iload_n 2, 1) := by decide +kernel
theorem dX0_dealtWith_83 : decode cX0_dealtWith 83 = .ok (.ireturn, 1) := by decide +kernel
theorem dX5_uphold_0 : decode cX5_uphold 0 = .ok (.aload_n 0, 1) := by decide +kernel
theorem dX5_uphold_1 : decode cX5_uphold 1 = .ok (.iconst 2, 1) := by decide +kernel
theorem dX5_uphold_2 : decode cX5_uphold 2 = .ok (.putfield 15, 3) := by decide +kernel
theorem dX5_uphold_5 : decode cX5_uphold 5 = .ok (.aload_n 0, 1) := by decide +kernel
theorem dX5_uphold_6 : decode cX5_uphold 6 = .ok (.iload_n 1, 1) := by decide +kernel
theorem dX5_uphold_7 : decode cX5_uphold 7 = .ok (.putfield 28, 3) := by decide +kernel
theorem dX5_uphold_10 : decode cX5_uphold 10 = .ok (.return_, 1) := by decide +kernel
theorem dX0_conduct_0 : decode cX0_conduct 0 = .ok (.iconst 0, 1) := by decide +kernel
theorem dX0_conduct_1 : decode cX0_conduct 1 = .ok (.istore 4, 2) := by decide +kernel
theorem dX0_conduct_3 : decode cX0_conduct 3 = .ok (.iconst 0, 1) := by decide +kernel
theorem dX0_conduct_4 : decode cX0_conduct 4 = .ok (.istore 5, 2) := by decide +kernel
theorem dX0_conduct_6 : decode cX0_conduct 6 = .ok (.aload_n 0, 1) := by decide +kernel
theorem dX0_conduct_7 : decode cX0_conduct 7 = .ok (.getfield 31, 3) := by decide +kernel
theorem dX0_conduct_10 : decode cX0_conduct 10 = .ok (.iload_n 1, 1) := by decide +kernel
theorem dX0_conduct_11 : decode cX0_conduct 11 = .ok (.iload_n 2, 1) := by decide +kernel
theorem dX0_conduct_12 : decode cX0_conduct 12 = .ok (.iload_n 3, 1) := by decide +kernel
theorem dX0_conduct_13 : decode cX0_conduct 13 = .ok (.invokevirtual 58, 3) := by decide +kernel
theorem dX0_conduct_16 : decode cX0_conduct 16 = .ok (.istore 6, 2) := by decide +kernel
theorem dX0_conduct_18 : decode cX0_conduct 18 = .ok (.iconst 0, 1) := by decide +kernel
theorem dX0_conduct_19 : decode cX0_conduct 19 = .ok (.istore 7, 2) := by decide +kernel
theorem dX0_conduct_21 : decode cX0_conduct 21 = .ok (.iload 7, 2) := by decide +kernel
theorem dX0_conduct_23 : decode cX0_conduct 23 = .ok (.bipush 100, 2) := by decide +kernel
theorem dX0_conduct_25 : decode cX0_conduct 25 = .ok (.if_icmp .ge 186, 3) := by decide +kernel
theorem dX0_conduct_28 : decode cX0_conduct 28 = .ok (.iload 6, 2) := by decide +kernel
theorem dX0_conduct_30 : decode cX0_conduct 30 = .ok (.ifCond .eq 181, 3) := by decide +kernel
theorem dX0_conduct_33 : decode cX0_conduct 33 = .ok (.iload 5, 2) := by decide +kernel
theorem dX0_conduct_35 : decode cX0_conduct 35 = .ok (.iconst 3, 1) := by decide +kernel
theorem dX0_conduct_36 : decode cX0_conduct 36 = .ok (.if_icmp .ge 175, 3) := by decide +kernel
theorem dX0_conduct_39 : decode cX0_conduct 39 = .ok (.iload 4, 2) := by decide +kernel
theorem dX0_conduct_41 : decode cX0_conduct 41 = .ok (.iload 5, 2) := by decide +kernel
theorem dX0_conduct_43 : decode cX0_conduct 43 = .ok (.ishr, 1) := by decide +kernel
theorem dX0_conduct_44 : decode cX0_conduct 44 = .ok (.iconst 1, 1) := by decide +kernel
theorem dX0_conduct_45 : decode cX0_conduct 45 = .ok (.iand, 1) := by decide +kernel
theorem dX0_conduct_46 : decode cX0_conduct 46 = .ok (.iconst 1, 1) := by decide +kernel
theorem dX0_conduct_47 : decode cX0_conduct 47 = .ok (.if_icmp .ne 7, 3) := by decide +kernel
theorem dX0_conduct_50 : decode cX0_conduct 50 = .ok (.iconst 1, 1) := by decide +kernel
theorem dX0_conduct_51 : decode cX0_conduct 51 = .ok (.goto 4, 3) := by decide +kernel
theorem dX0_conduct_54 : decode cX0_conduct 54 = .ok (.iconst 0, 1) := by decide +kernel
theorem dX0_conduct_55 : decode cX0_conduct 55 = .ok (.istore 8, 2) := by decide +kernel
theorem dX0_conduct_57 : decode cX0_conduct 57 = .ok (.iload 8, 2) := by decide +kernel
theorem dX0_conduct_59 : decode cX0_conduct 59 = .ok (.ifCond .eq 7, 3) := by decide +kernel
theorem dX0_conduct_62 : decode cX0_conduct 62 = .ok (.iconst (-1), 1) := by decide +kernel
theorem dX0_conduct_63 : decode cX0_conduct 63 = .ok (.goto 18, 3) := by decide +kernel
theorem dX0_conduct_66 : decode cX0_conduct 66 = .ok (.aload_n 0, 1) := by decide +kernel
theorem dX0_conduct_67 : decode cX0_conduct 67 = .ok (.iload 5, 2) := by decide +kernel
theorem dX0_conduct_69 : decode cX0_conduct 69 = .ok (.aload_n 0, 1) := by decide +kernel
theorem dX0_conduct_70 : decode cX0_conduct 70 = .ok (.getfield 23, 3) := by decide +kernel
theorem dX0_conduct_73 : decode cX0_conduct 73 = .ok (.iload 6, 2) := by decide +kernel
theorem dX0_conduct_75 : decode cX0_conduct 75 = .ok (.invokevirtual 64, 3) := by decide +kernel
theorem dX0_conduct_78 : decode cX0_conduct 78 = .ok (.invokevirtual 67, 3) := by decide +kernel
theorem dX0_conduct_81 : decode cX0_conduct 81 = .ok (.istore 9, 2) := by decide +kernel
theorem dX0_conduct_83 : decode cX0_conduct 83 = .ok (.iload 9, 2) := by decide +kernel
theorem dX0_conduct_85 : decode cX0_conduct 85 = .ok (.ifCond .lt 23, 3) := by decide +kernel
theorem dX0_conduct_88 : decode cX0_conduct 88 = .ok (.iload 9, 2) := by decide +kernel
theorem dX0_conduct_90 : decode cX0_conduct 90 = .ok (.aload_n 0, 1) := by decide +kernel
theorem dX0_conduct_91 : decode cX0_conduct 91 = .ok (.getfield 13, 3) := by decide +kernel
theorem dX0_conduct_94 : decode cX0_conduct 94 = .ok (.arraylength, 1) := by decide +kernel
theorem dX0_conduct_95 : decode cX0_conduct 95 = .ok (.if_icmp .ge 13, 3) := by decide +kernel
theorem dX0_conduct_98 : decode cX0_conduct 98 = .ok (.aload_n 0, 1) := by decide +kernel
theorem dX0_conduct_99 : decode cX0_conduct 99 = .ok (.getfield 13, 3) := by decide +kernel
theorem dX0_conduct_102 : decode cX0_conduct 102 = .ok (.iload 9, 2) := by decide +kernel
theorem dX0_conduct_104 : decode cX0_conduct 104 = .ok (.iaload, 1) := by decide +kernel
theorem dX0_conduct_105 : decode cX0_conduct 105 = .ok (.goto 4, 3) := by decide +kernel
theorem dX0_conduct_108 : decode cX0_conduct 108 = .ok (.iconst 0, 1) := by decide +kernel
theorem dX0_conduct_109 : decode cX0_conduct 109 = .ok (.istore 10, 2) := by decide +kernel
theorem dX0_conduct_111 : decode cX0_conduct 111 = .ok (.iload 10, 2) := by decide +kernel
theorem dX0_conduct_113 : decode cX0_conduct 113 = .ok (.iconst 3, 1) := by decide +kernel
theorem dX0_conduct_114 : decode cX0_conduct 114 = .ok (.if_icmp .ne 46, 3) := by decide +kernel
theorem dX0_conduct_117 : decode cX0_conduct 117 = .ok (.aload_n 0, 1) := by decide +kernel
theorem dX0_conduct_118 : decode cX0_conduct 118 = .ok (.getfield 27, 3) := by decide +kernel
theorem dX0_conduct_121 : decode cX0_conduct 121 = .ok (.dup, 1) := by decide +kernel
theorem dX0_conduct_122 : decode cX0_conduct 122 = .ok (.getfield 71, 3) := by decide +kernel
theorem dX0_conduct_125 : decode cX0_conduct 125 = .ok (.iconst 1, 1) := by decide +kernel
theorem dX0_conduct_126 : decode cX0_conduct 126 = .ok (.iadd, 1) := by decide +kernel
theorem dX0_conduct_127 : decode cX0_conduct 127 = .ok (.putfield 71, 3) := by decide +kernel
theorem dX0_conduct_130 : decode cX0_conduct 130 = .ok (.iload 4, 2) := by decide +kernel
theorem dX0_conduct_132 : decode cX0_conduct 132 = .ok (.iload 5, 2) := by decide +kernel
theorem dX0_conduct_134 : decode cX0_conduct 134 = .ok (.ishr, 1) := by decide +kernel
theorem dX0_conduct_135 : decode cX0_conduct 135 = .ok (.iconst 1, 1) := by decide +kernel
theorem dX0_conduct_136 : decode cX0_conduct 136 = .ok (.ior, 1) := by decide +kernel
theorem dX0_conduct_137 : decode cX0_conduct 137 = .ok (.iload 5, 2) := by decide +kernel
theorem dX0_conduct_139 : decode cX0_conduct 139 = .ok (.ishl, 1) := by decide +kernel
theorem dX0_conduct_140 : decode cX0_conduct 140 = .ok (.istore 4, 2) := by decide +kernel
theorem dX0_conduct_142 : decode cX0_conduct 142 = .ok (.iconst 0, 1) := by decide +kernel
theorem dX0_conduct_143 : decode cX0_conduct 143 = .ok (.istore 5, 2) := by decide +kernel
theorem dX0_conduct_145 : decode cX0_conduct 145 = .ok (.aload_n 0, 1) := by decide +kernel
theorem dX0_conduct_146 : decode cX0_conduct 146 = .ok (.getfield 31, 3) := by decide +kernel
theorem dX0_conduct_149 : decode cX0_conduct 149 = .ok (.iload_n 1, 1) := by decide +kernel
theorem dX0_conduct_150 : decode cX0_conduct 150 = .ok (.iload_n 2, 1) := by decide +kernel
theorem dX0_conduct_151 : decode cX0_conduct 151 = .ok (.iload_n 3, 1) := by decide +kernel
theorem dX0_conduct_152 : decode cX0_conduct 152 = .ok (.invokevirtual 58, 3) := by decide +kernel
theorem dX0_conduct_155 : decode cX0_conduct 155 = .ok (.istore 6, 2) := by decide +kernel
theorem dX0_conduct_157 : decode cX0_conduct 157 = .ok (.goto 48, 3) := by decide +kernel
theorem dX0_conduct_160 : decode cX0_conduct 160 = .ok (.iload 9, 2) := by decide +kernel
theorem dX0_conduct_162 : decode cX0_conduct 162 = .ok (.ifCond .lt 23, 3) := by decide +kernel
theorem dX0_conduct_165 : decode cX0_conduct 165 = .ok (.iload 9, 2) := by decide +kernel
theorem dX0_conduct_167 : decode cX0_conduct 167 = .ok (.aload_n 0, 1) := by decide +kernel
theorem dX0_conduct_168 : decode cX0_conduct 168 = .ok (.getfield 17, 3) := by decide +kernel
theorem dX0_conduct_171 : decode cX0_conduct 171 = .ok (.arraylength, 1) := by decide +kernel
theorem dX0_conduct_172 : decode cX0_conduct 172 = .ok (.if_icmp .ge 13, 3) := by decide +kernel
theorem dX0_conduct_175 : decode cX0_conduct 175 = .ok (.aload_n 0, 1) := by decide +kernel
theorem dX0_conduct_176 : decode cX0_conduct 176 = .ok (.getfield 17, 3) := by decide +kernel
theorem dX0_conduct_179 : decode cX0_conduct 179 = .ok (.iload 9, 2) := by decide +kernel
theorem dX0_conduct_181 : decode cX0_conduct 181 = .ok (.iaload, 1) := by decide +kernel
theorem dX0_conduct_182 : decode cX0_conduct 182 = .ok (.goto 4, 3) := by decide +kernel
theorem dX0_conduct_185 : decode cX0_conduct 185 = .ok (.iconst 0, 1) := by decide +kernel
theorem dX0_conduct_186 : decode cX0_conduct 186 = .ok (.istore 11, 2) := by decide +kernel
theorem dX0_conduct_188 : decode cX0_conduct 188 = .ok (.aload_n 0, 1) := by decide +kernel
theorem dX0_conduct_189 : decode cX0_conduct 189 = .ok (.iload 5, 2) := by decide +kernel
theorem dX0_conduct_191 : decode cX0_conduct 191 = .ok (.iload 6, 2) := by decide +kernel
theorem dX0_conduct_193 : decode cX0_conduct 193 = .ok (.iload 10, 2) := by decide +kernel
theorem dX0_conduct_195 : decode cX0_conduct 195 = .ok (.iload 11, 2) := by decide +kernel
theorem dX0_conduct_197 : decode cX0_conduct 197 = .ok (.invokevirtual 77, 3) := by decide +kernel
theorem dX0_conduct_200 : decode cX0_conduct 200 = .ok (.istore 6, 2) := by decide +kernel
theorem dX0_conduct_202 : decode cX0_conduct 202 = .ok (.iinc 5 1, 3) := by decide +kernel
theorem dX0_conduct_205 : decode cX0_conduct 205 = .ok (.iinc 7 1, 3) := by decide +kernel
theorem dX0_conduct_208 : decode cX0_conduct 208 = .ok (.goto (-187), 3) := by decide +kernel
theorem dX0_conduct_211 : decode cX0_conduct 211 = .ok (.iload 6, 2) := by decide +kernel
theorem dX0_conduct_213 : decode cX0_conduct 213 = .ok (.ifCond .eq 12, 3) := by decide +kernel
theorem dX0_conduct_216 : decode cX0_conduct 216 = .ok (.aload_n 0, 1) := by decide +kernel
theorem dX0_conduct_217 : decode cX0_conduct 217 = .ok (.getfield 27, 3) := by decide +kernel
theorem dX0_conduct_220 : decode cX0_conduct 220 = .ok (.iload 6, 2) := by decide +kernel
theorem dX0_conduct_222 : decode cX0_conduct 222 = .ok (.invokevirtual 80, 3) := by decide +kernel
theorem dX0_conduct_225 : decode cX0_conduct 225 = .ok (.return_, 1) := by decide +kernel
theorem dX2_openTrial_0 : decode cX2_openTrial 0 = .ok (.aload_n 0, 1) := by decide +kernel
theorem dX2_openTrial_1 : decode cX2_openTrial 1 = .ok (.aload_n 0, 1) := by decide +kernel
theorem dX2_openTrial_2 : decode cX2_openTrial 2 = .ok (.getfield 15, 3) := by decide +kernel
theorem dX2_openTrial_5 : decode cX2_openTrial 5 = .ok (.putfield 19, 3) := by decide +kernel
theorem dX2_openTrial_8 : decode cX2_openTrial 8 = .ok (.return_, 1) := by decide +kernel
theorem dX2_inChain_0 : decode cX2_inChain 0 = .ok (.iload_n 2, 1) := by decide +kernel
theorem dX2_inChain_1 : decode cX2_inChain 1 = .ok (.ifCond .lt 9, 3) := by decide +kernel
theorem dX2_inChain_4 : decode cX2_inChain 4 = .ok (.iload_n 2, 1) := by decide +kernel
theorem dX2_inChain_5 : decode cX2_inChain 5 = .ok (.bipush 50, 2) := by decide +kernel
theorem dX2_inChain_7 : decode cX2_inChain 7 = .ok (.if_icmp .lt 5, 3) := by decide +kernel
theorem dX2_inChain_10 : decode cX2_inChain 10 = .ok (.iconst 0, 1) := by decide +kernel
theorem dX2_inChain_11 : decode cX2_inChain 11 = .ok (.ireturn, 1) := by decide +kernel
theorem dX2_inChain_12 : decode cX2_inChain 12 = .ok (.iload_n 1, 1) := by decide +kernel
theorem dX2_inChain_13 : decode cX2_inChain 13 = .ok (.istore_n 3, 1) := by decide +kernel
theorem dX2_inChain_14 : decode cX2_inChain 14 = .ok (.iconst 0, 1) := by decide +kernel
theorem dX2_inChain_15 : decode cX2_inChain 15 = .ok (.istore 4, 2) := by decide +kernel
theorem dX2_inChain_17 : decode cX2_inChain 17 = .ok (.iload 4, 2) := by decide +kernel
theorem dX2_inChain_19 : decode cX2_inChain 19 = .ok (.iload_n 2, 1) := by decide +kernel
theorem dX2_inChain_20 : decode cX2_inChain 20 = .ok (.if_icmp .ge 21, 3) := by decide +kernel
theorem dX2_inChain_23 : decode cX2_inChain 23 = .ok (.iload_n 3, 1) := by decide +kernel
theorem dX2_inChain_24 : decode cX2_inChain 24 = .ok (.ifCond .eq 17, 3) := by decide +kernel
theorem dX2_inChain_27 : decode cX2_inChain 27 = .ok (.aload_n 0, 1) := by decide +kernel
theorem dX2_inChain_28 : decode cX2_inChain 28 = .ok (.iload_n 3, 1) := by decide +kernel
theorem dX2_inChain_29 : decode cX2_inChain 29 = .ok (.bipush 6, 2) := by decide +kernel
theorem dX2_inChain_31 : decode cX2_inChain 31 = .ok (.invokevirtual 32, 3) := by decide +kernel
theorem dX2_inChain_34 : decode cX2_inChain 34 = .ok (.istore_n 3, 1) := by decide +kernel
theorem dX2_inChain_35 : decode cX2_inChain 35 = .ok (.iinc 4 1, 3) := by decide +kernel
theorem dX2_inChain_38 : decode cX2_inChain 38 = .ok (.goto (-21), 3) := by decide +kernel
theorem dX2_inChain_41 : decode cX2_inChain 41 = .ok (.iload_n 3, 1) := by decide +kernel
theorem dX2_inChain_42 : decode cX2_inChain 42 = .ok (.ireturn, 1) := by decide +kernel
theorem dX2_tellOfChain_0 : decode cX2_tellOfChain 0 = .ok (.aload_n 0, 1) := by decide +kernel
theorem dX2_tellOfChain_1 : decode cX2_tellOfChain 1 = .ok (.iload_n 1, 1) := by decide +kernel
theorem dX2_tellOfChain_2 : decode cX2_tellOfChain 2 = .ok (.iload_n 2, 1) := by decide +kernel
theorem dX2_tellOfChain_3 : decode cX2_tellOfChain 3 = .ok (.invokevirtual 56, 3) := by decide +kernel
theorem dX2_tellOfChain_6 : decode cX2_tellOfChain 6 = .ok (.istore 4, 2) := by decide +kernel
theorem dX2_tellOfChain_8 : decode cX2_tellOfChain 8 = .ok (.aload_n 0, 1) := by decide +kernel
theorem dX2_tellOfChain_9 : decode cX2_tellOfChain 9 = .ok (.iload 4, 2) := by decide +kernel
theorem dX2_tellOfChain_11 : decode cX2_tellOfChain 11 = .ok (.invokevirtual 36, 3) := by decide +kernel
theorem dX2_tellOfChain_14 : decode cX2_tellOfChain 14 = .ok (.ifCond .ne 13, 3) := by decide +kernel
theorem dX2_tellOfChain_17 : decode cX2_tellOfChain 17 = .ok (.iload_n 3, 1) := by decide +kernel
theorem dX2_tellOfChain_18 : decode cX2_tellOfChain 18 = .ok (.ifCond .ne 7, 3) := by decide +kernel
theorem dX2_tellOfChain_21 : decode cX2_tellOfChain 21 = .ok (.iconst (-1), 1) := by decide +kernel
theorem dX2_tellOfChain_22 : decode cX2_tellOfChain 22 = .ok (.goto 4, 3) := by decide +kernel
theorem dX2_tellOfChain_25 : decode cX2_tellOfChain 25 = .ok (.iconst 0, 1) := by decide +kernel
theorem dX2_tellOfChain_26 : decode cX2_tellOfChain 26 = .ok (.ireturn, 1) := by decide +kernel
theorem dX2_tellOfChain_27 : decode cX2_tellOfChain 27 = .ok (.iload_n 3, 1) := by decide +kernel
theorem dX2_tellOfChain_28 : decode cX2_tellOfChain 28 = .ok (.ifCond .lt 19, 3) := by decide +kernel
theorem dX2_tellOfChain_31 : decode cX2_tellOfChain 31 = .ok (.iload_n 3, 1) := by decide +kernel
theorem dX2_tellOfChain_32 : decode cX2_tellOfChain 32 = .ok (.bipush 6, 2) := by decide +kernel
theorem dX2_tellOfChain_34 : decode cX2_tellOfChain 34 = .ok (.if_icmp .gt 13, 3) := by decide +kernel
theorem dX2_tellOfChain_37 : decode cX2_tellOfChain 37 = .ok (.aload_n 0, 1) := by decide +kernel
theorem dX2_tellOfChain_38 : decode cX2_tellOfChain 38 = .ok (.iload 4, 2) := by decide +kernel
theorem dX2_tellOfChain_40 : decode cX2_tellOfChain 40 = .ok (.iload_n 3, 1) := by decide +kernel
theorem dX2_tellOfChain_41 : decode cX2_tellOfChain 41 = .ok (.invokevirtual 59, 3) := by decide +kernel
theorem dX2_tellOfChain_44 : decode cX2_tellOfChain 44 = .ok (.goto 4, 3) := by decide +kernel
theorem dX2_tellOfChain_47 : decode cX2_tellOfChain 47 = .ok (.iconst 0, 1) := by decide +kernel
theorem dX2_tellOfChain_48 : decode cX2_tellOfChain 48 = .ok (.ireturn, 1) := by decide +kernel
theorem dX5_open_0 : decode cX5_open 0 = .ok (.aload_n 0, 1) := by decide +kernel
theorem dX5_open_1 : decode cX5_open 1 = .ok (.iconst 0, 1) := by decide +kernel
theorem dX5_open_2 : decode cX5_open 2 = .ok (.putfield 22, 3) := by decide +kernel
theorem dX5_open_5 : decode cX5_open 5 = .ok (.aload_n 0, 1) := by decide +kernel
theorem dX5_open_6 : decode cX5_open 6 = .ok (.iconst (-1), 1) := by decide +kernel
theorem dX5_open_7 : decode cX5_open 7 = .ok (.putfield 15, 3) := by decide +kernel
theorem dX5_open_10 : decode cX5_open 10 = .ok (.aload_n 0, 1) := by decide +kernel
theorem dX5_open_11 : decode cX5_open 11 = .ok (.iconst 0, 1) := by decide +kernel
theorem dX5_open_12 : decode cX5_open 12 = .ok (.putfield 25, 3) := by decide +kernel
theorem dX5_open_15 : decode cX5_open 15 = .ok (.aload_n 0, 1) := by decide +kernel
theorem dX5_open_16 : decode cX5_open 16 = .ok (.iconst (-1), 1) := by decide +kernel
theorem dX5_open_17 : decode cX5_open 17 = .ok (.putfield 19, 3) := by decide +kernel
theorem dX5_open_20 : decode cX5_open 20 = .ok (.aload_n 0, 1) := by decide +kernel
theorem dX5_open_21 : decode cX5_open 21 = .ok (.iconst 0, 1) := by decide +kernel
theorem dX5_open_22 : decode cX5_open 22 = .ok (.putfield 28, 3) := by decide +kernel
theorem dX5_open_25 : decode cX5_open 25 = .ok (.aload_n 0, 1) := by decide +kernel
theorem dX5_open_26 : decode cX5_open 26 = .ok (.iconst 0, 1) := by decide +kernel
theorem dX5_open_27 : decode cX5_open 27 = .ok (.putfield 31, 3) := by decide +kernel
theorem dX5_open_30 : decode cX5_open 30 = .ok (.aload_n 0, 1) := by decide +kernel
theorem dX5_open_31 : decode cX5_open 31 = .ok (.iconst 0, 1) := by decide +kernel
theorem dX5_open_32 : decode cX5_open 32 = .ok (.putfield 34, 3) := by decide +kernel
theorem dX5_open_35 : decode cX5_open 35 = .ok (.aload_n 0, 1) := by decide +kernel
theorem dX5_open_36 : decode cX5_open 36 = .ok (.iconst 0, 1) := by decide +kernel
theorem dX5_open_37 : decode cX5_open 37 = .ok (.putfield 37, 3) := by decide +kernel
theorem dX5_open_40 : decode cX5_open 40 = .ok (.return_, 1) := by decide +kernel
theorem dX5_noteAt_0 : decode cX5_noteAt 0 = .ok (.iload_n 1, 1) := by decide +kernel
theorem dX5_noteAt_1 : decode cX5_noteAt 1 = .ok (.ifCond .lt 29, 3) := by decide +kernel
theorem dX5_noteAt_4 : decode cX5_noteAt 4 = .ok (.iload_n 1, 1) := by decide +kernel
theorem dX5_noteAt_5 : decode cX5_noteAt 5 = .ok (.aload_n 0, 1) := by decide +kernel
theorem dX5_noteAt_6 : decode cX5_noteAt 6 = .ok (.getfield 22, 3) := by decide +kernel
theorem dX5_noteAt_9 : decode cX5_noteAt 9 = .ok (.if_icmp .ge 21, 3) := by decide +kernel
theorem dX5_noteAt_12 : decode cX5_noteAt 12 = .ok (.iload_n 1, 1) := by decide +kernel
theorem dX5_noteAt_13 : decode cX5_noteAt 13 = .ok (.aload_n 0, 1) := by decide +kernel
theorem dX5_noteAt_14 : decode cX5_noteAt 14 = .ok (.getfield 11, 3) := by decide +kernel
theorem dX5_noteAt_17 : decode cX5_noteAt 17 = .ok (.arraylength, 1) := by decide +kernel
theorem dX5_noteAt_18 : decode cX5_noteAt 18 = .ok (.if_icmp .ge 12, 3) := by decide +kernel
theorem dX5_noteAt_21 : decode cX5_noteAt 21 = .ok (.aload_n 0, 1) := by decide +kernel
theorem dX5_noteAt_22 : decode cX5_noteAt 22 = .ok (.getfield 11, 3) := by decide +kernel
theorem dX5_noteAt_25 : decode cX5_noteAt 25 = .ok (.iload_n 1, 1) := by decide +kernel
theorem dX5_noteAt_26 : decode cX5_noteAt 26 = .ok (.iaload, 1) := by decide +kernel
theorem dX5_noteAt_27 : decode cX5_noteAt 27 = .ok (.goto 4, 3) := by decide +kernel
theorem dX5_noteAt_30 : decode cX5_noteAt 30 = .ok (.iconst 0, 1) := by decide +kernel
theorem dX5_noteAt_31 : decode cX5_noteAt 31 = .ok (.ireturn, 1) := by decide +kernel
theorem dX5_tell_0 : decode cX5_tell 0 = .ok (.iload_n 1, 1) := by decide +kernel
theorem dX5_tell_1 : decode cX5_tell 1 = .ok (.tableswitch 78 0 6 #[43, 48, 53, 58, 63, 68, 73], 43) := by decide +kernel
theorem dX5_tell_44 : decode cX5_tell 44 = .ok (.aload_n 0, 1) := by decide +kernel
theorem dX5_tell_45 : decode cX5_tell 45 = .ok (.getfield 15, 3) := by decide +kernel
theorem dX5_tell_48 : decode cX5_tell 48 = .ok (.ireturn, 1) := by decide +kernel
theorem dX5_tell_49 : decode cX5_tell 49 = .ok (.aload_n 0, 1) := by decide +kernel
theorem dX5_tell_50 : decode cX5_tell 50 = .ok (.getfield 25, 3) := by decide +kernel
theorem dX5_tell_53 : decode cX5_tell 53 = .ok (.ireturn, 1) := by decide +kernel
theorem dX5_tell_54 : decode cX5_tell 54 = .ok (.aload_n 0, 1) := by decide +kernel
theorem dX5_tell_55 : decode cX5_tell 55 = .ok (.getfield 19, 3) := by decide +kernel
theorem dX5_tell_58 : decode cX5_tell 58 = .ok (.ireturn, 1) := by decide +kernel
theorem dX5_tell_59 : decode cX5_tell 59 = .ok (.aload_n 0, 1) := by decide +kernel
theorem dX5_tell_60 : decode cX5_tell 60 = .ok (.getfield 31, 3) := by decide +kernel
theorem dX5_tell_63 : decode cX5_tell 63 = .ok (.ireturn, 1) := by decide +kernel
theorem dX5_tell_64 : decode cX5_tell 64 = .ok (.aload_n 0, 1) := by decide +kernel
theorem dX5_tell_65 : decode cX5_tell 65 = .ok (.getfield 22, 3) := by decide +kernel
theorem dX5_tell_68 : decode cX5_tell 68 = .ok (.ireturn, 1) := by decide +kernel
theorem dX5_tell_69 : decode cX5_tell 69 = .ok (.aload_n 0, 1) := by decide +kernel
theorem dX5_tell_70 : decode cX5_tell 70 = .ok (.getfield 34, 3) := by decide +kernel
theorem dX5_tell_73 : decode cX5_tell 73 = .ok (.ireturn, 1) := by decide +kernel
theorem dX5_tell_74 : decode cX5_tell 74 = .ok (.aload_n 0, 1) := by decide +kernel
theorem dX5_tell_75 : decode cX5_tell 75 = .ok (.getfield 37, 3) := by decide +kernel
theorem dX5_tell_78 : decode cX5_tell 78 = .ok (.ireturn, 1) := by decide +kernel
theorem dX5_tell_79 : decode cX5_tell 79 = .ok (.iconst (-1), 1) := by decide +kernel
theorem dX5_tell_80 : decode cX5_tell 80 = .ok (.ireturn, 1) := by decide +kernel
theorem dX11_putBytes_0 : decode cX11_putBytes 0 = .ok (.bipush 24, 2) := by decide +kernel
theorem dX11_putBytes_2 : decode cX11_putBytes 2 = .ok (.istore_n 2, 1) := by decide +kernel
theorem dX11_putBytes_3 : decode cX11_putBytes 3 = .ok (.iload_n 2, 1) := by decide +kernel
theorem dX11_putBytes_4 : decode cX11_putBytes 4 = .ok (.ifCond .lt 44, 3) := by decide +kernel
theorem dX11_putBytes_7 : decode cX11_putBytes 7 = .ok (.aload_n 0, 1) := by decide +kernel
theorem dX11_putBytes_8 : decode cX11_putBytes 8 = .ok (.getfield 61, 3) := by decide +kernel
theorem dX11_putBytes_11 : decode cX11_putBytes 11 = .ok (.aload_n 0, 1) := by decide +kernel
theorem dX11_putBytes_12 : decode cX11_putBytes 12 = .ok (.getfield 9, 3) := by decide +kernel
theorem dX11_putBytes_15 : decode cX11_putBytes 15 = .ok (.arraylength, 1) := by decide +kernel
theorem dX11_putBytes_16 : decode cX11_putBytes 16 = .ok (.if_icmp .ge 32, 3) := by decide +kernel
theorem dX11_putBytes_19 : decode cX11_putBytes 19 = .ok (.aload_n 0, 1) := by decide +kernel
theorem dX11_putBytes_20 : decode cX11_putBytes 20 = .ok (.getfield 9, 3) := by decide +kernel
theorem dX11_putBytes_23 : decode cX11_putBytes 23 = .ok (.aload_n 0, 1) := by decide +kernel
theorem dX11_putBytes_24 : decode cX11_putBytes 24 = .ok (.getfield 61, 3) := by decide +kernel
theorem dX11_putBytes_27 : decode cX11_putBytes 27 = .ok (.iload_n 1, 1) := by decide +kernel
theorem dX11_putBytes_28 : decode cX11_putBytes 28 = .ok (.iload_n 2, 1) := by decide +kernel
theorem dX11_putBytes_29 : decode cX11_putBytes 29 = .ok (.iushr, 1) := by decide +kernel
theorem dX11_putBytes_30 : decode cX11_putBytes 30 = .ok (.i2b, 1) := by decide +kernel
theorem dX11_putBytes_31 : decode cX11_putBytes 31 = .ok (.bastore, 1) := by decide +kernel
theorem dX11_putBytes_32 : decode cX11_putBytes 32 = .ok (.aload_n 0, 1) := by decide +kernel
theorem dX11_putBytes_33 : decode cX11_putBytes 33 = .ok (.dup, 1) := by decide +kernel
theorem dX11_putBytes_34 : decode cX11_putBytes 34 = .ok (.getfield 61, 3) := by decide +kernel
theorem dX11_putBytes_37 : decode cX11_putBytes 37 = .ok (.iconst 1, 1) := by decide +kernel
theorem dX11_putBytes_38 : decode cX11_putBytes 38 = .ok (.iadd, 1) := by decide +kernel
theorem dX11_putBytes_39 : decode cX11_putBytes 39 = .ok (.putfield 61, 3) := by decide +kernel
theorem dX11_putBytes_42 : decode cX11_putBytes 42 = .ok (.iinc 2 (-8), 3) := by decide +kernel
theorem dX11_putBytes_45 : decode cX11_putBytes 45 = .ok (.goto (-42), 3) := by decide +kernel
theorem dX11_putBytes_48 : decode cX11_putBytes 48 = .ok (.return_, 1) := by decide +kernel
theorem dX11_feed_0 : decode cX11_feed 0 = .ok (.aload_n 0, 1) := by decide +kernel
theorem dX11_feed_1 : decode cX11_feed 1 = .ok (.getfield 61, 3) := by decide +kernel
theorem dX11_feed_4 : decode cX11_feed 4 = .ok (.bipush 20, 2) := by decide +kernel
theorem dX11_feed_6 : decode cX11_feed 6 = .ok (.iadd, 1) := by decide +kernel
theorem dX11_feed_7 : decode cX11_feed 7 = .ok (.sipush 4000, 3) := by decide +kernel
theorem dX11_feed_10 : decode cX11_feed 10 = .ok (.if_icmp .le 5, 3) := by decide +kernel
theorem dX11_feed_13 : decode cX11_feed 13 = .ok (.iconst (-1), 1) := by decide +kernel
theorem dX11_feed_14 : decode cX11_feed 14 = .ok (.ireturn, 1) := by decide +kernel
theorem dX11_feed_15 : decode cX11_feed 15 = .ok (.aload_n 0, 1) := by decide +kernel
theorem dX11_feed_16 : decode cX11_feed 16 = .ok (.iload_n 1, 1) := by decide +kernel
theorem dX11_feed_17 : decode cX11_feed 17 = .ok (.invokevirtual 64, 3) := by decide +kernel
theorem dX11_feed_20 : decode cX11_feed 20 = .ok (.aload_n 0, 1) := by decide +kernel
theorem dX11_feed_21 : decode cX11_feed 21 = .ok (.iload_n 2, 1) := by decide +kernel
theorem dX11_feed_22 : decode cX11_feed 22 = .ok (.invokevirtual 64, 3) := by decide +kernel
theorem dX11_feed_25 : decode cX11_feed 25 = .ok (.aload_n 0, 1) := by decide +kernel
theorem dX11_feed_26 : decode cX11_feed 26 = .ok (.iload_n 3, 1) := by decide +kernel
theorem dX11_feed_27 : decode cX11_feed 27 = .ok (.invokevirtual 64, 3) := by decide +kernel
theorem dX11_feed_30 : decode cX11_feed 30 = .ok (.aload_n 0, 1) := by decide +kernel
theorem dX11_feed_31 : decode cX11_feed 31 = .ok (.iload 4, 2) := by decide +kernel
theorem dX11_feed_33 : decode cX11_feed 33 = .ok (.invokevirtual 64, 3) := by decide +kernel
theorem dX11_feed_36 : decode cX11_feed 36 = .ok (.aload_n 0, 1) := by decide +kernel
theorem dX11_feed_37 : decode cX11_feed 37 = .ok (.iload 5, 2) := by decide +kernel
theorem dX11_feed_39 : decode cX11_feed 39 = .ok (.invokevirtual 64, 3) := by decide +kernel
theorem dX11_feed_42 : decode cX11_feed 42 = .ok (.aload_n 0, 1) := by decide +kernel
theorem dX11_feed_43 : decode cX11_feed 43 = .ok (.getfield 61, 3) := by decide +kernel
theorem dX11_feed_46 : decode cX11_feed 46 = .ok (.ireturn, 1) := by decide +kernel
theorem dX11_fault_0 : decode cX11_fault 0 = .ok (.iload_n 1, 1) := by decide +kernel
theorem dX11_fault_1 : decode cX11_fault 1 = .ok (.ifCond .ne 8, 3) := by decide +kernel
theorem dX11_fault_4 : decode cX11_fault 4 = .ok (.aload_n 0, 1) := by decide +kernel
theorem dX11_fault_5 : decode cX11_fault 5 = .ok (.getfield 22, 3) := by decide +kernel
theorem dX11_fault_8 : decode cX11_fault 8 = .ok (.ireturn, 1) := by decide +kernel
theorem dX11_fault_9 : decode cX11_fault 9 = .ok (.iload_n 1, 1) := by decide +kernel
theorem dX11_fault_10 : decode cX11_fault 10 = .ok (.iconst 1, 1) := by decide +kernel
theorem dX11_fault_11 : decode cX11_fault 11 = .ok (.if_icmp .ne 10, 3) := by decide +kernel
theorem dX11_fault_14 : decode cX11_fault 14 = .ok (.aload_n 0, 1) := by decide +kernel
theorem dX11_fault_15 : decode cX11_fault 15 = .ok (.getfield 26, 3) := by decide +kernel
theorem dX11_fault_18 : decode cX11_fault 18 = .ok (.goto 4, 3) := by decide +kernel
theorem dX11_fault_21 : decode cX11_fault 21 = .ok (.iconst (-1), 1) := by decide +kernel
theorem dX11_fault_22 : decode cX11_fault 22 = .ok (.ireturn, 1) := by decide +kernel
theorem dX11_policy_0 : decode cX11_policy 0 = .ok (.aload_n 0, 1) := by decide +kernel
theorem dX11_policy_1 : decode cX11_policy 1 = .ok (.getfield 57, 3) := by decide +kernel
theorem dX11_policy_4 : decode cX11_policy 4 = .ok (.iload_n 1, 1) := by decide +kernel
theorem dX11_policy_5 : decode cX11_policy 5 = .ok (.iload_n 2, 1) := by decide +kernel
theorem dX11_policy_6 : decode cX11_policy 6 = .ok (.iload_n 3, 1) := by decide +kernel
theorem dX11_policy_7 : decode cX11_policy 7 = .ok (.iload 4, 2) := by decide +kernel
theorem dX11_policy_9 : decode cX11_policy 9 = .ok (.invokevirtual 84, 3) := by decide +kernel
theorem dX11_policy_12 : decode cX11_policy 12 = .ok (.ireturn, 1) := by decide +kernel
theorem dX11_complain_0 : decode cX11_complain 0 = .ok (.aload_n 0, 1) := by decide +kernel
theorem dX11_complain_1 : decode cX11_complain 1 = .ok (.getfield 57, 3) := by decide +kernel
theorem dX11_complain_4 : decode cX11_complain 4 = .ok (.iload_n 1, 1) := by decide +kernel
theorem dX11_complain_5 : decode cX11_complain 5 = .ok (.iload_n 2, 1) := by decide +kernel
theorem dX11_complain_6 : decode cX11_complain 6 = .ok (.iload_n 3, 1) := by decide +kernel
theorem dX11_complain_7 : decode cX11_complain 7 = .ok (.invokevirtual 88, 3) := by decide +kernel
theorem dX11_complain_10 : decode cX11_complain 10 = .ok (.ireturn, 1) := by decide +kernel
theorem dX11_about_0 : decode cX11_about 0 = .ok (.iload_n 1, 1) := by decide +kernel
theorem dX11_about_1 : decode cX11_about 1 = .ok (.tableswitch 51 7 9 #[27, 35, 43], 27) := by decide +kernel
theorem dX11_about_28 : decode cX11_about 28 = .ok (.aload_n 0, 1) := by decide +kernel
theorem dX11_about_29 : decode cX11_about 29 = .ok (.getfield 32, 3) := by decide +kernel
theorem dX11_about_32 : decode cX11_about 32 = .ok (.getfield 111, 3) := by decide +kernel
theorem dX11_about_35 : decode cX11_about 35 = .ok (.ireturn, 1) := by decide +kernel
theorem dX11_about_36 : decode cX11_about 36 = .ok (.aload_n 0, 1) := by decide +kernel
theorem dX11_about_37 : decode cX11_about 37 = .ok (.getfield 32, 3) := by decide +kernel
theorem dX11_about_40 : decode cX11_about 40 = .ok (.getfield 114, 3) := by decide +kernel
theorem dX11_about_43 : decode cX11_about 43 = .ok (.ireturn, 1) := by decide +kernel
theorem dX11_about_44 : decode cX11_about 44 = .ok (.aload_n 0, 1) := by decide +kernel
theorem dX11_about_45 : decode cX11_about 45 = .ok (.getfield 18, 3) := by decide +kernel
theorem dX11_about_48 : decode cX11_about 48 = .ok (.getfield 92, 3) := by decide +kernel
theorem dX11_about_51 : decode cX11_about 51 = .ok (.ireturn, 1) := by decide +kernel
theorem dX11_about_52 : decode cX11_about 52 = .ok (.aload_n 0, 1) := by decide +kernel
theorem dX11_about_53 : decode cX11_about 53 = .ok (.getfield 39, 3) := by decide +kernel
theorem dX11_about_56 : decode cX11_about 56 = .ok (.iload_n 1, 1) := by decide +kernel
theorem dX11_about_57 : decode cX11_about 57 = .ok (.invokevirtual 117, 3) := by decide +kernel
theorem dX11_about_60 : decode cX11_about 60 = .ok (.ireturn, 1) := by decide +kernel
theorem dX11_note_0 : decode cX11_note 0 = .ok (.aload_n 0, 1) := by decide +kernel
theorem dX11_note_1 : decode cX11_note 1 = .ok (.getfield 39, 3) := by decide +kernel
theorem dX11_note_4 : decode cX11_note 4 = .ok (.iload_n 1, 1) := by decide +kernel
theorem dX11_note_5 : decode cX11_note 5 = .ok (.invokevirtual 120, 3) := by decide +kernel
theorem dX11_note_8 : decode cX11_note 8 = .ok (.ireturn, 1) := by decide +kernel
theorem dX11_chain_0 : decode cX11_chain 0 = .ok (.aload_n 0, 1) := by decide +kernel
theorem dX11_chain_1 : decode cX11_chain 1 = .ok (.getfield 32, 3) := by decide +kernel
theorem dX11_chain_4 : decode cX11_chain 4 = .ok (.aload_n 0, 1) := by decide +kernel
theorem dX11_chain_5 : decode cX11_chain 5 = .ok (.getfield 39, 3) := by decide +kernel
theorem dX11_chain_8 : decode cX11_chain 8 = .ok (.getfield 123, 3) := by decide +kernel
theorem dX11_chain_11 : decode cX11_chain 11 = .ok (.iload_n 1, 1) := by decide +kernel
theorem dX11_chain_12 : decode cX11_chain 12 = .ok (.iload_n 2, 1) := by decide +kernel
theorem dX11_chain_13 : decode cX11_chain 13 = .ok (.invokevirtual 126, 3) := by decide +kernel
theorem dX11_chain_16 : decode cX11_chain 16 = .ok (.ireturn, 1) := by decide +kernel
theorem dX11_complaint_0 : decode cX11_complaint 0 = .ok (.aload_n 0, 1) := by decide +kernel
theorem dX11_complaint_1 : decode cX11_complaint 1 = .ok (.getfield 32, 3) := by decide +kernel
theorem dX11_complaint_4 : decode cX11_complaint 4 = .ok (.aload_n 0, 1) := by decide +kernel
theorem dX11_complaint_5 : decode cX11_complaint 5 = .ok (.getfield 57, 3) := by decide +kernel
theorem dX11_complaint_8 : decode cX11_complaint 8 = .ok (.iload_n 1, 1) := by decide +kernel
theorem dX11_complaint_9 : decode cX11_complaint 9 = .ok (.invokevirtual 129, 3) := by decide +kernel
theorem dX11_complaint_12 : decode cX11_complaint 12 = .ok (.iload_n 2, 1) := by decide +kernel
theorem dX11_complaint_13 : decode cX11_complaint 13 = .ok (.iload_n 3, 1) := by decide +kernel
theorem dX11_complaint_14 : decode cX11_complaint 14 = .ok (.invokevirtual 126, 3) := by decide +kernel
theorem dX11_complaint_17 : decode cX11_complaint 17 = .ok (.ireturn, 1) := by decide +kernel
theorem dX2_make_0 : decode cX2_make 0 = .ok (.aload_n 0, 1) := by decide +kernel
theorem dX2_make_1 : decode cX2_make 1 = .ok (.getfield 15, 3) := by decide +kernel
theorem dX2_make_4 : decode cX2_make 4 = .ok (.sipush 8000, 3) := by decide +kernel
theorem dX2_make_7 : decode cX2_make 7 = .ok (.if_icmp .lt 5, 3) := by decide +kernel
theorem dX2_make_10 : decode cX2_make 10 = .ok (.iconst 0, 1) := by decide +kernel
theorem dX2_make_11 : decode cX2_make 11 = .ok (.ireturn, 1) := by decide +kernel
theorem dX2_make_12 : decode cX2_make 12 = .ok (.aload_n 0, 1) := by decide +kernel
theorem dX2_make_13 : decode cX2_make 13 = .ok (.getfield 15, 3) := by decide +kernel
theorem dX2_make_16 : decode cX2_make 16 = .ok (.bipush 7, 2) := by decide +kernel
theorem dX2_make_18 : decode cX2_make 18 = .ok (.imul, 1) := by decide +kernel
theorem dX2_make_19 : decode cX2_make 19 = .ok (.istore 5, 2) := by decide +kernel
theorem dX2_make_21 : decode cX2_make 21 = .ok (.iload 5, 2) := by decide +kernel
theorem dX2_make_23 : decode cX2_make 23 = .ok (.bipush 7, 2) := by decide +kernel
theorem dX2_make_25 : decode cX2_make 25 = .ok (.iadd, 1) := by decide +kernel
theorem dX2_make_26 : decode cX2_make 26 = .ok (.aload_n 0, 1) := by decide +kernel
theorem dX2_make_27 : decode cX2_make 27 = .ok (.getfield 11, 3) := by decide +kernel
theorem dX2_make_30 : decode cX2_make 30 = .ok (.arraylength, 1) := by decide +kernel
theorem dX2_make_31 : decode cX2_make 31 = .ok (.if_icmp .le 21, 3) := by decide +kernel
theorem dX2_make_34 : decode cX2_make 34 = .ok (.aload_n 0, 1) := by decide +kernel
theorem dX2_make_35 : decode cX2_make 35 = .ok (.aload_n 0, 1) := by decide +kernel
theorem dX2_make_36 : decode cX2_make 36 = .ok (.getfield 11, 3) := by decide +kernel
theorem dX2_make_39 : decode cX2_make 39 = .ok (.aload_n 0, 1) := by decide +kernel
theorem dX2_make_40 : decode cX2_make 40 = .ok (.getfield 11, 3) := by decide +kernel
theorem dX2_make_43 : decode cX2_make 43 = .ok (.arraylength, 1) := by decide +kernel
theorem dX2_make_44 : decode cX2_make 44 = .ok (.iconst 2, 1) := by decide +kernel
theorem dX2_make_45 : decode cX2_make 45 = .ok (.imul, 1) := by decide +kernel
theorem dX2_make_46 : decode cX2_make 46 = .ok (.invokestatic 22, 3) := by decide +kernel
theorem dX2_make_49 : decode cX2_make 49 = .ok (.putfield 11, 3) := by decide +kernel
theorem dX2_make_52 : decode cX2_make 52 = .ok (.aload_n 0, 1) := by decide +kernel
theorem dX2_make_53 : decode cX2_make 53 = .ok (.dup, 1) := by decide +kernel
theorem dX2_make_54 : decode cX2_make 54 = .ok (.getfield 15, 3) := by decide +kernel
theorem dX2_make_57 : decode cX2_make 57 = .ok (.iconst 1, 1) := by decide +kernel
theorem dX2_make_58 : decode cX2_make 58 = .ok (.iadd, 1) := by decide +kernel
theorem dX2_make_59 : decode cX2_make 59 = .ok (.putfield 15, 3) := by decide +kernel
theorem dX2_make_62 : decode cX2_make 62 = .ok (.aload_n 0, 1) := by decide +kernel
theorem dX2_make_63 : decode cX2_make 63 = .ok (.getfield 11, 3) := by decide +kernel
theorem dX2_make_66 : decode cX2_make 66 = .ok (.iload 5, 2) := by decide +kernel
theorem dX2_make_68 : decode cX2_make 68 = .ok (.iconst 0, 1) := by decide +kernel
theorem dX2_make_69 : decode cX2_make 69 = .ok (.iadd, 1) := by decide +kernel
theorem dX2_make_70 : decode cX2_make 70 = .ok (.iload_n 1, 1) := by decide +kernel
theorem dX2_make_71 : decode cX2_make 71 = .ok (.iastore, 1) := by decide +kernel
theorem dX2_make_72 : decode cX2_make 72 = .ok (.aload_n 0, 1) := by decide +kernel
theorem dX2_make_73 : decode cX2_make 73 = .ok (.getfield 11, 3) := by decide +kernel
theorem dX2_make_76 : decode cX2_make 76 = .ok (.iload 5, 2) := by decide +kernel
theorem dX2_make_78 : decode cX2_make 78 = .ok (.iconst 1, 1) := by decide +kernel
theorem dX2_make_79 : decode cX2_make 79 = .ok (.iadd, 1) := by decide +kernel
theorem dX2_make_80 : decode cX2_make 80 = .ok (.iload_n 2, 1) := by decide +kernel
theorem dX2_make_81 : decode cX2_make 81 = .ok (.iastore, 1) := by decide +kernel
theorem dX2_make_82 : decode cX2_make 82 = .ok (.aload_n 0, 1) := by decide +kernel
theorem dX2_make_83 : decode cX2_make 83 = .ok (.getfield 11, 3) := by decide +kernel
theorem dX2_make_86 : decode cX2_make 86 = .ok (.iload 5, 2) := by decide +kernel
theorem dX2_make_88 : decode cX2_make 88 = .ok (.iconst 2, 1) := by decide +kernel
theorem dX2_make_89 : decode cX2_make 89 = .ok (.iadd, 1) := by decide +kernel
theorem dX2_make_90 : decode cX2_make 90 = .ok (.iload_n 3, 1) := by decide +kernel
theorem dX2_make_91 : decode cX2_make 91 = .ok (.iastore, 1) := by decide +kernel
theorem dX2_make_92 : decode cX2_make 92 = .ok (.aload_n 0, 1) := by decide +kernel
theorem dX2_make_93 : decode cX2_make 93 = .ok (.getfield 11, 3) := by decide +kernel
theorem dX2_make_96 : decode cX2_make 96 = .ok (.iload 5, 2) := by decide +kernel
theorem dX2_make_98 : decode cX2_make 98 = .ok (.iconst 3, 1) := by decide +kernel
theorem dX2_make_99 : decode cX2_make 99 = .ok (.iadd, 1) := by decide +kernel
theorem dX2_make_100 : decode cX2_make 100 = .ok (.aload_n 0, 1) := by decide +kernel
theorem dX2_make_101 : decode cX2_make 101 = .ok (.getfield 15, 3) := by decide +kernel
theorem dX2_make_104 : decode cX2_make 104 = .ok (.iastore, 1) := by decide +kernel
theorem dX2_make_105 : decode cX2_make 105 = .ok (.aload_n 0, 1) := by decide +kernel
theorem dX2_make_106 : decode cX2_make 106 = .ok (.getfield 11, 3) := by decide +kernel
theorem dX2_make_109 : decode cX2_make 109 = .ok (.iload 5, 2) := by decide +kernel
theorem dX2_make_111 : decode cX2_make 111 = .ok (.iconst 4, 1) := by decide +kernel
theorem dX2_make_112 : decode cX2_make 112 = .ok (.iadd, 1) := by decide +kernel
theorem dX2_make_113 : decode cX2_make 113 = .ok (.iload 4, 2) := by decide +kernel
theorem dX2_make_115 : decode cX2_make 115 = .ok (.iastore, 1) := by decide +kernel
theorem dX2_make_116 : decode cX2_make 116 = .ok (.aload_n 0, 1) := by decide +kernel
theorem dX2_make_117 : decode cX2_make 117 = .ok (.getfield 15, 3) := by decide +kernel
theorem dX2_make_120 : decode cX2_make 120 = .ok (.ireturn, 1) := by decide +kernel
