theorem dX4_numberOf_0 : decode cX4_numberOf 0 = .ok (.lload_n 1, 1) := by decide +kernel
theorem dX4_numberOf_1 : decode cX4_numberOf 1 = .ok (.ldc2_w 50, 3) := by decide +kernel
theorem dX4_numberOf_4 : decode cX4_numberOf 4 = .ok (.invokestatic 52, 3) := by decide +kernel
theorem dX4_numberOf_7 : decode cX4_numberOf 7 = .ok (.l2i, 1) := by decide +kernel
theorem dX4_numberOf_8 : decode cX4_numberOf 8 = .ok (.istore_n 3, 1) := by decide +kernel
theorem dX4_numberOf_9 : decode cX4_numberOf 9 = .ok (.aload_n 0, 1) := by decide +kernel
theorem dX4_numberOf_10 : decode cX4_numberOf 10 = .ok (.getfield 11, 3) := by decide +kernel
theorem dX4_numberOf_13 : decode cX4_numberOf 13 = .ok (.iload_n 3, 1) := by decide +kernel
theorem dX4_numberOf_14 : decode cX4_numberOf 14 = .ok (.iaload, 1) := by decide +kernel
theorem dX4_numberOf_15 : decode cX4_numberOf 15 = .ok (.istore 4, 2) := by decide +kernel
theorem dX4_numberOf_17 : decode cX4_numberOf 17 = .ok (.iconst 0, 1) := by decide +kernel
theorem dX4_numberOf_18 : decode cX4_numberOf 18 = .ok (.istore 5, 2) := by decide +kernel
theorem dX4_numberOf_20 : decode cX4_numberOf 20 = .ok (.iload 5, 2) := by decide +kernel
theorem dX4_numberOf_22 : decode cX4_numberOf 22 = .ok (.aload_n 0, 1) := by decide +kernel
theorem dX4_numberOf_23 : decode cX4_numberOf 23 = .ok (.getfield 15, 3) := by decide +kernel
theorem dX4_numberOf_26 : decode cX4_numberOf 26 = .ok (.arraylength, 1) := by decide +kernel
theorem dX4_numberOf_27 : decode cX4_numberOf 27 = .ok (.if_icmp .ge 48, 3) := by decide +kernel
theorem dX4_numberOf_30 : decode cX4_numberOf 30 = .ok (.iload 4, 2) := by decide +kernel
theorem dX4_numberOf_32 : decode cX4_numberOf 32 = .ok (.ifCond .lt 43, 3) := by decide +kernel
theorem dX4_numberOf_35 : decode cX4_numberOf 35 = .ok (.iload 4, 2) := by decide +kernel
theorem dX4_numberOf_37 : decode cX4_numberOf 37 = .ok (.aload_n 0, 1) := by decide +kernel
theorem dX4_numberOf_38 : decode cX4_numberOf 38 = .ok (.getfield 15, 3) := by decide +kernel
theorem dX4_numberOf_41 : decode cX4_numberOf 41 = .ok (.arraylength, 1) := by decide +kernel
theorem dX4_numberOf_42 : decode cX4_numberOf 42 = .ok (.if_icmp .ge 33, 3) := by decide +kernel
theorem dX4_numberOf_45 : decode cX4_numberOf 45 = .ok (.aload_n 0, 1) := by decide +kernel
theorem dX4_numberOf_46 : decode cX4_numberOf 46 = .ok (.getfield 15, 3) := by decide +kernel
theorem dX4_numberOf_49 : decode cX4_numberOf 49 = .ok (.iload 4, 2) := by decide +kernel
theorem dX4_numberOf_51 : decode cX4_numberOf 51 = .ok (.laload, 1) := by decide +kernel
theorem dX4_numberOf_52 : decode cX4_numberOf 52 = .ok (.lload_n 1, 1) := by decide +kernel
theorem dX4_numberOf_53 : decode cX4_numberOf 53 = .ok (.lcmp, 1) := by decide +kernel
theorem dX4_numberOf_54 : decode cX4_numberOf 54 = .ok (.ifCond .ne 6, 3) := by decide +kernel
theorem dX4_numberOf_57 : decode cX4_numberOf 57 = .ok (.iload 4, 2) := by decide +kernel
theorem dX4_numberOf_59 : decode cX4_numberOf 59 = .ok (.ireturn, 1) := by decide +kernel
theorem dX4_numberOf_60 : decode cX4_numberOf 60 = .ok (.aload_n 0, 1) := by decide +kernel
theorem dX4_numberOf_61 : decode cX4_numberOf 61 = .ok (.getfield 19, 3) := by decide +kernel
theorem dX4_numberOf_64 : decode cX4_numberOf 64 = .ok (.iload 4, 2) := by decide +kernel
theorem dX4_numberOf_66 : decode cX4_numberOf 66 = .ok (.iaload, 1) := by decide +kernel
theorem dX4_numberOf_67 : decode cX4_numberOf 67 = .ok (.istore 4, 2) := by decide +kernel
theorem dX4_numberOf_69 : decode cX4_numberOf 69 = .ok (.iinc 5 1, 3) := by decide +kernel
theorem dX4_numberOf_72 : decode cX4_numberOf 72 = .ok (.goto (-52), 3) := by decide +kernel
theorem dX4_numberOf_75 : decode cX4_numberOf 75 = .ok (.aload_n 0, 1) := by decide +kernel
theorem dX4_numberOf_76 : decode cX4_numberOf 76 = .ok (.getfield 58, 3) := by decide +kernel
theorem dX4_numberOf_79 : decode cX4_numberOf 79 = .ok (.aload_n 0, 1) := by decide +kernel
theorem dX4_numberOf_80 : decode cX4_numberOf 80 = .ok (.getfield 15, 3) := by decide +kernel
theorem dX4_numberOf_83 : decode cX4_numberOf 83 = .ok (.arraylength, 1) := by decide +kernel
theorem dX4_numberOf_84 : decode cX4_numberOf 84 = .ok (.if_icmp .lt 5, 3) := by decide +kernel
theorem dX4_numberOf_87 : decode cX4_numberOf 87 = .ok (.iconst (-1), 1) := by decide +kernel
theorem dX4_numberOf_88 : decode cX4_numberOf 88 = .ok (.ireturn, 1) := by decide +kernel
theorem dX4_numberOf_89 : decode cX4_numberOf 89 = .ok (.aload_n 0, 1) := by decide +kernel
theorem dX4_numberOf_90 : decode cX4_numberOf 90 = .ok (.getfield 15, 3) := by decide +kernel
theorem dX4_numberOf_93 : decode cX4_numberOf 93 = .ok (.aload_n 0, 1) := by decide +kernel
theorem dX4_numberOf_94 : decode cX4_numberOf 94 = .ok (.getfield 58, 3) := by decide +kernel
theorem dX4_numberOf_97 : decode cX4_numberOf 97 = .ok (.lload_n 1, 1) := by decide +kernel
theorem dX4_numberOf_98 : decode cX4_numberOf 98 = .ok (.lastore, 1) := by decide +kernel
theorem dX4_numberOf_99 : decode cX4_numberOf 99 = .ok (.aload_n 0, 1) := by decide +kernel
theorem dX4_numberOf_100 : decode cX4_numberOf 100 = .ok (.getfield 19, 3) := by decide +kernel
theorem dX4_numberOf_103 : decode cX4_numberOf 103 = .ok (.aload_n 0, 1) := by decide +kernel
theorem dX4_numberOf_104 : decode cX4_numberOf 104 = .ok (.getfield 58, 3) := by decide +kernel
theorem dX4_numberOf_107 : decode cX4_numberOf 107 = .ok (.aload_n 0, 1) := by decide +kernel
theorem dX4_numberOf_108 : decode cX4_numberOf 108 = .ok (.getfield 11, 3) := by decide +kernel
theorem dX4_numberOf_111 : decode cX4_numberOf 111 = .ok (.iload_n 3, 1) := by decide +kernel
theorem dX4_numberOf_112 : decode cX4_numberOf 112 = .ok (.iaload, 1) := by decide +kernel
theorem dX4_numberOf_113 : decode cX4_numberOf 113 = .ok (.iastore, 1) := by decide +kernel
theorem dX4_numberOf_114 : decode cX4_numberOf 114 = .ok (.aload_n 0, 1) := by decide +kernel
theorem dX4_numberOf_115 : decode cX4_numberOf 115 = .ok (.getfield 11, 3) := by decide +kernel
theorem dX4_numberOf_118 : decode cX4_numberOf 118 = .ok (.iload_n 3, 1) := by decide +kernel
theorem dX4_numberOf_119 : decode cX4_numberOf 119 = .ok (.aload_n 0, 1) := by decide +kernel
theorem dX4_numberOf_120 : decode cX4_numberOf 120 = .ok (.getfield 58, 3) := by decide +kernel
theorem dX4_numberOf_123 : decode cX4_numberOf 123 = .ok (.iastore, 1) := by decide +kernel
theorem dX4_numberOf_124 : decode cX4_numberOf 124 = .ok (.aload_n 0, 1) := by decide +kernel
theorem dX4_numberOf_125 : decode cX4_numberOf 125 = .ok (.dup, 1) := by decide +kernel
theorem dX4_numberOf_126 : decode cX4_numberOf 126 = .ok (.getfield 58, 3) := by decide +kernel
theorem dX4_numberOf_129 : decode cX4_numberOf 129 = .ok (.iconst 1, 1) := by decide +kernel
theorem dX4_numberOf_130 : decode cX4_numberOf 130 = .ok (.iadd, 1) := by decide +kernel
theorem dX4_numberOf_131 : decode cX4_numberOf 131 = .ok (.putfield 58, 3) := by decide +kernel
theorem dX4_numberOf_134 : decode cX4_numberOf 134 = .ok (.aload_n 0, 1) := by decide +kernel
theorem dX4_numberOf_135 : decode cX4_numberOf 135 = .ok (.getfield 58, 3) := by decide +kernel
theorem dX4_numberOf_138 : decode cX4_numberOf 138 = .ok (.iconst 1, 1) := by decide +kernel
theorem dX4_numberOf_139 : decode cX4_numberOf 139 = .ok (.isub, 1) := by decide +kernel
theorem dX4_numberOf_140 : decode cX4_numberOf 140 = .ok (.ireturn, 1) := by decide +kernel
theorem dX4_longer_0 : decode cX4_longer 0 = .ok (.iload_n 2, 1) := by decide +kernel
theorem dX4_longer_1 : decode cX4_longer 1 = .ok (.bipush 97, 2) := by decide +kernel
theorem dX4_longer_3 : decode cX4_longer 3 = .ok (.if_icmp .lt 13, 3) := by decide +kernel
theorem dX4_longer_6 : decode cX4_longer 6 = .ok (.iload_n 2, 1) := by decide +kernel
theorem dX4_longer_7 : decode cX4_longer 7 = .ok (.bipush 97, 2) := by decide +kernel
theorem dX4_longer_9 : decode cX4_longer 9 = .ok (.isub, 1) := by decide +kernel
theorem dX4_longer_10 : decode cX4_longer 10 = .ok (.bipush 37, 2) := by decide +kernel
theorem dX4_longer_12 : decode cX4_longer 12 = .ok (.iadd, 1) := by decide +kernel
theorem dX4_longer_13 : decode cX4_longer 13 = .ok (.goto 25, 3) := by decide +kernel
theorem dX4_longer_16 : decode cX4_longer 16 = .ok (.iload_n 2, 1) := by decide +kernel
theorem dX4_longer_17 : decode cX4_longer 17 = .ok (.bipush 65, 2) := by decide +kernel
theorem dX4_longer_19 : decode cX4_longer 19 = .ok (.if_icmp .lt 13, 3) := by decide +kernel
theorem dX4_longer_22 : decode cX4_longer 22 = .ok (.iload_n 2, 1) := by decide +kernel
theorem dX4_longer_23 : decode cX4_longer 23 = .ok (.bipush 65, 2) := by decide +kernel
theorem dX4_longer_25 : decode cX4_longer 25 = .ok (.isub, 1) := by decide +kernel
theorem dX4_longer_26 : decode cX4_longer 26 = .ok (.bipush 11, 2) := by decide +kernel
theorem dX4_longer_28 : decode cX4_longer 28 = .ok (.iadd, 1) := by decide +kernel
theorem dX4_longer_29 : decode cX4_longer 29 = .ok (.goto 9, 3) := by decide +kernel
theorem dX4_longer_32 : decode cX4_longer 32 = .ok (.iload_n 2, 1) := by decide +kernel
theorem dX4_longer_33 : decode cX4_longer 33 = .ok (.bipush 48, 2) := by decide +kernel
theorem dX4_longer_35 : decode cX4_longer 35 = .ok (.isub, 1) := by decide +kernel
theorem dX4_longer_36 : decode cX4_longer 36 = .ok (.iconst 1, 1) := by decide +kernel
theorem dX4_longer_37 : decode cX4_longer 37 = .ok (.iadd, 1) := by decide +kernel
theorem dX4_longer_38 : decode cX4_longer 38 = .ok (.istore_n 3, 1) := by decide +kernel
theorem dX4_longer_39 : decode cX4_longer 39 = .ok (.lload_n 0, 1) := by decide +kernel
theorem dX4_longer_40 : decode cX4_longer 40 = .ok (.bipush 6, 2) := by decide +kernel
theorem dX4_longer_42 : decode cX4_longer 42 = .ok (.lshl, 1) := by decide +kernel
theorem dX4_longer_43 : decode cX4_longer 43 = .ok (.iload_n 3, 1) := by decide +kernel
theorem dX4_longer_44 : decode cX4_longer 44 = .ok (.i2l, 1) := by decide +kernel
theorem dX4_longer_45 : decode cX4_longer 45 = .ok (.lor, 1) := by decide +kernel
theorem dX4_longer_46 : decode cX4_longer 46 = .ok (.lreturn, 1) := by decide +kernel
theorem dX4_learnQuotedWords_0 : decode cX4_learnQuotedWords 0 = .ok (.lconst 0, 1) := by decide +kernel
theorem dX4_learnQuotedWords_1 : decode cX4_learnQuotedWords 1 = .ok (.lstore_n 1, 1) := by decide +kernel
theorem dX4_learnQuotedWords_2 : decode cX4_learnQuotedWords 2 = .ok (.iconst 0, 1) := by decide +kernel
theorem dX4_learnQuotedWords_3 : decode cX4_learnQuotedWords 3 = .ok (.istore_n 3, 1) := by decide +kernel
theorem dX4_learnQuotedWords_4 : decode cX4_learnQuotedWords 4 = .ok (.iload_n 3, 1) := by decide +kernel
theorem dX4_learnQuotedWords_5 : decode cX4_learnQuotedWords 5 = .ok (.ldc 30, 2) := by decide +kernel
theorem dX4_learnQuotedWords_7 : decode cX4_learnQuotedWords 7 = .ok (.invokevirtual 32, 3) := by decide +kernel
theorem dX4_learnQuotedWords_10 : decode cX4_learnQuotedWords 10 = .ok (.if_icmp .ge 42, 3) := by decide +kernel
theorem dX4_learnQuotedWords_13 : decode cX4_learnQuotedWords 13 = .ok (.ldc 30, 2) := by decide +kernel
theorem dX4_learnQuotedWords_15 : decode cX4_learnQuotedWords 15 = .ok (.iload_n 3, 1) := by decide +kernel
theorem dX4_learnQuotedWords_16 : decode cX4_learnQuotedWords 16 = .ok (.invokevirtual 38, 3) := by decide +kernel
theorem dX4_learnQuotedWords_19 : decode cX4_learnQuotedWords 19 = .ok (.istore 4, 2) := by decide +kernel
theorem dX4_learnQuotedWords_21 : decode cX4_learnQuotedWords 21 = .ok (.iload 4, 2) := by decide +kernel
theorem dX4_learnQuotedWords_23 : decode cX4_learnQuotedWords 23 = .ok (.bipush 32, 2) := by decide +kernel
theorem dX4_learnQuotedWords_25 : decode cX4_learnQuotedWords 25 = .ok (.if_icmp .ne 14, 3) := by decide +kernel
theorem dX4_learnQuotedWords_28 : decode cX4_learnQuotedWords 28 = .ok (.aload_n 0, 1) := by decide +kernel
theorem dX4_learnQuotedWords_29 : decode cX4_learnQuotedWords 29 = .ok (.lload_n 1, 1) := by decide +kernel
theorem dX4_learnQuotedWords_30 : decode cX4_learnQuotedWords 30 = .ok (.invokevirtual 42, 3) := by decide +kernel
theorem dX4_learnQuotedWords_33 : decode cX4_learnQuotedWords 33 = .ok (.pop, 1) := by decide +kernel
theorem dX4_learnQuotedWords_34 : decode cX4_learnQuotedWords 34 = .ok (.lconst 0, 1) := by decide +kernel
theorem dX4_learnQuotedWords_35 : decode cX4_learnQuotedWords 35 = .ok (.lstore_n 1, 1) := by decide +kernel
theorem dX4_learnQuotedWords_36 : decode cX4_learnQuotedWords 36 = .ok (.goto 10, 3) := by decide +kernel
theorem dX4_learnQuotedWords_39 : decode cX4_learnQuotedWords 39 = .ok (.lload_n 1, 1) := by decide +kernel
theorem dX4_learnQuotedWords_40 : decode cX4_learnQuotedWords 40 = .ok (.iload 4, 2) := by decide +kernel
theorem dX4_learnQuotedWords_42 : decode cX4_learnQuotedWords 42 = .ok (.invokestatic 46, 3) := by decide +kernel
theorem dX4_learnQuotedWords_45 : decode cX4_learnQuotedWords 45 = .ok (.lstore_n 1, 1) := by decide +kernel
theorem dX4_learnQuotedWords_46 : decode cX4_learnQuotedWords 46 = .ok (.iinc 3 1, 3) := by decide +kernel
theorem dX4_learnQuotedWords_49 : decode cX4_learnQuotedWords 49 = .ok (.goto (-45), 3) := by decide +kernel
theorem dX4_learnQuotedWords_52 : decode cX4_learnQuotedWords 52 = .ok (.return_, 1) := by decide +kernel
theorem dX6_put_0 : decode cX6_put 0 = .ok (.aload_n 0, 1) := by decide +kernel
theorem dX6_put_1 : decode cX6_put 1 = .ok (.getfield 21, 3) := by decide +kernel
theorem dX6_put_4 : decode cX6_put 4 = .ok (.aload_n 0, 1) := by decide +kernel
theorem dX6_put_5 : decode cX6_put 5 = .ok (.getfield 18, 3) := by decide +kernel
theorem dX6_put_8 : decode cX6_put 8 = .ok (.arraylength, 1) := by decide +kernel
theorem dX6_put_9 : decode cX6_put 9 = .ok (.if_icmp .ge 23, 3) := by decide +kernel
theorem dX6_put_12 : decode cX6_put 12 = .ok (.aload_n 0, 1) := by decide +kernel
theorem dX6_put_13 : decode cX6_put 13 = .ok (.getfield 18, 3) := by decide +kernel
theorem dX6_put_16 : decode cX6_put 16 = .ok (.aload_n 0, 1) := by decide +kernel
theorem dX6_put_17 : decode cX6_put 17 = .ok (.getfield 21, 3) := by decide +kernel
theorem dX6_put_20 : decode cX6_put 20 = .ok (.iload_n 1, 1) := by decide +kernel
theorem dX6_put_21 : decode cX6_put 21 = .ok (.iastore, 1) := by decide +kernel
theorem dX6_put_22 : decode cX6_put 22 = .ok (.aload_n 0, 1) := by decide +kernel
theorem dX6_put_23 : decode cX6_put 23 = .ok (.dup, 1) := by decide +kernel
theorem dX6_put_24 : decode cX6_put 24 = .ok (.getfield 21, 3) := by decide +kernel
theorem dX6_put_27 : decode cX6_put 27 = .ok (.iconst 1, 1) := by decide +kernel
theorem dX6_put_28 : decode cX6_put 28 = .ok (.iadd, 1) := by decide +kernel
theorem dX6_put_29 : decode cX6_put 29 = .ok (.putfield 21, 3) := by decide +kernel
theorem dX6_put_32 : decode cX6_put 32 = .ok (.aload_n 0, 1) := by decide +kernel
theorem dX6_put_33 : decode cX6_put 33 = .ok (.getfield 21, 3) := by decide +kernel
theorem dX6_put_36 : decode cX6_put 36 = .ok (.iconst 1, 1) := by decide +kernel
theorem dX6_put_37 : decode cX6_put 37 = .ok (.isub, 1) := by decide +kernel
theorem dX6_put_38 : decode cX6_put 38 = .ok (.ireturn, 1) := by decide +kernel
theorem dX6_change_0 : decode cX6_change 0 = .ok (.iload_n 1, 1) := by decide +kernel
theorem dX6_change_1 : decode cX6_change 1 = .ok (.ifCond .lt 18, 3) := by decide +kernel
theorem dX6_change_4 : decode cX6_change 4 = .ok (.iload_n 1, 1) := by decide +kernel
theorem dX6_change_5 : decode cX6_change 5 = .ok (.aload_n 0, 1) := by decide +kernel
theorem dX6_change_6 : decode cX6_change 6 = .ok (.getfield 21, 3) := by decide +kernel
theorem dX6_change_9 : decode cX6_change 9 = .ok (.if_icmp .ge 10, 3) := by decide +kernel
theorem dX6_change_12 : decode cX6_change 12 = .ok (.aload_n 0, 1) := by decide +kernel
theorem dX6_change_13 : decode cX6_change 13 = .ok (.getfield 18, 3) := by decide +kernel
theorem dX6_change_16 : decode cX6_change 16 = .ok (.iload_n 1, 1) := by decide +kernel
theorem dX6_change_17 : decode cX6_change 17 = .ok (.iload_n 2, 1) := by decide +kernel
theorem dX6_change_18 : decode cX6_change 18 = .ok (.iastore, 1) := by decide +kernel
theorem dX6_change_19 : decode cX6_change 19 = .ok (.return_, 1) := by decide +kernel
theorem dX6_addHearing_0 : decode cX6_addHearing 0 = .ok (.aload_n 0, 1) := by decide +kernel
theorem dX6_addHearing_1 : decode cX6_addHearing 1 = .ok (.getfield 25, 3) := by decide +kernel
theorem dX6_addHearing_4 : decode cX6_addHearing 4 = .ok (.bipush 16, 2) := by decide +kernel
theorem dX6_addHearing_6 : decode cX6_addHearing 6 = .ok (.if_icmp .ge 23, 3) := by decide +kernel
theorem dX6_addHearing_9 : decode cX6_addHearing 9 = .ok (.aload_n 0, 1) := by decide +kernel
theorem dX6_addHearing_10 : decode cX6_addHearing 10 = .ok (.getfield 11, 3) := by decide +kernel
theorem dX6_addHearing_13 : decode cX6_addHearing 13 = .ok (.aload_n 0, 1) := by decide +kernel
theorem dX6_addHearing_14 : decode cX6_addHearing 14 = .ok (.getfield 25, 3) := by decide +kernel
theorem dX6_addHearing_17 : decode cX6_addHearing 17 = .ok (.iload_n 1, 1) := by decide +kernel
theorem dX6_addHearing_18 : decode cX6_addHearing 18 = .ok (.iastore, 1) := by decide +kernel
theorem dX6_addHearing_19 : decode cX6_addHearing 19 = .ok (.aload_n 0, 1) := by decide +kernel
theorem dX6_addHearing_20 : decode cX6_addHearing 20 = .ok (.getfield 15, 3) := by decide +kernel
theorem dX6_addHearing_23 : decode cX6_addHearing 23 = .ok (.aload_n 0, 1) := by decide +kernel
theorem dX6_addHearing_24 : decode cX6_addHearing 24 = .ok (.getfield 25, 3) := by decide +kernel
theorem dX6_addHearing_27 : decode cX6_addHearing 27 = .ok (.iload_n 2, 1) := by decide +kernel
theorem dX6_addHearing_28 : decode cX6_addHearing 28 = .ok (.iastore, 1) := by decide +kernel
theorem dX6_addHearing_29 : decode cX6_addHearing 29 = .ok (.aload_n 0, 1) := by decide +kernel
theorem dX6_addHearing_30 : decode cX6_addHearing 30 = .ok (.dup, 1) := by decide +kernel
theorem dX6_addHearing_31 : decode cX6_addHearing 31 = .ok (.getfield 25, 3) := by decide +kernel
theorem dX6_addHearing_34 : decode cX6_addHearing 34 = .ok (.iconst 1, 1) := by decide +kernel
theorem dX6_addHearing_35 : decode cX6_addHearing 35 = .ok (.iadd, 1) := by decide +kernel
theorem dX6_addHearing_36 : decode cX6_addHearing 36 = .ok (.putfield 25, 3) := by decide +kernel
theorem dX6_addHearing_39 : decode cX6_addHearing 39 = .ok (.return_, 1) := by decide +kernel
theorem dX10_byteAt_0 : decode cX10_byteAt 0 = .ok (.iload_n 1, 1) := by decide +kernel
theorem dX10_byteAt_1 : decode cX10_byteAt 1 = .ok (.ifCond .lt 33, 3) := by decide +kernel
theorem dX10_byteAt_4 : decode cX10_byteAt 4 = .ok (.iload_n 1, 1) := by decide +kernel
theorem dX10_byteAt_5 : decode cX10_byteAt 5 = .ok (.aload_n 0, 1) := by decide +kernel
theorem dX10_byteAt_6 : decode cX10_byteAt 6 = .ok (.getfield 13, 3) := by decide +kernel
theorem dX10_byteAt_9 : decode cX10_byteAt 9 = .ok (.if_icmp .ge 25, 3) := by decide +kernel
theorem dX10_byteAt_12 : decode cX10_byteAt 12 = .ok (.iload_n 1, 1) := by decide +kernel
theorem dX10_byteAt_13 : decode cX10_byteAt 13 = .ok (.aload_n 0, 1) := by decide +kernel
theorem dX10_byteAt_14 : decode cX10_byteAt 14 = .ok (.getfield 7, 3) := by decide +kernel
theorem dX10_byteAt_17 : decode cX10_byteAt 17 = .ok (.arraylength, 1) := by decide +kernel
theorem dX10_byteAt_18 : decode cX10_byteAt 18 = .ok (.if_icmp .ge 16, 3) := by decide +kernel
theorem dX10_byteAt_21 : decode cX10_byteAt 21 = .ok (.aload_n 0, 1) := by decide +kernel
theorem dX10_byteAt_22 : decode cX10_byteAt 22 = .ok (.getfield 7, 3) := by decide +kernel
theorem dX10_byteAt_25 : decode cX10_byteAt 25 = .ok (.iload_n 1, 1) := by decide +kernel
theorem dX10_byteAt_26 : decode cX10_byteAt 26 = .ok (.baload, 1) := by decide +kernel
theorem dX10_byteAt_27 : decode cX10_byteAt 27 = .ok (.sipush 255, 3) := by decide +kernel
theorem dX10_byteAt_30 : decode cX10_byteAt 30 = .ok (.iand, 1) := by decide +kernel
theorem dX10_byteAt_31 : decode cX10_byteAt 31 = .ok (.goto 4, 3) := by decide +kernel
theorem dX10_byteAt_34 : decode cX10_byteAt 34 = .ok (.iconst 0, 1) := by decide +kernel
theorem dX10_byteAt_35 : decode cX10_byteAt 35 = .ok (.ireturn, 1) := by decide +kernel
theorem dX10_isBlank_0 : decode cX10_isBlank 0 = .ok (.iload_n 0, 1) := by decide +kernel
theorem dX10_isBlank_1 : decode cX10_isBlank 1 = .ok (.bipush 9, 2) := by decide +kernel
theorem dX10_isBlank_3 : decode cX10_isBlank 3 = .ok (.if_icmp .eq 21, 3) := by decide +kernel
theorem dX10_isBlank_6 : decode cX10_isBlank 6 = .ok (.iload_n 0, 1) := by decide +kernel
theorem dX10_isBlank_7 : decode cX10_isBlank 7 = .ok (.bipush 10, 2) := by decide +kernel
theorem dX10_isBlank_9 : decode cX10_isBlank 9 = .ok (.if_icmp .eq 15, 3) := by decide +kernel
theorem dX10_isBlank_12 : decode cX10_isBlank 12 = .ok (.iload_n 0, 1) := by decide +kernel
theorem dX10_isBlank_13 : decode cX10_isBlank 13 = .ok (.bipush 13, 2) := by decide +kernel
theorem dX10_isBlank_15 : decode cX10_isBlank 15 = .ok (.if_icmp .eq 9, 3) := by decide +kernel
theorem dX10_isBlank_18 : decode cX10_isBlank 18 = .ok (.iload_n 0, 1) := by decide +kernel
theorem dX10_isBlank_19 : decode cX10_isBlank 19 = .ok (.bipush 32, 2) := by decide +kernel
theorem dX10_isBlank_21 : decode cX10_isBlank 21 = .ok (.if_icmp .ne 7, 3) := by decide +kernel
theorem dX10_isBlank_24 : decode cX10_isBlank 24 = .ok (.iconst 1, 1) := by decide +kernel
theorem dX10_isBlank_25 : decode cX10_isBlank 25 = .ok (.goto 4, 3) := by decide +kernel
theorem dX10_isBlank_28 : decode cX10_isBlank 28 = .ok (.iconst 0, 1) := by decide +kernel
theorem dX10_isBlank_29 : decode cX10_isBlank 29 = .ok (.ireturn, 1) := by decide +kernel
theorem dX10_behindBlanks_0 : decode cX10_behindBlanks 0 = .ok (.iload_n 1, 1) := by decide +kernel
theorem dX10_behindBlanks_1 : decode cX10_behindBlanks 1 = .ok (.istore_n 2, 1) := by decide +kernel
theorem dX10_behindBlanks_2 : decode cX10_behindBlanks 2 = .ok (.iload_n 2, 1) := by decide +kernel
theorem dX10_behindBlanks_3 : decode cX10_behindBlanks 3 = .ok (.aload_n 0, 1) := by decide +kernel
theorem dX10_behindBlanks_4 : decode cX10_behindBlanks 4 = .ok (.getfield 13, 3) := by decide +kernel
theorem dX10_behindBlanks_7 : decode cX10_behindBlanks 7 = .ok (.if_icmp .ge 20, 3) := by decide +kernel
theorem dX10_behindBlanks_10 : decode cX10_behindBlanks 10 = .ok (.aload_n 0, 1) := by decide +kernel
theorem dX10_behindBlanks_11 : decode cX10_behindBlanks 11 = .ok (.iload_n 2, 1) := by decide +kernel
theorem dX10_behindBlanks_12 : decode cX10_behindBlanks 12 = .ok (.invokevirtual 43, 3) := by decide +kernel
theorem dX10_behindBlanks_15 : decode cX10_behindBlanks 15 = .ok (.invokestatic 72, 3) := by decide +kernel
theorem dX10_behindBlanks_18 : decode cX10_behindBlanks 18 = .ok (.ifCond .eq 9, 3) := by decide +kernel
theorem dX10_behindBlanks_21 : decode cX10_behindBlanks 21 = .ok (.iinc 2 1, 3) := by decide +kernel
theorem dX10_behindBlanks_24 : decode cX10_behindBlanks 24 = .ok (.goto (-22), 3) := by decide +kernel
theorem dX10_behindBlanks_27 : decode cX10_behindBlanks 27 = .ok (.iload_n 2, 1) := by decide +kernel
theorem dX10_behindBlanks_28 : decode cX10_behindBlanks 28 = .ok (.ireturn, 1) := by decide +kernel
theorem dX10_isDigit_0 : decode cX10_isDigit 0 = .ok (.iload_n 0, 1) := by decide +kernel
theorem dX10_isDigit_1 : decode cX10_isDigit 1 = .ok (.bipush 48, 2) := by decide +kernel
theorem dX10_isDigit_3 : decode cX10_isDigit 3 = .ok (.if_icmp .lt 13, 3) := by decide +kernel
theorem dX10_isDigit_6 : decode cX10_isDigit 6 = .ok (.iload_n 0, 1) := by decide +kernel
theorem dX10_isDigit_7 : decode cX10_isDigit 7 = .ok (.bipush 57, 2) := by decide +kernel
theorem dX10_isDigit_9 : decode cX10_isDigit 9 = .ok (.if_icmp .gt 7, 3) := by decide +kernel
theorem dX10_isDigit_12 : decode cX10_isDigit 12 = .ok (.iconst 1, 1) := by decide +kernel
theorem dX10_isDigit_13 : decode cX10_isDigit 13 = .ok (.goto 4, 3) := by decide +kernel
theorem dX10_isDigit_16 : decode cX10_isDigit 16 = .ok (.iconst 0, 1) := by decide +kernel
theorem dX10_isDigit_17 : decode cX10_isDigit 17 = .ok (.ireturn, 1) := by decide +kernel
theorem dX10_isLetter_0 : decode cX10_isLetter 0 = .ok (.iload_n 0, 1) := by decide +kernel
theorem dX10_isLetter_1 : decode cX10_isLetter 1 = .ok (.bipush 97, 2) := by decide +kernel
theorem dX10_isLetter_3 : decode cX10_isLetter 3 = .ok (.if_icmp .lt 9, 3) := by decide +kernel
theorem dX10_isLetter_6 : decode cX10_isLetter 6 = .ok (.iload_n 0, 1) := by decide +kernel
theorem dX10_isLetter_7 : decode cX10_isLetter 7 = .ok (.bipush 122, 2) := by decide +kernel
theorem dX10_isLetter_9 : decode cX10_isLetter 9 = .ok (.if_icmp .le 15, 3) := by decide +kernel
theorem dX10_isLetter_12 : decode cX10_isLetter 12 = .ok (.iload_n 0, 1) := by decide +kernel
theorem dX10_isLetter_13 : decode cX10_isLetter 13 = .ok (.bipush 65, 2) := by decide +kernel
theorem dX10_isLetter_15 : decode cX10_isLetter 15 = .ok (.if_icmp .lt 13, 3) := by decide +kernel
theorem dX10_isLetter_18 : decode cX10_isLetter 18 = .ok (.iload_n 0, 1) := by decide +kernel
theorem dX10_isLetter_19 : decode cX10_isLetter 19 = .ok (.bipush 90, 2) := by decide +kernel
theorem dX10_isLetter_21 : decode cX10_isLetter 21 = .ok (.if_icmp .gt 7, 3) := by decide +kernel
theorem dX10_isLetter_24 : decode cX10_isLetter 24 = .ok (.iconst 1, 1) := by decide +kernel
theorem dX10_isLetter_25 : decode cX10_isLetter 25 = .ok (.goto 4, 3) := by decide +kernel
theorem dX10_isLetter_28 : decode cX10_isLetter 28 = .ok (.iconst 0, 1) := by decide +kernel
theorem dX10_isLetter_29 : decode cX10_isLetter 29 = .ok (.ireturn, 1) := by decide +kernel
theorem dX10_behindLettersAndDigits_0 : decode cX10_behindLettersAndDigits 0 = .ok (.iload_n 1, 1) := by decide +kernel
theorem dX10_behindLettersAndDigits_1 : decode cX10_behindLettersAndDigits 1 = .ok (.istore_n 2, 1) := by decide +kernel
theorem dX10_behindLettersAndDigits_2 : decode cX10_behindLettersAndDigits 2 = .ok (.iload_n 2, 1) := by decide +kernel
theorem dX10_behindLettersAndDigits_3 : decode cX10_behindLettersAndDigits 3 = .ok (.aload_n 0, 1) := by decide +kernel
theorem dX10_behindLettersAndDigits_4 : decode cX10_behindLettersAndDigits 4 = .ok (.getfield 13, 3) := by decide +kernel
theorem dX10_behindLettersAndDigits_7 : decode cX10_behindLettersAndDigits 7 = .ok (.if_icmp .ge 31, 3) := by decide +kernel
theorem dX10_behindLettersAndDigits_10 : decode cX10_behindLettersAndDigits 10 = .ok (.aload_n 0, 1) := by decide +kernel
theorem dX10_behindLettersAndDigits_11 : decode cX10_behindLettersAndDigits 11 = .ok (.iload_n 2, 1) := by decide +kernel
theorem dX10_behindLettersAndDigits_12 : decode cX10_behindLettersAndDigits 12 = .ok (.invokevirtual 43, 3) := by decide +kernel
theorem dX10_behindLettersAndDigits_15 : decode cX10_behindLettersAndDigits 15 = .ok (.invokestatic 53, 3) := by decide +kernel
theorem dX10_behindLettersAndDigits_18 : decode cX10_behindLettersAndDigits 18 = .ok (.ifCond .ne 14, 3) := by decide +kernel
theorem dX10_behindLettersAndDigits_21 : decode cX10_behindLettersAndDigits 21 = .ok (.aload_n 0, 1) := by decide +kernel
theorem dX10_behindLettersAndDigits_22 : decode cX10_behindLettersAndDigits 22 = .ok (.iload_n 2, 1) := by decide +kernel
theorem dX10_behindLettersAndDigits_23 : decode cX10_behindLettersAndDigits 23 = .ok (.invokevirtual 43, 3) := by decide +kernel
theorem dX10_behindLettersAndDigits_26 : decode cX10_behindLettersAndDigits 26 = .ok (.invokestatic 46, 3) := by decide +kernel
theorem dX10_behindLettersAndDigits_29 : decode cX10_behindLettersAndDigits 29 = .ok (.ifCond .eq 9, 3) := by decide +kernel
theorem dX10_behindLettersAndDigits_32 : decode cX10_behindLettersAndDigits 32 = .ok (.iinc 2 1, 3) := by decide +kernel
theorem dX10_behindLettersAndDigits_35 : decode cX10_behindLettersAndDigits 35 = .ok (.goto (-33), 3) := by decide +kernel
theorem dX10_behindLettersAndDigits_38 : decode cX10_behindLettersAndDigits 38 = .ok (.iload_n 2, 1) := by decide +kernel
theorem dX10_behindLettersAndDigits_39 : decode cX10_behindLettersAndDigits 39 = .ok (.ireturn, 1) := by decide +kernel
theorem dX10_put_0 : decode cX10_put 0 = .ok (.aload_n 0, 1) := by decide +kernel
theorem dX10_put_1 : decode cX10_put 1 = .ok (.getfield 69, 3) := by decide +kernel
theorem dX10_put_4 : decode cX10_put 4 = .ok (.aload_n 0, 1) := by decide +kernel
theorem dX10_put_5 : decode cX10_put 5 = .ok (.getfield 17, 3) := by decide +kernel
theorem dX10_put_8 : decode cX10_put 8 = .ok (.arraylength, 1) := by decide +kernel
theorem dX10_put_9 : decode cX10_put 9 = .ok (.if_icmp .ge 43, 3) := by decide +kernel
theorem dX10_put_12 : decode cX10_put 12 = .ok (.aload_n 0, 1) := by decide +kernel
theorem dX10_put_13 : decode cX10_put 13 = .ok (.getfield 17, 3) := by decide +kernel
theorem dX10_put_16 : decode cX10_put 16 = .ok (.aload_n 0, 1) := by decide +kernel
theorem dX10_put_17 : decode cX10_put 17 = .ok (.getfield 69, 3) := by decide +kernel
theorem dX10_put_20 : decode cX10_put 20 = .ok (.iload_n 1, 1) := by decide +kernel
theorem dX10_put_21 : decode cX10_put 21 = .ok (.iastore, 1) := by decide +kernel
theorem dX10_put_22 : decode cX10_put 22 = .ok (.aload_n 0, 1) := by decide +kernel
theorem dX10_put_23 : decode cX10_put 23 = .ok (.getfield 21, 3) := by decide +kernel
theorem dX10_put_26 : decode cX10_put 26 = .ok (.aload_n 0, 1) := by decide +kernel
theorem dX10_put_27 : decode cX10_put 27 = .ok (.getfield 69, 3) := by decide +kernel
theorem dX10_put_30 : decode cX10_put 30 = .ok (.iload_n 2, 1) := by decide +kernel
theorem dX10_put_31 : decode cX10_put 31 = .ok (.iastore, 1) := by decide +kernel
theorem dX10_put_32 : decode cX10_put 32 = .ok (.aload_n 0, 1) := by decide +kernel
theorem dX10_put_33 : decode cX10_put 33 = .ok (.getfield 24, 3) := by decide +kernel
theorem dX10_put_36 : decode cX10_put 36 = .ok (.aload_n 0, 1) := by decide +kernel
theorem dX10_put_37 : decode cX10_put 37 = .ok (.getfield 69, 3) := by decide +kernel
theorem dX10_put_40 : decode cX10_put 40 = .ok (.iload_n 3, 1) := by decide +kernel
theorem dX10_put_41 : decode cX10_put 41 = .ok (.iastore, 1) := by decide +kernel
theorem dX10_put_42 : decode cX10_put 42 = .ok (.aload_n 0, 1) := by decide +kernel
theorem dX10_put_43 : decode cX10_put 43 = .ok (.dup, 1) := by decide +kernel
theorem dX10_put_44 : decode cX10_put 44 = .ok (.getfield 69, 3) := by decide +kernel
theorem dX10_put_47 : decode cX10_put 47 = .ok (.iconst 1, 1) := by decide +kernel
theorem dX10_put_48 : decode cX10_put 48 = .ok (.iadd, 1) := by decide +kernel
theorem dX10_put_49 : decode cX10_put 49 = .ok (.putfield 69, 3) := by decide +kernel
theorem dX10_put_52 : decode cX10_put 52 = .ok (.return_, 1) := by decide +kernel
theorem dX10_putNumber_0 : decode cX10_putNumber 0 = .ok (.aload_n 0, 1) := by decide +kernel
theorem dX10_putNumber_1 : decode cX10_putNumber 1 = .ok (.iload_n 1, 1) := by decide +kernel
theorem dX10_putNumber_2 : decode cX10_putNumber 2 = .ok (.invokevirtual 75, 3) := by decide +kernel
theorem dX10_putNumber_5 : decode cX10_putNumber 5 = .ok (.istore_n 2, 1) := by decide +kernel
theorem dX10_putNumber_6 : decode cX10_putNumber 6 = .ok (.iconst 0, 1) := by decide +kernel
theorem dX10_putNumber_7 : decode cX10_putNumber 7 = .ok (.istore_n 3, 1) := by decide +kernel
theorem dX10_putNumber_8 : decode cX10_putNumber 8 = .ok (.iload_n 2, 1) := by decide +kernel
theorem dX10_putNumber_9 : decode cX10_putNumber 9 = .ok (.iload_n 1, 1) := by decide +kernel
theorem dX10_putNumber_10 : decode cX10_putNumber 10 = .ok (.isub, 1) := by decide +kernel
theorem dX10_putNumber_11 : decode cX10_putNumber 11 = .ok (.bipush 9, 2) := by decide +kernel
theorem dX10_putNumber_13 : decode cX10_putNumber 13 = .ok (.if_icmp .le 7, 3) := by decide +kernel
theorem dX10_putNumber_16 : decode cX10_putNumber 16 = .ok (.iconst 1, 1) := by decide +kernel
theorem dX10_putNumber_17 : decode cX10_putNumber 17 = .ok (.goto 4, 3) := by decide +kernel
theorem dX10_putNumber_20 : decode cX10_putNumber 20 = .ok (.iconst 0, 1) := by decide +kernel
theorem dX10_putNumber_21 : decode cX10_putNumber 21 = .ok (.istore 4, 2) := by decide +kernel
theorem dX10_putNumber_23 : decode cX10_putNumber 23 = .ok (.iload_n 1, 1) := by decide +kernel
theorem dX10_putNumber_24 : decode cX10_putNumber 24 = .ok (.istore 5, 2) := by decide +kernel
theorem dX10_putNumber_26 : decode cX10_putNumber 26 = .ok (.iload 5, 2) := by decide +kernel
theorem dX10_putNumber_28 : decode cX10_putNumber 28 = .ok (.iload_n 2, 1) := by decide +kernel
theorem dX10_putNumber_29 : decode cX10_putNumber 29 = .ok (.if_icmp .ge 48, 3) := by decide +kernel
theorem dX10_putNumber_32 : decode cX10_putNumber 32 = .ok (.iload 4, 2) := by decide +kernel
theorem dX10_putNumber_34 : decode cX10_putNumber 34 = .ok (.ifCond .ne 15, 3) := by decide +kernel
theorem dX10_putNumber_37 : decode cX10_putNumber 37 = .ok (.aload_n 0, 1) := by decide +kernel
theorem dX10_putNumber_38 : decode cX10_putNumber 38 = .ok (.iload 5, 2) := by decide +kernel
theorem dX10_putNumber_40 : decode cX10_putNumber 40 = .ok (.invokevirtual 43, 3) := by decide +kernel
theorem dX10_putNumber_43 : decode cX10_putNumber 43 = .ok (.invokestatic 46, 3) := by decide +kernel
theorem dX10_putNumber_46 : decode cX10_putNumber 46 = .ok (.ifCond .ne 7, 3) := by decide +kernel
theorem dX10_putNumber_49 : decode cX10_putNumber 49 = .ok (.iconst 1, 1) := by decide +kernel
theorem dX10_putNumber_50 : decode cX10_putNumber 50 = .ok (.goto 4, 3) := by decide +kernel
theorem dX10_putNumber_53 : decode cX10_putNumber 53 = .ok (.iconst 0, 1) := by decide +kernel
theorem dX10_putNumber_54 : decode cX10_putNumber 54 = .ok (.istore 4, 2) := by decide +kernel
theorem dX10_putNumber_56 : decode cX10_putNumber 56 = .ok (.iload_n 3, 1) := by decide +kernel
theorem dX10_putNumber_57 : decode cX10_putNumber 57 = .ok (.bipush 10, 2) := by decide +kernel
theorem dX10_putNumber_59 : decode cX10_putNumber 59 = .ok (.imul, 1) := by decide +kernel
theorem dX10_putNumber_60 : decode cX10_putNumber 60 = .ok (.aload_n 0, 1) := by decide +kernel
theorem dX10_putNumber_61 : decode cX10_putNumber 61 = .ok (.iload 5, 2) := by decide +kernel
theorem dX10_putNumber_63 : decode cX10_putNumber 63 = .ok (.invokevirtual 43, 3) := by decide +kernel
theorem dX10_putNumber_66 : decode cX10_putNumber 66 = .ok (.iadd, 1) := by decide +kernel
theorem dX10_putNumber_67 : decode cX10_putNumber 67 = .ok (.bipush 48, 2) := by decide +kernel
theorem dX10_putNumber_69 : decode cX10_putNumber 69 = .ok (.isub, 1) := by decide +kernel
theorem dX10_putNumber_70 : decode cX10_putNumber 70 = .ok (.istore_n 3, 1) := by decide +kernel
theorem dX10_putNumber_71 : decode cX10_putNumber 71 = .ok (.iinc 5 1, 3) := by decide +kernel
theorem dX10_putNumber_74 : decode cX10_putNumber 74 = .ok (.goto (-48), 3) := by decide +kernel
theorem dX10_putNumber_77 : decode cX10_putNumber 77 = .ok (.aload_n 0, 1) := by decide +kernel
theorem dX10_putNumber_78 : decode cX10_putNumber 78 = .ok (.iload 4, 2) := by decide +kernel
theorem dX10_putNumber_80 : decode cX10_putNumber 80 = .ok (.ifCond .eq 9, 3) := by decide +kernel
theorem dX10_putNumber_83 : decode cX10_putNumber 83 = .ok (.sipush 136, 3) := by decide +kernel
theorem dX10_putNumber_86 : decode cX10_putNumber 86 = .ok (.goto 6, 3) := by decide +kernel
theorem dX10_putNumber_89 : decode cX10_putNumber 89 = .ok (.sipush 132, 3) := by decide +kernel
theorem dX10_putNumber_92 : decode cX10_putNumber 92 = .ok (.iload_n 3, 1) := by decide +kernel
theorem dX10_putNumber_93 : decode cX10_putNumber 93 = .ok (.iload_n 1, 1) := by decide +kernel
theorem dX10_putNumber_94 : decode cX10_putNumber 94 = .ok (.invokevirtual 65, 3) := by decide +kernel
theorem dX10_putNumber_97 : decode cX10_putNumber 97 = .ok (.iload_n 2, 1) := by decide +kernel
theorem dX10_putNumber_98 : decode cX10_putNumber 98 = .ok (.ireturn, 1) := by decide +kernel
theorem dX10_putWord_0 : decode cX10_putWord 0 = .ok (.aload_n 0, 1) := by decide +kernel
theorem dX10_putWord_1 : decode cX10_putWord 1 = .ok (.iload_n 1, 1) := by decide +kernel
theorem dX10_putWord_2 : decode cX10_putWord 2 = .ok (.invokevirtual 75, 3) := by decide +kernel
theorem dX10_putWord_5 : decode cX10_putWord 5 = .ok (.istore_n 2, 1) := by decide +kernel
theorem dX10_putWord_6 : decode cX10_putWord 6 = .ok (.iload_n 2, 1) := by decide +kernel
theorem dX10_putWord_7 : decode cX10_putWord 7 = .ok (.iload_n 1, 1) := by decide +kernel
theorem dX10_putWord_8 : decode cX10_putWord 8 = .ok (.isub, 1) := by decide +kernel
theorem dX10_putWord_9 : decode cX10_putWord 9 = .ok (.bipush 10, 2) := by decide +kernel
theorem dX10_putWord_11 : decode cX10_putWord 11 = .ok (.if_icmp .le 14, 3) := by decide +kernel
theorem dX10_putWord_14 : decode cX10_putWord 14 = .ok (.aload_n 0, 1) := by decide +kernel
theorem dX10_putWord_15 : decode cX10_putWord 15 = .ok (.sipush 136, 3) := by decide +kernel
theorem dX10_putWord_18 : decode cX10_putWord 18 = .ok (.iconst 0, 1) := by decide +kernel
theorem dX10_putWord_19 : decode cX10_putWord 19 = .ok (.iload_n 1, 1) := by decide +kernel
theorem dX10_putWord_20 : decode cX10_putWord 20 = .ok (.invokevirtual 65, 3) := by decide +kernel
theorem dX10_putWord_23 : decode cX10_putWord 23 = .ok (.iload_n 2, 1) := by decide +kernel
theorem dX10_putWord_24 : decode cX10_putWord 24 = .ok (.ireturn, 1) := by decide +kernel
theorem dX10_putWord_25 : decode cX10_putWord 25 = .ok (.lconst 0, 1) := by decide +kernel
theorem dX10_putWord_26 : decode cX10_putWord 26 = .ok (.lstore_n 3, 1) := by decide +kernel
theorem dX10_putWord_27 : decode cX10_putWord 27 = .ok (.iload_n 1, 1) := by decide +kernel
theorem dX10_putWord_28 : decode cX10_putWord 28 = .ok (.istore 5, 2) := by decide +kernel
theorem dX10_putWord_30 : decode cX10_putWord 30 = .ok (.iload 5, 2) := by decide +kernel
theorem dX10_putWord_32 : decode cX10_putWord 32 = .ok (.iload_n 2, 1) := by decide +kernel
theorem dX10_putWord_33 : decode cX10_putWord 33 = .ok (.if_icmp .ge 20, 3) := by decide +kernel
theorem dX10_putWord_36 : decode cX10_putWord 36 = .ok (.lload_n 3, 1) := by decide +kernel
theorem dX10_putWord_37 : decode cX10_putWord 37 = .ok (.aload_n 0, 1) := by decide +kernel
theorem dX10_putWord_38 : decode cX10_putWord 38 = .ok (.iload 5, 2) := by decide +kernel
theorem dX10_putWord_40 : decode cX10_putWord 40 = .ok (.invokevirtual 43, 3) := by decide +kernel
theorem dX10_putWord_43 : decode cX10_putWord 43 = .ok (.invokestatic 78, 3) := by decide +kernel
theorem dX10_putWord_46 : decode cX10_putWord 46 = .ok (.lstore_n 3, 1) := by decide +kernel
theorem dX10_putWord_47 : decode cX10_putWord 47 = .ok (.iinc 5 1, 3) := by decide +kernel
theorem dX10_putWord_50 : decode cX10_putWord 50 = .ok (.goto (-20), 3) := by decide +kernel
theorem dX10_putWord_53 : decode cX10_putWord 53 = .ok (.aload_n 0, 1) := by decide +kernel
theorem dX10_putWord_54 : decode cX10_putWord 54 = .ok (.getfield 32, 3) := by decide +kernel
theorem dX10_putWord_57 : decode cX10_putWord 57 = .ok (.lload_n 3, 1) := by decide +kernel
theorem dX10_putWord_58 : decode cX10_putWord 58 = .ok (.invokevirtual 82, 3) := by decide +kernel
theorem dX10_putWord_61 : decode cX10_putWord 61 = .ok (.istore 5, 2) := by decide +kernel
theorem dX10_putWord_63 : decode cX10_putWord 63 = .ok (.iload 5, 2) := by decide +kernel
theorem dX10_putWord_65 : decode cX10_putWord 65 = .ok (.bipush 33, 2) := by decide +kernel
theorem dX10_putWord_67 : decode cX10_putWord 67 = .ok (.if_icmp .ge 19, 3) := by decide +kernel
theorem dX10_putWord_70 : decode cX10_putWord 70 = .ok (.aload_n 0, 1) := by decide +kernel
theorem dX10_putWord_71 : decode cX10_putWord 71 = .ok (.sipush 200, 3) := by decide +kernel
theorem dX10_putWord_74 : decode cX10_putWord 74 = .ok (.iload 5, 2) := by decide +kernel
theorem dX10_putWord_76 : decode cX10_putWord 76 = .ok (.iadd, 1) := by decide +kernel
theorem dX10_putWord_77 : decode cX10_putWord 77 = .ok (.iload 5, 2) := by decide +kernel
theorem dX10_putWord_79 : decode cX10_putWord 79 = .ok (.iload_n 1, 1) := by decide +kernel
theorem dX10_putWord_80 : decode cX10_putWord 80 = .ok (.invokevirtual 65, 3) := by decide +kernel
theorem dX10_putWord_83 : decode cX10_putWord 83 = .ok (.goto 29, 3) := by decide +kernel
theorem dX10_putWord_86 : decode cX10_putWord 86 = .ok (.aload_n 0, 1) := by decide +kernel
theorem dX10_putWord_87 : decode cX10_putWord 87 = .ok (.aload_n 0, 1) := by decide +kernel
theorem dX10_putWord_88 : decode cX10_putWord 88 = .ok (.iload_n 1, 1) := by decide +kernel
theorem dX10_putWord_89 : decode cX10_putWord 89 = .ok (.invokevirtual 43, 3) := by decide +kernel
theorem dX10_putWord_92 : decode cX10_putWord 92 = .ok (.bipush 97, 2) := by decide +kernel
theorem dX10_putWord_94 : decode cX10_putWord 94 = .ok (.if_icmp .lt 9, 3) := by decide +kernel
theorem dX10_putWord_97 : decode cX10_putWord 97 = .ok (.sipush 130, 3) := by decide +kernel
theorem dX10_putWord_100 : decode cX10_putWord 100 = .ok (.goto 6, 3) := by decide +kernel
theorem dX10_putWord_103 : decode cX10_putWord 103 = .ok (.sipush 131, 3) := by decide +kernel
theorem dX10_putWord_106 : decode cX10_putWord 106 = .ok (.iload 5, 2) := by decide +kernel
theorem dX10_putWord_108 : decode cX10_putWord 108 = .ok (.iload_n 1, 1) := by decide +kernel
theorem dX10_putWord_109 : decode cX10_putWord 109 = .ok (.invokevirtual 65, 3) := by decide +kernel
theorem dX10_putWord_112 : decode cX10_putWord 112 = .ok (.iload_n 2, 1) := by decide +kernel
theorem dX10_putWord_113 : decode cX10_putWord 113 = .ok (.ireturn, 1) := by decide +kernel
theorem dX10_putSign_0 : decode cX10_putSign 0 = .ok (.aload_n 0, 1) := by decide +kernel
theorem dX10_putSign_1 : decode cX10_putSign 1 = .ok (.iload_n 1, 1) := by decide +kernel
theorem dX10_putSign_2 : decode cX10_putSign 2 = .ok (.iconst 1, 1) := by decide +kernel
theorem dX10_putSign_3 : decode cX10_putSign 3 = .ok (.iadd, 1) := by decide +kernel
theorem dX10_putSign_4 : decode cX10_putSign 4 = .ok (.invokevirtual 43, 3) := by decide +kernel
theorem dX10_putSign_7 : decode cX10_putSign 7 = .ok (.bipush 61, 2) := by decide +kernel
theorem dX10_putSign_9 : decode cX10_putSign 9 = .ok (.if_icmp .ne 40, 3) := by decide +kernel
theorem dX10_putSign_12 : decode cX10_putSign 12 = .ok (.iload_n 2, 1) := by decide +kernel
theorem dX10_putSign_13 : decode cX10_putSign 13 = .ok (.bipush 61, 2) := by decide +kernel
theorem dX10_putSign_15 : decode cX10_putSign 15 = .ok (.if_icmp .eq 9, 3) := by decide +kernel
theorem dX10_putSign_18 : decode cX10_putSign 18 = .ok (.iload_n 2, 1) := by decide +kernel
theorem dX10_putSign_19 : decode cX10_putSign 19 = .ok (.bipush 33, 2) := by decide +kernel
theorem dX10_putSign_21 : decode cX10_putSign 21 = .ok (.if_icmp .ne 28, 3) := by decide +kernel
theorem dX10_putSign_24 : decode cX10_putSign 24 = .ok (.aload_n 0, 1) := by decide +kernel
theorem dX10_putSign_25 : decode cX10_putSign 25 = .ok (.iload_n 2, 1) := by decide +kernel
theorem dX10_putSign_26 : decode cX10_putSign 26 = .ok (.bipush 61, 2) := by decide +kernel
theorem dX10_putSign_28 : decode cX10_putSign 28 = .ok (.if_icmp .ne 9, 3) := by decide +kernel
theorem dX10_putSign_31 : decode cX10_putSign 31 = .ok (.sipush 133, 3) := by decide +kernel
theorem dX10_putSign_34 : decode cX10_putSign 34 = .ok (.goto 6, 3) := by decide +kernel
theorem dX10_putSign_37 : decode cX10_putSign 37 = .ok (.sipush 134, 3) := by decide +kernel
theorem dX10_putSign_40 : decode cX10_putSign 40 = .ok (.iconst 0, 1) := by decide +kernel
theorem dX10_putSign_41 : decode cX10_putSign 41 = .ok (.iload_n 1, 1) := by decide +kernel
theorem dX10_putSign_42 : decode cX10_putSign 42 = .ok (.invokevirtual 65, 3) := by decide +kernel
theorem dX10_putSign_45 : decode cX10_putSign 45 = .ok (.iload_n 1, 1) := by decide +kernel
theorem dX10_putSign_46 : decode cX10_putSign 46 = .ok (.iconst 2, 1) := by decide +kernel
theorem dX10_putSign_47 : decode cX10_putSign 47 = .ok (.iadd, 1) := by decide +kernel
theorem dX10_putSign_48 : decode cX10_putSign 48 = .ok (.ireturn, 1) := by decide +kernel
theorem dX10_putSign_49 : decode cX10_putSign 49 = .ok (.aload_n 0, 1) := by decide +kernel
theorem dX10_putSign_50 : decode cX10_putSign 50 = .ok (.ldc 86, 2) := by decide +kernel
theorem dX10_putSign_52 : decode cX10_putSign 52 = .ok (.iload_n 2, 1) := by decide +kernel
theorem dX10_putSign_53 : decode cX10_putSign 53 = .ok (.i2c, 1) := by decide +kernel
theorem dX10_putSign_54 : decode cX10_putSign 54 = .ok (.invokevirtual 88, 3) := by decide +kernel
theorem dX10_putSign_57 : decode cX10_putSign 57 = .ok (.ifCond .lt 7, 3) := by decide +kernel
theorem dX10_putSign_60 : decode cX10_putSign 60 = .ok (.iload_n 2, 1) := by decide +kernel
theorem dX10_putSign_61 : decode cX10_putSign 61 = .ok (.goto 6, 3) := by decide +kernel
theorem dX10_putSign_64 : decode cX10_putSign 64 = .ok (.sipush 136, 3) := by decide +kernel
theorem dX10_putSign_67 : decode cX10_putSign 67 = .ok (.iconst 0, 1) := by decide +kernel
theorem dX10_putSign_68 : decode cX10_putSign 68 = .ok (.iload_n 1, 1) := by decide +kernel
theorem dX10_putSign_69 : decode cX10_putSign 69 = .ok (.invokevirtual 65, 3) := by decide +kernel
theorem dX10_putSign_72 : decode cX10_putSign 72 = .ok (.iload_n 1, 1) := by decide +kernel
theorem dX10_putSign_73 : decode cX10_putSign 73 = .ok (.iconst 1, 1) := by decide +kernel
theorem dX10_putSign_74 : decode cX10_putSign 74 = .ok (.iadd, 1) := by decide +kernel
theorem dX10_putSign_75 : decode cX10_putSign 75 = .ok (.ireturn, 1) := by decide +kernel
theorem dX10_split_0 : decode cX10_split 0 = .ok (.aload_n 0, 1) := by decide +kernel
theorem dX10_split_1 : decode cX10_split 1 = .ok (.getfield 32, 3) := by decide +kernel
theorem dX10_split_4 : decode cX10_split 4 = .ok (.invokevirtual 36, 3) := by decide +kernel
theorem dX10_split_7 : decode cX10_split 7 = .ok (.iconst 0, 1) := by decide +kernel
theorem dX10_split_8 : decode cX10_split 8 = .ok (.istore_n 1, 1) := by decide +kernel
theorem dX10_split_9 : decode cX10_split 9 = .ok (.iconst 0, 1) := by decide +kernel
theorem dX10_split_10 : decode cX10_split 10 = .ok (.istore_n 2, 1) := by decide +kernel
theorem dX10_split_11 : decode cX10_split 11 = .ok (.iload_n 2, 1) := by decide +kernel
theorem dX10_split_12 : decode cX10_split 12 = .ok (.aload_n 0, 1) := by decide +kernel
theorem dX10_split_13 : decode cX10_split 13 = .ok (.getfield 13, 3) := by decide +kernel
theorem dX10_split_16 : decode cX10_split 16 = .ok (.if_icmp .ge 76, 3) := by decide +kernel
theorem dX10_split_19 : decode cX10_split 19 = .ok (.iload_n 1, 1) := by decide +kernel
theorem dX10_split_20 : decode cX10_split 20 = .ok (.aload_n 0, 1) := by decide +kernel
theorem dX10_split_21 : decode cX10_split 21 = .ok (.getfield 13, 3) := by decide +kernel
theorem dX10_split_24 : decode cX10_split 24 = .ok (.if_icmp .ge 68, 3) := by decide +kernel
theorem dX10_split_27 : decode cX10_split 27 = .ok (.aload_n 0, 1) := by decide +kernel
theorem dX10_split_28 : decode cX10_split 28 = .ok (.iload_n 1, 1) := by decide +kernel
theorem dX10_split_29 : decode cX10_split 29 = .ok (.invokevirtual 39, 3) := by decide +kernel
theorem dX10_split_32 : decode cX10_split 32 = .ok (.istore_n 1, 1) := by decide +kernel
theorem dX10_split_33 : decode cX10_split 33 = .ok (.aload_n 0, 1) := by decide +kernel
theorem dX10_split_34 : decode cX10_split 34 = .ok (.iload_n 1, 1) := by decide +kernel
theorem dX10_split_35 : decode cX10_split 35 = .ok (.invokevirtual 43, 3) := by decide +kernel
theorem dX10_split_38 : decode cX10_split 38 = .ok (.istore_n 3, 1) := by decide +kernel
theorem dX10_split_39 : decode cX10_split 39 = .ok (.iload_n 3, 1) := by decide +kernel
theorem dX10_split_40 : decode cX10_split 40 = .ok (.invokestatic 46, 3) := by decide +kernel
theorem dX10_split_43 : decode cX10_split 43 = .ok (.ifCond .eq 12, 3) := by decide +kernel
theorem dX10_split_46 : decode cX10_split 46 = .ok (.aload_n 0, 1) := by decide +kernel
theorem dX10_split_47 : decode cX10_split 47 = .ok (.iload_n 1, 1) := by decide +kernel
theorem dX10_split_48 : decode cX10_split 48 = .ok (.invokevirtual 50, 3) := by decide +kernel
theorem dX10_split_51 : decode cX10_split 51 = .ok (.istore_n 1, 1) := by decide +kernel
theorem dX10_split_52 : decode cX10_split 52 = .ok (.goto 34, 3) := by decide +kernel
theorem dX10_split_55 : decode cX10_split 55 = .ok (.iload_n 3, 1) := by decide +kernel
theorem dX10_split_56 : decode cX10_split 56 = .ok (.invokestatic 53, 3) := by decide +kernel
theorem dX10_split_59 : decode cX10_split 59 = .ok (.ifCond .eq 12, 3) := by decide +kernel
theorem dX10_split_62 : decode cX10_split 62 = .ok (.aload_n 0, 1) := by decide +kernel
theorem dX10_split_63 : decode cX10_split 63 = .ok (.iload_n 1, 1) := by decide +kernel
theorem dX10_split_64 : decode cX10_split 64 = .ok (.invokevirtual 56, 3) := by decide +kernel
theorem dX10_split_67 : decode cX10_split 67 = .ok (.istore_n 1, 1) := by decide +kernel
theorem dX10_split_68 : decode cX10_split 68 = .ok (.goto 18, 3) := by decide +kernel
theorem dX10_split_71 : decode cX10_split 71 = .ok (.iload_n 1, 1) := by decide +kernel
theorem dX10_split_72 : decode cX10_split 72 = .ok (.aload_n 0, 1) := by decide +kernel
theorem dX10_split_73 : decode cX10_split 73 = .ok (.getfield 13, 3) := by decide +kernel
theorem dX10_split_76 : decode cX10_split 76 = .ok (.if_icmp .ge 10, 3) := by decide +kernel
theorem dX10_split_79 : decode cX10_split 79 = .ok (.aload_n 0, 1) := by decide +kernel
theorem dX10_split_80 : decode cX10_split 80 = .ok (.iload_n 1, 1) := by decide +kernel
theorem dX10_split_81 : decode cX10_split 81 = .ok (.iload_n 3, 1) := by decide +kernel
theorem dX10_split_82 : decode cX10_split 82 = .ok (.invokevirtual 59, 3) := by decide +kernel
theorem dX10_split_85 : decode cX10_split 85 = .ok (.istore_n 1, 1) := by decide +kernel
theorem dX10_split_86 : decode cX10_split 86 = .ok (.iinc 2 1, 3) := by decide +kernel
theorem dX10_split_89 : decode cX10_split 89 = .ok (.goto (-78), 3) := by decide +kernel
theorem dX10_split_92 : decode cX10_split 92 = .ok (.aload_n 0, 1) := by decide +kernel
theorem dX10_split_93 : decode cX10_split 93 = .ok (.sipush 135, 3) := by decide +kernel
theorem dX10_split_96 : decode cX10_split 96 = .ok (.iconst 0, 1) := by decide +kernel
theorem dX10_split_97 : decode cX10_split 97 = .ok (.aload_n 0, 1) := by decide +kernel
theorem dX10_split_98 : decode cX10_split 98 = .ok (.getfield 13, 3) := by decide +kernel
theorem dX10_split_101 : decode cX10_split 101 = .ok (.invokevirtual 65, 3) := by decide +kernel
theorem dX10_split_104 : decode cX10_split 104 = .ok (.return_, 1) := by decide +kernel
theorem dX7_advance_0 : decode cX7_advance 0 = .ok (.aload_n 0, 1) := by decide +kernel
theorem dX7_advance_1 : decode cX7_advance 1 = .ok (.getfield 62, 3) := by decide +kernel
theorem dX7_advance_4 : decode cX7_advance 4 = .ok (.sipush 137, 3) := by decide +kernel
theorem dX7_advance_7 : decode cX7_advance 7 = .ok (.if_icmp .eq 75, 3) := by decide +kernel
theorem dX7_advance_10 : decode cX7_advance 10 = .ok (.aload_n 0, 1) := by decide +kernel
theorem dX7_advance_11 : decode cX7_advance 11 = .ok (.getfield 72, 3) := by decide +kernel
theorem dX7_advance_14 : decode cX7_advance 14 = .ok (.aload_n 0, 1) := by decide +kernel
theorem dX7_advance_15 : decode cX7_advance 15 = .ok (.getfield 22, 3) := by decide +kernel
theorem dX7_advance_18 : decode cX7_advance 18 = .ok (.getfield 75, 3) := by decide +kernel
theorem dX7_advance_21 : decode cX7_advance 21 = .ok (.if_icmp .ge 61, 3) := by decide +kernel
theorem dX7_advance_24 : decode cX7_advance 24 = .ok (.aload_n 0, 1) := by decide +kernel
theorem dX7_advance_25 : decode cX7_advance 25 = .ok (.aload_n 0, 1) := by decide +kernel
theorem dX7_advance_26 : decode cX7_advance 26 = .ok (.getfield 22, 3) := by decide +kernel
theorem dX7_advance_29 : decode cX7_advance 29 = .ok (.getfield 78, 3) := by decide +kernel
theorem dX7_advance_32 : decode cX7_advance 32 = .ok (.aload_n 0, 1) := by decide +kernel
theorem dX7_advance_33 : decode cX7_advance 33 = .ok (.getfield 72, 3) := by decide +kernel
theorem dX7_advance_36 : decode cX7_advance 36 = .ok (.iaload, 1) := by decide +kernel
theorem dX7_advance_37 : decode cX7_advance 37 = .ok (.putfield 62, 3) := by decide +kernel
theorem dX7_advance_40 : decode cX7_advance 40 = .ok (.aload_n 0, 1) := by decide +kernel
theorem dX7_advance_41 : decode cX7_advance 41 = .ok (.aload_n 0, 1) := by decide +kernel
theorem dX7_advance_42 : decode cX7_advance 42 = .ok (.getfield 22, 3) := by decide +kernel
theorem dX7_advance_45 : decode cX7_advance 45 = .ok (.getfield 81, 3) := by decide +kernel
theorem dX7_advance_48 : decode cX7_advance 48 = .ok (.aload_n 0, 1) := by decide +kernel
theorem dX7_advance_49 : decode cX7_advance 49 = .ok (.getfield 72, 3) := by decide +kernel
theorem dX7_advance_52 : decode cX7_advance 52 = .ok (.iaload, 1) := by decide +kernel
theorem dX7_advance_53 : decode cX7_advance 53 = .ok (.putfield 84, 3) := by decide +kernel
theorem dX7_advance_56 : decode cX7_advance 56 = .ok (.aload_n 0, 1) := by decide +kernel
theorem dX7_advance_57 : decode cX7_advance 57 = .ok (.aload_n 0, 1) := by decide +kernel
theorem dX7_advance_58 : decode cX7_advance 58 = .ok (.getfield 22, 3) := by decide +kernel
theorem dX7_advance_61 : decode cX7_advance 61 = .ok (.getfield 87, 3) := by decide +kernel
theorem dX7_advance_64 : decode cX7_advance 64 = .ok (.aload_n 0, 1) := by decide +kernel
theorem dX7_advance_65 : decode cX7_advance 65 = .ok (.getfield 72, 3) := by decide +kernel
theorem dX7_advance_68 : decode cX7_advance 68 = .ok (.iaload, 1) := by decide +kernel
theorem dX7_advance_69 : decode cX7_advance 69 = .ok (.putfield 90, 3) := by decide +kernel
theorem dX7_advance_72 : decode cX7_advance 72 = .ok (.aload_n 0, 1) := by decide +kernel
theorem dX7_advance_73 : decode cX7_advance 73 = .ok (.dup, 1) := by decide +kernel
theorem dX7_advance_74 : decode cX7_advance 74 = .ok (.getfield 72, 3) := by decide +kernel
theorem dX7_advance_77 : decode cX7_advance 77 = .ok (.iconst 1, 1) := by decide +kernel
theorem dX7_advance_78 : decode cX7_advance 78 = .ok (.iadd, 1) := by decide +kernel
theorem dX7_advance_79 : decode cX7_advance 79 = .ok (.putfield 72, 3) := by decide +kernel
theorem dX7_advance_82 : decode cX7_advance 82 = .ok (.return_, 1) := by decide +kernel
theorem dX7_fail_0 : decode cX7_fail 0 = .ok (.aload_n 0, 1) := by decide +kernel
theorem dX7_fail_1 : decode cX7_fail 1 = .ok (.getfield 62, 3) := by decide +kernel
theorem dX7_fail_4 : decode cX7_fail 4 = .ok (.sipush 137, 3) := by decide +kernel
theorem dX7_fail_7 : decode cX7_fail 7 = .ok (.if_icmp .eq 13, 3) := by decide +kernel
theorem dX7_fail_10 : decode cX7_fail 10 = .ok (.aload_n 0, 1) := by decide +kernel
theorem dX7_fail_11 : decode cX7_fail 11 = .ok (.getfield 11, 3) := by decide +kernel
theorem dX7_fail_14 : decode cX7_fail 14 = .ok (.iconst 1, 1) := by decide +kernel
theorem dX7_fail_15 : decode cX7_fail 15 = .ok (.aload_n 0, 1) := by decide +kernel
theorem dX7_fail_16 : decode cX7_fail 16 = .ok (.getfield 90, 3) := by decide +kernel
theorem dX7_fail_19 : decode cX7_fail 19 = .ok (.iastore, 1) := by decide +kernel
theorem dX7_fail_20 : decode cX7_fail 20 = .ok (.aload_n 0, 1) := by decide +kernel
theorem dX7_fail_21 : decode cX7_fail 21 = .ok (.sipush 137, 3) := by decide +kernel
theorem dX7_fail_24 : decode cX7_fail 24 = .ok (.putfield 62, 3) := by decide +kernel
theorem dX7_fail_27 : decode cX7_fail 27 = .ok (.return_, 1) := by decide +kernel
theorem dX7_take_0 : decode cX7_take 0 = .ok (.aload_n 0, 1) := by decide +kernel
theorem dX7_take_1 : decode cX7_take 1 = .ok (.getfield 62, 3) := by decide +kernel
theorem dX7_take_4 : decode cX7_take 4 = .ok (.iload_n 1, 1) := by decide +kernel
theorem dX7_take_5 : decode cX7_take 5 = .ok (.if_icmp .ne 10, 3) := by decide +kernel
theorem dX7_take_8 : decode cX7_take 8 = .ok (.aload_n 0, 1) := by decide +kernel
theorem dX7_take_9 : decode cX7_take 9 = .ok (.invokevirtual 59, 3) := by decide +kernel
theorem dX7_take_12 : decode cX7_take 12 = .ok (.goto 7, 3) := by decide +kernel
theorem dX7_take_15 : decode cX7_take 15 = .ok (.aload_n 0, 1) := by decide +kernel
theorem dX7_take_16 : decode cX7_take 16 = .ok (.invokevirtual 93, 3) := by decide +kernel
theorem dX7_take_19 : decode cX7_take 19 = .ok (.return_, 1) := by decide +kernel
theorem dX7_putFault_0 : decode cX7_putFault 0 = .ok (.iload_n 1, 1) := by decide +kernel
theorem dX7_putFault_1 : decode cX7_putFault 1 = .ok (.iconst 1, 1) := by decide +kernel
theorem dX7_putFault_2 : decode cX7_putFault 2 = .ok (.if_icmp .lt 25, 3) := by decide +kernel
theorem dX7_putFault_5 : decode cX7_putFault 5 = .ok (.iload_n 1, 1) := by decide +kernel
theorem dX7_putFault_6 : decode cX7_putFault 6 = .ok (.iconst 4, 1) := by decide +kernel
theorem dX7_putFault_7 : decode cX7_putFault 7 = .ok (.if_icmp .gt 20, 3) := by decide +kernel
theorem dX7_putFault_10 : decode cX7_putFault 10 = .ok (.aload_n 0, 1) := by decide +kernel
theorem dX7_putFault_11 : decode cX7_putFault 11 = .ok (.getfield 11, 3) := by decide +kernel
theorem dX7_putFault_14 : decode cX7_putFault 14 = .ok (.iload_n 1, 1) := by decide +kernel
theorem dX7_putFault_15 : decode cX7_putFault 15 = .ok (.iaload, 1) := by decide +kernel
theorem dX7_putFault_16 : decode cX7_putFault 16 = .ok (.iconst (-1), 1) := by decide +kernel
theorem dX7_putFault_17 : decode cX7_putFault 17 = .ok (.if_icmp .ne 10, 3) := by decide +kernel
theorem dX7_putFault_20 : decode cX7_putFault 20 = .ok (.aload_n 0, 1) := by decide +kernel
theorem dX7_putFault_21 : decode cX7_putFault 21 = .ok (.getfield 11, 3) := by decide +kernel
theorem dX7_putFault_24 : decode cX7_putFault 24 = .ok (.iload_n 1, 1) := by decide +kernel
theorem dX7_putFault_25 : decode cX7_putFault 25 = .ok (.iload_n 2, 1) := by decide +kernel
theorem dX7_putFault_26 : decode cX7_putFault 26 = .ok (.iastore, 1) := by decide +kernel
theorem dX7_putFault_27 : decode cX7_putFault 27 = .ok (.return_, 1) := by decide +kernel
theorem dX7_nameHearing_0 : decode cX7_nameHearing 0 = .ok (.aload_n 0, 1) := by decide +kernel
theorem dX7_nameHearing_1 : decode cX7_nameHearing 1 = .ok (.getfield 31, 3) := by decide +kernel
theorem dX7_nameHearing_4 : decode cX7_nameHearing 4 = .ok (.getfield 130, 3) := by decide +kernel
theorem dX7_nameHearing_7 : decode cX7_nameHearing 7 = .ok (.bipush 16, 2) := by decide +kernel
theorem dX7_nameHearing_9 : decode cX7_nameHearing 9 = .ok (.if_icmp .lt 9, 3) := by decide +kernel
theorem dX7_nameHearing_12 : decode cX7_nameHearing 12 = .ok (.aload_n 0, 1) := by decide +kernel
theorem dX7_nameHearing_13 : decode cX7_nameHearing 13 = .ok (.iconst 3, 1) := by decide +kernel
theorem dX7_nameHearing_14 : decode cX7_nameHearing 14 = .ok (.iload_n 1, 1) := by decide +kernel
theorem dX7_nameHearing_15 : decode cX7_nameHearing 15 = .ok (.invokevirtual 133, 3) := by decide +kernel
theorem dX7_nameHearing_18 : decode cX7_nameHearing 18 = .ok (.aload_n 0, 1) := by decide +kernel
theorem dX7_nameHearing_19 : decode cX7_nameHearing 19 = .ok (.iconst 0, 1) := by decide +kernel
theorem dX7_nameHearing_20 : decode cX7_nameHearing 20 = .ok (.putfield 136, 3) := by decide +kernel
theorem dX7_nameHearing_23 : decode cX7_nameHearing 23 = .ok (.aload_n 0, 1) := by decide +kernel
theorem dX7_nameHearing_24 : decode cX7_nameHearing 24 = .ok (.iconst 0, 1) := by decide +kernel
theorem dX7_nameHearing_25 : decode cX7_nameHearing 25 = .ok (.putfield 139, 3) := by decide +kernel
theorem dX7_nameHearing_28 : decode cX7_nameHearing 28 = .ok (.aload_n 0, 1) := by decide +kernel
theorem dX7_nameHearing_29 : decode cX7_nameHearing 29 = .ok (.getfield 62, 3) := by decide +kernel
theorem dX7_nameHearing_32 : decode cX7_nameHearing 32 = .ok (.sipush 130, 3) := by decide +kernel
theorem dX7_nameHearing_35 : decode cX7_nameHearing 35 = .ok (.if_icmp .ne 63, 3) := by decide +kernel
theorem dX7_nameHearing_38 : decode cX7_nameHearing 38 = .ok (.aload_n 0, 1) := by decide +kernel
theorem dX7_nameHearing_39 : decode cX7_nameHearing 39 = .ok (.getfield 84, 3) := by decide +kernel
theorem dX7_nameHearing_42 : decode cX7_nameHearing 42 = .ok (.ifCond .lt 56, 3) := by decide +kernel
theorem dX7_nameHearing_45 : decode cX7_nameHearing 45 = .ok (.aload_n 0, 1) := by decide +kernel
theorem dX7_nameHearing_46 : decode cX7_nameHearing 46 = .ok (.getfield 84, 3) := by decide +kernel
theorem dX7_nameHearing_49 : decode cX7_nameHearing 49 = .ok (.aload_n 0, 1) := by decide +kernel
theorem dX7_nameHearing_50 : decode cX7_nameHearing 50 = .ok (.getfield 41, 3) := by decide +kernel
theorem dX7_nameHearing_53 : decode cX7_nameHearing 53 = .ok (.arraylength, 1) := by decide +kernel
theorem dX7_nameHearing_54 : decode cX7_nameHearing 54 = .ok (.if_icmp .ge 44, 3) := by decide +kernel
theorem dX7_nameHearing_57 : decode cX7_nameHearing 57 = .ok (.aload_n 0, 1) := by decide +kernel
theorem dX7_nameHearing_58 : decode cX7_nameHearing 58 = .ok (.getfield 41, 3) := by decide +kernel
theorem dX7_nameHearing_61 : decode cX7_nameHearing 61 = .ok (.aload_n 0, 1) := by decide +kernel
theorem dX7_nameHearing_62 : decode cX7_nameHearing 62 = .ok (.getfield 84, 3) := by decide +kernel
theorem dX7_nameHearing_65 : decode cX7_nameHearing 65 = .ok (.iaload, 1) := by decide +kernel
theorem dX7_nameHearing_66 : decode cX7_nameHearing 66 = .ok (.iconst (-1), 1) := by decide +kernel
theorem dX7_nameHearing_67 : decode cX7_nameHearing 67 = .ok (.if_icmp .ne 22, 3) := by decide +kernel
theorem dX7_nameHearing_70 : decode cX7_nameHearing 70 = .ok (.aload_n 0, 1) := by decide +kernel
theorem dX7_nameHearing_71 : decode cX7_nameHearing 71 = .ok (.getfield 41, 3) := by decide +kernel
theorem dX7_nameHearing_74 : decode cX7_nameHearing 74 = .ok (.aload_n 0, 1) := by decide +kernel
theorem dX7_nameHearing_75 : decode cX7_nameHearing 75 = .ok (.getfield 84, 3) := by decide +kernel
theorem dX7_nameHearing_78 : decode cX7_nameHearing 78 = .ok (.aload_n 0, 1) := by decide +kernel
theorem dX7_nameHearing_79 : decode cX7_nameHearing 79 = .ok (.getfield 31, 3) := by decide +kernel
theorem dX7_nameHearing_82 : decode cX7_nameHearing 82 = .ok (.getfield 130, 3) := by decide +kernel
theorem dX7_nameHearing_85 : decode cX7_nameHearing 85 = .ok (.iastore, 1) := by decide +kernel
theorem dX7_nameHearing_86 : decode cX7_nameHearing 86 = .ok (.goto 12, 3) := by decide +kernel
theorem dX7_nameHearing_89 : decode cX7_nameHearing 89 = .ok (.aload_n 0, 1) := by decide +kernel
theorem dX7_nameHearing_90 : decode cX7_nameHearing 90 = .ok (.iconst 2, 1) := by decide +kernel
theorem dX7_nameHearing_91 : decode cX7_nameHearing 91 = .ok (.aload_n 0, 1) := by decide +kernel
theorem dX7_nameHearing_92 : decode cX7_nameHearing 92 = .ok (.getfield 90, 3) := by decide +kernel
theorem dX7_nameHearing_95 : decode cX7_nameHearing 95 = .ok (.invokevirtual 133, 3) := by decide +kernel
theorem dX7_nameHearing_98 : decode cX7_nameHearing 98 = .ok (.aload_n 0, 1) := by decide +kernel
theorem dX7_nameHearing_99 : decode cX7_nameHearing 99 = .ok (.sipush 130, 3) := by decide +kernel
theorem dX7_nameHearing_102 : decode cX7_nameHearing 102 = .ok (.invokevirtual 100, 3) := by decide +kernel
theorem dX7_nameHearing_105 : decode cX7_nameHearing 105 = .ok (.return_, 1) := by decide +kernel
theorem dX7_takeOpening_0 : decode cX7_takeOpening 0 = .ok (.aload_n 0, 1) := by decide +kernel
theorem dX7_takeOpening_1 : decode cX7_takeOpening 1 = .ok (.getfield 62, 3) := by decide +kernel
theorem dX7_takeOpening_4 : decode cX7_takeOpening 4 = .ok (.iload_n 1, 1) := by decide +kernel
theorem dX7_takeOpening_5 : decode cX7_takeOpening 5 = .ok (.if_icmp .ne 16, 3) := by decide +kernel
theorem dX7_takeOpening_8 : decode cX7_takeOpening 8 = .ok (.iload_n 2, 1) := by decide +kernel
theorem dX7_takeOpening_9 : decode cX7_takeOpening 9 = .ok (.bipush 20, 2) := by decide +kernel
theorem dX7_takeOpening_11 : decode cX7_takeOpening 11 = .ok (.if_icmp .ge 10, 3) := by decide +kernel
theorem dX7_takeOpening_14 : decode cX7_takeOpening 14 = .ok (.aload_n 0, 1) := by decide +kernel
theorem dX7_takeOpening_15 : decode cX7_takeOpening 15 = .ok (.invokevirtual 59, 3) := by decide +kernel
theorem dX7_takeOpening_18 : decode cX7_takeOpening 18 = .ok (.goto 7, 3) := by decide +kernel
theorem dX7_takeOpening_21 : decode cX7_takeOpening 21 = .ok (.aload_n 0, 1) := by decide +kernel
theorem dX7_takeOpening_22 : decode cX7_takeOpening 22 = .ok (.invokevirtual 93, 3) := by decide +kernel
theorem dX7_takeOpening_25 : decode cX7_takeOpening 25 = .ok (.return_, 1) := by decide +kernel
theorem dX7_isTold_0 : decode cX7_isTold 0 = .ok (.iload_n 1, 1) := by decide +kernel
theorem dX7_isTold_1 : decode cX7_isTold 1 = .ok (.ifCond .lt 32, 3) := by decide +kernel
theorem dX7_isTold_4 : decode cX7_isTold 4 = .ok (.iload_n 1, 1) := by decide +kernel
theorem dX7_isTold_5 : decode cX7_isTold 5 = .ok (.aload_n 0, 1) := by decide +kernel
theorem dX7_isTold_6 : decode cX7_isTold 6 = .ok (.getfield 35, 3) := by decide +kernel
theorem dX7_isTold_9 : decode cX7_isTold 9 = .ok (.arraylength, 1) := by decide +kernel
theorem dX7_isTold_10 : decode cX7_isTold 10 = .ok (.if_icmp .ge 23, 3) := by decide +kernel
theorem dX7_isTold_13 : decode cX7_isTold 13 = .ok (.aload_n 0, 1) := by decide +kernel
theorem dX7_isTold_14 : decode cX7_isTold 14 = .ok (.getfield 35, 3) := by decide +kernel
theorem dX7_isTold_17 : decode cX7_isTold 17 = .ok (.iload_n 1, 1) := by decide +kernel
theorem dX7_isTold_18 : decode cX7_isTold 18 = .ok (.iaload, 1) := by decide +kernel
theorem dX7_isTold_19 : decode cX7_isTold 19 = .ok (.aload_n 0, 1) := by decide +kernel
theorem dX7_isTold_20 : decode cX7_isTold 20 = .ok (.getfield 31, 3) := by decide +kernel
theorem dX7_isTold_23 : decode cX7_isTold 23 = .ok (.getfield 130, 3) := by decide +kernel
theorem dX7_isTold_26 : decode cX7_isTold 26 = .ok (.if_icmp .ne 7, 3) := by decide +kernel
theorem dX7_isTold_29 : decode cX7_isTold 29 = .ok (.iconst 1, 1) := by decide +kernel
theorem dX7_isTold_30 : decode cX7_isTold 30 = .ok (.goto 4, 3) := by decide +kernel
theorem dX7_isTold_33 : decode cX7_isTold 33 = .ok (.iconst 0, 1) := by decide +kernel
theorem dX7_isTold_34 : decode cX7_isTold 34 = .ok (.ireturn, 1) := by decide +kernel
theorem dX7_newName_0 : decode cX7_newName 0 = .ok (.aload_n 0, 1) := by decide +kernel
theorem dX7_newName_1 : decode cX7_newName 1 = .ok (.getfield 62, 3) := by decide +kernel
theorem dX7_newName_4 : decode cX7_newName 4 = .ok (.sipush 130, 3) := by decide +kernel
theorem dX7_newName_7 : decode cX7_newName 7 = .ok (.if_icmp .ne 44, 3) := by decide +kernel
theorem dX7_newName_10 : decode cX7_newName 10 = .ok (.aload_n 0, 1) := by decide +kernel
theorem dX7_newName_11 : decode cX7_newName 11 = .ok (.aload_n 0, 1) := by decide +kernel
theorem dX7_newName_12 : decode cX7_newName 12 = .ok (.getfield 84, 3) := by decide +kernel
theorem dX7_newName_15 : decode cX7_newName 15 = .ok (.invokevirtual 148, 3) := by decide +kernel
theorem dX7_newName_18 : decode cX7_newName 18 = .ok (.ifCond .eq 15, 3) := by decide +kernel
theorem dX7_newName_21 : decode cX7_newName 21 = .ok (.aload_n 0, 1) := by decide +kernel
theorem dX7_newName_22 : decode cX7_newName 22 = .ok (.iconst 2, 1) := by decide +kernel
theorem dX7_newName_23 : decode cX7_newName 23 = .ok (.aload_n 0, 1) := by decide +kernel
theorem dX7_newName_24 : decode cX7_newName 24 = .ok (.getfield 90, 3) := by decide +kernel
theorem dX7_newName_27 : decode cX7_newName 27 = .ok (.invokevirtual 133, 3) := by decide +kernel
theorem dX7_newName_30 : decode cX7_newName 30 = .ok (.goto 21, 3) := by decide +kernel
theorem dX7_newName_33 : decode cX7_newName 33 = .ok (.aload_n 0, 1) := by decide +kernel
theorem dX7_newName_34 : decode cX7_newName 34 = .ok (.getfield 136, 3) := by decide +kernel
theorem dX7_newName_37 : decode cX7_newName 37 = .ok (.bipush 12, 2) := by decide +kernel
theorem dX7_newName_39 : decode cX7_newName 39 = .ok (.if_icmp .lt 12, 3) := by decide +kernel
theorem dX7_newName_42 : decode cX7_newName 42 = .ok (.aload_n 0, 1) := by decide +kernel
theorem dX7_newName_43 : decode cX7_newName 43 = .ok (.iconst 3, 1) := by decide +kernel
theorem dX7_newName_44 : decode cX7_newName 44 = .ok (.aload_n 0, 1) := by decide +kernel
theorem dX7_newName_45 : decode cX7_newName 45 = .ok (.getfield 90, 3) := by decide +kernel
theorem dX7_newName_48 : decode cX7_newName 48 = .ok (.invokevirtual 133, 3) := by decide +kernel
theorem dX7_newName_51 : decode cX7_newName 51 = .ok (.aload_n 0, 1) := by decide +kernel
theorem dX7_newName_52 : decode cX7_newName 52 = .ok (.dup, 1) := by decide +kernel
theorem dX7_newName_53 : decode cX7_newName 53 = .ok (.getfield 136, 3) := by decide +kernel
theorem dX7_newName_56 : decode cX7_newName 56 = .ok (.iconst 1, 1) := by decide +kernel
theorem dX7_newName_57 : decode cX7_newName 57 = .ok (.iadd, 1) := by decide +kernel
theorem dX7_newName_58 : decode cX7_newName 58 = .ok (.putfield 136, 3) := by decide +kernel
theorem dX7_newName_61 : decode cX7_newName 61 = .ok (.aload_n 0, 1) := by decide +kernel
theorem dX7_newName_62 : decode cX7_newName 62 = .ok (.getfield 136, 3) := by decide +kernel
theorem dX7_newName_65 : decode cX7_newName 65 = .ok (.iconst 1, 1) := by decide +kernel
theorem dX7_newName_66 : decode cX7_newName 66 = .ok (.isub, 1) := by decide +kernel
theorem dX7_newName_67 : decode cX7_newName 67 = .ok (.ireturn, 1) := by decide +kernel
theorem dX7_tell_0 : decode cX7_tell 0 = .ok (.iload_n 1, 1) := by decide +kernel
theorem dX7_tell_1 : decode cX7_tell 1 = .ok (.ifCond .lt 32, 3) := by decide +kernel
theorem dX7_tell_4 : decode cX7_tell 4 = .ok (.iload_n 1, 1) := by decide +kernel
theorem dX7_tell_5 : decode cX7_tell 5 = .ok (.aload_n 0, 1) := by decide +kernel
theorem dX7_tell_6 : decode cX7_tell 6 = .ok (.getfield 35, 3) := by decide +kernel
theorem dX7_tell_9 : decode cX7_tell 9 = .ok (.arraylength, 1) := by decide +kernel
theorem dX7_tell_10 : decode cX7_tell 10 = .ok (.if_icmp .ge 23, 3) := by decide +kernel
theorem dX7_tell_13 : decode cX7_tell 13 = .ok (.aload_n 0, 1) := by decide +kernel
theorem dX7_tell_14 : decode cX7_tell 14 = .ok (.getfield 35, 3) := by decide +kernel
theorem dX7_tell_17 : decode cX7_tell 17 = .ok (.iload_n 1, 1) := by decide +kernel
theorem dX7_tell_18 : decode cX7_tell 18 = .ok (.aload_n 0, 1) := by decide +kernel
theorem dX7_tell_19 : decode cX7_tell 19 = .ok (.getfield 31, 3) := by decide +kernel
theorem dX7_tell_22 : decode cX7_tell 22 = .ok (.getfield 130, 3) := by decide +kernel
theorem dX7_tell_25 : decode cX7_tell 25 = .ok (.iastore, 1) := by decide +kernel
theorem dX7_tell_26 : decode cX7_tell 26 = .ok (.aload_n 0, 1) := by decide +kernel
theorem dX7_tell_27 : decode cX7_tell 27 = .ok (.getfield 38, 3) := by decide +kernel
theorem dX7_tell_30 : decode cX7_tell 30 = .ok (.iload_n 1, 1) := by decide +kernel
theorem dX7_tell_31 : decode cX7_tell 31 = .ok (.iload_n 2, 1) := by decide +kernel
theorem dX7_tell_32 : decode cX7_tell 32 = .ok (.iastore, 1) := by decide +kernel
theorem dX7_tell_33 : decode cX7_tell 33 = .ok (.return_, 1) := by decide +kernel
theorem dX7_parameters_0 : decode cX7_parameters 0 = .ok (.aload_n 0, 1) := by decide +kernel
theorem dX7_parameters_1 : decode cX7_parameters 1 = .ok (.getfield 62, 3) := by decide +kernel
theorem dX7_parameters_4 : decode cX7_parameters 4 = .ok (.bipush 41, 2) := by decide +kernel
theorem dX7_parameters_6 : decode cX7_parameters 6 = .ok (.if_icmp .ne 5, 3) := by decide +kernel
theorem dX7_parameters_9 : decode cX7_parameters 9 = .ok (.iconst 0, 1) := by decide +kernel
theorem dX7_parameters_10 : decode cX7_parameters 10 = .ok (.ireturn, 1) := by decide +kernel
theorem dX7_parameters_11 : decode cX7_parameters 11 = .ok (.iconst 0, 1) := by decide +kernel
theorem dX7_parameters_12 : decode cX7_parameters 12 = .ok (.istore_n 1, 1) := by decide +kernel
theorem dX7_parameters_13 : decode cX7_parameters 13 = .ok (.iconst 0, 1) := by decide +kernel
theorem dX7_parameters_14 : decode cX7_parameters 14 = .ok (.istore_n 2, 1) := by decide +kernel
theorem dX7_parameters_15 : decode cX7_parameters 15 = .ok (.iload_n 2, 1) := by decide +kernel
theorem dX7_parameters_16 : decode cX7_parameters 16 = .ok (.sipush 4000, 3) := by decide +kernel
theorem dX7_parameters_19 : decode cX7_parameters 19 = .ok (.if_icmp .gt 73, 3) := by decide +kernel
theorem dX7_parameters_22 : decode cX7_parameters 22 = .ok (.aload_n 0, 1) := by decide +kernel
theorem dX7_parameters_23 : decode cX7_parameters 23 = .ok (.getfield 62, 3) := by decide +kernel
theorem dX7_parameters_26 : decode cX7_parameters 26 = .ok (.sipush 137, 3) := by decide +kernel
theorem dX7_parameters_29 : decode cX7_parameters 29 = .ok (.if_icmp .eq 63, 3) := by decide +kernel
theorem dX7_parameters_32 : decode cX7_parameters 32 = .ok (.iload_n 1, 1) := by decide +kernel
theorem dX7_parameters_33 : decode cX7_parameters 33 = .ok (.iconst 4, 1) := by decide +kernel
theorem dX7_parameters_34 : decode cX7_parameters 34 = .ok (.if_icmp .lt 12, 3) := by decide +kernel
theorem dX7_parameters_37 : decode cX7_parameters 37 = .ok (.aload_n 0, 1) := by decide +kernel
theorem dX7_parameters_38 : decode cX7_parameters 38 = .ok (.iconst 3, 1) := by decide +kernel
theorem dX7_parameters_39 : decode cX7_parameters 39 = .ok (.aload_n 0, 1) := by decide +kernel
theorem dX7_parameters_40 : decode cX7_parameters 40 = .ok (.getfield 90, 3) := by decide +kernel
theorem dX7_parameters_43 : decode cX7_parameters 43 = .ok (.invokevirtual 133, 3) := by decide +kernel
theorem dX7_parameters_46 : decode cX7_parameters 46 = .ok (.aload_n 0, 1) := by decide +kernel
theorem dX7_parameters_47 : decode cX7_parameters 47 = .ok (.getfield 84, 3) := by decide +kernel
theorem dX7_parameters_50 : decode cX7_parameters 50 = .ok (.istore_n 3, 1) := by decide +kernel
theorem dX7_parameters_51 : decode cX7_parameters 51 = .ok (.aload_n 0, 1) := by decide +kernel
theorem dX7_parameters_52 : decode cX7_parameters 52 = .ok (.iload_n 3, 1) := by decide +kernel
theorem dX7_parameters_53 : decode cX7_parameters 53 = .ok (.aload_n 0, 1) := by decide +kernel
theorem dX7_parameters_54 : decode cX7_parameters 54 = .ok (.invokevirtual 142, 3) := by decide +kernel
theorem dX7_parameters_57 : decode cX7_parameters 57 = .ok (.invokevirtual 145, 3) := by decide +kernel
theorem dX7_parameters_60 : decode cX7_parameters 60 = .ok (.aload_n 0, 1) := by decide +kernel
theorem dX7_parameters_61 : decode cX7_parameters 61 = .ok (.sipush 130, 3) := by decide +kernel
theorem dX7_parameters_64 : decode cX7_parameters 64 = .ok (.invokevirtual 100, 3) := by decide +kernel
theorem dX7_parameters_67 : decode cX7_parameters 67 = .ok (.iinc 1 1, 3) := by decide +kernel
theorem dX7_parameters_70 : decode cX7_parameters 70 = .ok (.aload_n 0, 1) := by decide +kernel
theorem dX7_parameters_71 : decode cX7_parameters 71 = .ok (.getfield 62, 3) := by decide +kernel
theorem dX7_parameters_74 : decode cX7_parameters 74 = .ok (.bipush 44, 2) := by decide +kernel
theorem dX7_parameters_76 : decode cX7_parameters 76 = .ok (.if_icmp .eq 6, 3) := by decide +kernel
theorem dX7_parameters_79 : decode cX7_parameters 79 = .ok (.goto 13, 3) := by decide +kernel
theorem dX7_parameters_82 : decode cX7_parameters 82 = .ok (.aload_n 0, 1) := by decide +kernel
theorem dX7_parameters_83 : decode cX7_parameters 83 = .ok (.invokevirtual 59, 3) := by decide +kernel
theorem dX7_parameters_86 : decode cX7_parameters 86 = .ok (.iinc 2 1, 3) := by decide +kernel
theorem dX7_parameters_89 : decode cX7_parameters 89 = .ok (.goto (-74), 3) := by decide +kernel
theorem dX7_parameters_92 : decode cX7_parameters 92 = .ok (.iload_n 1, 1) := by decide +kernel
theorem dX7_parameters_93 : decode cX7_parameters 93 = .ok (.ireturn, 1) := by decide +kernel
theorem dX7_emit__0 : decode cX7_emit_ 0 = .ok (.aload_n 0, 1) := by decide +kernel
theorem dX7_emit__1 : decode cX7_emit_ 1 = .ok (.getfield 31, 3) := by decide +kernel
theorem dX7_emit__4 : decode cX7_emit_ 4 = .ok (.iload_n 1, 1) := by decide +kernel
theorem dX7_emit__5 : decode cX7_emit_ 5 = .ok (.invokevirtual 96, 3) := by decide +kernel
theorem dX7_emit__8 : decode cX7_emit_ 8 = .ok (.pop, 1) := by decide +kernel
theorem dX7_emit__9 : decode cX7_emit_ 9 = .ok (.aload_n 0, 1) := by decide +kernel
theorem dX7_emit__10 : decode cX7_emit_ 10 = .ok (.getfield 31, 3) := by decide +kernel
theorem dX7_emit__13 : decode cX7_emit_ 13 = .ok (.iload_n 2, 1) := by decide +kernel
theorem dX7_emit__14 : decode cX7_emit_ 14 = .ok (.invokevirtual 96, 3) := by decide +kernel
theorem dX7_emit__17 : decode cX7_emit_ 17 = .ok (.pop, 1) := by decide +kernel
theorem dX7_emit__18 : decode cX7_emit_ 18 = .ok (.return_, 1) := by decide +kernel
theorem dX7_emit_0 : decode cX7_emit 0 = .ok (.aload_n 0, 1) := by decide +kernel
theorem dX7_emit_1 : decode cX7_emit 1 = .ok (.getfield 31, 3) := by decide +kernel
theorem dX7_emit_4 : decode cX7_emit 4 = .ok (.iload_n 1, 1) := by decide +kernel
theorem dX7_emit_5 : decode cX7_emit 5 = .ok (.invokevirtual 96, 3) := by decide +kernel
theorem dX7_emit_8 : decode cX7_emit 8 = .ok (.pop, 1) := by decide +kernel
theorem dX7_emit_9 : decode cX7_emit 9 = .ok (.return_, 1) := by decide +kernel
theorem dX7_hearing_0 : decode cX7_hearing 0 = .ok (.aload_n 0, 1) := by decide +kernel
theorem dX7_hearing_1 : decode cX7_hearing 1 = .ok (.getfield 90, 3) := by decide +kernel
theorem dX7_hearing_4 : decode cX7_hearing 4 = .ok (.istore_n 1, 1) := by decide +kernel
theorem dX7_hearing_5 : decode cX7_hearing 5 = .ok (.aload_n 0, 1) := by decide +kernel
theorem dX7_hearing_6 : decode cX7_hearing 6 = .ok (.sipush 200, 3) := by decide +kernel
theorem dX7_hearing_9 : decode cX7_hearing 9 = .ok (.invokevirtual 100, 3) := by decide +kernel
theorem dX7_hearing_12 : decode cX7_hearing 12 = .ok (.aload_n 0, 1) := by decide +kernel
theorem dX7_hearing_13 : decode cX7_hearing 13 = .ok (.iload_n 1, 1) := by decide +kernel
theorem dX7_hearing_14 : decode cX7_hearing 14 = .ok (.invokevirtual 103, 3) := by decide +kernel
theorem dX7_hearing_17 : decode cX7_hearing 17 = .ok (.aload_n 0, 1) := by decide +kernel
theorem dX7_hearing_18 : decode cX7_hearing 18 = .ok (.bipush 40, 2) := by decide +kernel
theorem dX7_hearing_20 : decode cX7_hearing 20 = .ok (.iconst 0, 1) := by decide +kernel
theorem dX7_hearing_21 : decode cX7_hearing 21 = .ok (.invokevirtual 106, 3) := by decide +kernel
theorem dX7_hearing_24 : decode cX7_hearing 24 = .ok (.aload_n 0, 1) := by decide +kernel
theorem dX7_hearing_25 : decode cX7_hearing 25 = .ok (.getfield 31, 3) := by decide +kernel
theorem dX7_hearing_28 : decode cX7_hearing 28 = .ok (.getfield 110, 3) := by decide +kernel
theorem dX7_hearing_31 : decode cX7_hearing 31 = .ok (.istore_n 2, 1) := by decide +kernel
theorem dX7_hearing_32 : decode cX7_hearing 32 = .ok (.aload_n 0, 1) := by decide +kernel
theorem dX7_hearing_33 : decode cX7_hearing 33 = .ok (.invokevirtual 113, 3) := by decide +kernel
theorem dX7_hearing_36 : decode cX7_hearing 36 = .ok (.istore_n 3, 1) := by decide +kernel
theorem dX7_hearing_37 : decode cX7_hearing 37 = .ok (.aload_n 0, 1) := by decide +kernel
theorem dX7_hearing_38 : decode cX7_hearing 38 = .ok (.bipush 41, 2) := by decide +kernel
theorem dX7_hearing_40 : decode cX7_hearing 40 = .ok (.invokevirtual 100, 3) := by decide +kernel
theorem dX7_hearing_43 : decode cX7_hearing 43 = .ok (.aload_n 0, 1) := by decide +kernel
theorem dX7_hearing_44 : decode cX7_hearing 44 = .ok (.iconst 0, 1) := by decide +kernel
theorem dX7_hearing_45 : decode cX7_hearing 45 = .ok (.invokevirtual 117, 3) := by decide +kernel
theorem dX7_hearing_48 : decode cX7_hearing 48 = .ok (.aload_n 0, 1) := by decide +kernel
theorem dX7_hearing_49 : decode cX7_hearing 49 = .ok (.bipush 7, 2) := by decide +kernel
theorem dX7_hearing_51 : decode cX7_hearing 51 = .ok (.iconst 0, 1) := by decide +kernel
theorem dX7_hearing_52 : decode cX7_hearing 52 = .ok (.invokevirtual 122, 3) := by decide +kernel
theorem dX7_hearing_55 : decode cX7_hearing 55 = .ok (.aload_n 0, 1) := by decide +kernel
theorem dX7_hearing_56 : decode cX7_hearing 56 = .ok (.iconst 3, 1) := by decide +kernel
theorem dX7_hearing_57 : decode cX7_hearing 57 = .ok (.invokevirtual 125, 3) := by decide +kernel
theorem dX7_hearing_60 : decode cX7_hearing 60 = .ok (.aload_n 0, 1) := by decide +kernel
theorem dX7_hearing_61 : decode cX7_hearing 61 = .ok (.getfield 31, 3) := by decide +kernel
theorem dX7_hearing_64 : decode cX7_hearing 64 = .ok (.iload_n 2, 1) := by decide +kernel
theorem dX7_hearing_65 : decode cX7_hearing 65 = .ok (.iload_n 3, 1) := by decide +kernel
theorem dX7_hearing_66 : decode cX7_hearing 66 = .ok (.invokevirtual 127, 3) := by decide +kernel
theorem dX7_hearing_69 : decode cX7_hearing 69 = .ok (.return_, 1) := by decide +kernel
theorem dX7_findHearings_0 : decode cX7_findHearings 0 = .ok (.iconst 0, 1) := by decide +kernel
theorem dX7_findHearings_1 : decode cX7_findHearings 1 = .ok (.istore_n 1, 1) := by decide +kernel
theorem dX7_findHearings_2 : decode cX7_findHearings 2 = .ok (.iload_n 1, 1) := by decide +kernel
theorem dX7_findHearings_3 : decode cX7_findHearings 3 = .ok (.aload_n 0, 1) := by decide +kernel
theorem dX7_findHearings_4 : decode cX7_findHearings 4 = .ok (.getfield 231, 3) := by decide +kernel
theorem dX7_findHearings_7 : decode cX7_findHearings 7 = .ok (.if_icmp .ge 121, 3) := by decide +kernel
theorem dX7_findHearings_10 : decode cX7_findHearings 10 = .ok (.iload_n 1, 1) := by decide +kernel
theorem dX7_findHearings_11 : decode cX7_findHearings 11 = .ok (.aload_n 0, 1) := by decide +kernel
theorem dX7_findHearings_12 : decode cX7_findHearings 12 = .ok (.getfield 44, 3) := by decide +kernel
theorem dX7_findHearings_15 : decode cX7_findHearings 15 = .ok (.arraylength, 1) := by decide +kernel
theorem dX7_findHearings_16 : decode cX7_findHearings 16 = .ok (.if_icmp .ge 112, 3) := by decide +kernel
theorem dX7_findHearings_19 : decode cX7_findHearings 19 = .ok (.iload_n 1, 1) := by decide +kernel
theorem dX7_findHearings_20 : decode cX7_findHearings 20 = .ok (.aload_n 0, 1) := by decide +kernel
theorem dX7_findHearings_21 : decode cX7_findHearings 21 = .ok (.getfield 47, 3) := by decide +kernel
theorem dX7_findHearings_24 : decode cX7_findHearings 24 = .ok (.arraylength, 1) := by decide +kernel
theorem dX7_findHearings_25 : decode cX7_findHearings 25 = .ok (.if_icmp .ge 103, 3) := by decide +kernel
theorem dX7_findHearings_28 : decode cX7_findHearings 28 = .ok (.aload_n 0, 1) := by decide +kernel
theorem dX7_findHearings_29 : decode cX7_findHearings 29 = .ok (.getfield 31, 3) := by decide +kernel
theorem dX7_findHearings_32 : decode cX7_findHearings 32 = .ok (.aload_n 0, 1) := by decide +kernel
theorem dX7_findHearings_33 : decode cX7_findHearings 33 = .ok (.getfield 44, 3) := by decide +kernel
theorem dX7_findHearings_36 : decode cX7_findHearings 36 = .ok (.iload_n 1, 1) := by decide +kernel
theorem dX7_findHearings_37 : decode cX7_findHearings 37 = .ok (.iaload, 1) := by decide +kernel
theorem dX7_findHearings_38 : decode cX7_findHearings 38 = .ok (.invokevirtual 234, 3) := by decide +kernel
theorem dX7_findHearings_41 : decode cX7_findHearings 41 = .ok (.istore_n 2, 1) := by decide +kernel
theorem dX7_findHearings_42 : decode cX7_findHearings 42 = .ok (.iload_n 2, 1) := by decide +kernel
theorem dX7_findHearings_43 : decode cX7_findHearings 43 = .ok (.ifCond .lt 21, 3) := by decide +kernel
theorem dX7_findHearings_46 : decode cX7_findHearings 46 = .ok (.iload_n 2, 1) := by decide +kernel
theorem dX7_findHearings_47 : decode cX7_findHearings 47 = .ok (.aload_n 0, 1) := by decide +kernel
theorem dX7_findHearings_48 : decode cX7_findHearings 48 = .ok (.getfield 41, 3) := by decide +kernel
theorem dX7_findHearings_51 : decode cX7_findHearings 51 = .ok (.arraylength, 1) := by decide +kernel
theorem dX7_findHearings_52 : decode cX7_findHearings 52 = .ok (.if_icmp .ge 12, 3) := by decide +kernel
theorem dX7_findHearings_55 : decode cX7_findHearings 55 = .ok (.aload_n 0, 1) := by decide +kernel
theorem dX7_findHearings_56 : decode cX7_findHearings 56 = .ok (.getfield 41, 3) := by decide +kernel
theorem dX7_findHearings_59 : decode cX7_findHearings 59 = .ok (.iload_n 2, 1) := by decide +kernel
theorem dX7_findHearings_60 : decode cX7_findHearings 60 = .ok (.iaload, 1) := by decide +kernel
theorem dX7_findHearings_61 : decode cX7_findHearings 61 = .ok (.goto 4, 3) := by decide +kernel
theorem dX7_findHearings_64 : decode cX7_findHearings 64 = .ok (.iconst (-1), 1) := by decide +kernel
theorem dX7_findHearings_65 : decode cX7_findHearings 65 = .ok (.istore_n 3, 1) := by decide +kernel
theorem dX7_findHearings_66 : decode cX7_findHearings 66 = .ok (.iload_n 3, 1) := by decide +kernel
theorem dX7_findHearings_67 : decode cX7_findHearings 67 = .ok (.iconst (-1), 1) := by decide +kernel
theorem dX7_findHearings_68 : decode cX7_findHearings 68 = .ok (.if_icmp .eq 29, 3) := by decide +kernel
theorem dX7_findHearings_71 : decode cX7_findHearings 71 = .ok (.aload_n 0, 1) := by decide +kernel
theorem dX7_findHearings_72 : decode cX7_findHearings 72 = .ok (.getfield 31, 3) := by decide +kernel
theorem dX7_findHearings_75 : decode cX7_findHearings 75 = .ok (.iload_n 3, 1) := by decide +kernel
theorem dX7_findHearings_76 : decode cX7_findHearings 76 = .ok (.invokevirtual 237, 3) := by decide +kernel
theorem dX7_findHearings_79 : decode cX7_findHearings 79 = .ok (.aload_n 0, 1) := by decide +kernel
theorem dX7_findHearings_80 : decode cX7_findHearings 80 = .ok (.getfield 31, 3) := by decide +kernel
theorem dX7_findHearings_83 : decode cX7_findHearings 83 = .ok (.aload_n 0, 1) := by decide +kernel
theorem dX7_findHearings_84 : decode cX7_findHearings 84 = .ok (.getfield 44, 3) := by decide +kernel
theorem dX7_findHearings_87 : decode cX7_findHearings 87 = .ok (.iload_n 1, 1) := by decide +kernel
theorem dX7_findHearings_88 : decode cX7_findHearings 88 = .ok (.iaload, 1) := by decide +kernel
theorem dX7_findHearings_89 : decode cX7_findHearings 89 = .ok (.iconst 1, 1) := by decide +kernel
theorem dX7_findHearings_90 : decode cX7_findHearings 90 = .ok (.iadd, 1) := by decide +kernel
theorem dX7_findHearings_91 : decode cX7_findHearings 91 = .ok (.invokevirtual 234, 3) := by decide +kernel
theorem dX7_findHearings_94 : decode cX7_findHearings 94 = .ok (.if_icmp .eq 14, 3) := by decide +kernel
theorem dX7_findHearings_97 : decode cX7_findHearings 97 = .ok (.aload_n 0, 1) := by decide +kernel
theorem dX7_findHearings_98 : decode cX7_findHearings 98 = .ok (.iconst 4, 1) := by decide +kernel
theorem dX7_findHearings_99 : decode cX7_findHearings 99 = .ok (.aload_n 0, 1) := by decide +kernel
theorem dX7_findHearings_100 : decode cX7_findHearings 100 = .ok (.getfield 47, 3) := by decide +kernel
theorem dX7_findHearings_103 : decode cX7_findHearings 103 = .ok (.iload_n 1, 1) := by decide +kernel
theorem dX7_findHearings_104 : decode cX7_findHearings 104 = .ok (.iaload, 1) := by decide +kernel
theorem dX7_findHearings_105 : decode cX7_findHearings 105 = .ok (.invokevirtual 133, 3) := by decide +kernel
theorem dX7_findHearings_108 : decode cX7_findHearings 108 = .ok (.aload_n 0, 1) := by decide +kernel
theorem dX7_findHearings_109 : decode cX7_findHearings 109 = .ok (.getfield 31, 3) := by decide +kernel
theorem dX7_findHearings_112 : decode cX7_findHearings 112 = .ok (.aload_n 0, 1) := by decide +kernel
theorem dX7_findHearings_113 : decode cX7_findHearings 113 = .ok (.getfield 44, 3) := by decide +kernel
theorem dX7_findHearings_116 : decode cX7_findHearings 116 = .ok (.iload_n 1, 1) := by decide +kernel
theorem dX7_findHearings_117 : decode cX7_findHearings 117 = .ok (.iaload, 1) := by decide +kernel
theorem dX7_findHearings_118 : decode cX7_findHearings 118 = .ok (.iload_n 3, 1) := by decide +kernel
theorem dX7_findHearings_119 : decode cX7_findHearings 119 = .ok (.invokevirtual 205, 3) := by decide +kernel
theorem dX7_findHearings_122 : decode cX7_findHearings 122 = .ok (.iinc 1 1, 3) := by decide +kernel
theorem dX7_findHearings_125 : decode cX7_findHearings 125 = .ok (.goto (-123), 3) := by decide +kernel
theorem dX7_findHearings_128 : decode cX7_findHearings 128 = .ok (.return_, 1) := by decide +kernel
theorem dX7_readText_0 : decode cX7_readText 0 = .ok (.aload_n 0, 1) := by decide +kernel
theorem dX7_readText_1 : decode cX7_readText 1 = .ok (.getfield 22, 3) := by decide +kernel
theorem dX7_readText_4 : decode cX7_readText 4 = .ok (.invokevirtual 56, 3) := by decide +kernel
theorem dX7_readText_7 : decode cX7_readText 7 = .ok (.aload_n 0, 1) := by decide +kernel
theorem dX7_readText_8 : decode cX7_readText 8 = .ok (.invokevirtual 59, 3) := by decide +kernel
theorem dX7_readText_11 : decode cX7_readText 11 = .ok (.iconst 0, 1) := by decide +kernel
theorem dX7_readText_12 : decode cX7_readText 12 = .ok (.istore_n 1, 1) := by decide +kernel
theorem dX7_readText_13 : decode cX7_readText 13 = .ok (.iload_n 1, 1) := by decide +kernel
theorem dX7_readText_14 : decode cX7_readText 14 = .ok (.sipush 4000, 3) := by decide +kernel
theorem dX7_readText_17 : decode cX7_readText 17 = .ok (.if_icmp .gt 33, 3) := by decide +kernel
theorem dX7_readText_20 : decode cX7_readText 20 = .ok (.aload_n 0, 1) := by decide +kernel
theorem dX7_readText_21 : decode cX7_readText 21 = .ok (.getfield 62, 3) := by decide +kernel
theorem dX7_readText_24 : decode cX7_readText 24 = .ok (.sipush 135, 3) := by decide +kernel
theorem dX7_readText_27 : decode cX7_readText 27 = .ok (.if_icmp .eq 23, 3) := by decide +kernel
theorem dX7_readText_30 : decode cX7_readText 30 = .ok (.aload_n 0, 1) := by decide +kernel
theorem dX7_readText_31 : decode cX7_readText 31 = .ok (.getfield 62, 3) := by decide +kernel
theorem dX7_readText_34 : decode cX7_readText 34 = .ok (.sipush 137, 3) := by decide +kernel
theorem dX7_readText_37 : decode cX7_readText 37 = .ok (.if_icmp .eq 13, 3) := by decide +kernel
theorem dX7_readText_40 : decode cX7_readText 40 = .ok (.aload_n 0, 1) := by decide +kernel
theorem dX7_readText_41 : decode cX7_readText 41 = .ok (.invokevirtual 66, 3) := by decide +kernel
theorem dX7_readText_44 : decode cX7_readText 44 = .ok (.iinc 1 1, 3) := by decide +kernel
theorem dX7_readText_47 : decode cX7_readText 47 = .ok (.goto (-34), 3) := by decide +kernel
theorem dX7_readText_50 : decode cX7_readText 50 = .ok (.aload_n 0, 1) := by decide +kernel
theorem dX7_readText_51 : decode cX7_readText 51 = .ok (.invokevirtual 69, 3) := by decide +kernel
theorem dX7_readText_54 : decode cX7_readText 54 = .ok (.aload_n 0, 1) := by decide +kernel
theorem dX7_readText_55 : decode cX7_readText 55 = .ok (.getfield 31, 3) := by decide +kernel
theorem dX7_readText_58 : decode cX7_readText 58 = .ok (.areturn, 1) := by decide +kernel
theorem dX7_faultFound_0 : decode cX7_faultFound 0 = .ok (.iconst 1, 1) := by decide +kernel
theorem dX7_faultFound_1 : decode cX7_faultFound 1 = .ok (.istore_n 1, 1) := by decide +kernel
theorem dX7_faultFound_2 : decode cX7_faultFound 2 = .ok (.iload_n 1, 1) := by decide +kernel
theorem dX7_faultFound_3 : decode cX7_faultFound 3 = .ok (.iconst 4, 1) := by decide +kernel
theorem dX7_faultFound_4 : decode cX7_faultFound 4 = .ok (.if_icmp .gt 21, 3) := by decide +kernel
theorem dX7_faultFound_7 : decode cX7_faultFound 7 = .ok (.aload_n 0, 1) := by decide +kernel
theorem dX7_faultFound_8 : decode cX7_faultFound 8 = .ok (.getfield 11, 3) := by decide +kernel
theorem dX7_faultFound_11 : decode cX7_faultFound 11 = .ok (.iload_n 1, 1) := by decide +kernel
theorem dX7_faultFound_12 : decode cX7_faultFound 12 = .ok (.iaload, 1) := by decide +kernel
theorem dX7_faultFound_13 : decode cX7_faultFound 13 = .ok (.iconst (-1), 1) := by decide +kernel
theorem dX7_faultFound_14 : decode cX7_faultFound 14 = .ok (.if_icmp .eq 5, 3) := by decide +kernel
theorem dX7_faultFound_17 : decode cX7_faultFound 17 = .ok (.iload_n 1, 1) := by decide +kernel
theorem dX7_faultFound_18 : decode cX7_faultFound 18 = .ok (.ireturn, 1) := by decide +kernel
theorem dX7_faultFound_19 : decode cX7_faultFound 19 = .ok (.iinc 1 1, 3) := by decide +kernel
theorem dX7_faultFound_22 : decode cX7_faultFound 22 = .ok (.goto (-20), 3) := by decide +kernel
theorem dX7_faultFound_25 : decode cX7_faultFound 25 = .ok (.iconst 0, 1) := by decide +kernel
theorem dX7_faultFound_26 : decode cX7_faultFound 26 = .ok (.ireturn, 1) := by decide +kernel
theorem dX7_placeOfFault_0 : decode cX7_placeOfFault 0 = .ok (.iload_n 1, 1) := by decide +kernel
theorem dX7_placeOfFault_1 : decode cX7_placeOfFault 1 = .ok (.iconst 1, 1) := by decide +kernel
theorem dX7_placeOfFault_2 : decode cX7_placeOfFault 2 = .ok (.if_icmp .lt 17, 3) := by decide +kernel
theorem dX7_placeOfFault_5 : decode cX7_placeOfFault 5 = .ok (.iload_n 1, 1) := by decide +kernel
theorem dX7_placeOfFault_6 : decode cX7_placeOfFault 6 = .ok (.iconst 4, 1) := by decide +kernel
theorem dX7_placeOfFault_7 : decode cX7_placeOfFault 7 = .ok (.if_icmp .gt 12, 3) := by decide +kernel
theorem dX7_placeOfFault_10 : decode cX7_placeOfFault 10 = .ok (.aload_n 0, 1) := by decide +kernel
theorem dX7_placeOfFault_11 : decode cX7_placeOfFault 11 = .ok (.getfield 11, 3) := by decide +kernel
theorem dX7_placeOfFault_14 : decode cX7_placeOfFault 14 = .ok (.iload_n 1, 1) := by decide +kernel
theorem dX7_placeOfFault_15 : decode cX7_placeOfFault 15 = .ok (.iaload, 1) := by decide +kernel
theorem dX7_placeOfFault_16 : decode cX7_placeOfFault 16 = .ok (.goto 4, 3) := by decide +kernel
theorem dX7_placeOfFault_19 : decode cX7_placeOfFault 19 = .ok (.iconst (-1), 1) := by decide +kernel
theorem dX7_placeOfFault_20 : decode cX7_placeOfFault 20 = .ok (.ireturn, 1) := by decide +kernel
theorem dX7_emit___0 : decode cX7_emit__ 0 = .ok (.aload_n 0, 1) := by decide +kernel
theorem dX7_emit___1 : decode cX7_emit__ 1 = .ok (.getfield 31, 3) := by decide +kernel
theorem dX7_emit___4 : decode cX7_emit__ 4 = .ok (.iload_n 1, 1) := by decide +kernel
theorem dX7_emit___5 : decode cX7_emit__ 5 = .ok (.invokevirtual 96, 3) := by decide +kernel
theorem dX7_emit___8 : decode cX7_emit__ 8 = .ok (.pop, 1) := by decide +kernel
theorem dX7_emit___9 : decode cX7_emit__ 9 = .ok (.aload_n 0, 1) := by decide +kernel
theorem dX7_emit___10 : decode cX7_emit__ 10 = .ok (.getfield 31, 3) := by decide +kernel
theorem dX7_emit___13 : decode cX7_emit__ 13 = .ok (.iload_n 2, 1) := by decide +kernel
theorem dX7_emit___14 : decode cX7_emit__ 14 = .ok (.invokevirtual 96, 3) := by decide +kernel
theorem dX7_emit___17 : decode cX7_emit__ 17 = .ok (.pop, 1) := by decide +kernel
theorem dX7_emit___18 : decode cX7_emit__ 18 = .ok (.aload_n 0, 1) := by decide +kernel
theorem dX7_emit___19 : decode cX7_emit__ 19 = .ok (.getfield 31, 3) := by decide +kernel
theorem dX7_emit___22 : decode cX7_emit__ 22 = .ok (.iload_n 3, 1) := by decide +kernel
theorem dX7_emit___23 : decode cX7_emit__ 23 = .ok (.invokevirtual 96, 3) := by decide +kernel
theorem dX7_emit___26 : decode cX7_emit__ 26 = .ok (.pop, 1) := by decide +kernel
theorem dX7_emit___27 : decode cX7_emit__ 27 = .ok (.return_, 1) := by decide +kernel
theorem dX7_slotOf_0 : decode cX7_slotOf 0 = .ok (.iload_n 1, 1) := by decide +kernel
theorem dX7_slotOf_1 : decode cX7_slotOf 1 = .ok (.ifCond .lt 21, 3) := by decide +kernel
theorem dX7_slotOf_4 : decode cX7_slotOf 4 = .ok (.iload_n 1, 1) := by decide +kernel
theorem dX7_slotOf_5 : decode cX7_slotOf 5 = .ok (.aload_n 0, 1) := by decide +kernel
theorem dX7_slotOf_6 : decode cX7_slotOf 6 = .ok (.getfield 38, 3) := by decide +kernel
theorem dX7_slotOf_9 : decode cX7_slotOf 9 = .ok (.arraylength, 1) := by decide +kernel
theorem dX7_slotOf_10 : decode cX7_slotOf 10 = .ok (.if_icmp .ge 12, 3) := by decide +kernel
theorem dX7_slotOf_13 : decode cX7_slotOf 13 = .ok (.aload_n 0, 1) := by decide +kernel
theorem dX7_slotOf_14 : decode cX7_slotOf 14 = .ok (.getfield 38, 3) := by decide +kernel
theorem dX7_slotOf_17 : decode cX7_slotOf 17 = .ok (.iload_n 1, 1) := by decide +kernel
theorem dX7_slotOf_18 : decode cX7_slotOf 18 = .ok (.iaload, 1) := by decide +kernel
theorem dX7_slotOf_19 : decode cX7_slotOf 19 = .ok (.goto 4, 3) := by decide +kernel
theorem dX7_slotOf_22 : decode cX7_slotOf 22 = .ok (.iconst 0, 1) := by decide +kernel
theorem dX7_slotOf_23 : decode cX7_slotOf 23 = .ok (.ireturn, 1) := by decide +kernel
theorem dX7_name_0 : decode cX7_name 0 = .ok (.aload_n 0, 1) := by decide +kernel
theorem dX7_name_1 : decode cX7_name 1 = .ok (.getfield 62, 3) := by decide +kernel
theorem dX7_name_4 : decode cX7_name 4 = .ok (.sipush 130, 3) := by decide +kernel
theorem dX7_name_7 : decode cX7_name 7 = .ok (.if_icmp .eq 9, 3) := by decide +kernel
theorem dX7_name_10 : decode cX7_name 10 = .ok (.aload_n 0, 1) := by decide +kernel
theorem dX7_name_11 : decode cX7_name 11 = .ok (.invokevirtual 93, 3) := by decide +kernel
theorem dX7_name_14 : decode cX7_name 14 = .ok (.iconst 0, 1) := by decide +kernel
theorem dX7_name_15 : decode cX7_name 15 = .ok (.ireturn, 1) := by decide +kernel
theorem dX7_name_16 : decode cX7_name 16 = .ok (.aload_n 0, 1) := by decide +kernel
theorem dX7_name_17 : decode cX7_name 17 = .ok (.aload_n 0, 1) := by decide +kernel
theorem dX7_name_18 : decode cX7_name 18 = .ok (.getfield 84, 3) := by decide +kernel
theorem dX7_name_21 : decode cX7_name 21 = .ok (.invokevirtual 148, 3) := by decide +kernel
theorem dX7_name_24 : decode cX7_name 24 = .ok (.ifCond .ne 12, 3) := by decide +kernel
theorem dX7_name_27 : decode cX7_name 27 = .ok (.aload_n 0, 1) := by decide +kernel
theorem dX7_name_28 : decode cX7_name 28 = .ok (.iconst 2, 1) := by decide +kernel
theorem dX7_name_29 : decode cX7_name 29 = .ok (.aload_n 0, 1) := by decide +kernel
theorem dX7_name_30 : decode cX7_name 30 = .ok (.getfield 90, 3) := by decide +kernel
theorem dX7_name_33 : decode cX7_name 33 = .ok (.invokevirtual 133, 3) := by decide +kernel
theorem dX7_name_36 : decode cX7_name 36 = .ok (.aload_n 0, 1) := by decide +kernel
theorem dX7_name_37 : decode cX7_name 37 = .ok (.aload_n 0, 1) := by decide +kernel
theorem dX7_name_38 : decode cX7_name 38 = .ok (.getfield 84, 3) := by decide +kernel
theorem dX7_name_41 : decode cX7_name 41 = .ok (.invokevirtual 154, 3) := by decide +kernel
theorem dX7_name_44 : decode cX7_name 44 = .ok (.istore_n 1, 1) := by decide +kernel
theorem dX7_name_45 : decode cX7_name 45 = .ok (.aload_n 0, 1) := by decide +kernel
theorem dX7_name_46 : decode cX7_name 46 = .ok (.invokevirtual 59, 3) := by decide +kernel
theorem dX7_name_49 : decode cX7_name 49 = .ok (.iload_n 1, 1) := by decide +kernel
theorem dX7_name_50 : decode cX7_name 50 = .ok (.ireturn, 1) := by decide +kernel
theorem dX7_object_0 : decode cX7_object 0 = .ok (.aload_n 0, 1) := by decide +kernel
theorem dX7_object_1 : decode cX7_object 1 = .ok (.getfield 62, 3) := by decide +kernel
theorem dX7_object_4 : decode cX7_object 4 = .ok (.sipush 131, 3) := by decide +kernel
theorem dX7_object_7 : decode cX7_object 7 = .ok (.if_icmp .eq 9, 3) := by decide +kernel
theorem dX7_object_10 : decode cX7_object 10 = .ok (.aload_n 0, 1) := by decide +kernel
theorem dX7_object_11 : decode cX7_object 11 = .ok (.invokevirtual 93, 3) := by decide +kernel
theorem dX7_object_14 : decode cX7_object 14 = .ok (.iconst 0, 1) := by decide +kernel
theorem dX7_object_15 : decode cX7_object 15 = .ok (.ireturn, 1) := by decide +kernel
theorem dX7_object_16 : decode cX7_object 16 = .ok (.aload_n 0, 1) := by decide +kernel
theorem dX7_object_17 : decode cX7_object 17 = .ok (.aload_n 0, 1) := by decide +kernel
theorem dX7_object_18 : decode cX7_object 18 = .ok (.getfield 84, 3) := by decide +kernel
theorem dX7_object_21 : decode cX7_object 21 = .ok (.invokevirtual 148, 3) := by decide +kernel
theorem dX7_object_24 : decode cX7_object 24 = .ok (.ifCond .ne 43, 3) := by decide +kernel
theorem dX7_object_27 : decode cX7_object 27 = .ok (.aload_n 0, 1) := by decide +kernel
theorem dX7_object_28 : decode cX7_object 28 = .ok (.getfield 139, 3) := by decide +kernel
theorem dX7_object_31 : decode cX7_object 31 = .ok (.bipush 8, 2) := by decide +kernel
theorem dX7_object_33 : decode cX7_object 33 = .ok (.if_icmp .lt 12, 3) := by decide +kernel
theorem dX7_object_36 : decode cX7_object 36 = .ok (.aload_n 0, 1) := by decide +kernel
theorem dX7_object_37 : decode cX7_object 37 = .ok (.iconst 3, 1) := by decide +kernel
theorem dX7_object_38 : decode cX7_object 38 = .ok (.aload_n 0, 1) := by decide +kernel
theorem dX7_object_39 : decode cX7_object 39 = .ok (.getfield 90, 3) := by decide +kernel
theorem dX7_object_42 : decode cX7_object 42 = .ok (.invokevirtual 133, 3) := by decide +kernel
theorem dX7_object_45 : decode cX7_object 45 = .ok (.aload_n 0, 1) := by decide +kernel
theorem dX7_object_46 : decode cX7_object 46 = .ok (.aload_n 0, 1) := by decide +kernel
theorem dX7_object_47 : decode cX7_object 47 = .ok (.getfield 84, 3) := by decide +kernel
theorem dX7_object_50 : decode cX7_object 50 = .ok (.aload_n 0, 1) := by decide +kernel
theorem dX7_object_51 : decode cX7_object 51 = .ok (.getfield 139, 3) := by decide +kernel
theorem dX7_object_54 : decode cX7_object 54 = .ok (.invokevirtual 145, 3) := by decide +kernel
theorem dX7_object_57 : decode cX7_object 57 = .ok (.aload_n 0, 1) := by decide +kernel
theorem dX7_object_58 : decode cX7_object 58 = .ok (.dup, 1) := by decide +kernel
theorem dX7_object_59 : decode cX7_object 59 = .ok (.getfield 139, 3) := by decide +kernel
theorem dX7_object_62 : decode cX7_object 62 = .ok (.iconst 1, 1) := by decide +kernel
theorem dX7_object_63 : decode cX7_object 63 = .ok (.iadd, 1) := by decide +kernel
theorem dX7_object_64 : decode cX7_object 64 = .ok (.putfield 139, 3) := by decide +kernel
theorem dX7_object_67 : decode cX7_object 67 = .ok (.aload_n 0, 1) := by decide +kernel
theorem dX7_object_68 : decode cX7_object 68 = .ok (.aload_n 0, 1) := by decide +kernel
theorem dX7_object_69 : decode cX7_object 69 = .ok (.getfield 84, 3) := by decide +kernel
theorem dX7_object_72 : decode cX7_object 72 = .ok (.invokevirtual 154, 3) := by decide +kernel
theorem dX7_object_75 : decode cX7_object 75 = .ok (.istore_n 1, 1) := by decide +kernel
theorem dX7_object_76 : decode cX7_object 76 = .ok (.aload_n 0, 1) := by decide +kernel
theorem dX7_object_77 : decode cX7_object 77 = .ok (.invokevirtual 59, 3) := by decide +kernel
theorem dX7_object_80 : decode cX7_object 80 = .ok (.iload_n 1, 1) := by decide +kernel
theorem dX7_object_81 : decode cX7_object 81 = .ok (.ireturn, 1) := by decide +kernel
theorem dX7_objectOrNone_0 : decode cX7_objectOrNone 0 = .ok (.aload_n 0, 1) := by decide +kernel
theorem dX7_objectOrNone_1 : decode cX7_objectOrNone 1 = .ok (.getfield 62, 3) := by decide +kernel
theorem dX7_objectOrNone_4 : decode cX7_objectOrNone 4 = .ok (.sipush 203, 3) := by decide +kernel
theorem dX7_objectOrNone_7 : decode cX7_objectOrNone 7 = .ok (.if_icmp .ne 9, 3) := by decide +kernel
theorem dX7_objectOrNone_10 : decode cX7_objectOrNone 10 = .ok (.aload_n 0, 1) := by decide +kernel
theorem dX7_objectOrNone_11 : decode cX7_objectOrNone 11 = .ok (.invokevirtual 59, 3) := by decide +kernel
theorem dX7_objectOrNone_14 : decode cX7_objectOrNone 14 = .ok (.iconst (-1), 1) := by decide +kernel
theorem dX7_objectOrNone_15 : decode cX7_objectOrNone 15 = .ok (.ireturn, 1) := by decide +kernel
theorem dX7_objectOrNone_16 : decode cX7_objectOrNone 16 = .ok (.aload_n 0, 1) := by decide +kernel
theorem dX7_objectOrNone_17 : decode cX7_objectOrNone 17 = .ok (.invokevirtual 157, 3) := by decide +kernel
theorem dX7_objectOrNone_20 : decode cX7_objectOrNone 20 = .ok (.ireturn, 1) := by decide +kernel
theorem dX9_isKind_0 : decode cX9_isKind 0 = .ok (.iload_n 0, 1) := by decide +kernel
theorem dX9_isKind_1 : decode cX9_isKind 1 = .ok (.sipush 226, 3) := by decide +kernel
theorem dX9_isKind_4 : decode cX9_isKind 4 = .ok (.if_icmp .lt 14, 3) := by decide +kernel
theorem dX9_isKind_7 : decode cX9_isKind 7 = .ok (.iload_n 0, 1) := by decide +kernel
theorem dX9_isKind_8 : decode cX9_isKind 8 = .ok (.sipush 233, 3) := by decide +kernel
theorem dX9_isKind_11 : decode cX9_isKind 11 = .ok (.if_icmp .ge 7, 3) := by decide +kernel
theorem dX9_isKind_14 : decode cX9_isKind 14 = .ok (.iconst 1, 1) := by decide +kernel
theorem dX9_isKind_15 : decode cX9_isKind 15 = .ok (.goto 4, 3) := by decide +kernel
theorem dX9_isKind_18 : decode cX9_isKind 18 = .ok (.iconst 0, 1) := by decide +kernel
theorem dX9_isKind_19 : decode cX9_isKind 19 = .ok (.ireturn, 1) := by decide +kernel
theorem dX7_kind_0 : decode cX7_kind 0 = .ok (.aload_n 0, 1) := by decide +kernel
theorem dX7_kind_1 : decode cX7_kind 1 = .ok (.getfield 62, 3) := by decide +kernel
theorem dX7_kind_4 : decode cX7_kind 4 = .ok (.sipush 226, 3) := by decide +kernel
theorem dX7_kind_7 : decode cX7_kind 7 = .ok (.isub, 1) := by decide +kernel
theorem dX7_kind_8 : decode cX7_kind 8 = .ok (.istore_n 1, 1) := by decide +kernel
theorem dX7_kind_9 : decode cX7_kind 9 = .ok (.aload_n 0, 1) := by decide +kernel
theorem dX7_kind_10 : decode cX7_kind 10 = .ok (.getfield 62, 3) := by decide +kernel
theorem dX7_kind_13 : decode cX7_kind 13 = .ok (.invokestatic 160, 3) := by decide +kernel
theorem dX7_kind_16 : decode cX7_kind 16 = .ok (.ifCond .eq 9, 3) := by decide +kernel
theorem dX7_kind_19 : decode cX7_kind 19 = .ok (.aload_n 0, 1) := by decide +kernel
theorem dX7_kind_20 : decode cX7_kind 20 = .ok (.invokevirtual 59, 3) := by decide +kernel
theorem dX7_kind_23 : decode cX7_kind 23 = .ok (.iload_n 1, 1) := by decide +kernel
theorem dX7_kind_24 : decode cX7_kind 24 = .ok (.ireturn, 1) := by decide +kernel
theorem dX7_kind_25 : decode cX7_kind 25 = .ok (.aload_n 0, 1) := by decide +kernel
theorem dX7_kind_26 : decode cX7_kind 26 = .ok (.invokevirtual 93, 3) := by decide +kernel
theorem dX7_kind_29 : decode cX7_kind 29 = .ok (.iconst (-1), 1) := by decide +kernel
theorem dX7_kind_30 : decode cX7_kind 30 = .ok (.ireturn, 1) := by decide +kernel
theorem dX7_restOfProduct_0 : decode cX7_restOfProduct 0 = .ok (.iconst 0, 1) := by decide +kernel
theorem dX7_restOfProduct_1 : decode cX7_restOfProduct 1 = .ok (.istore_n 2, 1) := by decide +kernel
theorem dX7_restOfProduct_2 : decode cX7_restOfProduct 2 = .ok (.iload_n 2, 1) := by decide +kernel
theorem dX7_restOfProduct_3 : decode cX7_restOfProduct 3 = .ok (.sipush 4000, 3) := by decide +kernel
theorem dX7_restOfProduct_6 : decode cX7_restOfProduct 6 = .ok (.if_icmp .gt 81, 3) := by decide +kernel
theorem dX7_restOfProduct_9 : decode cX7_restOfProduct 9 = .ok (.aload_n 0, 1) := by decide +kernel
theorem dX7_restOfProduct_10 : decode cX7_restOfProduct 10 = .ok (.getfield 62, 3) := by decide +kernel
theorem dX7_restOfProduct_13 : decode cX7_restOfProduct 13 = .ok (.bipush 42, 2) := by decide +kernel
theorem dX7_restOfProduct_15 : decode cX7_restOfProduct 15 = .ok (.if_icmp .eq 21, 3) := by decide +kernel
theorem dX7_restOfProduct_18 : decode cX7_restOfProduct 18 = .ok (.aload_n 0, 1) := by decide +kernel
theorem dX7_restOfProduct_19 : decode cX7_restOfProduct 19 = .ok (.getfield 62, 3) := by decide +kernel
theorem dX7_restOfProduct_22 : decode cX7_restOfProduct 22 = .ok (.bipush 47, 2) := by decide +kernel
theorem dX7_restOfProduct_24 : decode cX7_restOfProduct 24 = .ok (.if_icmp .eq 12, 3) := by decide +kernel
theorem dX7_restOfProduct_27 : decode cX7_restOfProduct 27 = .ok (.aload_n 0, 1) := by decide +kernel
theorem dX7_restOfProduct_28 : decode cX7_restOfProduct 28 = .ok (.getfield 62, 3) := by decide +kernel
theorem dX7_restOfProduct_31 : decode cX7_restOfProduct 31 = .ok (.bipush 37, 2) := by decide +kernel
theorem dX7_restOfProduct_33 : decode cX7_restOfProduct 33 = .ok (.if_icmp .ne 54, 3) := by decide +kernel
theorem dX7_restOfProduct_36 : decode cX7_restOfProduct 36 = .ok (.aload_n 0, 1) := by decide +kernel
theorem dX7_restOfProduct_37 : decode cX7_restOfProduct 37 = .ok (.getfield 62, 3) := by decide +kernel
theorem dX7_restOfProduct_40 : decode cX7_restOfProduct 40 = .ok (.bipush 42, 2) := by decide +kernel
theorem dX7_restOfProduct_42 : decode cX7_restOfProduct 42 = .ok (.if_icmp .ne 8, 3) := by decide +kernel
theorem dX7_restOfProduct_45 : decode cX7_restOfProduct 45 = .ok (.bipush 16, 2) := by decide +kernel
theorem dX7_restOfProduct_47 : decode cX7_restOfProduct 47 = .ok (.goto 19, 3) := by decide +kernel
theorem dX7_restOfProduct_50 : decode cX7_restOfProduct 50 = .ok (.aload_n 0, 1) := by decide +kernel
theorem dX7_restOfProduct_51 : decode cX7_restOfProduct 51 = .ok (.getfield 62, 3) := by decide +kernel
theorem dX7_restOfProduct_54 : decode cX7_restOfProduct 54 = .ok (.bipush 47, 2) := by decide +kernel
theorem dX7_restOfProduct_56 : decode cX7_restOfProduct 56 = .ok (.if_icmp .ne 8, 3) := by decide +kernel
theorem dX7_restOfProduct_59 : decode cX7_restOfProduct 59 = .ok (.bipush 17, 2) := by decide +kernel
theorem dX7_restOfProduct_61 : decode cX7_restOfProduct 61 = .ok (.goto 5, 3) := by decide +kernel
theorem dX7_restOfProduct_64 : decode cX7_restOfProduct 64 = .ok (.bipush 18, 2) := by decide +kernel
theorem dX7_restOfProduct_66 : decode cX7_restOfProduct 66 = .ok (.istore_n 3, 1) := by decide +kernel
theorem dX7_restOfProduct_67 : decode cX7_restOfProduct 67 = .ok (.aload_n 0, 1) := by decide +kernel
theorem dX7_restOfProduct_68 : decode cX7_restOfProduct 68 = .ok (.invokevirtual 59, 3) := by decide +kernel
theorem dX7_restOfProduct_71 : decode cX7_restOfProduct 71 = .ok (.aload_n 0, 1) := by decide +kernel
theorem dX7_restOfProduct_72 : decode cX7_restOfProduct 72 = .ok (.iload_n 1, 1) := by decide +kernel
theorem dX7_restOfProduct_73 : decode cX7_restOfProduct 73 = .ok (.invokevirtual 240, 3) := by decide +kernel
theorem dX7_restOfProduct_76 : decode cX7_restOfProduct 76 = .ok (.aload_n 0, 1) := by decide +kernel
theorem dX7_restOfProduct_77 : decode cX7_restOfProduct 77 = .ok (.iload_n 3, 1) := by decide +kernel
theorem dX7_restOfProduct_78 : decode cX7_restOfProduct 78 = .ok (.invokevirtual 125, 3) := by decide +kernel
theorem dX7_restOfProduct_81 : decode cX7_restOfProduct 81 = .ok (.iinc 2 1, 3) := by decide +kernel
theorem dX7_restOfProduct_84 : decode cX7_restOfProduct 84 = .ok (.goto (-82), 3) := by decide +kernel
theorem dX7_restOfProduct_87 : decode cX7_restOfProduct 87 = .ok (.return_, 1) := by decide +kernel
theorem dX7_restOfSum_0 : decode cX7_restOfSum 0 = .ok (.iconst 0, 1) := by decide +kernel
theorem dX7_restOfSum_1 : decode cX7_restOfSum 1 = .ok (.istore_n 2, 1) := by decide +kernel
theorem dX7_restOfSum_2 : decode cX7_restOfSum 2 = .ok (.iload_n 2, 1) := by decide +kernel
theorem dX7_restOfSum_3 : decode cX7_restOfSum 3 = .ok (.sipush 4000, 3) := by decide +kernel
theorem dX7_restOfSum_6 : decode cX7_restOfSum 6 = .ok (.if_icmp .gt 63, 3) := by decide +kernel
theorem dX7_restOfSum_9 : decode cX7_restOfSum 9 = .ok (.aload_n 0, 1) := by decide +kernel
theorem dX7_restOfSum_10 : decode cX7_restOfSum 10 = .ok (.getfield 62, 3) := by decide +kernel
theorem dX7_restOfSum_13 : decode cX7_restOfSum 13 = .ok (.bipush 43, 2) := by decide +kernel
theorem dX7_restOfSum_15 : decode cX7_restOfSum 15 = .ok (.if_icmp .eq 12, 3) := by decide +kernel
theorem dX7_restOfSum_18 : decode cX7_restOfSum 18 = .ok (.aload_n 0, 1) := by decide +kernel
theorem dX7_restOfSum_19 : decode cX7_restOfSum 19 = .ok (.getfield 62, 3) := by decide +kernel
theorem dX7_restOfSum_22 : decode cX7_restOfSum 22 = .ok (.bipush 45, 2) := by decide +kernel
theorem dX7_restOfSum_24 : decode cX7_restOfSum 24 = .ok (.if_icmp .ne 45, 3) := by decide +kernel
theorem dX7_restOfSum_27 : decode cX7_restOfSum 27 = .ok (.aload_n 0, 1) := by decide +kernel
theorem dX7_restOfSum_28 : decode cX7_restOfSum 28 = .ok (.getfield 62, 3) := by decide +kernel
theorem dX7_restOfSum_31 : decode cX7_restOfSum 31 = .ok (.bipush 43, 2) := by decide +kernel
theorem dX7_restOfSum_33 : decode cX7_restOfSum 33 = .ok (.if_icmp .ne 8, 3) := by decide +kernel
theorem dX7_restOfSum_36 : decode cX7_restOfSum 36 = .ok (.bipush 14, 2) := by decide +kernel
theorem dX7_restOfSum_38 : decode cX7_restOfSum 38 = .ok (.goto 5, 3) := by decide +kernel
theorem dX7_restOfSum_41 : decode cX7_restOfSum 41 = .ok (.bipush 15, 2) := by decide +kernel
theorem dX7_restOfSum_43 : decode cX7_restOfSum 43 = .ok (.istore_n 3, 1) := by decide +kernel
theorem dX7_restOfSum_44 : decode cX7_restOfSum 44 = .ok (.aload_n 0, 1) := by decide +kernel
theorem dX7_restOfSum_45 : decode cX7_restOfSum 45 = .ok (.invokevirtual 59, 3) := by decide +kernel
theorem dX7_restOfSum_48 : decode cX7_restOfSum 48 = .ok (.aload_n 0, 1) := by decide +kernel
theorem dX7_restOfSum_49 : decode cX7_restOfSum 49 = .ok (.iload_n 1, 1) := by decide +kernel
theorem dX7_restOfSum_50 : decode cX7_restOfSum 50 = .ok (.invokevirtual 240, 3) := by decide +kernel
theorem dX7_restOfSum_53 : decode cX7_restOfSum 53 = .ok (.aload_n 0, 1) := by decide +kernel
theorem dX7_restOfSum_54 : decode cX7_restOfSum 54 = .ok (.iload_n 1, 1) := by decide +kernel
theorem dX7_restOfSum_55 : decode cX7_restOfSum 55 = .ok (.invokevirtual 243, 3) := by decide +kernel
theorem dX7_restOfSum_58 : decode cX7_restOfSum 58 = .ok (.aload_n 0, 1) := by decide +kernel
theorem dX7_restOfSum_59 : decode cX7_restOfSum 59 = .ok (.iload_n 3, 1) := by decide +kernel
theorem dX7_restOfSum_60 : decode cX7_restOfSum 60 = .ok (.invokevirtual 125, 3) := by decide +kernel
theorem dX7_restOfSum_63 : decode cX7_restOfSum 63 = .ok (.iinc 2 1, 3) := by decide +kernel
theorem dX7_restOfSum_66 : decode cX7_restOfSum 66 = .ok (.goto (-64), 3) := by decide +kernel
theorem dX7_restOfSum_69 : decode cX7_restOfSum 69 = .ok (.return_, 1) := by decide +kernel
theorem dX7_restOfExpression_0 : decode cX7_restOfExpression 0 = .ok (.aload_n 0, 1) := by decide +kernel
theorem dX7_restOfExpression_1 : decode cX7_restOfExpression 1 = .ok (.iload_n 1, 1) := by decide +kernel
theorem dX7_restOfExpression_2 : decode cX7_restOfExpression 2 = .ok (.invokevirtual 243, 3) := by decide +kernel
theorem dX7_restOfExpression_5 : decode cX7_restOfExpression 5 = .ok (.aload_n 0, 1) := by decide +kernel
theorem dX7_restOfExpression_6 : decode cX7_restOfExpression 6 = .ok (.iload_n 1, 1) := by decide +kernel
theorem dX7_restOfExpression_7 : decode cX7_restOfExpression 7 = .ok (.invokevirtual 246, 3) := by decide +kernel
theorem dX7_restOfExpression_10 : decode cX7_restOfExpression 10 = .ok (.aload_n 0, 1) := by decide +kernel
theorem dX7_restOfExpression_11 : decode cX7_restOfExpression 11 = .ok (.getfield 62, 3) := by decide +kernel
theorem dX7_restOfExpression_14 : decode cX7_restOfExpression 14 = .ok (.bipush 60, 2) := by decide +kernel
theorem dX7_restOfExpression_16 : decode cX7_restOfExpression 16 = .ok (.if_icmp .ne 8, 3) := by decide +kernel
theorem dX7_restOfExpression_19 : decode cX7_restOfExpression 19 = .ok (.bipush 19, 2) := by decide +kernel
theorem dX7_restOfExpression_21 : decode cX7_restOfExpression 21 = .ok (.goto 20, 3) := by decide +kernel
theorem dX7_restOfExpression_24 : decode cX7_restOfExpression 24 = .ok (.aload_n 0, 1) := by decide +kernel
theorem dX7_restOfExpression_25 : decode cX7_restOfExpression 25 = .ok (.getfield 62, 3) := by decide +kernel
theorem dX7_restOfExpression_28 : decode cX7_restOfExpression 28 = .ok (.sipush 133, 3) := by decide +kernel
theorem dX7_restOfExpression_31 : decode cX7_restOfExpression 31 = .ok (.if_icmp .ne 8, 3) := by decide +kernel
theorem dX7_restOfExpression_34 : decode cX7_restOfExpression 34 = .ok (.bipush 20, 2) := by decide +kernel
theorem dX7_restOfExpression_36 : decode cX7_restOfExpression 36 = .ok (.goto 5, 3) := by decide +kernel
theorem dX7_restOfExpression_39 : decode cX7_restOfExpression 39 = .ok (.bipush 21, 2) := by decide +kernel
theorem dX7_restOfExpression_41 : decode cX7_restOfExpression 41 = .ok (.istore_n 2, 1) := by decide +kernel
theorem dX7_restOfExpression_42 : decode cX7_restOfExpression 42 = .ok (.aload_n 0, 1) := by decide +kernel
theorem dX7_restOfExpression_43 : decode cX7_restOfExpression 43 = .ok (.getfield 62, 3) := by decide +kernel
theorem dX7_restOfExpression_46 : decode cX7_restOfExpression 46 = .ok (.bipush 60, 2) := by decide +kernel
theorem dX7_restOfExpression_48 : decode cX7_restOfExpression 48 = .ok (.if_icmp .eq 23, 3) := by decide +kernel
theorem dX7_restOfExpression_51 : decode cX7_restOfExpression 51 = .ok (.aload_n 0, 1) := by decide +kernel
theorem dX7_restOfExpression_52 : decode cX7_restOfExpression 52 = .ok (.getfield 62, 3) := by decide +kernel
theorem dX7_restOfExpression_55 : decode cX7_restOfExpression 55 = .ok (.sipush 133, 3) := by decide +kernel
theorem dX7_restOfExpression_58 : decode cX7_restOfExpression 58 = .ok (.if_icmp .eq 13, 3) := by decide +kernel
theorem dX7_restOfExpression_61 : decode cX7_restOfExpression 61 = .ok (.aload_n 0, 1) := by decide +kernel
theorem dX7_restOfExpression_62 : decode cX7_restOfExpression 62 = .ok (.getfield 62, 3) := by decide +kernel
theorem dX7_restOfExpression_65 : decode cX7_restOfExpression 65 = .ok (.sipush 134, 3) := by decide +kernel
theorem dX7_restOfExpression_68 : decode cX7_restOfExpression 68 = .ok (.if_icmp .ne 27, 3) := by decide +kernel
theorem dX7_restOfExpression_71 : decode cX7_restOfExpression 71 = .ok (.aload_n 0, 1) := by decide +kernel
theorem dX7_restOfExpression_72 : decode cX7_restOfExpression 72 = .ok (.invokevirtual 59, 3) := by decide +kernel
theorem dX7_restOfExpression_75 : decode cX7_restOfExpression 75 = .ok (.aload_n 0, 1) := by decide +kernel
theorem dX7_restOfExpression_76 : decode cX7_restOfExpression 76 = .ok (.iload_n 1, 1) := by decide +kernel
theorem dX7_restOfExpression_77 : decode cX7_restOfExpression 77 = .ok (.invokevirtual 240, 3) := by decide +kernel
theorem dX7_restOfExpression_80 : decode cX7_restOfExpression 80 = .ok (.aload_n 0, 1) := by decide +kernel
theorem dX7_restOfExpression_81 : decode cX7_restOfExpression 81 = .ok (.iload_n 1, 1) := by decide +kernel
theorem dX7_restOfExpression_82 : decode cX7_restOfExpression 82 = .ok (.invokevirtual 243, 3) := by decide +kernel
theorem dX7_restOfExpression_85 : decode cX7_restOfExpression 85 = .ok (.aload_n 0, 1) := by decide +kernel
theorem dX7_restOfExpression_86 : decode cX7_restOfExpression 86 = .ok (.iload_n 1, 1) := by decide +kernel
theorem dX7_restOfExpression_87 : decode cX7_restOfExpression 87 = .ok (.invokevirtual 246, 3) := by decide +kernel
theorem dX7_restOfExpression_90 : decode cX7_restOfExpression 90 = .ok (.aload_n 0, 1) := by decide +kernel
theorem dX7_restOfExpression_91 : decode cX7_restOfExpression 91 = .ok (.iload_n 2, 1) := by decide +kernel
theorem dX7_restOfExpression_92 : decode cX7_restOfExpression 92 = .ok (.invokevirtual 125, 3) := by decide +kernel
theorem dX7_restOfExpression_95 : decode cX7_restOfExpression 95 = .ok (.return_, 1) := by decide +kernel
theorem dX7_expression_0 : decode cX7_expression 0 = .ok (.aload_n 0, 1) := by decide +kernel
theorem dX7_expression_1 : decode cX7_expression 1 = .ok (.iload_n 1, 1) := by decide +kernel
theorem dX7_expression_2 : decode cX7_expression 2 = .ok (.invokevirtual 240, 3) := by decide +kernel
theorem dX7_expression_5 : decode cX7_expression 5 = .ok (.aload_n 0, 1) := by decide +kernel
theorem dX7_expression_6 : decode cX7_expression 6 = .ok (.iload_n 1, 1) := by decide +kernel
theorem dX7_expression_7 : decode cX7_expression 7 = .ok (.invokevirtual 225, 3) := by decide +kernel
theorem dX7_expression_10 : decode cX7_expression 10 = .ok (.return_, 1) := by decide +kernel
theorem dX7_choice_0 : decode cX7_choice 0 = .ok (.aload_n 0, 1) := by decide +kernel
theorem dX7_choice_1 : decode cX7_choice 1 = .ok (.iconst 0, 1) := by decide +kernel
theorem dX7_choice_2 : decode cX7_choice 2 = .ok (.invokevirtual 125, 3) := by decide +kernel
theorem dX7_choice_5 : decode cX7_choice 5 = .ok (.aload_n 0, 1) := by decide +kernel
theorem dX7_choice_6 : decode cX7_choice 6 = .ok (.invokevirtual 59, 3) := by decide +kernel
theorem dX7_choice_9 : decode cX7_choice 9 = .ok (.aload_n 0, 1) := by decide +kernel
theorem dX7_choice_10 : decode cX7_choice 10 = .ok (.iload_n 1, 1) := by decide +kernel
theorem dX7_choice_11 : decode cX7_choice 11 = .ok (.invokevirtual 202, 3) := by decide +kernel
theorem dX7_choice_14 : decode cX7_choice 14 = .ok (.aload_n 0, 1) := by decide +kernel
theorem dX7_choice_15 : decode cX7_choice 15 = .ok (.bipush 13, 2) := by decide +kernel
theorem dX7_choice_17 : decode cX7_choice 17 = .ok (.invokevirtual 125, 3) := by decide +kernel
theorem dX7_choice_20 : decode cX7_choice 20 = .ok (.aload_n 0, 1) := by decide +kernel
theorem dX7_choice_21 : decode cX7_choice 21 = .ok (.getfield 31, 3) := by decide +kernel
theorem dX7_choice_24 : decode cX7_choice 24 = .ok (.iconst (-1), 1) := by decide +kernel
theorem dX7_choice_25 : decode cX7_choice 25 = .ok (.invokevirtual 96, 3) := by decide +kernel
theorem dX7_choice_28 : decode cX7_choice 28 = .ok (.istore_n 2, 1) := by decide +kernel
theorem dX7_choice_29 : decode cX7_choice 29 = .ok (.aload_n 0, 1) := by decide +kernel
theorem dX7_choice_30 : decode cX7_choice 30 = .ok (.iload_n 1, 1) := by decide +kernel
theorem dX7_choice_31 : decode cX7_choice 31 = .ok (.invokevirtual 117, 3) := by decide +kernel
theorem dX7_choice_34 : decode cX7_choice 34 = .ok (.aload_n 0, 1) := by decide +kernel
theorem dX7_choice_35 : decode cX7_choice 35 = .ok (.getfield 62, 3) := by decide +kernel
theorem dX7_choice_38 : decode cX7_choice 38 = .ok (.sipush 214, 3) := by decide +kernel
theorem dX7_choice_41 : decode cX7_choice 41 = .ok (.if_icmp .eq 19, 3) := by decide +kernel
theorem dX7_choice_44 : decode cX7_choice 44 = .ok (.aload_n 0, 1) := by decide +kernel
theorem dX7_choice_45 : decode cX7_choice 45 = .ok (.getfield 31, 3) := by decide +kernel
theorem dX7_choice_48 : decode cX7_choice 48 = .ok (.iload_n 2, 1) := by decide +kernel
theorem dX7_choice_49 : decode cX7_choice 49 = .ok (.aload_n 0, 1) := by decide +kernel
theorem dX7_choice_50 : decode cX7_choice 50 = .ok (.getfield 31, 3) := by decide +kernel
theorem dX7_choice_53 : decode cX7_choice 53 = .ok (.getfield 110, 3) := by decide +kernel
theorem dX7_choice_56 : decode cX7_choice 56 = .ok (.invokevirtual 205, 3) := by decide +kernel
theorem dX7_choice_59 : decode cX7_choice 59 = .ok (.return_, 1) := by decide +kernel
theorem dX7_choice_60 : decode cX7_choice 60 = .ok (.aload_n 0, 1) := by decide +kernel
theorem dX7_choice_61 : decode cX7_choice 61 = .ok (.invokevirtual 59, 3) := by decide +kernel
theorem dX7_choice_64 : decode cX7_choice 64 = .ok (.aload_n 0, 1) := by decide +kernel
theorem dX7_choice_65 : decode cX7_choice 65 = .ok (.bipush 12, 2) := by decide +kernel
theorem dX7_choice_67 : decode cX7_choice 67 = .ok (.invokevirtual 125, 3) := by decide +kernel
theorem dX7_choice_70 : decode cX7_choice 70 = .ok (.aload_n 0, 1) := by decide +kernel
theorem dX7_choice_71 : decode cX7_choice 71 = .ok (.getfield 31, 3) := by decide +kernel
theorem dX7_choice_74 : decode cX7_choice 74 = .ok (.iconst (-1), 1) := by decide +kernel
theorem dX7_choice_75 : decode cX7_choice 75 = .ok (.invokevirtual 96, 3) := by decide +kernel
theorem dX7_choice_78 : decode cX7_choice 78 = .ok (.istore_n 3, 1) := by decide +kernel
theorem dX7_choice_79 : decode cX7_choice 79 = .ok (.aload_n 0, 1) := by decide +kernel
theorem dX7_choice_80 : decode cX7_choice 80 = .ok (.getfield 31, 3) := by decide +kernel
theorem dX7_choice_83 : decode cX7_choice 83 = .ok (.iload_n 2, 1) := by decide +kernel
theorem dX7_choice_84 : decode cX7_choice 84 = .ok (.aload_n 0, 1) := by decide +kernel
theorem dX7_choice_85 : decode cX7_choice 85 = .ok (.getfield 31, 3) := by decide +kernel
theorem dX7_choice_88 : decode cX7_choice 88 = .ok (.getfield 110, 3) := by decide +kernel
theorem dX7_choice_91 : decode cX7_choice 91 = .ok (.invokevirtual 205, 3) := by decide +kernel
theorem dX7_choice_94 : decode cX7_choice 94 = .ok (.aload_n 0, 1) := by decide +kernel
theorem dX7_choice_95 : decode cX7_choice 95 = .ok (.iload_n 1, 1) := by decide +kernel
theorem dX7_choice_96 : decode cX7_choice 96 = .ok (.invokevirtual 117, 3) := by decide +kernel
theorem dX7_choice_99 : decode cX7_choice 99 = .ok (.aload_n 0, 1) := by decide +kernel
theorem dX7_choice_100 : decode cX7_choice 100 = .ok (.getfield 31, 3) := by decide +kernel
theorem dX7_choice_103 : decode cX7_choice 103 = .ok (.iload_n 3, 1) := by decide +kernel
theorem dX7_choice_104 : decode cX7_choice 104 = .ok (.aload_n 0, 1) := by decide +kernel
theorem dX7_choice_105 : decode cX7_choice 105 = .ok (.getfield 31, 3) := by decide +kernel
theorem dX7_choice_108 : decode cX7_choice 108 = .ok (.getfield 110, 3) := by decide +kernel
theorem dX7_choice_111 : decode cX7_choice 111 = .ok (.invokevirtual 205, 3) := by decide +kernel
theorem dX7_choice_114 : decode cX7_choice 114 = .ok (.return_, 1) := by decide +kernel
theorem dX7_loop_0 : decode cX7_loop 0 = .ok (.aload_n 0, 1) := by decide +kernel
theorem dX7_loop_1 : decode cX7_loop 1 = .ok (.getfield 31, 3) := by decide +kernel
theorem dX7_loop_4 : decode cX7_loop 4 = .ok (.getfield 110, 3) := by decide +kernel
theorem dX7_loop_7 : decode cX7_loop 7 = .ok (.istore_n 2, 1) := by decide +kernel
theorem dX7_loop_8 : decode cX7_loop 8 = .ok (.aload_n 0, 1) := by decide +kernel
theorem dX7_loop_9 : decode cX7_loop 9 = .ok (.iconst 0, 1) := by decide +kernel
theorem dX7_loop_10 : decode cX7_loop 10 = .ok (.invokevirtual 125, 3) := by decide +kernel
theorem dX7_loop_13 : decode cX7_loop 13 = .ok (.aload_n 0, 1) := by decide +kernel
theorem dX7_loop_14 : decode cX7_loop 14 = .ok (.invokevirtual 59, 3) := by decide +kernel
theorem dX7_loop_17 : decode cX7_loop 17 = .ok (.aload_n 0, 1) := by decide +kernel
theorem dX7_loop_18 : decode cX7_loop 18 = .ok (.iload_n 1, 1) := by decide +kernel
theorem dX7_loop_19 : decode cX7_loop 19 = .ok (.invokevirtual 202, 3) := by decide +kernel
theorem dX7_loop_22 : decode cX7_loop 22 = .ok (.aload_n 0, 1) := by decide +kernel
theorem dX7_loop_23 : decode cX7_loop 23 = .ok (.bipush 13, 2) := by decide +kernel
theorem dX7_loop_25 : decode cX7_loop 25 = .ok (.invokevirtual 125, 3) := by decide +kernel
theorem dX7_loop_28 : decode cX7_loop 28 = .ok (.aload_n 0, 1) := by decide +kernel
theorem dX7_loop_29 : decode cX7_loop 29 = .ok (.getfield 31, 3) := by decide +kernel
theorem dX7_loop_32 : decode cX7_loop 32 = .ok (.iconst (-1), 1) := by decide +kernel
theorem dX7_loop_33 : decode cX7_loop 33 = .ok (.invokevirtual 96, 3) := by decide +kernel
theorem dX7_loop_36 : decode cX7_loop 36 = .ok (.istore_n 3, 1) := by decide +kernel
theorem dX7_loop_37 : decode cX7_loop 37 = .ok (.aload_n 0, 1) := by decide +kernel
theorem dX7_loop_38 : decode cX7_loop 38 = .ok (.iload_n 1, 1) := by decide +kernel
theorem dX7_loop_39 : decode cX7_loop 39 = .ok (.invokevirtual 117, 3) := by decide +kernel
theorem dX7_loop_42 : decode cX7_loop 42 = .ok (.aload_n 0, 1) := by decide +kernel
theorem dX7_loop_43 : decode cX7_loop 43 = .ok (.bipush 12, 2) := by decide +kernel
theorem dX7_loop_45 : decode cX7_loop 45 = .ok (.iload_n 2, 1) := by decide +kernel
theorem dX7_loop_46 : decode cX7_loop 46 = .ok (.invokevirtual 122, 3) := by decide +kernel
theorem dX7_loop_49 : decode cX7_loop 49 = .ok (.aload_n 0, 1) := by decide +kernel
theorem dX7_loop_50 : decode cX7_loop 50 = .ok (.getfield 31, 3) := by decide +kernel
theorem dX7_loop_53 : decode cX7_loop 53 = .ok (.iload_n 3, 1) := by decide +kernel
theorem dX7_loop_54 : decode cX7_loop 54 = .ok (.aload_n 0, 1) := by decide +kernel
theorem dX7_loop_55 : decode cX7_loop 55 = .ok (.getfield 31, 3) := by decide +kernel
theorem dX7_loop_58 : decode cX7_loop 58 = .ok (.getfield 110, 3) := by decide +kernel
theorem dX7_loop_61 : decode cX7_loop 61 = .ok (.invokevirtual 205, 3) := by decide +kernel
theorem dX7_loop_64 : decode cX7_loop 64 = .ok (.return_, 1) := by decide +kernel
theorem dX7_attempt_0 : decode cX7_attempt 0 = .ok (.aload_n 0, 1) := by decide +kernel
theorem dX7_attempt_1 : decode cX7_attempt 1 = .ok (.iconst 0, 1) := by decide +kernel
theorem dX7_attempt_2 : decode cX7_attempt 2 = .ok (.invokevirtual 125, 3) := by decide +kernel
theorem dX7_attempt_5 : decode cX7_attempt 5 = .ok (.aload_n 0, 1) := by decide +kernel
theorem dX7_attempt_6 : decode cX7_attempt 6 = .ok (.invokevirtual 59, 3) := by decide +kernel
theorem dX7_attempt_9 : decode cX7_attempt 9 = .ok (.aload_n 0, 1) := by decide +kernel
theorem dX7_attempt_10 : decode cX7_attempt 10 = .ok (.iconst 4, 1) := by decide +kernel
theorem dX7_attempt_11 : decode cX7_attempt 11 = .ok (.invokevirtual 125, 3) := by decide +kernel
theorem dX7_attempt_14 : decode cX7_attempt 14 = .ok (.aload_n 0, 1) := by decide +kernel
theorem dX7_attempt_15 : decode cX7_attempt 15 = .ok (.getfield 31, 3) := by decide +kernel
theorem dX7_attempt_18 : decode cX7_attempt 18 = .ok (.iconst (-1), 1) := by decide +kernel
theorem dX7_attempt_19 : decode cX7_attempt 19 = .ok (.invokevirtual 96, 3) := by decide +kernel
theorem dX7_attempt_22 : decode cX7_attempt 22 = .ok (.istore_n 2, 1) := by decide +kernel
theorem dX7_attempt_23 : decode cX7_attempt 23 = .ok (.aload_n 0, 1) := by decide +kernel
theorem dX7_attempt_24 : decode cX7_attempt 24 = .ok (.getfield 31, 3) := by decide +kernel
theorem dX7_attempt_27 : decode cX7_attempt 27 = .ok (.iconst (-1), 1) := by decide +kernel
theorem dX7_attempt_28 : decode cX7_attempt 28 = .ok (.invokevirtual 96, 3) := by decide +kernel
theorem dX7_attempt_31 : decode cX7_attempt 31 = .ok (.istore_n 3, 1) := by decide +kernel
theorem dX7_attempt_32 : decode cX7_attempt 32 = .ok (.aload_n 0, 1) := by decide +kernel
theorem dX7_attempt_33 : decode cX7_attempt 33 = .ok (.iload_n 1, 1) := by decide +kernel
theorem dX7_attempt_34 : decode cX7_attempt 34 = .ok (.invokevirtual 117, 3) := by decide +kernel
theorem dX7_attempt_37 : decode cX7_attempt 37 = .ok (.aload_n 0, 1) := by decide +kernel
theorem dX7_attempt_38 : decode cX7_attempt 38 = .ok (.iconst 5, 1) := by decide +kernel
theorem dX7_attempt_39 : decode cX7_attempt 39 = .ok (.invokevirtual 125, 3) := by decide +kernel
theorem dX7_attempt_42 : decode cX7_attempt 42 = .ok (.aload_n 0, 1) := by decide +kernel
theorem dX7_attempt_43 : decode cX7_attempt 43 = .ok (.getfield 62, 3) := by decide +kernel
theorem dX7_attempt_46 : decode cX7_attempt 46 = .ok (.sipush 217, 3) := by decide +kernel
theorem dX7_attempt_49 : decode cX7_attempt 49 = .ok (.if_icmp .eq 17, 3) := by decide +kernel
theorem dX7_attempt_52 : decode cX7_attempt 52 = .ok (.aload_n 0, 1) := by decide +kernel
theorem dX7_attempt_53 : decode cX7_attempt 53 = .ok (.getfield 62, 3) := by decide +kernel
theorem dX7_attempt_56 : decode cX7_attempt 56 = .ok (.sipush 218, 3) := by decide +kernel
theorem dX7_attempt_59 : decode cX7_attempt 59 = .ok (.if_icmp .eq 7, 3) := by decide +kernel
theorem dX7_attempt_62 : decode cX7_attempt 62 = .ok (.aload_n 0, 1) := by decide +kernel
theorem dX7_attempt_63 : decode cX7_attempt 63 = .ok (.invokevirtual 93, 3) := by decide +kernel
theorem dX7_attempt_66 : decode cX7_attempt 66 = .ok (.iconst 0, 1) := by decide +kernel
theorem dX7_attempt_67 : decode cX7_attempt 67 = .ok (.istore 4, 2) := by decide +kernel
theorem dX7_attempt_69 : decode cX7_attempt 69 = .ok (.iload 4, 2) := by decide +kernel
theorem dX7_attempt_71 : decode cX7_attempt 71 = .ok (.sipush 4000, 3) := by decide +kernel
theorem dX7_attempt_74 : decode cX7_attempt 74 = .ok (.if_icmp .gt 95, 3) := by decide +kernel
