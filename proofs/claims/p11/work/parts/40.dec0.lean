theorem dX12_word4_0 : decode cX12_word4 0 = .ok (.bipush 24, 2) := by decide +kernel
theorem dX12_word4_2 : decode cX12_word4 2 = .ok (.istore_n 2, 1) := by decide +kernel
theorem dX12_word4_3 : decode cX12_word4 3 = .ok (.iload_n 2, 1) := by decide +kernel
theorem dX12_word4_4 : decode cX12_word4 4 = .ok (.ifCond .lt 35, 3) := by decide +kernel
theorem dX12_word4_7 : decode cX12_word4 7 = .ok (.aload_n 0, 1) := by decide +kernel
theorem dX12_word4_8 : decode cX12_word4 8 = .ok (.getfield 7, 3) := by decide +kernel
theorem dX12_word4_11 : decode cX12_word4 11 = .ok (.aload_n 0, 1) := by decide +kernel
theorem dX12_word4_12 : decode cX12_word4 12 = .ok (.getfield 159, 3) := by decide +kernel
theorem dX12_word4_15 : decode cX12_word4 15 = .ok (.iload_n 1, 1) := by decide +kernel
theorem dX12_word4_16 : decode cX12_word4 16 = .ok (.iload_n 2, 1) := by decide +kernel
theorem dX12_word4_17 : decode cX12_word4 17 = .ok (.ishr, 1) := by decide +kernel
theorem dX12_word4_18 : decode cX12_word4 18 = .ok (.sipush 255, 3) := by decide +kernel
theorem dX12_word4_21 : decode cX12_word4 21 = .ok (.iand, 1) := by decide +kernel
theorem dX12_word4_22 : decode cX12_word4 22 = .ok (.iastore, 1) := by decide +kernel
theorem dX12_word4_23 : decode cX12_word4 23 = .ok (.aload_n 0, 1) := by decide +kernel
theorem dX12_word4_24 : decode cX12_word4 24 = .ok (.dup, 1) := by decide +kernel
theorem dX12_word4_25 : decode cX12_word4 25 = .ok (.getfield 159, 3) := by decide +kernel
theorem dX12_word4_28 : decode cX12_word4 28 = .ok (.iconst 1, 1) := by decide +kernel
theorem dX12_word4_29 : decode cX12_word4 29 = .ok (.iadd, 1) := by decide +kernel
theorem dX12_word4_30 : decode cX12_word4 30 = .ok (.putfield 159, 3) := by decide +kernel
theorem dX12_word4_33 : decode cX12_word4 33 = .ok (.iinc 2 (-8), 3) := by decide +kernel
theorem dX12_word4_36 : decode cX12_word4 36 = .ok (.goto (-33), 3) := by decide +kernel
theorem dX12_word4_39 : decode cX12_word4 39 = .ok (.return_, 1) := by decide +kernel
theorem dX12_feed_0 : decode cX12_feed 0 = .ok (.aload_n 0, 1) := by decide +kernel
theorem dX12_feed_1 : decode cX12_feed 1 = .ok (.getfield 159, 3) := by decide +kernel
theorem dX12_feed_4 : decode cX12_feed 4 = .ok (.bipush 20, 2) := by decide +kernel
theorem dX12_feed_6 : decode cX12_feed 6 = .ok (.iadd, 1) := by decide +kernel
theorem dX12_feed_7 : decode cX12_feed 7 = .ok (.sipush 4000, 3) := by decide +kernel
theorem dX12_feed_10 : decode cX12_feed 10 = .ok (.if_icmp .le 5, 3) := by decide +kernel
theorem dX12_feed_13 : decode cX12_feed 13 = .ok (.iconst (-1), 1) := by decide +kernel
theorem dX12_feed_14 : decode cX12_feed 14 = .ok (.ireturn, 1) := by decide +kernel
theorem dX12_feed_15 : decode cX12_feed 15 = .ok (.aload_n 0, 1) := by decide +kernel
theorem dX12_feed_16 : decode cX12_feed 16 = .ok (.iload_n 1, 1) := by decide +kernel
theorem dX12_feed_17 : decode cX12_feed 17 = .ok (.invokevirtual 162, 3) := by decide +kernel
theorem dX12_feed_20 : decode cX12_feed 20 = .ok (.aload_n 0, 1) := by decide +kernel
theorem dX12_feed_21 : decode cX12_feed 21 = .ok (.iload_n 2, 1) := by decide +kernel
theorem dX12_feed_22 : decode cX12_feed 22 = .ok (.invokevirtual 162, 3) := by decide +kernel
theorem dX12_feed_25 : decode cX12_feed 25 = .ok (.aload_n 0, 1) := by decide +kernel
theorem dX12_feed_26 : decode cX12_feed 26 = .ok (.iload_n 3, 1) := by decide +kernel
theorem dX12_feed_27 : decode cX12_feed 27 = .ok (.invokevirtual 162, 3) := by decide +kernel
theorem dX12_feed_30 : decode cX12_feed 30 = .ok (.aload_n 0, 1) := by decide +kernel
theorem dX12_feed_31 : decode cX12_feed 31 = .ok (.iload 4, 2) := by decide +kernel
theorem dX12_feed_33 : decode cX12_feed 33 = .ok (.invokevirtual 162, 3) := by decide +kernel
theorem dX12_feed_36 : decode cX12_feed 36 = .ok (.aload_n 0, 1) := by decide +kernel
theorem dX12_feed_37 : decode cX12_feed 37 = .ok (.iload 5, 2) := by decide +kernel
theorem dX12_feed_39 : decode cX12_feed 39 = .ok (.invokevirtual 162, 3) := by decide +kernel
theorem dX12_feed_42 : decode cX12_feed 42 = .ok (.aload_n 0, 1) := by decide +kernel
theorem dX12_feed_43 : decode cX12_feed 43 = .ok (.getfield 159, 3) := by decide +kernel
theorem dX12_feed_46 : decode cX12_feed 46 = .ok (.ireturn, 1) := by decide +kernel
theorem dX12_byteAt_0 : decode cX12_byteAt 0 = .ok (.iload_n 1, 1) := by decide +kernel
theorem dX12_byteAt_1 : decode cX12_byteAt 1 = .ok (.aload_n 0, 1) := by decide +kernel
theorem dX12_byteAt_2 : decode cX12_byteAt 2 = .ok (.getfield 166, 3) := by decide +kernel
theorem dX12_byteAt_5 : decode cX12_byteAt 5 = .ok (.if_icmp .ge 12, 3) := by decide +kernel
theorem dX12_byteAt_8 : decode cX12_byteAt 8 = .ok (.aload_n 0, 1) := by decide +kernel
theorem dX12_byteAt_9 : decode cX12_byteAt 9 = .ok (.getfield 7, 3) := by decide +kernel
theorem dX12_byteAt_12 : decode cX12_byteAt 12 = .ok (.iload_n 1, 1) := by decide +kernel
theorem dX12_byteAt_13 : decode cX12_byteAt 13 = .ok (.iaload, 1) := by decide +kernel
theorem dX12_byteAt_14 : decode cX12_byteAt 14 = .ok (.goto 4, 3) := by decide +kernel
theorem dX12_byteAt_17 : decode cX12_byteAt 17 = .ok (.iconst 0, 1) := by decide +kernel
theorem dX12_byteAt_18 : decode cX12_byteAt 18 = .ok (.ireturn, 1) := by decide +kernel
theorem dX12_isSmall_0 : decode cX12_isSmall 0 = .ok (.iload_n 0, 1) := by decide +kernel
theorem dX12_isSmall_1 : decode cX12_isSmall 1 = .ok (.bipush 97, 2) := by decide +kernel
theorem dX12_isSmall_3 : decode cX12_isSmall 3 = .ok (.if_icmp .lt 13, 3) := by decide +kernel
theorem dX12_isSmall_6 : decode cX12_isSmall 6 = .ok (.iload_n 0, 1) := by decide +kernel
theorem dX12_isSmall_7 : decode cX12_isSmall 7 = .ok (.bipush 122, 2) := by decide +kernel
theorem dX12_isSmall_9 : decode cX12_isSmall 9 = .ok (.if_icmp .gt 7, 3) := by decide +kernel
theorem dX12_isSmall_12 : decode cX12_isSmall 12 = .ok (.iconst 1, 1) := by decide +kernel
theorem dX12_isSmall_13 : decode cX12_isSmall 13 = .ok (.goto 4, 3) := by decide +kernel
theorem dX12_isSmall_16 : decode cX12_isSmall 16 = .ok (.iconst 0, 1) := by decide +kernel
theorem dX12_isSmall_17 : decode cX12_isSmall 17 = .ok (.ireturn, 1) := by decide +kernel
theorem dX12_isGreat_0 : decode cX12_isGreat 0 = .ok (.iload_n 0, 1) := by decide +kernel
theorem dX12_isGreat_1 : decode cX12_isGreat 1 = .ok (.bipush 65, 2) := by decide +kernel
theorem dX12_isGreat_3 : decode cX12_isGreat 3 = .ok (.if_icmp .lt 13, 3) := by decide +kernel
theorem dX12_isGreat_6 : decode cX12_isGreat 6 = .ok (.iload_n 0, 1) := by decide +kernel
theorem dX12_isGreat_7 : decode cX12_isGreat 7 = .ok (.bipush 90, 2) := by decide +kernel
theorem dX12_isGreat_9 : decode cX12_isGreat 9 = .ok (.if_icmp .gt 7, 3) := by decide +kernel
theorem dX12_isGreat_12 : decode cX12_isGreat 12 = .ok (.iconst 1, 1) := by decide +kernel
theorem dX12_isGreat_13 : decode cX12_isGreat 13 = .ok (.goto 4, 3) := by decide +kernel
theorem dX12_isGreat_16 : decode cX12_isGreat 16 = .ok (.iconst 0, 1) := by decide +kernel
theorem dX12_isGreat_17 : decode cX12_isGreat 17 = .ok (.ireturn, 1) := by decide +kernel
theorem dX12_isDigit_0 : decode cX12_isDigit 0 = .ok (.iload_n 0, 1) := by decide +kernel
theorem dX12_isDigit_1 : decode cX12_isDigit 1 = .ok (.bipush 48, 2) := by decide +kernel
theorem dX12_isDigit_3 : decode cX12_isDigit 3 = .ok (.if_icmp .lt 13, 3) := by decide +kernel
theorem dX12_isDigit_6 : decode cX12_isDigit 6 = .ok (.iload_n 0, 1) := by decide +kernel
theorem dX12_isDigit_7 : decode cX12_isDigit 7 = .ok (.bipush 57, 2) := by decide +kernel
theorem dX12_isDigit_9 : decode cX12_isDigit 9 = .ok (.if_icmp .gt 7, 3) := by decide +kernel
theorem dX12_isDigit_12 : decode cX12_isDigit 12 = .ok (.iconst 1, 1) := by decide +kernel
theorem dX12_isDigit_13 : decode cX12_isDigit 13 = .ok (.goto 4, 3) := by decide +kernel
theorem dX12_isDigit_16 : decode cX12_isDigit 16 = .ok (.iconst 0, 1) := by decide +kernel
theorem dX12_isDigit_17 : decode cX12_isDigit 17 = .ok (.ireturn, 1) := by decide +kernel
theorem dX12_isOfWord_0 : decode cX12_isOfWord 0 = .ok (.iload_n 0, 1) := by decide +kernel
theorem dX12_isOfWord_1 : decode cX12_isOfWord 1 = .ok (.invokestatic 169, 3) := by decide +kernel
theorem dX12_isOfWord_4 : decode cX12_isOfWord 4 = .ok (.ifCond .ne 17, 3) := by decide +kernel
theorem dX12_isOfWord_7 : decode cX12_isOfWord 7 = .ok (.iload_n 0, 1) := by decide +kernel
theorem dX12_isOfWord_8 : decode cX12_isOfWord 8 = .ok (.invokestatic 173, 3) := by decide +kernel
theorem dX12_isOfWord_11 : decode cX12_isOfWord 11 = .ok (.ifCond .ne 10, 3) := by decide +kernel
theorem dX12_isOfWord_14 : decode cX12_isOfWord 14 = .ok (.iload_n 0, 1) := by decide +kernel
theorem dX12_isOfWord_15 : decode cX12_isOfWord 15 = .ok (.invokestatic 176, 3) := by decide +kernel
theorem dX12_isOfWord_18 : decode cX12_isOfWord 18 = .ok (.ifCond .eq 7, 3) := by decide +kernel
theorem dX12_isOfWord_21 : decode cX12_isOfWord 21 = .ok (.iconst 1, 1) := by decide +kernel
theorem dX12_isOfWord_22 : decode cX12_isOfWord 22 = .ok (.goto 4, 3) := by decide +kernel
theorem dX12_isOfWord_25 : decode cX12_isOfWord 25 = .ok (.iconst 0, 1) := by decide +kernel
theorem dX12_isOfWord_26 : decode cX12_isOfWord 26 = .ok (.ireturn, 1) := by decide +kernel
theorem dX12_among_0 : decode cX12_among 0 = .ok (.aload_n 0, 1) := by decide +kernel
theorem dX12_among_1 : decode cX12_among 1 = .ok (.getfield 179, 3) := by decide +kernel
theorem dX12_among_4 : decode cX12_among 4 = .ok (.aload_n 0, 1) := by decide +kernel
theorem dX12_among_5 : decode cX12_among 5 = .ok (.getfield 182, 3) := by decide +kernel
theorem dX12_among_8 : decode cX12_among 8 = .ok (.isub, 1) := by decide +kernel
theorem dX12_among_9 : decode cX12_among 9 = .ok (.istore_n 2, 1) := by decide +kernel
theorem dX12_among_10 : decode cX12_among 10 = .ok (.iconst 0, 1) := by decide +kernel
theorem dX12_among_11 : decode cX12_among 11 = .ok (.istore_n 3, 1) := by decide +kernel
theorem dX12_among_12 : decode cX12_among 12 = .ok (.iconst 1, 1) := by decide +kernel
theorem dX12_among_13 : decode cX12_among 13 = .ok (.istore 4, 2) := by decide +kernel
theorem dX12_among_15 : decode cX12_among 15 = .ok (.iload 4, 2) := by decide +kernel
theorem dX12_among_17 : decode cX12_among 17 = .ok (.aload_n 1, 1) := by decide +kernel
theorem dX12_among_18 : decode cX12_among 18 = .ok (.invokevirtual 185, 3) := by decide +kernel
theorem dX12_among_21 : decode cX12_among 21 = .ok (.if_icmp .ge 104, 3) := by decide +kernel
theorem dX12_among_24 : decode cX12_among 24 = .ok (.iconst 0, 1) := by decide +kernel
theorem dX12_among_25 : decode cX12_among 25 = .ok (.istore 5, 2) := by decide +kernel
theorem dX12_among_27 : decode cX12_among 27 = .ok (.iload 5, 2) := by decide +kernel
theorem dX12_among_29 : decode cX12_among 29 = .ok (.iload_n 2, 1) := by decide +kernel
theorem dX12_among_30 : decode cX12_among 30 = .ok (.if_icmp .ge 47, 3) := by decide +kernel
theorem dX12_among_33 : decode cX12_among 33 = .ok (.aload_n 1, 1) := by decide +kernel
theorem dX12_among_34 : decode cX12_among 34 = .ok (.iload 4, 2) := by decide +kernel
theorem dX12_among_36 : decode cX12_among 36 = .ok (.iload 5, 2) := by decide +kernel
theorem dX12_among_38 : decode cX12_among 38 = .ok (.iadd, 1) := by decide +kernel
theorem dX12_among_39 : decode cX12_among 39 = .ok (.invokevirtual 190, 3) := by decide +kernel
theorem dX12_among_42 : decode cX12_among 42 = .ok (.bipush 32, 2) := by decide +kernel
theorem dX12_among_44 : decode cX12_among 44 = .ok (.if_icmp .eq 33, 3) := by decide +kernel
theorem dX12_among_47 : decode cX12_among 47 = .ok (.aload_n 1, 1) := by decide +kernel
theorem dX12_among_48 : decode cX12_among 48 = .ok (.iload 4, 2) := by decide +kernel
theorem dX12_among_50 : decode cX12_among 50 = .ok (.iload 5, 2) := by decide +kernel
theorem dX12_among_52 : decode cX12_among 52 = .ok (.iadd, 1) := by decide +kernel
theorem dX12_among_53 : decode cX12_among 53 = .ok (.invokevirtual 190, 3) := by decide +kernel
theorem dX12_among_56 : decode cX12_among 56 = .ok (.aload_n 0, 1) := by decide +kernel
theorem dX12_among_57 : decode cX12_among 57 = .ok (.getfield 7, 3) := by decide +kernel
theorem dX12_among_60 : decode cX12_among 60 = .ok (.aload_n 0, 1) := by decide +kernel
theorem dX12_among_61 : decode cX12_among 61 = .ok (.getfield 182, 3) := by decide +kernel
theorem dX12_among_64 : decode cX12_among 64 = .ok (.iload 5, 2) := by decide +kernel
theorem dX12_among_66 : decode cX12_among 66 = .ok (.iadd, 1) := by decide +kernel
theorem dX12_among_67 : decode cX12_among 67 = .ok (.iaload, 1) := by decide +kernel
theorem dX12_among_68 : decode cX12_among 68 = .ok (.if_icmp .ne 9, 3) := by decide +kernel
theorem dX12_among_71 : decode cX12_among 71 = .ok (.iinc 5 1, 3) := by decide +kernel
theorem dX12_among_74 : decode cX12_among 74 = .ok (.goto (-47), 3) := by decide +kernel
theorem dX12_among_77 : decode cX12_among 77 = .ok (.iload 5, 2) := by decide +kernel
theorem dX12_among_79 : decode cX12_among 79 = .ok (.iload_n 2, 1) := by decide +kernel
theorem dX12_among_80 : decode cX12_among 80 = .ok (.if_icmp .ne 19, 3) := by decide +kernel
theorem dX12_among_83 : decode cX12_among 83 = .ok (.aload_n 1, 1) := by decide +kernel
theorem dX12_among_84 : decode cX12_among 84 = .ok (.iload 4, 2) := by decide +kernel
theorem dX12_among_86 : decode cX12_among 86 = .ok (.iload 5, 2) := by decide +kernel
theorem dX12_among_88 : decode cX12_among 88 = .ok (.iadd, 1) := by decide +kernel
theorem dX12_among_89 : decode cX12_among 89 = .ok (.invokevirtual 190, 3) := by decide +kernel
theorem dX12_among_92 : decode cX12_among 92 = .ok (.bipush 32, 2) := by decide +kernel
theorem dX12_among_94 : decode cX12_among 94 = .ok (.if_icmp .ne 5, 3) := by decide +kernel
theorem dX12_among_97 : decode cX12_among 97 = .ok (.iload_n 3, 1) := by decide +kernel
theorem dX12_among_98 : decode cX12_among 98 = .ok (.ireturn, 1) := by decide +kernel
theorem dX12_among_99 : decode cX12_among 99 = .ok (.aload_n 1, 1) := by decide +kernel
theorem dX12_among_100 : decode cX12_among 100 = .ok (.iload 4, 2) := by decide +kernel
theorem dX12_among_102 : decode cX12_among 102 = .ok (.invokevirtual 190, 3) := by decide +kernel
theorem dX12_among_105 : decode cX12_among 105 = .ok (.bipush 32, 2) := by decide +kernel
theorem dX12_among_107 : decode cX12_among 107 = .ok (.if_icmp .eq 9, 3) := by decide +kernel
theorem dX12_among_110 : decode cX12_among 110 = .ok (.iinc 4 1, 3) := by decide +kernel
theorem dX12_among_113 : decode cX12_among 113 = .ok (.goto (-14), 3) := by decide +kernel
theorem dX12_among_116 : decode cX12_among 116 = .ok (.iinc 4 1, 3) := by decide +kernel
theorem dX12_among_119 : decode cX12_among 119 = .ok (.iinc 3 1, 3) := by decide +kernel
theorem dX12_among_122 : decode cX12_among 122 = .ok (.goto (-107), 3) := by decide +kernel
theorem dX12_among_125 : decode cX12_among 125 = .ok (.iconst (-1), 1) := by decide +kernel
theorem dX12_among_126 : decode cX12_among 126 = .ok (.ireturn, 1) := by decide +kernel
theorem dX12_name_0 : decode cX12_name 0 = .ok (.aload_n 0, 1) := by decide +kernel
theorem dX12_name_1 : decode cX12_name 1 = .ok (.getfield 179, 3) := by decide +kernel
theorem dX12_name_4 : decode cX12_name 4 = .ok (.aload_n 0, 1) := by decide +kernel
theorem dX12_name_5 : decode cX12_name 5 = .ok (.getfield 182, 3) := by decide +kernel
theorem dX12_name_8 : decode cX12_name 8 = .ok (.isub, 1) := by decide +kernel
theorem dX12_name_9 : decode cX12_name 9 = .ok (.istore_n 1, 1) := by decide +kernel
theorem dX12_name_10 : decode cX12_name 10 = .ok (.iconst 0, 1) := by decide +kernel
theorem dX12_name_11 : decode cX12_name 11 = .ok (.istore_n 2, 1) := by decide +kernel
theorem dX12_name_12 : decode cX12_name 12 = .ok (.iload_n 2, 1) := by decide +kernel
theorem dX12_name_13 : decode cX12_name 13 = .ok (.aload_n 0, 1) := by decide +kernel
theorem dX12_name_14 : decode cX12_name 14 = .ok (.getfield 221, 3) := by decide +kernel
theorem dX12_name_17 : decode cX12_name 17 = .ok (.if_icmp .ge 69, 3) := by decide +kernel
theorem dX12_name_20 : decode cX12_name 20 = .ok (.aload_n 0, 1) := by decide +kernel
theorem dX12_name_21 : decode cX12_name 21 = .ok (.getfield 16, 3) := by decide +kernel
theorem dX12_name_24 : decode cX12_name 24 = .ok (.iload_n 2, 1) := by decide +kernel
theorem dX12_name_25 : decode cX12_name 25 = .ok (.iaload, 1) := by decide +kernel
theorem dX12_name_26 : decode cX12_name 26 = .ok (.iload_n 1, 1) := by decide +kernel
theorem dX12_name_27 : decode cX12_name 27 = .ok (.if_icmp .eq 6, 3) := by decide +kernel
theorem dX12_name_30 : decode cX12_name 30 = .ok (.goto 50, 3) := by decide +kernel
theorem dX12_name_33 : decode cX12_name 33 = .ok (.iconst 0, 1) := by decide +kernel
theorem dX12_name_34 : decode cX12_name 34 = .ok (.istore_n 3, 1) := by decide +kernel
theorem dX12_name_35 : decode cX12_name 35 = .ok (.iload_n 3, 1) := by decide +kernel
theorem dX12_name_36 : decode cX12_name 36 = .ok (.iload_n 1, 1) := by decide +kernel
theorem dX12_name_37 : decode cX12_name 37 = .ok (.if_icmp .ge 36, 3) := by decide +kernel
theorem dX12_name_40 : decode cX12_name 40 = .ok (.aload_n 0, 1) := by decide +kernel
theorem dX12_name_41 : decode cX12_name 41 = .ok (.getfield 7, 3) := by decide +kernel
theorem dX12_name_44 : decode cX12_name 44 = .ok (.aload_n 0, 1) := by decide +kernel
theorem dX12_name_45 : decode cX12_name 45 = .ok (.getfield 13, 3) := by decide +kernel
theorem dX12_name_48 : decode cX12_name 48 = .ok (.iload_n 2, 1) := by decide +kernel
theorem dX12_name_49 : decode cX12_name 49 = .ok (.iaload, 1) := by decide +kernel
theorem dX12_name_50 : decode cX12_name 50 = .ok (.iload_n 3, 1) := by decide +kernel
theorem dX12_name_51 : decode cX12_name 51 = .ok (.iadd, 1) := by decide +kernel
theorem dX12_name_52 : decode cX12_name 52 = .ok (.iaload, 1) := by decide +kernel
theorem dX12_name_53 : decode cX12_name 53 = .ok (.aload_n 0, 1) := by decide +kernel
theorem dX12_name_54 : decode cX12_name 54 = .ok (.getfield 7, 3) := by decide +kernel
theorem dX12_name_57 : decode cX12_name 57 = .ok (.aload_n 0, 1) := by decide +kernel
theorem dX12_name_58 : decode cX12_name 58 = .ok (.getfield 182, 3) := by decide +kernel
theorem dX12_name_61 : decode cX12_name 61 = .ok (.iload_n 3, 1) := by decide +kernel
theorem dX12_name_62 : decode cX12_name 62 = .ok (.iadd, 1) := by decide +kernel
theorem dX12_name_63 : decode cX12_name 63 = .ok (.iaload, 1) := by decide +kernel
theorem dX12_name_64 : decode cX12_name 64 = .ok (.if_icmp .ne 9, 3) := by decide +kernel
theorem dX12_name_67 : decode cX12_name 67 = .ok (.iinc 3 1, 3) := by decide +kernel
theorem dX12_name_70 : decode cX12_name 70 = .ok (.goto (-35), 3) := by decide +kernel
theorem dX12_name_73 : decode cX12_name 73 = .ok (.iload_n 3, 1) := by decide +kernel
theorem dX12_name_74 : decode cX12_name 74 = .ok (.iload_n 1, 1) := by decide +kernel
theorem dX12_name_75 : decode cX12_name 75 = .ok (.if_icmp .ne 5, 3) := by decide +kernel
theorem dX12_name_78 : decode cX12_name 78 = .ok (.iload_n 2, 1) := by decide +kernel
theorem dX12_name_79 : decode cX12_name 79 = .ok (.ireturn, 1) := by decide +kernel
theorem dX12_name_80 : decode cX12_name 80 = .ok (.iinc 2 1, 3) := by decide +kernel
theorem dX12_name_83 : decode cX12_name 83 = .ok (.goto (-71), 3) := by decide +kernel
theorem dX12_name_86 : decode cX12_name 86 = .ok (.aload_n 0, 1) := by decide +kernel
theorem dX12_name_87 : decode cX12_name 87 = .ok (.getfield 13, 3) := by decide +kernel
theorem dX12_name_90 : decode cX12_name 90 = .ok (.aload_n 0, 1) := by decide +kernel
theorem dX12_name_91 : decode cX12_name 91 = .ok (.getfield 221, 3) := by decide +kernel
theorem dX12_name_94 : decode cX12_name 94 = .ok (.aload_n 0, 1) := by decide +kernel
theorem dX12_name_95 : decode cX12_name 95 = .ok (.getfield 182, 3) := by decide +kernel
theorem dX12_name_98 : decode cX12_name 98 = .ok (.iastore, 1) := by decide +kernel
theorem dX12_name_99 : decode cX12_name 99 = .ok (.aload_n 0, 1) := by decide +kernel
theorem dX12_name_100 : decode cX12_name 100 = .ok (.getfield 16, 3) := by decide +kernel
theorem dX12_name_103 : decode cX12_name 103 = .ok (.aload_n 0, 1) := by decide +kernel
theorem dX12_name_104 : decode cX12_name 104 = .ok (.getfield 221, 3) := by decide +kernel
theorem dX12_name_107 : decode cX12_name 107 = .ok (.iload_n 1, 1) := by decide +kernel
theorem dX12_name_108 : decode cX12_name 108 = .ok (.iastore, 1) := by decide +kernel
theorem dX12_name_109 : decode cX12_name 109 = .ok (.aload_n 0, 1) := by decide +kernel
theorem dX12_name_110 : decode cX12_name 110 = .ok (.getfield 19, 3) := by decide +kernel
theorem dX12_name_113 : decode cX12_name 113 = .ok (.aload_n 0, 1) := by decide +kernel
theorem dX12_name_114 : decode cX12_name 114 = .ok (.getfield 221, 3) := by decide +kernel
theorem dX12_name_117 : decode cX12_name 117 = .ok (.iconst (-1), 1) := by decide +kernel
theorem dX12_name_118 : decode cX12_name 118 = .ok (.iastore, 1) := by decide +kernel
theorem dX12_name_119 : decode cX12_name 119 = .ok (.aload_n 0, 1) := by decide +kernel
theorem dX12_name_120 : decode cX12_name 120 = .ok (.getfield 25, 3) := by decide +kernel
theorem dX12_name_123 : decode cX12_name 123 = .ok (.aload_n 0, 1) := by decide +kernel
theorem dX12_name_124 : decode cX12_name 124 = .ok (.getfield 221, 3) := by decide +kernel
theorem dX12_name_127 : decode cX12_name 127 = .ok (.iconst (-1), 1) := by decide +kernel
theorem dX12_name_128 : decode cX12_name 128 = .ok (.iastore, 1) := by decide +kernel
theorem dX12_name_129 : decode cX12_name 129 = .ok (.aload_n 0, 1) := by decide +kernel
theorem dX12_name_130 : decode cX12_name 130 = .ok (.dup, 1) := by decide +kernel
theorem dX12_name_131 : decode cX12_name 131 = .ok (.getfield 221, 3) := by decide +kernel
theorem dX12_name_134 : decode cX12_name 134 = .ok (.iconst 1, 1) := by decide +kernel
theorem dX12_name_135 : decode cX12_name 135 = .ok (.iadd, 1) := by decide +kernel
theorem dX12_name_136 : decode cX12_name 136 = .ok (.putfield 221, 3) := by decide +kernel
theorem dX12_name_139 : decode cX12_name 139 = .ok (.aload_n 0, 1) := by decide +kernel
theorem dX12_name_140 : decode cX12_name 140 = .ok (.getfield 221, 3) := by decide +kernel
theorem dX12_name_143 : decode cX12_name 143 = .ok (.iconst 1, 1) := by decide +kernel
theorem dX12_name_144 : decode cX12_name 144 = .ok (.isub, 1) := by decide +kernel
theorem dX12_name_145 : decode cX12_name 145 = .ok (.ireturn, 1) := by decide +kernel
theorem dX12_wordToken_0 : decode cX12_wordToken 0 = .ok (.aload_n 0, 1) := by decide +kernel
theorem dX12_wordToken_1 : decode cX12_wordToken 1 = .ok (.getfield 179, 3) := by decide +kernel
theorem dX12_wordToken_4 : decode cX12_wordToken 4 = .ok (.aload_n 0, 1) := by decide +kernel
theorem dX12_wordToken_5 : decode cX12_wordToken 5 = .ok (.getfield 182, 3) := by decide +kernel
theorem dX12_wordToken_8 : decode cX12_wordToken 8 = .ok (.isub, 1) := by decide +kernel
theorem dX12_wordToken_9 : decode cX12_wordToken 9 = .ok (.istore_n 2, 1) := by decide +kernel
theorem dX12_wordToken_10 : decode cX12_wordToken 10 = .ok (.iload_n 1, 1) := by decide +kernel
theorem dX12_wordToken_11 : decode cX12_wordToken 11 = .ok (.invokestatic 176, 3) := by decide +kernel
theorem dX12_wordToken_14 : decode cX12_wordToken 14 = .ok (.ifCond .eq 91, 3) := by decide +kernel
theorem dX12_wordToken_17 : decode cX12_wordToken 17 = .ok (.aload_n 0, 1) := by decide +kernel
theorem dX12_wordToken_18 : decode cX12_wordToken 18 = .ok (.iload_n 2, 1) := by decide +kernel
theorem dX12_wordToken_19 : decode cX12_wordToken 19 = .ok (.bipush 9, 2) := by decide +kernel
theorem dX12_wordToken_21 : decode cX12_wordToken 21 = .ok (.if_icmp .gt 7, 3) := by decide +kernel
theorem dX12_wordToken_24 : decode cX12_wordToken 24 = .ok (.iconst 3, 1) := by decide +kernel
theorem dX12_wordToken_25 : decode cX12_wordToken 25 = .ok (.goto 5, 3) := by decide +kernel
theorem dX12_wordToken_28 : decode cX12_wordToken 28 = .ok (.bipush 7, 2) := by decide +kernel
theorem dX12_wordToken_30 : decode cX12_wordToken 30 = .ok (.putfield 198, 3) := by decide +kernel
theorem dX12_wordToken_33 : decode cX12_wordToken 33 = .ok (.aload_n 0, 1) := by decide +kernel
theorem dX12_wordToken_34 : decode cX12_wordToken 34 = .ok (.iconst 0, 1) := by decide +kernel
theorem dX12_wordToken_35 : decode cX12_wordToken 35 = .ok (.putfield 207, 3) := by decide +kernel
theorem dX12_wordToken_38 : decode cX12_wordToken 38 = .ok (.aload_n 0, 1) := by decide +kernel
theorem dX12_wordToken_39 : decode cX12_wordToken 39 = .ok (.getfield 182, 3) := by decide +kernel
theorem dX12_wordToken_42 : decode cX12_wordToken 42 = .ok (.istore_n 3, 1) := by decide +kernel
theorem dX12_wordToken_43 : decode cX12_wordToken 43 = .ok (.iload_n 3, 1) := by decide +kernel
theorem dX12_wordToken_44 : decode cX12_wordToken 44 = .ok (.aload_n 0, 1) := by decide +kernel
theorem dX12_wordToken_45 : decode cX12_wordToken 45 = .ok (.getfield 179, 3) := by decide +kernel
theorem dX12_wordToken_48 : decode cX12_wordToken 48 = .ok (.if_icmp .ge 56, 3) := by decide +kernel
theorem dX12_wordToken_51 : decode cX12_wordToken 51 = .ok (.aload_n 0, 1) := by decide +kernel
theorem dX12_wordToken_52 : decode cX12_wordToken 52 = .ok (.getfield 198, 3) := by decide +kernel
theorem dX12_wordToken_55 : decode cX12_wordToken 55 = .ok (.iconst 3, 1) := by decide +kernel
theorem dX12_wordToken_56 : decode cX12_wordToken 56 = .ok (.if_icmp .ne 48, 3) := by decide +kernel
theorem dX12_wordToken_59 : decode cX12_wordToken 59 = .ok (.aload_n 0, 1) := by decide +kernel
theorem dX12_wordToken_60 : decode cX12_wordToken 60 = .ok (.getfield 7, 3) := by decide +kernel
theorem dX12_wordToken_63 : decode cX12_wordToken 63 = .ok (.iload_n 3, 1) := by decide +kernel
theorem dX12_wordToken_64 : decode cX12_wordToken 64 = .ok (.iaload, 1) := by decide +kernel
theorem dX12_wordToken_65 : decode cX12_wordToken 65 = .ok (.invokestatic 176, 3) := by decide +kernel
theorem dX12_wordToken_68 : decode cX12_wordToken 68 = .ok (.ifCond .ne 9, 3) := by decide +kernel
theorem dX12_wordToken_71 : decode cX12_wordToken 71 = .ok (.aload_n 0, 1) := by decide +kernel
theorem dX12_wordToken_72 : decode cX12_wordToken 72 = .ok (.bipush 7, 2) := by decide +kernel
theorem dX12_wordToken_74 : decode cX12_wordToken 74 = .ok (.putfield 198, 3) := by decide +kernel
theorem dX12_wordToken_77 : decode cX12_wordToken 77 = .ok (.aload_n 0, 1) := by decide +kernel
theorem dX12_wordToken_78 : decode cX12_wordToken 78 = .ok (.bipush 10, 2) := by decide +kernel
theorem dX12_wordToken_80 : decode cX12_wordToken 80 = .ok (.aload_n 0, 1) := by decide +kernel
theorem dX12_wordToken_81 : decode cX12_wordToken 81 = .ok (.getfield 207, 3) := by decide +kernel
theorem dX12_wordToken_84 : decode cX12_wordToken 84 = .ok (.imul, 1) := by decide +kernel
theorem dX12_wordToken_85 : decode cX12_wordToken 85 = .ok (.aload_n 0, 1) := by decide +kernel
theorem dX12_wordToken_86 : decode cX12_wordToken 86 = .ok (.getfield 7, 3) := by decide +kernel
theorem dX12_wordToken_89 : decode cX12_wordToken 89 = .ok (.iload_n 3, 1) := by decide +kernel
theorem dX12_wordToken_90 : decode cX12_wordToken 90 = .ok (.iaload, 1) := by decide +kernel
theorem dX12_wordToken_91 : decode cX12_wordToken 91 = .ok (.iadd, 1) := by decide +kernel
theorem dX12_wordToken_92 : decode cX12_wordToken 92 = .ok (.bipush 48, 2) := by decide +kernel
theorem dX12_wordToken_94 : decode cX12_wordToken 94 = .ok (.isub, 1) := by decide +kernel
theorem dX12_wordToken_95 : decode cX12_wordToken 95 = .ok (.putfield 207, 3) := by decide +kernel
theorem dX12_wordToken_98 : decode cX12_wordToken 98 = .ok (.iinc 3 1, 3) := by decide +kernel
theorem dX12_wordToken_101 : decode cX12_wordToken 101 = .ok (.goto (-58), 3) := by decide +kernel
theorem dX12_wordToken_104 : decode cX12_wordToken 104 = .ok (.return_, 1) := by decide +kernel
theorem dX12_wordToken_105 : decode cX12_wordToken 105 = .ok (.aload_n 0, 1) := by decide +kernel
theorem dX12_wordToken_106 : decode cX12_wordToken 106 = .ok (.iload_n 2, 1) := by decide +kernel
theorem dX12_wordToken_107 : decode cX12_wordToken 107 = .ok (.bipush 10, 2) := by decide +kernel
theorem dX12_wordToken_109 : decode cX12_wordToken 109 = .ok (.if_icmp .le 8, 3) := by decide +kernel
theorem dX12_wordToken_112 : decode cX12_wordToken 112 = .ok (.bipush 7, 2) := by decide +kernel
theorem dX12_wordToken_114 : decode cX12_wordToken 114 = .ok (.goto 15, 3) := by decide +kernel
theorem dX12_wordToken_117 : decode cX12_wordToken 117 = .ok (.iload_n 1, 1) := by decide +kernel
theorem dX12_wordToken_118 : decode cX12_wordToken 118 = .ok (.invokestatic 169, 3) := by decide +kernel
theorem dX12_wordToken_121 : decode cX12_wordToken 121 = .ok (.ifCond .eq 7, 3) := by decide +kernel
theorem dX12_wordToken_124 : decode cX12_wordToken 124 = .ok (.iconst 1, 1) := by decide +kernel
theorem dX12_wordToken_125 : decode cX12_wordToken 125 = .ok (.goto 4, 3) := by decide +kernel
theorem dX12_wordToken_128 : decode cX12_wordToken 128 = .ok (.iconst 2, 1) := by decide +kernel
theorem dX12_wordToken_129 : decode cX12_wordToken 129 = .ok (.putfield 198, 3) := by decide +kernel
theorem dX12_wordToken_132 : decode cX12_wordToken 132 = .ok (.aload_n 0, 1) := by decide +kernel
theorem dX12_wordToken_133 : decode cX12_wordToken 133 = .ok (.getfield 198, 3) := by decide +kernel
theorem dX12_wordToken_136 : decode cX12_wordToken 136 = .ok (.bipush 7, 2) := by decide +kernel
theorem dX12_wordToken_138 : decode cX12_wordToken 138 = .ok (.if_icmp .ne 4, 3) := by decide +kernel
theorem dX12_wordToken_141 : decode cX12_wordToken 141 = .ok (.return_, 1) := by decide +kernel
theorem dX12_wordToken_142 : decode cX12_wordToken 142 = .ok (.aload_n 0, 1) := by decide +kernel
theorem dX12_wordToken_143 : decode cX12_wordToken 143 = .ok (.aload_n 0, 1) := by decide +kernel
theorem dX12_wordToken_144 : decode cX12_wordToken 144 = .ok (.aload_n 0, 1) := by decide +kernel
theorem dX12_wordToken_145 : decode cX12_wordToken 145 = .ok (.getfield 198, 3) := by decide +kernel
theorem dX12_wordToken_148 : decode cX12_wordToken 148 = .ok (.iconst 1, 1) := by decide +kernel
theorem dX12_wordToken_149 : decode cX12_wordToken 149 = .ok (.if_icmp .ne 8, 3) := by decide +kernel
theorem dX12_wordToken_152 : decode cX12_wordToken 152 = .ok (.ldc 210, 2) := by decide +kernel
theorem dX12_wordToken_154 : decode cX12_wordToken 154 = .ok (.goto 5, 3) := by decide +kernel
theorem dX12_wordToken_157 : decode cX12_wordToken 157 = .ok (.ldc 212, 2) := by decide +kernel
theorem dX12_wordToken_159 : decode cX12_wordToken 159 = .ok (.invokevirtual 214, 3) := by decide +kernel
theorem dX12_wordToken_162 : decode cX12_wordToken 162 = .ok (.putfield 207, 3) := by decide +kernel
theorem dX12_wordToken_165 : decode cX12_wordToken 165 = .ok (.aload_n 0, 1) := by decide +kernel
theorem dX12_wordToken_166 : decode cX12_wordToken 166 = .ok (.getfield 207, 3) := by decide +kernel
theorem dX12_wordToken_169 : decode cX12_wordToken 169 = .ok (.ifCond .lt 23, 3) := by decide +kernel
theorem dX12_wordToken_172 : decode cX12_wordToken 172 = .ok (.aload_n 0, 1) := by decide +kernel
theorem dX12_wordToken_173 : decode cX12_wordToken 173 = .ok (.aload_n 0, 1) := by decide +kernel
theorem dX12_wordToken_174 : decode cX12_wordToken 174 = .ok (.getfield 198, 3) := by decide +kernel
theorem dX12_wordToken_177 : decode cX12_wordToken 177 = .ok (.iconst 1, 1) := by decide +kernel
theorem dX12_wordToken_178 : decode cX12_wordToken 178 = .ok (.if_icmp .ne 7, 3) := by decide +kernel
theorem dX12_wordToken_181 : decode cX12_wordToken 181 = .ok (.iconst 4, 1) := by decide +kernel
theorem dX12_wordToken_182 : decode cX12_wordToken 182 = .ok (.goto 4, 3) := by decide +kernel
theorem dX12_wordToken_185 : decode cX12_wordToken 185 = .ok (.iconst 5, 1) := by decide +kernel
theorem dX12_wordToken_186 : decode cX12_wordToken 186 = .ok (.putfield 198, 3) := by decide +kernel
theorem dX12_wordToken_189 : decode cX12_wordToken 189 = .ok (.goto 11, 3) := by decide +kernel
theorem dX12_wordToken_192 : decode cX12_wordToken 192 = .ok (.aload_n 0, 1) := by decide +kernel
theorem dX12_wordToken_193 : decode cX12_wordToken 193 = .ok (.aload_n 0, 1) := by decide +kernel
theorem dX12_wordToken_194 : decode cX12_wordToken 194 = .ok (.invokevirtual 218, 3) := by decide +kernel
theorem dX12_wordToken_197 : decode cX12_wordToken 197 = .ok (.putfield 207, 3) := by decide +kernel
theorem dX12_wordToken_200 : decode cX12_wordToken 200 = .ok (.return_, 1) := by decide +kernel
theorem dX12_next_0 : decode cX12_next 0 = .ok (.aload_n 0, 1) := by decide +kernel
theorem dX12_next_1 : decode cX12_next 1 = .ok (.getfield 179, 3) := by decide +kernel
theorem dX12_next_4 : decode cX12_next 4 = .ok (.istore_n 1, 1) := by decide +kernel
theorem dX12_next_5 : decode cX12_next 5 = .ok (.iload_n 1, 1) := by decide +kernel
theorem dX12_next_6 : decode cX12_next 6 = .ok (.aload_n 0, 1) := by decide +kernel
theorem dX12_next_7 : decode cX12_next 7 = .ok (.getfield 166, 3) := by decide +kernel
theorem dX12_next_10 : decode cX12_next 10 = .ok (.if_icmp .ge 53, 3) := by decide +kernel
theorem dX12_next_13 : decode cX12_next 13 = .ok (.aload_n 0, 1) := by decide +kernel
theorem dX12_next_14 : decode cX12_next 14 = .ok (.getfield 7, 3) := by decide +kernel
theorem dX12_next_17 : decode cX12_next 17 = .ok (.iload_n 1, 1) := by decide +kernel
theorem dX12_next_18 : decode cX12_next 18 = .ok (.iaload, 1) := by decide +kernel
theorem dX12_next_19 : decode cX12_next 19 = .ok (.bipush 9, 2) := by decide +kernel
theorem dX12_next_21 : decode cX12_next 21 = .ok (.if_icmp .eq 36, 3) := by decide +kernel
theorem dX12_next_24 : decode cX12_next 24 = .ok (.aload_n 0, 1) := by decide +kernel
theorem dX12_next_25 : decode cX12_next 25 = .ok (.getfield 7, 3) := by decide +kernel
theorem dX12_next_28 : decode cX12_next 28 = .ok (.iload_n 1, 1) := by decide +kernel
theorem dX12_next_29 : decode cX12_next 29 = .ok (.iaload, 1) := by decide +kernel
theorem dX12_next_30 : decode cX12_next 30 = .ok (.bipush 10, 2) := by decide +kernel
theorem dX12_next_32 : decode cX12_next 32 = .ok (.if_icmp .eq 25, 3) := by decide +kernel
theorem dX12_next_35 : decode cX12_next 35 = .ok (.aload_n 0, 1) := by decide +kernel
theorem dX12_next_36 : decode cX12_next 36 = .ok (.getfield 7, 3) := by decide +kernel
theorem dX12_next_39 : decode cX12_next 39 = .ok (.iload_n 1, 1) := by decide +kernel
theorem dX12_next_40 : decode cX12_next 40 = .ok (.iaload, 1) := by decide +kernel
theorem dX12_next_41 : decode cX12_next 41 = .ok (.bipush 13, 2) := by decide +kernel
theorem dX12_next_43 : decode cX12_next 43 = .ok (.if_icmp .eq 14, 3) := by decide +kernel
theorem dX12_next_46 : decode cX12_next 46 = .ok (.aload_n 0, 1) := by decide +kernel
theorem dX12_next_47 : decode cX12_next 47 = .ok (.getfield 7, 3) := by decide +kernel
theorem dX12_next_50 : decode cX12_next 50 = .ok (.iload_n 1, 1) := by decide +kernel
theorem dX12_next_51 : decode cX12_next 51 = .ok (.iaload, 1) := by decide +kernel
theorem dX12_next_52 : decode cX12_next 52 = .ok (.bipush 32, 2) := by decide +kernel
theorem dX12_next_54 : decode cX12_next 54 = .ok (.if_icmp .ne 9, 3) := by decide +kernel
theorem dX12_next_57 : decode cX12_next 57 = .ok (.iinc 1 1, 3) := by decide +kernel
theorem dX12_next_60 : decode cX12_next 60 = .ok (.goto (-55), 3) := by decide +kernel
theorem dX12_next_63 : decode cX12_next 63 = .ok (.aload_n 0, 1) := by decide +kernel
theorem dX12_next_64 : decode cX12_next 64 = .ok (.iload_n 1, 1) := by decide +kernel
theorem dX12_next_65 : decode cX12_next 65 = .ok (.putfield 182, 3) := by decide +kernel
theorem dX12_next_68 : decode cX12_next 68 = .ok (.aload_n 0, 1) := by decide +kernel
theorem dX12_next_69 : decode cX12_next 69 = .ok (.iload_n 1, 1) := by decide +kernel
theorem dX12_next_70 : decode cX12_next 70 = .ok (.invokevirtual 194, 3) := by decide +kernel
theorem dX12_next_73 : decode cX12_next 73 = .ok (.istore_n 2, 1) := by decide +kernel
theorem dX12_next_74 : decode cX12_next 74 = .ok (.aload_n 0, 1) := by decide +kernel
theorem dX12_next_75 : decode cX12_next 75 = .ok (.iload_n 1, 1) := by decide +kernel
theorem dX12_next_76 : decode cX12_next 76 = .ok (.iconst 1, 1) := by decide +kernel
theorem dX12_next_77 : decode cX12_next 77 = .ok (.iadd, 1) := by decide +kernel
theorem dX12_next_78 : decode cX12_next 78 = .ok (.putfield 179, 3) := by decide +kernel
theorem dX12_next_81 : decode cX12_next 81 = .ok (.iload_n 1, 1) := by decide +kernel
theorem dX12_next_82 : decode cX12_next 82 = .ok (.aload_n 0, 1) := by decide +kernel
theorem dX12_next_83 : decode cX12_next 83 = .ok (.getfield 166, 3) := by decide +kernel
theorem dX12_next_86 : decode cX12_next 86 = .ok (.if_icmp .lt 14, 3) := by decide +kernel
theorem dX12_next_89 : decode cX12_next 89 = .ok (.aload_n 0, 1) := by decide +kernel
theorem dX12_next_90 : decode cX12_next 90 = .ok (.iconst 0, 1) := by decide +kernel
theorem dX12_next_91 : decode cX12_next 91 = .ok (.putfield 198, 3) := by decide +kernel
theorem dX12_next_94 : decode cX12_next 94 = .ok (.aload_n 0, 1) := by decide +kernel
theorem dX12_next_95 : decode cX12_next 95 = .ok (.iload_n 1, 1) := by decide +kernel
theorem dX12_next_96 : decode cX12_next 96 = .ok (.putfield 179, 3) := by decide +kernel
theorem dX12_next_99 : decode cX12_next 99 = .ok (.return_, 1) := by decide +kernel
theorem dX12_next_100 : decode cX12_next 100 = .ok (.iload_n 2, 1) := by decide +kernel
theorem dX12_next_101 : decode cX12_next 101 = .ok (.invokestatic 201, 3) := by decide +kernel
theorem dX12_next_104 : decode cX12_next 104 = .ok (.ifCond .eq 36, 3) := by decide +kernel
theorem dX12_next_107 : decode cX12_next 107 = .ok (.aload_n 0, 1) := by decide +kernel
theorem dX12_next_108 : decode cX12_next 108 = .ok (.aload_n 0, 1) := by decide +kernel
theorem dX12_next_109 : decode cX12_next 109 = .ok (.getfield 179, 3) := by decide +kernel
theorem dX12_next_112 : decode cX12_next 112 = .ok (.invokevirtual 194, 3) := by decide +kernel
theorem dX12_next_115 : decode cX12_next 115 = .ok (.invokestatic 201, 3) := by decide +kernel
theorem dX12_next_118 : decode cX12_next 118 = .ok (.ifCond .eq 16, 3) := by decide +kernel
theorem dX12_next_121 : decode cX12_next 121 = .ok (.aload_n 0, 1) := by decide +kernel
theorem dX12_next_122 : decode cX12_next 122 = .ok (.dup, 1) := by decide +kernel
theorem dX12_next_123 : decode cX12_next 123 = .ok (.getfield 179, 3) := by decide +kernel
theorem dX12_next_126 : decode cX12_next 126 = .ok (.iconst 1, 1) := by decide +kernel
theorem dX12_next_127 : decode cX12_next 127 = .ok (.iadd, 1) := by decide +kernel
theorem dX12_next_128 : decode cX12_next 128 = .ok (.putfield 179, 3) := by decide +kernel
theorem dX12_next_131 : decode cX12_next 131 = .ok (.goto (-24), 3) := by decide +kernel
theorem dX12_next_134 : decode cX12_next 134 = .ok (.aload_n 0, 1) := by decide +kernel
theorem dX12_next_135 : decode cX12_next 135 = .ok (.iload_n 2, 1) := by decide +kernel
theorem dX12_next_136 : decode cX12_next 136 = .ok (.invokevirtual 204, 3) := by decide +kernel
theorem dX12_next_139 : decode cX12_next 139 = .ok (.return_, 1) := by decide +kernel
theorem dX12_next_140 : decode cX12_next 140 = .ok (.aload_n 0, 1) := by decide +kernel
theorem dX12_next_141 : decode cX12_next 141 = .ok (.bipush 6, 2) := by decide +kernel
theorem dX12_next_143 : decode cX12_next 143 = .ok (.putfield 198, 3) := by decide +kernel
theorem dX12_next_146 : decode cX12_next 146 = .ok (.aload_n 0, 1) := by decide +kernel
theorem dX12_next_147 : decode cX12_next 147 = .ok (.iload_n 2, 1) := by decide +kernel
theorem dX12_next_148 : decode cX12_next 148 = .ok (.putfield 207, 3) := by decide +kernel
theorem dX12_next_151 : decode cX12_next 151 = .ok (.iload_n 2, 1) := by decide +kernel
theorem dX12_next_152 : decode cX12_next 152 = .ok (.bipush 61, 2) := by decide +kernel
theorem dX12_next_154 : decode cX12_next 154 = .ok (.if_icmp .ne 36, 3) := by decide +kernel
theorem dX12_next_157 : decode cX12_next 157 = .ok (.aload_n 0, 1) := by decide +kernel
theorem dX12_next_158 : decode cX12_next 158 = .ok (.aload_n 0, 1) := by decide +kernel
theorem dX12_next_159 : decode cX12_next 159 = .ok (.getfield 179, 3) := by decide +kernel
theorem dX12_next_162 : decode cX12_next 162 = .ok (.invokevirtual 194, 3) := by decide +kernel
theorem dX12_next_165 : decode cX12_next 165 = .ok (.bipush 61, 2) := by decide +kernel
theorem dX12_next_167 : decode cX12_next 167 = .ok (.if_icmp .ne 23, 3) := by decide +kernel
theorem dX12_next_170 : decode cX12_next 170 = .ok (.aload_n 0, 1) := by decide +kernel
theorem dX12_next_171 : decode cX12_next 171 = .ok (.sipush 300, 3) := by decide +kernel
theorem dX12_next_174 : decode cX12_next 174 = .ok (.putfield 207, 3) := by decide +kernel
theorem dX12_next_177 : decode cX12_next 177 = .ok (.aload_n 0, 1) := by decide +kernel
theorem dX12_next_178 : decode cX12_next 178 = .ok (.dup, 1) := by decide +kernel
theorem dX12_next_179 : decode cX12_next 179 = .ok (.getfield 179, 3) := by decide +kernel
theorem dX12_next_182 : decode cX12_next 182 = .ok (.iconst 1, 1) := by decide +kernel
theorem dX12_next_183 : decode cX12_next 183 = .ok (.iadd, 1) := by decide +kernel
theorem dX12_next_184 : decode cX12_next 184 = .ok (.putfield 179, 3) := by decide +kernel
theorem dX12_next_187 : decode cX12_next 187 = .ok (.goto 126, 3) := by decide +kernel
theorem dX12_next_190 : decode cX12_next 190 = .ok (.iload_n 2, 1) := by decide +kernel
theorem dX12_next_191 : decode cX12_next 191 = .ok (.bipush 33, 2) := by decide +kernel
theorem dX12_next_193 : decode cX12_next 193 = .ok (.if_icmp .ne 36, 3) := by decide +kernel
theorem dX12_next_196 : decode cX12_next 196 = .ok (.aload_n 0, 1) := by decide +kernel
theorem dX12_next_197 : decode cX12_next 197 = .ok (.aload_n 0, 1) := by decide +kernel
theorem dX12_next_198 : decode cX12_next 198 = .ok (.getfield 179, 3) := by decide +kernel
theorem dX12_next_201 : decode cX12_next 201 = .ok (.invokevirtual 194, 3) := by decide +kernel
theorem dX12_next_204 : decode cX12_next 204 = .ok (.bipush 61, 2) := by decide +kernel
theorem dX12_next_206 : decode cX12_next 206 = .ok (.if_icmp .ne 23, 3) := by decide +kernel
theorem dX12_next_209 : decode cX12_next 209 = .ok (.aload_n 0, 1) := by decide +kernel
theorem dX12_next_210 : decode cX12_next 210 = .ok (.sipush 301, 3) := by decide +kernel
theorem dX12_next_213 : decode cX12_next 213 = .ok (.putfield 207, 3) := by decide +kernel
theorem dX12_next_216 : decode cX12_next 216 = .ok (.aload_n 0, 1) := by decide +kernel
theorem dX12_next_217 : decode cX12_next 217 = .ok (.dup, 1) := by decide +kernel
theorem dX12_next_218 : decode cX12_next 218 = .ok (.getfield 179, 3) := by decide +kernel
theorem dX12_next_221 : decode cX12_next 221 = .ok (.iconst 1, 1) := by decide +kernel
theorem dX12_next_222 : decode cX12_next 222 = .ok (.iadd, 1) := by decide +kernel
theorem dX12_next_223 : decode cX12_next 223 = .ok (.putfield 179, 3) := by decide +kernel
theorem dX12_next_226 : decode cX12_next 226 = .ok (.goto 87, 3) := by decide +kernel
theorem dX12_next_229 : decode cX12_next 229 = .ok (.iload_n 2, 1) := by decide +kernel
theorem dX12_next_230 : decode cX12_next 230 = .ok (.bipush 123, 2) := by decide +kernel
theorem dX12_next_232 : decode cX12_next 232 = .ok (.if_icmp .eq 81, 3) := by decide +kernel
theorem dX12_next_235 : decode cX12_next 235 = .ok (.iload_n 2, 1) := by decide +kernel
theorem dX12_next_236 : decode cX12_next 236 = .ok (.bipush 125, 2) := by decide +kernel
theorem dX12_next_238 : decode cX12_next 238 = .ok (.if_icmp .eq 75, 3) := by decide +kernel
theorem dX12_next_241 : decode cX12_next 241 = .ok (.iload_n 2, 1) := by decide +kernel
theorem dX12_next_242 : decode cX12_next 242 = .ok (.bipush 40, 2) := by decide +kernel
theorem dX12_next_244 : decode cX12_next 244 = .ok (.if_icmp .eq 69, 3) := by decide +kernel
theorem dX12_next_247 : decode cX12_next 247 = .ok (.iload_n 2, 1) := by decide +kernel
theorem dX12_next_248 : decode cX12_next 248 = .ok (.bipush 41, 2) := by decide +kernel
theorem dX12_next_250 : decode cX12_next 250 = .ok (.if_icmp .eq 63, 3) := by decide +kernel
theorem dX12_next_253 : decode cX12_next 253 = .ok (.iload_n 2, 1) := by decide +kernel
theorem dX12_next_254 : decode cX12_next 254 = .ok (.bipush 44, 2) := by decide +kernel
theorem dX12_next_256 : decode cX12_next 256 = .ok (.if_icmp .eq 57, 3) := by decide +kernel
theorem dX12_next_259 : decode cX12_next 259 = .ok (.iload_n 2, 1) := by decide +kernel
theorem dX12_next_260 : decode cX12_next 260 = .ok (.bipush 59, 2) := by decide +kernel
theorem dX12_next_262 : decode cX12_next 262 = .ok (.if_icmp .eq 51, 3) := by decide +kernel
theorem dX12_next_265 : decode cX12_next 265 = .ok (.iload_n 2, 1) := by decide +kernel
theorem dX12_next_266 : decode cX12_next 266 = .ok (.bipush 61, 2) := by decide +kernel
theorem dX12_next_268 : decode cX12_next 268 = .ok (.if_icmp .eq 45, 3) := by decide +kernel
theorem dX12_next_271 : decode cX12_next 271 = .ok (.iload_n 2, 1) := by decide +kernel
theorem dX12_next_272 : decode cX12_next 272 = .ok (.bipush 43, 2) := by decide +kernel
theorem dX12_next_274 : decode cX12_next 274 = .ok (.if_icmp .eq 39, 3) := by decide +kernel
theorem dX12_next_277 : decode cX12_next 277 = .ok (.iload_n 2, 1) := by decide +kernel
theorem dX12_next_278 : decode cX12_next 278 = .ok (.bipush 45, 2) := by decide +kernel
theorem dX12_next_280 : decode cX12_next 280 = .ok (.if_icmp .eq 33, 3) := by decide +kernel
theorem dX12_next_283 : decode cX12_next 283 = .ok (.iload_n 2, 1) := by decide +kernel
theorem dX12_next_284 : decode cX12_next 284 = .ok (.bipush 42, 2) := by decide +kernel
theorem dX12_next_286 : decode cX12_next 286 = .ok (.if_icmp .eq 27, 3) := by decide +kernel
theorem dX12_next_289 : decode cX12_next 289 = .ok (.iload_n 2, 1) := by decide +kernel
theorem dX12_next_290 : decode cX12_next 290 = .ok (.bipush 47, 2) := by decide +kernel
theorem dX12_next_292 : decode cX12_next 292 = .ok (.if_icmp .eq 21, 3) := by decide +kernel
theorem dX12_next_295 : decode cX12_next 295 = .ok (.iload_n 2, 1) := by decide +kernel
theorem dX12_next_296 : decode cX12_next 296 = .ok (.bipush 37, 2) := by decide +kernel
theorem dX12_next_298 : decode cX12_next 298 = .ok (.if_icmp .eq 15, 3) := by decide +kernel
theorem dX12_next_301 : decode cX12_next 301 = .ok (.iload_n 2, 1) := by decide +kernel
theorem dX12_next_302 : decode cX12_next 302 = .ok (.bipush 60, 2) := by decide +kernel
theorem dX12_next_304 : decode cX12_next 304 = .ok (.if_icmp .eq 9, 3) := by decide +kernel
theorem dX12_next_307 : decode cX12_next 307 = .ok (.aload_n 0, 1) := by decide +kernel
theorem dX12_next_308 : decode cX12_next 308 = .ok (.bipush 7, 2) := by decide +kernel
theorem dX12_next_310 : decode cX12_next 310 = .ok (.putfield 198, 3) := by decide +kernel
theorem dX12_next_313 : decode cX12_next 313 = .ok (.return_, 1) := by decide +kernel
theorem dX12_put_0 : decode cX12_put 0 = .ok (.sipush 9000, 3) := by decide +kernel
theorem dX12_put_3 : decode cX12_put 3 = .ok (.aload_n 0, 1) := by decide +kernel
theorem dX12_put_4 : decode cX12_put 4 = .ok (.getfield 70, 3) := by decide +kernel
theorem dX12_put_7 : decode cX12_put 7 = .ok (.imul, 1) := by decide +kernel
theorem dX12_put_8 : decode cX12_put 8 = .ok (.aload_n 0, 1) := by decide +kernel
theorem dX12_put_9 : decode cX12_put 9 = .ok (.getfield 224, 3) := by decide +kernel
theorem dX12_put_12 : decode cX12_put 12 = .ok (.iadd, 1) := by decide +kernel
theorem dX12_put_13 : decode cX12_put 13 = .ok (.istore 5, 2) := by decide +kernel
theorem dX12_put_15 : decode cX12_put 15 = .ok (.aload_n 0, 1) := by decide +kernel
theorem dX12_put_16 : decode cX12_put 16 = .ok (.getfield 28, 3) := by decide +kernel
theorem dX12_put_19 : decode cX12_put 19 = .ok (.iload 5, 2) := by decide +kernel
theorem dX12_put_21 : decode cX12_put 21 = .ok (.iload_n 1, 1) := by decide +kernel
theorem dX12_put_22 : decode cX12_put 22 = .ok (.iastore, 1) := by decide +kernel
theorem dX12_put_23 : decode cX12_put 23 = .ok (.aload_n 0, 1) := by decide +kernel
theorem dX12_put_24 : decode cX12_put 24 = .ok (.getfield 31, 3) := by decide +kernel
theorem dX12_put_27 : decode cX12_put 27 = .ok (.iload 5, 2) := by decide +kernel
theorem dX12_put_29 : decode cX12_put 29 = .ok (.iload_n 2, 1) := by decide +kernel
theorem dX12_put_30 : decode cX12_put 30 = .ok (.iastore, 1) := by decide +kernel
theorem dX12_put_31 : decode cX12_put 31 = .ok (.aload_n 0, 1) := by decide +kernel
theorem dX12_put_32 : decode cX12_put 32 = .ok (.getfield 34, 3) := by decide +kernel
theorem dX12_put_35 : decode cX12_put 35 = .ok (.iload 5, 2) := by decide +kernel
theorem dX12_put_37 : decode cX12_put 37 = .ok (.iload_n 3, 1) := by decide +kernel
theorem dX12_put_38 : decode cX12_put 38 = .ok (.iastore, 1) := by decide +kernel
theorem dX12_put_39 : decode cX12_put 39 = .ok (.aload_n 0, 1) := by decide +kernel
theorem dX12_put_40 : decode cX12_put 40 = .ok (.getfield 37, 3) := by decide +kernel
theorem dX12_put_43 : decode cX12_put 43 = .ok (.iload 5, 2) := by decide +kernel
theorem dX12_put_45 : decode cX12_put 45 = .ok (.iload 4, 2) := by decide +kernel
theorem dX12_put_47 : decode cX12_put 47 = .ok (.iastore, 1) := by decide +kernel
theorem dX12_put_48 : decode cX12_put 48 = .ok (.aload_n 0, 1) := by decide +kernel
theorem dX12_put_49 : decode cX12_put 49 = .ok (.getfield 40, 3) := by decide +kernel
theorem dX12_put_52 : decode cX12_put 52 = .ok (.iload 5, 2) := by decide +kernel
theorem dX12_put_54 : decode cX12_put 54 = .ok (.iconst (-1), 1) := by decide +kernel
theorem dX12_put_55 : decode cX12_put 55 = .ok (.iastore, 1) := by decide +kernel
theorem dX12_put_56 : decode cX12_put 56 = .ok (.aload_n 0, 1) := by decide +kernel
theorem dX12_put_57 : decode cX12_put 57 = .ok (.dup, 1) := by decide +kernel
theorem dX12_put_58 : decode cX12_put 58 = .ok (.getfield 224, 3) := by decide +kernel
theorem dX12_put_61 : decode cX12_put 61 = .ok (.iconst 1, 1) := by decide +kernel
theorem dX12_put_62 : decode cX12_put 62 = .ok (.iadd, 1) := by decide +kernel
theorem dX12_put_63 : decode cX12_put 63 = .ok (.putfield 224, 3) := by decide +kernel
theorem dX12_put_66 : decode cX12_put 66 = .ok (.iload 5, 2) := by decide +kernel
theorem dX12_put_68 : decode cX12_put 68 = .ok (.ireturn, 1) := by decide +kernel
theorem dX12_here_0 : decode cX12_here 0 = .ok (.sipush 9000, 3) := by decide +kernel
theorem dX12_here_3 : decode cX12_here 3 = .ok (.aload_n 0, 1) := by decide +kernel
theorem dX12_here_4 : decode cX12_here 4 = .ok (.getfield 70, 3) := by decide +kernel
theorem dX12_here_7 : decode cX12_here 7 = .ok (.imul, 1) := by decide +kernel
theorem dX12_here_8 : decode cX12_here 8 = .ok (.aload_n 0, 1) := by decide +kernel
theorem dX12_here_9 : decode cX12_here 9 = .ok (.getfield 224, 3) := by decide +kernel
theorem dX12_here_12 : decode cX12_here 12 = .ok (.iadd, 1) := by decide +kernel
theorem dX12_here_13 : decode cX12_here 13 = .ok (.ireturn, 1) := by decide +kernel
theorem dX12_bad_0 : decode cX12_bad 0 = .ok (.aload_n 0, 1) := by decide +kernel
theorem dX12_bad_1 : decode cX12_bad 1 = .ok (.getfield 227, 3) := by decide +kernel
theorem dX12_bad_4 : decode cX12_bad 4 = .ok (.iconst (-1), 1) := by decide +kernel
theorem dX12_bad_5 : decode cX12_bad 5 = .ok (.if_icmp .eq 7, 3) := by decide +kernel
theorem dX12_bad_8 : decode cX12_bad 8 = .ok (.iconst 1, 1) := by decide +kernel
theorem dX12_bad_9 : decode cX12_bad 9 = .ok (.goto 4, 3) := by decide +kernel
theorem dX12_bad_12 : decode cX12_bad 12 = .ok (.iconst 0, 1) := by decide +kernel
theorem dX12_bad_13 : decode cX12_bad 13 = .ok (.ireturn, 1) := by decide +kernel
theorem dX12_fail_0 : decode cX12_fail 0 = .ok (.aload_n 0, 1) := by decide +kernel
theorem dX12_fail_1 : decode cX12_fail 1 = .ok (.getfield 227, 3) := by decide +kernel
theorem dX12_fail_4 : decode cX12_fail 4 = .ok (.iconst (-1), 1) := by decide +kernel
theorem dX12_fail_5 : decode cX12_fail 5 = .ok (.if_icmp .ne 11, 3) := by decide +kernel
theorem dX12_fail_8 : decode cX12_fail 8 = .ok (.aload_n 0, 1) := by decide +kernel
theorem dX12_fail_9 : decode cX12_fail 9 = .ok (.aload_n 0, 1) := by decide +kernel
theorem dX12_fail_10 : decode cX12_fail 10 = .ok (.getfield 182, 3) := by decide +kernel
theorem dX12_fail_13 : decode cX12_fail 13 = .ok (.putfield 227, 3) := by decide +kernel
theorem dX12_fail_16 : decode cX12_fail 16 = .ok (.return_, 1) := by decide +kernel
theorem dX12_isSign_0 : decode cX12_isSign 0 = .ok (.aload_n 0, 1) := by decide +kernel
theorem dX12_isSign_1 : decode cX12_isSign 1 = .ok (.invokevirtual 230, 3) := by decide +kernel
theorem dX12_isSign_4 : decode cX12_isSign 4 = .ok (.ifCond .ne 24, 3) := by decide +kernel
theorem dX12_isSign_7 : decode cX12_isSign 7 = .ok (.aload_n 0, 1) := by decide +kernel
theorem dX12_isSign_8 : decode cX12_isSign 8 = .ok (.getfield 198, 3) := by decide +kernel
theorem dX12_isSign_11 : decode cX12_isSign 11 = .ok (.bipush 6, 2) := by decide +kernel
theorem dX12_isSign_13 : decode cX12_isSign 13 = .ok (.if_icmp .ne 15, 3) := by decide +kernel
theorem dX12_isSign_16 : decode cX12_isSign 16 = .ok (.aload_n 0, 1) := by decide +kernel
theorem dX12_isSign_17 : decode cX12_isSign 17 = .ok (.getfield 207, 3) := by decide +kernel
theorem dX12_isSign_20 : decode cX12_isSign 20 = .ok (.iload_n 1, 1) := by decide +kernel
theorem dX12_isSign_21 : decode cX12_isSign 21 = .ok (.if_icmp .ne 7, 3) := by decide +kernel
theorem dX12_isSign_24 : decode cX12_isSign 24 = .ok (.iconst 1, 1) := by decide +kernel
theorem dX12_isSign_25 : decode cX12_isSign 25 = .ok (.goto 4, 3) := by decide +kernel
theorem dX12_isSign_28 : decode cX12_isSign 28 = .ok (.iconst 0, 1) := by decide +kernel
theorem dX12_isSign_29 : decode cX12_isSign 29 = .ok (.ireturn, 1) := by decide +kernel
theorem dX12_isWord_0 : decode cX12_isWord 0 = .ok (.aload_n 0, 1) := by decide +kernel
theorem dX12_isWord_1 : decode cX12_isWord 1 = .ok (.invokevirtual 230, 3) := by decide +kernel
theorem dX12_isWord_4 : decode cX12_isWord 4 = .ok (.ifCond .ne 23, 3) := by decide +kernel
theorem dX12_isWord_7 : decode cX12_isWord 7 = .ok (.aload_n 0, 1) := by decide +kernel
theorem dX12_isWord_8 : decode cX12_isWord 8 = .ok (.getfield 198, 3) := by decide +kernel
theorem dX12_isWord_11 : decode cX12_isWord 11 = .ok (.iconst 4, 1) := by decide +kernel
theorem dX12_isWord_12 : decode cX12_isWord 12 = .ok (.if_icmp .ne 15, 3) := by decide +kernel
theorem dX12_isWord_15 : decode cX12_isWord 15 = .ok (.aload_n 0, 1) := by decide +kernel
theorem dX12_isWord_16 : decode cX12_isWord 16 = .ok (.getfield 207, 3) := by decide +kernel
theorem dX12_isWord_19 : decode cX12_isWord 19 = .ok (.iload_n 1, 1) := by decide +kernel
theorem dX12_isWord_20 : decode cX12_isWord 20 = .ok (.if_icmp .ne 7, 3) := by decide +kernel
theorem dX12_isWord_23 : decode cX12_isWord 23 = .ok (.iconst 1, 1) := by decide +kernel
theorem dX12_isWord_24 : decode cX12_isWord 24 = .ok (.goto 4, 3) := by decide +kernel
theorem dX12_isWord_27 : decode cX12_isWord 27 = .ok (.iconst 0, 1) := by decide +kernel
theorem dX12_isWord_28 : decode cX12_isWord 28 = .ok (.ireturn, 1) := by decide +kernel
theorem dX12_pass_0 : decode cX12_pass 0 = .ok (.aload_n 0, 1) := by decide +kernel
theorem dX12_pass_1 : decode cX12_pass 1 = .ok (.invokevirtual 230, 3) := by decide +kernel
theorem dX12_pass_4 : decode cX12_pass 4 = .ok (.ifCond .ne 7, 3) := by decide +kernel
theorem dX12_pass_7 : decode cX12_pass 7 = .ok (.aload_n 0, 1) := by decide +kernel
theorem dX12_pass_8 : decode cX12_pass 8 = .ok (.invokevirtual 234, 3) := by decide +kernel
theorem dX12_pass_11 : decode cX12_pass 11 = .ok (.return_, 1) := by decide +kernel
theorem dX12_need_0 : decode cX12_need 0 = .ok (.aload_n 0, 1) := by decide +kernel
theorem dX12_need_1 : decode cX12_need 1 = .ok (.iload_n 1, 1) := by decide +kernel
theorem dX12_need_2 : decode cX12_need 2 = .ok (.invokevirtual 237, 3) := by decide +kernel
theorem dX12_need_5 : decode cX12_need 5 = .ok (.ifCond .eq 10, 3) := by decide +kernel
theorem dX12_need_8 : decode cX12_need 8 = .ok (.aload_n 0, 1) := by decide +kernel
theorem dX12_need_9 : decode cX12_need 9 = .ok (.invokevirtual 240, 3) := by decide +kernel
theorem dX12_need_12 : decode cX12_need 12 = .ok (.goto 7, 3) := by decide +kernel
theorem dX12_need_15 : decode cX12_need 15 = .ok (.aload_n 0, 1) := by decide +kernel
theorem dX12_need_16 : decode cX12_need 16 = .ok (.invokevirtual 243, 3) := by decide +kernel
theorem dX12_need_19 : decode cX12_need 19 = .ok (.return_, 1) := by decide +kernel
theorem dX12_needWord_0 : decode cX12_needWord 0 = .ok (.aload_n 0, 1) := by decide +kernel
theorem dX12_needWord_1 : decode cX12_needWord 1 = .ok (.iload_n 1, 1) := by decide +kernel
theorem dX12_needWord_2 : decode cX12_needWord 2 = .ok (.invokevirtual 246, 3) := by decide +kernel
theorem dX12_needWord_5 : decode cX12_needWord 5 = .ok (.ifCond .eq 10, 3) := by decide +kernel
theorem dX12_needWord_8 : decode cX12_needWord 8 = .ok (.aload_n 0, 1) := by decide +kernel
theorem dX12_needWord_9 : decode cX12_needWord 9 = .ok (.invokevirtual 240, 3) := by decide +kernel
theorem dX12_needWord_12 : decode cX12_needWord 12 = .ok (.goto 7, 3) := by decide +kernel
theorem dX12_needWord_15 : decode cX12_needWord 15 = .ok (.aload_n 0, 1) := by decide +kernel
theorem dX12_needWord_16 : decode cX12_needWord 16 = .ok (.invokevirtual 243, 3) := by decide +kernel
theorem dX12_needWord_19 : decode cX12_needWord 19 = .ok (.return_, 1) := by decide +kernel
theorem dX12_opens_0 : decode cX12_opens 0 = .ok (.aload_n 0, 1) := by decide +kernel
theorem dX12_opens_1 : decode cX12_opens 1 = .ok (.iload_n 1, 1) := by decide +kernel
theorem dX12_opens_2 : decode cX12_opens 2 = .ok (.invokevirtual 237, 3) := by decide +kernel
theorem dX12_opens_5 : decode cX12_opens 5 = .ok (.ifCond .eq 12, 3) := by decide +kernel
theorem dX12_opens_8 : decode cX12_opens 8 = .ok (.aload_n 0, 1) := by decide +kernel
theorem dX12_opens_9 : decode cX12_opens 9 = .ok (.getfield 249, 3) := by decide +kernel
theorem dX12_opens_12 : decode cX12_opens 12 = .ok (.bipush 20, 2) := by decide +kernel
theorem dX12_opens_14 : decode cX12_opens 14 = .ok (.if_icmp .ne 7, 3) := by decide +kernel
theorem dX12_opens_17 : decode cX12_opens 17 = .ok (.aload_n 0, 1) := by decide +kernel
theorem dX12_opens_18 : decode cX12_opens 18 = .ok (.invokevirtual 243, 3) := by decide +kernel
theorem dX12_opens_21 : decode cX12_opens 21 = .ok (.aload_n 0, 1) := by decide +kernel
theorem dX12_opens_22 : decode cX12_opens 22 = .ok (.dup, 1) := by decide +kernel
theorem dX12_opens_23 : decode cX12_opens 23 = .ok (.getfield 249, 3) := by decide +kernel
theorem dX12_opens_26 : decode cX12_opens 26 = .ok (.iconst 1, 1) := by decide +kernel
theorem dX12_opens_27 : decode cX12_opens 27 = .ok (.iadd, 1) := by decide +kernel
theorem dX12_opens_28 : decode cX12_opens 28 = .ok (.putfield 249, 3) := by decide +kernel
theorem dX12_opens_31 : decode cX12_opens 31 = .ok (.aload_n 0, 1) := by decide +kernel
theorem dX12_opens_32 : decode cX12_opens 32 = .ok (.invokevirtual 240, 3) := by decide +kernel
theorem dX12_opens_35 : decode cX12_opens 35 = .ok (.return_, 1) := by decide +kernel
theorem dX12_closes_0 : decode cX12_closes 0 = .ok (.aload_n 0, 1) := by decide +kernel
theorem dX12_closes_1 : decode cX12_closes 1 = .ok (.iload_n 1, 1) := by decide +kernel
theorem dX12_closes_2 : decode cX12_closes 2 = .ok (.invokevirtual 252, 3) := by decide +kernel
theorem dX12_closes_5 : decode cX12_closes 5 = .ok (.aload_n 0, 1) := by decide +kernel
theorem dX12_closes_6 : decode cX12_closes 6 = .ok (.dup, 1) := by decide +kernel
theorem dX12_closes_7 : decode cX12_closes 7 = .ok (.getfield 249, 3) := by decide +kernel
theorem dX12_closes_10 : decode cX12_closes 10 = .ok (.iconst 1, 1) := by decide +kernel
theorem dX12_closes_11 : decode cX12_closes 11 = .ok (.isub, 1) := by decide +kernel
theorem dX12_closes_12 : decode cX12_closes 12 = .ok (.putfield 249, 3) := by decide +kernel
theorem dX12_closes_15 : decode cX12_closes 15 = .ok (.return_, 1) := by decide +kernel
theorem dX12_taken_0 : decode cX12_taken 0 = .ok (.aload_n 0, 1) := by decide +kernel
theorem dX12_taken_1 : decode cX12_taken 1 = .ok (.aload_n 0, 1) := by decide +kernel
theorem dX12_taken_2 : decode cX12_taken 2 = .ok (.getfield 182, 3) := by decide +kernel
theorem dX12_taken_5 : decode cX12_taken 5 = .ok (.putfield 255, 3) := by decide +kernel
theorem dX12_taken_8 : decode cX12_taken 8 = .ok (.aload_n 0, 1) := by decide +kernel
theorem dX12_taken_9 : decode cX12_taken 9 = .ok (.invokevirtual 230, 3) := by decide +kernel
theorem dX12_taken_12 : decode cX12_taken 12 = .ok (.ifCond .ne 11, 3) := by decide +kernel
theorem dX12_taken_15 : decode cX12_taken 15 = .ok (.aload_n 0, 1) := by decide +kernel
theorem dX12_taken_16 : decode cX12_taken 16 = .ok (.getfield 198, 3) := by decide +kernel
theorem dX12_taken_19 : decode cX12_taken 19 = .ok (.iload_n 1, 1) := by decide +kernel
theorem dX12_taken_20 : decode cX12_taken 20 = .ok (.if_icmp .eq 9, 3) := by decide +kernel
theorem dX12_taken_23 : decode cX12_taken 23 = .ok (.aload_n 0, 1) := by decide +kernel
theorem dX12_taken_24 : decode cX12_taken 24 = .ok (.invokevirtual 243, 3) := by decide +kernel
theorem dX12_taken_27 : decode cX12_taken 27 = .ok (.iconst 0, 1) := by decide +kernel
theorem dX12_taken_28 : decode cX12_taken 28 = .ok (.ireturn, 1) := by decide +kernel
theorem dX12_taken_29 : decode cX12_taken 29 = .ok (.aload_n 0, 1) := by decide +kernel
theorem dX12_taken_30 : decode cX12_taken 30 = .ok (.getfield 207, 3) := by decide +kernel
theorem dX12_taken_33 : decode cX12_taken 33 = .ok (.istore_n 2, 1) := by decide +kernel
theorem dX12_taken_34 : decode cX12_taken 34 = .ok (.aload_n 0, 1) := by decide +kernel
theorem dX12_taken_35 : decode cX12_taken 35 = .ok (.invokevirtual 240, 3) := by decide +kernel
theorem dX12_taken_38 : decode cX12_taken 38 = .ok (.iload_n 2, 1) := by decide +kernel
theorem dX12_taken_39 : decode cX12_taken 39 = .ok (.ireturn, 1) := by decide +kernel
theorem dX12_least_0 : decode cX12_least 0 = .ok (.iload_n 0, 1) := by decide +kernel
theorem dX12_least_1 : decode cX12_least 1 = .ok (.iconst (-1), 1) := by decide +kernel
theorem dX12_least_2 : decode cX12_least 2 = .ok (.if_icmp .eq 8, 3) := by decide +kernel
theorem dX12_least_5 : decode cX12_least 5 = .ok (.iload_n 1, 1) := by decide +kernel
theorem dX12_least_6 : decode cX12_least 6 = .ok (.iload_n 0, 1) := by decide +kernel
theorem dX12_least_7 : decode cX12_least 7 = .ok (.if_icmp .ge 7, 3) := by decide +kernel
theorem dX12_least_10 : decode cX12_least 10 = .ok (.iload_n 1, 1) := by decide +kernel
theorem dX12_least_11 : decode cX12_least 11 = .ok (.goto 4, 3) := by decide +kernel
theorem dX12_least_14 : decode cX12_least 14 = .ok (.iload_n 0, 1) := by decide +kernel
theorem dX12_least_15 : decode cX12_least 15 = .ok (.ireturn, 1) := by decide +kernel
theorem dX12_tell_0 : decode cX12_tell 0 = .ok (.aload_n 0, 1) := by decide +kernel
theorem dX12_tell_1 : decode cX12_tell 1 = .ok (.invokevirtual 230, 3) := by decide +kernel
theorem dX12_tell_4 : decode cX12_tell 4 = .ok (.ifCond .eq 4, 3) := by decide +kernel
theorem dX12_tell_7 : decode cX12_tell 7 = .ok (.return_, 1) := by decide +kernel
theorem dX12_tell_8 : decode cX12_tell 8 = .ok (.aload_n 0, 1) := by decide +kernel
theorem dX12_tell_9 : decode cX12_tell 9 = .ok (.getfield 19, 3) := by decide +kernel
theorem dX12_tell_12 : decode cX12_tell 12 = .ok (.iload_n 1, 1) := by decide +kernel
theorem dX12_tell_13 : decode cX12_tell 13 = .ok (.iaload, 1) := by decide +kernel
theorem dX12_tell_14 : decode cX12_tell 14 = .ok (.aload_n 0, 1) := by decide +kernel
theorem dX12_tell_15 : decode cX12_tell 15 = .ok (.getfield 258, 3) := by decide +kernel
theorem dX12_tell_18 : decode cX12_tell 18 = .ok (.if_icmp .ne 16, 3) := by decide +kernel
theorem dX12_tell_21 : decode cX12_tell 21 = .ok (.aload_n 0, 1) := by decide +kernel
theorem dX12_tell_22 : decode cX12_tell 22 = .ok (.aload_n 0, 1) := by decide +kernel
theorem dX12_tell_23 : decode cX12_tell 23 = .ok (.getfield 261, 3) := by decide +kernel
theorem dX12_tell_26 : decode cX12_tell 26 = .ok (.iload_n 2, 1) := by decide +kernel
theorem dX12_tell_27 : decode cX12_tell 27 = .ok (.invokestatic 264, 3) := by decide +kernel
theorem dX12_tell_30 : decode cX12_tell 30 = .ok (.putfield 261, 3) := by decide +kernel
theorem dX12_tell_33 : decode cX12_tell 33 = .ok (.return_, 1) := by decide +kernel
theorem dX12_tell_34 : decode cX12_tell 34 = .ok (.aload_n 0, 1) := by decide +kernel
theorem dX12_tell_35 : decode cX12_tell 35 = .ok (.getfield 19, 3) := by decide +kernel
theorem dX12_tell_38 : decode cX12_tell 38 = .ok (.iload_n 1, 1) := by decide +kernel
theorem dX12_tell_39 : decode cX12_tell 39 = .ok (.aload_n 0, 1) := by decide +kernel
theorem dX12_tell_40 : decode cX12_tell 40 = .ok (.getfield 258, 3) := by decide +kernel
theorem dX12_tell_43 : decode cX12_tell 43 = .ok (.iastore, 1) := by decide +kernel
theorem dX12_tell_44 : decode cX12_tell 44 = .ok (.aload_n 0, 1) := by decide +kernel
theorem dX12_tell_45 : decode cX12_tell 45 = .ok (.getfield 22, 3) := by decide +kernel
theorem dX12_tell_48 : decode cX12_tell 48 = .ok (.iload_n 1, 1) := by decide +kernel
theorem dX12_tell_49 : decode cX12_tell 49 = .ok (.aload_n 0, 1) := by decide +kernel
theorem dX12_tell_50 : decode cX12_tell 50 = .ok (.getfield 268, 3) := by decide +kernel
theorem dX12_tell_53 : decode cX12_tell 53 = .ok (.iastore, 1) := by decide +kernel
theorem dX12_tell_54 : decode cX12_tell 54 = .ok (.aload_n 0, 1) := by decide +kernel
theorem dX12_tell_55 : decode cX12_tell 55 = .ok (.dup, 1) := by decide +kernel
theorem dX12_tell_56 : decode cX12_tell 56 = .ok (.getfield 268, 3) := by decide +kernel
theorem dX12_tell_59 : decode cX12_tell 59 = .ok (.iconst 1, 1) := by decide +kernel
theorem dX12_tell_60 : decode cX12_tell 60 = .ok (.iadd, 1) := by decide +kernel
theorem dX12_tell_61 : decode cX12_tell 61 = .ok (.putfield 268, 3) := by decide +kernel
theorem dX12_tell_64 : decode cX12_tell 64 = .ok (.aload_n 0, 1) := by decide +kernel
theorem dX12_tell_65 : decode cX12_tell 65 = .ok (.getfield 268, 3) := by decide +kernel
theorem dX12_tell_68 : decode cX12_tell 68 = .ok (.bipush 12, 2) := by decide +kernel
theorem dX12_tell_70 : decode cX12_tell 70 = .ok (.if_icmp .le 15, 3) := by decide +kernel
theorem dX12_tell_73 : decode cX12_tell 73 = .ok (.aload_n 0, 1) := by decide +kernel
theorem dX12_tell_74 : decode cX12_tell 74 = .ok (.aload_n 0, 1) := by decide +kernel
theorem dX12_tell_75 : decode cX12_tell 75 = .ok (.getfield 271, 3) := by decide +kernel
theorem dX12_tell_78 : decode cX12_tell 78 = .ok (.iload_n 2, 1) := by decide +kernel
theorem dX12_tell_79 : decode cX12_tell 79 = .ok (.invokestatic 264, 3) := by decide +kernel
theorem dX12_tell_82 : decode cX12_tell 82 = .ok (.putfield 271, 3) := by decide +kernel
theorem dX12_tell_85 : decode cX12_tell 85 = .ok (.return_, 1) := by decide +kernel
theorem dX12_told_0 : decode cX12_told 0 = .ok (.aload_n 0, 1) := by decide +kernel
theorem dX12_told_1 : decode cX12_told 1 = .ok (.invokevirtual 230, 3) := by decide +kernel
theorem dX12_told_4 : decode cX12_told 4 = .ok (.ifCond .eq 5, 3) := by decide +kernel
theorem dX12_told_7 : decode cX12_told 7 = .ok (.iconst 0, 1) := by decide +kernel
theorem dX12_told_8 : decode cX12_told 8 = .ok (.ireturn, 1) := by decide +kernel
theorem dX12_told_9 : decode cX12_told 9 = .ok (.aload_n 0, 1) := by decide +kernel
theorem dX12_told_10 : decode cX12_told 10 = .ok (.getfield 19, 3) := by decide +kernel
theorem dX12_told_13 : decode cX12_told 13 = .ok (.iload_n 1, 1) := by decide +kernel
theorem dX12_told_14 : decode cX12_told 14 = .ok (.iaload, 1) := by decide +kernel
theorem dX12_told_15 : decode cX12_told 15 = .ok (.aload_n 0, 1) := by decide +kernel
theorem dX12_told_16 : decode cX12_told 16 = .ok (.getfield 258, 3) := by decide +kernel
theorem dX12_told_19 : decode cX12_told 19 = .ok (.if_icmp .ne 10, 3) := by decide +kernel
theorem dX12_told_22 : decode cX12_told 22 = .ok (.aload_n 0, 1) := by decide +kernel
theorem dX12_told_23 : decode cX12_told 23 = .ok (.getfield 22, 3) := by decide +kernel
theorem dX12_told_26 : decode cX12_told 26 = .ok (.iload_n 1, 1) := by decide +kernel
theorem dX12_told_27 : decode cX12_told 27 = .ok (.iaload, 1) := by decide +kernel
theorem dX12_told_28 : decode cX12_told 28 = .ok (.ireturn, 1) := by decide +kernel
theorem dX12_told_29 : decode cX12_told 29 = .ok (.aload_n 0, 1) := by decide +kernel
theorem dX12_told_30 : decode cX12_told 30 = .ok (.aload_n 0, 1) := by decide +kernel
theorem dX12_told_31 : decode cX12_told 31 = .ok (.getfield 261, 3) := by decide +kernel
theorem dX12_told_34 : decode cX12_told 34 = .ok (.iload_n 2, 1) := by decide +kernel
theorem dX12_told_35 : decode cX12_told 35 = .ok (.invokestatic 264, 3) := by decide +kernel
theorem dX12_told_38 : decode cX12_told 38 = .ok (.putfield 261, 3) := by decide +kernel
theorem dX12_told_41 : decode cX12_told 41 = .ok (.iconst 0, 1) := by decide +kernel
theorem dX12_told_42 : decode cX12_told 42 = .ok (.ireturn, 1) := by decide +kernel
theorem dX12_object_0 : decode cX12_object 0 = .ok (.aload_n 0, 1) := by decide +kernel
theorem dX12_object_1 : decode cX12_object 1 = .ok (.iconst 2, 1) := by decide +kernel
theorem dX12_object_2 : decode cX12_object 2 = .ok (.invokevirtual 274, 3) := by decide +kernel
theorem dX12_object_5 : decode cX12_object 5 = .ok (.istore_n 1, 1) := by decide +kernel
theorem dX12_object_6 : decode cX12_object 6 = .ok (.aload_n 0, 1) := by decide +kernel
theorem dX12_object_7 : decode cX12_object 7 = .ok (.invokevirtual 230, 3) := by decide +kernel
theorem dX12_object_10 : decode cX12_object 10 = .ok (.ifCond .eq 5, 3) := by decide +kernel
theorem dX12_object_13 : decode cX12_object 13 = .ok (.iconst 0, 1) := by decide +kernel
theorem dX12_object_14 : decode cX12_object 14 = .ok (.ireturn, 1) := by decide +kernel
theorem dX12_object_15 : decode cX12_object 15 = .ok (.aload_n 0, 1) := by decide +kernel
theorem dX12_object_16 : decode cX12_object 16 = .ok (.getfield 19, 3) := by decide +kernel
theorem dX12_object_19 : decode cX12_object 19 = .ok (.iload_n 1, 1) := by decide +kernel
theorem dX12_object_20 : decode cX12_object 20 = .ok (.iaload, 1) := by decide +kernel
theorem dX12_object_21 : decode cX12_object 21 = .ok (.aload_n 0, 1) := by decide +kernel
theorem dX12_object_22 : decode cX12_object 22 = .ok (.getfield 258, 3) := by decide +kernel
theorem dX12_object_25 : decode cX12_object 25 = .ok (.if_icmp .eq 57, 3) := by decide +kernel
theorem dX12_object_28 : decode cX12_object 28 = .ok (.aload_n 0, 1) := by decide +kernel
theorem dX12_object_29 : decode cX12_object 29 = .ok (.getfield 19, 3) := by decide +kernel
theorem dX12_object_32 : decode cX12_object 32 = .ok (.iload_n 1, 1) := by decide +kernel
theorem dX12_object_33 : decode cX12_object 33 = .ok (.aload_n 0, 1) := by decide +kernel
theorem dX12_object_34 : decode cX12_object 34 = .ok (.getfield 258, 3) := by decide +kernel
theorem dX12_object_37 : decode cX12_object 37 = .ok (.iastore, 1) := by decide +kernel
theorem dX12_object_38 : decode cX12_object 38 = .ok (.aload_n 0, 1) := by decide +kernel
theorem dX12_object_39 : decode cX12_object 39 = .ok (.getfield 22, 3) := by decide +kernel
theorem dX12_object_42 : decode cX12_object 42 = .ok (.iload_n 1, 1) := by decide +kernel
theorem dX12_object_43 : decode cX12_object 43 = .ok (.aload_n 0, 1) := by decide +kernel
theorem dX12_object_44 : decode cX12_object 44 = .ok (.getfield 277, 3) := by decide +kernel
theorem dX12_object_47 : decode cX12_object 47 = .ok (.iastore, 1) := by decide +kernel
theorem dX12_object_48 : decode cX12_object 48 = .ok (.aload_n 0, 1) := by decide +kernel
theorem dX12_object_49 : decode cX12_object 49 = .ok (.dup, 1) := by decide +kernel
theorem dX12_object_50 : decode cX12_object 50 = .ok (.getfield 277, 3) := by decide +kernel
theorem dX12_object_53 : decode cX12_object 53 = .ok (.iconst 1, 1) := by decide +kernel
theorem dX12_object_54 : decode cX12_object 54 = .ok (.iadd, 1) := by decide +kernel
theorem dX12_object_55 : decode cX12_object 55 = .ok (.putfield 277, 3) := by decide +kernel
theorem dX12_object_58 : decode cX12_object 58 = .ok (.aload_n 0, 1) := by decide +kernel
theorem dX12_object_59 : decode cX12_object 59 = .ok (.getfield 277, 3) := by decide +kernel
theorem dX12_object_62 : decode cX12_object 62 = .ok (.bipush 8, 2) := by decide +kernel
theorem dX12_object_64 : decode cX12_object 64 = .ok (.if_icmp .le 18, 3) := by decide +kernel
theorem dX12_object_67 : decode cX12_object 67 = .ok (.aload_n 0, 1) := by decide +kernel
theorem dX12_object_68 : decode cX12_object 68 = .ok (.aload_n 0, 1) := by decide +kernel
theorem dX12_object_69 : decode cX12_object 69 = .ok (.getfield 271, 3) := by decide +kernel
theorem dX12_object_72 : decode cX12_object 72 = .ok (.aload_n 0, 1) := by decide +kernel
theorem dX12_object_73 : decode cX12_object 73 = .ok (.getfield 255, 3) := by decide +kernel
theorem dX12_object_76 : decode cX12_object 76 = .ok (.invokestatic 264, 3) := by decide +kernel
theorem dX12_object_79 : decode cX12_object 79 = .ok (.putfield 271, 3) := by decide +kernel
theorem dX12_object_82 : decode cX12_object 82 = .ok (.aload_n 0, 1) := by decide +kernel
theorem dX12_object_83 : decode cX12_object 83 = .ok (.getfield 22, 3) := by decide +kernel
theorem dX12_object_86 : decode cX12_object 86 = .ok (.iload_n 1, 1) := by decide +kernel
theorem dX12_object_87 : decode cX12_object 87 = .ok (.iaload, 1) := by decide +kernel
theorem dX12_object_88 : decode cX12_object 88 = .ok (.ireturn, 1) := by decide +kernel
theorem dX12_parameter_0 : decode cX12_parameter 0 = .ok (.aload_n 0, 1) := by decide +kernel
theorem dX12_parameter_1 : decode cX12_parameter 1 = .ok (.iconst 1, 1) := by decide +kernel
theorem dX12_parameter_2 : decode cX12_parameter 2 = .ok (.invokevirtual 274, 3) := by decide +kernel
theorem dX12_parameter_5 : decode cX12_parameter 5 = .ok (.istore_n 2, 1) := by decide +kernel
theorem dX12_parameter_6 : decode cX12_parameter 6 = .ok (.iload_n 1, 1) := by decide +kernel
theorem dX12_parameter_7 : decode cX12_parameter 7 = .ok (.iconst 4, 1) := by decide +kernel
theorem dX12_parameter_8 : decode cX12_parameter 8 = .ok (.if_icmp .lt 25, 3) := by decide +kernel
theorem dX12_parameter_11 : decode cX12_parameter 11 = .ok (.aload_n 0, 1) := by decide +kernel
theorem dX12_parameter_12 : decode cX12_parameter 12 = .ok (.invokevirtual 230, 3) := by decide +kernel
theorem dX12_parameter_15 : decode cX12_parameter 15 = .ok (.ifCond .ne 18, 3) := by decide +kernel
theorem dX12_parameter_18 : decode cX12_parameter 18 = .ok (.aload_n 0, 1) := by decide +kernel
theorem dX12_parameter_19 : decode cX12_parameter 19 = .ok (.aload_n 0, 1) := by decide +kernel
theorem dX12_parameter_20 : decode cX12_parameter 20 = .ok (.getfield 271, 3) := by decide +kernel
theorem dX12_parameter_23 : decode cX12_parameter 23 = .ok (.aload_n 0, 1) := by decide +kernel
theorem dX12_parameter_24 : decode cX12_parameter 24 = .ok (.getfield 255, 3) := by decide +kernel
theorem dX12_parameter_27 : decode cX12_parameter 27 = .ok (.invokestatic 264, 3) := by decide +kernel
theorem dX12_parameter_30 : decode cX12_parameter 30 = .ok (.putfield 271, 3) := by decide +kernel
theorem dX12_parameter_33 : decode cX12_parameter 33 = .ok (.aload_n 0, 1) := by decide +kernel
theorem dX12_parameter_34 : decode cX12_parameter 34 = .ok (.iload_n 2, 1) := by decide +kernel
theorem dX12_parameter_35 : decode cX12_parameter 35 = .ok (.aload_n 0, 1) := by decide +kernel
theorem dX12_parameter_36 : decode cX12_parameter 36 = .ok (.getfield 255, 3) := by decide +kernel
theorem dX12_parameter_39 : decode cX12_parameter 39 = .ok (.invokevirtual 305, 3) := by decide +kernel
theorem dX12_parameter_42 : decode cX12_parameter 42 = .ok (.return_, 1) := by decide +kernel
theorem dX12_hearing_0 : decode cX12_hearing 0 = .ok (.sipush 400, 3) := by decide +kernel
theorem dX12_hearing_3 : decode cX12_hearing 3 = .ok (.aload_n 0, 1) := by decide +kernel
theorem dX12_hearing_4 : decode cX12_hearing 4 = .ok (.getfield 70, 3) := by decide +kernel
theorem dX12_hearing_7 : decode cX12_hearing 7 = .ok (.imul, 1) := by decide +kernel
theorem dX12_hearing_8 : decode cX12_hearing 8 = .ok (.aload_n 0, 1) := by decide +kernel
theorem dX12_hearing_9 : decode cX12_hearing 9 = .ok (.getfield 258, 3) := by decide +kernel
theorem dX12_hearing_12 : decode cX12_hearing 12 = .ok (.iadd, 1) := by decide +kernel
theorem dX12_hearing_13 : decode cX12_hearing 13 = .ok (.istore_n 1, 1) := by decide +kernel
theorem dX12_hearing_14 : decode cX12_hearing 14 = .ok (.aload_n 0, 1) := by decide +kernel
theorem dX12_hearing_15 : decode cX12_hearing 15 = .ok (.iconst 0, 1) := by decide +kernel
theorem dX12_hearing_16 : decode cX12_hearing 16 = .ok (.putfield 268, 3) := by decide +kernel
theorem dX12_hearing_19 : decode cX12_hearing 19 = .ok (.aload_n 0, 1) := by decide +kernel
theorem dX12_hearing_20 : decode cX12_hearing 20 = .ok (.iconst 0, 1) := by decide +kernel
theorem dX12_hearing_21 : decode cX12_hearing 21 = .ok (.putfield 277, 3) := by decide +kernel
theorem dX12_hearing_24 : decode cX12_hearing 24 = .ok (.aload_n 0, 1) := by decide +kernel
theorem dX12_hearing_25 : decode cX12_hearing 25 = .ok (.bipush 40, 2) := by decide +kernel
theorem dX12_hearing_27 : decode cX12_hearing 27 = .ok (.invokevirtual 286, 3) := by decide +kernel
theorem dX12_hearing_30 : decode cX12_hearing 30 = .ok (.iconst 0, 1) := by decide +kernel
theorem dX12_hearing_31 : decode cX12_hearing 31 = .ok (.istore_n 2, 1) := by decide +kernel
theorem dX12_hearing_32 : decode cX12_hearing 32 = .ok (.aload_n 0, 1) := by decide +kernel
theorem dX12_hearing_33 : decode cX12_hearing 33 = .ok (.bipush 41, 2) := by decide +kernel
theorem dX12_hearing_35 : decode cX12_hearing 35 = .ok (.invokevirtual 237, 3) := by decide +kernel
theorem dX12_hearing_38 : decode cX12_hearing 38 = .ok (.ifCond .ne 34, 3) := by decide +kernel
theorem dX12_hearing_41 : decode cX12_hearing 41 = .ok (.aload_n 0, 1) := by decide +kernel
theorem dX12_hearing_42 : decode cX12_hearing 42 = .ok (.iconst 0, 1) := by decide +kernel
theorem dX12_hearing_43 : decode cX12_hearing 43 = .ok (.invokevirtual 289, 3) := by decide +kernel
theorem dX12_hearing_46 : decode cX12_hearing 46 = .ok (.iconst 1, 1) := by decide +kernel
theorem dX12_hearing_47 : decode cX12_hearing 47 = .ok (.istore_n 2, 1) := by decide +kernel
theorem dX12_hearing_48 : decode cX12_hearing 48 = .ok (.aload_n 0, 1) := by decide +kernel
theorem dX12_hearing_49 : decode cX12_hearing 49 = .ok (.bipush 44, 2) := by decide +kernel
theorem dX12_hearing_51 : decode cX12_hearing 51 = .ok (.invokevirtual 237, 3) := by decide +kernel
theorem dX12_hearing_54 : decode cX12_hearing 54 = .ok (.ifCond .eq 18, 3) := by decide +kernel
theorem dX12_hearing_57 : decode cX12_hearing 57 = .ok (.aload_n 0, 1) := by decide +kernel
theorem dX12_hearing_58 : decode cX12_hearing 58 = .ok (.invokevirtual 240, 3) := by decide +kernel
theorem dX12_hearing_61 : decode cX12_hearing 61 = .ok (.aload_n 0, 1) := by decide +kernel
theorem dX12_hearing_62 : decode cX12_hearing 62 = .ok (.iload_n 2, 1) := by decide +kernel
theorem dX12_hearing_63 : decode cX12_hearing 63 = .ok (.invokevirtual 289, 3) := by decide +kernel
theorem dX12_hearing_66 : decode cX12_hearing 66 = .ok (.iinc 2 1, 3) := by decide +kernel
theorem dX12_hearing_69 : decode cX12_hearing 69 = .ok (.goto (-21), 3) := by decide +kernel
theorem dX12_hearing_72 : decode cX12_hearing 72 = .ok (.aload_n 0, 1) := by decide +kernel
theorem dX12_hearing_73 : decode cX12_hearing 73 = .ok (.bipush 41, 2) := by decide +kernel
theorem dX12_hearing_75 : decode cX12_hearing 75 = .ok (.invokevirtual 292, 3) := by decide +kernel
theorem dX12_hearing_78 : decode cX12_hearing 78 = .ok (.aload_n 0, 1) := by decide +kernel
theorem dX12_hearing_79 : decode cX12_hearing 79 = .ok (.invokevirtual 230, 3) := by decide +kernel
theorem dX12_hearing_82 : decode cX12_hearing 82 = .ok (.ifCond .eq 4, 3) := by decide +kernel
theorem dX12_hearing_85 : decode cX12_hearing 85 = .ok (.return_, 1) := by decide +kernel
theorem dX12_hearing_86 : decode cX12_hearing 86 = .ok (.aload_n 0, 1) := by decide +kernel
theorem dX12_hearing_87 : decode cX12_hearing 87 = .ok (.getfield 46, 3) := by decide +kernel
theorem dX12_hearing_90 : decode cX12_hearing 90 = .ok (.iload_n 1, 1) := by decide +kernel
theorem dX12_hearing_91 : decode cX12_hearing 91 = .ok (.iload_n 2, 1) := by decide +kernel
theorem dX12_hearing_92 : decode cX12_hearing 92 = .ok (.iastore, 1) := by decide +kernel
theorem dX12_hearing_93 : decode cX12_hearing 93 = .ok (.aload_n 0, 1) := by decide +kernel
theorem dX12_hearing_94 : decode cX12_hearing 94 = .ok (.getfield 43, 3) := by decide +kernel
theorem dX12_hearing_97 : decode cX12_hearing 97 = .ok (.iload_n 1, 1) := by decide +kernel
theorem dX12_hearing_98 : decode cX12_hearing 98 = .ok (.aload_n 0, 1) := by decide +kernel
theorem dX12_hearing_99 : decode cX12_hearing 99 = .ok (.invokevirtual 295, 3) := by decide +kernel
theorem dX12_hearing_102 : decode cX12_hearing 102 = .ok (.iastore, 1) := by decide +kernel
theorem dX12_hearing_103 : decode cX12_hearing 103 = .ok (.aload_n 0, 1) := by decide +kernel
theorem dX12_hearing_104 : decode cX12_hearing 104 = .ok (.invokevirtual 298, 3) := by decide +kernel
theorem dX12_hearing_107 : decode cX12_hearing 107 = .ok (.aload_n 0, 1) := by decide +kernel
theorem dX12_hearing_108 : decode cX12_hearing 108 = .ok (.iconst 1, 1) := by decide +kernel
theorem dX12_hearing_109 : decode cX12_hearing 109 = .ok (.iconst 0, 1) := by decide +kernel
theorem dX12_hearing_110 : decode cX12_hearing 110 = .ok (.iconst 0, 1) := by decide +kernel
theorem dX12_hearing_111 : decode cX12_hearing 111 = .ok (.iconst 0, 1) := by decide +kernel
theorem dX12_hearing_112 : decode cX12_hearing 112 = .ok (.invokevirtual 301, 3) := by decide +kernel
theorem dX12_hearing_115 : decode cX12_hearing 115 = .ok (.istore_n 3, 1) := by decide +kernel
theorem dX12_hearing_116 : decode cX12_hearing 116 = .ok (.aload_n 0, 1) := by decide +kernel
theorem dX12_hearing_117 : decode cX12_hearing 117 = .ok (.bipush 19, 2) := by decide +kernel
theorem dX12_hearing_119 : decode cX12_hearing 119 = .ok (.iconst 0, 1) := by decide +kernel
theorem dX12_hearing_120 : decode cX12_hearing 120 = .ok (.iconst 0, 1) := by decide +kernel
theorem dX12_hearing_121 : decode cX12_hearing 121 = .ok (.iconst 0, 1) := by decide +kernel
theorem dX12_hearing_122 : decode cX12_hearing 122 = .ok (.invokevirtual 301, 3) := by decide +kernel
theorem dX12_hearing_125 : decode cX12_hearing 125 = .ok (.istore_n 3, 1) := by decide +kernel
theorem dX12_hearing_126 : decode cX12_hearing 126 = .ok (.return_, 1) := by decide +kernel
theorem dX12_text_0 : decode cX12_text 0 = .ok (.aload_n 0, 1) := by decide +kernel
theorem dX12_text_1 : decode cX12_text 1 = .ok (.invokevirtual 230, 3) := by decide +kernel
theorem dX12_text_4 : decode cX12_text 4 = .ok (.ifCond .ne 108, 3) := by decide +kernel
theorem dX12_text_7 : decode cX12_text 7 = .ok (.aload_n 0, 1) := by decide +kernel
theorem dX12_text_8 : decode cX12_text 8 = .ok (.getfield 198, 3) := by decide +kernel
theorem dX12_text_11 : decode cX12_text 11 = .ok (.ifCond .eq 101, 3) := by decide +kernel
theorem dX12_text_14 : decode cX12_text 14 = .ok (.aload_n 0, 1) := by decide +kernel
theorem dX12_text_15 : decode cX12_text 15 = .ok (.iconst 0, 1) := by decide +kernel
theorem dX12_text_16 : decode cX12_text 16 = .ok (.invokevirtual 280, 3) := by decide +kernel
theorem dX12_text_19 : decode cX12_text 19 = .ok (.aload_n 0, 1) := by decide +kernel
theorem dX12_text_20 : decode cX12_text 20 = .ok (.iconst 1, 1) := by decide +kernel
theorem dX12_text_21 : decode cX12_text 21 = .ok (.invokevirtual 274, 3) := by decide +kernel
theorem dX12_text_24 : decode cX12_text 24 = .ok (.istore_n 1, 1) := by decide +kernel
theorem dX12_text_25 : decode cX12_text 25 = .ok (.aload_n 0, 1) := by decide +kernel
theorem dX12_text_26 : decode cX12_text 26 = .ok (.invokevirtual 230, 3) := by decide +kernel
theorem dX12_text_29 : decode cX12_text 29 = .ok (.ifCond .eq 4, 3) := by decide +kernel
theorem dX12_text_32 : decode cX12_text 32 = .ok (.return_, 1) := by decide +kernel
theorem dX12_text_33 : decode cX12_text 33 = .ok (.aload_n 0, 1) := by decide +kernel
theorem dX12_text_34 : decode cX12_text 34 = .ok (.getfield 25, 3) := by decide +kernel
theorem dX12_text_37 : decode cX12_text 37 = .ok (.iload_n 1, 1) := by decide +kernel
theorem dX12_text_38 : decode cX12_text 38 = .ok (.iaload, 1) := by decide +kernel
theorem dX12_text_39 : decode cX12_text 39 = .ok (.iconst (-1), 1) := by decide +kernel
theorem dX12_text_40 : decode cX12_text 40 = .ok (.if_icmp .eq 21, 3) := by decide +kernel
theorem dX12_text_43 : decode cX12_text 43 = .ok (.aload_n 0, 1) := by decide +kernel
theorem dX12_text_44 : decode cX12_text 44 = .ok (.aload_n 0, 1) := by decide +kernel
theorem dX12_text_45 : decode cX12_text 45 = .ok (.getfield 261, 3) := by decide +kernel
theorem dX12_text_48 : decode cX12_text 48 = .ok (.aload_n 0, 1) := by decide +kernel
theorem dX12_text_49 : decode cX12_text 49 = .ok (.getfield 255, 3) := by decide +kernel
theorem dX12_text_52 : decode cX12_text 52 = .ok (.invokestatic 264, 3) := by decide +kernel
theorem dX12_text_55 : decode cX12_text 55 = .ok (.putfield 261, 3) := by decide +kernel
theorem dX12_text_58 : decode cX12_text 58 = .ok (.goto 13, 3) := by decide +kernel
theorem dX12_text_61 : decode cX12_text 61 = .ok (.aload_n 0, 1) := by decide +kernel
theorem dX12_text_62 : decode cX12_text 62 = .ok (.getfield 25, 3) := by decide +kernel
theorem dX12_text_65 : decode cX12_text 65 = .ok (.iload_n 1, 1) := by decide +kernel
theorem dX12_text_66 : decode cX12_text 66 = .ok (.aload_n 0, 1) := by decide +kernel
theorem dX12_text_67 : decode cX12_text 67 = .ok (.getfield 258, 3) := by decide +kernel
theorem dX12_text_70 : decode cX12_text 70 = .ok (.iastore, 1) := by decide +kernel
theorem dX12_text_71 : decode cX12_text 71 = .ok (.aload_n 0, 1) := by decide +kernel
theorem dX12_text_72 : decode cX12_text 72 = .ok (.getfield 258, 3) := by decide +kernel
theorem dX12_text_75 : decode cX12_text 75 = .ok (.bipush 16, 2) := by decide +kernel
theorem dX12_text_77 : decode cX12_text 77 = .ok (.if_icmp .lt 18, 3) := by decide +kernel
theorem dX12_text_80 : decode cX12_text 80 = .ok (.aload_n 0, 1) := by decide +kernel
theorem dX12_text_81 : decode cX12_text 81 = .ok (.aload_n 0, 1) := by decide +kernel
theorem dX12_text_82 : decode cX12_text 82 = .ok (.getfield 271, 3) := by decide +kernel
theorem dX12_text_85 : decode cX12_text 85 = .ok (.aload_n 0, 1) := by decide +kernel
theorem dX12_text_86 : decode cX12_text 86 = .ok (.getfield 255, 3) := by decide +kernel
theorem dX12_text_89 : decode cX12_text 89 = .ok (.invokestatic 264, 3) := by decide +kernel
theorem dX12_text_92 : decode cX12_text 92 = .ok (.putfield 271, 3) := by decide +kernel
theorem dX12_text_95 : decode cX12_text 95 = .ok (.aload_n 0, 1) := by decide +kernel
theorem dX12_text_96 : decode cX12_text 96 = .ok (.invokevirtual 283, 3) := by decide +kernel
theorem dX12_text_99 : decode cX12_text 99 = .ok (.aload_n 0, 1) := by decide +kernel
theorem dX12_text_100 : decode cX12_text 100 = .ok (.dup, 1) := by decide +kernel
theorem dX12_text_101 : decode cX12_text 101 = .ok (.getfield 258, 3) := by decide +kernel
theorem dX12_text_104 : decode cX12_text 104 = .ok (.iconst 1, 1) := by decide +kernel
theorem dX12_text_105 : decode cX12_text 105 = .ok (.iadd, 1) := by decide +kernel
theorem dX12_text_106 : decode cX12_text 106 = .ok (.putfield 258, 3) := by decide +kernel
theorem dX12_text_109 : decode cX12_text 109 = .ok (.goto (-109), 3) := by decide +kernel
theorem dX12_text_112 : decode cX12_text 112 = .ok (.return_, 1) := by decide +kernel
theorem dX12_productBehind_0 : decode cX12_productBehind 0 = .ok (.aload_n 0, 1) := by decide +kernel
theorem dX12_productBehind_1 : decode cX12_productBehind 1 = .ok (.bipush 42, 2) := by decide +kernel
theorem dX12_productBehind_3 : decode cX12_productBehind 3 = .ok (.invokevirtual 237, 3) := by decide +kernel
theorem dX12_productBehind_6 : decode cX12_productBehind 6 = .ok (.ifCond .ne 21, 3) := by decide +kernel
theorem dX12_productBehind_9 : decode cX12_productBehind 9 = .ok (.aload_n 0, 1) := by decide +kernel
theorem dX12_productBehind_10 : decode cX12_productBehind 10 = .ok (.bipush 47, 2) := by decide +kernel
theorem dX12_productBehind_12 : decode cX12_productBehind 12 = .ok (.invokevirtual 237, 3) := by decide +kernel
theorem dX12_productBehind_15 : decode cX12_productBehind 15 = .ok (.ifCond .ne 12, 3) := by decide +kernel
theorem dX12_productBehind_18 : decode cX12_productBehind 18 = .ok (.aload_n 0, 1) := by decide +kernel
theorem dX12_productBehind_19 : decode cX12_productBehind 19 = .ok (.bipush 37, 2) := by decide +kernel
theorem dX12_productBehind_21 : decode cX12_productBehind 21 = .ok (.invokevirtual 237, 3) := by decide +kernel
theorem dX12_productBehind_24 : decode cX12_productBehind 24 = .ok (.ifCond .eq 29, 3) := by decide +kernel
theorem dX12_productBehind_27 : decode cX12_productBehind 27 = .ok (.aload_n 0, 1) := by decide +kernel
theorem dX12_productBehind_28 : decode cX12_productBehind 28 = .ok (.getfield 207, 3) := by decide +kernel
theorem dX12_productBehind_31 : decode cX12_productBehind 31 = .ok (.istore_n 2, 1) := by decide +kernel
theorem dX12_productBehind_32 : decode cX12_productBehind 32 = .ok (.aload_n 0, 1) := by decide +kernel
theorem dX12_productBehind_33 : decode cX12_productBehind 33 = .ok (.invokevirtual 240, 3) := by decide +kernel
theorem dX12_productBehind_36 : decode cX12_productBehind 36 = .ok (.aload_n 0, 1) := by decide +kernel
theorem dX12_productBehind_37 : decode cX12_productBehind 37 = .ok (.invokevirtual 377, 3) := by decide +kernel
theorem dX12_productBehind_40 : decode cX12_productBehind 40 = .ok (.aload_n 0, 1) := by decide +kernel
theorem dX12_productBehind_41 : decode cX12_productBehind 41 = .ok (.bipush 6, 2) := by decide +kernel
theorem dX12_productBehind_43 : decode cX12_productBehind 43 = .ok (.iload_n 2, 1) := by decide +kernel
theorem dX12_productBehind_44 : decode cX12_productBehind 44 = .ok (.iconst 0, 1) := by decide +kernel
theorem dX12_productBehind_45 : decode cX12_productBehind 45 = .ok (.iconst 0, 1) := by decide +kernel
theorem dX12_productBehind_46 : decode cX12_productBehind 46 = .ok (.invokevirtual 301, 3) := by decide +kernel
theorem dX12_productBehind_49 : decode cX12_productBehind 49 = .ok (.istore_n 1, 1) := by decide +kernel
theorem dX12_productBehind_50 : decode cX12_productBehind 50 = .ok (.goto (-50), 3) := by decide +kernel
theorem dX12_productBehind_53 : decode cX12_productBehind 53 = .ok (.return_, 1) := by decide +kernel
theorem dX12_product_0 : decode cX12_product 0 = .ok (.aload_n 0, 1) := by decide +kernel
theorem dX12_product_1 : decode cX12_product 1 = .ok (.invokevirtual 377, 3) := by decide +kernel
theorem dX12_product_4 : decode cX12_product 4 = .ok (.aload_n 0, 1) := by decide +kernel
theorem dX12_product_5 : decode cX12_product 5 = .ok (.invokevirtual 368, 3) := by decide +kernel
theorem dX12_product_8 : decode cX12_product 8 = .ok (.return_, 1) := by decide +kernel
theorem dX12_sumBehind_0 : decode cX12_sumBehind 0 = .ok (.aload_n 0, 1) := by decide +kernel
theorem dX12_sumBehind_1 : decode cX12_sumBehind 1 = .ok (.bipush 43, 2) := by decide +kernel
theorem dX12_sumBehind_3 : decode cX12_sumBehind 3 = .ok (.invokevirtual 237, 3) := by decide +kernel
theorem dX12_sumBehind_6 : decode cX12_sumBehind 6 = .ok (.ifCond .ne 12, 3) := by decide +kernel
theorem dX12_sumBehind_9 : decode cX12_sumBehind 9 = .ok (.aload_n 0, 1) := by decide +kernel
theorem dX12_sumBehind_10 : decode cX12_sumBehind 10 = .ok (.bipush 45, 2) := by decide +kernel
theorem dX12_sumBehind_12 : decode cX12_sumBehind 12 = .ok (.invokevirtual 237, 3) := by decide +kernel
theorem dX12_sumBehind_15 : decode cX12_sumBehind 15 = .ok (.ifCond .eq 29, 3) := by decide +kernel
theorem dX12_sumBehind_18 : decode cX12_sumBehind 18 = .ok (.aload_n 0, 1) := by decide +kernel
theorem dX12_sumBehind_19 : decode cX12_sumBehind 19 = .ok (.getfield 207, 3) := by decide +kernel
theorem dX12_sumBehind_22 : decode cX12_sumBehind 22 = .ok (.istore_n 2, 1) := by decide +kernel
theorem dX12_sumBehind_23 : decode cX12_sumBehind 23 = .ok (.aload_n 0, 1) := by decide +kernel
theorem dX12_sumBehind_24 : decode cX12_sumBehind 24 = .ok (.invokevirtual 240, 3) := by decide +kernel
theorem dX12_sumBehind_27 : decode cX12_sumBehind 27 = .ok (.aload_n 0, 1) := by decide +kernel
theorem dX12_sumBehind_28 : decode cX12_sumBehind 28 = .ok (.invokevirtual 374, 3) := by decide +kernel
theorem dX12_sumBehind_31 : decode cX12_sumBehind 31 = .ok (.aload_n 0, 1) := by decide +kernel
theorem dX12_sumBehind_32 : decode cX12_sumBehind 32 = .ok (.bipush 6, 2) := by decide +kernel
theorem dX12_sumBehind_34 : decode cX12_sumBehind 34 = .ok (.iload_n 2, 1) := by decide +kernel
theorem dX12_sumBehind_35 : decode cX12_sumBehind 35 = .ok (.iconst 0, 1) := by decide +kernel
theorem dX12_sumBehind_36 : decode cX12_sumBehind 36 = .ok (.iconst 0, 1) := by decide +kernel
theorem dX12_sumBehind_37 : decode cX12_sumBehind 37 = .ok (.invokevirtual 301, 3) := by decide +kernel
theorem dX12_sumBehind_40 : decode cX12_sumBehind 40 = .ok (.istore_n 1, 1) := by decide +kernel
theorem dX12_sumBehind_41 : decode cX12_sumBehind 41 = .ok (.goto (-41), 3) := by decide +kernel
theorem dX12_sumBehind_44 : decode cX12_sumBehind 44 = .ok (.return_, 1) := by decide +kernel
theorem dX12_sum_0 : decode cX12_sum 0 = .ok (.aload_n 0, 1) := by decide +kernel
theorem dX12_sum_1 : decode cX12_sum 1 = .ok (.invokevirtual 374, 3) := by decide +kernel
theorem dX12_sum_4 : decode cX12_sum 4 = .ok (.aload_n 0, 1) := by decide +kernel
theorem dX12_sum_5 : decode cX12_sum 5 = .ok (.invokevirtual 371, 3) := by decide +kernel
theorem dX12_sum_8 : decode cX12_sum 8 = .ok (.return_, 1) := by decide +kernel
theorem dX12_compared_0 : decode cX12_compared 0 = .ok (.aload_n 0, 1) := by decide +kernel
theorem dX12_compared_1 : decode cX12_compared 1 = .ok (.bipush 60, 2) := by decide +kernel
theorem dX12_compared_3 : decode cX12_compared 3 = .ok (.invokevirtual 237, 3) := by decide +kernel
theorem dX12_compared_6 : decode cX12_compared 6 = .ok (.ifCond .ne 24, 3) := by decide +kernel
theorem dX12_compared_9 : decode cX12_compared 9 = .ok (.aload_n 0, 1) := by decide +kernel
theorem dX12_compared_10 : decode cX12_compared 10 = .ok (.sipush 300, 3) := by decide +kernel
theorem dX12_compared_13 : decode cX12_compared 13 = .ok (.invokevirtual 237, 3) := by decide +kernel
theorem dX12_compared_16 : decode cX12_compared 16 = .ok (.ifCond .ne 14, 3) := by decide +kernel
theorem dX12_compared_19 : decode cX12_compared 19 = .ok (.aload_n 0, 1) := by decide +kernel
theorem dX12_compared_20 : decode cX12_compared 20 = .ok (.sipush 301, 3) := by decide +kernel
theorem dX12_compared_23 : decode cX12_compared 23 = .ok (.invokevirtual 237, 3) := by decide +kernel
theorem dX12_compared_26 : decode cX12_compared 26 = .ok (.ifCond .ne 4, 3) := by decide +kernel
theorem dX12_compared_29 : decode cX12_compared 29 = .ok (.return_, 1) := by decide +kernel
theorem dX12_compared_30 : decode cX12_compared 30 = .ok (.aload_n 0, 1) := by decide +kernel
theorem dX12_compared_31 : decode cX12_compared 31 = .ok (.getfield 207, 3) := by decide +kernel
theorem dX12_compared_34 : decode cX12_compared 34 = .ok (.istore_n 2, 1) := by decide +kernel
theorem dX12_compared_35 : decode cX12_compared 35 = .ok (.aload_n 0, 1) := by decide +kernel
theorem dX12_compared_36 : decode cX12_compared 36 = .ok (.invokevirtual 240, 3) := by decide +kernel
theorem dX12_compared_39 : decode cX12_compared 39 = .ok (.aload_n 0, 1) := by decide +kernel
theorem dX12_compared_40 : decode cX12_compared 40 = .ok (.invokevirtual 362, 3) := by decide +kernel
theorem dX12_compared_43 : decode cX12_compared 43 = .ok (.aload_n 0, 1) := by decide +kernel
theorem dX12_compared_44 : decode cX12_compared 44 = .ok (.bipush 6, 2) := by decide +kernel
theorem dX12_compared_46 : decode cX12_compared 46 = .ok (.iload_n 2, 1) := by decide +kernel
theorem dX12_compared_47 : decode cX12_compared 47 = .ok (.iconst 0, 1) := by decide +kernel
theorem dX12_compared_48 : decode cX12_compared 48 = .ok (.iconst 0, 1) := by decide +kernel
theorem dX12_compared_49 : decode cX12_compared 49 = .ok (.invokevirtual 301, 3) := by decide +kernel
theorem dX12_compared_52 : decode cX12_compared 52 = .ok (.istore_n 1, 1) := by decide +kernel
theorem dX12_compared_53 : decode cX12_compared 53 = .ok (.return_, 1) := by decide +kernel
theorem dX12_whole_0 : decode cX12_whole 0 = .ok (.aload_n 0, 1) := by decide +kernel
theorem dX12_whole_1 : decode cX12_whole 1 = .ok (.invokevirtual 362, 3) := by decide +kernel
theorem dX12_whole_4 : decode cX12_whole 4 = .ok (.aload_n 0, 1) := by decide +kernel
theorem dX12_whole_5 : decode cX12_whole 5 = .ok (.invokevirtual 365, 3) := by decide +kernel
theorem dX12_whole_8 : decode cX12_whole 8 = .ok (.return_, 1) := by decide +kernel
theorem dX12_let_0 : decode cX12_let 0 = .ok (.aload_n 0, 1) := by decide +kernel
theorem dX12_let_1 : decode cX12_let 1 = .ok (.invokevirtual 240, 3) := by decide +kernel
theorem dX12_let_4 : decode cX12_let 4 = .ok (.aload_n 0, 1) := by decide +kernel
theorem dX12_let_5 : decode cX12_let 5 = .ok (.iconst 1, 1) := by decide +kernel
theorem dX12_let_6 : decode cX12_let 6 = .ok (.invokevirtual 274, 3) := by decide +kernel
theorem dX12_let_9 : decode cX12_let 9 = .ok (.istore_n 1, 1) := by decide +kernel
theorem dX12_let_10 : decode cX12_let 10 = .ok (.aload_n 0, 1) := by decide +kernel
theorem dX12_let_11 : decode cX12_let 11 = .ok (.getfield 255, 3) := by decide +kernel
theorem dX12_let_14 : decode cX12_let 14 = .ok (.istore_n 2, 1) := by decide +kernel
theorem dX12_let_15 : decode cX12_let 15 = .ok (.aload_n 0, 1) := by decide +kernel
theorem dX12_let_16 : decode cX12_let 16 = .ok (.bipush 61, 2) := by decide +kernel
theorem dX12_let_18 : decode cX12_let 18 = .ok (.invokevirtual 252, 3) := by decide +kernel
theorem dX12_let_21 : decode cX12_let 21 = .ok (.aload_n 0, 1) := by decide +kernel
theorem dX12_let_22 : decode cX12_let 22 = .ok (.invokevirtual 315, 3) := by decide +kernel
theorem dX12_let_25 : decode cX12_let 25 = .ok (.aload_n 0, 1) := by decide +kernel
theorem dX12_let_26 : decode cX12_let 26 = .ok (.bipush 59, 2) := by decide +kernel
theorem dX12_let_28 : decode cX12_let 28 = .ok (.invokevirtual 252, 3) := by decide +kernel
theorem dX12_let_31 : decode cX12_let 31 = .ok (.aload_n 0, 1) := by decide +kernel
theorem dX12_let_32 : decode cX12_let 32 = .ok (.iload_n 1, 1) := by decide +kernel
theorem dX12_let_33 : decode cX12_let 33 = .ok (.iload_n 2, 1) := by decide +kernel
theorem dX12_let_34 : decode cX12_let 34 = .ok (.invokevirtual 305, 3) := by decide +kernel
theorem dX12_let_37 : decode cX12_let 37 = .ok (.aload_n 0, 1) := by decide +kernel
theorem dX12_let_38 : decode cX12_let 38 = .ok (.invokevirtual 230, 3) := by decide +kernel
theorem dX12_let_41 : decode cX12_let 41 = .ok (.ifCond .eq 4, 3) := by decide +kernel
theorem dX12_let_44 : decode cX12_let 44 = .ok (.return_, 1) := by decide +kernel
theorem dX12_let_45 : decode cX12_let 45 = .ok (.aload_n 0, 1) := by decide +kernel
theorem dX12_let_46 : decode cX12_let 46 = .ok (.iconst 3, 1) := by decide +kernel
theorem dX12_let_47 : decode cX12_let 47 = .ok (.aload_n 0, 1) := by decide +kernel
theorem dX12_let_48 : decode cX12_let 48 = .ok (.getfield 22, 3) := by decide +kernel
theorem dX12_let_51 : decode cX12_let 51 = .ok (.iload_n 1, 1) := by decide +kernel
theorem dX12_let_52 : decode cX12_let 52 = .ok (.iaload, 1) := by decide +kernel
theorem dX12_let_53 : decode cX12_let 53 = .ok (.iconst 0, 1) := by decide +kernel
theorem dX12_let_54 : decode cX12_let 54 = .ok (.iconst 0, 1) := by decide +kernel
theorem dX12_let_55 : decode cX12_let 55 = .ok (.invokevirtual 301, 3) := by decide +kernel
theorem dX12_let_58 : decode cX12_let 58 = .ok (.istore_n 3, 1) := by decide +kernel
theorem dX12_let_59 : decode cX12_let 59 = .ok (.return_, 1) := by decide +kernel
theorem dX12_made_0 : decode cX12_made 0 = .ok (.aload_n 0, 1) := by decide +kernel
theorem dX12_made_1 : decode cX12_made 1 = .ok (.getfield 207, 3) := by decide +kernel
theorem dX12_made_4 : decode cX12_made 4 = .ok (.istore_n 2, 1) := by decide +kernel
theorem dX12_made_5 : decode cX12_made 5 = .ok (.aload_n 0, 1) := by decide +kernel
theorem dX12_made_6 : decode cX12_made 6 = .ok (.getfield 182, 3) := by decide +kernel
theorem dX12_made_9 : decode cX12_made 9 = .ok (.istore_n 3, 1) := by decide +kernel
theorem dX12_made_10 : decode cX12_made 10 = .ok (.aload_n 0, 1) := by decide +kernel
theorem dX12_made_11 : decode cX12_made 11 = .ok (.invokevirtual 240, 3) := by decide +kernel
theorem dX12_made_14 : decode cX12_made 14 = .ok (.aload_n 0, 1) := by decide +kernel
theorem dX12_made_15 : decode cX12_made 15 = .ok (.bipush 40, 2) := by decide +kernel
theorem dX12_made_17 : decode cX12_made 17 = .ok (.invokevirtual 286, 3) := by decide +kernel
theorem dX12_made_20 : decode cX12_made 20 = .ok (.aload_n 0, 1) := by decide +kernel
theorem dX12_made_21 : decode cX12_made 21 = .ok (.invokevirtual 315, 3) := by decide +kernel
theorem dX12_made_24 : decode cX12_made 24 = .ok (.iload_n 2, 1) := by decide +kernel
theorem dX12_made_25 : decode cX12_made 25 = .ok (.iconst 2, 1) := by decide +kernel
theorem dX12_made_26 : decode cX12_made 26 = .ok (.if_icmp .ne 23, 3) := by decide +kernel
theorem dX12_made_29 : decode cX12_made 29 = .ok (.aload_n 0, 1) := by decide +kernel
theorem dX12_made_30 : decode cX12_made 30 = .ok (.bipush 44, 2) := by decide +kernel
theorem dX12_made_32 : decode cX12_made 32 = .ok (.invokevirtual 237, 3) := by decide +kernel
theorem dX12_made_35 : decode cX12_made 35 = .ok (.ifCond .eq 14, 3) := by decide +kernel
theorem dX12_made_38 : decode cX12_made 38 = .ok (.aload_n 0, 1) := by decide +kernel
theorem dX12_made_39 : decode cX12_made 39 = .ok (.invokevirtual 240, 3) := by decide +kernel
theorem dX12_made_42 : decode cX12_made 42 = .ok (.aload_n 0, 1) := by decide +kernel
theorem dX12_made_43 : decode cX12_made 43 = .ok (.invokevirtual 315, 3) := by decide +kernel
theorem dX12_made_46 : decode cX12_made 46 = .ok (.goto 13, 3) := by decide +kernel
theorem dX12_made_49 : decode cX12_made 49 = .ok (.aload_n 0, 1) := by decide +kernel
theorem dX12_made_50 : decode cX12_made 50 = .ok (.iconst 1, 1) := by decide +kernel
theorem dX12_made_51 : decode cX12_made 51 = .ok (.iconst 0, 1) := by decide +kernel
theorem dX12_made_52 : decode cX12_made 52 = .ok (.iconst 0, 1) := by decide +kernel
theorem dX12_made_53 : decode cX12_made 53 = .ok (.iconst 0, 1) := by decide +kernel
theorem dX12_made_54 : decode cX12_made 54 = .ok (.invokevirtual 301, 3) := by decide +kernel
theorem dX12_made_57 : decode cX12_made 57 = .ok (.istore 4, 2) := by decide +kernel
theorem dX12_made_59 : decode cX12_made 59 = .ok (.aload_n 0, 1) := by decide +kernel
theorem dX12_made_60 : decode cX12_made 60 = .ok (.bipush 41, 2) := by decide +kernel
theorem dX12_made_62 : decode cX12_made 62 = .ok (.invokevirtual 292, 3) := by decide +kernel
theorem dX12_made_65 : decode cX12_made 65 = .ok (.iconst (-1), 1) := by decide +kernel
theorem dX12_made_66 : decode cX12_made 66 = .ok (.istore 5, 2) := by decide +kernel
theorem dX12_made_68 : decode cX12_made 68 = .ok (.aload_n 0, 1) := by decide +kernel
theorem dX12_made_69 : decode cX12_made 69 = .ok (.iconst 5, 1) := by decide +kernel
theorem dX12_made_70 : decode cX12_made 70 = .ok (.invokevirtual 246, 3) := by decide +kernel
theorem dX12_made_73 : decode cX12_made 73 = .ok (.ifCond .eq 32, 3) := by decide +kernel
theorem dX12_made_76 : decode cX12_made 76 = .ok (.aload_n 0, 1) := by decide +kernel
theorem dX12_made_77 : decode cX12_made 77 = .ok (.invokevirtual 240, 3) := by decide +kernel
theorem dX12_made_80 : decode cX12_made 80 = .ok (.bipush (-2), 2) := by decide +kernel
theorem dX12_made_82 : decode cX12_made 82 = .ok (.istore 5, 2) := by decide +kernel
theorem dX12_made_84 : decode cX12_made 84 = .ok (.aload_n 0, 1) := by decide +kernel
theorem dX12_made_85 : decode cX12_made 85 = .ok (.iconst 3, 1) := by decide +kernel
theorem dX12_made_86 : decode cX12_made 86 = .ok (.invokevirtual 246, 3) := by decide +kernel
theorem dX12_made_89 : decode cX12_made 89 = .ok (.ifCond .eq 10, 3) := by decide +kernel
theorem dX12_made_92 : decode cX12_made 92 = .ok (.aload_n 0, 1) := by decide +kernel
theorem dX12_made_93 : decode cX12_made 93 = .ok (.invokevirtual 240, 3) := by decide +kernel
theorem dX12_made_96 : decode cX12_made 96 = .ok (.goto 9, 3) := by decide +kernel
theorem dX12_made_99 : decode cX12_made 99 = .ok (.aload_n 0, 1) := by decide +kernel
theorem dX12_made_100 : decode cX12_made 100 = .ok (.invokevirtual 324, 3) := by decide +kernel
theorem dX12_made_103 : decode cX12_made 103 = .ok (.istore 5, 2) := by decide +kernel
theorem dX12_made_105 : decode cX12_made 105 = .ok (.aload_n 0, 1) := by decide +kernel
theorem dX12_made_106 : decode cX12_made 106 = .ok (.bipush 13, 2) := by decide +kernel
theorem dX12_made_108 : decode cX12_made 108 = .ok (.iload_n 1, 1) := by decide +kernel
theorem dX12_made_109 : decode cX12_made 109 = .ok (.iload_n 2, 1) := by decide +kernel
theorem dX12_made_110 : decode cX12_made 110 = .ok (.iload 5, 2) := by decide +kernel
theorem dX12_made_112 : decode cX12_made 112 = .ok (.invokevirtual 301, 3) := by decide +kernel
theorem dX12_made_115 : decode cX12_made 115 = .ok (.istore 4, 2) := by decide +kernel
theorem dX12_made_117 : decode cX12_made 117 = .ok (.aload_n 0, 1) := by decide +kernel
theorem dX12_made_118 : decode cX12_made 118 = .ok (.getfield 40, 3) := by decide +kernel
theorem dX12_made_121 : decode cX12_made 121 = .ok (.iload 4, 2) := by decide +kernel
theorem dX12_made_123 : decode cX12_made 123 = .ok (.iload_n 3, 1) := by decide +kernel
theorem dX12_made_124 : decode cX12_made 124 = .ok (.iastore, 1) := by decide +kernel
theorem dX12_made_125 : decode cX12_made 125 = .ok (.return_, 1) := by decide +kernel
theorem dX12_hold_0 : decode cX12_hold 0 = .ok (.aload_n 0, 1) := by decide +kernel
theorem dX12_hold_1 : decode cX12_hold 1 = .ok (.invokevirtual 240, 3) := by decide +kernel
theorem dX12_hold_4 : decode cX12_hold 4 = .ok (.aload_n 0, 1) := by decide +kernel
theorem dX12_hold_5 : decode cX12_hold 5 = .ok (.invokevirtual 324, 3) := by decide +kernel
theorem dX12_hold_8 : decode cX12_hold 8 = .ok (.istore_n 1, 1) := by decide +kernel
theorem dX12_hold_9 : decode cX12_hold 9 = .ok (.aload_n 0, 1) := by decide +kernel
theorem dX12_hold_10 : decode cX12_hold 10 = .ok (.bipush 61, 2) := by decide +kernel
theorem dX12_hold_12 : decode cX12_hold 12 = .ok (.invokevirtual 252, 3) := by decide +kernel
theorem dX12_hold_15 : decode cX12_hold 15 = .ok (.aload_n 0, 1) := by decide +kernel
theorem dX12_hold_16 : decode cX12_hold 16 = .ok (.iconst 3, 1) := by decide +kernel
theorem dX12_hold_17 : decode cX12_hold 17 = .ok (.invokevirtual 246, 3) := by decide +kernel
theorem dX12_hold_20 : decode cX12_hold 20 = .ok (.ifCond .eq 20, 3) := by decide +kernel
theorem dX12_hold_23 : decode cX12_hold 23 = .ok (.aload_n 0, 1) := by decide +kernel
theorem dX12_hold_24 : decode cX12_hold 24 = .ok (.invokevirtual 240, 3) := by decide +kernel
theorem dX12_hold_27 : decode cX12_hold 27 = .ok (.aload_n 0, 1) := by decide +kernel
theorem dX12_hold_28 : decode cX12_hold 28 = .ok (.bipush 11, 2) := by decide +kernel
theorem dX12_hold_30 : decode cX12_hold 30 = .ok (.iload_n 1, 1) := by decide +kernel
theorem dX12_hold_31 : decode cX12_hold 31 = .ok (.iconst 0, 1) := by decide +kernel
theorem dX12_hold_32 : decode cX12_hold 32 = .ok (.iconst 0, 1) := by decide +kernel
theorem dX12_hold_33 : decode cX12_hold 33 = .ok (.invokevirtual 301, 3) := by decide +kernel
theorem dX12_hold_36 : decode cX12_hold 36 = .ok (.istore_n 2, 1) := by decide +kernel
theorem dX12_hold_37 : decode cX12_hold 37 = .ok (.goto 67, 3) := by decide +kernel
theorem dX12_hold_40 : decode cX12_hold 40 = .ok (.aload_n 0, 1) := by decide +kernel
theorem dX12_hold_41 : decode cX12_hold 41 = .ok (.iconst 4, 1) := by decide +kernel
theorem dX12_hold_42 : decode cX12_hold 42 = .ok (.invokevirtual 246, 3) := by decide +kernel
theorem dX12_hold_45 : decode cX12_hold 45 = .ok (.ifCond .eq 23, 3) := by decide +kernel
theorem dX12_hold_48 : decode cX12_hold 48 = .ok (.aload_n 0, 1) := by decide +kernel
theorem dX12_hold_49 : decode cX12_hold 49 = .ok (.invokevirtual 240, 3) := by decide +kernel
theorem dX12_hold_52 : decode cX12_hold 52 = .ok (.aload_n 0, 1) := by decide +kernel
theorem dX12_hold_53 : decode cX12_hold 53 = .ok (.bipush 12, 2) := by decide +kernel
theorem dX12_hold_55 : decode cX12_hold 55 = .ok (.iload_n 1, 1) := by decide +kernel
theorem dX12_hold_56 : decode cX12_hold 56 = .ok (.aload_n 0, 1) := by decide +kernel
theorem dX12_hold_57 : decode cX12_hold 57 = .ok (.invokevirtual 324, 3) := by decide +kernel
theorem dX12_hold_60 : decode cX12_hold 60 = .ok (.iconst 0, 1) := by decide +kernel
theorem dX12_hold_61 : decode cX12_hold 61 = .ok (.invokevirtual 301, 3) := by decide +kernel
theorem dX12_hold_64 : decode cX12_hold 64 = .ok (.istore_n 2, 1) := by decide +kernel
theorem dX12_hold_65 : decode cX12_hold 65 = .ok (.goto 39, 3) := by decide +kernel
theorem dX12_hold_68 : decode cX12_hold 68 = .ok (.aload_n 0, 1) := by decide +kernel
theorem dX12_hold_69 : decode cX12_hold 69 = .ok (.invokevirtual 230, 3) := by decide +kernel
theorem dX12_hold_72 : decode cX12_hold 72 = .ok (.ifCond .ne 19, 3) := by decide +kernel
theorem dX12_hold_75 : decode cX12_hold 75 = .ok (.aload_n 0, 1) := by decide +kernel
theorem dX12_hold_76 : decode cX12_hold 76 = .ok (.getfield 198, 3) := by decide +kernel
theorem dX12_hold_79 : decode cX12_hold 79 = .ok (.iconst 5, 1) := by decide +kernel
theorem dX12_hold_80 : decode cX12_hold 80 = .ok (.if_icmp .ne 11, 3) := by decide +kernel
theorem dX12_hold_83 : decode cX12_hold 83 = .ok (.aload_n 0, 1) := by decide +kernel
theorem dX12_hold_84 : decode cX12_hold 84 = .ok (.iload_n 1, 1) := by decide +kernel
theorem dX12_hold_85 : decode cX12_hold 85 = .ok (.invokevirtual 345, 3) := by decide +kernel
theorem dX12_hold_88 : decode cX12_hold 88 = .ok (.goto 16, 3) := by decide +kernel
theorem dX12_hold_91 : decode cX12_hold 91 = .ok (.aload_n 0, 1) := by decide +kernel
theorem dX12_hold_92 : decode cX12_hold 92 = .ok (.bipush 10, 2) := by decide +kernel
theorem dX12_hold_94 : decode cX12_hold 94 = .ok (.iload_n 1, 1) := by decide +kernel
theorem dX12_hold_95 : decode cX12_hold 95 = .ok (.aload_n 0, 1) := by decide +kernel
theorem dX12_hold_96 : decode cX12_hold 96 = .ok (.invokevirtual 324, 3) := by decide +kernel
theorem dX12_hold_99 : decode cX12_hold 99 = .ok (.iconst 0, 1) := by decide +kernel
theorem dX12_hold_100 : decode cX12_hold 100 = .ok (.invokevirtual 301, 3) := by decide +kernel
theorem dX12_hold_103 : decode cX12_hold 103 = .ok (.istore_n 2, 1) := by decide +kernel
theorem dX12_hold_104 : decode cX12_hold 104 = .ok (.aload_n 0, 1) := by decide +kernel
theorem dX12_hold_105 : decode cX12_hold 105 = .ok (.bipush 59, 2) := by decide +kernel
theorem dX12_hold_107 : decode cX12_hold 107 = .ok (.invokevirtual 252, 3) := by decide +kernel
theorem dX12_hold_110 : decode cX12_hold 110 = .ok (.return_, 1) := by decide +kernel
theorem dX12_join_0 : decode cX12_join 0 = .ok (.aload_n 0, 1) := by decide +kernel
theorem dX12_join_1 : decode cX12_join 1 = .ok (.invokevirtual 240, 3) := by decide +kernel
theorem dX12_join_4 : decode cX12_join 4 = .ok (.aload_n 0, 1) := by decide +kernel
theorem dX12_join_5 : decode cX12_join 5 = .ok (.invokevirtual 324, 3) := by decide +kernel
theorem dX12_join_8 : decode cX12_join 8 = .ok (.istore_n 1, 1) := by decide +kernel
theorem dX12_join_9 : decode cX12_join 9 = .ok (.aload_n 0, 1) := by decide +kernel
theorem dX12_join_10 : decode cX12_join 10 = .ok (.bipush 8, 2) := by decide +kernel
theorem dX12_join_12 : decode cX12_join 12 = .ok (.invokevirtual 280, 3) := by decide +kernel
theorem dX12_join_15 : decode cX12_join 15 = .ok (.iconst (-1), 1) := by decide +kernel
theorem dX12_join_16 : decode cX12_join 16 = .ok (.istore_n 2, 1) := by decide +kernel
theorem dX12_join_17 : decode cX12_join 17 = .ok (.aload_n 0, 1) := by decide +kernel
theorem dX12_join_18 : decode cX12_join 18 = .ok (.iconst 3, 1) := by decide +kernel
theorem dX12_join_19 : decode cX12_join 19 = .ok (.invokevirtual 246, 3) := by decide +kernel
theorem dX12_join_22 : decode cX12_join 22 = .ok (.ifCond .eq 10, 3) := by decide +kernel
theorem dX12_join_25 : decode cX12_join 25 = .ok (.aload_n 0, 1) := by decide +kernel
theorem dX12_join_26 : decode cX12_join 26 = .ok (.invokevirtual 240, 3) := by decide +kernel
theorem dX12_join_29 : decode cX12_join 29 = .ok (.goto 8, 3) := by decide +kernel
theorem dX12_join_32 : decode cX12_join 32 = .ok (.aload_n 0, 1) := by decide +kernel
theorem dX12_join_33 : decode cX12_join 33 = .ok (.invokevirtual 324, 3) := by decide +kernel
theorem dX12_join_36 : decode cX12_join 36 = .ok (.istore_n 2, 1) := by decide +kernel
theorem dX12_join_37 : decode cX12_join 37 = .ok (.aload_n 0, 1) := by decide +kernel
theorem dX12_join_38 : decode cX12_join 38 = .ok (.bipush 59, 2) := by decide +kernel
theorem dX12_join_40 : decode cX12_join 40 = .ok (.invokevirtual 252, 3) := by decide +kernel
theorem dX12_join_43 : decode cX12_join 43 = .ok (.aload_n 0, 1) := by decide +kernel
theorem dX12_join_44 : decode cX12_join 44 = .ok (.bipush 15, 2) := by decide +kernel
theorem dX12_join_46 : decode cX12_join 46 = .ok (.iload_n 1, 1) := by decide +kernel
theorem dX12_join_47 : decode cX12_join 47 = .ok (.iload_n 2, 1) := by decide +kernel
theorem dX12_join_48 : decode cX12_join 48 = .ok (.iconst 0, 1) := by decide +kernel
theorem dX12_join_49 : decode cX12_join 49 = .ok (.invokevirtual 301, 3) := by decide +kernel
theorem dX12_join_52 : decode cX12_join 52 = .ok (.istore_n 3, 1) := by decide +kernel
theorem dX12_join_53 : decode cX12_join 53 = .ok (.return_, 1) := by decide +kernel
theorem dX12_asked_0 : decode cX12_asked 0 = .ok (.aload_n 0, 1) := by decide +kernel
theorem dX12_asked_1 : decode cX12_asked 1 = .ok (.bipush 24, 2) := by decide +kernel
theorem dX12_asked_3 : decode cX12_asked 3 = .ok (.invokevirtual 246, 3) := by decide +kernel
theorem dX12_asked_6 : decode cX12_asked 6 = .ok (.ifCond .eq 24, 3) := by decide +kernel
theorem dX12_asked_9 : decode cX12_asked 9 = .ok (.aload_n 0, 1) := by decide +kernel
theorem dX12_asked_10 : decode cX12_asked 10 = .ok (.invokevirtual 240, 3) := by decide +kernel
theorem dX12_asked_13 : decode cX12_asked 13 = .ok (.aload_n 0, 1) := by decide +kernel
theorem dX12_asked_14 : decode cX12_asked 14 = .ok (.bipush 8, 2) := by decide +kernel
theorem dX12_asked_16 : decode cX12_asked 16 = .ok (.iload_n 1, 1) := by decide +kernel
theorem dX12_asked_17 : decode cX12_asked 17 = .ok (.aload_n 0, 1) := by decide +kernel
theorem dX12_asked_18 : decode cX12_asked 18 = .ok (.iconst 5, 1) := by decide +kernel
theorem dX12_asked_19 : decode cX12_asked 19 = .ok (.invokevirtual 274, 3) := by decide +kernel
theorem dX12_asked_22 : decode cX12_asked 22 = .ok (.iconst 0, 1) := by decide +kernel
theorem dX12_asked_23 : decode cX12_asked 23 = .ok (.invokevirtual 301, 3) := by decide +kernel
theorem dX12_asked_26 : decode cX12_asked 26 = .ok (.istore_n 2, 1) := by decide +kernel
theorem dX12_asked_27 : decode cX12_asked 27 = .ok (.goto 22, 3) := by decide +kernel
theorem dX12_asked_30 : decode cX12_asked 30 = .ok (.aload_n 0, 1) := by decide +kernel
theorem dX12_asked_31 : decode cX12_asked 31 = .ok (.bipush 25, 2) := by decide +kernel
theorem dX12_asked_33 : decode cX12_asked 33 = .ok (.invokevirtual 280, 3) := by decide +kernel
theorem dX12_asked_36 : decode cX12_asked 36 = .ok (.aload_n 0, 1) := by decide +kernel
theorem dX12_asked_37 : decode cX12_asked 37 = .ok (.bipush 9, 2) := by decide +kernel
theorem dX12_asked_39 : decode cX12_asked 39 = .ok (.iload_n 1, 1) := by decide +kernel
theorem dX12_asked_40 : decode cX12_asked 40 = .ok (.aload_n 0, 1) := by decide +kernel
theorem dX12_asked_41 : decode cX12_asked 41 = .ok (.invokevirtual 324, 3) := by decide +kernel
theorem dX12_asked_44 : decode cX12_asked 44 = .ok (.iconst 0, 1) := by decide +kernel
theorem dX12_asked_45 : decode cX12_asked 45 = .ok (.invokevirtual 301, 3) := by decide +kernel
theorem dX12_asked_48 : decode cX12_asked 48 = .ok (.istore_n 2, 1) := by decide +kernel
theorem dX12_asked_49 : decode cX12_asked 49 = .ok (.return_, 1) := by decide +kernel
theorem dX12_wholeBehind_0 : decode cX12_wholeBehind 0 = .ok (.aload_n 0, 1) := by decide +kernel
theorem dX12_wholeBehind_1 : decode cX12_wholeBehind 1 = .ok (.invokevirtual 368, 3) := by decide +kernel
theorem dX12_wholeBehind_4 : decode cX12_wholeBehind 4 = .ok (.aload_n 0, 1) := by decide +kernel
theorem dX12_wholeBehind_5 : decode cX12_wholeBehind 5 = .ok (.invokevirtual 371, 3) := by decide +kernel
theorem dX12_wholeBehind_8 : decode cX12_wholeBehind 8 = .ok (.aload_n 0, 1) := by decide +kernel
theorem dX12_wholeBehind_9 : decode cX12_wholeBehind 9 = .ok (.invokevirtual 365, 3) := by decide +kernel
theorem dX12_wholeBehind_12 : decode cX12_wholeBehind 12 = .ok (.return_, 1) := by decide +kernel
theorem dX12_note_0 : decode cX12_note 0 = .ok (.aload_n 0, 1) := by decide +kernel
theorem dX12_note_1 : decode cX12_note 1 = .ok (.invokevirtual 240, 3) := by decide +kernel
theorem dX12_note_4 : decode cX12_note 4 = .ok (.aload_n 0, 1) := by decide +kernel
theorem dX12_note_5 : decode cX12_note 5 = .ok (.invokevirtual 230, 3) := by decide +kernel
theorem dX12_note_8 : decode cX12_note 8 = .ok (.ifCond .ne 69, 3) := by decide +kernel
theorem dX12_note_11 : decode cX12_note 11 = .ok (.aload_n 0, 1) := by decide +kernel
theorem dX12_note_12 : decode cX12_note 12 = .ok (.getfield 198, 3) := by decide +kernel
theorem dX12_note_15 : decode cX12_note 15 = .ok (.iconst 2, 1) := by decide +kernel
theorem dX12_note_16 : decode cX12_note 16 = .ok (.if_icmp .ne 61, 3) := by decide +kernel
theorem dX12_note_19 : decode cX12_note 19 = .ok (.aload_n 0, 1) := by decide +kernel
theorem dX12_note_20 : decode cX12_note 20 = .ok (.invokevirtual 324, 3) := by decide +kernel
theorem dX12_note_23 : decode cX12_note 23 = .ok (.istore_n 2, 1) := by decide +kernel
theorem dX12_note_24 : decode cX12_note 24 = .ok (.aload_n 0, 1) := by decide +kernel
theorem dX12_note_25 : decode cX12_note 25 = .ok (.bipush 24, 2) := by decide +kernel
theorem dX12_note_27 : decode cX12_note 27 = .ok (.invokevirtual 246, 3) := by decide +kernel
theorem dX12_note_30 : decode cX12_note 30 = .ok (.ifCond .ne 12, 3) := by decide +kernel
theorem dX12_note_33 : decode cX12_note 33 = .ok (.aload_n 0, 1) := by decide +kernel
theorem dX12_note_34 : decode cX12_note 34 = .ok (.bipush 25, 2) := by decide +kernel
theorem dX12_note_36 : decode cX12_note 36 = .ok (.invokevirtual 246, 3) := by decide +kernel
theorem dX12_note_39 : decode cX12_note 39 = .ok (.ifCond .eq 25, 3) := by decide +kernel
theorem dX12_note_42 : decode cX12_note 42 = .ok (.aload_n 0, 1) := by decide +kernel
theorem dX12_note_43 : decode cX12_note 43 = .ok (.iload_n 2, 1) := by decide +kernel
theorem dX12_note_44 : decode cX12_note 44 = .ok (.invokevirtual 347, 3) := by decide +kernel
theorem dX12_note_47 : decode cX12_note 47 = .ok (.aload_n 0, 1) := by decide +kernel
theorem dX12_note_48 : decode cX12_note 48 = .ok (.invokevirtual 350, 3) := by decide +kernel
theorem dX12_note_51 : decode cX12_note 51 = .ok (.aload_n 0, 1) := by decide +kernel
theorem dX12_note_52 : decode cX12_note 52 = .ok (.bipush 16, 2) := by decide +kernel
theorem dX12_note_54 : decode cX12_note 54 = .ok (.iconst 0, 1) := by decide +kernel
theorem dX12_note_55 : decode cX12_note 55 = .ok (.iconst 0, 1) := by decide +kernel
theorem dX12_note_56 : decode cX12_note 56 = .ok (.iconst 0, 1) := by decide +kernel
theorem dX12_note_57 : decode cX12_note 57 = .ok (.invokevirtual 301, 3) := by decide +kernel
theorem dX12_note_60 : decode cX12_note 60 = .ok (.istore_n 1, 1) := by decide +kernel
theorem dX12_note_61 : decode cX12_note 61 = .ok (.goto 13, 3) := by decide +kernel
theorem dX12_note_64 : decode cX12_note 64 = .ok (.aload_n 0, 1) := by decide +kernel
theorem dX12_note_65 : decode cX12_note 65 = .ok (.bipush 17, 2) := by decide +kernel
theorem dX12_note_67 : decode cX12_note 67 = .ok (.iload_n 2, 1) := by decide +kernel
theorem dX12_note_68 : decode cX12_note 68 = .ok (.iconst 0, 1) := by decide +kernel
theorem dX12_note_69 : decode cX12_note 69 = .ok (.iconst 0, 1) := by decide +kernel
theorem dX12_note_70 : decode cX12_note 70 = .ok (.invokevirtual 301, 3) := by decide +kernel
theorem dX12_note_73 : decode cX12_note 73 = .ok (.istore_n 1, 1) := by decide +kernel
theorem dX12_note_74 : decode cX12_note 74 = .ok (.goto 17, 3) := by decide +kernel
theorem dX12_note_77 : decode cX12_note 77 = .ok (.aload_n 0, 1) := by decide +kernel
theorem dX12_note_78 : decode cX12_note 78 = .ok (.invokevirtual 315, 3) := by decide +kernel
theorem dX12_note_81 : decode cX12_note 81 = .ok (.aload_n 0, 1) := by decide +kernel
theorem dX12_note_82 : decode cX12_note 82 = .ok (.bipush 16, 2) := by decide +kernel
theorem dX12_note_84 : decode cX12_note 84 = .ok (.iconst 0, 1) := by decide +kernel
theorem dX12_note_85 : decode cX12_note 85 = .ok (.iconst 0, 1) := by decide +kernel
theorem dX12_note_86 : decode cX12_note 86 = .ok (.iconst 0, 1) := by decide +kernel
theorem dX12_note_87 : decode cX12_note 87 = .ok (.invokevirtual 301, 3) := by decide +kernel
theorem dX12_note_90 : decode cX12_note 90 = .ok (.istore_n 1, 1) := by decide +kernel
theorem dX12_note_91 : decode cX12_note 91 = .ok (.aload_n 0, 1) := by decide +kernel
theorem dX12_note_92 : decode cX12_note 92 = .ok (.bipush 59, 2) := by decide +kernel
theorem dX12_note_94 : decode cX12_note 94 = .ok (.invokevirtual 252, 3) := by decide +kernel
theorem dX12_note_97 : decode cX12_note 97 = .ok (.return_, 1) := by decide +kernel
theorem dX12_hear_0 : decode cX12_hear 0 = .ok (.aload_n 0, 1) := by decide +kernel
theorem dX12_hear_1 : decode cX12_hear 1 = .ok (.invokevirtual 240, 3) := by decide +kernel
theorem dX12_hear_4 : decode cX12_hear 4 = .ok (.aload_n 0, 1) := by decide +kernel
theorem dX12_hear_5 : decode cX12_hear 5 = .ok (.iconst 1, 1) := by decide +kernel
theorem dX12_hear_6 : decode cX12_hear 6 = .ok (.invokevirtual 274, 3) := by decide +kernel
theorem dX12_hear_9 : decode cX12_hear 9 = .ok (.istore_n 1, 1) := by decide +kernel
theorem dX12_hear_10 : decode cX12_hear 10 = .ok (.aload_n 0, 1) := by decide +kernel
theorem dX12_hear_11 : decode cX12_hear 11 = .ok (.getfield 255, 3) := by decide +kernel
theorem dX12_hear_14 : decode cX12_hear 14 = .ok (.istore_n 2, 1) := by decide +kernel
theorem dX12_hear_15 : decode cX12_hear 15 = .ok (.aload_n 0, 1) := by decide +kernel
theorem dX12_hear_16 : decode cX12_hear 16 = .ok (.bipush 40, 2) := by decide +kernel
theorem dX12_hear_18 : decode cX12_hear 18 = .ok (.invokevirtual 286, 3) := by decide +kernel
theorem dX12_hear_21 : decode cX12_hear 21 = .ok (.iconst 0, 1) := by decide +kernel
theorem dX12_hear_22 : decode cX12_hear 22 = .ok (.istore_n 3, 1) := by decide +kernel
theorem dX12_hear_23 : decode cX12_hear 23 = .ok (.aload_n 0, 1) := by decide +kernel
theorem dX12_hear_24 : decode cX12_hear 24 = .ok (.bipush 41, 2) := by decide +kernel
theorem dX12_hear_26 : decode cX12_hear 26 = .ok (.invokevirtual 237, 3) := by decide +kernel
theorem dX12_hear_29 : decode cX12_hear 29 = .ok (.ifCond .ne 32, 3) := by decide +kernel
theorem dX12_hear_32 : decode cX12_hear 32 = .ok (.aload_n 0, 1) := by decide +kernel
theorem dX12_hear_33 : decode cX12_hear 33 = .ok (.invokevirtual 315, 3) := by decide +kernel
theorem dX12_hear_36 : decode cX12_hear 36 = .ok (.iconst 1, 1) := by decide +kernel
theorem dX12_hear_37 : decode cX12_hear 37 = .ok (.istore_n 3, 1) := by decide +kernel
theorem dX12_hear_38 : decode cX12_hear 38 = .ok (.aload_n 0, 1) := by decide +kernel
theorem dX12_hear_39 : decode cX12_hear 39 = .ok (.bipush 44, 2) := by decide +kernel
theorem dX12_hear_41 : decode cX12_hear 41 = .ok (.invokevirtual 237, 3) := by decide +kernel
theorem dX12_hear_44 : decode cX12_hear 44 = .ok (.ifCond .eq 17, 3) := by decide +kernel
theorem dX12_hear_47 : decode cX12_hear 47 = .ok (.aload_n 0, 1) := by decide +kernel
theorem dX12_hear_48 : decode cX12_hear 48 = .ok (.invokevirtual 240, 3) := by decide +kernel
theorem dX12_hear_51 : decode cX12_hear 51 = .ok (.aload_n 0, 1) := by decide +kernel
theorem dX12_hear_52 : decode cX12_hear 52 = .ok (.invokevirtual 315, 3) := by decide +kernel
theorem dX12_hear_55 : decode cX12_hear 55 = .ok (.iinc 3 1, 3) := by decide +kernel
theorem dX12_hear_58 : decode cX12_hear 58 = .ok (.goto (-20), 3) := by decide +kernel
theorem dX12_hear_61 : decode cX12_hear 61 = .ok (.aload_n 0, 1) := by decide +kernel
theorem dX12_hear_62 : decode cX12_hear 62 = .ok (.bipush 41, 2) := by decide +kernel
theorem dX12_hear_64 : decode cX12_hear 64 = .ok (.invokevirtual 292, 3) := by decide +kernel
theorem dX12_hear_67 : decode cX12_hear 67 = .ok (.iconst (-1), 1) := by decide +kernel
theorem dX12_hear_68 : decode cX12_hear 68 = .ok (.istore 4, 2) := by decide +kernel
theorem dX12_hear_70 : decode cX12_hear 70 = .ok (.aload_n 0, 1) := by decide +kernel
theorem dX12_hear_71 : decode cX12_hear 71 = .ok (.bipush 11, 2) := by decide +kernel
theorem dX12_hear_73 : decode cX12_hear 73 = .ok (.invokevirtual 246, 3) := by decide +kernel
theorem dX12_hear_76 : decode cX12_hear 76 = .ok (.ifCond .eq 26, 3) := by decide +kernel
