theorem dX12_joins_7 : decode cX12_joins 7 = .ok (.iconst 0, 1) := by decide +kernel
theorem dX12_joins_8 : decode cX12_joins 8 = .ok (.invokevirtual 476, 3) := by decide +kernel
theorem dX12_joins_11 : decode cX12_joins 11 = .ok (.goto 71, 3) := by decide +kernel
theorem dX12_joins_14 : decode cX12_joins 14 = .ok (.aload_n 0, 1) := by decide +kernel
theorem dX12_joins_15 : decode cX12_joins 15 = .ok (.getfield 107, 3) := by decide +kernel
theorem dX12_joins_18 : decode cX12_joins 18 = .ok (.iload_n 1, 1) := by decide +kernel
theorem dX12_joins_19 : decode cX12_joins 19 = .ok (.baload, 1) := by decide +kernel
theorem dX12_joins_20 : decode cX12_joins 20 = .ok (.ifCond .eq 23, 3) := by decide +kernel
theorem dX12_joins_23 : decode cX12_joins 23 = .ok (.aload_n 0, 1) := by decide +kernel
theorem dX12_joins_24 : decode cX12_joins 24 = .ok (.dup, 1) := by decide +kernel
theorem dX12_joins_25 : decode cX12_joins 25 = .ok (.getfield 497, 3) := by decide +kernel
theorem dX12_joins_28 : decode cX12_joins 28 = .ok (.iconst 1, 1) := by decide +kernel
theorem dX12_joins_29 : decode cX12_joins 29 = .ok (.iadd, 1) := by decide +kernel
theorem dX12_joins_30 : decode cX12_joins 30 = .ok (.putfield 497, 3) := by decide +kernel
theorem dX12_joins_33 : decode cX12_joins 33 = .ok (.aload_n 0, 1) := by decide +kernel
theorem dX12_joins_34 : decode cX12_joins 34 = .ok (.iconst 2, 1) := by decide +kernel
theorem dX12_joins_35 : decode cX12_joins 35 = .ok (.iconst 4, 1) := by decide +kernel
theorem dX12_joins_36 : decode cX12_joins 36 = .ok (.iload_n 1, 1) := by decide +kernel
theorem dX12_joins_37 : decode cX12_joins 37 = .ok (.invokevirtual 476, 3) := by decide +kernel
theorem dX12_joins_40 : decode cX12_joins 40 = .ok (.goto 42, 3) := by decide +kernel
theorem dX12_joins_43 : decode cX12_joins 43 = .ok (.iload_n 1, 1) := by decide +kernel
theorem dX12_joins_44 : decode cX12_joins 44 = .ok (.iload_n 2, 1) := by decide +kernel
theorem dX12_joins_45 : decode cX12_joins 45 = .ok (.if_icmp .ne 23, 3) := by decide +kernel
theorem dX12_joins_48 : decode cX12_joins 48 = .ok (.aload_n 0, 1) := by decide +kernel
theorem dX12_joins_49 : decode cX12_joins 49 = .ok (.dup, 1) := by decide +kernel
theorem dX12_joins_50 : decode cX12_joins 50 = .ok (.getfield 497, 3) := by decide +kernel
theorem dX12_joins_53 : decode cX12_joins 53 = .ok (.iconst 1, 1) := by decide +kernel
theorem dX12_joins_54 : decode cX12_joins 54 = .ok (.iadd, 1) := by decide +kernel
theorem dX12_joins_55 : decode cX12_joins 55 = .ok (.putfield 497, 3) := by decide +kernel
theorem dX12_joins_58 : decode cX12_joins 58 = .ok (.aload_n 0, 1) := by decide +kernel
theorem dX12_joins_59 : decode cX12_joins 59 = .ok (.iconst 5, 1) := by decide +kernel
theorem dX12_joins_60 : decode cX12_joins 60 = .ok (.iconst 5, 1) := by decide +kernel
theorem dX12_joins_61 : decode cX12_joins 61 = .ok (.iload_n 1, 1) := by decide +kernel
theorem dX12_joins_62 : decode cX12_joins 62 = .ok (.invokevirtual 476, 3) := by decide +kernel
theorem dX12_joins_65 : decode cX12_joins 65 = .ok (.goto 17, 3) := by decide +kernel
theorem dX12_joins_68 : decode cX12_joins 68 = .ok (.aload_n 0, 1) := by decide +kernel
theorem dX12_joins_69 : decode cX12_joins 69 = .ok (.getfield 104, 3) := by decide +kernel
theorem dX12_joins_72 : decode cX12_joins 72 = .ok (.iload_n 1, 1) := by decide +kernel
theorem dX12_joins_73 : decode cX12_joins 73 = .ok (.iload_n 2, 1) := by decide +kernel
theorem dX12_joins_74 : decode cX12_joins 74 = .ok (.iastore, 1) := by decide +kernel
theorem dX12_joins_75 : decode cX12_joins 75 = .ok (.aload_n 0, 1) := by decide +kernel
theorem dX12_joins_76 : decode cX12_joins 76 = .ok (.getfield 107, 3) := by decide +kernel
theorem dX12_joins_79 : decode cX12_joins 79 = .ok (.iload_n 1, 1) := by decide +kernel
theorem dX12_joins_80 : decode cX12_joins 80 = .ok (.iconst 1, 1) := by decide +kernel
theorem dX12_joins_81 : decode cX12_joins 81 = .ok (.bastore, 1) := by decide +kernel
theorem dX12_joins_82 : decode cX12_joins 82 = .ok (.return_, 1) := by decide +kernel
theorem dX12_notes_0 : decode cX12_notes 0 = .ok (.aload_n 0, 1) := by decide +kernel
theorem dX12_notes_1 : decode cX12_notes 1 = .ok (.getfield 500, 3) := by decide +kernel
theorem dX12_notes_4 : decode cX12_notes 4 = .ok (.sipush 200, 3) := by decide +kernel
theorem dX12_notes_7 : decode cX12_notes 7 = .ok (.if_icmp .ne 9, 3) := by decide +kernel
theorem dX12_notes_10 : decode cX12_notes 10 = .ok (.aload_n 0, 1) := by decide +kernel
theorem dX12_notes_11 : decode cX12_notes 11 = .ok (.iconst 1, 1) := by decide +kernel
theorem dX12_notes_12 : decode cX12_notes 12 = .ok (.putfield 398, 3) := by decide +kernel
theorem dX12_notes_15 : decode cX12_notes 15 = .ok (.return_, 1) := by decide +kernel
theorem dX12_notes_16 : decode cX12_notes 16 = .ok (.aload_n 0, 1) := by decide +kernel
theorem dX12_notes_17 : decode cX12_notes 17 = .ok (.getfield 147, 3) := by decide +kernel
theorem dX12_notes_20 : decode cX12_notes 20 = .ok (.aload_n 0, 1) := by decide +kernel
theorem dX12_notes_21 : decode cX12_notes 21 = .ok (.getfield 500, 3) := by decide +kernel
theorem dX12_notes_24 : decode cX12_notes 24 = .ok (.iload_n 1, 1) := by decide +kernel
theorem dX12_notes_25 : decode cX12_notes 25 = .ok (.iastore, 1) := by decide +kernel
theorem dX12_notes_26 : decode cX12_notes 26 = .ok (.aload_n 0, 1) := by decide +kernel
theorem dX12_notes_27 : decode cX12_notes 27 = .ok (.dup, 1) := by decide +kernel
theorem dX12_notes_28 : decode cX12_notes 28 = .ok (.getfield 500, 3) := by decide +kernel
theorem dX12_notes_31 : decode cX12_notes 31 = .ok (.iconst 1, 1) := by decide +kernel
theorem dX12_notes_32 : decode cX12_notes 32 = .ok (.iadd, 1) := by decide +kernel
theorem dX12_notes_33 : decode cX12_notes 33 = .ok (.putfield 500, 3) := by decide +kernel
theorem dX12_notes_36 : decode cX12_notes 36 = .ok (.return_, 1) := by decide +kernel
theorem dX12_hears_0 : decode cX12_hears 0 = .ok (.aload_n 0, 1) := by decide +kernel
theorem dX12_hears_1 : decode cX12_hears 1 = .ok (.getfield 409, 3) := by decide +kernel
theorem dX12_hears_4 : decode cX12_hears 4 = .ok (.bipush 12, 2) := by decide +kernel
theorem dX12_hears_6 : decode cX12_hears 6 = .ok (.if_icmp .ne 9, 3) := by decide +kernel
theorem dX12_hears_9 : decode cX12_hears 9 = .ok (.aload_n 0, 1) := by decide +kernel
theorem dX12_hears_10 : decode cX12_hears 10 = .ok (.iconst 1, 1) := by decide +kernel
theorem dX12_hears_11 : decode cX12_hears 11 = .ok (.putfield 398, 3) := by decide +kernel
theorem dX12_hears_14 : decode cX12_hears 14 = .ok (.return_, 1) := by decide +kernel
theorem dX12_hears_15 : decode cX12_hears 15 = .ok (.aload_n 0, 1) := by decide +kernel
theorem dX12_hears_16 : decode cX12_hears 16 = .ok (.dup, 1) := by decide +kernel
theorem dX12_hears_17 : decode cX12_hears 17 = .ok (.getfield 406, 3) := by decide +kernel
theorem dX12_hears_20 : decode cX12_hears 20 = .ok (.iload_n 2, 1) := by decide +kernel
theorem dX12_hears_21 : decode cX12_hears 21 = .ok (.isub, 1) := by decide +kernel
theorem dX12_hears_22 : decode cX12_hears 22 = .ok (.putfield 406, 3) := by decide +kernel
theorem dX12_hears_25 : decode cX12_hears 25 = .ok (.aload_n 0, 1) := by decide +kernel
theorem dX12_hears_26 : decode cX12_hears 26 = .ok (.getfield 117, 3) := by decide +kernel
theorem dX12_hears_29 : decode cX12_hears 29 = .ok (.aload_n 0, 1) := by decide +kernel
theorem dX12_hears_30 : decode cX12_hears 30 = .ok (.getfield 409, 3) := by decide +kernel
theorem dX12_hears_33 : decode cX12_hears 33 = .ok (.aload_n 0, 1) := by decide +kernel
theorem dX12_hears_34 : decode cX12_hears 34 = .ok (.getfield 418, 3) := by decide +kernel
theorem dX12_hears_37 : decode cX12_hears 37 = .ok (.iastore, 1) := by decide +kernel
theorem dX12_hears_38 : decode cX12_hears 38 = .ok (.aload_n 0, 1) := by decide +kernel
theorem dX12_hears_39 : decode cX12_hears 39 = .ok (.getfield 120, 3) := by decide +kernel
theorem dX12_hears_42 : decode cX12_hears 42 = .ok (.aload_n 0, 1) := by decide +kernel
theorem dX12_hears_43 : decode cX12_hears 43 = .ok (.getfield 409, 3) := by decide +kernel
theorem dX12_hears_46 : decode cX12_hears 46 = .ok (.iload_n 3, 1) := by decide +kernel
theorem dX12_hears_47 : decode cX12_hears 47 = .ok (.iastore, 1) := by decide +kernel
theorem dX12_hears_48 : decode cX12_hears 48 = .ok (.aload_n 0, 1) := by decide +kernel
theorem dX12_hears_49 : decode cX12_hears 49 = .ok (.iload_n 1, 1) := by decide +kernel
theorem dX12_hears_50 : decode cX12_hears 50 = .ok (.invokevirtual 427, 3) := by decide +kernel
theorem dX12_hears_53 : decode cX12_hears 53 = .ok (.iconst 0, 1) := by decide +kernel
theorem dX12_hears_54 : decode cX12_hears 54 = .ok (.istore 4, 2) := by decide +kernel
theorem dX12_hears_56 : decode cX12_hears 56 = .ok (.iload 4, 2) := by decide +kernel
theorem dX12_hears_58 : decode cX12_hears 58 = .ok (.iload_n 2, 1) := by decide +kernel
theorem dX12_hears_59 : decode cX12_hears 59 = .ok (.if_icmp .ge 38, 3) := by decide +kernel
theorem dX12_hears_62 : decode cX12_hears 62 = .ok (.aload_n 0, 1) := by decide +kernel
theorem dX12_hears_63 : decode cX12_hears 63 = .ok (.getfield 111, 3) := by decide +kernel
theorem dX12_hears_66 : decode cX12_hears 66 = .ok (.bipush 12, 2) := by decide +kernel
theorem dX12_hears_68 : decode cX12_hears 68 = .ok (.aload_n 0, 1) := by decide +kernel
theorem dX12_hears_69 : decode cX12_hears 69 = .ok (.getfield 409, 3) := by decide +kernel
theorem dX12_hears_72 : decode cX12_hears 72 = .ok (.iconst 1, 1) := by decide +kernel
theorem dX12_hears_73 : decode cX12_hears 73 = .ok (.isub, 1) := by decide +kernel
theorem dX12_hears_74 : decode cX12_hears 74 = .ok (.imul, 1) := by decide +kernel
theorem dX12_hears_75 : decode cX12_hears 75 = .ok (.iload 4, 2) := by decide +kernel
theorem dX12_hears_77 : decode cX12_hears 77 = .ok (.iadd, 1) := by decide +kernel
theorem dX12_hears_78 : decode cX12_hears 78 = .ok (.aload_n 0, 1) := by decide +kernel
theorem dX12_hears_79 : decode cX12_hears 79 = .ok (.getfield 138, 3) := by decide +kernel
theorem dX12_hears_82 : decode cX12_hears 82 = .ok (.aload_n 0, 1) := by decide +kernel
theorem dX12_hears_83 : decode cX12_hears 83 = .ok (.getfield 406, 3) := by decide +kernel
theorem dX12_hears_86 : decode cX12_hears 86 = .ok (.iload 4, 2) := by decide +kernel
theorem dX12_hears_88 : decode cX12_hears 88 = .ok (.iadd, 1) := by decide +kernel
theorem dX12_hears_89 : decode cX12_hears 89 = .ok (.iaload, 1) := by decide +kernel
theorem dX12_hears_90 : decode cX12_hears 90 = .ok (.iastore, 1) := by decide +kernel
theorem dX12_hears_91 : decode cX12_hears 91 = .ok (.iinc 4 1, 3) := by decide +kernel
theorem dX12_hears_94 : decode cX12_hears 94 = .ok (.goto (-38), 3) := by decide +kernel
theorem dX12_hears_97 : decode cX12_hears 97 = .ok (.return_, 1) := by decide +kernel
theorem dX12_rest_0 : decode cX12_rest 0 = .ok (.aload_n 0, 1) := by decide +kernel
theorem dX12_rest_1 : decode cX12_rest 1 = .ok (.getfield 412, 3) := by decide +kernel
theorem dX12_rest_4 : decode cX12_rest 4 = .ok (.aload_n 0, 1) := by decide +kernel
theorem dX12_rest_5 : decode cX12_rest 5 = .ok (.getfield 123, 3) := by decide +kernel
theorem dX12_rest_8 : decode cX12_rest 8 = .ok (.aload_n 0, 1) := by decide +kernel
theorem dX12_rest_9 : decode cX12_rest 9 = .ok (.getfield 409, 3) := by decide +kernel
theorem dX12_rest_12 : decode cX12_rest 12 = .ok (.iconst 1, 1) := by decide +kernel
theorem dX12_rest_13 : decode cX12_rest 13 = .ok (.isub, 1) := by decide +kernel
theorem dX12_rest_14 : decode cX12_rest 14 = .ok (.iaload, 1) := by decide +kernel
theorem dX12_rest_15 : decode cX12_rest 15 = .ok (.if_icmp .le 32, 3) := by decide +kernel
theorem dX12_rest_18 : decode cX12_rest 18 = .ok (.aload_n 0, 1) := by decide +kernel
theorem dX12_rest_19 : decode cX12_rest 19 = .ok (.aload_n 0, 1) := by decide +kernel
theorem dX12_rest_20 : decode cX12_rest 20 = .ok (.getfield 412, 3) := by decide +kernel
theorem dX12_rest_23 : decode cX12_rest 23 = .ok (.iconst 1, 1) := by decide +kernel
theorem dX12_rest_24 : decode cX12_rest 24 = .ok (.isub, 1) := by decide +kernel
theorem dX12_rest_25 : decode cX12_rest 25 = .ok (.iconst 2, 1) := by decide +kernel
theorem dX12_rest_26 : decode cX12_rest 26 = .ok (.iload_n 1, 1) := by decide +kernel
theorem dX12_rest_27 : decode cX12_rest 27 = .ok (.invokevirtual 437, 3) := by decide +kernel
theorem dX12_rest_30 : decode cX12_rest 30 = .ok (.ifCond .eq 4, 3) := by decide +kernel
theorem dX12_rest_33 : decode cX12_rest 33 = .ok (.return_, 1) := by decide +kernel
theorem dX12_rest_34 : decode cX12_rest 34 = .ok (.aload_n 0, 1) := by decide +kernel
theorem dX12_rest_35 : decode cX12_rest 35 = .ok (.dup, 1) := by decide +kernel
theorem dX12_rest_36 : decode cX12_rest 36 = .ok (.getfield 412, 3) := by decide +kernel
theorem dX12_rest_39 : decode cX12_rest 39 = .ok (.iconst 1, 1) := by decide +kernel
theorem dX12_rest_40 : decode cX12_rest 40 = .ok (.isub, 1) := by decide +kernel
theorem dX12_rest_41 : decode cX12_rest 41 = .ok (.putfield 412, 3) := by decide +kernel
theorem dX12_rest_44 : decode cX12_rest 44 = .ok (.goto (-44), 3) := by decide +kernel
theorem dX12_rest_47 : decode cX12_rest 47 = .ok (.aload_n 0, 1) := by decide +kernel
theorem dX12_rest_48 : decode cX12_rest 48 = .ok (.dup, 1) := by decide +kernel
theorem dX12_rest_49 : decode cX12_rest 49 = .ok (.getfield 409, 3) := by decide +kernel
theorem dX12_rest_52 : decode cX12_rest 52 = .ok (.iconst 1, 1) := by decide +kernel
theorem dX12_rest_53 : decode cX12_rest 53 = .ok (.isub, 1) := by decide +kernel
theorem dX12_rest_54 : decode cX12_rest 54 = .ok (.putfield 409, 3) := by decide +kernel
theorem dX12_rest_57 : decode cX12_rest 57 = .ok (.aload_n 0, 1) := by decide +kernel
theorem dX12_rest_58 : decode cX12_rest 58 = .ok (.getfield 409, 3) := by decide +kernel
theorem dX12_rest_61 : decode cX12_rest 61 = .ok (.ifCond .ne 14, 3) := by decide +kernel
theorem dX12_rest_64 : decode cX12_rest 64 = .ok (.aload_n 0, 1) := by decide +kernel
theorem dX12_rest_65 : decode cX12_rest 65 = .ok (.iload_n 1, 1) := by decide +kernel
theorem dX12_rest_66 : decode cX12_rest 66 = .ok (.putfield 441, 3) := by decide +kernel
theorem dX12_rest_69 : decode cX12_rest 69 = .ok (.aload_n 0, 1) := by decide +kernel
theorem dX12_rest_70 : decode cX12_rest 70 = .ok (.iconst 1, 1) := by decide +kernel
theorem dX12_rest_71 : decode cX12_rest 71 = .ok (.putfield 424, 3) := by decide +kernel
theorem dX12_rest_74 : decode cX12_rest 74 = .ok (.return_, 1) := by decide +kernel
theorem dX12_rest_75 : decode cX12_rest 75 = .ok (.aload_n 0, 1) := by decide +kernel
theorem dX12_rest_76 : decode cX12_rest 76 = .ok (.aload_n 0, 1) := by decide +kernel
theorem dX12_rest_77 : decode cX12_rest 77 = .ok (.getfield 117, 3) := by decide +kernel
theorem dX12_rest_80 : decode cX12_rest 80 = .ok (.aload_n 0, 1) := by decide +kernel
theorem dX12_rest_81 : decode cX12_rest 81 = .ok (.getfield 409, 3) := by decide +kernel
theorem dX12_rest_84 : decode cX12_rest 84 = .ok (.iaload, 1) := by decide +kernel
theorem dX12_rest_85 : decode cX12_rest 85 = .ok (.putfield 418, 3) := by decide +kernel
theorem dX12_rest_88 : decode cX12_rest 88 = .ok (.aload_n 0, 1) := by decide +kernel
theorem dX12_rest_89 : decode cX12_rest 89 = .ok (.getfield 120, 3) := by decide +kernel
theorem dX12_rest_92 : decode cX12_rest 92 = .ok (.aload_n 0, 1) := by decide +kernel
theorem dX12_rest_93 : decode cX12_rest 93 = .ok (.getfield 409, 3) := by decide +kernel
theorem dX12_rest_96 : decode cX12_rest 96 = .ok (.iaload, 1) := by decide +kernel
theorem dX12_rest_97 : decode cX12_rest 97 = .ok (.iconst (-1), 1) := by decide +kernel
theorem dX12_rest_98 : decode cX12_rest 98 = .ok (.if_icmp .eq 28, 3) := by decide +kernel
theorem dX12_rest_101 : decode cX12_rest 101 = .ok (.aload_n 0, 1) := by decide +kernel
theorem dX12_rest_102 : decode cX12_rest 102 = .ok (.getfield 111, 3) := by decide +kernel
theorem dX12_rest_105 : decode cX12_rest 105 = .ok (.bipush 12, 2) := by decide +kernel
theorem dX12_rest_107 : decode cX12_rest 107 = .ok (.aload_n 0, 1) := by decide +kernel
theorem dX12_rest_108 : decode cX12_rest 108 = .ok (.getfield 409, 3) := by decide +kernel
theorem dX12_rest_111 : decode cX12_rest 111 = .ok (.iconst 1, 1) := by decide +kernel
theorem dX12_rest_112 : decode cX12_rest 112 = .ok (.isub, 1) := by decide +kernel
theorem dX12_rest_113 : decode cX12_rest 113 = .ok (.imul, 1) := by decide +kernel
theorem dX12_rest_114 : decode cX12_rest 114 = .ok (.aload_n 0, 1) := by decide +kernel
theorem dX12_rest_115 : decode cX12_rest 115 = .ok (.getfield 120, 3) := by decide +kernel
theorem dX12_rest_118 : decode cX12_rest 118 = .ok (.aload_n 0, 1) := by decide +kernel
theorem dX12_rest_119 : decode cX12_rest 119 = .ok (.getfield 409, 3) := by decide +kernel
theorem dX12_rest_122 : decode cX12_rest 122 = .ok (.iaload, 1) := by decide +kernel
theorem dX12_rest_123 : decode cX12_rest 123 = .ok (.iadd, 1) := by decide +kernel
theorem dX12_rest_124 : decode cX12_rest 124 = .ok (.iload_n 1, 1) := by decide +kernel
theorem dX12_rest_125 : decode cX12_rest 125 = .ok (.iastore, 1) := by decide +kernel
theorem dX12_rest_126 : decode cX12_rest 126 = .ok (.return_, 1) := by decide +kernel
theorem dX12_more_0 : decode cX12_more 0 = .ok (.aload_n 0, 1) := by decide +kernel
theorem dX12_more_1 : decode cX12_more 1 = .ok (.getfield 28, 3) := by decide +kernel
theorem dX12_more_4 : decode cX12_more 4 = .ok (.iload_n 1, 1) := by decide +kernel
theorem dX12_more_5 : decode cX12_more 5 = .ok (.iaload, 1) := by decide +kernel
theorem dX12_more_6 : decode cX12_more 6 = .ok (.tableswitch 391 12 23 #[62, 108, 197, 227, 263, 274, 286, 306, 391, 391, 317, 350], 62) := by decide +kernel
theorem dX12_more_68 : decode cX12_more 68 = .ok (.aload_n 0, 1) := by decide +kernel
theorem dX12_more_69 : decode cX12_more 69 = .ok (.aload_n 0, 1) := by decide +kernel
theorem dX12_more_70 : decode cX12_more 70 = .ok (.getfield 34, 3) := by decide +kernel
theorem dX12_more_73 : decode cX12_more 73 = .ok (.iload_n 1, 1) := by decide +kernel
theorem dX12_more_74 : decode cX12_more 74 = .ok (.iaload, 1) := by decide +kernel
theorem dX12_more_75 : decode cX12_more 75 = .ok (.invokevirtual 465, 3) := by decide +kernel
theorem dX12_more_78 : decode cX12_more 78 = .ok (.ifCond .ne 13, 3) := by decide +kernel
theorem dX12_more_81 : decode cX12_more 81 = .ok (.aload_n 0, 1) := by decide +kernel
theorem dX12_more_82 : decode cX12_more 82 = .ok (.iconst 3, 1) := by decide +kernel
theorem dX12_more_83 : decode cX12_more 83 = .ok (.iconst 1, 1) := by decide +kernel
theorem dX12_more_84 : decode cX12_more 84 = .ok (.iconst 0, 1) := by decide +kernel
theorem dX12_more_85 : decode cX12_more 85 = .ok (.invokevirtual 476, 3) := by decide +kernel
theorem dX12_more_88 : decode cX12_more 88 = .ok (.goto 368, 3) := by decide +kernel
theorem dX12_more_91 : decode cX12_more 91 = .ok (.aload_n 0, 1) := by decide +kernel
theorem dX12_more_92 : decode cX12_more 92 = .ok (.iload_n 2, 1) := by decide +kernel
theorem dX12_more_93 : decode cX12_more 93 = .ok (.aload_n 0, 1) := by decide +kernel
theorem dX12_more_94 : decode cX12_more 94 = .ok (.getfield 104, 3) := by decide +kernel
theorem dX12_more_97 : decode cX12_more 97 = .ok (.aload_n 0, 1) := by decide +kernel
theorem dX12_more_98 : decode cX12_more 98 = .ok (.aload_n 0, 1) := by decide +kernel
theorem dX12_more_99 : decode cX12_more 99 = .ok (.getfield 34, 3) := by decide +kernel
theorem dX12_more_102 : decode cX12_more 102 = .ok (.iload_n 1, 1) := by decide +kernel
theorem dX12_more_103 : decode cX12_more 103 = .ok (.iaload, 1) := by decide +kernel
theorem dX12_more_104 : decode cX12_more 104 = .ok (.invokevirtual 465, 3) := by decide +kernel
theorem dX12_more_107 : decode cX12_more 107 = .ok (.iaload, 1) := by decide +kernel
theorem dX12_more_108 : decode cX12_more 108 = .ok (.invokevirtual 471, 3) := by decide +kernel
theorem dX12_more_111 : decode cX12_more 111 = .ok (.goto 345, 3) := by decide +kernel
theorem dX12_more_114 : decode cX12_more 114 = .ok (.aload_n 0, 1) := by decide +kernel
theorem dX12_more_115 : decode cX12_more 115 = .ok (.invokevirtual 459, 3) := by decide +kernel
theorem dX12_more_118 : decode cX12_more 118 = .ok (.istore_n 3, 1) := by decide +kernel
theorem dX12_more_119 : decode cX12_more 119 = .ok (.aload_n 0, 1) := by decide +kernel
theorem dX12_more_120 : decode cX12_more 120 = .ok (.invokevirtual 459, 3) := by decide +kernel
theorem dX12_more_123 : decode cX12_more 123 = .ok (.istore 4, 2) := by decide +kernel
theorem dX12_more_125 : decode cX12_more 125 = .ok (.aload_n 0, 1) := by decide +kernel
theorem dX12_more_126 : decode cX12_more 126 = .ok (.getfield 37, 3) := by decide +kernel
theorem dX12_more_129 : decode cX12_more 129 = .ok (.iload_n 1, 1) := by decide +kernel
theorem dX12_more_130 : decode cX12_more 130 = .ok (.iaload, 1) := by decide +kernel
theorem dX12_more_131 : decode cX12_more 131 = .ok (.ifCond .lt 16, 3) := by decide +kernel
theorem dX12_more_134 : decode cX12_more 134 = .ok (.aload_n 0, 1) := by decide +kernel
theorem dX12_more_135 : decode cX12_more 135 = .ok (.aload_n 0, 1) := by decide +kernel
theorem dX12_more_136 : decode cX12_more 136 = .ok (.getfield 37, 3) := by decide +kernel
theorem dX12_more_139 : decode cX12_more 139 = .ok (.iload_n 1, 1) := by decide +kernel
theorem dX12_more_140 : decode cX12_more 140 = .ok (.iaload, 1) := by decide +kernel
theorem dX12_more_141 : decode cX12_more 141 = .ok (.invokevirtual 465, 3) := by decide +kernel
theorem dX12_more_144 : decode cX12_more 144 = .ok (.goto 4, 3) := by decide +kernel
theorem dX12_more_147 : decode cX12_more 147 = .ok (.iconst 0, 1) := by decide +kernel
theorem dX12_more_148 : decode cX12_more 148 = .ok (.istore 5, 2) := by decide +kernel
theorem dX12_more_150 : decode cX12_more 150 = .ok (.aload_n 0, 1) := by decide +kernel
theorem dX12_more_151 : decode cX12_more 151 = .ok (.aload_n 0, 1) := by decide +kernel
theorem dX12_more_152 : decode cX12_more 152 = .ok (.getfield 34, 3) := by decide +kernel
theorem dX12_more_155 : decode cX12_more 155 = .ok (.iload_n 1, 1) := by decide +kernel
theorem dX12_more_156 : decode cX12_more 156 = .ok (.iaload, 1) := by decide +kernel
theorem dX12_more_157 : decode cX12_more 157 = .ok (.iload 4, 2) := by decide +kernel
theorem dX12_more_159 : decode cX12_more 159 = .ok (.iload_n 3, 1) := by decide +kernel
theorem dX12_more_160 : decode cX12_more 160 = .ok (.aload_n 0, 1) := by decide +kernel
theorem dX12_more_161 : decode cX12_more 161 = .ok (.getfield 40, 3) := by decide +kernel
theorem dX12_more_164 : decode cX12_more 164 = .ok (.iload_n 1, 1) := by decide +kernel
theorem dX12_more_165 : decode cX12_more 165 = .ok (.iaload, 1) := by decide +kernel
theorem dX12_more_166 : decode cX12_more 166 = .ok (.iload 5, 2) := by decide +kernel
theorem dX12_more_168 : decode cX12_more 168 = .ok (.aload_n 0, 1) := by decide +kernel
theorem dX12_more_169 : decode cX12_more 169 = .ok (.getfield 37, 3) := by decide +kernel
theorem dX12_more_172 : decode cX12_more 172 = .ok (.iload_n 1, 1) := by decide +kernel
theorem dX12_more_173 : decode cX12_more 173 = .ok (.iaload, 1) := by decide +kernel
theorem dX12_more_174 : decode cX12_more 174 = .ok (.iconst (-1), 1) := by decide +kernel
theorem dX12_more_175 : decode cX12_more 175 = .ok (.if_icmp .eq 7, 3) := by decide +kernel
theorem dX12_more_178 : decode cX12_more 178 = .ok (.iconst 1, 1) := by decide +kernel
theorem dX12_more_179 : decode cX12_more 179 = .ok (.goto 4, 3) := by decide +kernel
theorem dX12_more_182 : decode cX12_more 182 = .ok (.iconst 0, 1) := by decide +kernel
theorem dX12_more_183 : decode cX12_more 183 = .ok (.invokevirtual 444, 3) := by decide +kernel
theorem dX12_more_186 : decode cX12_more 186 = .ok (.istore 6, 2) := by decide +kernel
theorem dX12_more_188 : decode cX12_more 188 = .ok (.iload 6, 2) := by decide +kernel
theorem dX12_more_190 : decode cX12_more 190 = .ok (.ifCond .le 266, 3) := by decide +kernel
theorem dX12_more_193 : decode cX12_more 193 = .ok (.aload_n 0, 1) := by decide +kernel
theorem dX12_more_194 : decode cX12_more 194 = .ok (.iload_n 2, 1) := by decide +kernel
theorem dX12_more_195 : decode cX12_more 195 = .ok (.iload 6, 2) := by decide +kernel
theorem dX12_more_197 : decode cX12_more 197 = .ok (.invokevirtual 471, 3) := by decide +kernel
theorem dX12_more_200 : decode cX12_more 200 = .ok (.goto 256, 3) := by decide +kernel
theorem dX12_more_203 : decode cX12_more 203 = .ok (.aload_n 0, 1) := by decide +kernel
theorem dX12_more_204 : decode cX12_more 204 = .ok (.iload_n 2, 1) := by decide +kernel
theorem dX12_more_205 : decode cX12_more 205 = .ok (.invokevirtual 465, 3) := by decide +kernel
theorem dX12_more_208 : decode cX12_more 208 = .ok (.ifCond .ne 13, 3) := by decide +kernel
theorem dX12_more_211 : decode cX12_more 211 = .ok (.aload_n 0, 1) := by decide +kernel
theorem dX12_more_212 : decode cX12_more 212 = .ok (.iconst 3, 1) := by decide +kernel
theorem dX12_more_213 : decode cX12_more 213 = .ok (.iconst 1, 1) := by decide +kernel
theorem dX12_more_214 : decode cX12_more 214 = .ok (.iconst 0, 1) := by decide +kernel
theorem dX12_more_215 : decode cX12_more 215 = .ok (.invokevirtual 476, 3) := by decide +kernel
theorem dX12_more_218 : decode cX12_more 218 = .ok (.goto 238, 3) := by decide +kernel
theorem dX12_more_221 : decode cX12_more 221 = .ok (.aload_n 0, 1) := by decide +kernel
theorem dX12_more_222 : decode cX12_more 222 = .ok (.aload_n 0, 1) := by decide +kernel
theorem dX12_more_223 : decode cX12_more 223 = .ok (.iload_n 2, 1) := by decide +kernel
theorem dX12_more_224 : decode cX12_more 224 = .ok (.invokevirtual 465, 3) := by decide +kernel
theorem dX12_more_227 : decode cX12_more 227 = .ok (.invokevirtual 447, 3) := by decide +kernel
theorem dX12_more_230 : decode cX12_more 230 = .ok (.goto 226, 3) := by decide +kernel
theorem dX12_more_233 : decode cX12_more 233 = .ok (.aload_n 0, 1) := by decide +kernel
theorem dX12_more_234 : decode cX12_more 234 = .ok (.aload_n 0, 1) := by decide +kernel
theorem dX12_more_235 : decode cX12_more 235 = .ok (.iload_n 2, 1) := by decide +kernel
theorem dX12_more_236 : decode cX12_more 236 = .ok (.invokevirtual 465, 3) := by decide +kernel
theorem dX12_more_239 : decode cX12_more 239 = .ok (.aload_n 0, 1) := by decide +kernel
theorem dX12_more_240 : decode cX12_more 240 = .ok (.getfield 34, 3) := by decide +kernel
theorem dX12_more_243 : decode cX12_more 243 = .ok (.iload_n 1, 1) := by decide +kernel
theorem dX12_more_244 : decode cX12_more 244 = .ok (.iaload, 1) := by decide +kernel
theorem dX12_more_245 : decode cX12_more 245 = .ok (.iconst (-1), 1) := by decide +kernel
theorem dX12_more_246 : decode cX12_more 246 = .ok (.if_icmp .ne 7, 3) := by decide +kernel
theorem dX12_more_249 : decode cX12_more 249 = .ok (.iconst 0, 1) := by decide +kernel
theorem dX12_more_250 : decode cX12_more 250 = .ok (.goto 13, 3) := by decide +kernel
theorem dX12_more_253 : decode cX12_more 253 = .ok (.aload_n 0, 1) := by decide +kernel
theorem dX12_more_254 : decode cX12_more 254 = .ok (.aload_n 0, 1) := by decide +kernel
theorem dX12_more_255 : decode cX12_more 255 = .ok (.getfield 34, 3) := by decide +kernel
theorem dX12_more_258 : decode cX12_more 258 = .ok (.iload_n 1, 1) := by decide +kernel
theorem dX12_more_259 : decode cX12_more 259 = .ok (.iaload, 1) := by decide +kernel
theorem dX12_more_260 : decode cX12_more 260 = .ok (.invokevirtual 465, 3) := by decide +kernel
theorem dX12_more_263 : decode cX12_more 263 = .ok (.invokevirtual 480, 3) := by decide +kernel
theorem dX12_more_266 : decode cX12_more 266 = .ok (.goto 190, 3) := by decide +kernel
theorem dX12_more_269 : decode cX12_more 269 = .ok (.aload_n 0, 1) := by decide +kernel
theorem dX12_more_270 : decode cX12_more 270 = .ok (.aload_n 0, 1) := by decide +kernel
theorem dX12_more_271 : decode cX12_more 271 = .ok (.invokevirtual 459, 3) := by decide +kernel
theorem dX12_more_274 : decode cX12_more 274 = .ok (.invokevirtual 483, 3) := by decide +kernel
theorem dX12_more_277 : decode cX12_more 277 = .ok (.goto 179, 3) := by decide +kernel
theorem dX12_more_280 : decode cX12_more 280 = .ok (.aload_n 0, 1) := by decide +kernel
theorem dX12_more_281 : decode cX12_more 281 = .ok (.aload_n 0, 1) := by decide +kernel
theorem dX12_more_282 : decode cX12_more 282 = .ok (.iload_n 2, 1) := by decide +kernel
theorem dX12_more_283 : decode cX12_more 283 = .ok (.invokevirtual 465, 3) := by decide +kernel
theorem dX12_more_286 : decode cX12_more 286 = .ok (.invokevirtual 483, 3) := by decide +kernel
theorem dX12_more_289 : decode cX12_more 289 = .ok (.goto 167, 3) := by decide +kernel
theorem dX12_more_292 : decode cX12_more 292 = .ok (.aload_n 0, 1) := by decide +kernel
theorem dX12_more_293 : decode cX12_more 293 = .ok (.iload_n 2, 1) := by decide +kernel
theorem dX12_more_294 : decode cX12_more 294 = .ok (.aload_n 0, 1) := by decide +kernel
theorem dX12_more_295 : decode cX12_more 295 = .ok (.getfield 34, 3) := by decide +kernel
theorem dX12_more_298 : decode cX12_more 298 = .ok (.iload_n 1, 1) := by decide +kernel
theorem dX12_more_299 : decode cX12_more 299 = .ok (.iaload, 1) := by decide +kernel
theorem dX12_more_300 : decode cX12_more 300 = .ok (.aload_n 0, 1) := by decide +kernel
theorem dX12_more_301 : decode cX12_more 301 = .ok (.getfield 37, 3) := by decide +kernel
theorem dX12_more_304 : decode cX12_more 304 = .ok (.iload_n 1, 1) := by decide +kernel
theorem dX12_more_305 : decode cX12_more 305 = .ok (.iaload, 1) := by decide +kernel
theorem dX12_more_306 : decode cX12_more 306 = .ok (.invokevirtual 486, 3) := by decide +kernel
theorem dX12_more_309 : decode cX12_more 309 = .ok (.goto 147, 3) := by decide +kernel
theorem dX12_more_312 : decode cX12_more 312 = .ok (.aload_n 0, 1) := by decide +kernel
theorem dX12_more_313 : decode cX12_more 313 = .ok (.aload_n 0, 1) := by decide +kernel
theorem dX12_more_314 : decode cX12_more 314 = .ok (.invokevirtual 459, 3) := by decide +kernel
theorem dX12_more_317 : decode cX12_more 317 = .ok (.invokevirtual 488, 3) := by decide +kernel
theorem dX12_more_320 : decode cX12_more 320 = .ok (.goto 136, 3) := by decide +kernel
theorem dX12_more_323 : decode cX12_more 323 = .ok (.aload_n 0, 1) := by decide +kernel
theorem dX12_more_324 : decode cX12_more 324 = .ok (.getfield 126, 3) := by decide +kernel
theorem dX12_more_327 : decode cX12_more 327 = .ok (.aload_n 0, 1) := by decide +kernel
theorem dX12_more_328 : decode cX12_more 328 = .ok (.getfield 412, 3) := by decide +kernel
theorem dX12_more_331 : decode cX12_more 331 = .ok (.iload_n 2, 1) := by decide +kernel
theorem dX12_more_332 : decode cX12_more 332 = .ok (.iastore, 1) := by decide +kernel
theorem dX12_more_333 : decode cX12_more 333 = .ok (.aload_n 0, 1) := by decide +kernel
theorem dX12_more_334 : decode cX12_more 334 = .ok (.getfield 129, 3) := by decide +kernel
theorem dX12_more_337 : decode cX12_more 337 = .ok (.aload_n 0, 1) := by decide +kernel
theorem dX12_more_338 : decode cX12_more 338 = .ok (.getfield 412, 3) := by decide +kernel
theorem dX12_more_341 : decode cX12_more 341 = .ok (.iconst 0, 1) := by decide +kernel
theorem dX12_more_342 : decode cX12_more 342 = .ok (.iastore, 1) := by decide +kernel
theorem dX12_more_343 : decode cX12_more 343 = .ok (.aload_n 0, 1) := by decide +kernel
theorem dX12_more_344 : decode cX12_more 344 = .ok (.dup, 1) := by decide +kernel
theorem dX12_more_345 : decode cX12_more 345 = .ok (.getfield 412, 3) := by decide +kernel
theorem dX12_more_348 : decode cX12_more 348 = .ok (.iconst 1, 1) := by decide +kernel
theorem dX12_more_349 : decode cX12_more 349 = .ok (.iadd, 1) := by decide +kernel
theorem dX12_more_350 : decode cX12_more 350 = .ok (.putfield 412, 3) := by decide +kernel
theorem dX12_more_353 : decode cX12_more 353 = .ok (.goto 103, 3) := by decide +kernel
theorem dX12_more_356 : decode cX12_more 356 = .ok (.aload_n 0, 1) := by decide +kernel
theorem dX12_more_357 : decode cX12_more 357 = .ok (.aload_n 0, 1) := by decide +kernel
theorem dX12_more_358 : decode cX12_more 358 = .ok (.getfield 412, 3) := by decide +kernel
theorem dX12_more_361 : decode cX12_more 361 = .ok (.iconst 1, 1) := by decide +kernel
theorem dX12_more_362 : decode cX12_more 362 = .ok (.isub, 1) := by decide +kernel
theorem dX12_more_363 : decode cX12_more 363 = .ok (.iconst 0, 1) := by decide +kernel
theorem dX12_more_364 : decode cX12_more 364 = .ok (.iconst 0, 1) := by decide +kernel
theorem dX12_more_365 : decode cX12_more 365 = .ok (.invokevirtual 437, 3) := by decide +kernel
theorem dX12_more_368 : decode cX12_more 368 = .ok (.ifCond .eq 6, 3) := by decide +kernel
theorem dX12_more_371 : decode cX12_more 371 = .ok (.goto 85, 3) := by decide +kernel
theorem dX12_more_374 : decode cX12_more 374 = .ok (.aload_n 0, 1) := by decide +kernel
theorem dX12_more_375 : decode cX12_more 375 = .ok (.dup, 1) := by decide +kernel
theorem dX12_more_376 : decode cX12_more 376 = .ok (.getfield 412, 3) := by decide +kernel
theorem dX12_more_379 : decode cX12_more 379 = .ok (.iconst 1, 1) := by decide +kernel
theorem dX12_more_380 : decode cX12_more 380 = .ok (.isub, 1) := by decide +kernel
theorem dX12_more_381 : decode cX12_more 381 = .ok (.putfield 412, 3) := by decide +kernel
theorem dX12_more_384 : decode cX12_more 384 = .ok (.aload_n 0, 1) := by decide +kernel
theorem dX12_more_385 : decode cX12_more 385 = .ok (.aload_n 0, 1) := by decide +kernel
theorem dX12_more_386 : decode cX12_more 386 = .ok (.getfield 55, 3) := by decide +kernel
theorem dX12_more_389 : decode cX12_more 389 = .ok (.iload_n 2, 1) := by decide +kernel
theorem dX12_more_390 : decode cX12_more 390 = .ok (.iaload, 1) := by decide +kernel
theorem dX12_more_391 : decode cX12_more 391 = .ok (.putfield 418, 3) := by decide +kernel
theorem dX12_more_394 : decode cX12_more 394 = .ok (.goto 62, 3) := by decide +kernel
theorem dX12_more_397 : decode cX12_more 397 = .ok (.aload_n 0, 1) := by decide +kernel
theorem dX12_more_398 : decode cX12_more 398 = .ok (.dup, 1) := by decide +kernel
theorem dX12_more_399 : decode cX12_more 399 = .ok (.getfield 412, 3) := by decide +kernel
theorem dX12_more_402 : decode cX12_more 402 = .ok (.iconst 1, 1) := by decide +kernel
theorem dX12_more_403 : decode cX12_more 403 = .ok (.isub, 1) := by decide +kernel
theorem dX12_more_404 : decode cX12_more 404 = .ok (.putfield 412, 3) := by decide +kernel
theorem dX12_more_407 : decode cX12_more 407 = .ok (.aload_n 0, 1) := by decide +kernel
theorem dX12_more_408 : decode cX12_more 408 = .ok (.getfield 132, 3) := by decide +kernel
theorem dX12_more_411 : decode cX12_more 411 = .ok (.aload_n 0, 1) := by decide +kernel
theorem dX12_more_412 : decode cX12_more 412 = .ok (.getfield 412, 3) := by decide +kernel
theorem dX12_more_415 : decode cX12_more 415 = .ok (.iaload, 1) := by decide +kernel
theorem dX12_more_416 : decode cX12_more 416 = .ok (.istore_n 3, 1) := by decide +kernel
theorem dX12_more_417 : decode cX12_more 417 = .ok (.aload_n 0, 1) := by decide +kernel
theorem dX12_more_418 : decode cX12_more 418 = .ok (.getfield 135, 3) := by decide +kernel
theorem dX12_more_421 : decode cX12_more 421 = .ok (.aload_n 0, 1) := by decide +kernel
theorem dX12_more_422 : decode cX12_more 422 = .ok (.getfield 412, 3) := by decide +kernel
theorem dX12_more_425 : decode cX12_more 425 = .ok (.iaload, 1) := by decide +kernel
theorem dX12_more_426 : decode cX12_more 426 = .ok (.istore 4, 2) := by decide +kernel
theorem dX12_more_428 : decode cX12_more 428 = .ok (.iload_n 3, 1) := by decide +kernel
theorem dX12_more_429 : decode cX12_more 429 = .ok (.iconst 1, 1) := by decide +kernel
theorem dX12_more_430 : decode cX12_more 430 = .ok (.if_icmp .ne 12, 3) := by decide +kernel
theorem dX12_more_433 : decode cX12_more 433 = .ok (.aload_n 0, 1) := by decide +kernel
theorem dX12_more_434 : decode cX12_more 434 = .ok (.iload 4, 2) := by decide +kernel
theorem dX12_more_436 : decode cX12_more 436 = .ok (.invokevirtual 447, 3) := by decide +kernel
theorem dX12_more_439 : decode cX12_more 439 = .ok (.goto 17, 3) := by decide +kernel
theorem dX12_more_442 : decode cX12_more 442 = .ok (.iload_n 3, 1) := by decide +kernel
theorem dX12_more_443 : decode cX12_more 443 = .ok (.iconst 2, 1) := by decide +kernel
theorem dX12_more_444 : decode cX12_more 444 = .ok (.if_icmp .ne 12, 3) := by decide +kernel
theorem dX12_more_447 : decode cX12_more 447 = .ok (.aload_n 0, 1) := by decide +kernel
theorem dX12_more_448 : decode cX12_more 448 = .ok (.iload 4, 2) := by decide +kernel
theorem dX12_more_450 : decode cX12_more 450 = .ok (.invokevirtual 488, 3) := by decide +kernel
theorem dX12_more_453 : decode cX12_more 453 = .ok (.goto 3, 3) := by decide +kernel
theorem dX12_more_456 : decode cX12_more 456 = .ok (.return_, 1) := by decide +kernel
theorem dX12_act_0 : decode cX12_act 0 = .ok (.aload_n 0, 1) := by decide +kernel
theorem dX12_act_1 : decode cX12_act 1 = .ok (.getfield 418, 3) := by decide +kernel
theorem dX12_act_4 : decode cX12_act 4 = .ok (.istore_n 1, 1) := by decide +kernel
theorem dX12_act_5 : decode cX12_act 5 = .ok (.aload_n 0, 1) := by decide +kernel
theorem dX12_act_6 : decode cX12_act 6 = .ok (.dup, 1) := by decide +kernel
theorem dX12_act_7 : decode cX12_act 7 = .ok (.getfield 418, 3) := by decide +kernel
theorem dX12_act_10 : decode cX12_act 10 = .ok (.iconst 1, 1) := by decide +kernel
theorem dX12_act_11 : decode cX12_act 11 = .ok (.iadd, 1) := by decide +kernel
theorem dX12_act_12 : decode cX12_act 12 = .ok (.putfield 418, 3) := by decide +kernel
theorem dX12_act_15 : decode cX12_act 15 = .ok (.aload_n 0, 1) := by decide +kernel
theorem dX12_act_16 : decode cX12_act 16 = .ok (.getfield 31, 3) := by decide +kernel
theorem dX12_act_19 : decode cX12_act 19 = .ok (.iload_n 1, 1) := by decide +kernel
theorem dX12_act_20 : decode cX12_act 20 = .ok (.iaload, 1) := by decide +kernel
theorem dX12_act_21 : decode cX12_act 21 = .ok (.istore_n 2, 1) := by decide +kernel
theorem dX12_act_22 : decode cX12_act 22 = .ok (.aload_n 0, 1) := by decide +kernel
theorem dX12_act_23 : decode cX12_act 23 = .ok (.getfield 28, 3) := by decide +kernel
theorem dX12_act_26 : decode cX12_act 26 = .ok (.iload_n 1, 1) := by decide +kernel
theorem dX12_act_27 : decode cX12_act 27 = .ok (.iaload, 1) := by decide +kernel
theorem dX12_act_28 : decode cX12_act 28 = .ok (.tableswitch 350 0 21 #[104, 136, 144, 167, 190, 350, 202, 210, 228, 270, 300, 318, 350, 350, 350, 350, 350, 350, 350, 350, 327, 335], 104) := by decide +kernel
theorem dX12_act_132 : decode cX12_act 132 = .ok (.aload_n 0, 1) := by decide +kernel
theorem dX12_act_133 : decode cX12_act 133 = .ok (.getfield 450, 3) := by decide +kernel
theorem dX12_act_136 : decode cX12_act 136 = .ok (.aload_n 0, 1) := by decide +kernel
theorem dX12_act_137 : decode cX12_act 137 = .ok (.getfield 453, 3) := by decide +kernel
theorem dX12_act_140 : decode cX12_act 140 = .ok (.if_icmp .ne 11, 3) := by decide +kernel
theorem dX12_act_143 : decode cX12_act 143 = .ok (.aload_n 0, 1) := by decide +kernel
theorem dX12_act_144 : decode cX12_act 144 = .ok (.iconst 1, 1) := by decide +kernel
theorem dX12_act_145 : decode cX12_act 145 = .ok (.putfield 398, 3) := by decide +kernel
theorem dX12_act_148 : decode cX12_act 148 = .ok (.goto 236, 3) := by decide +kernel
theorem dX12_act_151 : decode cX12_act 151 = .ok (.aload_n 0, 1) := by decide +kernel
theorem dX12_act_152 : decode cX12_act 152 = .ok (.dup, 1) := by decide +kernel
theorem dX12_act_153 : decode cX12_act 153 = .ok (.getfield 450, 3) := by decide +kernel
theorem dX12_act_156 : decode cX12_act 156 = .ok (.iconst 1, 1) := by decide +kernel
theorem dX12_act_157 : decode cX12_act 157 = .ok (.iadd, 1) := by decide +kernel
theorem dX12_act_158 : decode cX12_act 158 = .ok (.putfield 450, 3) := by decide +kernel
theorem dX12_act_161 : decode cX12_act 161 = .ok (.goto 223, 3) := by decide +kernel
theorem dX12_act_164 : decode cX12_act 164 = .ok (.aload_n 0, 1) := by decide +kernel
theorem dX12_act_165 : decode cX12_act 165 = .ok (.iload_n 2, 1) := by decide +kernel
theorem dX12_act_166 : decode cX12_act 166 = .ok (.invokevirtual 456, 3) := by decide +kernel
theorem dX12_act_169 : decode cX12_act 169 = .ok (.goto 215, 3) := by decide +kernel
theorem dX12_act_172 : decode cX12_act 172 = .ok (.aload_n 0, 1) := by decide +kernel
theorem dX12_act_173 : decode cX12_act 173 = .ok (.aload_n 0, 1) := by decide +kernel
theorem dX12_act_174 : decode cX12_act 174 = .ok (.getfield 111, 3) := by decide +kernel
theorem dX12_act_177 : decode cX12_act 177 = .ok (.bipush 12, 2) := by decide +kernel
theorem dX12_act_179 : decode cX12_act 179 = .ok (.aload_n 0, 1) := by decide +kernel
theorem dX12_act_180 : decode cX12_act 180 = .ok (.getfield 409, 3) := by decide +kernel
theorem dX12_act_183 : decode cX12_act 183 = .ok (.iconst 1, 1) := by decide +kernel
theorem dX12_act_184 : decode cX12_act 184 = .ok (.isub, 1) := by decide +kernel
theorem dX12_act_185 : decode cX12_act 185 = .ok (.imul, 1) := by decide +kernel
theorem dX12_act_186 : decode cX12_act 186 = .ok (.iload_n 2, 1) := by decide +kernel
theorem dX12_act_187 : decode cX12_act 187 = .ok (.iadd, 1) := by decide +kernel
theorem dX12_act_188 : decode cX12_act 188 = .ok (.iaload, 1) := by decide +kernel
theorem dX12_act_189 : decode cX12_act 189 = .ok (.invokevirtual 456, 3) := by decide +kernel
theorem dX12_act_192 : decode cX12_act 192 = .ok (.goto 192, 3) := by decide +kernel
theorem dX12_act_195 : decode cX12_act 195 = .ok (.aload_n 0, 1) := by decide +kernel
theorem dX12_act_196 : decode cX12_act 196 = .ok (.getfield 111, 3) := by decide +kernel
theorem dX12_act_199 : decode cX12_act 199 = .ok (.bipush 12, 2) := by decide +kernel
theorem dX12_act_201 : decode cX12_act 201 = .ok (.aload_n 0, 1) := by decide +kernel
theorem dX12_act_202 : decode cX12_act 202 = .ok (.getfield 409, 3) := by decide +kernel
theorem dX12_act_205 : decode cX12_act 205 = .ok (.iconst 1, 1) := by decide +kernel
theorem dX12_act_206 : decode cX12_act 206 = .ok (.isub, 1) := by decide +kernel
theorem dX12_act_207 : decode cX12_act 207 = .ok (.imul, 1) := by decide +kernel
theorem dX12_act_208 : decode cX12_act 208 = .ok (.iload_n 2, 1) := by decide +kernel
theorem dX12_act_209 : decode cX12_act 209 = .ok (.iadd, 1) := by decide +kernel
theorem dX12_act_210 : decode cX12_act 210 = .ok (.aload_n 0, 1) := by decide +kernel
theorem dX12_act_211 : decode cX12_act 211 = .ok (.invokevirtual 459, 3) := by decide +kernel
theorem dX12_act_214 : decode cX12_act 214 = .ok (.iastore, 1) := by decide +kernel
theorem dX12_act_215 : decode cX12_act 215 = .ok (.goto 169, 3) := by decide +kernel
theorem dX12_act_218 : decode cX12_act 218 = .ok (.aload_n 0, 1) := by decide +kernel
theorem dX12_act_219 : decode cX12_act 219 = .ok (.aload_n 0, 1) := by decide +kernel
theorem dX12_act_220 : decode cX12_act 220 = .ok (.invokevirtual 459, 3) := by decide +kernel
theorem dX12_act_223 : decode cX12_act 223 = .ok (.ineg, 1) := by decide +kernel
theorem dX12_act_224 : decode cX12_act 224 = .ok (.invokevirtual 456, 3) := by decide +kernel
theorem dX12_act_227 : decode cX12_act 227 = .ok (.goto 157, 3) := by decide +kernel
theorem dX12_act_230 : decode cX12_act 230 = .ok (.aload_n 0, 1) := by decide +kernel
theorem dX12_act_231 : decode cX12_act 231 = .ok (.iload_n 2, 1) := by decide +kernel
theorem dX12_act_232 : decode cX12_act 232 = .ok (.invokevirtual 462, 3) := by decide +kernel
theorem dX12_act_235 : decode cX12_act 235 = .ok (.goto 149, 3) := by decide +kernel
theorem dX12_act_238 : decode cX12_act 238 = .ok (.aload_n 0, 1) := by decide +kernel
theorem dX12_act_239 : decode cX12_act 239 = .ok (.aload_n 0, 1) := by decide +kernel
theorem dX12_act_240 : decode cX12_act 240 = .ok (.iload_n 2, 1) := by decide +kernel
theorem dX12_act_241 : decode cX12_act 241 = .ok (.invokevirtual 465, 3) := by decide +kernel
theorem dX12_act_244 : decode cX12_act 244 = .ok (.aload_n 0, 1) := by decide +kernel
theorem dX12_act_245 : decode cX12_act 245 = .ok (.getfield 34, 3) := by decide +kernel
theorem dX12_act_248 : decode cX12_act 248 = .ok (.iload_n 1, 1) := by decide +kernel
theorem dX12_act_249 : decode cX12_act 249 = .ok (.iaload, 1) := by decide +kernel
theorem dX12_act_250 : decode cX12_act 250 = .ok (.invokevirtual 468, 3) := by decide +kernel
theorem dX12_act_253 : decode cX12_act 253 = .ok (.goto 131, 3) := by decide +kernel
theorem dX12_act_256 : decode cX12_act 256 = .ok (.aload_n 0, 1) := by decide +kernel
theorem dX12_act_257 : decode cX12_act 257 = .ok (.aload_n 0, 1) := by decide +kernel
theorem dX12_act_258 : decode cX12_act 258 = .ok (.iload_n 2, 1) := by decide +kernel
theorem dX12_act_259 : decode cX12_act 259 = .ok (.invokevirtual 465, 3) := by decide +kernel
theorem dX12_act_262 : decode cX12_act 262 = .ok (.ifCond .le 29, 3) := by decide +kernel
theorem dX12_act_265 : decode cX12_act 265 = .ok (.aload_n 0, 1) := by decide +kernel
theorem dX12_act_266 : decode cX12_act 266 = .ok (.getfield 92, 3) := by decide +kernel
theorem dX12_act_269 : decode cX12_act 269 = .ok (.aload_n 0, 1) := by decide +kernel
theorem dX12_act_270 : decode cX12_act 270 = .ok (.iload_n 2, 1) := by decide +kernel
theorem dX12_act_271 : decode cX12_act 271 = .ok (.invokevirtual 465, 3) := by decide +kernel
theorem dX12_act_274 : decode cX12_act 274 = .ok (.iaload, 1) := by decide +kernel
theorem dX12_act_275 : decode cX12_act 275 = .ok (.aload_n 0, 1) := by decide +kernel
theorem dX12_act_276 : decode cX12_act 276 = .ok (.getfield 34, 3) := by decide +kernel
theorem dX12_act_279 : decode cX12_act 279 = .ok (.iload_n 1, 1) := by decide +kernel
theorem dX12_act_280 : decode cX12_act 280 = .ok (.iaload, 1) := by decide +kernel
theorem dX12_act_281 : decode cX12_act 281 = .ok (.invokestatic 433, 3) := by decide +kernel
theorem dX12_act_284 : decode cX12_act 284 = .ok (.ifCond .eq 7, 3) := by decide +kernel
theorem dX12_act_287 : decode cX12_act 287 = .ok (.iconst 1, 1) := by decide +kernel
theorem dX12_act_288 : decode cX12_act 288 = .ok (.goto 4, 3) := by decide +kernel
theorem dX12_act_291 : decode cX12_act 291 = .ok (.iconst 0, 1) := by decide +kernel
theorem dX12_act_292 : decode cX12_act 292 = .ok (.invokevirtual 456, 3) := by decide +kernel
theorem dX12_act_295 : decode cX12_act 295 = .ok (.goto 89, 3) := by decide +kernel
theorem dX12_act_298 : decode cX12_act 298 = .ok (.aload_n 0, 1) := by decide +kernel
theorem dX12_act_299 : decode cX12_act 299 = .ok (.aload_n 0, 1) := by decide +kernel
theorem dX12_act_300 : decode cX12_act 300 = .ok (.iload_n 2, 1) := by decide +kernel
theorem dX12_act_301 : decode cX12_act 301 = .ok (.invokevirtual 465, 3) := by decide +kernel
theorem dX12_act_304 : decode cX12_act 304 = .ok (.aload_n 0, 1) := by decide +kernel
theorem dX12_act_305 : decode cX12_act 305 = .ok (.aload_n 0, 1) := by decide +kernel
theorem dX12_act_306 : decode cX12_act 306 = .ok (.getfield 34, 3) := by decide +kernel
theorem dX12_act_309 : decode cX12_act 309 = .ok (.iload_n 1, 1) := by decide +kernel
theorem dX12_act_310 : decode cX12_act 310 = .ok (.iaload, 1) := by decide +kernel
theorem dX12_act_311 : decode cX12_act 311 = .ok (.invokevirtual 465, 3) := by decide +kernel
theorem dX12_act_314 : decode cX12_act 314 = .ok (.if_icmp .ne 7, 3) := by decide +kernel
theorem dX12_act_317 : decode cX12_act 317 = .ok (.iconst 1, 1) := by decide +kernel
theorem dX12_act_318 : decode cX12_act 318 = .ok (.goto 4, 3) := by decide +kernel
theorem dX12_act_321 : decode cX12_act 321 = .ok (.iconst 0, 1) := by decide +kernel
theorem dX12_act_322 : decode cX12_act 322 = .ok (.invokevirtual 456, 3) := by decide +kernel
theorem dX12_act_325 : decode cX12_act 325 = .ok (.goto 59, 3) := by decide +kernel
theorem dX12_act_328 : decode cX12_act 328 = .ok (.aload_n 0, 1) := by decide +kernel
theorem dX12_act_329 : decode cX12_act 329 = .ok (.iload_n 2, 1) := by decide +kernel
theorem dX12_act_330 : decode cX12_act 330 = .ok (.aload_n 0, 1) := by decide +kernel
theorem dX12_act_331 : decode cX12_act 331 = .ok (.aload_n 0, 1) := by decide +kernel
theorem dX12_act_332 : decode cX12_act 332 = .ok (.getfield 34, 3) := by decide +kernel
theorem dX12_act_335 : decode cX12_act 335 = .ok (.iload_n 1, 1) := by decide +kernel
theorem dX12_act_336 : decode cX12_act 336 = .ok (.iaload, 1) := by decide +kernel
theorem dX12_act_337 : decode cX12_act 337 = .ok (.invokevirtual 465, 3) := by decide +kernel
theorem dX12_act_340 : decode cX12_act 340 = .ok (.invokevirtual 471, 3) := by decide +kernel
theorem dX12_act_343 : decode cX12_act 343 = .ok (.goto 41, 3) := by decide +kernel
theorem dX12_act_346 : decode cX12_act 346 = .ok (.aload_n 0, 1) := by decide +kernel
theorem dX12_act_347 : decode cX12_act 347 = .ok (.iload_n 2, 1) := by decide +kernel
theorem dX12_act_348 : decode cX12_act 348 = .ok (.iconst 0, 1) := by decide +kernel
theorem dX12_act_349 : decode cX12_act 349 = .ok (.invokevirtual 471, 3) := by decide +kernel
theorem dX12_act_352 : decode cX12_act 352 = .ok (.goto 32, 3) := by decide +kernel
theorem dX12_act_355 : decode cX12_act 355 = .ok (.aload_n 0, 1) := by decide +kernel
theorem dX12_act_356 : decode cX12_act 356 = .ok (.iload_n 2, 1) := by decide +kernel
theorem dX12_act_357 : decode cX12_act 357 = .ok (.putfield 418, 3) := by decide +kernel
theorem dX12_act_360 : decode cX12_act 360 = .ok (.goto 24, 3) := by decide +kernel
theorem dX12_act_363 : decode cX12_act 363 = .ok (.aload_n 0, 1) := by decide +kernel
theorem dX12_act_364 : decode cX12_act 364 = .ok (.invokevirtual 459, 3) := by decide +kernel
theorem dX12_act_367 : decode cX12_act 367 = .ok (.ifCond .ne 17, 3) := by decide +kernel
theorem dX12_act_370 : decode cX12_act 370 = .ok (.aload_n 0, 1) := by decide +kernel
theorem dX12_act_371 : decode cX12_act 371 = .ok (.iload_n 2, 1) := by decide +kernel
theorem dX12_act_372 : decode cX12_act 372 = .ok (.putfield 418, 3) := by decide +kernel
theorem dX12_act_375 : decode cX12_act 375 = .ok (.goto 9, 3) := by decide +kernel
theorem dX12_act_378 : decode cX12_act 378 = .ok (.aload_n 0, 1) := by decide +kernel
theorem dX12_act_379 : decode cX12_act 379 = .ok (.iload_n 1, 1) := by decide +kernel
theorem dX12_act_380 : decode cX12_act 380 = .ok (.iload_n 2, 1) := by decide +kernel
theorem dX12_act_381 : decode cX12_act 381 = .ok (.invokevirtual 473, 3) := by decide +kernel
theorem dX12_act_384 : decode cX12_act 384 = .ok (.return_, 1) := by decide +kernel
theorem dX12_holds_0 : decode cX12_holds 0 = .ok (.aload_n 0, 1) := by decide +kernel
theorem dX12_holds_1 : decode cX12_holds 1 = .ok (.iconst 0, 1) := by decide +kernel
theorem dX12_holds_2 : decode cX12_holds 2 = .ok (.putfield 409, 3) := by decide +kernel
theorem dX12_holds_5 : decode cX12_holds 5 = .ok (.aload_n 0, 1) := by decide +kernel
theorem dX12_holds_6 : decode cX12_holds 6 = .ok (.iconst 0, 1) := by decide +kernel
theorem dX12_holds_7 : decode cX12_holds 7 = .ok (.putfield 412, 3) := by decide +kernel
theorem dX12_holds_10 : decode cX12_holds 10 = .ok (.aload_n 0, 1) := by decide +kernel
theorem dX12_holds_11 : decode cX12_holds 11 = .ok (.iconst 0, 1) := by decide +kernel
theorem dX12_holds_12 : decode cX12_holds 12 = .ok (.putfield 406, 3) := by decide +kernel
theorem dX12_holds_15 : decode cX12_holds 15 = .ok (.aload_n 0, 1) := by decide +kernel
theorem dX12_holds_16 : decode cX12_holds 16 = .ok (.iconst 0, 1) := by decide +kernel
theorem dX12_holds_17 : decode cX12_holds 17 = .ok (.putfield 421, 3) := by decide +kernel
theorem dX12_holds_20 : decode cX12_holds 20 = .ok (.aload_n 0, 1) := by decide +kernel
theorem dX12_holds_21 : decode cX12_holds 21 = .ok (.iconst 0, 1) := by decide +kernel
theorem dX12_holds_22 : decode cX12_holds 22 = .ok (.putfield 424, 3) := by decide +kernel
theorem dX12_holds_25 : decode cX12_holds 25 = .ok (.aload_n 0, 1) := by decide +kernel
theorem dX12_holds_26 : decode cX12_holds 26 = .ok (.iload_n 1, 1) := by decide +kernel
theorem dX12_holds_27 : decode cX12_holds 27 = .ok (.invokevirtual 427, 3) := by decide +kernel
theorem dX12_holds_30 : decode cX12_holds 30 = .ok (.aload_n 0, 1) := by decide +kernel
theorem dX12_holds_31 : decode cX12_holds 31 = .ok (.getfield 46, 3) := by decide +kernel
theorem dX12_holds_34 : decode cX12_holds 34 = .ok (.iload_n 1, 1) := by decide +kernel
theorem dX12_holds_35 : decode cX12_holds 35 = .ok (.iaload, 1) := by decide +kernel
theorem dX12_holds_36 : decode cX12_holds 36 = .ok (.ifCond .le 10, 3) := by decide +kernel
theorem dX12_holds_39 : decode cX12_holds 39 = .ok (.aload_n 0, 1) := by decide +kernel
theorem dX12_holds_40 : decode cX12_holds 40 = .ok (.getfield 111, 3) := by decide +kernel
theorem dX12_holds_43 : decode cX12_holds 43 = .ok (.iconst 0, 1) := by decide +kernel
theorem dX12_holds_44 : decode cX12_holds 44 = .ok (.iload_n 2, 1) := by decide +kernel
theorem dX12_holds_45 : decode cX12_holds 45 = .ok (.iastore, 1) := by decide +kernel
theorem dX12_holds_46 : decode cX12_holds 46 = .ok (.aload_n 0, 1) := by decide +kernel
theorem dX12_holds_47 : decode cX12_holds 47 = .ok (.getfield 46, 3) := by decide +kernel
theorem dX12_holds_50 : decode cX12_holds 50 = .ok (.iload_n 1, 1) := by decide +kernel
theorem dX12_holds_51 : decode cX12_holds 51 = .ok (.iaload, 1) := by decide +kernel
theorem dX12_holds_52 : decode cX12_holds 52 = .ok (.iconst 1, 1) := by decide +kernel
theorem dX12_holds_53 : decode cX12_holds 53 = .ok (.if_icmp .le 10, 3) := by decide +kernel
theorem dX12_holds_56 : decode cX12_holds 56 = .ok (.aload_n 0, 1) := by decide +kernel
theorem dX12_holds_57 : decode cX12_holds 57 = .ok (.getfield 111, 3) := by decide +kernel
theorem dX12_holds_60 : decode cX12_holds 60 = .ok (.iconst 1, 1) := by decide +kernel
theorem dX12_holds_61 : decode cX12_holds 61 = .ok (.iload_n 3, 1) := by decide +kernel
theorem dX12_holds_62 : decode cX12_holds 62 = .ok (.iastore, 1) := by decide +kernel
theorem dX12_holds_63 : decode cX12_holds 63 = .ok (.aload_n 0, 1) := by decide +kernel
theorem dX12_holds_64 : decode cX12_holds 64 = .ok (.getfield 424, 3) := by decide +kernel
theorem dX12_holds_67 : decode cX12_holds 67 = .ok (.ifCond .ne 17, 3) := by decide +kernel
theorem dX12_holds_70 : decode cX12_holds 70 = .ok (.aload_n 0, 1) := by decide +kernel
theorem dX12_holds_71 : decode cX12_holds 71 = .ok (.getfield 398, 3) := by decide +kernel
theorem dX12_holds_74 : decode cX12_holds 74 = .ok (.ifCond .ne 10, 3) := by decide +kernel
theorem dX12_holds_77 : decode cX12_holds 77 = .ok (.aload_n 0, 1) := by decide +kernel
theorem dX12_holds_78 : decode cX12_holds 78 = .ok (.invokevirtual 430, 3) := by decide +kernel
theorem dX12_holds_81 : decode cX12_holds 81 = .ok (.goto (-18), 3) := by decide +kernel
theorem dX12_holds_84 : decode cX12_holds 84 = .ok (.return_, 1) := by decide +kernel
theorem dX12_policy_0 : decode cX12_policy 0 = .ok (.iload_n 1, 1) := by decide +kernel
theorem dX12_policy_1 : decode cX12_policy 1 = .ok (.ifCond .lt 45, 3) := by decide +kernel
theorem dX12_policy_4 : decode cX12_policy 4 = .ok (.iload_n 1, 1) := by decide +kernel
theorem dX12_policy_5 : decode cX12_policy 5 = .ok (.iconst 2, 1) := by decide +kernel
theorem dX12_policy_6 : decode cX12_policy 6 = .ok (.if_icmp .gt 40, 3) := by decide +kernel
theorem dX12_policy_9 : decode cX12_policy 9 = .ok (.iload_n 2, 1) := by decide +kernel
theorem dX12_policy_10 : decode cX12_policy 10 = .ok (.ifCond .lt 36, 3) := by decide +kernel
theorem dX12_policy_13 : decode cX12_policy 13 = .ok (.iload_n 2, 1) := by decide +kernel
theorem dX12_policy_14 : decode cX12_policy 14 = .ok (.bipush 6, 2) := by decide +kernel
theorem dX12_policy_16 : decode cX12_policy 16 = .ok (.if_icmp .gt 30, 3) := by decide +kernel
theorem dX12_policy_19 : decode cX12_policy 19 = .ok (.iload_n 3, 1) := by decide +kernel
theorem dX12_policy_20 : decode cX12_policy 20 = .ok (.iconst (-1), 1) := by decide +kernel
theorem dX12_policy_21 : decode cX12_policy 21 = .ok (.if_icmp .lt 25, 3) := by decide +kernel
theorem dX12_policy_24 : decode cX12_policy 24 = .ok (.iload_n 3, 1) := by decide +kernel
theorem dX12_policy_25 : decode cX12_policy 25 = .ok (.iconst 5, 1) := by decide +kernel
theorem dX12_policy_26 : decode cX12_policy 26 = .ok (.if_icmp .gt 20, 3) := by decide +kernel
theorem dX12_policy_29 : decode cX12_policy 29 = .ok (.iload_n 3, 1) := by decide +kernel
theorem dX12_policy_30 : decode cX12_policy 30 = .ok (.iconst 2, 1) := by decide +kernel
theorem dX12_policy_31 : decode cX12_policy 31 = .ok (.if_icmp .ne 17, 3) := by decide +kernel
theorem dX12_policy_34 : decode cX12_policy 34 = .ok (.iload 4, 2) := by decide +kernel
theorem dX12_policy_36 : decode cX12_policy 36 = .ok (.ifCond .lt 10, 3) := by decide +kernel
theorem dX12_policy_39 : decode cX12_policy 39 = .ok (.iload 4, 2) := by decide +kernel
theorem dX12_policy_41 : decode cX12_policy 41 = .ok (.bipush 6, 2) := by decide +kernel
theorem dX12_policy_43 : decode cX12_policy 43 = .ok (.if_icmp .le 5, 3) := by decide +kernel
theorem dX12_policy_46 : decode cX12_policy 46 = .ok (.iconst 0, 1) := by decide +kernel
theorem dX12_policy_47 : decode cX12_policy 47 = .ok (.ireturn, 1) := by decide +kernel
theorem dX12_policy_48 : decode cX12_policy 48 = .ok (.aload_n 0, 1) := by decide +kernel
theorem dX12_policy_49 : decode cX12_policy 49 = .ok (.getfield 150, 3) := by decide +kernel
theorem dX12_policy_52 : decode cX12_policy 52 = .ok (.bipush 7, 2) := by decide +kernel
theorem dX12_policy_54 : decode cX12_policy 54 = .ok (.iload_n 1, 1) := by decide +kernel
theorem dX12_policy_55 : decode cX12_policy 55 = .ok (.imul, 1) := by decide +kernel
theorem dX12_policy_56 : decode cX12_policy 56 = .ok (.iload_n 2, 1) := by decide +kernel
theorem dX12_policy_57 : decode cX12_policy 57 = .ok (.iadd, 1) := by decide +kernel
theorem dX12_policy_58 : decode cX12_policy 58 = .ok (.iload_n 3, 1) := by decide +kernel
theorem dX12_policy_59 : decode cX12_policy 59 = .ok (.iconst 1, 1) := by decide +kernel
theorem dX12_policy_60 : decode cX12_policy 60 = .ok (.iadd, 1) := by decide +kernel
theorem dX12_policy_61 : decode cX12_policy 61 = .ok (.iastore, 1) := by decide +kernel
theorem dX12_policy_62 : decode cX12_policy 62 = .ok (.aload_n 0, 1) := by decide +kernel
theorem dX12_policy_63 : decode cX12_policy 63 = .ok (.getfield 153, 3) := by decide +kernel
theorem dX12_policy_66 : decode cX12_policy 66 = .ok (.bipush 7, 2) := by decide +kernel
theorem dX12_policy_68 : decode cX12_policy 68 = .ok (.iload_n 1, 1) := by decide +kernel
theorem dX12_policy_69 : decode cX12_policy 69 = .ok (.imul, 1) := by decide +kernel
theorem dX12_policy_70 : decode cX12_policy 70 = .ok (.iload_n 2, 1) := by decide +kernel
theorem dX12_policy_71 : decode cX12_policy 71 = .ok (.iadd, 1) := by decide +kernel
theorem dX12_policy_72 : decode cX12_policy 72 = .ok (.iload 4, 2) := by decide +kernel
theorem dX12_policy_74 : decode cX12_policy 74 = .ok (.iastore, 1) := by decide +kernel
theorem dX12_policy_75 : decode cX12_policy 75 = .ok (.iconst 1, 1) := by decide +kernel
theorem dX12_policy_76 : decode cX12_policy 76 = .ok (.ireturn, 1) := by decide +kernel
theorem dX12_complain_0 : decode cX12_complain 0 = .ok (.iload_n 1, 1) := by decide +kernel
theorem dX12_complain_1 : decode cX12_complain 1 = .ok (.ifCond .lt 28, 3) := by decide +kernel
theorem dX12_complain_4 : decode cX12_complain 4 = .ok (.iload_n 1, 1) := by decide +kernel
theorem dX12_complain_5 : decode cX12_complain 5 = .ok (.iconst 2, 1) := by decide +kernel
theorem dX12_complain_6 : decode cX12_complain 6 = .ok (.if_icmp .gt 23, 3) := by decide +kernel
theorem dX12_complain_9 : decode cX12_complain 9 = .ok (.iload_n 2, 1) := by decide +kernel
theorem dX12_complain_10 : decode cX12_complain 10 = .ok (.ifCond .lt 19, 3) := by decide +kernel
theorem dX12_complain_13 : decode cX12_complain 13 = .ok (.iload_n 2, 1) := by decide +kernel
theorem dX12_complain_14 : decode cX12_complain 14 = .ok (.bipush 6, 2) := by decide +kernel
theorem dX12_complain_16 : decode cX12_complain 16 = .ok (.if_icmp .gt 13, 3) := by decide +kernel
theorem dX12_complain_19 : decode cX12_complain 19 = .ok (.aload_n 0, 1) := by decide +kernel
theorem dX12_complain_20 : decode cX12_complain 20 = .ok (.getfield 395, 3) := by decide +kernel
theorem dX12_complain_23 : decode cX12_complain 23 = .ok (.sipush 8000, 3) := by decide +kernel
theorem dX12_complain_26 : decode cX12_complain 26 = .ok (.if_icmp .ne 5, 3) := by decide +kernel
theorem dX12_complain_29 : decode cX12_complain 29 = .ok (.iconst (-1), 1) := by decide +kernel
theorem dX12_complain_30 : decode cX12_complain 30 = .ok (.ireturn, 1) := by decide +kernel
theorem dX12_complain_31 : decode cX12_complain 31 = .ok (.aload_n 0, 1) := by decide +kernel
theorem dX12_complain_32 : decode cX12_complain 32 = .ok (.getfield 156, 3) := by decide +kernel
theorem dX12_complain_35 : decode cX12_complain 35 = .ok (.iload_n 1, 1) := by decide +kernel
theorem dX12_complain_36 : decode cX12_complain 36 = .ok (.aload_n 0, 1) := by decide +kernel
theorem dX12_complain_37 : decode cX12_complain 37 = .ok (.iload_n 2, 1) := by decide +kernel
theorem dX12_complain_38 : decode cX12_complain 38 = .ok (.iload_n 3, 1) := by decide +kernel
theorem dX12_complain_39 : decode cX12_complain 39 = .ok (.iconst 0, 1) := by decide +kernel
theorem dX12_complain_40 : decode cX12_complain 40 = .ok (.iconst (-1), 1) := by decide +kernel
theorem dX12_complain_41 : decode cX12_complain 41 = .ok (.iconst 0, 1) := by decide +kernel
theorem dX12_complain_42 : decode cX12_complain 42 = .ok (.iconst 0, 1) := by decide +kernel
theorem dX12_complain_43 : decode cX12_complain 43 = .ok (.invokevirtual 402, 3) := by decide +kernel
theorem dX12_complain_46 : decode cX12_complain 46 = .ok (.iastore, 1) := by decide +kernel
theorem dX12_complain_47 : decode cX12_complain 47 = .ok (.aload_n 0, 1) := by decide +kernel
theorem dX12_complain_48 : decode cX12_complain 48 = .ok (.getfield 395, 3) := by decide +kernel
theorem dX12_complain_51 : decode cX12_complain 51 = .ok (.ireturn, 1) := by decide +kernel
theorem dX12_below_0 : decode cX12_below 0 = .ok (.iload_n 1, 1) := by decide +kernel
theorem dX12_below_1 : decode cX12_below 1 = .ok (.ifCond .ne 14, 3) := by decide +kernel
theorem dX12_below_4 : decode cX12_below 4 = .ok (.aload_n 0, 1) := by decide +kernel
theorem dX12_below_5 : decode cX12_below 5 = .ok (.iload_n 2, 1) := by decide +kernel
theorem dX12_below_6 : decode cX12_below 6 = .ok (.iload_n 3, 1) := by decide +kernel
theorem dX12_below_7 : decode cX12_below 7 = .ok (.iload 4, 2) := by decide +kernel
theorem dX12_below_9 : decode cX12_below 9 = .ok (.invokevirtual 502, 3) := by decide +kernel
theorem dX12_below_12 : decode cX12_below 12 = .ok (.goto 14, 3) := by decide +kernel
theorem dX12_below_15 : decode cX12_below 15 = .ok (.aload_n 0, 1) := by decide +kernel
theorem dX12_below_16 : decode cX12_below 16 = .ok (.iload_n 1, 1) := by decide +kernel
theorem dX12_below_17 : decode cX12_below 17 = .ok (.iconst 1, 1) := by decide +kernel
theorem dX12_below_18 : decode cX12_below 18 = .ok (.isub, 1) := by decide +kernel
theorem dX12_below_19 : decode cX12_below 19 = .ok (.iload_n 2, 1) := by decide +kernel
theorem dX12_below_20 : decode cX12_below 20 = .ok (.iload_n 3, 1) := by decide +kernel
theorem dX12_below_21 : decode cX12_below 21 = .ok (.iload 4, 2) := by decide +kernel
theorem dX12_below_23 : decode cX12_below 23 = .ok (.invokevirtual 505, 3) := by decide +kernel
theorem dX12_below_26 : decode cX12_below 26 = .ok (.return_, 1) := by decide +kernel
theorem dX12_enters_0 : decode cX12_enters 0 = .ok (.aload_n 0, 1) := by decide +kernel
theorem dX12_enters_1 : decode cX12_enters 1 = .ok (.getfield 156, 3) := by decide +kernel
theorem dX12_enters_4 : decode cX12_enters 4 = .ok (.iload_n 1, 1) := by decide +kernel
theorem dX12_enters_5 : decode cX12_enters 5 = .ok (.iaload, 1) := by decide +kernel
theorem dX12_enters_6 : decode cX12_enters 6 = .ok (.istore_n 2, 1) := by decide +kernel
theorem dX12_enters_7 : decode cX12_enters 7 = .ok (.iload_n 2, 1) := by decide +kernel
theorem dX12_enters_8 : decode cX12_enters 8 = .ok (.ifCond .ne 4, 3) := by decide +kernel
theorem dX12_enters_11 : decode cX12_enters 11 = .ok (.return_, 1) := by decide +kernel
theorem dX12_enters_12 : decode cX12_enters 12 = .ok (.aload_n 0, 1) := by decide +kernel
theorem dX12_enters_13 : decode cX12_enters 13 = .ok (.getfield 107, 3) := by decide +kernel
theorem dX12_enters_16 : decode cX12_enters 16 = .ok (.iload_n 2, 1) := by decide +kernel
theorem dX12_enters_17 : decode cX12_enters 17 = .ok (.baload, 1) := by decide +kernel
theorem dX12_enters_18 : decode cX12_enters 18 = .ok (.ifCond .ne 11, 3) := by decide +kernel
theorem dX12_enters_21 : decode cX12_enters 21 = .ok (.iload_n 2, 1) := by decide +kernel
theorem dX12_enters_22 : decode cX12_enters 22 = .ok (.aload_n 0, 1) := by decide +kernel
theorem dX12_enters_23 : decode cX12_enters 23 = .ok (.getfield 421, 3) := by decide +kernel
theorem dX12_enters_26 : decode cX12_enters 26 = .ok (.if_icmp .ne 14, 3) := by decide +kernel
theorem dX12_enters_29 : decode cX12_enters 29 = .ok (.aload_n 0, 1) := by decide +kernel
theorem dX12_enters_30 : decode cX12_enters 30 = .ok (.dup, 1) := by decide +kernel
theorem dX12_enters_31 : decode cX12_enters 31 = .ok (.getfield 497, 3) := by decide +kernel
theorem dX12_enters_34 : decode cX12_enters 34 = .ok (.iconst 1, 1) := by decide +kernel
theorem dX12_enters_35 : decode cX12_enters 35 = .ok (.iadd, 1) := by decide +kernel
theorem dX12_enters_36 : decode cX12_enters 36 = .ok (.putfield 497, 3) := by decide +kernel
theorem dX12_enters_39 : decode cX12_enters 39 = .ok (.return_, 1) := by decide +kernel
theorem dX12_enters_40 : decode cX12_enters 40 = .ok (.aload_n 0, 1) := by decide +kernel
theorem dX12_enters_41 : decode cX12_enters 41 = .ok (.getfield 104, 3) := by decide +kernel
theorem dX12_enters_44 : decode cX12_enters 44 = .ok (.iload_n 2, 1) := by decide +kernel
theorem dX12_enters_45 : decode cX12_enters 45 = .ok (.aload_n 0, 1) := by decide +kernel
theorem dX12_enters_46 : decode cX12_enters 46 = .ok (.getfield 421, 3) := by decide +kernel
theorem dX12_enters_49 : decode cX12_enters 49 = .ok (.iastore, 1) := by decide +kernel
theorem dX12_enters_50 : decode cX12_enters 50 = .ok (.aload_n 0, 1) := by decide +kernel
theorem dX12_enters_51 : decode cX12_enters 51 = .ok (.getfield 107, 3) := by decide +kernel
theorem dX12_enters_54 : decode cX12_enters 54 = .ok (.iload_n 2, 1) := by decide +kernel
theorem dX12_enters_55 : decode cX12_enters 55 = .ok (.iconst 1, 1) := by decide +kernel
theorem dX12_enters_56 : decode cX12_enters 56 = .ok (.bastore, 1) := by decide +kernel
theorem dX12_enters_57 : decode cX12_enters 57 = .ok (.aload_n 0, 1) := by decide +kernel
theorem dX12_enters_58 : decode cX12_enters 58 = .ok (.iload_n 2, 1) := by decide +kernel
theorem dX12_enters_59 : decode cX12_enters 59 = .ok (.putfield 421, 3) := by decide +kernel
theorem dX12_enters_62 : decode cX12_enters 62 = .ok (.return_, 1) := by decide +kernel
theorem dX12_deals_0 : decode cX12_deals 0 = .ok (.aload_n 0, 1) := by decide +kernel
theorem dX12_deals_1 : decode cX12_deals 1 = .ok (.iload_n 1, 1) := by decide +kernel
theorem dX12_deals_2 : decode cX12_deals 2 = .ok (.iload_n 2, 1) := by decide +kernel
theorem dX12_deals_3 : decode cX12_deals 3 = .ok (.iload_n 3, 1) := by decide +kernel
theorem dX12_deals_4 : decode cX12_deals 4 = .ok (.iload 4, 2) := by decide +kernel
theorem dX12_deals_6 : decode cX12_deals 6 = .ok (.invokevirtual 509, 3) := by decide +kernel
theorem dX12_deals_9 : decode cX12_deals 9 = .ok (.aload_n 0, 1) := by decide +kernel
theorem dX12_deals_10 : decode cX12_deals 10 = .ok (.getfield 398, 3) := by decide +kernel
theorem dX12_deals_13 : decode cX12_deals 13 = .ok (.ifCond .ne 18, 3) := by decide +kernel
theorem dX12_deals_16 : decode cX12_deals 16 = .ok (.aload_n 0, 1) := by decide +kernel
theorem dX12_deals_17 : decode cX12_deals 17 = .ok (.getfield 421, 3) := by decide +kernel
theorem dX12_deals_20 : decode cX12_deals 20 = .ok (.ifCond .eq 11, 3) := by decide +kernel
theorem dX12_deals_23 : decode cX12_deals 23 = .ok (.aload_n 0, 1) := by decide +kernel
theorem dX12_deals_24 : decode cX12_deals 24 = .ok (.getfield 144, 3) := by decide +kernel
theorem dX12_deals_27 : decode cX12_deals 27 = .ok (.iconst (-1), 1) := by decide +kernel
theorem dX12_deals_28 : decode cX12_deals 28 = .ok (.if_icmp .eq 4, 3) := by decide +kernel
theorem dX12_deals_31 : decode cX12_deals 31 = .ok (.return_, 1) := by decide +kernel
theorem dX12_deals_32 : decode cX12_deals 32 = .ok (.aload_n 0, 1) := by decide +kernel
theorem dX12_deals_33 : decode cX12_deals 33 = .ok (.getfield 92, 3) := by decide +kernel
theorem dX12_deals_36 : decode cX12_deals 36 = .ok (.aload_n 0, 1) := by decide +kernel
theorem dX12_deals_37 : decode cX12_deals 37 = .ok (.getfield 421, 3) := by decide +kernel
theorem dX12_deals_40 : decode cX12_deals 40 = .ok (.iaload, 1) := by decide +kernel
theorem dX12_deals_41 : decode cX12_deals 41 = .ok (.istore 5, 2) := by decide +kernel
theorem dX12_deals_43 : decode cX12_deals 43 = .ok (.iload 5, 2) := by decide +kernel
theorem dX12_deals_45 : decode cX12_deals 45 = .ok (.iconst (-1), 1) := by decide +kernel
theorem dX12_deals_46 : decode cX12_deals 46 = .ok (.if_icmp .eq 28, 3) := by decide +kernel
theorem dX12_deals_49 : decode cX12_deals 49 = .ok (.aload_n 0, 1) := by decide +kernel
theorem dX12_deals_50 : decode cX12_deals 50 = .ok (.getfield 150, 3) := by decide +kernel
theorem dX12_deals_53 : decode cX12_deals 53 = .ok (.bipush 7, 2) := by decide +kernel
theorem dX12_deals_55 : decode cX12_deals 55 = .ok (.iload_n 1, 1) := by decide +kernel
theorem dX12_deals_56 : decode cX12_deals 56 = .ok (.imul, 1) := by decide +kernel
theorem dX12_deals_57 : decode cX12_deals 57 = .ok (.iload 5, 2) := by decide +kernel
theorem dX12_deals_59 : decode cX12_deals 59 = .ok (.iadd, 1) := by decide +kernel
theorem dX12_deals_60 : decode cX12_deals 60 = .ok (.iaload, 1) := by decide +kernel
theorem dX12_deals_61 : decode cX12_deals 61 = .ok (.ifCond .ne 13, 3) := by decide +kernel
theorem dX12_deals_64 : decode cX12_deals 64 = .ok (.iload 5, 2) := by decide +kernel
theorem dX12_deals_66 : decode cX12_deals 66 = .ok (.invokestatic 389, 3) := by decide +kernel
theorem dX12_deals_69 : decode cX12_deals 69 = .ok (.istore 5, 2) := by decide +kernel
theorem dX12_deals_71 : decode cX12_deals 71 = .ok (.goto (-28), 3) := by decide +kernel
theorem dX12_deals_74 : decode cX12_deals 74 = .ok (.iload 5, 2) := by decide +kernel
theorem dX12_deals_76 : decode cX12_deals 76 = .ok (.iconst (-1), 1) := by decide +kernel
theorem dX12_deals_77 : decode cX12_deals 77 = .ok (.if_icmp .ne 4, 3) := by decide +kernel
theorem dX12_deals_80 : decode cX12_deals 80 = .ok (.return_, 1) := by decide +kernel
theorem dX12_deals_81 : decode cX12_deals 81 = .ok (.aload_n 0, 1) := by decide +kernel
theorem dX12_deals_82 : decode cX12_deals 82 = .ok (.getfield 150, 3) := by decide +kernel
theorem dX12_deals_85 : decode cX12_deals 85 = .ok (.bipush 7, 2) := by decide +kernel
theorem dX12_deals_87 : decode cX12_deals 87 = .ok (.iload_n 1, 1) := by decide +kernel
theorem dX12_deals_88 : decode cX12_deals 88 = .ok (.imul, 1) := by decide +kernel
theorem dX12_deals_89 : decode cX12_deals 89 = .ok (.iload 5, 2) := by decide +kernel
theorem dX12_deals_91 : decode cX12_deals 91 = .ok (.iadd, 1) := by decide +kernel
theorem dX12_deals_92 : decode cX12_deals 92 = .ok (.iaload, 1) := by decide +kernel
theorem dX12_deals_93 : decode cX12_deals 93 = .ok (.iconst 1, 1) := by decide +kernel
theorem dX12_deals_94 : decode cX12_deals 94 = .ok (.isub, 1) := by decide +kernel
theorem dX12_deals_95 : decode cX12_deals 95 = .ok (.istore 6, 2) := by decide +kernel
theorem dX12_deals_97 : decode cX12_deals 97 = .ok (.aload_n 0, 1) := by decide +kernel
theorem dX12_deals_98 : decode cX12_deals 98 = .ok (.getfield 153, 3) := by decide +kernel
theorem dX12_deals_101 : decode cX12_deals 101 = .ok (.bipush 7, 2) := by decide +kernel
theorem dX12_deals_103 : decode cX12_deals 103 = .ok (.iload_n 1, 1) := by decide +kernel
theorem dX12_deals_104 : decode cX12_deals 104 = .ok (.imul, 1) := by decide +kernel
theorem dX12_deals_105 : decode cX12_deals 105 = .ok (.iload 5, 2) := by decide +kernel
theorem dX12_deals_107 : decode cX12_deals 107 = .ok (.iadd, 1) := by decide +kernel
theorem dX12_deals_108 : decode cX12_deals 108 = .ok (.iaload, 1) := by decide +kernel
theorem dX12_deals_109 : decode cX12_deals 109 = .ok (.istore 7, 2) := by decide +kernel
theorem dX12_deals_111 : decode cX12_deals 111 = .ok (.iload 6, 2) := by decide +kernel
theorem dX12_deals_113 : decode cX12_deals 113 = .ok (.tableswitch 105 0 4 #[35, 38, 46, 75, 97], 35) := by decide +kernel
theorem dX12_deals_148 : decode cX12_deals 148 = .ok (.goto 88, 3) := by decide +kernel
theorem dX12_deals_151 : decode cX12_deals 151 = .ok (.aload_n 0, 1) := by decide +kernel
theorem dX12_deals_152 : decode cX12_deals 152 = .ok (.iload_n 1, 1) := by decide +kernel
theorem dX12_deals_153 : decode cX12_deals 153 = .ok (.putfield 144, 3) := by decide +kernel
theorem dX12_deals_156 : decode cX12_deals 156 = .ok (.goto 80, 3) := by decide +kernel
theorem dX12_deals_159 : decode cX12_deals 159 = .ok (.aload_n 0, 1) := by decide +kernel
theorem dX12_deals_160 : decode cX12_deals 160 = .ok (.aload_n 0, 1) := by decide +kernel
theorem dX12_deals_161 : decode cX12_deals 161 = .ok (.iload 7, 2) := by decide +kernel
theorem dX12_deals_163 : decode cX12_deals 163 = .ok (.aload_n 0, 1) := by decide +kernel
theorem dX12_deals_164 : decode cX12_deals 164 = .ok (.getfield 95, 3) := by decide +kernel
theorem dX12_deals_167 : decode cX12_deals 167 = .ok (.aload_n 0, 1) := by decide +kernel
theorem dX12_deals_168 : decode cX12_deals 168 = .ok (.getfield 421, 3) := by decide +kernel
theorem dX12_deals_171 : decode cX12_deals 171 = .ok (.iaload, 1) := by decide +kernel
theorem dX12_deals_172 : decode cX12_deals 172 = .ok (.iconst 0, 1) := by decide +kernel
theorem dX12_deals_173 : decode cX12_deals 173 = .ok (.iconst (-1), 1) := by decide +kernel
theorem dX12_deals_174 : decode cX12_deals 174 = .ok (.aload_n 0, 1) := by decide +kernel
theorem dX12_deals_175 : decode cX12_deals 175 = .ok (.getfield 421, 3) := by decide +kernel
theorem dX12_deals_178 : decode cX12_deals 178 = .ok (.iconst 1, 1) := by decide +kernel
theorem dX12_deals_179 : decode cX12_deals 179 = .ok (.invokevirtual 444, 3) := by decide +kernel
theorem dX12_deals_182 : decode cX12_deals 182 = .ok (.putfield 421, 3) := by decide +kernel
theorem dX12_deals_185 : decode cX12_deals 185 = .ok (.goto 51, 3) := by decide +kernel
theorem dX12_deals_188 : decode cX12_deals 188 = .ok (.aload_n 0, 1) := by decide +kernel
theorem dX12_deals_189 : decode cX12_deals 189 = .ok (.dup, 1) := by decide +kernel
theorem dX12_deals_190 : decode cX12_deals 190 = .ok (.getfield 512, 3) := by decide +kernel
theorem dX12_deals_193 : decode cX12_deals 193 = .ok (.iconst 1, 1) := by decide +kernel
theorem dX12_deals_194 : decode cX12_deals 194 = .ok (.iadd, 1) := by decide +kernel
theorem dX12_deals_195 : decode cX12_deals 195 = .ok (.putfield 512, 3) := by decide +kernel
theorem dX12_deals_198 : decode cX12_deals 198 = .ok (.aload_n 0, 1) := by decide +kernel
theorem dX12_deals_199 : decode cX12_deals 199 = .ok (.iload_n 1, 1) := by decide +kernel
theorem dX12_deals_200 : decode cX12_deals 200 = .ok (.iload_n 2, 1) := by decide +kernel
theorem dX12_deals_201 : decode cX12_deals 201 = .ok (.iload_n 3, 1) := by decide +kernel
theorem dX12_deals_202 : decode cX12_deals 202 = .ok (.iload 4, 2) := by decide +kernel
theorem dX12_deals_204 : decode cX12_deals 204 = .ok (.invokevirtual 509, 3) := by decide +kernel
theorem dX12_deals_207 : decode cX12_deals 207 = .ok (.goto 29, 3) := by decide +kernel
theorem dX12_deals_210 : decode cX12_deals 210 = .ok (.aload_n 0, 1) := by decide +kernel
theorem dX12_deals_211 : decode cX12_deals 211 = .ok (.iload_n 1, 1) := by decide +kernel
theorem dX12_deals_212 : decode cX12_deals 212 = .ok (.invokevirtual 515, 3) := by decide +kernel
theorem dX12_deals_215 : decode cX12_deals 215 = .ok (.goto 21, 3) := by decide +kernel
theorem dX12_deals_218 : decode cX12_deals 218 = .ok (.aload_n 0, 1) := by decide +kernel
theorem dX12_deals_219 : decode cX12_deals 219 = .ok (.aload_n 0, 1) := by decide +kernel
theorem dX12_deals_220 : decode cX12_deals 220 = .ok (.getfield 421, 3) := by decide +kernel
theorem dX12_deals_223 : decode cX12_deals 223 = .ok (.invokevirtual 491, 3) := by decide +kernel
theorem dX12_deals_226 : decode cX12_deals 226 = .ok (.iload 7, 2) := by decide +kernel
theorem dX12_deals_228 : decode cX12_deals 228 = .ok (.if_icmp .ge 8, 3) := by decide +kernel
theorem dX12_deals_231 : decode cX12_deals 231 = .ok (.aload_n 0, 1) := by decide +kernel
theorem dX12_deals_232 : decode cX12_deals 232 = .ok (.iload_n 1, 1) := by decide +kernel
theorem dX12_deals_233 : decode cX12_deals 233 = .ok (.putfield 144, 3) := by decide +kernel
theorem dX12_deals_236 : decode cX12_deals 236 = .ok (.return_, 1) := by decide +kernel
theorem dX12_trial_0 : decode cX12_trial 0 = .ok (.iload_n 1, 1) := by decide +kernel
theorem dX12_trial_1 : decode cX12_trial 1 = .ok (.ifCond .lt 25, 3) := by decide +kernel
theorem dX12_trial_4 : decode cX12_trial 4 = .ok (.iload_n 1, 1) := by decide +kernel
theorem dX12_trial_5 : decode cX12_trial 5 = .ok (.aload_n 0, 1) := by decide +kernel
theorem dX12_trial_6 : decode cX12_trial 6 = .ok (.getfield 386, 3) := by decide +kernel
theorem dX12_trial_9 : decode cX12_trial 9 = .ok (.if_icmp .ge 17, 3) := by decide +kernel
theorem dX12_trial_12 : decode cX12_trial 12 = .ok (.iload 4, 2) := by decide +kernel
theorem dX12_trial_14 : decode cX12_trial 14 = .ok (.iconst 1, 1) := by decide +kernel
theorem dX12_trial_15 : decode cX12_trial 15 = .ok (.if_icmp .lt 11, 3) := by decide +kernel
theorem dX12_trial_18 : decode cX12_trial 18 = .ok (.iload 4, 2) := by decide +kernel
theorem dX12_trial_20 : decode cX12_trial 20 = .ok (.sipush 5000, 3) := by decide +kernel
theorem dX12_trial_23 : decode cX12_trial 23 = .ok (.if_icmp .le 5, 3) := by decide +kernel
theorem dX12_trial_26 : decode cX12_trial 26 = .ok (.iconst (-1), 1) := by decide +kernel
theorem dX12_trial_27 : decode cX12_trial 27 = .ok (.ireturn, 1) := by decide +kernel
theorem dX12_trial_28 : decode cX12_trial 28 = .ok (.aload_n 0, 1) := by decide +kernel
theorem dX12_trial_29 : decode cX12_trial 29 = .ok (.iconst 0, 1) := by decide +kernel
theorem dX12_trial_30 : decode cX12_trial 30 = .ok (.putfield 450, 3) := by decide +kernel
theorem dX12_trial_33 : decode cX12_trial 33 = .ok (.aload_n 0, 1) := by decide +kernel
theorem dX12_trial_34 : decode cX12_trial 34 = .ok (.iload 4, 2) := by decide +kernel
theorem dX12_trial_36 : decode cX12_trial 36 = .ok (.putfield 453, 3) := by decide +kernel
theorem dX12_trial_39 : decode cX12_trial 39 = .ok (.aload_n 0, 1) := by decide +kernel
theorem dX12_trial_40 : decode cX12_trial 40 = .ok (.iconst 0, 1) := by decide +kernel
theorem dX12_trial_41 : decode cX12_trial 41 = .ok (.putfield 500, 3) := by decide +kernel
theorem dX12_trial_44 : decode cX12_trial 44 = .ok (.aload_n 0, 1) := by decide +kernel
theorem dX12_trial_45 : decode cX12_trial 45 = .ok (.iconst 0, 1) := by decide +kernel
theorem dX12_trial_46 : decode cX12_trial 46 = .ok (.putfield 512, 3) := by decide +kernel
theorem dX12_trial_49 : decode cX12_trial 49 = .ok (.aload_n 0, 1) := by decide +kernel
theorem dX12_trial_50 : decode cX12_trial 50 = .ok (.iconst 0, 1) := by decide +kernel
theorem dX12_trial_51 : decode cX12_trial 51 = .ok (.putfield 415, 3) := by decide +kernel
theorem dX12_trial_54 : decode cX12_trial 54 = .ok (.aload_n 0, 1) := by decide +kernel
theorem dX12_trial_55 : decode cX12_trial 55 = .ok (.iconst 0, 1) := by decide +kernel
theorem dX12_trial_56 : decode cX12_trial 56 = .ok (.putfield 392, 3) := by decide +kernel
theorem dX12_trial_59 : decode cX12_trial 59 = .ok (.aload_n 0, 1) := by decide +kernel
theorem dX12_trial_60 : decode cX12_trial 60 = .ok (.iconst 0, 1) := by decide +kernel
theorem dX12_trial_61 : decode cX12_trial 61 = .ok (.putfield 398, 3) := by decide +kernel
theorem dX12_trial_64 : decode cX12_trial 64 = .ok (.aload_n 0, 1) := by decide +kernel
theorem dX12_trial_65 : decode cX12_trial 65 = .ok (.iconst (-1), 1) := by decide +kernel
theorem dX12_trial_66 : decode cX12_trial 66 = .ok (.putfield 144, 3) := by decide +kernel
theorem dX12_trial_69 : decode cX12_trial 69 = .ok (.aload_n 0, 1) := by decide +kernel
theorem dX12_trial_70 : decode cX12_trial 70 = .ok (.iconst 0, 1) := by decide +kernel
theorem dX12_trial_71 : decode cX12_trial 71 = .ok (.putfield 441, 3) := by decide +kernel
theorem dX12_trial_74 : decode cX12_trial 74 = .ok (.aload_n 0, 1) := by decide +kernel
theorem dX12_trial_75 : decode cX12_trial 75 = .ok (.iconst 2, 1) := by decide +kernel
theorem dX12_trial_76 : decode cX12_trial 76 = .ok (.sipush 400, 3) := by decide +kernel
theorem dX12_trial_79 : decode cX12_trial 79 = .ok (.aload_n 0, 1) := by decide +kernel
theorem dX12_trial_80 : decode cX12_trial 80 = .ok (.getfield 70, 3) := by decide +kernel
theorem dX12_trial_83 : decode cX12_trial 83 = .ok (.imul, 1) := by decide +kernel
theorem dX12_trial_84 : decode cX12_trial 84 = .ok (.iload_n 1, 1) := by decide +kernel
theorem dX12_trial_85 : decode cX12_trial 85 = .ok (.iadd, 1) := by decide +kernel
theorem dX12_trial_86 : decode cX12_trial 86 = .ok (.iload_n 2, 1) := by decide +kernel
theorem dX12_trial_87 : decode cX12_trial 87 = .ok (.iload_n 3, 1) := by decide +kernel
theorem dX12_trial_88 : decode cX12_trial 88 = .ok (.invokevirtual 505, 3) := by decide +kernel
theorem dX12_trial_91 : decode cX12_trial 91 = .ok (.aload_n 0, 1) := by decide +kernel
theorem dX12_trial_92 : decode cX12_trial 92 = .ok (.aload_n 0, 1) := by decide +kernel
theorem dX12_trial_93 : decode cX12_trial 93 = .ok (.getfield 398, 3) := by decide +kernel
theorem dX12_trial_96 : decode cX12_trial 96 = .ok (.ifCond .eq 7, 3) := by decide +kernel
theorem dX12_trial_99 : decode cX12_trial 99 = .ok (.iconst 3, 1) := by decide +kernel
theorem dX12_trial_100 : decode cX12_trial 100 = .ok (.goto 27, 3) := by decide +kernel
theorem dX12_trial_103 : decode cX12_trial 103 = .ok (.aload_n 0, 1) := by decide +kernel
theorem dX12_trial_104 : decode cX12_trial 104 = .ok (.getfield 144, 3) := by decide +kernel
theorem dX12_trial_107 : decode cX12_trial 107 = .ok (.iconst (-1), 1) := by decide +kernel
theorem dX12_trial_108 : decode cX12_trial 108 = .ok (.if_icmp .eq 7, 3) := by decide +kernel
theorem dX12_trial_111 : decode cX12_trial 111 = .ok (.iconst 1, 1) := by decide +kernel
theorem dX12_trial_112 : decode cX12_trial 112 = .ok (.goto 15, 3) := by decide +kernel
theorem dX12_trial_115 : decode cX12_trial 115 = .ok (.aload_n 0, 1) := by decide +kernel
theorem dX12_trial_116 : decode cX12_trial 116 = .ok (.getfield 421, 3) := by decide +kernel
theorem dX12_trial_119 : decode cX12_trial 119 = .ok (.ifCond .eq 7, 3) := by decide +kernel
theorem dX12_trial_122 : decode cX12_trial 122 = .ok (.iconst 2, 1) := by decide +kernel
theorem dX12_trial_123 : decode cX12_trial 123 = .ok (.goto 4, 3) := by decide +kernel
theorem dX12_trial_126 : decode cX12_trial 126 = .ok (.iconst 0, 1) := by decide +kernel
theorem dX12_trial_127 : decode cX12_trial 127 = .ok (.putfield 141, 3) := by decide +kernel
theorem dX12_trial_130 : decode cX12_trial 130 = .ok (.aload_n 0, 1) := by decide +kernel
theorem dX12_trial_131 : decode cX12_trial 131 = .ok (.getfield 398, 3) := by decide +kernel
theorem dX12_trial_134 : decode cX12_trial 134 = .ok (.ifCond .eq 8, 3) := by decide +kernel
theorem dX12_trial_137 : decode cX12_trial 137 = .ok (.aload_n 0, 1) := by decide +kernel
theorem dX12_trial_138 : decode cX12_trial 138 = .ok (.iconst (-1), 1) := by decide +kernel
theorem dX12_trial_139 : decode cX12_trial 139 = .ok (.putfield 144, 3) := by decide +kernel
theorem dX12_trial_142 : decode cX12_trial 142 = .ok (.aload_n 0, 1) := by decide +kernel
theorem dX12_trial_143 : decode cX12_trial 143 = .ok (.aload_n 0, 1) := by decide +kernel
theorem dX12_trial_144 : decode cX12_trial 144 = .ok (.getfield 141, 3) := by decide +kernel
theorem dX12_trial_147 : decode cX12_trial 147 = .ok (.ifCond .ne 10, 3) := by decide +kernel
theorem dX12_trial_150 : decode cX12_trial 150 = .ok (.aload_n 0, 1) := by decide +kernel
theorem dX12_trial_151 : decode cX12_trial 151 = .ok (.getfield 441, 3) := by decide +kernel
theorem dX12_trial_154 : decode cX12_trial 154 = .ok (.goto 4, 3) := by decide +kernel
theorem dX12_trial_157 : decode cX12_trial 157 = .ok (.iconst 0, 1) := by decide +kernel
theorem dX12_trial_158 : decode cX12_trial 158 = .ok (.putfield 518, 3) := by decide +kernel
theorem dX12_trial_161 : decode cX12_trial 161 = .ok (.aload_n 0, 1) := by decide +kernel
theorem dX12_trial_162 : decode cX12_trial 162 = .ok (.aload_n 0, 1) := by decide +kernel
theorem dX12_trial_163 : decode cX12_trial 163 = .ok (.getfield 141, 3) := by decide +kernel
theorem dX12_trial_166 : decode cX12_trial 166 = .ok (.iconst 1, 1) := by decide +kernel
theorem dX12_trial_167 : decode cX12_trial 167 = .ok (.if_icmp .eq 11, 3) := by decide +kernel
theorem dX12_trial_170 : decode cX12_trial 170 = .ok (.aload_n 0, 1) := by decide +kernel
theorem dX12_trial_171 : decode cX12_trial 171 = .ok (.getfield 141, 3) := by decide +kernel
theorem dX12_trial_174 : decode cX12_trial 174 = .ok (.iconst 2, 1) := by decide +kernel
theorem dX12_trial_175 : decode cX12_trial 175 = .ok (.if_icmp .ne 10, 3) := by decide +kernel
theorem dX12_trial_178 : decode cX12_trial 178 = .ok (.aload_n 0, 1) := by decide +kernel
theorem dX12_trial_179 : decode cX12_trial 179 = .ok (.getfield 421, 3) := by decide +kernel
theorem dX12_trial_182 : decode cX12_trial 182 = .ok (.goto 4, 3) := by decide +kernel
theorem dX12_trial_185 : decode cX12_trial 185 = .ok (.iconst 0, 1) := by decide +kernel
theorem dX12_trial_186 : decode cX12_trial 186 = .ok (.putfield 521, 3) := by decide +kernel
theorem dX12_trial_189 : decode cX12_trial 189 = .ok (.aload_n 0, 1) := by decide +kernel
theorem dX12_trial_190 : decode cX12_trial 190 = .ok (.getfield 141, 3) := by decide +kernel
theorem dX12_trial_193 : decode cX12_trial 193 = .ok (.ireturn, 1) := by decide +kernel
theorem dX12_about_0 : decode cX12_about 0 = .ok (.iload_n 1, 1) := by decide +kernel
theorem dX12_about_1 : decode cX12_about 1 = .ok (.tableswitch 105 0 9 #[55, 60, 65, 70, 75, 80, 85, 90, 95, 100], 55) := by decide +kernel
theorem dX12_about_56 : decode cX12_about 56 = .ok (.aload_n 0, 1) := by decide +kernel
theorem dX12_about_57 : decode cX12_about 57 = .ok (.getfield 141, 3) := by decide +kernel
theorem dX12_about_60 : decode cX12_about 60 = .ok (.ireturn, 1) := by decide +kernel
theorem dX12_about_61 : decode cX12_about 61 = .ok (.aload_n 0, 1) := by decide +kernel
theorem dX12_about_62 : decode cX12_about 62 = .ok (.getfield 518, 3) := by decide +kernel
theorem dX12_about_65 : decode cX12_about 65 = .ok (.ireturn, 1) := by decide +kernel
theorem dX12_about_66 : decode cX12_about 66 = .ok (.aload_n 0, 1) := by decide +kernel
theorem dX12_about_67 : decode cX12_about 67 = .ok (.getfield 144, 3) := by decide +kernel
theorem dX12_about_70 : decode cX12_about 70 = .ok (.ireturn, 1) := by decide +kernel
theorem dX12_about_71 : decode cX12_about 71 = .ok (.aload_n 0, 1) := by decide +kernel
theorem dX12_about_72 : decode cX12_about 72 = .ok (.getfield 450, 3) := by decide +kernel
theorem dX12_about_75 : decode cX12_about 75 = .ok (.ireturn, 1) := by decide +kernel
theorem dX12_about_76 : decode cX12_about 76 = .ok (.aload_n 0, 1) := by decide +kernel
theorem dX12_about_77 : decode cX12_about 77 = .ok (.getfield 500, 3) := by decide +kernel
theorem dX12_about_80 : decode cX12_about 80 = .ok (.ireturn, 1) := by decide +kernel
theorem dX12_about_81 : decode cX12_about 81 = .ok (.aload_n 0, 1) := by decide +kernel
theorem dX12_about_82 : decode cX12_about 82 = .ok (.getfield 512, 3) := by decide +kernel
theorem dX12_about_85 : decode cX12_about 85 = .ok (.ireturn, 1) := by decide +kernel
theorem dX12_about_86 : decode cX12_about 86 = .ok (.aload_n 0, 1) := by decide +kernel
theorem dX12_about_87 : decode cX12_about 87 = .ok (.getfield 415, 3) := by decide +kernel
theorem dX12_about_90 : decode cX12_about 90 = .ok (.ireturn, 1) := by decide +kernel
theorem dX12_about_91 : decode cX12_about 91 = .ok (.aload_n 0, 1) := by decide +kernel
theorem dX12_about_92 : decode cX12_about 92 = .ok (.getfield 395, 3) := by decide +kernel
theorem dX12_about_95 : decode cX12_about 95 = .ok (.ireturn, 1) := by decide +kernel
theorem dX12_about_96 : decode cX12_about 96 = .ok (.aload_n 0, 1) := by decide +kernel
theorem dX12_about_97 : decode cX12_about 97 = .ok (.getfield 497, 3) := by decide +kernel
theorem dX12_about_100 : decode cX12_about 100 = .ok (.ireturn, 1) := by decide +kernel
theorem dX12_about_101 : decode cX12_about 101 = .ok (.aload_n 0, 1) := by decide +kernel
theorem dX12_about_102 : decode cX12_about 102 = .ok (.getfield 386, 3) := by decide +kernel
theorem dX12_about_105 : decode cX12_about 105 = .ok (.ireturn, 1) := by decide +kernel
theorem dX12_about_106 : decode cX12_about 106 = .ok (.iconst (-1), 1) := by decide +kernel
theorem dX12_about_107 : decode cX12_about 107 = .ok (.ireturn, 1) := by decide +kernel
theorem dX12_note__0 : decode cX12_note_ 0 = .ok (.iload_n 1, 1) := by decide +kernel
theorem dX12_note__1 : decode cX12_note_ 1 = .ok (.ifCond .lt 20, 3) := by decide +kernel
theorem dX12_note__4 : decode cX12_note_ 4 = .ok (.iload_n 1, 1) := by decide +kernel
theorem dX12_note__5 : decode cX12_note_ 5 = .ok (.aload_n 0, 1) := by decide +kernel
theorem dX12_note__6 : decode cX12_note_ 6 = .ok (.getfield 500, 3) := by decide +kernel
theorem dX12_note__9 : decode cX12_note_ 9 = .ok (.if_icmp .ge 12, 3) := by decide +kernel
theorem dX12_note__12 : decode cX12_note_ 12 = .ok (.aload_n 0, 1) := by decide +kernel
theorem dX12_note__13 : decode cX12_note_ 13 = .ok (.getfield 147, 3) := by decide +kernel
theorem dX12_note__16 : decode cX12_note_ 16 = .ok (.iload_n 1, 1) := by decide +kernel
theorem dX12_note__17 : decode cX12_note_ 17 = .ok (.iaload, 1) := by decide +kernel
theorem dX12_note__18 : decode cX12_note_ 18 = .ok (.goto 4, 3) := by decide +kernel
theorem dX12_note__21 : decode cX12_note_ 21 = .ok (.iconst 0, 1) := by decide +kernel
theorem dX12_note__22 : decode cX12_note_ 22 = .ok (.ireturn, 1) := by decide +kernel
theorem dX12_told__0 : decode cX12_told_ 0 = .ok (.iload_n 1, 1) := by decide +kernel
theorem dX12_told__1 : decode cX12_told_ 1 = .ok (.istore 5, 2) := by decide +kernel
theorem dX12_told__3 : decode cX12_told_ 3 = .ok (.iload_n 2, 1) := by decide +kernel
theorem dX12_told__4 : decode cX12_told_ 4 = .ok (.ifCond .lt 9, 3) := by decide +kernel
theorem dX12_told__7 : decode cX12_told_ 7 = .ok (.iload_n 2, 1) := by decide +kernel
theorem dX12_told__8 : decode cX12_told_ 8 = .ok (.bipush 50, 2) := by decide +kernel
theorem dX12_told__10 : decode cX12_told_ 10 = .ok (.if_icmp .lt 6, 3) := by decide +kernel
theorem dX12_told__13 : decode cX12_told_ 13 = .ok (.iconst 0, 1) := by decide +kernel
theorem dX12_told__14 : decode cX12_told_ 14 = .ok (.istore 5, 2) := by decide +kernel
theorem dX12_told__16 : decode cX12_told_ 16 = .ok (.iconst 0, 1) := by decide +kernel
theorem dX12_told__17 : decode cX12_told_ 17 = .ok (.istore 6, 2) := by decide +kernel
theorem dX12_told__19 : decode cX12_told_ 19 = .ok (.iload 6, 2) := by decide +kernel
theorem dX12_told__21 : decode cX12_told_ 21 = .ok (.iload_n 2, 1) := by decide +kernel
theorem dX12_told__22 : decode cX12_told_ 22 = .ok (.if_icmp .ge 23, 3) := by decide +kernel
theorem dX12_told__25 : decode cX12_told_ 25 = .ok (.iload 5, 2) := by decide +kernel
theorem dX12_told__27 : decode cX12_told_ 27 = .ok (.ifCond .le 18, 3) := by decide +kernel
theorem dX12_told__30 : decode cX12_told_ 30 = .ok (.aload_n 0, 1) := by decide +kernel
theorem dX12_told__31 : decode cX12_told_ 31 = .ok (.getfield 104, 3) := by decide +kernel
theorem dX12_told__34 : decode cX12_told_ 34 = .ok (.iload 5, 2) := by decide +kernel
theorem dX12_told__36 : decode cX12_told_ 36 = .ok (.iaload, 1) := by decide +kernel
theorem dX12_told__37 : decode cX12_told_ 37 = .ok (.istore 5, 2) := by decide +kernel
theorem dX12_told__39 : decode cX12_told_ 39 = .ok (.iinc 6 1, 3) := by decide +kernel
theorem dX12_told__42 : decode cX12_told_ 42 = .ok (.goto (-23), 3) := by decide +kernel
theorem dX12_told__45 : decode cX12_told_ 45 = .ok (.iload 5, 2) := by decide +kernel
theorem dX12_told__47 : decode cX12_told_ 47 = .ok (.ifCond .ne 13, 3) := by decide +kernel
theorem dX12_told__50 : decode cX12_told_ 50 = .ok (.iload_n 3, 1) := by decide +kernel
theorem dX12_told__51 : decode cX12_told_ 51 = .ok (.ifCond .ne 7, 3) := by decide +kernel
theorem dX12_told__54 : decode cX12_told_ 54 = .ok (.iconst (-1), 1) := by decide +kernel
theorem dX12_told__55 : decode cX12_told_ 55 = .ok (.goto 4, 3) := by decide +kernel
theorem dX12_told__58 : decode cX12_told_ 58 = .ok (.iconst 0, 1) := by decide +kernel
theorem dX12_told__59 : decode cX12_told_ 59 = .ok (.ireturn, 1) := by decide +kernel
theorem dX12_told__60 : decode cX12_told_ 60 = .ok (.iload_n 3, 1) := by decide +kernel
theorem dX12_told__61 : decode cX12_told_ 61 = .ok (.tableswitch 101 0 6 #[43, 51, 59, 67, 70, 78, 94], 43) := by decide +kernel
theorem dX12_told__104 : decode cX12_told_ 104 = .ok (.aload_n 0, 1) := by decide +kernel
theorem dX12_told__105 : decode cX12_told_ 105 = .ok (.getfield 92, 3) := by decide +kernel
theorem dX12_told__108 : decode cX12_told_ 108 = .ok (.iload 5, 2) := by decide +kernel
theorem dX12_told__110 : decode cX12_told_ 110 = .ok (.iaload, 1) := by decide +kernel
theorem dX12_told__111 : decode cX12_told_ 111 = .ok (.ireturn, 1) := by decide +kernel
theorem dX12_told__112 : decode cX12_told_ 112 = .ok (.aload_n 0, 1) := by decide +kernel
theorem dX12_told__113 : decode cX12_told_ 113 = .ok (.getfield 95, 3) := by decide +kernel
theorem dX12_told__116 : decode cX12_told_ 116 = .ok (.iload 5, 2) := by decide +kernel
theorem dX12_told__118 : decode cX12_told_ 118 = .ok (.iaload, 1) := by decide +kernel
theorem dX12_told__119 : decode cX12_told_ 119 = .ok (.ireturn, 1) := by decide +kernel
theorem dX12_told__120 : decode cX12_told_ 120 = .ok (.aload_n 0, 1) := by decide +kernel
theorem dX12_told__121 : decode cX12_told_ 121 = .ok (.getfield 98, 3) := by decide +kernel
theorem dX12_told__124 : decode cX12_told_ 124 = .ok (.iload 5, 2) := by decide +kernel
theorem dX12_told__126 : decode cX12_told_ 126 = .ok (.iaload, 1) := by decide +kernel
theorem dX12_told__127 : decode cX12_told_ 127 = .ok (.ireturn, 1) := by decide +kernel
theorem dX12_told__128 : decode cX12_told_ 128 = .ok (.iload 5, 2) := by decide +kernel
theorem dX12_told__130 : decode cX12_told_ 130 = .ok (.ireturn, 1) := by decide +kernel
theorem dX12_told__131 : decode cX12_told_ 131 = .ok (.aload_n 0, 1) := by decide +kernel
theorem dX12_told__132 : decode cX12_told_ 132 = .ok (.getfield 101, 3) := by decide +kernel
theorem dX12_told__135 : decode cX12_told_ 135 = .ok (.iload 5, 2) := by decide +kernel
theorem dX12_told__137 : decode cX12_told_ 137 = .ok (.iaload, 1) := by decide +kernel
theorem dX12_told__138 : decode cX12_told_ 138 = .ok (.ireturn, 1) := by decide +kernel
theorem dX12_told__139 : decode cX12_told_ 139 = .ok (.aload_n 0, 1) := by decide +kernel
theorem dX12_told__140 : decode cX12_told_ 140 = .ok (.getfield 107, 3) := by decide +kernel
theorem dX12_told__143 : decode cX12_told_ 143 = .ok (.iload 5, 2) := by decide +kernel
theorem dX12_told__145 : decode cX12_told_ 145 = .ok (.baload, 1) := by decide +kernel
theorem dX12_told__146 : decode cX12_told_ 146 = .ok (.ifCond .eq 7, 3) := by decide +kernel
theorem dX12_told__149 : decode cX12_told_ 149 = .ok (.iconst 1, 1) := by decide +kernel
theorem dX12_told__150 : decode cX12_told_ 150 = .ok (.goto 4, 3) := by decide +kernel
theorem dX12_told__153 : decode cX12_told_ 153 = .ok (.iconst 0, 1) := by decide +kernel
theorem dX12_told__154 : decode cX12_told_ 154 = .ok (.ireturn, 1) := by decide +kernel
theorem dX12_told__155 : decode cX12_told_ 155 = .ok (.aload_n 0, 1) := by decide +kernel
theorem dX12_told__156 : decode cX12_told_ 156 = .ok (.iload 5, 2) := by decide +kernel
theorem dX12_told__158 : decode cX12_told_ 158 = .ok (.invokevirtual 491, 3) := by decide +kernel
theorem dX12_told__161 : decode cX12_told_ 161 = .ok (.ireturn, 1) := by decide +kernel
theorem dX12_told__162 : decode cX12_told_ 162 = .ok (.iload 4, 2) := by decide +kernel
theorem dX12_told__164 : decode cX12_told_ 164 = .ok (.ireturn, 1) := by decide +kernel
theorem dX12_chain_0 : decode cX12_chain 0 = .ok (.aload_n 0, 1) := by decide +kernel
theorem dX12_chain_1 : decode cX12_chain 1 = .ok (.aload_n 0, 1) := by decide +kernel
theorem dX12_chain_2 : decode cX12_chain 2 = .ok (.getfield 521, 3) := by decide +kernel
theorem dX12_chain_5 : decode cX12_chain 5 = .ok (.iload_n 1, 1) := by decide +kernel
theorem dX12_chain_6 : decode cX12_chain 6 = .ok (.iload_n 2, 1) := by decide +kernel
theorem dX12_chain_7 : decode cX12_chain 7 = .ok (.iconst 0, 1) := by decide +kernel
theorem dX12_chain_8 : decode cX12_chain 8 = .ok (.invokevirtual 524, 3) := by decide +kernel
theorem dX12_chain_11 : decode cX12_chain 11 = .ok (.ireturn, 1) := by decide +kernel
theorem dX12_complaint_0 : decode cX12_complaint 0 = .ok (.aload_n 0, 1) := by decide +kernel
theorem dX12_complaint_1 : decode cX12_complaint 1 = .ok (.iload_n 1, 1) := by decide +kernel
theorem dX12_complaint_2 : decode cX12_complaint 2 = .ok (.ifCond .lt 8, 3) := by decide +kernel
theorem dX12_complaint_5 : decode cX12_complaint 5 = .ok (.iload_n 1, 1) := by decide +kernel
theorem dX12_complaint_6 : decode cX12_complaint 6 = .ok (.iconst 2, 1) := by decide +kernel
theorem dX12_complaint_7 : decode cX12_complaint 7 = .ok (.if_icmp .le 7, 3) := by decide +kernel
theorem dX12_complaint_10 : decode cX12_complaint 10 = .ok (.iconst 0, 1) := by decide +kernel
theorem dX12_complaint_11 : decode cX12_complaint 11 = .ok (.goto 9, 3) := by decide +kernel
theorem dX12_complaint_14 : decode cX12_complaint 14 = .ok (.aload_n 0, 1) := by decide +kernel
theorem dX12_complaint_15 : decode cX12_complaint 15 = .ok (.getfield 156, 3) := by decide +kernel
theorem dX12_complaint_18 : decode cX12_complaint 18 = .ok (.iload_n 1, 1) := by decide +kernel
theorem dX12_complaint_19 : decode cX12_complaint 19 = .ok (.iaload, 1) := by decide +kernel
theorem dX12_complaint_20 : decode cX12_complaint 20 = .ok (.iload_n 2, 1) := by decide +kernel
theorem dX12_complaint_21 : decode cX12_complaint 21 = .ok (.iload_n 3, 1) := by decide +kernel
theorem dX12_complaint_22 : decode cX12_complaint 22 = .ok (.iconst 0, 1) := by decide +kernel
theorem dX12_complaint_23 : decode cX12_complaint 23 = .ok (.invokevirtual 524, 3) := by decide +kernel
theorem dX12_complaint_26 : decode cX12_complaint 26 = .ok (.ireturn, 1) := by decide +kernel
