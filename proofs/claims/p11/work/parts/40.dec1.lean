theorem dX12_hear_79 : decode cX12_hear 79 = .ok (.aload_n 0, 1) := by decide +kernel
theorem dX12_hear_80 : decode cX12_hear 80 = .ok (.invokevirtual 240, 3) := by decide +kernel
theorem dX12_hear_83 : decode cX12_hear 83 = .ok (.aload_n 0, 1) := by decide +kernel
theorem dX12_hear_84 : decode cX12_hear 84 = .ok (.iconst 1, 1) := by decide +kernel
theorem dX12_hear_85 : decode cX12_hear 85 = .ok (.invokevirtual 274, 3) := by decide +kernel
theorem dX12_hear_88 : decode cX12_hear 88 = .ok (.istore 5, 2) := by decide +kernel
theorem dX12_hear_90 : decode cX12_hear 90 = .ok (.aload_n 0, 1) := by decide +kernel
theorem dX12_hear_91 : decode cX12_hear 91 = .ok (.iload 5, 2) := by decide +kernel
theorem dX12_hear_93 : decode cX12_hear 93 = .ok (.aload_n 0, 1) := by decide +kernel
theorem dX12_hear_94 : decode cX12_hear 94 = .ok (.getfield 255, 3) := by decide +kernel
theorem dX12_hear_97 : decode cX12_hear 97 = .ok (.invokevirtual 312, 3) := by decide +kernel
theorem dX12_hear_100 : decode cX12_hear 100 = .ok (.istore 4, 2) := by decide +kernel
theorem dX12_hear_102 : decode cX12_hear 102 = .ok (.aload_n 0, 1) := by decide +kernel
theorem dX12_hear_103 : decode cX12_hear 103 = .ok (.bipush 59, 2) := by decide +kernel
theorem dX12_hear_105 : decode cX12_hear 105 = .ok (.invokevirtual 252, 3) := by decide +kernel
theorem dX12_hear_108 : decode cX12_hear 108 = .ok (.aload_n 0, 1) := by decide +kernel
theorem dX12_hear_109 : decode cX12_hear 109 = .ok (.invokevirtual 230, 3) := by decide +kernel
theorem dX12_hear_112 : decode cX12_hear 112 = .ok (.ifCond .eq 4, 3) := by decide +kernel
theorem dX12_hear_115 : decode cX12_hear 115 = .ok (.return_, 1) := by decide +kernel
theorem dX12_hear_116 : decode cX12_hear 116 = .ok (.aload_n 0, 1) := by decide +kernel
theorem dX12_hear_117 : decode cX12_hear 117 = .ok (.getfield 83, 3) := by decide +kernel
theorem dX12_hear_120 : decode cX12_hear 120 = .ok (.aload_n 0, 1) := by decide +kernel
theorem dX12_hear_121 : decode cX12_hear 121 = .ok (.getfield 353, 3) := by decide +kernel
theorem dX12_hear_124 : decode cX12_hear 124 = .ok (.iload_n 1, 1) := by decide +kernel
theorem dX12_hear_125 : decode cX12_hear 125 = .ok (.iastore, 1) := by decide +kernel
theorem dX12_hear_126 : decode cX12_hear 126 = .ok (.aload_n 0, 1) := by decide +kernel
theorem dX12_hear_127 : decode cX12_hear 127 = .ok (.getfield 86, 3) := by decide +kernel
theorem dX12_hear_130 : decode cX12_hear 130 = .ok (.aload_n 0, 1) := by decide +kernel
theorem dX12_hear_131 : decode cX12_hear 131 = .ok (.getfield 353, 3) := by decide +kernel
theorem dX12_hear_134 : decode cX12_hear 134 = .ok (.iload_n 3, 1) := by decide +kernel
theorem dX12_hear_135 : decode cX12_hear 135 = .ok (.iastore, 1) := by decide +kernel
theorem dX12_hear_136 : decode cX12_hear 136 = .ok (.aload_n 0, 1) := by decide +kernel
theorem dX12_hear_137 : decode cX12_hear 137 = .ok (.getfield 89, 3) := by decide +kernel
theorem dX12_hear_140 : decode cX12_hear 140 = .ok (.aload_n 0, 1) := by decide +kernel
theorem dX12_hear_141 : decode cX12_hear 141 = .ok (.getfield 353, 3) := by decide +kernel
theorem dX12_hear_144 : decode cX12_hear 144 = .ok (.iload_n 2, 1) := by decide +kernel
theorem dX12_hear_145 : decode cX12_hear 145 = .ok (.iastore, 1) := by decide +kernel
theorem dX12_hear_146 : decode cX12_hear 146 = .ok (.aload_n 0, 1) := by decide +kernel
theorem dX12_hear_147 : decode cX12_hear 147 = .ok (.getfield 80, 3) := by decide +kernel
theorem dX12_hear_150 : decode cX12_hear 150 = .ok (.aload_n 0, 1) := by decide +kernel
theorem dX12_hear_151 : decode cX12_hear 151 = .ok (.getfield 353, 3) := by decide +kernel
theorem dX12_hear_154 : decode cX12_hear 154 = .ok (.aload_n 0, 1) := by decide +kernel
theorem dX12_hear_155 : decode cX12_hear 155 = .ok (.bipush 18, 2) := by decide +kernel
theorem dX12_hear_157 : decode cX12_hear 157 = .ok (.iconst 0, 1) := by decide +kernel
theorem dX12_hear_158 : decode cX12_hear 158 = .ok (.iload_n 3, 1) := by decide +kernel
theorem dX12_hear_159 : decode cX12_hear 159 = .ok (.iload 4, 2) := by decide +kernel
theorem dX12_hear_161 : decode cX12_hear 161 = .ok (.invokevirtual 301, 3) := by decide +kernel
theorem dX12_hear_164 : decode cX12_hear 164 = .ok (.iastore, 1) := by decide +kernel
theorem dX12_hear_165 : decode cX12_hear 165 = .ok (.aload_n 0, 1) := by decide +kernel
theorem dX12_hear_166 : decode cX12_hear 166 = .ok (.dup, 1) := by decide +kernel
theorem dX12_hear_167 : decode cX12_hear 167 = .ok (.getfield 353, 3) := by decide +kernel
theorem dX12_hear_170 : decode cX12_hear 170 = .ok (.iconst 1, 1) := by decide +kernel
theorem dX12_hear_171 : decode cX12_hear 171 = .ok (.iadd, 1) := by decide +kernel
theorem dX12_hear_172 : decode cX12_hear 172 = .ok (.putfield 353, 3) := by decide +kernel
theorem dX12_hear_175 : decode cX12_hear 175 = .ok (.return_, 1) := by decide +kernel
theorem dX12_choice_0 : decode cX12_choice 0 = .ok (.aload_n 0, 1) := by decide +kernel
theorem dX12_choice_1 : decode cX12_choice 1 = .ok (.invokevirtual 240, 3) := by decide +kernel
theorem dX12_choice_4 : decode cX12_choice 4 = .ok (.aload_n 0, 1) := by decide +kernel
theorem dX12_choice_5 : decode cX12_choice 5 = .ok (.invokevirtual 315, 3) := by decide +kernel
theorem dX12_choice_8 : decode cX12_choice 8 = .ok (.aload_n 0, 1) := by decide +kernel
theorem dX12_choice_9 : decode cX12_choice 9 = .ok (.bipush 21, 2) := by decide +kernel
theorem dX12_choice_11 : decode cX12_choice 11 = .ok (.iconst 0, 1) := by decide +kernel
theorem dX12_choice_12 : decode cX12_choice 12 = .ok (.iconst 0, 1) := by decide +kernel
theorem dX12_choice_13 : decode cX12_choice 13 = .ok (.iconst 0, 1) := by decide +kernel
theorem dX12_choice_14 : decode cX12_choice 14 = .ok (.invokevirtual 301, 3) := by decide +kernel
theorem dX12_choice_17 : decode cX12_choice 17 = .ok (.istore_n 1, 1) := by decide +kernel
theorem dX12_choice_18 : decode cX12_choice 18 = .ok (.aload_n 0, 1) := by decide +kernel
theorem dX12_choice_19 : decode cX12_choice 19 = .ok (.invokevirtual 298, 3) := by decide +kernel
theorem dX12_choice_22 : decode cX12_choice 22 = .ok (.aload_n 0, 1) := by decide +kernel
theorem dX12_choice_23 : decode cX12_choice 23 = .ok (.bipush 14, 2) := by decide +kernel
theorem dX12_choice_25 : decode cX12_choice 25 = .ok (.invokevirtual 246, 3) := by decide +kernel
theorem dX12_choice_28 : decode cX12_choice 28 = .ok (.ifCond .eq 44, 3) := by decide +kernel
theorem dX12_choice_31 : decode cX12_choice 31 = .ok (.aload_n 0, 1) := by decide +kernel
theorem dX12_choice_32 : decode cX12_choice 32 = .ok (.invokevirtual 240, 3) := by decide +kernel
theorem dX12_choice_35 : decode cX12_choice 35 = .ok (.aload_n 0, 1) := by decide +kernel
theorem dX12_choice_36 : decode cX12_choice 36 = .ok (.bipush 20, 2) := by decide +kernel
theorem dX12_choice_38 : decode cX12_choice 38 = .ok (.iconst 0, 1) := by decide +kernel
theorem dX12_choice_39 : decode cX12_choice 39 = .ok (.iconst 0, 1) := by decide +kernel
theorem dX12_choice_40 : decode cX12_choice 40 = .ok (.iconst 0, 1) := by decide +kernel
theorem dX12_choice_41 : decode cX12_choice 41 = .ok (.invokevirtual 301, 3) := by decide +kernel
theorem dX12_choice_44 : decode cX12_choice 44 = .ok (.istore_n 2, 1) := by decide +kernel
theorem dX12_choice_45 : decode cX12_choice 45 = .ok (.aload_n 0, 1) := by decide +kernel
theorem dX12_choice_46 : decode cX12_choice 46 = .ok (.getfield 31, 3) := by decide +kernel
theorem dX12_choice_49 : decode cX12_choice 49 = .ok (.iload_n 1, 1) := by decide +kernel
theorem dX12_choice_50 : decode cX12_choice 50 = .ok (.aload_n 0, 1) := by decide +kernel
theorem dX12_choice_51 : decode cX12_choice 51 = .ok (.invokevirtual 295, 3) := by decide +kernel
theorem dX12_choice_54 : decode cX12_choice 54 = .ok (.iastore, 1) := by decide +kernel
theorem dX12_choice_55 : decode cX12_choice 55 = .ok (.aload_n 0, 1) := by decide +kernel
theorem dX12_choice_56 : decode cX12_choice 56 = .ok (.invokevirtual 298, 3) := by decide +kernel
theorem dX12_choice_59 : decode cX12_choice 59 = .ok (.aload_n 0, 1) := by decide +kernel
theorem dX12_choice_60 : decode cX12_choice 60 = .ok (.getfield 31, 3) := by decide +kernel
theorem dX12_choice_63 : decode cX12_choice 63 = .ok (.iload_n 2, 1) := by decide +kernel
theorem dX12_choice_64 : decode cX12_choice 64 = .ok (.aload_n 0, 1) := by decide +kernel
theorem dX12_choice_65 : decode cX12_choice 65 = .ok (.invokevirtual 295, 3) := by decide +kernel
theorem dX12_choice_68 : decode cX12_choice 68 = .ok (.iastore, 1) := by decide +kernel
theorem dX12_choice_69 : decode cX12_choice 69 = .ok (.goto 13, 3) := by decide +kernel
theorem dX12_choice_72 : decode cX12_choice 72 = .ok (.aload_n 0, 1) := by decide +kernel
theorem dX12_choice_73 : decode cX12_choice 73 = .ok (.getfield 31, 3) := by decide +kernel
theorem dX12_choice_76 : decode cX12_choice 76 = .ok (.iload_n 1, 1) := by decide +kernel
theorem dX12_choice_77 : decode cX12_choice 77 = .ok (.aload_n 0, 1) := by decide +kernel
theorem dX12_choice_78 : decode cX12_choice 78 = .ok (.invokevirtual 295, 3) := by decide +kernel
theorem dX12_choice_81 : decode cX12_choice 81 = .ok (.iastore, 1) := by decide +kernel
theorem dX12_choice_82 : decode cX12_choice 82 = .ok (.return_, 1) := by decide +kernel
theorem dX12_loop_0 : decode cX12_loop 0 = .ok (.aload_n 0, 1) := by decide +kernel
theorem dX12_loop_1 : decode cX12_loop 1 = .ok (.invokevirtual 240, 3) := by decide +kernel
theorem dX12_loop_4 : decode cX12_loop 4 = .ok (.aload_n 0, 1) := by decide +kernel
theorem dX12_loop_5 : decode cX12_loop 5 = .ok (.iconst 0, 1) := by decide +kernel
theorem dX12_loop_6 : decode cX12_loop 6 = .ok (.iconst 0, 1) := by decide +kernel
theorem dX12_loop_7 : decode cX12_loop 7 = .ok (.iconst 0, 1) := by decide +kernel
theorem dX12_loop_8 : decode cX12_loop 8 = .ok (.iconst 0, 1) := by decide +kernel
theorem dX12_loop_9 : decode cX12_loop 9 = .ok (.invokevirtual 301, 3) := by decide +kernel
theorem dX12_loop_12 : decode cX12_loop 12 = .ok (.istore_n 1, 1) := by decide +kernel
theorem dX12_loop_13 : decode cX12_loop 13 = .ok (.aload_n 0, 1) := by decide +kernel
theorem dX12_loop_14 : decode cX12_loop 14 = .ok (.invokevirtual 315, 3) := by decide +kernel
theorem dX12_loop_17 : decode cX12_loop 17 = .ok (.aload_n 0, 1) := by decide +kernel
theorem dX12_loop_18 : decode cX12_loop 18 = .ok (.bipush 21, 2) := by decide +kernel
theorem dX12_loop_20 : decode cX12_loop 20 = .ok (.iconst 0, 1) := by decide +kernel
theorem dX12_loop_21 : decode cX12_loop 21 = .ok (.iconst 0, 1) := by decide +kernel
theorem dX12_loop_22 : decode cX12_loop 22 = .ok (.iconst 0, 1) := by decide +kernel
theorem dX12_loop_23 : decode cX12_loop 23 = .ok (.invokevirtual 301, 3) := by decide +kernel
theorem dX12_loop_26 : decode cX12_loop 26 = .ok (.istore_n 2, 1) := by decide +kernel
theorem dX12_loop_27 : decode cX12_loop 27 = .ok (.aload_n 0, 1) := by decide +kernel
theorem dX12_loop_28 : decode cX12_loop 28 = .ok (.invokevirtual 298, 3) := by decide +kernel
theorem dX12_loop_31 : decode cX12_loop 31 = .ok (.aload_n 0, 1) := by decide +kernel
theorem dX12_loop_32 : decode cX12_loop 32 = .ok (.bipush 20, 2) := by decide +kernel
theorem dX12_loop_34 : decode cX12_loop 34 = .ok (.iload_n 1, 1) := by decide +kernel
theorem dX12_loop_35 : decode cX12_loop 35 = .ok (.iconst 0, 1) := by decide +kernel
theorem dX12_loop_36 : decode cX12_loop 36 = .ok (.iconst 0, 1) := by decide +kernel
theorem dX12_loop_37 : decode cX12_loop 37 = .ok (.invokevirtual 301, 3) := by decide +kernel
theorem dX12_loop_40 : decode cX12_loop 40 = .ok (.istore_n 3, 1) := by decide +kernel
theorem dX12_loop_41 : decode cX12_loop 41 = .ok (.aload_n 0, 1) := by decide +kernel
theorem dX12_loop_42 : decode cX12_loop 42 = .ok (.getfield 31, 3) := by decide +kernel
theorem dX12_loop_45 : decode cX12_loop 45 = .ok (.iload_n 2, 1) := by decide +kernel
theorem dX12_loop_46 : decode cX12_loop 46 = .ok (.aload_n 0, 1) := by decide +kernel
theorem dX12_loop_47 : decode cX12_loop 47 = .ok (.invokevirtual 295, 3) := by decide +kernel
theorem dX12_loop_50 : decode cX12_loop 50 = .ok (.iastore, 1) := by decide +kernel
theorem dX12_loop_51 : decode cX12_loop 51 = .ok (.return_, 1) := by decide +kernel
theorem dX12_trying_0 : decode cX12_trying 0 = .ok (.aload_n 0, 1) := by decide +kernel
theorem dX12_trying_1 : decode cX12_trying 1 = .ok (.invokevirtual 240, 3) := by decide +kernel
theorem dX12_trying_4 : decode cX12_trying 4 = .ok (.sipush 400, 3) := by decide +kernel
theorem dX12_trying_7 : decode cX12_trying 7 = .ok (.aload_n 0, 1) := by decide +kernel
theorem dX12_trying_8 : decode cX12_trying 8 = .ok (.getfield 70, 3) := by decide +kernel
theorem dX12_trying_11 : decode cX12_trying 11 = .ok (.imul, 1) := by decide +kernel
theorem dX12_trying_12 : decode cX12_trying 12 = .ok (.aload_n 0, 1) := by decide +kernel
theorem dX12_trying_13 : decode cX12_trying 13 = .ok (.getfield 356, 3) := by decide +kernel
theorem dX12_trying_16 : decode cX12_trying 16 = .ok (.iadd, 1) := by decide +kernel
theorem dX12_trying_17 : decode cX12_trying 17 = .ok (.istore_n 1, 1) := by decide +kernel
theorem dX12_trying_18 : decode cX12_trying 18 = .ok (.aload_n 0, 1) := by decide +kernel
theorem dX12_trying_19 : decode cX12_trying 19 = .ok (.dup, 1) := by decide +kernel
theorem dX12_trying_20 : decode cX12_trying 20 = .ok (.getfield 356, 3) := by decide +kernel
theorem dX12_trying_23 : decode cX12_trying 23 = .ok (.iconst 1, 1) := by decide +kernel
theorem dX12_trying_24 : decode cX12_trying 24 = .ok (.iadd, 1) := by decide +kernel
theorem dX12_trying_25 : decode cX12_trying 25 = .ok (.putfield 356, 3) := by decide +kernel
theorem dX12_trying_28 : decode cX12_trying 28 = .ok (.aload_n 0, 1) := by decide +kernel
theorem dX12_trying_29 : decode cX12_trying 29 = .ok (.getfield 49, 3) := by decide +kernel
theorem dX12_trying_32 : decode cX12_trying 32 = .ok (.iload_n 1, 1) := by decide +kernel
theorem dX12_trying_33 : decode cX12_trying 33 = .ok (.iconst (-1), 1) := by decide +kernel
theorem dX12_trying_34 : decode cX12_trying 34 = .ok (.iastore, 1) := by decide +kernel
theorem dX12_trying_35 : decode cX12_trying 35 = .ok (.aload_n 0, 1) := by decide +kernel
theorem dX12_trying_36 : decode cX12_trying 36 = .ok (.getfield 52, 3) := by decide +kernel
theorem dX12_trying_39 : decode cX12_trying 39 = .ok (.iload_n 1, 1) := by decide +kernel
theorem dX12_trying_40 : decode cX12_trying 40 = .ok (.iconst (-1), 1) := by decide +kernel
theorem dX12_trying_41 : decode cX12_trying 41 = .ok (.iastore, 1) := by decide +kernel
theorem dX12_trying_42 : decode cX12_trying 42 = .ok (.iconst (-1), 1) := by decide +kernel
theorem dX12_trying_43 : decode cX12_trying 43 = .ok (.istore_n 2, 1) := by decide +kernel
theorem dX12_trying_44 : decode cX12_trying 44 = .ok (.aload_n 0, 1) := by decide +kernel
theorem dX12_trying_45 : decode cX12_trying 45 = .ok (.bipush 22, 2) := by decide +kernel
theorem dX12_trying_47 : decode cX12_trying 47 = .ok (.iload_n 1, 1) := by decide +kernel
theorem dX12_trying_48 : decode cX12_trying 48 = .ok (.iconst 0, 1) := by decide +kernel
theorem dX12_trying_49 : decode cX12_trying 49 = .ok (.iconst 0, 1) := by decide +kernel
theorem dX12_trying_50 : decode cX12_trying 50 = .ok (.invokevirtual 301, 3) := by decide +kernel
theorem dX12_trying_53 : decode cX12_trying 53 = .ok (.istore_n 3, 1) := by decide +kernel
theorem dX12_trying_54 : decode cX12_trying 54 = .ok (.aload_n 0, 1) := by decide +kernel
theorem dX12_trying_55 : decode cX12_trying 55 = .ok (.invokevirtual 298, 3) := by decide +kernel
theorem dX12_trying_58 : decode cX12_trying 58 = .ok (.aload_n 0, 1) := by decide +kernel
theorem dX12_trying_59 : decode cX12_trying 59 = .ok (.bipush 23, 2) := by decide +kernel
theorem dX12_trying_61 : decode cX12_trying 61 = .ok (.iload_n 1, 1) := by decide +kernel
theorem dX12_trying_62 : decode cX12_trying 62 = .ok (.iconst 0, 1) := by decide +kernel
theorem dX12_trying_63 : decode cX12_trying 63 = .ok (.iconst 0, 1) := by decide +kernel
theorem dX12_trying_64 : decode cX12_trying 64 = .ok (.invokevirtual 301, 3) := by decide +kernel
theorem dX12_trying_67 : decode cX12_trying 67 = .ok (.istore_n 3, 1) := by decide +kernel
theorem dX12_trying_68 : decode cX12_trying 68 = .ok (.aload_n 0, 1) := by decide +kernel
theorem dX12_trying_69 : decode cX12_trying 69 = .ok (.bipush 17, 2) := by decide +kernel
theorem dX12_trying_71 : decode cX12_trying 71 = .ok (.invokevirtual 246, 3) := by decide +kernel
theorem dX12_trying_74 : decode cX12_trying 74 = .ok (.ifCond .ne 16, 3) := by decide +kernel
theorem dX12_trying_77 : decode cX12_trying 77 = .ok (.aload_n 0, 1) := by decide +kernel
theorem dX12_trying_78 : decode cX12_trying 78 = .ok (.bipush 18, 2) := by decide +kernel
theorem dX12_trying_80 : decode cX12_trying 80 = .ok (.invokevirtual 246, 3) := by decide +kernel
theorem dX12_trying_83 : decode cX12_trying 83 = .ok (.ifCond .ne 7, 3) := by decide +kernel
theorem dX12_trying_86 : decode cX12_trying 86 = .ok (.aload_n 0, 1) := by decide +kernel
theorem dX12_trying_87 : decode cX12_trying 87 = .ok (.invokevirtual 243, 3) := by decide +kernel
theorem dX12_trying_90 : decode cX12_trying 90 = .ok (.aload_n 0, 1) := by decide +kernel
theorem dX12_trying_91 : decode cX12_trying 91 = .ok (.bipush 17, 2) := by decide +kernel
theorem dX12_trying_93 : decode cX12_trying 93 = .ok (.invokevirtual 246, 3) := by decide +kernel
theorem dX12_trying_96 : decode cX12_trying 96 = .ok (.ifCond .eq 137, 3) := by decide +kernel
theorem dX12_trying_99 : decode cX12_trying 99 = .ok (.aload_n 0, 1) := by decide +kernel
theorem dX12_trying_100 : decode cX12_trying 100 = .ok (.invokevirtual 240, 3) := by decide +kernel
theorem dX12_trying_103 : decode cX12_trying 103 = .ok (.sipush 400, 3) := by decide +kernel
theorem dX12_trying_106 : decode cX12_trying 106 = .ok (.aload_n 0, 1) := by decide +kernel
theorem dX12_trying_107 : decode cX12_trying 107 = .ok (.getfield 70, 3) := by decide +kernel
theorem dX12_trying_110 : decode cX12_trying 110 = .ok (.imul, 1) := by decide +kernel
theorem dX12_trying_111 : decode cX12_trying 111 = .ok (.aload_n 0, 1) := by decide +kernel
theorem dX12_trying_112 : decode cX12_trying 112 = .ok (.getfield 359, 3) := by decide +kernel
theorem dX12_trying_115 : decode cX12_trying 115 = .ok (.iadd, 1) := by decide +kernel
theorem dX12_trying_116 : decode cX12_trying 116 = .ok (.istore 4, 2) := by decide +kernel
theorem dX12_trying_118 : decode cX12_trying 118 = .ok (.aload_n 0, 1) := by decide +kernel
theorem dX12_trying_119 : decode cX12_trying 119 = .ok (.dup, 1) := by decide +kernel
theorem dX12_trying_120 : decode cX12_trying 120 = .ok (.getfield 359, 3) := by decide +kernel
theorem dX12_trying_123 : decode cX12_trying 123 = .ok (.iconst 1, 1) := by decide +kernel
theorem dX12_trying_124 : decode cX12_trying 124 = .ok (.iadd, 1) := by decide +kernel
theorem dX12_trying_125 : decode cX12_trying 125 = .ok (.putfield 359, 3) := by decide +kernel
theorem dX12_trying_128 : decode cX12_trying 128 = .ok (.aload_n 0, 1) := by decide +kernel
theorem dX12_trying_129 : decode cX12_trying 129 = .ok (.getfield 58, 3) := by decide +kernel
theorem dX12_trying_132 : decode cX12_trying 132 = .ok (.iload 4, 2) := by decide +kernel
theorem dX12_trying_134 : decode cX12_trying 134 = .ok (.aload_n 0, 1) := by decide +kernel
theorem dX12_trying_135 : decode cX12_trying 135 = .ok (.iconst 5, 1) := by decide +kernel
theorem dX12_trying_136 : decode cX12_trying 136 = .ok (.invokevirtual 274, 3) := by decide +kernel
theorem dX12_trying_139 : decode cX12_trying 139 = .ok (.iastore, 1) := by decide +kernel
theorem dX12_trying_140 : decode cX12_trying 140 = .ok (.aload_n 0, 1) := by decide +kernel
theorem dX12_trying_141 : decode cX12_trying 141 = .ok (.getfield 61, 3) := by decide +kernel
theorem dX12_trying_144 : decode cX12_trying 144 = .ok (.iload 4, 2) := by decide +kernel
theorem dX12_trying_146 : decode cX12_trying 146 = .ok (.aload_n 0, 1) := by decide +kernel
theorem dX12_trying_147 : decode cX12_trying 147 = .ok (.invokevirtual 230, 3) := by decide +kernel
theorem dX12_trying_150 : decode cX12_trying 150 = .ok (.ifCond .ne 18, 3) := by decide +kernel
theorem dX12_trying_153 : decode cX12_trying 153 = .ok (.aload_n 0, 1) := by decide +kernel
theorem dX12_trying_154 : decode cX12_trying 154 = .ok (.getfield 198, 3) := by decide +kernel
theorem dX12_trying_157 : decode cX12_trying 157 = .ok (.iconst 2, 1) := by decide +kernel
theorem dX12_trying_158 : decode cX12_trying 158 = .ok (.if_icmp .ne 10, 3) := by decide +kernel
theorem dX12_trying_161 : decode cX12_trying 161 = .ok (.aload_n 0, 1) := by decide +kernel
theorem dX12_trying_162 : decode cX12_trying 162 = .ok (.invokevirtual 324, 3) := by decide +kernel
theorem dX12_trying_165 : decode cX12_trying 165 = .ok (.goto 4, 3) := by decide +kernel
theorem dX12_trying_168 : decode cX12_trying 168 = .ok (.iconst (-1), 1) := by decide +kernel
theorem dX12_trying_169 : decode cX12_trying 169 = .ok (.iastore, 1) := by decide +kernel
theorem dX12_trying_170 : decode cX12_trying 170 = .ok (.aload_n 0, 1) := by decide +kernel
theorem dX12_trying_171 : decode cX12_trying 171 = .ok (.getfield 67, 3) := by decide +kernel
theorem dX12_trying_174 : decode cX12_trying 174 = .ok (.iload 4, 2) := by decide +kernel
theorem dX12_trying_176 : decode cX12_trying 176 = .ok (.iconst (-1), 1) := by decide +kernel
theorem dX12_trying_177 : decode cX12_trying 177 = .ok (.iastore, 1) := by decide +kernel
theorem dX12_trying_178 : decode cX12_trying 178 = .ok (.iload_n 2, 1) := by decide +kernel
theorem dX12_trying_179 : decode cX12_trying 179 = .ok (.iconst (-1), 1) := by decide +kernel
theorem dX12_trying_180 : decode cX12_trying 180 = .ok (.if_icmp .ne 14, 3) := by decide +kernel
theorem dX12_trying_183 : decode cX12_trying 183 = .ok (.aload_n 0, 1) := by decide +kernel
theorem dX12_trying_184 : decode cX12_trying 184 = .ok (.getfield 49, 3) := by decide +kernel
theorem dX12_trying_187 : decode cX12_trying 187 = .ok (.iload_n 1, 1) := by decide +kernel
theorem dX12_trying_188 : decode cX12_trying 188 = .ok (.iload 4, 2) := by decide +kernel
theorem dX12_trying_190 : decode cX12_trying 190 = .ok (.iastore, 1) := by decide +kernel
theorem dX12_trying_191 : decode cX12_trying 191 = .ok (.goto 11, 3) := by decide +kernel
theorem dX12_trying_194 : decode cX12_trying 194 = .ok (.aload_n 0, 1) := by decide +kernel
theorem dX12_trying_195 : decode cX12_trying 195 = .ok (.getfield 67, 3) := by decide +kernel
theorem dX12_trying_198 : decode cX12_trying 198 = .ok (.iload_n 2, 1) := by decide +kernel
theorem dX12_trying_199 : decode cX12_trying 199 = .ok (.iload 4, 2) := by decide +kernel
theorem dX12_trying_201 : decode cX12_trying 201 = .ok (.iastore, 1) := by decide +kernel
theorem dX12_trying_202 : decode cX12_trying 202 = .ok (.iload 4, 2) := by decide +kernel
theorem dX12_trying_204 : decode cX12_trying 204 = .ok (.istore_n 2, 1) := by decide +kernel
theorem dX12_trying_205 : decode cX12_trying 205 = .ok (.aload_n 0, 1) := by decide +kernel
theorem dX12_trying_206 : decode cX12_trying 206 = .ok (.getfield 64, 3) := by decide +kernel
theorem dX12_trying_209 : decode cX12_trying 209 = .ok (.iload 4, 2) := by decide +kernel
theorem dX12_trying_211 : decode cX12_trying 211 = .ok (.aload_n 0, 1) := by decide +kernel
theorem dX12_trying_212 : decode cX12_trying 212 = .ok (.invokevirtual 295, 3) := by decide +kernel
theorem dX12_trying_215 : decode cX12_trying 215 = .ok (.iastore, 1) := by decide +kernel
theorem dX12_trying_216 : decode cX12_trying 216 = .ok (.aload_n 0, 1) := by decide +kernel
theorem dX12_trying_217 : decode cX12_trying 217 = .ok (.invokevirtual 298, 3) := by decide +kernel
theorem dX12_trying_220 : decode cX12_trying 220 = .ok (.aload_n 0, 1) := by decide +kernel
theorem dX12_trying_221 : decode cX12_trying 221 = .ok (.bipush 23, 2) := by decide +kernel
theorem dX12_trying_223 : decode cX12_trying 223 = .ok (.iload_n 1, 1) := by decide +kernel
theorem dX12_trying_224 : decode cX12_trying 224 = .ok (.iconst 0, 1) := by decide +kernel
theorem dX12_trying_225 : decode cX12_trying 225 = .ok (.iconst 0, 1) := by decide +kernel
theorem dX12_trying_226 : decode cX12_trying 226 = .ok (.invokevirtual 301, 3) := by decide +kernel
theorem dX12_trying_229 : decode cX12_trying 229 = .ok (.istore_n 3, 1) := by decide +kernel
theorem dX12_trying_230 : decode cX12_trying 230 = .ok (.goto (-140), 3) := by decide +kernel
theorem dX12_trying_233 : decode cX12_trying 233 = .ok (.aload_n 0, 1) := by decide +kernel
theorem dX12_trying_234 : decode cX12_trying 234 = .ok (.bipush 18, 2) := by decide +kernel
theorem dX12_trying_236 : decode cX12_trying 236 = .ok (.invokevirtual 246, 3) := by decide +kernel
theorem dX12_trying_239 : decode cX12_trying 239 = .ok (.ifCond .eq 31, 3) := by decide +kernel
theorem dX12_trying_242 : decode cX12_trying 242 = .ok (.aload_n 0, 1) := by decide +kernel
theorem dX12_trying_243 : decode cX12_trying 243 = .ok (.invokevirtual 240, 3) := by decide +kernel
theorem dX12_trying_246 : decode cX12_trying 246 = .ok (.aload_n 0, 1) := by decide +kernel
theorem dX12_trying_247 : decode cX12_trying 247 = .ok (.getfield 52, 3) := by decide +kernel
theorem dX12_trying_250 : decode cX12_trying 250 = .ok (.iload_n 1, 1) := by decide +kernel
theorem dX12_trying_251 : decode cX12_trying 251 = .ok (.aload_n 0, 1) := by decide +kernel
theorem dX12_trying_252 : decode cX12_trying 252 = .ok (.invokevirtual 295, 3) := by decide +kernel
theorem dX12_trying_255 : decode cX12_trying 255 = .ok (.iastore, 1) := by decide +kernel
theorem dX12_trying_256 : decode cX12_trying 256 = .ok (.aload_n 0, 1) := by decide +kernel
theorem dX12_trying_257 : decode cX12_trying 257 = .ok (.invokevirtual 298, 3) := by decide +kernel
theorem dX12_trying_260 : decode cX12_trying 260 = .ok (.aload_n 0, 1) := by decide +kernel
theorem dX12_trying_261 : decode cX12_trying 261 = .ok (.bipush 24, 2) := by decide +kernel
theorem dX12_trying_263 : decode cX12_trying 263 = .ok (.iload_n 1, 1) := by decide +kernel
theorem dX12_trying_264 : decode cX12_trying 264 = .ok (.iconst 0, 1) := by decide +kernel
theorem dX12_trying_265 : decode cX12_trying 265 = .ok (.iconst 0, 1) := by decide +kernel
theorem dX12_trying_266 : decode cX12_trying 266 = .ok (.invokevirtual 301, 3) := by decide +kernel
theorem dX12_trying_269 : decode cX12_trying 269 = .ok (.istore_n 3, 1) := by decide +kernel
theorem dX12_trying_270 : decode cX12_trying 270 = .ok (.aload_n 0, 1) := by decide +kernel
theorem dX12_trying_271 : decode cX12_trying 271 = .ok (.getfield 55, 3) := by decide +kernel
theorem dX12_trying_274 : decode cX12_trying 274 = .ok (.iload_n 1, 1) := by decide +kernel
theorem dX12_trying_275 : decode cX12_trying 275 = .ok (.aload_n 0, 1) := by decide +kernel
theorem dX12_trying_276 : decode cX12_trying 276 = .ok (.invokevirtual 295, 3) := by decide +kernel
theorem dX12_trying_279 : decode cX12_trying 279 = .ok (.iastore, 1) := by decide +kernel
theorem dX12_trying_280 : decode cX12_trying 280 = .ok (.return_, 1) := by decide +kernel
theorem dX12_statement_0 : decode cX12_statement 0 = .ok (.aload_n 0, 1) := by decide +kernel
theorem dX12_statement_1 : decode cX12_statement 1 = .ok (.bipush 15, 2) := by decide +kernel
theorem dX12_statement_3 : decode cX12_statement 3 = .ok (.invokevirtual 246, 3) := by decide +kernel
theorem dX12_statement_6 : decode cX12_statement 6 = .ok (.ifCond .ne 12, 3) := by decide +kernel
theorem dX12_statement_9 : decode cX12_statement 9 = .ok (.aload_n 0, 1) := by decide +kernel
theorem dX12_statement_10 : decode cX12_statement 10 = .ok (.iconst 0, 1) := by decide +kernel
theorem dX12_statement_11 : decode cX12_statement 11 = .ok (.iconst 0, 1) := by decide +kernel
theorem dX12_statement_12 : decode cX12_statement 12 = .ok (.iconst 0, 1) := by decide +kernel
theorem dX12_statement_13 : decode cX12_statement 13 = .ok (.iconst 0, 1) := by decide +kernel
theorem dX12_statement_14 : decode cX12_statement 14 = .ok (.invokevirtual 301, 3) := by decide +kernel
theorem dX12_statement_17 : decode cX12_statement 17 = .ok (.istore_n 1, 1) := by decide +kernel
theorem dX12_statement_18 : decode cX12_statement 18 = .ok (.aload_n 0, 1) := by decide +kernel
theorem dX12_statement_19 : decode cX12_statement 19 = .ok (.invokevirtual 230, 3) := by decide +kernel
theorem dX12_statement_22 : decode cX12_statement 22 = .ok (.ifCond .ne 57, 3) := by decide +kernel
theorem dX12_statement_25 : decode cX12_statement 25 = .ok (.aload_n 0, 1) := by decide +kernel
theorem dX12_statement_26 : decode cX12_statement 26 = .ok (.getfield 198, 3) := by decide +kernel
theorem dX12_statement_29 : decode cX12_statement 29 = .ok (.iconst 1, 1) := by decide +kernel
theorem dX12_statement_30 : decode cX12_statement 30 = .ok (.if_icmp .ne 49, 3) := by decide +kernel
theorem dX12_statement_33 : decode cX12_statement 33 = .ok (.aload_n 0, 1) := by decide +kernel
theorem dX12_statement_34 : decode cX12_statement 34 = .ok (.iconst 1, 1) := by decide +kernel
theorem dX12_statement_35 : decode cX12_statement 35 = .ok (.invokevirtual 274, 3) := by decide +kernel
theorem dX12_statement_38 : decode cX12_statement 38 = .ok (.istore_n 2, 1) := by decide +kernel
theorem dX12_statement_39 : decode cX12_statement 39 = .ok (.aload_n 0, 1) := by decide +kernel
theorem dX12_statement_40 : decode cX12_statement 40 = .ok (.getfield 255, 3) := by decide +kernel
theorem dX12_statement_43 : decode cX12_statement 43 = .ok (.istore_n 3, 1) := by decide +kernel
theorem dX12_statement_44 : decode cX12_statement 44 = .ok (.aload_n 0, 1) := by decide +kernel
theorem dX12_statement_45 : decode cX12_statement 45 = .ok (.bipush 61, 2) := by decide +kernel
theorem dX12_statement_47 : decode cX12_statement 47 = .ok (.invokevirtual 252, 3) := by decide +kernel
theorem dX12_statement_50 : decode cX12_statement 50 = .ok (.aload_n 0, 1) := by decide +kernel
theorem dX12_statement_51 : decode cX12_statement 51 = .ok (.iload_n 2, 1) := by decide +kernel
theorem dX12_statement_52 : decode cX12_statement 52 = .ok (.iload_n 3, 1) := by decide +kernel
theorem dX12_statement_53 : decode cX12_statement 53 = .ok (.invokevirtual 312, 3) := by decide +kernel
theorem dX12_statement_56 : decode cX12_statement 56 = .ok (.istore 4, 2) := by decide +kernel
theorem dX12_statement_58 : decode cX12_statement 58 = .ok (.aload_n 0, 1) := by decide +kernel
theorem dX12_statement_59 : decode cX12_statement 59 = .ok (.invokevirtual 315, 3) := by decide +kernel
theorem dX12_statement_62 : decode cX12_statement 62 = .ok (.aload_n 0, 1) := by decide +kernel
theorem dX12_statement_63 : decode cX12_statement 63 = .ok (.bipush 59, 2) := by decide +kernel
theorem dX12_statement_65 : decode cX12_statement 65 = .ok (.invokevirtual 252, 3) := by decide +kernel
theorem dX12_statement_68 : decode cX12_statement 68 = .ok (.aload_n 0, 1) := by decide +kernel
theorem dX12_statement_69 : decode cX12_statement 69 = .ok (.iconst 3, 1) := by decide +kernel
theorem dX12_statement_70 : decode cX12_statement 70 = .ok (.iload 4, 2) := by decide +kernel
theorem dX12_statement_72 : decode cX12_statement 72 = .ok (.iconst 0, 1) := by decide +kernel
theorem dX12_statement_73 : decode cX12_statement 73 = .ok (.iconst 0, 1) := by decide +kernel
theorem dX12_statement_74 : decode cX12_statement 74 = .ok (.invokevirtual 301, 3) := by decide +kernel
theorem dX12_statement_77 : decode cX12_statement 77 = .ok (.istore_n 1, 1) := by decide +kernel
theorem dX12_statement_78 : decode cX12_statement 78 = .ok (.return_, 1) := by decide +kernel
theorem dX12_statement_79 : decode cX12_statement 79 = .ok (.aload_n 0, 1) := by decide +kernel
theorem dX12_statement_80 : decode cX12_statement 80 = .ok (.invokevirtual 230, 3) := by decide +kernel
theorem dX12_statement_83 : decode cX12_statement 83 = .ok (.ifCond .ne 11, 3) := by decide +kernel
theorem dX12_statement_86 : decode cX12_statement 86 = .ok (.aload_n 0, 1) := by decide +kernel
theorem dX12_statement_87 : decode cX12_statement 87 = .ok (.getfield 198, 3) := by decide +kernel
theorem dX12_statement_90 : decode cX12_statement 90 = .ok (.iconst 4, 1) := by decide +kernel
theorem dX12_statement_91 : decode cX12_statement 91 = .ok (.if_icmp .eq 8, 3) := by decide +kernel
theorem dX12_statement_94 : decode cX12_statement 94 = .ok (.aload_n 0, 1) := by decide +kernel
theorem dX12_statement_95 : decode cX12_statement 95 = .ok (.invokevirtual 243, 3) := by decide +kernel
theorem dX12_statement_98 : decode cX12_statement 98 = .ok (.return_, 1) := by decide +kernel
theorem dX12_statement_99 : decode cX12_statement 99 = .ok (.aload_n 0, 1) := by decide +kernel
theorem dX12_statement_100 : decode cX12_statement 100 = .ok (.getfield 207, 3) := by decide +kernel
theorem dX12_statement_103 : decode cX12_statement 103 = .ok (.tableswitch 207 1 16 #[77, 84, 207, 207, 207, 91, 117, 207, 124, 131, 207, 138, 186, 207, 193, 200], 77) := by decide +kernel
theorem dX12_statement_180 : decode cX12_statement 180 = .ok (.aload_n 0, 1) := by decide +kernel
theorem dX12_statement_181 : decode cX12_statement 181 = .ok (.invokevirtual 318, 3) := by decide +kernel
theorem dX12_statement_184 : decode cX12_statement 184 = .ok (.goto 130, 3) := by decide +kernel
theorem dX12_statement_187 : decode cX12_statement 187 = .ok (.aload_n 0, 1) := by decide +kernel
theorem dX12_statement_188 : decode cX12_statement 188 = .ok (.invokevirtual 321, 3) := by decide +kernel
theorem dX12_statement_191 : decode cX12_statement 191 = .ok (.goto 123, 3) := by decide +kernel
theorem dX12_statement_194 : decode cX12_statement 194 = .ok (.aload_n 0, 1) := by decide +kernel
theorem dX12_statement_195 : decode cX12_statement 195 = .ok (.invokevirtual 240, 3) := by decide +kernel
theorem dX12_statement_198 : decode cX12_statement 198 = .ok (.aload_n 0, 1) := by decide +kernel
theorem dX12_statement_199 : decode cX12_statement 199 = .ok (.bipush 14, 2) := by decide +kernel
theorem dX12_statement_201 : decode cX12_statement 201 = .ok (.aload_n 0, 1) := by decide +kernel
theorem dX12_statement_202 : decode cX12_statement 202 = .ok (.invokevirtual 324, 3) := by decide +kernel
theorem dX12_statement_205 : decode cX12_statement 205 = .ok (.iconst 0, 1) := by decide +kernel
theorem dX12_statement_206 : decode cX12_statement 206 = .ok (.iconst 0, 1) := by decide +kernel
theorem dX12_statement_207 : decode cX12_statement 207 = .ok (.invokevirtual 301, 3) := by decide +kernel
theorem dX12_statement_210 : decode cX12_statement 210 = .ok (.istore_n 1, 1) := by decide +kernel
theorem dX12_statement_211 : decode cX12_statement 211 = .ok (.aload_n 0, 1) := by decide +kernel
theorem dX12_statement_212 : decode cX12_statement 212 = .ok (.bipush 59, 2) := by decide +kernel
theorem dX12_statement_214 : decode cX12_statement 214 = .ok (.invokevirtual 252, 3) := by decide +kernel
theorem dX12_statement_217 : decode cX12_statement 217 = .ok (.goto 97, 3) := by decide +kernel
theorem dX12_statement_220 : decode cX12_statement 220 = .ok (.aload_n 0, 1) := by decide +kernel
theorem dX12_statement_221 : decode cX12_statement 221 = .ok (.invokevirtual 327, 3) := by decide +kernel
theorem dX12_statement_224 : decode cX12_statement 224 = .ok (.goto 90, 3) := by decide +kernel
theorem dX12_statement_227 : decode cX12_statement 227 = .ok (.aload_n 0, 1) := by decide +kernel
theorem dX12_statement_228 : decode cX12_statement 228 = .ok (.invokevirtual 330, 3) := by decide +kernel
theorem dX12_statement_231 : decode cX12_statement 231 = .ok (.goto 83, 3) := by decide +kernel
theorem dX12_statement_234 : decode cX12_statement 234 = .ok (.aload_n 0, 1) := by decide +kernel
theorem dX12_statement_235 : decode cX12_statement 235 = .ok (.invokevirtual 333, 3) := by decide +kernel
theorem dX12_statement_238 : decode cX12_statement 238 = .ok (.goto 76, 3) := by decide +kernel
theorem dX12_statement_241 : decode cX12_statement 241 = .ok (.aload_n 0, 1) := by decide +kernel
theorem dX12_statement_242 : decode cX12_statement 242 = .ok (.invokevirtual 240, 3) := by decide +kernel
theorem dX12_statement_245 : decode cX12_statement 245 = .ok (.aload_n 0, 1) := by decide +kernel
theorem dX12_statement_246 : decode cX12_statement 246 = .ok (.bipush 59, 2) := by decide +kernel
theorem dX12_statement_248 : decode cX12_statement 248 = .ok (.invokevirtual 237, 3) := by decide +kernel
theorem dX12_statement_251 : decode cX12_statement 251 = .ok (.ifCond .eq 15, 3) := by decide +kernel
theorem dX12_statement_254 : decode cX12_statement 254 = .ok (.aload_n 0, 1) := by decide +kernel
theorem dX12_statement_255 : decode cX12_statement 255 = .ok (.iconst 1, 1) := by decide +kernel
theorem dX12_statement_256 : decode cX12_statement 256 = .ok (.iconst 0, 1) := by decide +kernel
theorem dX12_statement_257 : decode cX12_statement 257 = .ok (.iconst 0, 1) := by decide +kernel
theorem dX12_statement_258 : decode cX12_statement 258 = .ok (.iconst 0, 1) := by decide +kernel
theorem dX12_statement_259 : decode cX12_statement 259 = .ok (.invokevirtual 301, 3) := by decide +kernel
theorem dX12_statement_262 : decode cX12_statement 262 = .ok (.istore_n 1, 1) := by decide +kernel
theorem dX12_statement_263 : decode cX12_statement 263 = .ok (.goto 7, 3) := by decide +kernel
theorem dX12_statement_266 : decode cX12_statement 266 = .ok (.aload_n 0, 1) := by decide +kernel
theorem dX12_statement_267 : decode cX12_statement 267 = .ok (.invokevirtual 315, 3) := by decide +kernel
theorem dX12_statement_270 : decode cX12_statement 270 = .ok (.aload_n 0, 1) := by decide +kernel
theorem dX12_statement_271 : decode cX12_statement 271 = .ok (.bipush 59, 2) := by decide +kernel
theorem dX12_statement_273 : decode cX12_statement 273 = .ok (.invokevirtual 252, 3) := by decide +kernel
theorem dX12_statement_276 : decode cX12_statement 276 = .ok (.aload_n 0, 1) := by decide +kernel
theorem dX12_statement_277 : decode cX12_statement 277 = .ok (.bipush 19, 2) := by decide +kernel
theorem dX12_statement_279 : decode cX12_statement 279 = .ok (.iconst 0, 1) := by decide +kernel
theorem dX12_statement_280 : decode cX12_statement 280 = .ok (.iconst 0, 1) := by decide +kernel
theorem dX12_statement_281 : decode cX12_statement 281 = .ok (.iconst 0, 1) := by decide +kernel
theorem dX12_statement_282 : decode cX12_statement 282 = .ok (.invokevirtual 301, 3) := by decide +kernel
theorem dX12_statement_285 : decode cX12_statement 285 = .ok (.istore_n 1, 1) := by decide +kernel
theorem dX12_statement_286 : decode cX12_statement 286 = .ok (.goto 28, 3) := by decide +kernel
theorem dX12_statement_289 : decode cX12_statement 289 = .ok (.aload_n 0, 1) := by decide +kernel
theorem dX12_statement_290 : decode cX12_statement 290 = .ok (.invokevirtual 336, 3) := by decide +kernel
theorem dX12_statement_293 : decode cX12_statement 293 = .ok (.goto 21, 3) := by decide +kernel
theorem dX12_statement_296 : decode cX12_statement 296 = .ok (.aload_n 0, 1) := by decide +kernel
theorem dX12_statement_297 : decode cX12_statement 297 = .ok (.invokevirtual 339, 3) := by decide +kernel
theorem dX12_statement_300 : decode cX12_statement 300 = .ok (.goto 14, 3) := by decide +kernel
theorem dX12_statement_303 : decode cX12_statement 303 = .ok (.aload_n 0, 1) := by decide +kernel
theorem dX12_statement_304 : decode cX12_statement 304 = .ok (.invokevirtual 342, 3) := by decide +kernel
theorem dX12_statement_307 : decode cX12_statement 307 = .ok (.goto 7, 3) := by decide +kernel
theorem dX12_statement_310 : decode cX12_statement 310 = .ok (.aload_n 0, 1) := by decide +kernel
theorem dX12_statement_311 : decode cX12_statement 311 = .ok (.invokevirtual 243, 3) := by decide +kernel
theorem dX12_statement_314 : decode cX12_statement 314 = .ok (.return_, 1) := by decide +kernel
theorem dX12_block_0 : decode cX12_block 0 = .ok (.aload_n 0, 1) := by decide +kernel
theorem dX12_block_1 : decode cX12_block 1 = .ok (.bipush 123, 2) := by decide +kernel
theorem dX12_block_3 : decode cX12_block 3 = .ok (.invokevirtual 286, 3) := by decide +kernel
theorem dX12_block_6 : decode cX12_block 6 = .ok (.aload_n 0, 1) := by decide +kernel
theorem dX12_block_7 : decode cX12_block 7 = .ok (.invokevirtual 230, 3) := by decide +kernel
theorem dX12_block_10 : decode cX12_block 10 = .ok (.ifCond .ne 19, 3) := by decide +kernel
theorem dX12_block_13 : decode cX12_block 13 = .ok (.aload_n 0, 1) := by decide +kernel
theorem dX12_block_14 : decode cX12_block 14 = .ok (.bipush 125, 2) := by decide +kernel
theorem dX12_block_16 : decode cX12_block 16 = .ok (.invokevirtual 237, 3) := by decide +kernel
theorem dX12_block_19 : decode cX12_block 19 = .ok (.ifCond .ne 10, 3) := by decide +kernel
theorem dX12_block_22 : decode cX12_block 22 = .ok (.aload_n 0, 1) := by decide +kernel
theorem dX12_block_23 : decode cX12_block 23 = .ok (.invokevirtual 309, 3) := by decide +kernel
theorem dX12_block_26 : decode cX12_block 26 = .ok (.goto (-20), 3) := by decide +kernel
theorem dX12_block_29 : decode cX12_block 29 = .ok (.aload_n 0, 1) := by decide +kernel
theorem dX12_block_30 : decode cX12_block 30 = .ok (.bipush 125, 2) := by decide +kernel
theorem dX12_block_32 : decode cX12_block 32 = .ok (.invokevirtual 292, 3) := by decide +kernel
theorem dX12_block_35 : decode cX12_block 35 = .ok (.return_, 1) := by decide +kernel
theorem dX12_factor_0 : decode cX12_factor 0 = .ok (.aload_n 0, 1) := by decide +kernel
theorem dX12_factor_1 : decode cX12_factor 1 = .ok (.invokevirtual 230, 3) := by decide +kernel
theorem dX12_factor_4 : decode cX12_factor 4 = .ok (.ifCond .eq 4, 3) := by decide +kernel
theorem dX12_factor_7 : decode cX12_factor 7 = .ok (.return_, 1) := by decide +kernel
theorem dX12_factor_8 : decode cX12_factor 8 = .ok (.aload_n 0, 1) := by decide +kernel
theorem dX12_factor_9 : decode cX12_factor 9 = .ok (.getfield 198, 3) := by decide +kernel
theorem dX12_factor_12 : decode cX12_factor 12 = .ok (.iconst 3, 1) := by decide +kernel
theorem dX12_factor_13 : decode cX12_factor 13 = .ok (.if_icmp .ne 22, 3) := by decide +kernel
theorem dX12_factor_16 : decode cX12_factor 16 = .ok (.aload_n 0, 1) := by decide +kernel
theorem dX12_factor_17 : decode cX12_factor 17 = .ok (.iconst 1, 1) := by decide +kernel
theorem dX12_factor_18 : decode cX12_factor 18 = .ok (.aload_n 0, 1) := by decide +kernel
theorem dX12_factor_19 : decode cX12_factor 19 = .ok (.getfield 207, 3) := by decide +kernel
theorem dX12_factor_22 : decode cX12_factor 22 = .ok (.iconst 0, 1) := by decide +kernel
theorem dX12_factor_23 : decode cX12_factor 23 = .ok (.iconst 0, 1) := by decide +kernel
theorem dX12_factor_24 : decode cX12_factor 24 = .ok (.invokevirtual 301, 3) := by decide +kernel
theorem dX12_factor_27 : decode cX12_factor 27 = .ok (.istore_n 1, 1) := by decide +kernel
theorem dX12_factor_28 : decode cX12_factor 28 = .ok (.aload_n 0, 1) := by decide +kernel
theorem dX12_factor_29 : decode cX12_factor 29 = .ok (.invokevirtual 240, 3) := by decide +kernel
theorem dX12_factor_32 : decode cX12_factor 32 = .ok (.goto 204, 3) := by decide +kernel
theorem dX12_factor_35 : decode cX12_factor 35 = .ok (.aload_n 0, 1) := by decide +kernel
theorem dX12_factor_36 : decode cX12_factor 36 = .ok (.getfield 198, 3) := by decide +kernel
theorem dX12_factor_39 : decode cX12_factor 39 = .ok (.iconst 1, 1) := by decide +kernel
theorem dX12_factor_40 : decode cX12_factor 40 = .ok (.if_icmp .ne 29, 3) := by decide +kernel
theorem dX12_factor_43 : decode cX12_factor 43 = .ok (.aload_n 0, 1) := by decide +kernel
theorem dX12_factor_44 : decode cX12_factor 44 = .ok (.iconst 1, 1) := by decide +kernel
theorem dX12_factor_45 : decode cX12_factor 45 = .ok (.invokevirtual 274, 3) := by decide +kernel
theorem dX12_factor_48 : decode cX12_factor 48 = .ok (.istore_n 2, 1) := by decide +kernel
theorem dX12_factor_49 : decode cX12_factor 49 = .ok (.aload_n 0, 1) := by decide +kernel
theorem dX12_factor_50 : decode cX12_factor 50 = .ok (.iconst 2, 1) := by decide +kernel
theorem dX12_factor_51 : decode cX12_factor 51 = .ok (.aload_n 0, 1) := by decide +kernel
theorem dX12_factor_52 : decode cX12_factor 52 = .ok (.iload_n 2, 1) := by decide +kernel
theorem dX12_factor_53 : decode cX12_factor 53 = .ok (.aload_n 0, 1) := by decide +kernel
theorem dX12_factor_54 : decode cX12_factor 54 = .ok (.getfield 255, 3) := by decide +kernel
theorem dX12_factor_57 : decode cX12_factor 57 = .ok (.invokevirtual 312, 3) := by decide +kernel
theorem dX12_factor_60 : decode cX12_factor 60 = .ok (.iconst 0, 1) := by decide +kernel
theorem dX12_factor_61 : decode cX12_factor 61 = .ok (.iconst 0, 1) := by decide +kernel
theorem dX12_factor_62 : decode cX12_factor 62 = .ok (.invokevirtual 301, 3) := by decide +kernel
theorem dX12_factor_65 : decode cX12_factor 65 = .ok (.istore_n 1, 1) := by decide +kernel
theorem dX12_factor_66 : decode cX12_factor 66 = .ok (.goto 170, 3) := by decide +kernel
theorem dX12_factor_69 : decode cX12_factor 69 = .ok (.aload_n 0, 1) := by decide +kernel
theorem dX12_factor_70 : decode cX12_factor 70 = .ok (.bipush 45, 2) := by decide +kernel
theorem dX12_factor_72 : decode cX12_factor 72 = .ok (.invokevirtual 237, 3) := by decide +kernel
theorem dX12_factor_75 : decode cX12_factor 75 = .ok (.ifCond .eq 56, 3) := by decide +kernel
theorem dX12_factor_78 : decode cX12_factor 78 = .ok (.aload_n 0, 1) := by decide +kernel
theorem dX12_factor_79 : decode cX12_factor 79 = .ok (.getfield 249, 3) := by decide +kernel
theorem dX12_factor_82 : decode cX12_factor 82 = .ok (.bipush 20, 2) := by decide +kernel
theorem dX12_factor_84 : decode cX12_factor 84 = .ok (.if_icmp .ne 7, 3) := by decide +kernel
theorem dX12_factor_87 : decode cX12_factor 87 = .ok (.aload_n 0, 1) := by decide +kernel
theorem dX12_factor_88 : decode cX12_factor 88 = .ok (.invokevirtual 243, 3) := by decide +kernel
theorem dX12_factor_91 : decode cX12_factor 91 = .ok (.aload_n 0, 1) := by decide +kernel
theorem dX12_factor_92 : decode cX12_factor 92 = .ok (.dup, 1) := by decide +kernel
theorem dX12_factor_93 : decode cX12_factor 93 = .ok (.getfield 249, 3) := by decide +kernel
theorem dX12_factor_96 : decode cX12_factor 96 = .ok (.iconst 1, 1) := by decide +kernel
theorem dX12_factor_97 : decode cX12_factor 97 = .ok (.iadd, 1) := by decide +kernel
theorem dX12_factor_98 : decode cX12_factor 98 = .ok (.putfield 249, 3) := by decide +kernel
theorem dX12_factor_101 : decode cX12_factor 101 = .ok (.aload_n 0, 1) := by decide +kernel
theorem dX12_factor_102 : decode cX12_factor 102 = .ok (.invokevirtual 240, 3) := by decide +kernel
theorem dX12_factor_105 : decode cX12_factor 105 = .ok (.aload_n 0, 1) := by decide +kernel
theorem dX12_factor_106 : decode cX12_factor 106 = .ok (.invokevirtual 377, 3) := by decide +kernel
theorem dX12_factor_109 : decode cX12_factor 109 = .ok (.aload_n 0, 1) := by decide +kernel
theorem dX12_factor_110 : decode cX12_factor 110 = .ok (.dup, 1) := by decide +kernel
theorem dX12_factor_111 : decode cX12_factor 111 = .ok (.getfield 249, 3) := by decide +kernel
theorem dX12_factor_114 : decode cX12_factor 114 = .ok (.iconst 1, 1) := by decide +kernel
theorem dX12_factor_115 : decode cX12_factor 115 = .ok (.isub, 1) := by decide +kernel
theorem dX12_factor_116 : decode cX12_factor 116 = .ok (.putfield 249, 3) := by decide +kernel
theorem dX12_factor_119 : decode cX12_factor 119 = .ok (.aload_n 0, 1) := by decide +kernel
theorem dX12_factor_120 : decode cX12_factor 120 = .ok (.iconst 4, 1) := by decide +kernel
theorem dX12_factor_121 : decode cX12_factor 121 = .ok (.iconst 0, 1) := by decide +kernel
theorem dX12_factor_122 : decode cX12_factor 122 = .ok (.iconst 0, 1) := by decide +kernel
theorem dX12_factor_123 : decode cX12_factor 123 = .ok (.iconst 0, 1) := by decide +kernel
theorem dX12_factor_124 : decode cX12_factor 124 = .ok (.invokevirtual 301, 3) := by decide +kernel
theorem dX12_factor_127 : decode cX12_factor 127 = .ok (.istore_n 1, 1) := by decide +kernel
theorem dX12_factor_128 : decode cX12_factor 128 = .ok (.goto 108, 3) := by decide +kernel
theorem dX12_factor_131 : decode cX12_factor 131 = .ok (.aload_n 0, 1) := by decide +kernel
theorem dX12_factor_132 : decode cX12_factor 132 = .ok (.bipush 40, 2) := by decide +kernel
theorem dX12_factor_134 : decode cX12_factor 134 = .ok (.invokevirtual 237, 3) := by decide +kernel
theorem dX12_factor_137 : decode cX12_factor 137 = .ok (.ifCond .eq 22, 3) := by decide +kernel
theorem dX12_factor_140 : decode cX12_factor 140 = .ok (.aload_n 0, 1) := by decide +kernel
theorem dX12_factor_141 : decode cX12_factor 141 = .ok (.bipush 40, 2) := by decide +kernel
theorem dX12_factor_143 : decode cX12_factor 143 = .ok (.invokevirtual 286, 3) := by decide +kernel
theorem dX12_factor_146 : decode cX12_factor 146 = .ok (.aload_n 0, 1) := by decide +kernel
theorem dX12_factor_147 : decode cX12_factor 147 = .ok (.invokevirtual 315, 3) := by decide +kernel
theorem dX12_factor_150 : decode cX12_factor 150 = .ok (.aload_n 0, 1) := by decide +kernel
theorem dX12_factor_151 : decode cX12_factor 151 = .ok (.bipush 41, 2) := by decide +kernel
theorem dX12_factor_153 : decode cX12_factor 153 = .ok (.invokevirtual 292, 3) := by decide +kernel
theorem dX12_factor_156 : decode cX12_factor 156 = .ok (.goto 80, 3) := by decide +kernel
theorem dX12_factor_159 : decode cX12_factor 159 = .ok (.aload_n 0, 1) := by decide +kernel
theorem dX12_factor_160 : decode cX12_factor 160 = .ok (.getfield 198, 3) := by decide +kernel
theorem dX12_factor_163 : decode cX12_factor 163 = .ok (.iconst 4, 1) := by decide +kernel
theorem dX12_factor_164 : decode cX12_factor 164 = .ok (.if_icmp .ne 49, 3) := by decide +kernel
theorem dX12_factor_167 : decode cX12_factor 167 = .ok (.aload_n 0, 1) := by decide +kernel
theorem dX12_factor_168 : decode cX12_factor 168 = .ok (.getfield 207, 3) := by decide +kernel
theorem dX12_factor_171 : decode cX12_factor 171 = .ok (.bipush 19, 2) := by decide +kernel
theorem dX12_factor_173 : decode cX12_factor 173 = .ok (.if_icmp .lt 40, 3) := by decide +kernel
theorem dX12_factor_176 : decode cX12_factor 176 = .ok (.aload_n 0, 1) := by decide +kernel
theorem dX12_factor_177 : decode cX12_factor 177 = .ok (.getfield 207, 3) := by decide +kernel
theorem dX12_factor_180 : decode cX12_factor 180 = .ok (.bipush 23, 2) := by decide +kernel
theorem dX12_factor_182 : decode cX12_factor 182 = .ok (.if_icmp .gt 31, 3) := by decide +kernel
theorem dX12_factor_185 : decode cX12_factor 185 = .ok (.aload_n 0, 1) := by decide +kernel
theorem dX12_factor_186 : decode cX12_factor 186 = .ok (.getfield 207, 3) := by decide +kernel
theorem dX12_factor_189 : decode cX12_factor 189 = .ok (.bipush 19, 2) := by decide +kernel
theorem dX12_factor_191 : decode cX12_factor 191 = .ok (.isub, 1) := by decide +kernel
theorem dX12_factor_192 : decode cX12_factor 192 = .ok (.istore_n 2, 1) := by decide +kernel
theorem dX12_factor_193 : decode cX12_factor 193 = .ok (.aload_n 0, 1) := by decide +kernel
theorem dX12_factor_194 : decode cX12_factor 194 = .ok (.invokevirtual 240, 3) := by decide +kernel
theorem dX12_factor_197 : decode cX12_factor 197 = .ok (.aload_n 0, 1) := by decide +kernel
theorem dX12_factor_198 : decode cX12_factor 198 = .ok (.bipush 7, 2) := by decide +kernel
theorem dX12_factor_200 : decode cX12_factor 200 = .ok (.aload_n 0, 1) := by decide +kernel
theorem dX12_factor_201 : decode cX12_factor 201 = .ok (.invokevirtual 324, 3) := by decide +kernel
theorem dX12_factor_204 : decode cX12_factor 204 = .ok (.iload_n 2, 1) := by decide +kernel
theorem dX12_factor_205 : decode cX12_factor 205 = .ok (.iconst 0, 1) := by decide +kernel
theorem dX12_factor_206 : decode cX12_factor 206 = .ok (.invokevirtual 301, 3) := by decide +kernel
theorem dX12_factor_209 : decode cX12_factor 209 = .ok (.istore_n 1, 1) := by decide +kernel
theorem dX12_factor_210 : decode cX12_factor 210 = .ok (.goto 26, 3) := by decide +kernel
theorem dX12_factor_213 : decode cX12_factor 213 = .ok (.aload_n 0, 1) := by decide +kernel
theorem dX12_factor_214 : decode cX12_factor 214 = .ok (.getfield 198, 3) := by decide +kernel
theorem dX12_factor_217 : decode cX12_factor 217 = .ok (.iconst 2, 1) := by decide +kernel
theorem dX12_factor_218 : decode cX12_factor 218 = .ok (.if_icmp .ne 14, 3) := by decide +kernel
theorem dX12_factor_221 : decode cX12_factor 221 = .ok (.aload_n 0, 1) := by decide +kernel
theorem dX12_factor_222 : decode cX12_factor 222 = .ok (.aload_n 0, 1) := by decide +kernel
theorem dX12_factor_223 : decode cX12_factor 223 = .ok (.invokevirtual 324, 3) := by decide +kernel
theorem dX12_factor_226 : decode cX12_factor 226 = .ok (.invokevirtual 347, 3) := by decide +kernel
theorem dX12_factor_229 : decode cX12_factor 229 = .ok (.goto 7, 3) := by decide +kernel
theorem dX12_factor_232 : decode cX12_factor 232 = .ok (.aload_n 0, 1) := by decide +kernel
theorem dX12_factor_233 : decode cX12_factor 233 = .ok (.invokevirtual 243, 3) := by decide +kernel
theorem dX12_factor_236 : decode cX12_factor 236 = .ok (.return_, 1) := by decide +kernel
theorem dX12_read_0 : decode cX12_read 0 = .ok (.iload_n 1, 1) := by decide +kernel
theorem dX12_read_1 : decode cX12_read 1 = .ok (.ifCond .lt 11, 3) := by decide +kernel
theorem dX12_read_4 : decode cX12_read 4 = .ok (.iload_n 1, 1) := by decide +kernel
theorem dX12_read_5 : decode cX12_read 5 = .ok (.aload_n 0, 1) := by decide +kernel
theorem dX12_read_6 : decode cX12_read 6 = .ok (.getfield 159, 3) := by decide +kernel
theorem dX12_read_9 : decode cX12_read 9 = .ok (.if_icmp .le 5, 3) := by decide +kernel
theorem dX12_read_12 : decode cX12_read 12 = .ok (.iconst (-1), 1) := by decide +kernel
theorem dX12_read_13 : decode cX12_read 13 = .ok (.ireturn, 1) := by decide +kernel
theorem dX12_read_14 : decode cX12_read 14 = .ok (.aload_n 0, 1) := by decide +kernel
theorem dX12_read_15 : decode cX12_read 15 = .ok (.iload_n 1, 1) := by decide +kernel
theorem dX12_read_16 : decode cX12_read 16 = .ok (.putfield 166, 3) := by decide +kernel
theorem dX12_read_19 : decode cX12_read 19 = .ok (.aload_n 0, 1) := by decide +kernel
theorem dX12_read_20 : decode cX12_read 20 = .ok (.iconst 0, 1) := by decide +kernel
theorem dX12_read_21 : decode cX12_read 21 = .ok (.putfield 159, 3) := by decide +kernel
theorem dX12_read_24 : decode cX12_read 24 = .ok (.aload_n 0, 1) := by decide +kernel
theorem dX12_read_25 : decode cX12_read 25 = .ok (.iconst 1, 1) := by decide +kernel
theorem dX12_read_26 : decode cX12_read 26 = .ok (.aload_n 0, 1) := by decide +kernel
theorem dX12_read_27 : decode cX12_read 27 = .ok (.getfield 70, 3) := by decide +kernel
theorem dX12_read_30 : decode cX12_read 30 = .ok (.isub, 1) := by decide +kernel
theorem dX12_read_31 : decode cX12_read 31 = .ok (.putfield 70, 3) := by decide +kernel
theorem dX12_read_34 : decode cX12_read 34 = .ok (.aload_n 0, 1) := by decide +kernel
theorem dX12_read_35 : decode cX12_read 35 = .ok (.iconst 0, 1) := by decide +kernel
theorem dX12_read_36 : decode cX12_read 36 = .ok (.putfield 224, 3) := by decide +kernel
theorem dX12_read_39 : decode cX12_read 39 = .ok (.aload_n 0, 1) := by decide +kernel
theorem dX12_read_40 : decode cX12_read 40 = .ok (.iconst 0, 1) := by decide +kernel
theorem dX12_read_41 : decode cX12_read 41 = .ok (.putfield 258, 3) := by decide +kernel
theorem dX12_read_44 : decode cX12_read 44 = .ok (.aload_n 0, 1) := by decide +kernel
theorem dX12_read_45 : decode cX12_read 45 = .ok (.iconst 0, 1) := by decide +kernel
theorem dX12_read_46 : decode cX12_read 46 = .ok (.putfield 356, 3) := by decide +kernel
theorem dX12_read_49 : decode cX12_read 49 = .ok (.aload_n 0, 1) := by decide +kernel
theorem dX12_read_50 : decode cX12_read 50 = .ok (.iconst 0, 1) := by decide +kernel
theorem dX12_read_51 : decode cX12_read 51 = .ok (.putfield 359, 3) := by decide +kernel
theorem dX12_read_54 : decode cX12_read 54 = .ok (.aload_n 0, 1) := by decide +kernel
theorem dX12_read_55 : decode cX12_read 55 = .ok (.iconst 0, 1) := by decide +kernel
theorem dX12_read_56 : decode cX12_read 56 = .ok (.putfield 249, 3) := by decide +kernel
theorem dX12_read_59 : decode cX12_read 59 = .ok (.aload_n 0, 1) := by decide +kernel
theorem dX12_read_60 : decode cX12_read 60 = .ok (.iconst 0, 1) := by decide +kernel
theorem dX12_read_61 : decode cX12_read 61 = .ok (.putfield 353, 3) := by decide +kernel
theorem dX12_read_64 : decode cX12_read 64 = .ok (.aload_n 0, 1) := by decide +kernel
theorem dX12_read_65 : decode cX12_read 65 = .ok (.iconst 0, 1) := by decide +kernel
theorem dX12_read_66 : decode cX12_read 66 = .ok (.putfield 221, 3) := by decide +kernel
theorem dX12_read_69 : decode cX12_read 69 = .ok (.aload_n 0, 1) := by decide +kernel
theorem dX12_read_70 : decode cX12_read 70 = .ok (.iconst (-1), 1) := by decide +kernel
theorem dX12_read_71 : decode cX12_read 71 = .ok (.putfield 227, 3) := by decide +kernel
theorem dX12_read_74 : decode cX12_read 74 = .ok (.aload_n 0, 1) := by decide +kernel
theorem dX12_read_75 : decode cX12_read 75 = .ok (.iconst (-1), 1) := by decide +kernel
theorem dX12_read_76 : decode cX12_read 76 = .ok (.putfield 261, 3) := by decide +kernel
theorem dX12_read_79 : decode cX12_read 79 = .ok (.aload_n 0, 1) := by decide +kernel
theorem dX12_read_80 : decode cX12_read 80 = .ok (.iconst (-1), 1) := by decide +kernel
theorem dX12_read_81 : decode cX12_read 81 = .ok (.putfield 271, 3) := by decide +kernel
theorem dX12_read_84 : decode cX12_read 84 = .ok (.aload_n 0, 1) := by decide +kernel
theorem dX12_read_85 : decode cX12_read 85 = .ok (.iconst (-1), 1) := by decide +kernel
theorem dX12_read_86 : decode cX12_read 86 = .ok (.putfield 380, 3) := by decide +kernel
theorem dX12_read_89 : decode cX12_read 89 = .ok (.aload_n 0, 1) := by decide +kernel
theorem dX12_read_90 : decode cX12_read 90 = .ok (.iconst 0, 1) := by decide +kernel
theorem dX12_read_91 : decode cX12_read 91 = .ok (.putfield 179, 3) := by decide +kernel
theorem dX12_read_94 : decode cX12_read 94 = .ok (.aload_n 0, 1) := by decide +kernel
theorem dX12_read_95 : decode cX12_read 95 = .ok (.invokevirtual 234, 3) := by decide +kernel
theorem dX12_read_98 : decode cX12_read 98 = .ok (.aload_n 0, 1) := by decide +kernel
theorem dX12_read_99 : decode cX12_read 99 = .ok (.invokevirtual 383, 3) := by decide +kernel
theorem dX12_read_102 : decode cX12_read 102 = .ok (.iconst 0, 1) := by decide +kernel
theorem dX12_read_103 : decode cX12_read 103 = .ok (.istore_n 2, 1) := by decide +kernel
theorem dX12_read_104 : decode cX12_read 104 = .ok (.iload_n 2, 1) := by decide +kernel
theorem dX12_read_105 : decode cX12_read 105 = .ok (.aload_n 0, 1) := by decide +kernel
theorem dX12_read_106 : decode cX12_read 106 = .ok (.getfield 353, 3) := by decide +kernel
theorem dX12_read_109 : decode cX12_read 109 = .ok (.if_icmp .ge 98, 3) := by decide +kernel
theorem dX12_read_112 : decode cX12_read 112 = .ok (.aload_n 0, 1) := by decide +kernel
theorem dX12_read_113 : decode cX12_read 113 = .ok (.invokevirtual 230, 3) := by decide +kernel
theorem dX12_read_116 : decode cX12_read 116 = .ok (.ifCond .ne 91, 3) := by decide +kernel
theorem dX12_read_119 : decode cX12_read 119 = .ok (.aload_n 0, 1) := by decide +kernel
theorem dX12_read_120 : decode cX12_read 120 = .ok (.getfield 25, 3) := by decide +kernel
theorem dX12_read_123 : decode cX12_read 123 = .ok (.aload_n 0, 1) := by decide +kernel
theorem dX12_read_124 : decode cX12_read 124 = .ok (.getfield 83, 3) := by decide +kernel
theorem dX12_read_127 : decode cX12_read 127 = .ok (.iload_n 2, 1) := by decide +kernel
theorem dX12_read_128 : decode cX12_read 128 = .ok (.iaload, 1) := by decide +kernel
theorem dX12_read_129 : decode cX12_read 129 = .ok (.iaload, 1) := by decide +kernel
theorem dX12_read_130 : decode cX12_read 130 = .ok (.istore_n 3, 1) := by decide +kernel
theorem dX12_read_131 : decode cX12_read 131 = .ok (.iload_n 3, 1) := by decide +kernel
theorem dX12_read_132 : decode cX12_read 132 = .ok (.iconst (-1), 1) := by decide +kernel
theorem dX12_read_133 : decode cX12_read 133 = .ok (.if_icmp .eq 27, 3) := by decide +kernel
theorem dX12_read_136 : decode cX12_read 136 = .ok (.aload_n 0, 1) := by decide +kernel
theorem dX12_read_137 : decode cX12_read 137 = .ok (.getfield 46, 3) := by decide +kernel
theorem dX12_read_140 : decode cX12_read 140 = .ok (.sipush 400, 3) := by decide +kernel
theorem dX12_read_143 : decode cX12_read 143 = .ok (.aload_n 0, 1) := by decide +kernel
theorem dX12_read_144 : decode cX12_read 144 = .ok (.getfield 70, 3) := by decide +kernel
theorem dX12_read_147 : decode cX12_read 147 = .ok (.imul, 1) := by decide +kernel
theorem dX12_read_148 : decode cX12_read 148 = .ok (.iload_n 3, 1) := by decide +kernel
theorem dX12_read_149 : decode cX12_read 149 = .ok (.iadd, 1) := by decide +kernel
theorem dX12_read_150 : decode cX12_read 150 = .ok (.iaload, 1) := by decide +kernel
theorem dX12_read_151 : decode cX12_read 151 = .ok (.aload_n 0, 1) := by decide +kernel
theorem dX12_read_152 : decode cX12_read 152 = .ok (.getfield 86, 3) := by decide +kernel
theorem dX12_read_155 : decode cX12_read 155 = .ok (.iload_n 2, 1) := by decide +kernel
theorem dX12_read_156 : decode cX12_read 156 = .ok (.iaload, 1) := by decide +kernel
theorem dX12_read_157 : decode cX12_read 157 = .ok (.if_icmp .eq 23, 3) := by decide +kernel
theorem dX12_read_160 : decode cX12_read 160 = .ok (.aload_n 0, 1) := by decide +kernel
theorem dX12_read_161 : decode cX12_read 161 = .ok (.aload_n 0, 1) := by decide +kernel
theorem dX12_read_162 : decode cX12_read 162 = .ok (.getfield 380, 3) := by decide +kernel
theorem dX12_read_165 : decode cX12_read 165 = .ok (.aload_n 0, 1) := by decide +kernel
theorem dX12_read_166 : decode cX12_read 166 = .ok (.getfield 89, 3) := by decide +kernel
theorem dX12_read_169 : decode cX12_read 169 = .ok (.iload_n 2, 1) := by decide +kernel
theorem dX12_read_170 : decode cX12_read 170 = .ok (.iaload, 1) := by decide +kernel
theorem dX12_read_171 : decode cX12_read 171 = .ok (.invokestatic 264, 3) := by decide +kernel
theorem dX12_read_174 : decode cX12_read 174 = .ok (.putfield 380, 3) := by decide +kernel
theorem dX12_read_177 : decode cX12_read 177 = .ok (.goto 24, 3) := by decide +kernel
theorem dX12_read_180 : decode cX12_read 180 = .ok (.aload_n 0, 1) := by decide +kernel
theorem dX12_read_181 : decode cX12_read 181 = .ok (.getfield 31, 3) := by decide +kernel
theorem dX12_read_184 : decode cX12_read 184 = .ok (.aload_n 0, 1) := by decide +kernel
theorem dX12_read_185 : decode cX12_read 185 = .ok (.getfield 80, 3) := by decide +kernel
theorem dX12_read_188 : decode cX12_read 188 = .ok (.iload_n 2, 1) := by decide +kernel
theorem dX12_read_189 : decode cX12_read 189 = .ok (.iaload, 1) := by decide +kernel
theorem dX12_read_190 : decode cX12_read 190 = .ok (.sipush 400, 3) := by decide +kernel
theorem dX12_read_193 : decode cX12_read 193 = .ok (.aload_n 0, 1) := by decide +kernel
theorem dX12_read_194 : decode cX12_read 194 = .ok (.getfield 70, 3) := by decide +kernel
theorem dX12_read_197 : decode cX12_read 197 = .ok (.imul, 1) := by decide +kernel
theorem dX12_read_198 : decode cX12_read 198 = .ok (.iload_n 3, 1) := by decide +kernel
theorem dX12_read_199 : decode cX12_read 199 = .ok (.iadd, 1) := by decide +kernel
theorem dX12_read_200 : decode cX12_read 200 = .ok (.iastore, 1) := by decide +kernel
theorem dX12_read_201 : decode cX12_read 201 = .ok (.iinc 2 1, 3) := by decide +kernel
theorem dX12_read_204 : decode cX12_read 204 = .ok (.goto (-100), 3) := by decide +kernel
theorem dX12_read_207 : decode cX12_read 207 = .ok (.aload_n 0, 1) := by decide +kernel
theorem dX12_read_208 : decode cX12_read 208 = .ok (.aload_n 0, 1) := by decide +kernel
theorem dX12_read_209 : decode cX12_read 209 = .ok (.invokevirtual 230, 3) := by decide +kernel
theorem dX12_read_212 : decode cX12_read 212 = .ok (.ifCond .eq 7, 3) := by decide +kernel
theorem dX12_read_215 : decode cX12_read 215 = .ok (.iconst 1, 1) := by decide +kernel
theorem dX12_read_216 : decode cX12_read 216 = .ok (.goto 40, 3) := by decide +kernel
theorem dX12_read_219 : decode cX12_read 219 = .ok (.aload_n 0, 1) := by decide +kernel
theorem dX12_read_220 : decode cX12_read 220 = .ok (.getfield 261, 3) := by decide +kernel
theorem dX12_read_223 : decode cX12_read 223 = .ok (.iconst (-1), 1) := by decide +kernel
theorem dX12_read_224 : decode cX12_read 224 = .ok (.if_icmp .eq 7, 3) := by decide +kernel
theorem dX12_read_227 : decode cX12_read 227 = .ok (.iconst 2, 1) := by decide +kernel
theorem dX12_read_228 : decode cX12_read 228 = .ok (.goto 28, 3) := by decide +kernel
theorem dX12_read_231 : decode cX12_read 231 = .ok (.aload_n 0, 1) := by decide +kernel
theorem dX12_read_232 : decode cX12_read 232 = .ok (.getfield 271, 3) := by decide +kernel
theorem dX12_read_235 : decode cX12_read 235 = .ok (.iconst (-1), 1) := by decide +kernel
theorem dX12_read_236 : decode cX12_read 236 = .ok (.if_icmp .eq 7, 3) := by decide +kernel
theorem dX12_read_239 : decode cX12_read 239 = .ok (.iconst 3, 1) := by decide +kernel
theorem dX12_read_240 : decode cX12_read 240 = .ok (.goto 16, 3) := by decide +kernel
theorem dX12_read_243 : decode cX12_read 243 = .ok (.aload_n 0, 1) := by decide +kernel
theorem dX12_read_244 : decode cX12_read 244 = .ok (.getfield 380, 3) := by decide +kernel
theorem dX12_read_247 : decode cX12_read 247 = .ok (.iconst (-1), 1) := by decide +kernel
theorem dX12_read_248 : decode cX12_read 248 = .ok (.if_icmp .eq 7, 3) := by decide +kernel
theorem dX12_read_251 : decode cX12_read 251 = .ok (.iconst 4, 1) := by decide +kernel
theorem dX12_read_252 : decode cX12_read 252 = .ok (.goto 4, 3) := by decide +kernel
theorem dX12_read_255 : decode cX12_read 255 = .ok (.iconst 0, 1) := by decide +kernel
theorem dX12_read_256 : decode cX12_read 256 = .ok (.putfield 74, 3) := by decide +kernel
theorem dX12_read_259 : decode cX12_read 259 = .ok (.aload_n 0, 1) := by decide +kernel
theorem dX12_read_260 : decode cX12_read 260 = .ok (.aload_n 0, 1) := by decide +kernel
theorem dX12_read_261 : decode cX12_read 261 = .ok (.invokevirtual 230, 3) := by decide +kernel
theorem dX12_read_264 : decode cX12_read 264 = .ok (.ifCond .eq 10, 3) := by decide +kernel
theorem dX12_read_267 : decode cX12_read 267 = .ok (.aload_n 0, 1) := by decide +kernel
theorem dX12_read_268 : decode cX12_read 268 = .ok (.getfield 227, 3) := by decide +kernel
theorem dX12_read_271 : decode cX12_read 271 = .ok (.goto 37, 3) := by decide +kernel
theorem dX12_read_274 : decode cX12_read 274 = .ok (.aload_n 0, 1) := by decide +kernel
theorem dX12_read_275 : decode cX12_read 275 = .ok (.getfield 261, 3) := by decide +kernel
theorem dX12_read_278 : decode cX12_read 278 = .ok (.iconst (-1), 1) := by decide +kernel
theorem dX12_read_279 : decode cX12_read 279 = .ok (.if_icmp .eq 10, 3) := by decide +kernel
theorem dX12_read_282 : decode cX12_read 282 = .ok (.aload_n 0, 1) := by decide +kernel
theorem dX12_read_283 : decode cX12_read 283 = .ok (.getfield 261, 3) := by decide +kernel
theorem dX12_read_286 : decode cX12_read 286 = .ok (.goto 22, 3) := by decide +kernel
theorem dX12_read_289 : decode cX12_read 289 = .ok (.aload_n 0, 1) := by decide +kernel
theorem dX12_read_290 : decode cX12_read 290 = .ok (.getfield 271, 3) := by decide +kernel
theorem dX12_read_293 : decode cX12_read 293 = .ok (.iconst (-1), 1) := by decide +kernel
theorem dX12_read_294 : decode cX12_read 294 = .ok (.if_icmp .eq 10, 3) := by decide +kernel
theorem dX12_read_297 : decode cX12_read 297 = .ok (.aload_n 0, 1) := by decide +kernel
theorem dX12_read_298 : decode cX12_read 298 = .ok (.getfield 271, 3) := by decide +kernel
theorem dX12_read_301 : decode cX12_read 301 = .ok (.goto 7, 3) := by decide +kernel
theorem dX12_read_304 : decode cX12_read 304 = .ok (.aload_n 0, 1) := by decide +kernel
theorem dX12_read_305 : decode cX12_read 305 = .ok (.getfield 380, 3) := by decide +kernel
theorem dX12_read_308 : decode cX12_read 308 = .ok (.putfield 77, 3) := by decide +kernel
theorem dX12_read_311 : decode cX12_read 311 = .ok (.aload_n 0, 1) := by decide +kernel
theorem dX12_read_312 : decode cX12_read 312 = .ok (.getfield 74, 3) := by decide +kernel
theorem dX12_read_315 : decode cX12_read 315 = .ok (.ifCond .le 16, 3) := by decide +kernel
theorem dX12_read_318 : decode cX12_read 318 = .ok (.aload_n 0, 1) := by decide +kernel
theorem dX12_read_319 : decode cX12_read 319 = .ok (.iconst 1, 1) := by decide +kernel
theorem dX12_read_320 : decode cX12_read 320 = .ok (.aload_n 0, 1) := by decide +kernel
theorem dX12_read_321 : decode cX12_read 321 = .ok (.getfield 70, 3) := by decide +kernel
theorem dX12_read_324 : decode cX12_read 324 = .ok (.isub, 1) := by decide +kernel
theorem dX12_read_325 : decode cX12_read 325 = .ok (.putfield 70, 3) := by decide +kernel
theorem dX12_read_328 : decode cX12_read 328 = .ok (.goto 11, 3) := by decide +kernel
theorem dX12_read_331 : decode cX12_read 331 = .ok (.aload_n 0, 1) := by decide +kernel
theorem dX12_read_332 : decode cX12_read 332 = .ok (.aload_n 0, 1) := by decide +kernel
theorem dX12_read_333 : decode cX12_read 333 = .ok (.getfield 258, 3) := by decide +kernel
theorem dX12_read_336 : decode cX12_read 336 = .ok (.putfield 386, 3) := by decide +kernel
theorem dX12_read_339 : decode cX12_read 339 = .ok (.aload_n 0, 1) := by decide +kernel
theorem dX12_read_340 : decode cX12_read 340 = .ok (.getfield 74, 3) := by decide +kernel
theorem dX12_read_343 : decode cX12_read 343 = .ok (.ireturn, 1) := by decide +kernel
theorem dX12_fault_0 : decode cX12_fault 0 = .ok (.iload_n 1, 1) := by decide +kernel
theorem dX12_fault_1 : decode cX12_fault 1 = .ok (.ifCond .ne 10, 3) := by decide +kernel
theorem dX12_fault_4 : decode cX12_fault 4 = .ok (.aload_n 0, 1) := by decide +kernel
theorem dX12_fault_5 : decode cX12_fault 5 = .ok (.getfield 74, 3) := by decide +kernel
theorem dX12_fault_8 : decode cX12_fault 8 = .ok (.goto 23, 3) := by decide +kernel
theorem dX12_fault_11 : decode cX12_fault 11 = .ok (.iload_n 1, 1) := by decide +kernel
theorem dX12_fault_12 : decode cX12_fault 12 = .ok (.iconst 1, 1) := by decide +kernel
theorem dX12_fault_13 : decode cX12_fault 13 = .ok (.if_icmp .ne 17, 3) := by decide +kernel
theorem dX12_fault_16 : decode cX12_fault 16 = .ok (.aload_n 0, 1) := by decide +kernel
theorem dX12_fault_17 : decode cX12_fault 17 = .ok (.getfield 74, 3) := by decide +kernel
theorem dX12_fault_20 : decode cX12_fault 20 = .ok (.ifCond .le 10, 3) := by decide +kernel
theorem dX12_fault_23 : decode cX12_fault 23 = .ok (.aload_n 0, 1) := by decide +kernel
theorem dX12_fault_24 : decode cX12_fault 24 = .ok (.getfield 77, 3) := by decide +kernel
theorem dX12_fault_27 : decode cX12_fault 27 = .ok (.goto 4, 3) := by decide +kernel
theorem dX12_fault_30 : decode cX12_fault 30 = .ok (.iconst (-1), 1) := by decide +kernel
theorem dX12_fault_31 : decode cX12_fault 31 = .ok (.ireturn, 1) := by decide +kernel
theorem dX12_above_0 : decode cX12_above 0 = .ok (.iload_n 0, 1) := by decide +kernel
theorem dX12_above_1 : decode cX12_above 1 = .ok (.ifCond .ne 7, 3) := by decide +kernel
theorem dX12_above_4 : decode cX12_above 4 = .ok (.iconst (-1), 1) := by decide +kernel
theorem dX12_above_5 : decode cX12_above 5 = .ok (.goto 33, 3) := by decide +kernel
theorem dX12_above_8 : decode cX12_above 8 = .ok (.iload_n 0, 1) := by decide +kernel
theorem dX12_above_9 : decode cX12_above 9 = .ok (.iconst 2, 1) := by decide +kernel
theorem dX12_above_10 : decode cX12_above 10 = .ok (.if_icmp .eq 8, 3) := by decide +kernel
theorem dX12_above_13 : decode cX12_above 13 = .ok (.iload_n 0, 1) := by decide +kernel
theorem dX12_above_14 : decode cX12_above 14 = .ok (.iconst 3, 1) := by decide +kernel
theorem dX12_above_15 : decode cX12_above 15 = .ok (.if_icmp .ne 7, 3) := by decide +kernel
theorem dX12_above_18 : decode cX12_above 18 = .ok (.iconst 1, 1) := by decide +kernel
theorem dX12_above_19 : decode cX12_above 19 = .ok (.goto 19, 3) := by decide +kernel
theorem dX12_above_22 : decode cX12_above 22 = .ok (.iload_n 0, 1) := by decide +kernel
theorem dX12_above_23 : decode cX12_above 23 = .ok (.iconst 5, 1) := by decide +kernel
theorem dX12_above_24 : decode cX12_above 24 = .ok (.if_icmp .eq 9, 3) := by decide +kernel
theorem dX12_above_27 : decode cX12_above 27 = .ok (.iload_n 0, 1) := by decide +kernel
theorem dX12_above_28 : decode cX12_above 28 = .ok (.bipush 6, 2) := by decide +kernel
theorem dX12_above_30 : decode cX12_above 30 = .ok (.if_icmp .ne 7, 3) := by decide +kernel
theorem dX12_above_33 : decode cX12_above 33 = .ok (.iconst 4, 1) := by decide +kernel
theorem dX12_above_34 : decode cX12_above 34 = .ok (.goto 4, 3) := by decide +kernel
theorem dX12_above_37 : decode cX12_above 37 = .ok (.iconst 0, 1) := by decide +kernel
theorem dX12_above_38 : decode cX12_above 38 = .ok (.ireturn, 1) := by decide +kernel
theorem dX12_isKind_0 : decode cX12_isKind 0 = .ok (.iload_n 0, 1) := by decide +kernel
theorem dX12_isKind_1 : decode cX12_isKind 1 = .ok (.istore_n 2, 1) := by decide +kernel
theorem dX12_isKind_2 : decode cX12_isKind 2 = .ok (.iload_n 2, 1) := by decide +kernel
theorem dX12_isKind_3 : decode cX12_isKind 3 = .ok (.iconst (-1), 1) := by decide +kernel
theorem dX12_isKind_4 : decode cX12_isKind 4 = .ok (.if_icmp .eq 16, 3) := by decide +kernel
theorem dX12_isKind_7 : decode cX12_isKind 7 = .ok (.iload_n 2, 1) := by decide +kernel
theorem dX12_isKind_8 : decode cX12_isKind 8 = .ok (.iload_n 1, 1) := by decide +kernel
theorem dX12_isKind_9 : decode cX12_isKind 9 = .ok (.if_icmp .eq 11, 3) := by decide +kernel
theorem dX12_isKind_12 : decode cX12_isKind 12 = .ok (.iload_n 2, 1) := by decide +kernel
theorem dX12_isKind_13 : decode cX12_isKind 13 = .ok (.invokestatic 389, 3) := by decide +kernel
theorem dX12_isKind_16 : decode cX12_isKind 16 = .ok (.istore_n 2, 1) := by decide +kernel
theorem dX12_isKind_17 : decode cX12_isKind 17 = .ok (.goto (-15), 3) := by decide +kernel
theorem dX12_isKind_20 : decode cX12_isKind 20 = .ok (.iload_n 2, 1) := by decide +kernel
theorem dX12_isKind_21 : decode cX12_isKind 21 = .ok (.iload_n 1, 1) := by decide +kernel
theorem dX12_isKind_22 : decode cX12_isKind 22 = .ok (.if_icmp .ne 7, 3) := by decide +kernel
theorem dX12_isKind_25 : decode cX12_isKind 25 = .ok (.iconst 1, 1) := by decide +kernel
theorem dX12_isKind_26 : decode cX12_isKind 26 = .ok (.goto 4, 3) := by decide +kernel
theorem dX12_isKind_29 : decode cX12_isKind 29 = .ok (.iconst 0, 1) := by decide +kernel
theorem dX12_isKind_30 : decode cX12_isKind 30 = .ok (.ireturn, 1) := by decide +kernel
theorem dX12_weight_0 : decode cX12_weight 0 = .ok (.aload_n 0, 1) := by decide +kernel
theorem dX12_weight_1 : decode cX12_weight 1 = .ok (.getfield 95, 3) := by decide +kernel
theorem dX12_weight_4 : decode cX12_weight 4 = .ok (.iload_n 1, 1) := by decide +kernel
theorem dX12_weight_5 : decode cX12_weight 5 = .ok (.iaload, 1) := by decide +kernel
theorem dX12_weight_6 : decode cX12_weight 6 = .ok (.istore_n 2, 1) := by decide +kernel
theorem dX12_weight_7 : decode cX12_weight 7 = .ok (.aload_n 0, 1) := by decide +kernel
theorem dX12_weight_8 : decode cX12_weight 8 = .ok (.getfield 92, 3) := by decide +kernel
theorem dX12_weight_11 : decode cX12_weight 11 = .ok (.iload_n 1, 1) := by decide +kernel
theorem dX12_weight_12 : decode cX12_weight 12 = .ok (.iaload, 1) := by decide +kernel
theorem dX12_weight_13 : decode cX12_weight 13 = .ok (.tableswitch 75 0 5 #[39, 41, 46, 58, 65, 69], 39) := by decide +kernel
theorem dX12_weight_52 : decode cX12_weight 52 = .ok (.iload_n 2, 1) := by decide +kernel
theorem dX12_weight_53 : decode cX12_weight 53 = .ok (.ireturn, 1) := by decide +kernel
theorem dX12_weight_54 : decode cX12_weight 54 = .ok (.iload_n 2, 1) := by decide +kernel
theorem dX12_weight_55 : decode cX12_weight 55 = .ok (.bipush 10, 2) := by decide +kernel
theorem dX12_weight_57 : decode cX12_weight 57 = .ok (.iadd, 1) := by decide +kernel
theorem dX12_weight_58 : decode cX12_weight 58 = .ok (.ireturn, 1) := by decide +kernel
theorem dX12_weight_59 : decode cX12_weight 59 = .ok (.iload_n 2, 1) := by decide +kernel
theorem dX12_weight_60 : decode cX12_weight 60 = .ok (.bipush 10, 2) := by decide +kernel
theorem dX12_weight_62 : decode cX12_weight 62 = .ok (.iadd, 1) := by decide +kernel
theorem dX12_weight_63 : decode cX12_weight 63 = .ok (.aload_n 0, 1) := by decide +kernel
theorem dX12_weight_64 : decode cX12_weight 64 = .ok (.getfield 98, 3) := by decide +kernel
theorem dX12_weight_67 : decode cX12_weight 67 = .ok (.iload_n 1, 1) := by decide +kernel
theorem dX12_weight_68 : decode cX12_weight 68 = .ok (.iaload, 1) := by decide +kernel
theorem dX12_weight_69 : decode cX12_weight 69 = .ok (.iadd, 1) := by decide +kernel
theorem dX12_weight_70 : decode cX12_weight 70 = .ok (.ireturn, 1) := by decide +kernel
theorem dX12_weight_71 : decode cX12_weight 71 = .ok (.iconst 2, 1) := by decide +kernel
theorem dX12_weight_72 : decode cX12_weight 72 = .ok (.iload_n 2, 1) := by decide +kernel
theorem dX12_weight_73 : decode cX12_weight 73 = .ok (.bipush 10, 2) := by decide +kernel
theorem dX12_weight_75 : decode cX12_weight 75 = .ok (.iadd, 1) := by decide +kernel
theorem dX12_weight_76 : decode cX12_weight 76 = .ok (.imul, 1) := by decide +kernel
theorem dX12_weight_77 : decode cX12_weight 77 = .ok (.ireturn, 1) := by decide +kernel
theorem dX12_weight_78 : decode cX12_weight 78 = .ok (.iconst 3, 1) := by decide +kernel
theorem dX12_weight_79 : decode cX12_weight 79 = .ok (.iload_n 2, 1) := by decide +kernel
theorem dX12_weight_80 : decode cX12_weight 80 = .ok (.imul, 1) := by decide +kernel
theorem dX12_weight_81 : decode cX12_weight 81 = .ok (.ireturn, 1) := by decide +kernel
theorem dX12_weight_82 : decode cX12_weight 82 = .ok (.iconst 3, 1) := by decide +kernel
theorem dX12_weight_83 : decode cX12_weight 83 = .ok (.iload_n 2, 1) := by decide +kernel
theorem dX12_weight_84 : decode cX12_weight 84 = .ok (.imul, 1) := by decide +kernel
theorem dX12_weight_85 : decode cX12_weight 85 = .ok (.iconst 5, 1) := by decide +kernel
theorem dX12_weight_86 : decode cX12_weight 86 = .ok (.isub, 1) := by decide +kernel
theorem dX12_weight_87 : decode cX12_weight 87 = .ok (.ireturn, 1) := by decide +kernel
theorem dX12_weight_88 : decode cX12_weight 88 = .ok (.iconst 3, 1) := by decide +kernel
theorem dX12_weight_89 : decode cX12_weight 89 = .ok (.iload_n 2, 1) := by decide +kernel
theorem dX12_weight_90 : decode cX12_weight 90 = .ok (.imul, 1) := by decide +kernel
theorem dX12_weight_91 : decode cX12_weight 91 = .ok (.aload_n 0, 1) := by decide +kernel
theorem dX12_weight_92 : decode cX12_weight 92 = .ok (.getfield 104, 3) := by decide +kernel
theorem dX12_weight_95 : decode cX12_weight 95 = .ok (.iload_n 1, 1) := by decide +kernel
theorem dX12_weight_96 : decode cX12_weight 96 = .ok (.iaload, 1) := by decide +kernel
theorem dX12_weight_97 : decode cX12_weight 97 = .ok (.ifCond .le 17, 3) := by decide +kernel
theorem dX12_weight_100 : decode cX12_weight 100 = .ok (.aload_n 0, 1) := by decide +kernel
theorem dX12_weight_101 : decode cX12_weight 101 = .ok (.getfield 95, 3) := by decide +kernel
theorem dX12_weight_104 : decode cX12_weight 104 = .ok (.aload_n 0, 1) := by decide +kernel
theorem dX12_weight_105 : decode cX12_weight 105 = .ok (.getfield 104, 3) := by decide +kernel
theorem dX12_weight_108 : decode cX12_weight 108 = .ok (.iload_n 1, 1) := by decide +kernel
theorem dX12_weight_109 : decode cX12_weight 109 = .ok (.iaload, 1) := by decide +kernel
theorem dX12_weight_110 : decode cX12_weight 110 = .ok (.iaload, 1) := by decide +kernel
theorem dX12_weight_111 : decode cX12_weight 111 = .ok (.goto 4, 3) := by decide +kernel
theorem dX12_weight_114 : decode cX12_weight 114 = .ok (.iconst 0, 1) := by decide +kernel
theorem dX12_weight_115 : decode cX12_weight 115 = .ok (.iadd, 1) := by decide +kernel
theorem dX12_weight_116 : decode cX12_weight 116 = .ok (.ireturn, 1) := by decide +kernel
theorem dX12_many_0 : decode cX12_many 0 = .ok (.iconst 0, 1) := by decide +kernel
theorem dX12_many_1 : decode cX12_many 1 = .ok (.istore_n 2, 1) := by decide +kernel
theorem dX12_many_2 : decode cX12_many 2 = .ok (.iload_n 1, 1) := by decide +kernel
theorem dX12_many_3 : decode cX12_many 3 = .ok (.istore_n 3, 1) := by decide +kernel
theorem dX12_many_4 : decode cX12_many 4 = .ok (.iload_n 3, 1) := by decide +kernel
theorem dX12_many_5 : decode cX12_many 5 = .ok (.ifCond .le 22, 3) := by decide +kernel
theorem dX12_many_8 : decode cX12_many 8 = .ok (.iload_n 2, 1) := by decide +kernel
theorem dX12_many_9 : decode cX12_many 9 = .ok (.bipush 50, 2) := by decide +kernel
theorem dX12_many_11 : decode cX12_many 11 = .ok (.if_icmp .ge 16, 3) := by decide +kernel
theorem dX12_many_14 : decode cX12_many 14 = .ok (.iinc 2 1, 3) := by decide +kernel
theorem dX12_many_17 : decode cX12_many 17 = .ok (.aload_n 0, 1) := by decide +kernel
theorem dX12_many_18 : decode cX12_many 18 = .ok (.getfield 104, 3) := by decide +kernel
theorem dX12_many_21 : decode cX12_many 21 = .ok (.iload_n 3, 1) := by decide +kernel
theorem dX12_many_22 : decode cX12_many 22 = .ok (.iaload, 1) := by decide +kernel
theorem dX12_many_23 : decode cX12_many 23 = .ok (.istore_n 3, 1) := by decide +kernel
theorem dX12_many_24 : decode cX12_many 24 = .ok (.goto (-20), 3) := by decide +kernel
theorem dX12_many_27 : decode cX12_many 27 = .ok (.iload_n 2, 1) := by decide +kernel
theorem dX12_many_28 : decode cX12_many 28 = .ok (.ireturn, 1) := by decide +kernel
theorem dX12_makesOne_0 : decode cX12_makesOne 0 = .ok (.aload_n 0, 1) := by decide +kernel
theorem dX12_makesOne_1 : decode cX12_makesOne 1 = .ok (.dup, 1) := by decide +kernel
theorem dX12_makesOne_2 : decode cX12_makesOne 2 = .ok (.getfield 395, 3) := by decide +kernel
theorem dX12_makesOne_5 : decode cX12_makesOne 5 = .ok (.iconst 1, 1) := by decide +kernel
theorem dX12_makesOne_6 : decode cX12_makesOne 6 = .ok (.iadd, 1) := by decide +kernel
theorem dX12_makesOne_7 : decode cX12_makesOne 7 = .ok (.putfield 395, 3) := by decide +kernel
theorem dX12_makesOne_10 : decode cX12_makesOne 10 = .ok (.aload_n 0, 1) := by decide +kernel
theorem dX12_makesOne_11 : decode cX12_makesOne 11 = .ok (.getfield 92, 3) := by decide +kernel
theorem dX12_makesOne_14 : decode cX12_makesOne 14 = .ok (.aload_n 0, 1) := by decide +kernel
theorem dX12_makesOne_15 : decode cX12_makesOne 15 = .ok (.getfield 395, 3) := by decide +kernel
theorem dX12_makesOne_18 : decode cX12_makesOne 18 = .ok (.iload_n 1, 1) := by decide +kernel
theorem dX12_makesOne_19 : decode cX12_makesOne 19 = .ok (.iastore, 1) := by decide +kernel
theorem dX12_makesOne_20 : decode cX12_makesOne 20 = .ok (.aload_n 0, 1) := by decide +kernel
theorem dX12_makesOne_21 : decode cX12_makesOne 21 = .ok (.getfield 95, 3) := by decide +kernel
theorem dX12_makesOne_24 : decode cX12_makesOne 24 = .ok (.aload_n 0, 1) := by decide +kernel
theorem dX12_makesOne_25 : decode cX12_makesOne 25 = .ok (.getfield 395, 3) := by decide +kernel
theorem dX12_makesOne_28 : decode cX12_makesOne 28 = .ok (.iload_n 2, 1) := by decide +kernel
theorem dX12_makesOne_29 : decode cX12_makesOne 29 = .ok (.iastore, 1) := by decide +kernel
theorem dX12_makesOne_30 : decode cX12_makesOne 30 = .ok (.aload_n 0, 1) := by decide +kernel
theorem dX12_makesOne_31 : decode cX12_makesOne 31 = .ok (.getfield 98, 3) := by decide +kernel
theorem dX12_makesOne_34 : decode cX12_makesOne 34 = .ok (.aload_n 0, 1) := by decide +kernel
theorem dX12_makesOne_35 : decode cX12_makesOne 35 = .ok (.getfield 395, 3) := by decide +kernel
theorem dX12_makesOne_38 : decode cX12_makesOne 38 = .ok (.iload_n 3, 1) := by decide +kernel
theorem dX12_makesOne_39 : decode cX12_makesOne 39 = .ok (.iastore, 1) := by decide +kernel
theorem dX12_makesOne_40 : decode cX12_makesOne 40 = .ok (.aload_n 0, 1) := by decide +kernel
theorem dX12_makesOne_41 : decode cX12_makesOne 41 = .ok (.getfield 101, 3) := by decide +kernel
theorem dX12_makesOne_44 : decode cX12_makesOne 44 = .ok (.aload_n 0, 1) := by decide +kernel
theorem dX12_makesOne_45 : decode cX12_makesOne 45 = .ok (.getfield 395, 3) := by decide +kernel
theorem dX12_makesOne_48 : decode cX12_makesOne 48 = .ok (.iload 4, 2) := by decide +kernel
theorem dX12_makesOne_50 : decode cX12_makesOne 50 = .ok (.iastore, 1) := by decide +kernel
theorem dX12_makesOne_51 : decode cX12_makesOne 51 = .ok (.aload_n 0, 1) := by decide +kernel
theorem dX12_makesOne_52 : decode cX12_makesOne 52 = .ok (.getfield 104, 3) := by decide +kernel
theorem dX12_makesOne_55 : decode cX12_makesOne 55 = .ok (.aload_n 0, 1) := by decide +kernel
theorem dX12_makesOne_56 : decode cX12_makesOne 56 = .ok (.getfield 395, 3) := by decide +kernel
theorem dX12_makesOne_59 : decode cX12_makesOne 59 = .ok (.iload 5, 2) := by decide +kernel
theorem dX12_makesOne_61 : decode cX12_makesOne 61 = .ok (.iastore, 1) := by decide +kernel
theorem dX12_makesOne_62 : decode cX12_makesOne 62 = .ok (.aload_n 0, 1) := by decide +kernel
theorem dX12_makesOne_63 : decode cX12_makesOne 63 = .ok (.getfield 107, 3) := by decide +kernel
theorem dX12_makesOne_66 : decode cX12_makesOne 66 = .ok (.aload_n 0, 1) := by decide +kernel
theorem dX12_makesOne_67 : decode cX12_makesOne 67 = .ok (.getfield 395, 3) := by decide +kernel
theorem dX12_makesOne_70 : decode cX12_makesOne 70 = .ok (.iload 6, 2) := by decide +kernel
theorem dX12_makesOne_72 : decode cX12_makesOne 72 = .ok (.bastore, 1) := by decide +kernel
theorem dX12_makesOne_73 : decode cX12_makesOne 73 = .ok (.aload_n 0, 1) := by decide +kernel
theorem dX12_makesOne_74 : decode cX12_makesOne 74 = .ok (.getfield 395, 3) := by decide +kernel
theorem dX12_makesOne_77 : decode cX12_makesOne 77 = .ok (.ireturn, 1) := by decide +kernel
theorem dX12_makes_0 : decode cX12_makes 0 = .ok (.aload_n 0, 1) := by decide +kernel
theorem dX12_makes_1 : decode cX12_makes 1 = .ok (.getfield 392, 3) := by decide +kernel
theorem dX12_makes_4 : decode cX12_makes 4 = .ok (.bipush 100, 2) := by decide +kernel
theorem dX12_makes_6 : decode cX12_makes 6 = .ok (.if_icmp .eq 13, 3) := by decide +kernel
theorem dX12_makes_9 : decode cX12_makes 9 = .ok (.aload_n 0, 1) := by decide +kernel
theorem dX12_makes_10 : decode cX12_makes 10 = .ok (.getfield 395, 3) := by decide +kernel
theorem dX12_makes_13 : decode cX12_makes 13 = .ok (.sipush 8000, 3) := by decide +kernel
theorem dX12_makes_16 : decode cX12_makes 16 = .ok (.if_icmp .ne 10, 3) := by decide +kernel
theorem dX12_makes_19 : decode cX12_makes 19 = .ok (.aload_n 0, 1) := by decide +kernel
theorem dX12_makes_20 : decode cX12_makes 20 = .ok (.iconst 1, 1) := by decide +kernel
theorem dX12_makes_21 : decode cX12_makes 21 = .ok (.putfield 398, 3) := by decide +kernel
theorem dX12_makes_24 : decode cX12_makes 24 = .ok (.iconst 0, 1) := by decide +kernel
theorem dX12_makes_25 : decode cX12_makes 25 = .ok (.ireturn, 1) := by decide +kernel
theorem dX12_makes_26 : decode cX12_makes 26 = .ok (.aload_n 0, 1) := by decide +kernel
theorem dX12_makes_27 : decode cX12_makes 27 = .ok (.dup, 1) := by decide +kernel
theorem dX12_makes_28 : decode cX12_makes 28 = .ok (.getfield 392, 3) := by decide +kernel
theorem dX12_makes_31 : decode cX12_makes 31 = .ok (.iconst 1, 1) := by decide +kernel
theorem dX12_makes_32 : decode cX12_makes 32 = .ok (.iadd, 1) := by decide +kernel
theorem dX12_makes_33 : decode cX12_makes 33 = .ok (.putfield 392, 3) := by decide +kernel
theorem dX12_makes_36 : decode cX12_makes 36 = .ok (.aload_n 0, 1) := by decide +kernel
theorem dX12_makes_37 : decode cX12_makes 37 = .ok (.iload_n 1, 1) := by decide +kernel
theorem dX12_makes_38 : decode cX12_makes 38 = .ok (.iload_n 2, 1) := by decide +kernel
theorem dX12_makes_39 : decode cX12_makes 39 = .ok (.iload_n 3, 1) := by decide +kernel
theorem dX12_makes_40 : decode cX12_makes 40 = .ok (.iload 4, 2) := by decide +kernel
theorem dX12_makes_42 : decode cX12_makes 42 = .ok (.iload 5, 2) := by decide +kernel
theorem dX12_makes_44 : decode cX12_makes 44 = .ok (.iload 6, 2) := by decide +kernel
theorem dX12_makes_46 : decode cX12_makes 46 = .ok (.invokevirtual 402, 3) := by decide +kernel
theorem dX12_makes_49 : decode cX12_makes 49 = .ok (.ireturn, 1) := by decide +kernel
theorem dX12_push_0 : decode cX12_push 0 = .ok (.aload_n 0, 1) := by decide +kernel
theorem dX12_push_1 : decode cX12_push 1 = .ok (.getfield 138, 3) := by decide +kernel
theorem dX12_push_4 : decode cX12_push 4 = .ok (.aload_n 0, 1) := by decide +kernel
theorem dX12_push_5 : decode cX12_push 5 = .ok (.getfield 406, 3) := by decide +kernel
theorem dX12_push_8 : decode cX12_push 8 = .ok (.iload_n 1, 1) := by decide +kernel
theorem dX12_push_9 : decode cX12_push 9 = .ok (.iastore, 1) := by decide +kernel
theorem dX12_push_10 : decode cX12_push 10 = .ok (.aload_n 0, 1) := by decide +kernel
theorem dX12_push_11 : decode cX12_push 11 = .ok (.dup, 1) := by decide +kernel
theorem dX12_push_12 : decode cX12_push 12 = .ok (.getfield 406, 3) := by decide +kernel
theorem dX12_push_15 : decode cX12_push 15 = .ok (.iconst 1, 1) := by decide +kernel
theorem dX12_push_16 : decode cX12_push 16 = .ok (.iadd, 1) := by decide +kernel
theorem dX12_push_17 : decode cX12_push 17 = .ok (.putfield 406, 3) := by decide +kernel
theorem dX12_push_20 : decode cX12_push 20 = .ok (.return_, 1) := by decide +kernel
theorem dX12_pop_0 : decode cX12_pop 0 = .ok (.aload_n 0, 1) := by decide +kernel
theorem dX12_pop_1 : decode cX12_pop 1 = .ok (.dup, 1) := by decide +kernel
theorem dX12_pop_2 : decode cX12_pop 2 = .ok (.getfield 406, 3) := by decide +kernel
theorem dX12_pop_5 : decode cX12_pop 5 = .ok (.iconst 1, 1) := by decide +kernel
theorem dX12_pop_6 : decode cX12_pop 6 = .ok (.isub, 1) := by decide +kernel
theorem dX12_pop_7 : decode cX12_pop 7 = .ok (.putfield 406, 3) := by decide +kernel
theorem dX12_pop_10 : decode cX12_pop 10 = .ok (.aload_n 0, 1) := by decide +kernel
theorem dX12_pop_11 : decode cX12_pop 11 = .ok (.getfield 138, 3) := by decide +kernel
theorem dX12_pop_14 : decode cX12_pop 14 = .ok (.aload_n 0, 1) := by decide +kernel
theorem dX12_pop_15 : decode cX12_pop 15 = .ok (.getfield 406, 3) := by decide +kernel
theorem dX12_pop_18 : decode cX12_pop 18 = .ok (.iaload, 1) := by decide +kernel
theorem dX12_pop_19 : decode cX12_pop 19 = .ok (.ireturn, 1) := by decide +kernel
theorem dX12_begins_0 : decode cX12_begins 0 = .ok (.bipush 12, 2) := by decide +kernel
theorem dX12_begins_2 : decode cX12_begins 2 = .ok (.aload_n 0, 1) := by decide +kernel
theorem dX12_begins_3 : decode cX12_begins 3 = .ok (.getfield 409, 3) := by decide +kernel
theorem dX12_begins_6 : decode cX12_begins 6 = .ok (.imul, 1) := by decide +kernel
theorem dX12_begins_7 : decode cX12_begins 7 = .ok (.istore_n 2, 1) := by decide +kernel
theorem dX12_begins_8 : decode cX12_begins 8 = .ok (.iconst 0, 1) := by decide +kernel
theorem dX12_begins_9 : decode cX12_begins 9 = .ok (.istore_n 3, 1) := by decide +kernel
theorem dX12_begins_10 : decode cX12_begins 10 = .ok (.iload_n 3, 1) := by decide +kernel
theorem dX12_begins_11 : decode cX12_begins 11 = .ok (.bipush 12, 2) := by decide +kernel
theorem dX12_begins_13 : decode cX12_begins 13 = .ok (.if_icmp .ge 18, 3) := by decide +kernel
theorem dX12_begins_16 : decode cX12_begins 16 = .ok (.aload_n 0, 1) := by decide +kernel
theorem dX12_begins_17 : decode cX12_begins 17 = .ok (.getfield 111, 3) := by decide +kernel
theorem dX12_begins_20 : decode cX12_begins 20 = .ok (.iload_n 2, 1) := by decide +kernel
theorem dX12_begins_21 : decode cX12_begins 21 = .ok (.iload_n 3, 1) := by decide +kernel
theorem dX12_begins_22 : decode cX12_begins 22 = .ok (.iadd, 1) := by decide +kernel
theorem dX12_begins_23 : decode cX12_begins 23 = .ok (.iconst 0, 1) := by decide +kernel
theorem dX12_begins_24 : decode cX12_begins 24 = .ok (.iastore, 1) := by decide +kernel
theorem dX12_begins_25 : decode cX12_begins 25 = .ok (.iinc 3 1, 3) := by decide +kernel
theorem dX12_begins_28 : decode cX12_begins 28 = .ok (.goto (-18), 3) := by decide +kernel
theorem dX12_begins_31 : decode cX12_begins 31 = .ok (.iconst 0, 1) := by decide +kernel
theorem dX12_begins_32 : decode cX12_begins 32 = .ok (.istore_n 3, 1) := by decide +kernel
theorem dX12_begins_33 : decode cX12_begins 33 = .ok (.iload_n 3, 1) := by decide +kernel
theorem dX12_begins_34 : decode cX12_begins 34 = .ok (.bipush 8, 2) := by decide +kernel
theorem dX12_begins_36 : decode cX12_begins 36 = .ok (.if_icmp .ge 24, 3) := by decide +kernel
theorem dX12_begins_39 : decode cX12_begins 39 = .ok (.aload_n 0, 1) := by decide +kernel
theorem dX12_begins_40 : decode cX12_begins 40 = .ok (.getfield 114, 3) := by decide +kernel
theorem dX12_begins_43 : decode cX12_begins 43 = .ok (.bipush 8, 2) := by decide +kernel
theorem dX12_begins_45 : decode cX12_begins 45 = .ok (.aload_n 0, 1) := by decide +kernel
theorem dX12_begins_46 : decode cX12_begins 46 = .ok (.getfield 409, 3) := by decide +kernel
theorem dX12_begins_49 : decode cX12_begins 49 = .ok (.imul, 1) := by decide +kernel
theorem dX12_begins_50 : decode cX12_begins 50 = .ok (.iload_n 3, 1) := by decide +kernel
theorem dX12_begins_51 : decode cX12_begins 51 = .ok (.iadd, 1) := by decide +kernel
theorem dX12_begins_52 : decode cX12_begins 52 = .ok (.iconst 0, 1) := by decide +kernel
theorem dX12_begins_53 : decode cX12_begins 53 = .ok (.iastore, 1) := by decide +kernel
theorem dX12_begins_54 : decode cX12_begins 54 = .ok (.iinc 3 1, 3) := by decide +kernel
theorem dX12_begins_57 : decode cX12_begins 57 = .ok (.goto (-24), 3) := by decide +kernel
theorem dX12_begins_60 : decode cX12_begins 60 = .ok (.aload_n 0, 1) := by decide +kernel
theorem dX12_begins_61 : decode cX12_begins 61 = .ok (.getfield 123, 3) := by decide +kernel
theorem dX12_begins_64 : decode cX12_begins 64 = .ok (.aload_n 0, 1) := by decide +kernel
theorem dX12_begins_65 : decode cX12_begins 65 = .ok (.getfield 409, 3) := by decide +kernel
theorem dX12_begins_68 : decode cX12_begins 68 = .ok (.aload_n 0, 1) := by decide +kernel
theorem dX12_begins_69 : decode cX12_begins 69 = .ok (.getfield 412, 3) := by decide +kernel
theorem dX12_begins_72 : decode cX12_begins 72 = .ok (.iastore, 1) := by decide +kernel
theorem dX12_begins_73 : decode cX12_begins 73 = .ok (.aload_n 0, 1) := by decide +kernel
theorem dX12_begins_74 : decode cX12_begins 74 = .ok (.dup, 1) := by decide +kernel
theorem dX12_begins_75 : decode cX12_begins 75 = .ok (.getfield 409, 3) := by decide +kernel
theorem dX12_begins_78 : decode cX12_begins 78 = .ok (.iconst 1, 1) := by decide +kernel
theorem dX12_begins_79 : decode cX12_begins 79 = .ok (.iadd, 1) := by decide +kernel
theorem dX12_begins_80 : decode cX12_begins 80 = .ok (.putfield 409, 3) := by decide +kernel
theorem dX12_begins_83 : decode cX12_begins 83 = .ok (.aload_n 0, 1) := by decide +kernel
theorem dX12_begins_84 : decode cX12_begins 84 = .ok (.dup, 1) := by decide +kernel
theorem dX12_begins_85 : decode cX12_begins 85 = .ok (.getfield 415, 3) := by decide +kernel
theorem dX12_begins_88 : decode cX12_begins 88 = .ok (.iconst 1, 1) := by decide +kernel
theorem dX12_begins_89 : decode cX12_begins 89 = .ok (.iadd, 1) := by decide +kernel
theorem dX12_begins_90 : decode cX12_begins 90 = .ok (.putfield 415, 3) := by decide +kernel
theorem dX12_begins_93 : decode cX12_begins 93 = .ok (.aload_n 0, 1) := by decide +kernel
theorem dX12_begins_94 : decode cX12_begins 94 = .ok (.aload_n 0, 1) := by decide +kernel
theorem dX12_begins_95 : decode cX12_begins 95 = .ok (.getfield 43, 3) := by decide +kernel
theorem dX12_begins_98 : decode cX12_begins 98 = .ok (.iload_n 1, 1) := by decide +kernel
theorem dX12_begins_99 : decode cX12_begins 99 = .ok (.iaload, 1) := by decide +kernel
theorem dX12_begins_100 : decode cX12_begins 100 = .ok (.putfield 418, 3) := by decide +kernel
theorem dX12_begins_103 : decode cX12_begins 103 = .ok (.return_, 1) := by decide +kernel
theorem dX12_goesLastly_0 : decode cX12_goesLastly 0 = .ok (.aload_n 0, 1) := by decide +kernel
theorem dX12_goesLastly_1 : decode cX12_goesLastly 1 = .ok (.getfield 129, 3) := by decide +kernel
theorem dX12_goesLastly_4 : decode cX12_goesLastly 4 = .ok (.iload_n 1, 1) := by decide +kernel
theorem dX12_goesLastly_5 : decode cX12_goesLastly 5 = .ok (.iaload, 1) := by decide +kernel
theorem dX12_goesLastly_6 : decode cX12_goesLastly 6 = .ok (.iconst 2, 1) := by decide +kernel
theorem dX12_goesLastly_7 : decode cX12_goesLastly 7 = .ok (.if_icmp .eq 18, 3) := by decide +kernel
theorem dX12_goesLastly_10 : decode cX12_goesLastly 10 = .ok (.aload_n 0, 1) := by decide +kernel
theorem dX12_goesLastly_11 : decode cX12_goesLastly 11 = .ok (.getfield 52, 3) := by decide +kernel
theorem dX12_goesLastly_14 : decode cX12_goesLastly 14 = .ok (.aload_n 0, 1) := by decide +kernel
theorem dX12_goesLastly_15 : decode cX12_goesLastly 15 = .ok (.getfield 126, 3) := by decide +kernel
theorem dX12_goesLastly_18 : decode cX12_goesLastly 18 = .ok (.iload_n 1, 1) := by decide +kernel
theorem dX12_goesLastly_19 : decode cX12_goesLastly 19 = .ok (.iaload, 1) := by decide +kernel
theorem dX12_goesLastly_20 : decode cX12_goesLastly 20 = .ok (.iaload, 1) := by decide +kernel
theorem dX12_goesLastly_21 : decode cX12_goesLastly 21 = .ok (.iconst (-1), 1) := by decide +kernel
theorem dX12_goesLastly_22 : decode cX12_goesLastly 22 = .ok (.if_icmp .ne 5, 3) := by decide +kernel
theorem dX12_goesLastly_25 : decode cX12_goesLastly 25 = .ok (.iconst 0, 1) := by decide +kernel
theorem dX12_goesLastly_26 : decode cX12_goesLastly 26 = .ok (.ireturn, 1) := by decide +kernel
theorem dX12_goesLastly_27 : decode cX12_goesLastly 27 = .ok (.aload_n 0, 1) := by decide +kernel
theorem dX12_goesLastly_28 : decode cX12_goesLastly 28 = .ok (.getfield 129, 3) := by decide +kernel
theorem dX12_goesLastly_31 : decode cX12_goesLastly 31 = .ok (.iload_n 1, 1) := by decide +kernel
theorem dX12_goesLastly_32 : decode cX12_goesLastly 32 = .ok (.iconst 2, 1) := by decide +kernel
theorem dX12_goesLastly_33 : decode cX12_goesLastly 33 = .ok (.iastore, 1) := by decide +kernel
theorem dX12_goesLastly_34 : decode cX12_goesLastly 34 = .ok (.aload_n 0, 1) := by decide +kernel
theorem dX12_goesLastly_35 : decode cX12_goesLastly 35 = .ok (.getfield 132, 3) := by decide +kernel
theorem dX12_goesLastly_38 : decode cX12_goesLastly 38 = .ok (.iload_n 1, 1) := by decide +kernel
theorem dX12_goesLastly_39 : decode cX12_goesLastly 39 = .ok (.iload_n 2, 1) := by decide +kernel
theorem dX12_goesLastly_40 : decode cX12_goesLastly 40 = .ok (.iastore, 1) := by decide +kernel
theorem dX12_goesLastly_41 : decode cX12_goesLastly 41 = .ok (.aload_n 0, 1) := by decide +kernel
theorem dX12_goesLastly_42 : decode cX12_goesLastly 42 = .ok (.getfield 135, 3) := by decide +kernel
theorem dX12_goesLastly_45 : decode cX12_goesLastly 45 = .ok (.iload_n 1, 1) := by decide +kernel
theorem dX12_goesLastly_46 : decode cX12_goesLastly 46 = .ok (.iload_n 3, 1) := by decide +kernel
theorem dX12_goesLastly_47 : decode cX12_goesLastly 47 = .ok (.iastore, 1) := by decide +kernel
theorem dX12_goesLastly_48 : decode cX12_goesLastly 48 = .ok (.aload_n 0, 1) := by decide +kernel
theorem dX12_goesLastly_49 : decode cX12_goesLastly 49 = .ok (.aload_n 0, 1) := by decide +kernel
theorem dX12_goesLastly_50 : decode cX12_goesLastly 50 = .ok (.getfield 52, 3) := by decide +kernel
theorem dX12_goesLastly_53 : decode cX12_goesLastly 53 = .ok (.aload_n 0, 1) := by decide +kernel
theorem dX12_goesLastly_54 : decode cX12_goesLastly 54 = .ok (.getfield 126, 3) := by decide +kernel
theorem dX12_goesLastly_57 : decode cX12_goesLastly 57 = .ok (.iload_n 1, 1) := by decide +kernel
theorem dX12_goesLastly_58 : decode cX12_goesLastly 58 = .ok (.iaload, 1) := by decide +kernel
theorem dX12_goesLastly_59 : decode cX12_goesLastly 59 = .ok (.iaload, 1) := by decide +kernel
theorem dX12_goesLastly_60 : decode cX12_goesLastly 60 = .ok (.putfield 418, 3) := by decide +kernel
theorem dX12_goesLastly_63 : decode cX12_goesLastly 63 = .ok (.iconst 1, 1) := by decide +kernel
theorem dX12_goesLastly_64 : decode cX12_goesLastly 64 = .ok (.ireturn, 1) := by decide +kernel
theorem dX12_raise_0 : decode cX12_raise 0 = .ok (.aload_n 0, 1) := by decide +kernel
theorem dX12_raise_1 : decode cX12_raise 1 = .ok (.iconst 0, 1) := by decide +kernel
theorem dX12_raise_2 : decode cX12_raise 2 = .ok (.putfield 406, 3) := by decide +kernel
theorem dX12_raise_5 : decode cX12_raise 5 = .ok (.aload_n 0, 1) := by decide +kernel
theorem dX12_raise_6 : decode cX12_raise 6 = .ok (.getfield 412, 3) := by decide +kernel
theorem dX12_raise_9 : decode cX12_raise 9 = .ok (.aload_n 0, 1) := by decide +kernel
theorem dX12_raise_10 : decode cX12_raise 10 = .ok (.getfield 123, 3) := by decide +kernel
theorem dX12_raise_13 : decode cX12_raise 13 = .ok (.aload_n 0, 1) := by decide +kernel
theorem dX12_raise_14 : decode cX12_raise 14 = .ok (.getfield 409, 3) := by decide +kernel
theorem dX12_raise_17 : decode cX12_raise 17 = .ok (.iconst 1, 1) := by decide +kernel
theorem dX12_raise_18 : decode cX12_raise 18 = .ok (.isub, 1) := by decide +kernel
theorem dX12_raise_19 : decode cX12_raise 19 = .ok (.iaload, 1) := by decide +kernel
theorem dX12_raise_20 : decode cX12_raise 20 = .ok (.if_icmp .ne 34, 3) := by decide +kernel
theorem dX12_raise_23 : decode cX12_raise 23 = .ok (.aload_n 0, 1) := by decide +kernel
theorem dX12_raise_24 : decode cX12_raise 24 = .ok (.dup, 1) := by decide +kernel
theorem dX12_raise_25 : decode cX12_raise 25 = .ok (.getfield 409, 3) := by decide +kernel
theorem dX12_raise_28 : decode cX12_raise 28 = .ok (.iconst 1, 1) := by decide +kernel
theorem dX12_raise_29 : decode cX12_raise 29 = .ok (.isub, 1) := by decide +kernel
theorem dX12_raise_30 : decode cX12_raise 30 = .ok (.putfield 409, 3) := by decide +kernel
theorem dX12_raise_33 : decode cX12_raise 33 = .ok (.aload_n 0, 1) := by decide +kernel
theorem dX12_raise_34 : decode cX12_raise 34 = .ok (.getfield 409, 3) := by decide +kernel
theorem dX12_raise_37 : decode cX12_raise 37 = .ok (.ifCond .le 6, 3) := by decide +kernel
theorem dX12_raise_40 : decode cX12_raise 40 = .ok (.goto (-35), 3) := by decide +kernel
theorem dX12_raise_43 : decode cX12_raise 43 = .ok (.aload_n 0, 1) := by decide +kernel
theorem dX12_raise_44 : decode cX12_raise 44 = .ok (.iload_n 1, 1) := by decide +kernel
theorem dX12_raise_45 : decode cX12_raise 45 = .ok (.putfield 421, 3) := by decide +kernel
theorem dX12_raise_48 : decode cX12_raise 48 = .ok (.aload_n 0, 1) := by decide +kernel
theorem dX12_raise_49 : decode cX12_raise 49 = .ok (.iconst 1, 1) := by decide +kernel
theorem dX12_raise_50 : decode cX12_raise 50 = .ok (.putfield 424, 3) := by decide +kernel
theorem dX12_raise_53 : decode cX12_raise 53 = .ok (.return_, 1) := by decide +kernel
theorem dX12_raise_54 : decode cX12_raise 54 = .ok (.aload_n 0, 1) := by decide +kernel
theorem dX12_raise_55 : decode cX12_raise 55 = .ok (.getfield 412, 3) := by decide +kernel
theorem dX12_raise_58 : decode cX12_raise 58 = .ok (.iconst 1, 1) := by decide +kernel
theorem dX12_raise_59 : decode cX12_raise 59 = .ok (.isub, 1) := by decide +kernel
theorem dX12_raise_60 : decode cX12_raise 60 = .ok (.istore_n 2, 1) := by decide +kernel
theorem dX12_raise_61 : decode cX12_raise 61 = .ok (.aload_n 0, 1) := by decide +kernel
theorem dX12_raise_62 : decode cX12_raise 62 = .ok (.getfield 129, 3) := by decide +kernel
theorem dX12_raise_65 : decode cX12_raise 65 = .ok (.iload_n 2, 1) := by decide +kernel
theorem dX12_raise_66 : decode cX12_raise 66 = .ok (.iaload, 1) := by decide +kernel
theorem dX12_raise_67 : decode cX12_raise 67 = .ok (.ifCond .ne 103, 3) := by decide +kernel
theorem dX12_raise_70 : decode cX12_raise 70 = .ok (.aload_n 0, 1) := by decide +kernel
theorem dX12_raise_71 : decode cX12_raise 71 = .ok (.getfield 49, 3) := by decide +kernel
theorem dX12_raise_74 : decode cX12_raise 74 = .ok (.aload_n 0, 1) := by decide +kernel
theorem dX12_raise_75 : decode cX12_raise 75 = .ok (.getfield 126, 3) := by decide +kernel
theorem dX12_raise_78 : decode cX12_raise 78 = .ok (.iload_n 2, 1) := by decide +kernel
theorem dX12_raise_79 : decode cX12_raise 79 = .ok (.iaload, 1) := by decide +kernel
theorem dX12_raise_80 : decode cX12_raise 80 = .ok (.iaload, 1) := by decide +kernel
theorem dX12_raise_81 : decode cX12_raise 81 = .ok (.istore_n 3, 1) := by decide +kernel
theorem dX12_raise_82 : decode cX12_raise 82 = .ok (.iload_n 3, 1) := by decide +kernel
theorem dX12_raise_83 : decode cX12_raise 83 = .ok (.iconst (-1), 1) := by decide +kernel
theorem dX12_raise_84 : decode cX12_raise 84 = .ok (.if_icmp .eq 31, 3) := by decide +kernel
theorem dX12_raise_87 : decode cX12_raise 87 = .ok (.aload_n 0, 1) := by decide +kernel
theorem dX12_raise_88 : decode cX12_raise 88 = .ok (.getfield 92, 3) := by decide +kernel
theorem dX12_raise_91 : decode cX12_raise 91 = .ok (.iload_n 1, 1) := by decide +kernel
theorem dX12_raise_92 : decode cX12_raise 92 = .ok (.iaload, 1) := by decide +kernel
theorem dX12_raise_93 : decode cX12_raise 93 = .ok (.aload_n 0, 1) := by decide +kernel
theorem dX12_raise_94 : decode cX12_raise 94 = .ok (.getfield 58, 3) := by decide +kernel
theorem dX12_raise_97 : decode cX12_raise 97 = .ok (.iload_n 3, 1) := by decide +kernel
theorem dX12_raise_98 : decode cX12_raise 98 = .ok (.iaload, 1) := by decide +kernel
theorem dX12_raise_99 : decode cX12_raise 99 = .ok (.invokestatic 433, 3) := by decide +kernel
theorem dX12_raise_102 : decode cX12_raise 102 = .ok (.ifCond .ne 13, 3) := by decide +kernel
theorem dX12_raise_105 : decode cX12_raise 105 = .ok (.aload_n 0, 1) := by decide +kernel
theorem dX12_raise_106 : decode cX12_raise 106 = .ok (.getfield 67, 3) := by decide +kernel
theorem dX12_raise_109 : decode cX12_raise 109 = .ok (.iload_n 3, 1) := by decide +kernel
theorem dX12_raise_110 : decode cX12_raise 110 = .ok (.iaload, 1) := by decide +kernel
theorem dX12_raise_111 : decode cX12_raise 111 = .ok (.istore_n 3, 1) := by decide +kernel
theorem dX12_raise_112 : decode cX12_raise 112 = .ok (.goto (-30), 3) := by decide +kernel
theorem dX12_raise_115 : decode cX12_raise 115 = .ok (.iload_n 3, 1) := by decide +kernel
theorem dX12_raise_116 : decode cX12_raise 116 = .ok (.iconst (-1), 1) := by decide +kernel
theorem dX12_raise_117 : decode cX12_raise 117 = .ok (.if_icmp .eq 53, 3) := by decide +kernel
theorem dX12_raise_120 : decode cX12_raise 120 = .ok (.aload_n 0, 1) := by decide +kernel
theorem dX12_raise_121 : decode cX12_raise 121 = .ok (.getfield 129, 3) := by decide +kernel
theorem dX12_raise_124 : decode cX12_raise 124 = .ok (.iload_n 2, 1) := by decide +kernel
theorem dX12_raise_125 : decode cX12_raise 125 = .ok (.iconst 1, 1) := by decide +kernel
theorem dX12_raise_126 : decode cX12_raise 126 = .ok (.iastore, 1) := by decide +kernel
theorem dX12_raise_127 : decode cX12_raise 127 = .ok (.aload_n 0, 1) := by decide +kernel
theorem dX12_raise_128 : decode cX12_raise 128 = .ok (.getfield 61, 3) := by decide +kernel
theorem dX12_raise_131 : decode cX12_raise 131 = .ok (.iload_n 3, 1) := by decide +kernel
theorem dX12_raise_132 : decode cX12_raise 132 = .ok (.iaload, 1) := by decide +kernel
theorem dX12_raise_133 : decode cX12_raise 133 = .ok (.iconst (-1), 1) := by decide +kernel
theorem dX12_raise_134 : decode cX12_raise 134 = .ok (.if_icmp .eq 25, 3) := by decide +kernel
theorem dX12_raise_137 : decode cX12_raise 137 = .ok (.aload_n 0, 1) := by decide +kernel
theorem dX12_raise_138 : decode cX12_raise 138 = .ok (.getfield 114, 3) := by decide +kernel
theorem dX12_raise_141 : decode cX12_raise 141 = .ok (.bipush 8, 2) := by decide +kernel
theorem dX12_raise_143 : decode cX12_raise 143 = .ok (.aload_n 0, 1) := by decide +kernel
theorem dX12_raise_144 : decode cX12_raise 144 = .ok (.getfield 409, 3) := by decide +kernel
theorem dX12_raise_147 : decode cX12_raise 147 = .ok (.iconst 1, 1) := by decide +kernel
theorem dX12_raise_148 : decode cX12_raise 148 = .ok (.isub, 1) := by decide +kernel
theorem dX12_raise_149 : decode cX12_raise 149 = .ok (.imul, 1) := by decide +kernel
theorem dX12_raise_150 : decode cX12_raise 150 = .ok (.aload_n 0, 1) := by decide +kernel
theorem dX12_raise_151 : decode cX12_raise 151 = .ok (.getfield 61, 3) := by decide +kernel
theorem dX12_raise_154 : decode cX12_raise 154 = .ok (.iload_n 3, 1) := by decide +kernel
theorem dX12_raise_155 : decode cX12_raise 155 = .ok (.iaload, 1) := by decide +kernel
theorem dX12_raise_156 : decode cX12_raise 156 = .ok (.iadd, 1) := by decide +kernel
theorem dX12_raise_157 : decode cX12_raise 157 = .ok (.iload_n 1, 1) := by decide +kernel
theorem dX12_raise_158 : decode cX12_raise 158 = .ok (.iastore, 1) := by decide +kernel
theorem dX12_raise_159 : decode cX12_raise 159 = .ok (.aload_n 0, 1) := by decide +kernel
theorem dX12_raise_160 : decode cX12_raise 160 = .ok (.aload_n 0, 1) := by decide +kernel
theorem dX12_raise_161 : decode cX12_raise 161 = .ok (.getfield 64, 3) := by decide +kernel
theorem dX12_raise_164 : decode cX12_raise 164 = .ok (.iload_n 3, 1) := by decide +kernel
theorem dX12_raise_165 : decode cX12_raise 165 = .ok (.iaload, 1) := by decide +kernel
theorem dX12_raise_166 : decode cX12_raise 166 = .ok (.putfield 418, 3) := by decide +kernel
theorem dX12_raise_169 : decode cX12_raise 169 = .ok (.return_, 1) := by decide +kernel
theorem dX12_raise_170 : decode cX12_raise 170 = .ok (.aload_n 0, 1) := by decide +kernel
theorem dX12_raise_171 : decode cX12_raise 171 = .ok (.iload_n 2, 1) := by decide +kernel
theorem dX12_raise_172 : decode cX12_raise 172 = .ok (.iconst 1, 1) := by decide +kernel
theorem dX12_raise_173 : decode cX12_raise 173 = .ok (.iload_n 1, 1) := by decide +kernel
theorem dX12_raise_174 : decode cX12_raise 174 = .ok (.invokevirtual 437, 3) := by decide +kernel
theorem dX12_raise_177 : decode cX12_raise 177 = .ok (.ifCond .eq 4, 3) := by decide +kernel
theorem dX12_raise_180 : decode cX12_raise 180 = .ok (.return_, 1) := by decide +kernel
theorem dX12_raise_181 : decode cX12_raise 181 = .ok (.aload_n 0, 1) := by decide +kernel
theorem dX12_raise_182 : decode cX12_raise 182 = .ok (.dup, 1) := by decide +kernel
theorem dX12_raise_183 : decode cX12_raise 183 = .ok (.getfield 412, 3) := by decide +kernel
theorem dX12_raise_186 : decode cX12_raise 186 = .ok (.iconst 1, 1) := by decide +kernel
theorem dX12_raise_187 : decode cX12_raise 187 = .ok (.isub, 1) := by decide +kernel
theorem dX12_raise_188 : decode cX12_raise 188 = .ok (.putfield 412, 3) := by decide +kernel
theorem dX12_raise_191 : decode cX12_raise 191 = .ok (.goto (-186), 3) := by decide +kernel
theorem dX12_raises_0 : decode cX12_raises 0 = .ok (.aload_n 0, 1) := by decide +kernel
theorem dX12_raises_1 : decode cX12_raises 1 = .ok (.iload_n 1, 1) := by decide +kernel
theorem dX12_raises_2 : decode cX12_raises 2 = .ok (.iload_n 2, 1) := by decide +kernel
theorem dX12_raises_3 : decode cX12_raises 3 = .ok (.iconst 0, 1) := by decide +kernel
theorem dX12_raises_4 : decode cX12_raises 4 = .ok (.iconst (-1), 1) := by decide +kernel
theorem dX12_raises_5 : decode cX12_raises 5 = .ok (.iload_n 3, 1) := by decide +kernel
theorem dX12_raises_6 : decode cX12_raises 6 = .ok (.iload_n 3, 1) := by decide +kernel
theorem dX12_raises_7 : decode cX12_raises 7 = .ok (.ifCond .le 7, 3) := by decide +kernel
theorem dX12_raises_10 : decode cX12_raises 10 = .ok (.iconst 1, 1) := by decide +kernel
theorem dX12_raises_11 : decode cX12_raises 11 = .ok (.goto 4, 3) := by decide +kernel
theorem dX12_raises_14 : decode cX12_raises 14 = .ok (.iconst 0, 1) := by decide +kernel
theorem dX12_raises_15 : decode cX12_raises 15 = .ok (.invokevirtual 444, 3) := by decide +kernel
theorem dX12_raises_18 : decode cX12_raises 18 = .ok (.istore 4, 2) := by decide +kernel
theorem dX12_raises_20 : decode cX12_raises 20 = .ok (.iload 4, 2) := by decide +kernel
theorem dX12_raises_22 : decode cX12_raises 22 = .ok (.ifCond .le 9, 3) := by decide +kernel
theorem dX12_raises_25 : decode cX12_raises 25 = .ok (.aload_n 0, 1) := by decide +kernel
theorem dX12_raises_26 : decode cX12_raises 26 = .ok (.iload 4, 2) := by decide +kernel
theorem dX12_raises_28 : decode cX12_raises 28 = .ok (.invokevirtual 447, 3) := by decide +kernel
theorem dX12_raises_31 : decode cX12_raises 31 = .ok (.return_, 1) := by decide +kernel
theorem dX12_count_0 : decode cX12_count 0 = .ok (.aload_n 0, 1) := by decide +kernel
theorem dX12_count_1 : decode cX12_count 1 = .ok (.invokevirtual 459, 3) := by decide +kernel
theorem dX12_count_4 : decode cX12_count 4 = .ok (.istore_n 2, 1) := by decide +kernel
theorem dX12_count_5 : decode cX12_count 5 = .ok (.aload_n 0, 1) := by decide +kernel
theorem dX12_count_6 : decode cX12_count 6 = .ok (.invokevirtual 459, 3) := by decide +kernel
theorem dX12_count_9 : decode cX12_count 9 = .ok (.istore_n 3, 1) := by decide +kernel
theorem dX12_count_10 : decode cX12_count 10 = .ok (.iload_n 1, 1) := by decide +kernel
theorem dX12_count_11 : decode cX12_count 11 = .ok (.bipush 47, 2) := by decide +kernel
theorem dX12_count_13 : decode cX12_count 13 = .ok (.if_icmp .eq 9, 3) := by decide +kernel
theorem dX12_count_16 : decode cX12_count 16 = .ok (.iload_n 1, 1) := by decide +kernel
theorem dX12_count_17 : decode cX12_count 17 = .ok (.bipush 37, 2) := by decide +kernel
theorem dX12_count_19 : decode cX12_count 19 = .ok (.if_icmp .ne 16, 3) := by decide +kernel
theorem dX12_count_22 : decode cX12_count 22 = .ok (.iload_n 2, 1) := by decide +kernel
theorem dX12_count_23 : decode cX12_count 23 = .ok (.ifCond .ne 12, 3) := by decide +kernel
theorem dX12_count_26 : decode cX12_count 26 = .ok (.aload_n 0, 1) := by decide +kernel
theorem dX12_count_27 : decode cX12_count 27 = .ok (.bipush 6, 2) := by decide +kernel
theorem dX12_count_29 : decode cX12_count 29 = .ok (.iconst 3, 1) := by decide +kernel
theorem dX12_count_30 : decode cX12_count 30 = .ok (.iconst 0, 1) := by decide +kernel
theorem dX12_count_31 : decode cX12_count 31 = .ok (.invokevirtual 476, 3) := by decide +kernel
theorem dX12_count_34 : decode cX12_count 34 = .ok (.return_, 1) := by decide +kernel
theorem dX12_count_35 : decode cX12_count 35 = .ok (.iload_n 1, 1) := by decide +kernel
theorem dX12_count_36 : decode cX12_count 36 = .ok (.lookupswitch 171 #[(37, 118), (42, 88), (43, 68), (45, 78), (47, 98), (60, 137), (300, 154)], 68) := by decide +kernel
theorem dX12_count_104 : decode cX12_count 104 = .ok (.aload_n 0, 1) := by decide +kernel
theorem dX12_count_105 : decode cX12_count 105 = .ok (.iload_n 3, 1) := by decide +kernel
theorem dX12_count_106 : decode cX12_count 106 = .ok (.iload_n 2, 1) := by decide +kernel
theorem dX12_count_107 : decode cX12_count 107 = .ok (.iadd, 1) := by decide +kernel
theorem dX12_count_108 : decode cX12_count 108 = .ok (.invokevirtual 456, 3) := by decide +kernel
theorem dX12_count_111 : decode cX12_count 111 = .ok (.goto 110, 3) := by decide +kernel
theorem dX12_count_114 : decode cX12_count 114 = .ok (.aload_n 0, 1) := by decide +kernel
theorem dX12_count_115 : decode cX12_count 115 = .ok (.iload_n 3, 1) := by decide +kernel
theorem dX12_count_116 : decode cX12_count 116 = .ok (.iload_n 2, 1) := by decide +kernel
theorem dX12_count_117 : decode cX12_count 117 = .ok (.isub, 1) := by decide +kernel
theorem dX12_count_118 : decode cX12_count 118 = .ok (.invokevirtual 456, 3) := by decide +kernel
theorem dX12_count_121 : decode cX12_count 121 = .ok (.goto 100, 3) := by decide +kernel
theorem dX12_count_124 : decode cX12_count 124 = .ok (.aload_n 0, 1) := by decide +kernel
theorem dX12_count_125 : decode cX12_count 125 = .ok (.iload_n 3, 1) := by decide +kernel
theorem dX12_count_126 : decode cX12_count 126 = .ok (.iload_n 2, 1) := by decide +kernel
theorem dX12_count_127 : decode cX12_count 127 = .ok (.imul, 1) := by decide +kernel
theorem dX12_count_128 : decode cX12_count 128 = .ok (.invokevirtual 456, 3) := by decide +kernel
theorem dX12_count_131 : decode cX12_count 131 = .ok (.goto 90, 3) := by decide +kernel
theorem dX12_count_134 : decode cX12_count 134 = .ok (.aload_n 0, 1) := by decide +kernel
theorem dX12_count_135 : decode cX12_count 135 = .ok (.iload_n 2, 1) := by decide +kernel
theorem dX12_count_136 : decode cX12_count 136 = .ok (.iconst (-1), 1) := by decide +kernel
theorem dX12_count_137 : decode cX12_count 137 = .ok (.if_icmp .ne 8, 3) := by decide +kernel
theorem dX12_count_140 : decode cX12_count 140 = .ok (.iload_n 3, 1) := by decide +kernel
theorem dX12_count_141 : decode cX12_count 141 = .ok (.ineg, 1) := by decide +kernel
theorem dX12_count_142 : decode cX12_count 142 = .ok (.goto 6, 3) := by decide +kernel
theorem dX12_count_145 : decode cX12_count 145 = .ok (.iload_n 3, 1) := by decide +kernel
theorem dX12_count_146 : decode cX12_count 146 = .ok (.iload_n 2, 1) := by decide +kernel
theorem dX12_count_147 : decode cX12_count 147 = .ok (.idiv, 1) := by decide +kernel
theorem dX12_count_148 : decode cX12_count 148 = .ok (.invokevirtual 456, 3) := by decide +kernel
theorem dX12_count_151 : decode cX12_count 151 = .ok (.goto 70, 3) := by decide +kernel
theorem dX12_count_154 : decode cX12_count 154 = .ok (.aload_n 0, 1) := by decide +kernel
theorem dX12_count_155 : decode cX12_count 155 = .ok (.iload_n 2, 1) := by decide +kernel
theorem dX12_count_156 : decode cX12_count 156 = .ok (.iconst (-1), 1) := by decide +kernel
theorem dX12_count_157 : decode cX12_count 157 = .ok (.if_icmp .ne 7, 3) := by decide +kernel
theorem dX12_count_160 : decode cX12_count 160 = .ok (.iconst 0, 1) := by decide +kernel
theorem dX12_count_161 : decode cX12_count 161 = .ok (.goto 6, 3) := by decide +kernel
theorem dX12_count_164 : decode cX12_count 164 = .ok (.iload_n 3, 1) := by decide +kernel
theorem dX12_count_165 : decode cX12_count 165 = .ok (.iload_n 2, 1) := by decide +kernel
theorem dX12_count_166 : decode cX12_count 166 = .ok (.irem, 1) := by decide +kernel
theorem dX12_count_167 : decode cX12_count 167 = .ok (.invokevirtual 456, 3) := by decide +kernel
theorem dX12_count_170 : decode cX12_count 170 = .ok (.goto 51, 3) := by decide +kernel
theorem dX12_count_173 : decode cX12_count 173 = .ok (.aload_n 0, 1) := by decide +kernel
theorem dX12_count_174 : decode cX12_count 174 = .ok (.iload_n 3, 1) := by decide +kernel
theorem dX12_count_175 : decode cX12_count 175 = .ok (.iload_n 2, 1) := by decide +kernel
theorem dX12_count_176 : decode cX12_count 176 = .ok (.if_icmp .ge 7, 3) := by decide +kernel
theorem dX12_count_179 : decode cX12_count 179 = .ok (.iconst 1, 1) := by decide +kernel
theorem dX12_count_180 : decode cX12_count 180 = .ok (.goto 4, 3) := by decide +kernel
theorem dX12_count_183 : decode cX12_count 183 = .ok (.iconst 0, 1) := by decide +kernel
theorem dX12_count_184 : decode cX12_count 184 = .ok (.invokevirtual 456, 3) := by decide +kernel
theorem dX12_count_187 : decode cX12_count 187 = .ok (.goto 34, 3) := by decide +kernel
theorem dX12_count_190 : decode cX12_count 190 = .ok (.aload_n 0, 1) := by decide +kernel
theorem dX12_count_191 : decode cX12_count 191 = .ok (.iload_n 3, 1) := by decide +kernel
theorem dX12_count_192 : decode cX12_count 192 = .ok (.iload_n 2, 1) := by decide +kernel
theorem dX12_count_193 : decode cX12_count 193 = .ok (.if_icmp .ne 7, 3) := by decide +kernel
theorem dX12_count_196 : decode cX12_count 196 = .ok (.iconst 1, 1) := by decide +kernel
theorem dX12_count_197 : decode cX12_count 197 = .ok (.goto 4, 3) := by decide +kernel
theorem dX12_count_200 : decode cX12_count 200 = .ok (.iconst 0, 1) := by decide +kernel
theorem dX12_count_201 : decode cX12_count 201 = .ok (.invokevirtual 456, 3) := by decide +kernel
theorem dX12_count_204 : decode cX12_count 204 = .ok (.goto 17, 3) := by decide +kernel
theorem dX12_count_207 : decode cX12_count 207 = .ok (.aload_n 0, 1) := by decide +kernel
theorem dX12_count_208 : decode cX12_count 208 = .ok (.iload_n 3, 1) := by decide +kernel
theorem dX12_count_209 : decode cX12_count 209 = .ok (.iload_n 2, 1) := by decide +kernel
theorem dX12_count_210 : decode cX12_count 210 = .ok (.if_icmp .eq 7, 3) := by decide +kernel
theorem dX12_count_213 : decode cX12_count 213 = .ok (.iconst 1, 1) := by decide +kernel
theorem dX12_count_214 : decode cX12_count 214 = .ok (.goto 4, 3) := by decide +kernel
theorem dX12_count_217 : decode cX12_count 217 = .ok (.iconst 0, 1) := by decide +kernel
theorem dX12_count_218 : decode cX12_count 218 = .ok (.invokevirtual 456, 3) := by decide +kernel
theorem dX12_count_221 : decode cX12_count 221 = .ok (.return_, 1) := by decide +kernel
theorem dX12_obj_0 : decode cX12_obj 0 = .ok (.aload_n 0, 1) := by decide +kernel
theorem dX12_obj_1 : decode cX12_obj 1 = .ok (.getfield 114, 3) := by decide +kernel
theorem dX12_obj_4 : decode cX12_obj 4 = .ok (.bipush 8, 2) := by decide +kernel
theorem dX12_obj_6 : decode cX12_obj 6 = .ok (.aload_n 0, 1) := by decide +kernel
theorem dX12_obj_7 : decode cX12_obj 7 = .ok (.getfield 409, 3) := by decide +kernel
theorem dX12_obj_10 : decode cX12_obj 10 = .ok (.iconst 1, 1) := by decide +kernel
theorem dX12_obj_11 : decode cX12_obj 11 = .ok (.isub, 1) := by decide +kernel
theorem dX12_obj_12 : decode cX12_obj 12 = .ok (.imul, 1) := by decide +kernel
theorem dX12_obj_13 : decode cX12_obj 13 = .ok (.iload_n 1, 1) := by decide +kernel
theorem dX12_obj_14 : decode cX12_obj 14 = .ok (.iadd, 1) := by decide +kernel
theorem dX12_obj_15 : decode cX12_obj 15 = .ok (.iaload, 1) := by decide +kernel
theorem dX12_obj_16 : decode cX12_obj 16 = .ok (.ireturn, 1) := by decide +kernel
theorem dX12_ask_0 : decode cX12_ask 0 = .ok (.iload_n 1, 1) := by decide +kernel
theorem dX12_ask_1 : decode cX12_ask 1 = .ok (.ifCond .ne 11, 3) := by decide +kernel
theorem dX12_ask_4 : decode cX12_ask 4 = .ok (.aload_n 0, 1) := by decide +kernel
theorem dX12_ask_5 : decode cX12_ask 5 = .ok (.iconst 3, 1) := by decide +kernel
theorem dX12_ask_6 : decode cX12_ask 6 = .ok (.iconst 1, 1) := by decide +kernel
theorem dX12_ask_7 : decode cX12_ask 7 = .ok (.iconst 0, 1) := by decide +kernel
theorem dX12_ask_8 : decode cX12_ask 8 = .ok (.invokevirtual 476, 3) := by decide +kernel
theorem dX12_ask_11 : decode cX12_ask 11 = .ok (.return_, 1) := by decide +kernel
theorem dX12_ask_12 : decode cX12_ask 12 = .ok (.iload_n 2, 1) := by decide +kernel
theorem dX12_ask_13 : decode cX12_ask 13 = .ok (.tableswitch 101 0 3 #[31, 44, 77, 89], 31) := by decide +kernel
theorem dX12_ask_44 : decode cX12_ask 44 = .ok (.aload_n 0, 1) := by decide +kernel
theorem dX12_ask_45 : decode cX12_ask 45 = .ok (.aload_n 0, 1) := by decide +kernel
theorem dX12_ask_46 : decode cX12_ask 46 = .ok (.getfield 95, 3) := by decide +kernel
theorem dX12_ask_49 : decode cX12_ask 49 = .ok (.iload_n 1, 1) := by decide +kernel
theorem dX12_ask_50 : decode cX12_ask 50 = .ok (.iaload, 1) := by decide +kernel
theorem dX12_ask_51 : decode cX12_ask 51 = .ok (.invokevirtual 456, 3) := by decide +kernel
theorem dX12_ask_54 : decode cX12_ask 54 = .ok (.goto 65, 3) := by decide +kernel
theorem dX12_ask_57 : decode cX12_ask 57 = .ok (.aload_n 0, 1) := by decide +kernel
theorem dX12_ask_58 : decode cX12_ask 58 = .ok (.getfield 92, 3) := by decide +kernel
theorem dX12_ask_61 : decode cX12_ask 61 = .ok (.iload_n 1, 1) := by decide +kernel
theorem dX12_ask_62 : decode cX12_ask 62 = .ok (.iaload, 1) := by decide +kernel
theorem dX12_ask_63 : decode cX12_ask 63 = .ok (.iconst 2, 1) := by decide +kernel
theorem dX12_ask_64 : decode cX12_ask 64 = .ok (.if_icmp .ne 16, 3) := by decide +kernel
theorem dX12_ask_67 : decode cX12_ask 67 = .ok (.aload_n 0, 1) := by decide +kernel
theorem dX12_ask_68 : decode cX12_ask 68 = .ok (.aload_n 0, 1) := by decide +kernel
theorem dX12_ask_69 : decode cX12_ask 69 = .ok (.getfield 98, 3) := by decide +kernel
theorem dX12_ask_72 : decode cX12_ask 72 = .ok (.iload_n 1, 1) := by decide +kernel
theorem dX12_ask_73 : decode cX12_ask 73 = .ok (.iaload, 1) := by decide +kernel
theorem dX12_ask_74 : decode cX12_ask 74 = .ok (.invokevirtual 456, 3) := by decide +kernel
theorem dX12_ask_77 : decode cX12_ask 77 = .ok (.goto 42, 3) := by decide +kernel
theorem dX12_ask_80 : decode cX12_ask 80 = .ok (.aload_n 0, 1) := by decide +kernel
theorem dX12_ask_81 : decode cX12_ask 81 = .ok (.iconst 1, 1) := by decide +kernel
theorem dX12_ask_82 : decode cX12_ask 82 = .ok (.iconst 2, 1) := by decide +kernel
theorem dX12_ask_83 : decode cX12_ask 83 = .ok (.iconst 0, 1) := by decide +kernel
theorem dX12_ask_84 : decode cX12_ask 84 = .ok (.invokevirtual 476, 3) := by decide +kernel
theorem dX12_ask_87 : decode cX12_ask 87 = .ok (.goto 32, 3) := by decide +kernel
theorem dX12_ask_90 : decode cX12_ask 90 = .ok (.aload_n 0, 1) := by decide +kernel
theorem dX12_ask_91 : decode cX12_ask 91 = .ok (.aload_n 0, 1) := by decide +kernel
theorem dX12_ask_92 : decode cX12_ask 92 = .ok (.iload_n 1, 1) := by decide +kernel
theorem dX12_ask_93 : decode cX12_ask 93 = .ok (.invokevirtual 491, 3) := by decide +kernel
theorem dX12_ask_96 : decode cX12_ask 96 = .ok (.invokevirtual 456, 3) := by decide +kernel
theorem dX12_ask_99 : decode cX12_ask 99 = .ok (.goto 20, 3) := by decide +kernel
theorem dX12_ask_102 : decode cX12_ask 102 = .ok (.aload_n 0, 1) := by decide +kernel
theorem dX12_ask_103 : decode cX12_ask 103 = .ok (.aload_n 0, 1) := by decide +kernel
theorem dX12_ask_104 : decode cX12_ask 104 = .ok (.iload_n 1, 1) := by decide +kernel
theorem dX12_ask_105 : decode cX12_ask 105 = .ok (.invokevirtual 494, 3) := by decide +kernel
theorem dX12_ask_108 : decode cX12_ask 108 = .ok (.invokevirtual 456, 3) := by decide +kernel
theorem dX12_ask_111 : decode cX12_ask 111 = .ok (.goto 8, 3) := by decide +kernel
theorem dX12_ask_114 : decode cX12_ask 114 = .ok (.aload_n 0, 1) := by decide +kernel
theorem dX12_ask_115 : decode cX12_ask 115 = .ok (.iload_n 1, 1) := by decide +kernel
theorem dX12_ask_116 : decode cX12_ask 116 = .ok (.invokevirtual 456, 3) := by decide +kernel
theorem dX12_ask_119 : decode cX12_ask 119 = .ok (.return_, 1) := by decide +kernel
theorem dX12_hold__0 : decode cX12_hold_ 0 = .ok (.aload_n 0, 1) := by decide +kernel
theorem dX12_hold__1 : decode cX12_hold_ 1 = .ok (.getfield 114, 3) := by decide +kernel
theorem dX12_hold__4 : decode cX12_hold_ 4 = .ok (.bipush 8, 2) := by decide +kernel
theorem dX12_hold__6 : decode cX12_hold_ 6 = .ok (.aload_n 0, 1) := by decide +kernel
theorem dX12_hold__7 : decode cX12_hold_ 7 = .ok (.getfield 409, 3) := by decide +kernel
theorem dX12_hold__10 : decode cX12_hold_ 10 = .ok (.iconst 1, 1) := by decide +kernel
theorem dX12_hold__11 : decode cX12_hold_ 11 = .ok (.isub, 1) := by decide +kernel
theorem dX12_hold__12 : decode cX12_hold_ 12 = .ok (.imul, 1) := by decide +kernel
theorem dX12_hold__13 : decode cX12_hold_ 13 = .ok (.iload_n 1, 1) := by decide +kernel
theorem dX12_hold__14 : decode cX12_hold_ 14 = .ok (.iadd, 1) := by decide +kernel
theorem dX12_hold__15 : decode cX12_hold_ 15 = .ok (.iload_n 2, 1) := by decide +kernel
theorem dX12_hold__16 : decode cX12_hold_ 16 = .ok (.iastore, 1) := by decide +kernel
theorem dX12_hold__17 : decode cX12_hold_ 17 = .ok (.return_, 1) := by decide +kernel
theorem dX12_joins_0 : decode cX12_joins 0 = .ok (.iload_n 1, 1) := by decide +kernel
theorem dX12_joins_1 : decode cX12_joins 1 = .ok (.ifCond .ne 13, 3) := by decide +kernel
theorem dX12_joins_4 : decode cX12_joins 4 = .ok (.aload_n 0, 1) := by decide +kernel
theorem dX12_joins_5 : decode cX12_joins 5 = .ok (.iconst 3, 1) := by decide +kernel
theorem dX12_joins_6 : decode cX12_joins 6 = .ok (.iconst 1, 1) := by decide +kernel
