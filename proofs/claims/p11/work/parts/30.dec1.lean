theorem dX7_attempt_77 : decode cX7_attempt 77 = .ok (.aload_n 0, 1) := by decide +kernel
theorem dX7_attempt_78 : decode cX7_attempt 78 = .ok (.getfield 62, 3) := by decide +kernel
theorem dX7_attempt_81 : decode cX7_attempt 81 = .ok (.sipush 217, 3) := by decide +kernel
theorem dX7_attempt_84 : decode cX7_attempt 84 = .ok (.if_icmp .ne 85, 3) := by decide +kernel
theorem dX7_attempt_87 : decode cX7_attempt 87 = .ok (.aload_n 0, 1) := by decide +kernel
theorem dX7_attempt_88 : decode cX7_attempt 88 = .ok (.getfield 31, 3) := by decide +kernel
theorem dX7_attempt_91 : decode cX7_attempt 91 = .ok (.iload_n 2, 1) := by decide +kernel
theorem dX7_attempt_92 : decode cX7_attempt 92 = .ok (.aload_n 0, 1) := by decide +kernel
theorem dX7_attempt_93 : decode cX7_attempt 93 = .ok (.getfield 31, 3) := by decide +kernel
theorem dX7_attempt_96 : decode cX7_attempt 96 = .ok (.getfield 110, 3) := by decide +kernel
theorem dX7_attempt_99 : decode cX7_attempt 99 = .ok (.invokevirtual 205, 3) := by decide +kernel
theorem dX7_attempt_102 : decode cX7_attempt 102 = .ok (.aload_n 0, 1) := by decide +kernel
theorem dX7_attempt_103 : decode cX7_attempt 103 = .ok (.invokevirtual 59, 3) := by decide +kernel
theorem dX7_attempt_106 : decode cX7_attempt 106 = .ok (.aload_n 0, 1) := by decide +kernel
theorem dX7_attempt_107 : decode cX7_attempt 107 = .ok (.getfield 31, 3) := by decide +kernel
theorem dX7_attempt_110 : decode cX7_attempt 110 = .ok (.aload_n 0, 1) := by decide +kernel
theorem dX7_attempt_111 : decode cX7_attempt 111 = .ok (.invokevirtual 208, 3) := by decide +kernel
theorem dX7_attempt_114 : decode cX7_attempt 114 = .ok (.invokevirtual 96, 3) := by decide +kernel
theorem dX7_attempt_117 : decode cX7_attempt 117 = .ok (.pop, 1) := by decide +kernel
theorem dX7_attempt_118 : decode cX7_attempt 118 = .ok (.aload_n 0, 1) := by decide +kernel
theorem dX7_attempt_119 : decode cX7_attempt 119 = .ok (.getfield 31, 3) := by decide +kernel
theorem dX7_attempt_122 : decode cX7_attempt 122 = .ok (.aload_n 0, 1) := by decide +kernel
theorem dX7_attempt_123 : decode cX7_attempt 123 = .ok (.getfield 62, 3) := by decide +kernel
theorem dX7_attempt_126 : decode cX7_attempt 126 = .ok (.sipush 131, 3) := by decide +kernel
theorem dX7_attempt_129 : decode cX7_attempt 129 = .ok (.if_icmp .ne 10, 3) := by decide +kernel
theorem dX7_attempt_132 : decode cX7_attempt 132 = .ok (.aload_n 0, 1) := by decide +kernel
theorem dX7_attempt_133 : decode cX7_attempt 133 = .ok (.invokevirtual 157, 3) := by decide +kernel
theorem dX7_attempt_136 : decode cX7_attempt 136 = .ok (.goto 4, 3) := by decide +kernel
theorem dX7_attempt_139 : decode cX7_attempt 139 = .ok (.iconst (-1), 1) := by decide +kernel
theorem dX7_attempt_140 : decode cX7_attempt 140 = .ok (.invokevirtual 96, 3) := by decide +kernel
theorem dX7_attempt_143 : decode cX7_attempt 143 = .ok (.pop, 1) := by decide +kernel
theorem dX7_attempt_144 : decode cX7_attempt 144 = .ok (.aload_n 0, 1) := by decide +kernel
theorem dX7_attempt_145 : decode cX7_attempt 145 = .ok (.getfield 31, 3) := by decide +kernel
theorem dX7_attempt_148 : decode cX7_attempt 148 = .ok (.iconst (-1), 1) := by decide +kernel
theorem dX7_attempt_149 : decode cX7_attempt 149 = .ok (.invokevirtual 96, 3) := by decide +kernel
theorem dX7_attempt_152 : decode cX7_attempt 152 = .ok (.istore_n 2, 1) := by decide +kernel
theorem dX7_attempt_153 : decode cX7_attempt 153 = .ok (.aload_n 0, 1) := by decide +kernel
theorem dX7_attempt_154 : decode cX7_attempt 154 = .ok (.iload_n 1, 1) := by decide +kernel
theorem dX7_attempt_155 : decode cX7_attempt 155 = .ok (.invokevirtual 117, 3) := by decide +kernel
theorem dX7_attempt_158 : decode cX7_attempt 158 = .ok (.aload_n 0, 1) := by decide +kernel
theorem dX7_attempt_159 : decode cX7_attempt 159 = .ok (.iconst 5, 1) := by decide +kernel
theorem dX7_attempt_160 : decode cX7_attempt 160 = .ok (.invokevirtual 125, 3) := by decide +kernel
theorem dX7_attempt_163 : decode cX7_attempt 163 = .ok (.iinc 4 1, 3) := by decide +kernel
theorem dX7_attempt_166 : decode cX7_attempt 166 = .ok (.goto (-97), 3) := by decide +kernel
theorem dX7_attempt_169 : decode cX7_attempt 169 = .ok (.aload_n 0, 1) := by decide +kernel
theorem dX7_attempt_170 : decode cX7_attempt 170 = .ok (.getfield 31, 3) := by decide +kernel
theorem dX7_attempt_173 : decode cX7_attempt 173 = .ok (.iload_n 3, 1) := by decide +kernel
theorem dX7_attempt_174 : decode cX7_attempt 174 = .ok (.aload_n 0, 1) := by decide +kernel
theorem dX7_attempt_175 : decode cX7_attempt 175 = .ok (.getfield 31, 3) := by decide +kernel
theorem dX7_attempt_178 : decode cX7_attempt 178 = .ok (.getfield 110, 3) := by decide +kernel
theorem dX7_attempt_181 : decode cX7_attempt 181 = .ok (.invokevirtual 205, 3) := by decide +kernel
theorem dX7_attempt_184 : decode cX7_attempt 184 = .ok (.aload_n 0, 1) := by decide +kernel
theorem dX7_attempt_185 : decode cX7_attempt 185 = .ok (.getfield 62, 3) := by decide +kernel
theorem dX7_attempt_188 : decode cX7_attempt 188 = .ok (.sipush 218, 3) := by decide +kernel
theorem dX7_attempt_191 : decode cX7_attempt 191 = .ok (.if_icmp .ne 12, 3) := by decide +kernel
theorem dX7_attempt_194 : decode cX7_attempt 194 = .ok (.aload_n 0, 1) := by decide +kernel
theorem dX7_attempt_195 : decode cX7_attempt 195 = .ok (.invokevirtual 59, 3) := by decide +kernel
theorem dX7_attempt_198 : decode cX7_attempt 198 = .ok (.aload_n 0, 1) := by decide +kernel
theorem dX7_attempt_199 : decode cX7_attempt 199 = .ok (.iload_n 1, 1) := by decide +kernel
theorem dX7_attempt_200 : decode cX7_attempt 200 = .ok (.invokevirtual 117, 3) := by decide +kernel
theorem dX7_attempt_203 : decode cX7_attempt 203 = .ok (.aload_n 0, 1) := by decide +kernel
theorem dX7_attempt_204 : decode cX7_attempt 204 = .ok (.bipush 6, 2) := by decide +kernel
theorem dX7_attempt_206 : decode cX7_attempt 206 = .ok (.invokevirtual 125, 3) := by decide +kernel
theorem dX7_attempt_209 : decode cX7_attempt 209 = .ok (.return_, 1) := by decide +kernel
theorem dX7_let_0 : decode cX7_let 0 = .ok (.aload_n 0, 1) := by decide +kernel
theorem dX7_let_1 : decode cX7_let 1 = .ok (.invokevirtual 59, 3) := by decide +kernel
theorem dX7_let_4 : decode cX7_let 4 = .ok (.aload_n 0, 1) := by decide +kernel
theorem dX7_let_5 : decode cX7_let 5 = .ok (.getfield 84, 3) := by decide +kernel
theorem dX7_let_8 : decode cX7_let 8 = .ok (.istore_n 2, 1) := by decide +kernel
theorem dX7_let_9 : decode cX7_let 9 = .ok (.aload_n 0, 1) := by decide +kernel
theorem dX7_let_10 : decode cX7_let 10 = .ok (.invokevirtual 142, 3) := by decide +kernel
theorem dX7_let_13 : decode cX7_let 13 = .ok (.istore_n 3, 1) := by decide +kernel
theorem dX7_let_14 : decode cX7_let 14 = .ok (.aload_n 0, 1) := by decide +kernel
theorem dX7_let_15 : decode cX7_let 15 = .ok (.sipush 130, 3) := by decide +kernel
theorem dX7_let_18 : decode cX7_let 18 = .ok (.invokevirtual 100, 3) := by decide +kernel
theorem dX7_let_21 : decode cX7_let 21 = .ok (.aload_n 0, 1) := by decide +kernel
theorem dX7_let_22 : decode cX7_let 22 = .ok (.bipush 61, 2) := by decide +kernel
theorem dX7_let_24 : decode cX7_let 24 = .ok (.invokevirtual 100, 3) := by decide +kernel
theorem dX7_let_27 : decode cX7_let 27 = .ok (.aload_n 0, 1) := by decide +kernel
theorem dX7_let_28 : decode cX7_let 28 = .ok (.iload_n 1, 1) := by decide +kernel
theorem dX7_let_29 : decode cX7_let 29 = .ok (.invokevirtual 202, 3) := by decide +kernel
theorem dX7_let_32 : decode cX7_let 32 = .ok (.aload_n 0, 1) := by decide +kernel
theorem dX7_let_33 : decode cX7_let 33 = .ok (.iload_n 2, 1) := by decide +kernel
theorem dX7_let_34 : decode cX7_let 34 = .ok (.iload_n 3, 1) := by decide +kernel
theorem dX7_let_35 : decode cX7_let 35 = .ok (.invokevirtual 145, 3) := by decide +kernel
theorem dX7_let_38 : decode cX7_let 38 = .ok (.aload_n 0, 1) := by decide +kernel
theorem dX7_let_39 : decode cX7_let 39 = .ok (.bipush 9, 2) := by decide +kernel
theorem dX7_let_41 : decode cX7_let 41 = .ok (.iload_n 3, 1) := by decide +kernel
theorem dX7_let_42 : decode cX7_let 42 = .ok (.invokevirtual 122, 3) := by decide +kernel
theorem dX7_let_45 : decode cX7_let 45 = .ok (.return_, 1) := by decide +kernel
theorem dX7_assignment_0 : decode cX7_assignment 0 = .ok (.aload_n 0, 1) := by decide +kernel
theorem dX7_assignment_1 : decode cX7_assignment 1 = .ok (.invokevirtual 211, 3) := by decide +kernel
theorem dX7_assignment_4 : decode cX7_assignment 4 = .ok (.istore_n 2, 1) := by decide +kernel
theorem dX7_assignment_5 : decode cX7_assignment 5 = .ok (.aload_n 0, 1) := by decide +kernel
theorem dX7_assignment_6 : decode cX7_assignment 6 = .ok (.bipush 61, 2) := by decide +kernel
theorem dX7_assignment_8 : decode cX7_assignment 8 = .ok (.invokevirtual 100, 3) := by decide +kernel
theorem dX7_assignment_11 : decode cX7_assignment 11 = .ok (.aload_n 0, 1) := by decide +kernel
theorem dX7_assignment_12 : decode cX7_assignment 12 = .ok (.iload_n 1, 1) := by decide +kernel
theorem dX7_assignment_13 : decode cX7_assignment 13 = .ok (.invokevirtual 202, 3) := by decide +kernel
theorem dX7_assignment_16 : decode cX7_assignment 16 = .ok (.aload_n 0, 1) := by decide +kernel
theorem dX7_assignment_17 : decode cX7_assignment 17 = .ok (.bipush 9, 2) := by decide +kernel
theorem dX7_assignment_19 : decode cX7_assignment 19 = .ok (.iload_n 2, 1) := by decide +kernel
theorem dX7_assignment_20 : decode cX7_assignment 20 = .ok (.invokevirtual 122, 3) := by decide +kernel
theorem dX7_assignment_23 : decode cX7_assignment 23 = .ok (.return_, 1) := by decide +kernel
theorem dX7_newObjection_0 : decode cX7_newObjection 0 = .ok (.aload_n 0, 1) := by decide +kernel
theorem dX7_newObjection_1 : decode cX7_newObjection 1 = .ok (.getfield 90, 3) := by decide +kernel
theorem dX7_newObjection_4 : decode cX7_newObjection 4 = .ok (.istore_n 3, 1) := by decide +kernel
theorem dX7_newObjection_5 : decode cX7_newObjection 5 = .ok (.aload_n 0, 1) := by decide +kernel
theorem dX7_newObjection_6 : decode cX7_newObjection 6 = .ok (.invokevirtual 208, 3) := by decide +kernel
theorem dX7_newObjection_9 : decode cX7_newObjection 9 = .ok (.istore 4, 2) := by decide +kernel
theorem dX7_newObjection_11 : decode cX7_newObjection 11 = .ok (.aload_n 0, 1) := by decide +kernel
theorem dX7_newObjection_12 : decode cX7_newObjection 12 = .ok (.bipush 40, 2) := by decide +kernel
theorem dX7_newObjection_14 : decode cX7_newObjection 14 = .ok (.iload_n 2, 1) := by decide +kernel
theorem dX7_newObjection_15 : decode cX7_newObjection 15 = .ok (.invokevirtual 106, 3) := by decide +kernel
theorem dX7_newObjection_18 : decode cX7_newObjection 18 = .ok (.aload_n 0, 1) := by decide +kernel
theorem dX7_newObjection_19 : decode cX7_newObjection 19 = .ok (.iload_n 2, 1) := by decide +kernel
theorem dX7_newObjection_20 : decode cX7_newObjection 20 = .ok (.iconst 1, 1) := by decide +kernel
theorem dX7_newObjection_21 : decode cX7_newObjection 21 = .ok (.iadd, 1) := by decide +kernel
theorem dX7_newObjection_22 : decode cX7_newObjection 22 = .ok (.invokevirtual 202, 3) := by decide +kernel
theorem dX7_newObjection_25 : decode cX7_newObjection 25 = .ok (.aload_n 0, 1) := by decide +kernel
theorem dX7_newObjection_26 : decode cX7_newObjection 26 = .ok (.getfield 62, 3) := by decide +kernel
theorem dX7_newObjection_29 : decode cX7_newObjection 29 = .ok (.bipush 44, 2) := by decide +kernel
theorem dX7_newObjection_31 : decode cX7_newObjection 31 = .ok (.if_icmp .ne 23, 3) := by decide +kernel
theorem dX7_newObjection_34 : decode cX7_newObjection 34 = .ok (.iload 4, 2) := by decide +kernel
theorem dX7_newObjection_36 : decode cX7_newObjection 36 = .ok (.iconst 2, 1) := by decide +kernel
theorem dX7_newObjection_37 : decode cX7_newObjection 37 = .ok (.if_icmp .ne 17, 3) := by decide +kernel
theorem dX7_newObjection_40 : decode cX7_newObjection 40 = .ok (.aload_n 0, 1) := by decide +kernel
theorem dX7_newObjection_41 : decode cX7_newObjection 41 = .ok (.invokevirtual 59, 3) := by decide +kernel
theorem dX7_newObjection_44 : decode cX7_newObjection 44 = .ok (.aload_n 0, 1) := by decide +kernel
theorem dX7_newObjection_45 : decode cX7_newObjection 45 = .ok (.iload_n 2, 1) := by decide +kernel
theorem dX7_newObjection_46 : decode cX7_newObjection 46 = .ok (.iconst 1, 1) := by decide +kernel
theorem dX7_newObjection_47 : decode cX7_newObjection 47 = .ok (.iadd, 1) := by decide +kernel
theorem dX7_newObjection_48 : decode cX7_newObjection 48 = .ok (.invokevirtual 202, 3) := by decide +kernel
theorem dX7_newObjection_51 : decode cX7_newObjection 51 = .ok (.goto 10, 3) := by decide +kernel
theorem dX7_newObjection_54 : decode cX7_newObjection 54 = .ok (.aload_n 0, 1) := by decide +kernel
theorem dX7_newObjection_55 : decode cX7_newObjection 55 = .ok (.bipush 7, 2) := by decide +kernel
theorem dX7_newObjection_57 : decode cX7_newObjection 57 = .ok (.iconst 0, 1) := by decide +kernel
theorem dX7_newObjection_58 : decode cX7_newObjection 58 = .ok (.invokevirtual 122, 3) := by decide +kernel
theorem dX7_newObjection_61 : decode cX7_newObjection 61 = .ok (.aload_n 0, 1) := by decide +kernel
theorem dX7_newObjection_62 : decode cX7_newObjection 62 = .ok (.bipush 41, 2) := by decide +kernel
theorem dX7_newObjection_64 : decode cX7_newObjection 64 = .ok (.invokevirtual 100, 3) := by decide +kernel
theorem dX7_newObjection_67 : decode cX7_newObjection 67 = .ok (.bipush (-2), 2) := by decide +kernel
theorem dX7_newObjection_69 : decode cX7_newObjection 69 = .ok (.istore 5, 2) := by decide +kernel
theorem dX7_newObjection_71 : decode cX7_newObjection 71 = .ok (.aload_n 0, 1) := by decide +kernel
theorem dX7_newObjection_72 : decode cX7_newObjection 72 = .ok (.getfield 62, 3) := by decide +kernel
theorem dX7_newObjection_75 : decode cX7_newObjection 75 = .ok (.sipush 205, 3) := by decide +kernel
theorem dX7_newObjection_78 : decode cX7_newObjection 78 = .ok (.if_icmp .ne 13, 3) := by decide +kernel
theorem dX7_newObjection_81 : decode cX7_newObjection 81 = .ok (.aload_n 0, 1) := by decide +kernel
theorem dX7_newObjection_82 : decode cX7_newObjection 82 = .ok (.invokevirtual 59, 3) := by decide +kernel
theorem dX7_newObjection_85 : decode cX7_newObjection 85 = .ok (.aload_n 0, 1) := by decide +kernel
theorem dX7_newObjection_86 : decode cX7_newObjection 86 = .ok (.invokevirtual 217, 3) := by decide +kernel
theorem dX7_newObjection_89 : decode cX7_newObjection 89 = .ok (.istore 5, 2) := by decide +kernel
theorem dX7_newObjection_91 : decode cX7_newObjection 91 = .ok (.aload_n 0, 1) := by decide +kernel
theorem dX7_newObjection_92 : decode cX7_newObjection 92 = .ok (.bipush 27, 2) := by decide +kernel
theorem dX7_newObjection_94 : decode cX7_newObjection 94 = .ok (.iload_n 1, 1) := by decide +kernel
theorem dX7_newObjection_95 : decode cX7_newObjection 95 = .ok (.iload 4, 2) := by decide +kernel
theorem dX7_newObjection_97 : decode cX7_newObjection 97 = .ok (.invokevirtual 214, 3) := by decide +kernel
theorem dX7_newObjection_100 : decode cX7_newObjection 100 = .ok (.aload_n 0, 1) := by decide +kernel
theorem dX7_newObjection_101 : decode cX7_newObjection 101 = .ok (.getfield 31, 3) := by decide +kernel
theorem dX7_newObjection_104 : decode cX7_newObjection 104 = .ok (.iload_n 3, 1) := by decide +kernel
theorem dX7_newObjection_105 : decode cX7_newObjection 105 = .ok (.invokevirtual 96, 3) := by decide +kernel
theorem dX7_newObjection_108 : decode cX7_newObjection 108 = .ok (.pop, 1) := by decide +kernel
theorem dX7_newObjection_109 : decode cX7_newObjection 109 = .ok (.aload_n 0, 1) := by decide +kernel
theorem dX7_newObjection_110 : decode cX7_newObjection 110 = .ok (.getfield 31, 3) := by decide +kernel
theorem dX7_newObjection_113 : decode cX7_newObjection 113 = .ok (.iload 5, 2) := by decide +kernel
theorem dX7_newObjection_115 : decode cX7_newObjection 115 = .ok (.invokevirtual 96, 3) := by decide +kernel
theorem dX7_newObjection_118 : decode cX7_newObjection 118 = .ok (.pop, 1) := by decide +kernel
theorem dX7_newObjection_119 : decode cX7_newObjection 119 = .ok (.return_, 1) := by decide +kernel
theorem dX7_otherObjection_0 : decode cX7_otherObjection 0 = .ok (.aload_n 0, 1) := by decide +kernel
theorem dX7_otherObjection_1 : decode cX7_otherObjection 1 = .ok (.getfield 62, 3) := by decide +kernel
theorem dX7_otherObjection_4 : decode cX7_otherObjection 4 = .ok (.sipush 204, 3) := by decide +kernel
theorem dX7_otherObjection_7 : decode cX7_otherObjection 7 = .ok (.if_icmp .ne 21, 3) := by decide +kernel
theorem dX7_otherObjection_10 : decode cX7_otherObjection 10 = .ok (.aload_n 0, 1) := by decide +kernel
theorem dX7_otherObjection_11 : decode cX7_otherObjection 11 = .ok (.invokevirtual 59, 3) := by decide +kernel
theorem dX7_otherObjection_14 : decode cX7_otherObjection 14 = .ok (.aload_n 0, 1) := by decide +kernel
theorem dX7_otherObjection_15 : decode cX7_otherObjection 15 = .ok (.bipush 26, 2) := by decide +kernel
theorem dX7_otherObjection_17 : decode cX7_otherObjection 17 = .ok (.iload_n 1, 1) := by decide +kernel
theorem dX7_otherObjection_18 : decode cX7_otherObjection 18 = .ok (.aload_n 0, 1) := by decide +kernel
theorem dX7_otherObjection_19 : decode cX7_otherObjection 19 = .ok (.invokevirtual 157, 3) := by decide +kernel
theorem dX7_otherObjection_22 : decode cX7_otherObjection 22 = .ok (.invokevirtual 214, 3) := by decide +kernel
theorem dX7_otherObjection_25 : decode cX7_otherObjection 25 = .ok (.goto 14, 3) := by decide +kernel
theorem dX7_otherObjection_28 : decode cX7_otherObjection 28 = .ok (.aload_n 0, 1) := by decide +kernel
theorem dX7_otherObjection_29 : decode cX7_otherObjection 29 = .ok (.bipush 25, 2) := by decide +kernel
theorem dX7_otherObjection_31 : decode cX7_otherObjection 31 = .ok (.iload_n 1, 1) := by decide +kernel
theorem dX7_otherObjection_32 : decode cX7_otherObjection 32 = .ok (.aload_n 0, 1) := by decide +kernel
theorem dX7_otherObjection_33 : decode cX7_otherObjection 33 = .ok (.invokevirtual 217, 3) := by decide +kernel
theorem dX7_otherObjection_36 : decode cX7_otherObjection 36 = .ok (.invokevirtual 214, 3) := by decide +kernel
theorem dX7_otherObjection_39 : decode cX7_otherObjection 39 = .ok (.return_, 1) := by decide +kernel
theorem dX7_raising_0 : decode cX7_raising 0 = .ok (.aload_n 0, 1) := by decide +kernel
theorem dX7_raising_1 : decode cX7_raising 1 = .ok (.invokevirtual 59, 3) := by decide +kernel
theorem dX7_raising_4 : decode cX7_raising 4 = .ok (.aload_n 0, 1) := by decide +kernel
theorem dX7_raising_5 : decode cX7_raising 5 = .ok (.bipush 28, 2) := by decide +kernel
theorem dX7_raising_7 : decode cX7_raising 7 = .ok (.aload_n 0, 1) := by decide +kernel
theorem dX7_raising_8 : decode cX7_raising 8 = .ok (.invokevirtual 157, 3) := by decide +kernel
theorem dX7_raising_11 : decode cX7_raising 11 = .ok (.invokevirtual 122, 3) := by decide +kernel
theorem dX7_raising_14 : decode cX7_raising 14 = .ok (.return_, 1) := by decide +kernel
theorem dX7_joining_0 : decode cX7_joining 0 = .ok (.aload_n 0, 1) := by decide +kernel
theorem dX7_joining_1 : decode cX7_joining 1 = .ok (.invokevirtual 59, 3) := by decide +kernel
theorem dX7_joining_4 : decode cX7_joining 4 = .ok (.aload_n 0, 1) := by decide +kernel
theorem dX7_joining_5 : decode cX7_joining 5 = .ok (.invokevirtual 157, 3) := by decide +kernel
theorem dX7_joining_8 : decode cX7_joining 8 = .ok (.istore_n 1, 1) := by decide +kernel
theorem dX7_joining_9 : decode cX7_joining 9 = .ok (.aload_n 0, 1) := by decide +kernel
theorem dX7_joining_10 : decode cX7_joining 10 = .ok (.sipush 208, 3) := by decide +kernel
theorem dX7_joining_13 : decode cX7_joining 13 = .ok (.invokevirtual 100, 3) := by decide +kernel
theorem dX7_joining_16 : decode cX7_joining 16 = .ok (.aload_n 0, 1) := by decide +kernel
theorem dX7_joining_17 : decode cX7_joining 17 = .ok (.bipush 29, 2) := by decide +kernel
theorem dX7_joining_19 : decode cX7_joining 19 = .ok (.iload_n 1, 1) := by decide +kernel
theorem dX7_joining_20 : decode cX7_joining 20 = .ok (.aload_n 0, 1) := by decide +kernel
theorem dX7_joining_21 : decode cX7_joining 21 = .ok (.invokevirtual 217, 3) := by decide +kernel
theorem dX7_joining_24 : decode cX7_joining 24 = .ok (.invokevirtual 214, 3) := by decide +kernel
theorem dX7_joining_27 : decode cX7_joining 27 = .ok (.return_, 1) := by decide +kernel
theorem dX7_question_0 : decode cX7_question 0 = .ok (.aload_n 0, 1) := by decide +kernel
theorem dX7_question_1 : decode cX7_question 1 = .ok (.getfield 62, 3) := by decide +kernel
theorem dX7_question_4 : decode cX7_question 4 = .ok (.sipush 224, 3) := by decide +kernel
theorem dX7_question_7 : decode cX7_question 7 = .ok (.if_icmp .ne 8, 3) := by decide +kernel
theorem dX7_question_10 : decode cX7_question 10 = .ok (.bipush 23, 2) := by decide +kernel
theorem dX7_question_12 : decode cX7_question 12 = .ok (.goto 5, 3) := by decide +kernel
theorem dX7_question_15 : decode cX7_question 15 = .ok (.bipush 24, 2) := by decide +kernel
theorem dX7_question_17 : decode cX7_question 17 = .ok (.istore_n 1, 1) := by decide +kernel
theorem dX7_question_18 : decode cX7_question 18 = .ok (.aload_n 0, 1) := by decide +kernel
theorem dX7_question_19 : decode cX7_question 19 = .ok (.getfield 62, 3) := by decide +kernel
theorem dX7_question_22 : decode cX7_question 22 = .ok (.sipush 224, 3) := by decide +kernel
theorem dX7_question_25 : decode cX7_question 25 = .ok (.if_icmp .eq 13, 3) := by decide +kernel
theorem dX7_question_28 : decode cX7_question 28 = .ok (.aload_n 0, 1) := by decide +kernel
theorem dX7_question_29 : decode cX7_question 29 = .ok (.getfield 62, 3) := by decide +kernel
theorem dX7_question_32 : decode cX7_question 32 = .ok (.sipush 225, 3) := by decide +kernel
theorem dX7_question_35 : decode cX7_question 35 = .ok (.if_icmp .ne 10, 3) := by decide +kernel
theorem dX7_question_38 : decode cX7_question 38 = .ok (.aload_n 0, 1) := by decide +kernel
theorem dX7_question_39 : decode cX7_question 39 = .ok (.invokevirtual 59, 3) := by decide +kernel
theorem dX7_question_42 : decode cX7_question 42 = .ok (.goto 7, 3) := by decide +kernel
theorem dX7_question_45 : decode cX7_question 45 = .ok (.aload_n 0, 1) := by decide +kernel
theorem dX7_question_46 : decode cX7_question 46 = .ok (.invokevirtual 93, 3) := by decide +kernel
theorem dX7_question_49 : decode cX7_question 49 = .ok (.iload_n 1, 1) := by decide +kernel
theorem dX7_question_50 : decode cX7_question 50 = .ok (.ireturn, 1) := by decide +kernel
theorem dX7_noting_0 : decode cX7_noting 0 = .ok (.aload_n 0, 1) := by decide +kernel
theorem dX7_noting_1 : decode cX7_noting 1 = .ok (.invokevirtual 59, 3) := by decide +kernel
theorem dX7_noting_4 : decode cX7_noting 4 = .ok (.aload_n 0, 1) := by decide +kernel
theorem dX7_noting_5 : decode cX7_noting 5 = .ok (.getfield 62, 3) := by decide +kernel
theorem dX7_noting_8 : decode cX7_noting 8 = .ok (.sipush 131, 3) := by decide +kernel
theorem dX7_noting_11 : decode cX7_noting 11 = .ok (.if_icmp .eq 14, 3) := by decide +kernel
theorem dX7_noting_14 : decode cX7_noting 14 = .ok (.aload_n 0, 1) := by decide +kernel
theorem dX7_noting_15 : decode cX7_noting 15 = .ok (.iload_n 1, 1) := by decide +kernel
theorem dX7_noting_16 : decode cX7_noting 16 = .ok (.invokevirtual 202, 3) := by decide +kernel
theorem dX7_noting_19 : decode cX7_noting 19 = .ok (.aload_n 0, 1) := by decide +kernel
theorem dX7_noting_20 : decode cX7_noting 20 = .ok (.iconst 1, 1) := by decide +kernel
theorem dX7_noting_21 : decode cX7_noting 21 = .ok (.invokevirtual 125, 3) := by decide +kernel
theorem dX7_noting_24 : decode cX7_noting 24 = .ok (.return_, 1) := by decide +kernel
theorem dX7_noting_25 : decode cX7_noting 25 = .ok (.aload_n 0, 1) := by decide +kernel
theorem dX7_noting_26 : decode cX7_noting 26 = .ok (.invokevirtual 157, 3) := by decide +kernel
theorem dX7_noting_29 : decode cX7_noting 29 = .ok (.istore_n 2, 1) := by decide +kernel
theorem dX7_noting_30 : decode cX7_noting 30 = .ok (.aload_n 0, 1) := by decide +kernel
theorem dX7_noting_31 : decode cX7_noting 31 = .ok (.getfield 62, 3) := by decide +kernel
theorem dX7_noting_34 : decode cX7_noting 34 = .ok (.sipush 224, 3) := by decide +kernel
theorem dX7_noting_37 : decode cX7_noting 37 = .ok (.if_icmp .eq 13, 3) := by decide +kernel
theorem dX7_noting_40 : decode cX7_noting 40 = .ok (.aload_n 0, 1) := by decide +kernel
theorem dX7_noting_41 : decode cX7_noting 41 = .ok (.getfield 62, 3) := by decide +kernel
theorem dX7_noting_44 : decode cX7_noting 44 = .ok (.sipush 225, 3) := by decide +kernel
theorem dX7_noting_47 : decode cX7_noting 47 = .ok (.if_icmp .ne 44, 3) := by decide +kernel
theorem dX7_noting_50 : decode cX7_noting 50 = .ok (.aload_n 0, 1) := by decide +kernel
theorem dX7_noting_51 : decode cX7_noting 51 = .ok (.invokevirtual 222, 3) := by decide +kernel
theorem dX7_noting_54 : decode cX7_noting 54 = .ok (.istore_n 3, 1) := by decide +kernel
theorem dX7_noting_55 : decode cX7_noting 55 = .ok (.aload_n 0, 1) := by decide +kernel
theorem dX7_noting_56 : decode cX7_noting 56 = .ok (.iload_n 3, 1) := by decide +kernel
theorem dX7_noting_57 : decode cX7_noting 57 = .ok (.iload_n 2, 1) := by decide +kernel
theorem dX7_noting_58 : decode cX7_noting 58 = .ok (.iload_n 3, 1) := by decide +kernel
theorem dX7_noting_59 : decode cX7_noting 59 = .ok (.bipush 23, 2) := by decide +kernel
theorem dX7_noting_61 : decode cX7_noting 61 = .ok (.if_icmp .ne 10, 3) := by decide +kernel
theorem dX7_noting_64 : decode cX7_noting 64 = .ok (.aload_n 0, 1) := by decide +kernel
theorem dX7_noting_65 : decode cX7_noting 65 = .ok (.invokevirtual 208, 3) := by decide +kernel
theorem dX7_noting_68 : decode cX7_noting 68 = .ok (.goto 7, 3) := by decide +kernel
theorem dX7_noting_71 : decode cX7_noting 71 = .ok (.aload_n 0, 1) := by decide +kernel
theorem dX7_noting_72 : decode cX7_noting 72 = .ok (.invokevirtual 157, 3) := by decide +kernel
theorem dX7_noting_75 : decode cX7_noting 75 = .ok (.invokevirtual 214, 3) := by decide +kernel
theorem dX7_noting_78 : decode cX7_noting 78 = .ok (.aload_n 0, 1) := by decide +kernel
theorem dX7_noting_79 : decode cX7_noting 79 = .ok (.iload_n 1, 1) := by decide +kernel
theorem dX7_noting_80 : decode cX7_noting 80 = .ok (.invokevirtual 225, 3) := by decide +kernel
theorem dX7_noting_83 : decode cX7_noting 83 = .ok (.aload_n 0, 1) := by decide +kernel
theorem dX7_noting_84 : decode cX7_noting 84 = .ok (.iconst 1, 1) := by decide +kernel
theorem dX7_noting_85 : decode cX7_noting 85 = .ok (.invokevirtual 125, 3) := by decide +kernel
theorem dX7_noting_88 : decode cX7_noting 88 = .ok (.goto 10, 3) := by decide +kernel
theorem dX7_noting_91 : decode cX7_noting 91 = .ok (.aload_n 0, 1) := by decide +kernel
theorem dX7_noting_92 : decode cX7_noting 92 = .ok (.bipush 30, 2) := by decide +kernel
theorem dX7_noting_94 : decode cX7_noting 94 = .ok (.iload_n 2, 1) := by decide +kernel
theorem dX7_noting_95 : decode cX7_noting 95 = .ok (.invokevirtual 122, 3) := by decide +kernel
theorem dX7_noting_98 : decode cX7_noting 98 = .ok (.return_, 1) := by decide +kernel
theorem dX7_keepHear_0 : decode cX7_keepHear 0 = .ok (.aload_n 0, 1) := by decide +kernel
theorem dX7_keepHear_1 : decode cX7_keepHear 1 = .ok (.getfield 231, 3) := by decide +kernel
theorem dX7_keepHear_4 : decode cX7_keepHear 4 = .ok (.aload_n 0, 1) := by decide +kernel
theorem dX7_keepHear_5 : decode cX7_keepHear 5 = .ok (.getfield 44, 3) := by decide +kernel
theorem dX7_keepHear_8 : decode cX7_keepHear 8 = .ok (.arraylength, 1) := by decide +kernel
theorem dX7_keepHear_9 : decode cX7_keepHear 9 = .ok (.if_icmp .ge 45, 3) := by decide +kernel
theorem dX7_keepHear_12 : decode cX7_keepHear 12 = .ok (.aload_n 0, 1) := by decide +kernel
theorem dX7_keepHear_13 : decode cX7_keepHear 13 = .ok (.getfield 231, 3) := by decide +kernel
theorem dX7_keepHear_16 : decode cX7_keepHear 16 = .ok (.aload_n 0, 1) := by decide +kernel
theorem dX7_keepHear_17 : decode cX7_keepHear 17 = .ok (.getfield 47, 3) := by decide +kernel
theorem dX7_keepHear_20 : decode cX7_keepHear 20 = .ok (.arraylength, 1) := by decide +kernel
theorem dX7_keepHear_21 : decode cX7_keepHear 21 = .ok (.if_icmp .ge 33, 3) := by decide +kernel
theorem dX7_keepHear_24 : decode cX7_keepHear 24 = .ok (.aload_n 0, 1) := by decide +kernel
theorem dX7_keepHear_25 : decode cX7_keepHear 25 = .ok (.getfield 44, 3) := by decide +kernel
theorem dX7_keepHear_28 : decode cX7_keepHear 28 = .ok (.aload_n 0, 1) := by decide +kernel
theorem dX7_keepHear_29 : decode cX7_keepHear 29 = .ok (.getfield 231, 3) := by decide +kernel
theorem dX7_keepHear_32 : decode cX7_keepHear 32 = .ok (.iload_n 1, 1) := by decide +kernel
theorem dX7_keepHear_33 : decode cX7_keepHear 33 = .ok (.iastore, 1) := by decide +kernel
theorem dX7_keepHear_34 : decode cX7_keepHear 34 = .ok (.aload_n 0, 1) := by decide +kernel
theorem dX7_keepHear_35 : decode cX7_keepHear 35 = .ok (.getfield 47, 3) := by decide +kernel
theorem dX7_keepHear_38 : decode cX7_keepHear 38 = .ok (.aload_n 0, 1) := by decide +kernel
theorem dX7_keepHear_39 : decode cX7_keepHear 39 = .ok (.getfield 231, 3) := by decide +kernel
theorem dX7_keepHear_42 : decode cX7_keepHear 42 = .ok (.iload_n 2, 1) := by decide +kernel
theorem dX7_keepHear_43 : decode cX7_keepHear 43 = .ok (.iastore, 1) := by decide +kernel
theorem dX7_keepHear_44 : decode cX7_keepHear 44 = .ok (.aload_n 0, 1) := by decide +kernel
theorem dX7_keepHear_45 : decode cX7_keepHear 45 = .ok (.dup, 1) := by decide +kernel
theorem dX7_keepHear_46 : decode cX7_keepHear 46 = .ok (.getfield 231, 3) := by decide +kernel
theorem dX7_keepHear_49 : decode cX7_keepHear 49 = .ok (.iconst 1, 1) := by decide +kernel
theorem dX7_keepHear_50 : decode cX7_keepHear 50 = .ok (.iadd, 1) := by decide +kernel
theorem dX7_keepHear_51 : decode cX7_keepHear 51 = .ok (.putfield 231, 3) := by decide +kernel
theorem dX7_keepHear_54 : decode cX7_keepHear 54 = .ok (.return_, 1) := by decide +kernel
theorem dX7_hearingOther_0 : decode cX7_hearingOther 0 = .ok (.aload_n 0, 1) := by decide +kernel
theorem dX7_hearingOther_1 : decode cX7_hearingOther 1 = .ok (.invokevirtual 59, 3) := by decide +kernel
theorem dX7_hearingOther_4 : decode cX7_hearingOther 4 = .ok (.aload_n 0, 1) := by decide +kernel
theorem dX7_hearingOther_5 : decode cX7_hearingOther 5 = .ok (.getfield 84, 3) := by decide +kernel
theorem dX7_hearingOther_8 : decode cX7_hearingOther 8 = .ok (.istore_n 2, 1) := by decide +kernel
theorem dX7_hearingOther_9 : decode cX7_hearingOther 9 = .ok (.aload_n 0, 1) := by decide +kernel
theorem dX7_hearingOther_10 : decode cX7_hearingOther 10 = .ok (.getfield 90, 3) := by decide +kernel
theorem dX7_hearingOther_13 : decode cX7_hearingOther 13 = .ok (.istore_n 3, 1) := by decide +kernel
theorem dX7_hearingOther_14 : decode cX7_hearingOther 14 = .ok (.aload_n 0, 1) := by decide +kernel
theorem dX7_hearingOther_15 : decode cX7_hearingOther 15 = .ok (.sipush 130, 3) := by decide +kernel
theorem dX7_hearingOther_18 : decode cX7_hearingOther 18 = .ok (.invokevirtual 100, 3) := by decide +kernel
theorem dX7_hearingOther_21 : decode cX7_hearingOther 21 = .ok (.aload_n 0, 1) := by decide +kernel
theorem dX7_hearingOther_22 : decode cX7_hearingOther 22 = .ok (.bipush 40, 2) := by decide +kernel
theorem dX7_hearingOther_24 : decode cX7_hearingOther 24 = .ok (.iload_n 1, 1) := by decide +kernel
theorem dX7_hearingOther_25 : decode cX7_hearingOther 25 = .ok (.invokevirtual 106, 3) := by decide +kernel
theorem dX7_hearingOther_28 : decode cX7_hearingOther 28 = .ok (.iconst 0, 1) := by decide +kernel
theorem dX7_hearingOther_29 : decode cX7_hearingOther 29 = .ok (.istore 4, 2) := by decide +kernel
theorem dX7_hearingOther_31 : decode cX7_hearingOther 31 = .ok (.iconst 0, 1) := by decide +kernel
theorem dX7_hearingOther_32 : decode cX7_hearingOther 32 = .ok (.istore 5, 2) := by decide +kernel
theorem dX7_hearingOther_34 : decode cX7_hearingOther 34 = .ok (.iload 5, 2) := by decide +kernel
theorem dX7_hearingOther_36 : decode cX7_hearingOther 36 = .ok (.sipush 4000, 3) := by decide +kernel
theorem dX7_hearingOther_39 : decode cX7_hearingOther 39 = .ok (.if_icmp .gt 49, 3) := by decide +kernel
theorem dX7_hearingOther_42 : decode cX7_hearingOther 42 = .ok (.aload_n 0, 1) := by decide +kernel
theorem dX7_hearingOther_43 : decode cX7_hearingOther 43 = .ok (.getfield 62, 3) := by decide +kernel
theorem dX7_hearingOther_46 : decode cX7_hearingOther 46 = .ok (.bipush 41, 2) := by decide +kernel
theorem dX7_hearingOther_48 : decode cX7_hearingOther 48 = .ok (.if_icmp .eq 40, 3) := by decide +kernel
theorem dX7_hearingOther_51 : decode cX7_hearingOther 51 = .ok (.aload_n 0, 1) := by decide +kernel
theorem dX7_hearingOther_52 : decode cX7_hearingOther 52 = .ok (.getfield 62, 3) := by decide +kernel
theorem dX7_hearingOther_55 : decode cX7_hearingOther 55 = .ok (.sipush 137, 3) := by decide +kernel
theorem dX7_hearingOther_58 : decode cX7_hearingOther 58 = .ok (.if_icmp .eq 30, 3) := by decide +kernel
theorem dX7_hearingOther_61 : decode cX7_hearingOther 61 = .ok (.iload 4, 2) := by decide +kernel
theorem dX7_hearingOther_63 : decode cX7_hearingOther 63 = .ok (.ifCond .le 9, 3) := by decide +kernel
theorem dX7_hearingOther_66 : decode cX7_hearingOther 66 = .ok (.aload_n 0, 1) := by decide +kernel
theorem dX7_hearingOther_67 : decode cX7_hearingOther 67 = .ok (.bipush 44, 2) := by decide +kernel
theorem dX7_hearingOther_69 : decode cX7_hearingOther 69 = .ok (.invokevirtual 100, 3) := by decide +kernel
theorem dX7_hearingOther_72 : decode cX7_hearingOther 72 = .ok (.aload_n 0, 1) := by decide +kernel
theorem dX7_hearingOther_73 : decode cX7_hearingOther 73 = .ok (.iload_n 1, 1) := by decide +kernel
theorem dX7_hearingOther_74 : decode cX7_hearingOther 74 = .ok (.iconst 1, 1) := by decide +kernel
theorem dX7_hearingOther_75 : decode cX7_hearingOther 75 = .ok (.iadd, 1) := by decide +kernel
theorem dX7_hearingOther_76 : decode cX7_hearingOther 76 = .ok (.invokevirtual 202, 3) := by decide +kernel
theorem dX7_hearingOther_79 : decode cX7_hearingOther 79 = .ok (.iinc 4 1, 3) := by decide +kernel
theorem dX7_hearingOther_82 : decode cX7_hearingOther 82 = .ok (.iinc 5 1, 3) := by decide +kernel
theorem dX7_hearingOther_85 : decode cX7_hearingOther 85 = .ok (.goto (-51), 3) := by decide +kernel
theorem dX7_hearingOther_88 : decode cX7_hearingOther 88 = .ok (.aload_n 0, 1) := by decide +kernel
theorem dX7_hearingOther_89 : decode cX7_hearingOther 89 = .ok (.bipush 41, 2) := by decide +kernel
theorem dX7_hearingOther_91 : decode cX7_hearingOther 91 = .ok (.invokevirtual 100, 3) := by decide +kernel
theorem dX7_hearingOther_94 : decode cX7_hearingOther 94 = .ok (.aload_n 0, 1) := by decide +kernel
theorem dX7_hearingOther_95 : decode cX7_hearingOther 95 = .ok (.iconst 2, 1) := by decide +kernel
theorem dX7_hearingOther_96 : decode cX7_hearingOther 96 = .ok (.iload_n 2, 1) := by decide +kernel
theorem dX7_hearingOther_97 : decode cX7_hearingOther 97 = .ok (.iload 4, 2) := by decide +kernel
theorem dX7_hearingOther_99 : decode cX7_hearingOther 99 = .ok (.invokevirtual 214, 3) := by decide +kernel
theorem dX7_hearingOther_102 : decode cX7_hearingOther 102 = .ok (.aload_n 0, 1) := by decide +kernel
theorem dX7_hearingOther_103 : decode cX7_hearingOther 103 = .ok (.aload_n 0, 1) := by decide +kernel
theorem dX7_hearingOther_104 : decode cX7_hearingOther 104 = .ok (.getfield 31, 3) := by decide +kernel
theorem dX7_hearingOther_107 : decode cX7_hearingOther 107 = .ok (.getfield 110, 3) := by decide +kernel
theorem dX7_hearingOther_110 : decode cX7_hearingOther 110 = .ok (.iconst 2, 1) := by decide +kernel
theorem dX7_hearingOther_111 : decode cX7_hearingOther 111 = .ok (.isub, 1) := by decide +kernel
theorem dX7_hearingOther_112 : decode cX7_hearingOther 112 = .ok (.iload_n 3, 1) := by decide +kernel
theorem dX7_hearingOther_113 : decode cX7_hearingOther 113 = .ok (.invokevirtual 228, 3) := by decide +kernel
theorem dX7_hearingOther_116 : decode cX7_hearingOther 116 = .ok (.aload_n 0, 1) := by decide +kernel
theorem dX7_hearingOther_117 : decode cX7_hearingOther 117 = .ok (.getfield 62, 3) := by decide +kernel
theorem dX7_hearingOther_120 : decode cX7_hearingOther 120 = .ok (.sipush 211, 3) := by decide +kernel
theorem dX7_hearingOther_123 : decode cX7_hearingOther 123 = .ok (.if_icmp .ne 20, 3) := by decide +kernel
theorem dX7_hearingOther_126 : decode cX7_hearingOther 126 = .ok (.aload_n 0, 1) := by decide +kernel
theorem dX7_hearingOther_127 : decode cX7_hearingOther 127 = .ok (.invokevirtual 59, 3) := by decide +kernel
theorem dX7_hearingOther_130 : decode cX7_hearingOther 130 = .ok (.aload_n 0, 1) := by decide +kernel
theorem dX7_hearingOther_131 : decode cX7_hearingOther 131 = .ok (.bipush 9, 2) := by decide +kernel
theorem dX7_hearingOther_133 : decode cX7_hearingOther 133 = .ok (.aload_n 0, 1) := by decide +kernel
theorem dX7_hearingOther_134 : decode cX7_hearingOther 134 = .ok (.invokevirtual 211, 3) := by decide +kernel
theorem dX7_hearingOther_137 : decode cX7_hearingOther 137 = .ok (.invokevirtual 122, 3) := by decide +kernel
theorem dX7_hearingOther_140 : decode cX7_hearingOther 140 = .ok (.goto 9, 3) := by decide +kernel
theorem dX7_hearingOther_143 : decode cX7_hearingOther 143 = .ok (.aload_n 0, 1) := by decide +kernel
theorem dX7_hearingOther_144 : decode cX7_hearingOther 144 = .ok (.bipush 10, 2) := by decide +kernel
theorem dX7_hearingOther_146 : decode cX7_hearingOther 146 = .ok (.invokevirtual 125, 3) := by decide +kernel
theorem dX7_hearingOther_149 : decode cX7_hearingOther 149 = .ok (.return_, 1) := by decide +kernel
theorem dX7_resting_0 : decode cX7_resting 0 = .ok (.aload_n 0, 1) := by decide +kernel
theorem dX7_resting_1 : decode cX7_resting 1 = .ok (.invokevirtual 59, 3) := by decide +kernel
theorem dX7_resting_4 : decode cX7_resting 4 = .ok (.aload_n 0, 1) := by decide +kernel
theorem dX7_resting_5 : decode cX7_resting 5 = .ok (.getfield 62, 3) := by decide +kernel
theorem dX7_resting_8 : decode cX7_resting 8 = .ok (.bipush 59, 2) := by decide +kernel
theorem dX7_resting_10 : decode cX7_resting 10 = .ok (.if_icmp .ne 13, 3) := by decide +kernel
theorem dX7_resting_13 : decode cX7_resting 13 = .ok (.aload_n 0, 1) := by decide +kernel
theorem dX7_resting_14 : decode cX7_resting 14 = .ok (.bipush 7, 2) := by decide +kernel
theorem dX7_resting_16 : decode cX7_resting 16 = .ok (.iconst 0, 1) := by decide +kernel
theorem dX7_resting_17 : decode cX7_resting 17 = .ok (.invokevirtual 122, 3) := by decide +kernel
theorem dX7_resting_20 : decode cX7_resting 20 = .ok (.goto 8, 3) := by decide +kernel
theorem dX7_resting_23 : decode cX7_resting 23 = .ok (.aload_n 0, 1) := by decide +kernel
theorem dX7_resting_24 : decode cX7_resting 24 = .ok (.iload_n 1, 1) := by decide +kernel
theorem dX7_resting_25 : decode cX7_resting 25 = .ok (.invokevirtual 202, 3) := by decide +kernel
theorem dX7_resting_28 : decode cX7_resting 28 = .ok (.aload_n 0, 1) := by decide +kernel
theorem dX7_resting_29 : decode cX7_resting 29 = .ok (.iconst 3, 1) := by decide +kernel
theorem dX7_resting_30 : decode cX7_resting 30 = .ok (.invokevirtual 125, 3) := by decide +kernel
theorem dX7_resting_33 : decode cX7_resting 33 = .ok (.return_, 1) := by decide +kernel
theorem dX7_statement_0 : decode cX7_statement 0 = .ok (.aload_n 0, 1) := by decide +kernel
theorem dX7_statement_1 : decode cX7_statement 1 = .ok (.getfield 62, 3) := by decide +kernel
theorem dX7_statement_4 : decode cX7_statement 4 = .ok (.tableswitch 50 213 216 #[32, 50, 38, 44], 32) := by decide +kernel
theorem dX7_statement_36 : decode cX7_statement 36 = .ok (.aload_n 0, 1) := by decide +kernel
theorem dX7_statement_37 : decode cX7_statement 37 = .ok (.iload_n 1, 1) := by decide +kernel
theorem dX7_statement_38 : decode cX7_statement 38 = .ok (.invokevirtual 166, 3) := by decide +kernel
theorem dX7_statement_41 : decode cX7_statement 41 = .ok (.return_, 1) := by decide +kernel
theorem dX7_statement_42 : decode cX7_statement 42 = .ok (.aload_n 0, 1) := by decide +kernel
theorem dX7_statement_43 : decode cX7_statement 43 = .ok (.iload_n 1, 1) := by decide +kernel
theorem dX7_statement_44 : decode cX7_statement 44 = .ok (.invokevirtual 169, 3) := by decide +kernel
theorem dX7_statement_47 : decode cX7_statement 47 = .ok (.return_, 1) := by decide +kernel
theorem dX7_statement_48 : decode cX7_statement 48 = .ok (.aload_n 0, 1) := by decide +kernel
theorem dX7_statement_49 : decode cX7_statement 49 = .ok (.iload_n 1, 1) := by decide +kernel
theorem dX7_statement_50 : decode cX7_statement 50 = .ok (.invokevirtual 172, 3) := by decide +kernel
theorem dX7_statement_53 : decode cX7_statement 53 = .ok (.return_, 1) := by decide +kernel
theorem dX7_statement_54 : decode cX7_statement 54 = .ok (.aload_n 0, 1) := by decide +kernel
theorem dX7_statement_55 : decode cX7_statement 55 = .ok (.iconst 0, 1) := by decide +kernel
theorem dX7_statement_56 : decode cX7_statement 56 = .ok (.invokevirtual 125, 3) := by decide +kernel
theorem dX7_statement_59 : decode cX7_statement 59 = .ok (.aload_n 0, 1) := by decide +kernel
theorem dX7_statement_60 : decode cX7_statement 60 = .ok (.getfield 62, 3) := by decide +kernel
theorem dX7_statement_63 : decode cX7_statement 63 = .ok (.lookupswitch 169 #[(130, 81), (201, 73), (202, 89), (206, 131), (207, 138), (209, 145), (210, 153), (212, 161)], 73) := by decide +kernel
theorem dX7_statement_136 : decode cX7_statement 136 = .ok (.aload_n 0, 1) := by decide +kernel
theorem dX7_statement_137 : decode cX7_statement 137 = .ok (.iload_n 1, 1) := by decide +kernel
theorem dX7_statement_138 : decode cX7_statement 138 = .ok (.invokevirtual 175, 3) := by decide +kernel
theorem dX7_statement_141 : decode cX7_statement 141 = .ok (.goto 95, 3) := by decide +kernel
theorem dX7_statement_144 : decode cX7_statement 144 = .ok (.aload_n 0, 1) := by decide +kernel
theorem dX7_statement_145 : decode cX7_statement 145 = .ok (.iload_n 1, 1) := by decide +kernel
theorem dX7_statement_146 : decode cX7_statement 146 = .ok (.invokevirtual 178, 3) := by decide +kernel
theorem dX7_statement_149 : decode cX7_statement 149 = .ok (.goto 87, 3) := by decide +kernel
theorem dX7_statement_152 : decode cX7_statement 152 = .ok (.aload_n 0, 1) := by decide +kernel
theorem dX7_statement_153 : decode cX7_statement 153 = .ok (.invokevirtual 59, 3) := by decide +kernel
theorem dX7_statement_156 : decode cX7_statement 156 = .ok (.aload_n 0, 1) := by decide +kernel
theorem dX7_statement_157 : decode cX7_statement 157 = .ok (.invokevirtual 157, 3) := by decide +kernel
theorem dX7_statement_160 : decode cX7_statement 160 = .ok (.istore_n 2, 1) := by decide +kernel
theorem dX7_statement_161 : decode cX7_statement 161 = .ok (.aload_n 0, 1) := by decide +kernel
theorem dX7_statement_162 : decode cX7_statement 162 = .ok (.bipush 61, 2) := by decide +kernel
theorem dX7_statement_164 : decode cX7_statement 164 = .ok (.invokevirtual 100, 3) := by decide +kernel
theorem dX7_statement_167 : decode cX7_statement 167 = .ok (.aload_n 0, 1) := by decide +kernel
theorem dX7_statement_168 : decode cX7_statement 168 = .ok (.getfield 62, 3) := by decide +kernel
theorem dX7_statement_171 : decode cX7_statement 171 = .ok (.invokestatic 160, 3) := by decide +kernel
theorem dX7_statement_174 : decode cX7_statement 174 = .ok (.ifCond .eq 12, 3) := by decide +kernel
theorem dX7_statement_177 : decode cX7_statement 177 = .ok (.aload_n 0, 1) := by decide +kernel
theorem dX7_statement_178 : decode cX7_statement 178 = .ok (.iload_n 2, 1) := by decide +kernel
theorem dX7_statement_179 : decode cX7_statement 179 = .ok (.iload_n 1, 1) := by decide +kernel
theorem dX7_statement_180 : decode cX7_statement 180 = .ok (.invokevirtual 181, 3) := by decide +kernel
theorem dX7_statement_183 : decode cX7_statement 183 = .ok (.goto 53, 3) := by decide +kernel
theorem dX7_statement_186 : decode cX7_statement 186 = .ok (.aload_n 0, 1) := by decide +kernel
theorem dX7_statement_187 : decode cX7_statement 187 = .ok (.iload_n 2, 1) := by decide +kernel
theorem dX7_statement_188 : decode cX7_statement 188 = .ok (.invokevirtual 184, 3) := by decide +kernel
theorem dX7_statement_191 : decode cX7_statement 191 = .ok (.goto 45, 3) := by decide +kernel
theorem dX7_statement_194 : decode cX7_statement 194 = .ok (.aload_n 0, 1) := by decide +kernel
theorem dX7_statement_195 : decode cX7_statement 195 = .ok (.invokevirtual 187, 3) := by decide +kernel
theorem dX7_statement_198 : decode cX7_statement 198 = .ok (.goto 38, 3) := by decide +kernel
theorem dX7_statement_201 : decode cX7_statement 201 = .ok (.aload_n 0, 1) := by decide +kernel
theorem dX7_statement_202 : decode cX7_statement 202 = .ok (.invokevirtual 190, 3) := by decide +kernel
theorem dX7_statement_205 : decode cX7_statement 205 = .ok (.goto 31, 3) := by decide +kernel
theorem dX7_statement_208 : decode cX7_statement 208 = .ok (.aload_n 0, 1) := by decide +kernel
theorem dX7_statement_209 : decode cX7_statement 209 = .ok (.iload_n 1, 1) := by decide +kernel
theorem dX7_statement_210 : decode cX7_statement 210 = .ok (.invokevirtual 193, 3) := by decide +kernel
theorem dX7_statement_213 : decode cX7_statement 213 = .ok (.goto 23, 3) := by decide +kernel
theorem dX7_statement_216 : decode cX7_statement 216 = .ok (.aload_n 0, 1) := by decide +kernel
theorem dX7_statement_217 : decode cX7_statement 217 = .ok (.iload_n 1, 1) := by decide +kernel
theorem dX7_statement_218 : decode cX7_statement 218 = .ok (.invokevirtual 196, 3) := by decide +kernel
theorem dX7_statement_221 : decode cX7_statement 221 = .ok (.goto 15, 3) := by decide +kernel
theorem dX7_statement_224 : decode cX7_statement 224 = .ok (.aload_n 0, 1) := by decide +kernel
theorem dX7_statement_225 : decode cX7_statement 225 = .ok (.iload_n 1, 1) := by decide +kernel
theorem dX7_statement_226 : decode cX7_statement 226 = .ok (.invokevirtual 199, 3) := by decide +kernel
theorem dX7_statement_229 : decode cX7_statement 229 = .ok (.goto 7, 3) := by decide +kernel
theorem dX7_statement_232 : decode cX7_statement 232 = .ok (.aload_n 0, 1) := by decide +kernel
theorem dX7_statement_233 : decode cX7_statement 233 = .ok (.invokevirtual 93, 3) := by decide +kernel
theorem dX7_statement_236 : decode cX7_statement 236 = .ok (.aload_n 0, 1) := by decide +kernel
theorem dX7_statement_237 : decode cX7_statement 237 = .ok (.bipush 59, 2) := by decide +kernel
theorem dX7_statement_239 : decode cX7_statement 239 = .ok (.invokevirtual 100, 3) := by decide +kernel
theorem dX7_statement_242 : decode cX7_statement 242 = .ok (.return_, 1) := by decide +kernel
theorem dX7_block_0 : decode cX7_block 0 = .ok (.aload_n 0, 1) := by decide +kernel
theorem dX7_block_1 : decode cX7_block 1 = .ok (.bipush 123, 2) := by decide +kernel
theorem dX7_block_3 : decode cX7_block 3 = .ok (.iload_n 1, 1) := by decide +kernel
theorem dX7_block_4 : decode cX7_block 4 = .ok (.invokevirtual 106, 3) := by decide +kernel
theorem dX7_block_7 : decode cX7_block 7 = .ok (.iconst 0, 1) := by decide +kernel
theorem dX7_block_8 : decode cX7_block 8 = .ok (.istore_n 2, 1) := by decide +kernel
theorem dX7_block_9 : decode cX7_block 9 = .ok (.iload_n 2, 1) := by decide +kernel
theorem dX7_block_10 : decode cX7_block 10 = .ok (.sipush 4000, 3) := by decide +kernel
theorem dX7_block_13 : decode cX7_block 13 = .ok (.if_icmp .gt 35, 3) := by decide +kernel
theorem dX7_block_16 : decode cX7_block 16 = .ok (.aload_n 0, 1) := by decide +kernel
theorem dX7_block_17 : decode cX7_block 17 = .ok (.getfield 62, 3) := by decide +kernel
theorem dX7_block_20 : decode cX7_block 20 = .ok (.bipush 125, 2) := by decide +kernel
theorem dX7_block_22 : decode cX7_block 22 = .ok (.if_icmp .eq 26, 3) := by decide +kernel
theorem dX7_block_25 : decode cX7_block 25 = .ok (.aload_n 0, 1) := by decide +kernel
theorem dX7_block_26 : decode cX7_block 26 = .ok (.getfield 62, 3) := by decide +kernel
theorem dX7_block_29 : decode cX7_block 29 = .ok (.sipush 137, 3) := by decide +kernel
theorem dX7_block_32 : decode cX7_block 32 = .ok (.if_icmp .eq 16, 3) := by decide +kernel
theorem dX7_block_35 : decode cX7_block 35 = .ok (.aload_n 0, 1) := by decide +kernel
theorem dX7_block_36 : decode cX7_block 36 = .ok (.iload_n 1, 1) := by decide +kernel
theorem dX7_block_37 : decode cX7_block 37 = .ok (.iconst 1, 1) := by decide +kernel
theorem dX7_block_38 : decode cX7_block 38 = .ok (.iadd, 1) := by decide +kernel
theorem dX7_block_39 : decode cX7_block 39 = .ok (.invokevirtual 163, 3) := by decide +kernel
theorem dX7_block_42 : decode cX7_block 42 = .ok (.iinc 2 1, 3) := by decide +kernel
theorem dX7_block_45 : decode cX7_block 45 = .ok (.goto (-36), 3) := by decide +kernel
theorem dX7_block_48 : decode cX7_block 48 = .ok (.aload_n 0, 1) := by decide +kernel
theorem dX7_block_49 : decode cX7_block 49 = .ok (.bipush 125, 2) := by decide +kernel
theorem dX7_block_51 : decode cX7_block 51 = .ok (.invokevirtual 100, 3) := by decide +kernel
theorem dX7_block_54 : decode cX7_block 54 = .ok (.return_, 1) := by decide +kernel
theorem dX7_property_0 : decode cX7_property 0 = .ok (.aload_n 0, 1) := by decide +kernel
theorem dX7_property_1 : decode cX7_property 1 = .ok (.getfield 62, 3) := by decide +kernel
theorem dX7_property_4 : decode cX7_property 4 = .ok (.tableswitch 48 219 223 #[36, 38, 40, 43, 46], 36) := by decide +kernel
theorem dX7_property_40 : decode cX7_property 40 = .ok (.iconst 1, 1) := by decide +kernel
theorem dX7_property_41 : decode cX7_property 41 = .ok (.ireturn, 1) := by decide +kernel
theorem dX7_property_42 : decode cX7_property 42 = .ok (.iconst 2, 1) := by decide +kernel
theorem dX7_property_43 : decode cX7_property 43 = .ok (.ireturn, 1) := by decide +kernel
theorem dX7_property_44 : decode cX7_property 44 = .ok (.bipush 6, 2) := by decide +kernel
theorem dX7_property_46 : decode cX7_property 46 = .ok (.ireturn, 1) := by decide +kernel
theorem dX7_property_47 : decode cX7_property 47 = .ok (.bipush 7, 2) := by decide +kernel
theorem dX7_property_49 : decode cX7_property 49 = .ok (.ireturn, 1) := by decide +kernel
theorem dX7_property_50 : decode cX7_property 50 = .ok (.iconst 3, 1) := by decide +kernel
theorem dX7_property_51 : decode cX7_property 51 = .ok (.ireturn, 1) := by decide +kernel
theorem dX7_property_52 : decode cX7_property 52 = .ok (.iconst (-1), 1) := by decide +kernel
theorem dX7_property_53 : decode cX7_property 53 = .ok (.ireturn, 1) := by decide +kernel
theorem dX7_toldProperty_0 : decode cX7_toldProperty 0 = .ok (.aload_n 0, 1) := by decide +kernel
theorem dX7_toldProperty_1 : decode cX7_toldProperty 1 = .ok (.invokevirtual 252, 3) := by decide +kernel
theorem dX7_toldProperty_4 : decode cX7_toldProperty 4 = .ok (.istore_n 1, 1) := by decide +kernel
theorem dX7_toldProperty_5 : decode cX7_toldProperty 5 = .ok (.iload_n 1, 1) := by decide +kernel
theorem dX7_toldProperty_6 : decode cX7_toldProperty 6 = .ok (.iconst (-1), 1) := by decide +kernel
theorem dX7_toldProperty_7 : decode cX7_toldProperty 7 = .ok (.if_icmp .ne 10, 3) := by decide +kernel
theorem dX7_toldProperty_10 : decode cX7_toldProperty 10 = .ok (.aload_n 0, 1) := by decide +kernel
theorem dX7_toldProperty_11 : decode cX7_toldProperty 11 = .ok (.invokevirtual 93, 3) := by decide +kernel
theorem dX7_toldProperty_14 : decode cX7_toldProperty 14 = .ok (.goto 7, 3) := by decide +kernel
theorem dX7_toldProperty_17 : decode cX7_toldProperty 17 = .ok (.aload_n 0, 1) := by decide +kernel
theorem dX7_toldProperty_18 : decode cX7_toldProperty 18 = .ok (.invokevirtual 59, 3) := by decide +kernel
theorem dX7_toldProperty_21 : decode cX7_toldProperty 21 = .ok (.iload_n 1, 1) := by decide +kernel
theorem dX7_toldProperty_22 : decode cX7_toldProperty 22 = .ok (.ireturn, 1) := by decide +kernel
theorem dX7_factor_0 : decode cX7_factor 0 = .ok (.aload_n 0, 1) := by decide +kernel
theorem dX7_factor_1 : decode cX7_factor 1 = .ok (.getfield 62, 3) := by decide +kernel
theorem dX7_factor_4 : decode cX7_factor 4 = .ok (.lookupswitch 164 #[(40, 141), (45, 118), (130, 69), (131, 82), (132, 52)], 52) := by decide +kernel
theorem dX7_factor_56 : decode cX7_factor 56 = .ok (.aload_n 0, 1) := by decide +kernel
theorem dX7_factor_57 : decode cX7_factor 57 = .ok (.bipush 7, 2) := by decide +kernel
theorem dX7_factor_59 : decode cX7_factor 59 = .ok (.aload_n 0, 1) := by decide +kernel
theorem dX7_factor_60 : decode cX7_factor 60 = .ok (.getfield 84, 3) := by decide +kernel
theorem dX7_factor_63 : decode cX7_factor 63 = .ok (.invokevirtual 122, 3) := by decide +kernel
theorem dX7_factor_66 : decode cX7_factor 66 = .ok (.aload_n 0, 1) := by decide +kernel
theorem dX7_factor_67 : decode cX7_factor 67 = .ok (.invokevirtual 59, 3) := by decide +kernel
theorem dX7_factor_70 : decode cX7_factor 70 = .ok (.goto 116, 3) := by decide +kernel
theorem dX7_factor_73 : decode cX7_factor 73 = .ok (.aload_n 0, 1) := by decide +kernel
theorem dX7_factor_74 : decode cX7_factor 74 = .ok (.bipush 8, 2) := by decide +kernel
theorem dX7_factor_76 : decode cX7_factor 76 = .ok (.aload_n 0, 1) := by decide +kernel
theorem dX7_factor_77 : decode cX7_factor 77 = .ok (.invokevirtual 211, 3) := by decide +kernel
theorem dX7_factor_80 : decode cX7_factor 80 = .ok (.invokevirtual 122, 3) := by decide +kernel
theorem dX7_factor_83 : decode cX7_factor 83 = .ok (.goto 103, 3) := by decide +kernel
theorem dX7_factor_86 : decode cX7_factor 86 = .ok (.aload_n 0, 1) := by decide +kernel
theorem dX7_factor_87 : decode cX7_factor 87 = .ok (.invokevirtual 157, 3) := by decide +kernel
theorem dX7_factor_90 : decode cX7_factor 90 = .ok (.istore_n 2, 1) := by decide +kernel
theorem dX7_factor_91 : decode cX7_factor 91 = .ok (.aload_n 0, 1) := by decide +kernel
theorem dX7_factor_92 : decode cX7_factor 92 = .ok (.invokevirtual 222, 3) := by decide +kernel
theorem dX7_factor_95 : decode cX7_factor 95 = .ok (.istore_n 3, 1) := by decide +kernel
theorem dX7_factor_96 : decode cX7_factor 96 = .ok (.aload_n 0, 1) := by decide +kernel
theorem dX7_factor_97 : decode cX7_factor 97 = .ok (.iload_n 3, 1) := by decide +kernel
theorem dX7_factor_98 : decode cX7_factor 98 = .ok (.iload_n 2, 1) := by decide +kernel
theorem dX7_factor_99 : decode cX7_factor 99 = .ok (.iload_n 3, 1) := by decide +kernel
theorem dX7_factor_100 : decode cX7_factor 100 = .ok (.bipush 23, 2) := by decide +kernel
theorem dX7_factor_102 : decode cX7_factor 102 = .ok (.if_icmp .ne 10, 3) := by decide +kernel
theorem dX7_factor_105 : decode cX7_factor 105 = .ok (.aload_n 0, 1) := by decide +kernel
theorem dX7_factor_106 : decode cX7_factor 106 = .ok (.invokevirtual 208, 3) := by decide +kernel
theorem dX7_factor_109 : decode cX7_factor 109 = .ok (.goto 7, 3) := by decide +kernel
theorem dX7_factor_112 : decode cX7_factor 112 = .ok (.aload_n 0, 1) := by decide +kernel
theorem dX7_factor_113 : decode cX7_factor 113 = .ok (.invokevirtual 157, 3) := by decide +kernel
theorem dX7_factor_116 : decode cX7_factor 116 = .ok (.invokevirtual 214, 3) := by decide +kernel
theorem dX7_factor_119 : decode cX7_factor 119 = .ok (.goto 67, 3) := by decide +kernel
theorem dX7_factor_122 : decode cX7_factor 122 = .ok (.aload_n 0, 1) := by decide +kernel
theorem dX7_factor_123 : decode cX7_factor 123 = .ok (.bipush 45, 2) := by decide +kernel
theorem dX7_factor_125 : decode cX7_factor 125 = .ok (.iload_n 1, 1) := by decide +kernel
theorem dX7_factor_126 : decode cX7_factor 126 = .ok (.invokevirtual 106, 3) := by decide +kernel
theorem dX7_factor_129 : decode cX7_factor 129 = .ok (.aload_n 0, 1) := by decide +kernel
theorem dX7_factor_130 : decode cX7_factor 130 = .ok (.iload_n 1, 1) := by decide +kernel
theorem dX7_factor_131 : decode cX7_factor 131 = .ok (.iconst 1, 1) := by decide +kernel
theorem dX7_factor_132 : decode cX7_factor 132 = .ok (.iadd, 1) := by decide +kernel
theorem dX7_factor_133 : decode cX7_factor 133 = .ok (.invokevirtual 240, 3) := by decide +kernel
theorem dX7_factor_136 : decode cX7_factor 136 = .ok (.aload_n 0, 1) := by decide +kernel
theorem dX7_factor_137 : decode cX7_factor 137 = .ok (.bipush 11, 2) := by decide +kernel
theorem dX7_factor_139 : decode cX7_factor 139 = .ok (.invokevirtual 125, 3) := by decide +kernel
theorem dX7_factor_142 : decode cX7_factor 142 = .ok (.goto 44, 3) := by decide +kernel
theorem dX7_factor_145 : decode cX7_factor 145 = .ok (.aload_n 0, 1) := by decide +kernel
theorem dX7_factor_146 : decode cX7_factor 146 = .ok (.bipush 40, 2) := by decide +kernel
theorem dX7_factor_148 : decode cX7_factor 148 = .ok (.iload_n 1, 1) := by decide +kernel
theorem dX7_factor_149 : decode cX7_factor 149 = .ok (.invokevirtual 106, 3) := by decide +kernel
theorem dX7_factor_152 : decode cX7_factor 152 = .ok (.aload_n 0, 1) := by decide +kernel
theorem dX7_factor_153 : decode cX7_factor 153 = .ok (.iload_n 1, 1) := by decide +kernel
theorem dX7_factor_154 : decode cX7_factor 154 = .ok (.iconst 1, 1) := by decide +kernel
theorem dX7_factor_155 : decode cX7_factor 155 = .ok (.iadd, 1) := by decide +kernel
theorem dX7_factor_156 : decode cX7_factor 156 = .ok (.invokevirtual 202, 3) := by decide +kernel
theorem dX7_factor_159 : decode cX7_factor 159 = .ok (.aload_n 0, 1) := by decide +kernel
theorem dX7_factor_160 : decode cX7_factor 160 = .ok (.bipush 41, 2) := by decide +kernel
theorem dX7_factor_162 : decode cX7_factor 162 = .ok (.invokevirtual 100, 3) := by decide +kernel
theorem dX7_factor_165 : decode cX7_factor 165 = .ok (.goto 21, 3) := by decide +kernel
theorem dX7_factor_168 : decode cX7_factor 168 = .ok (.aload_n 0, 1) := by decide +kernel
theorem dX7_factor_169 : decode cX7_factor 169 = .ok (.invokevirtual 249, 3) := by decide +kernel
theorem dX7_factor_172 : decode cX7_factor 172 = .ok (.istore 4, 2) := by decide +kernel
theorem dX7_factor_174 : decode cX7_factor 174 = .ok (.aload_n 0, 1) := by decide +kernel
theorem dX7_factor_175 : decode cX7_factor 175 = .ok (.bipush 22, 2) := by decide +kernel
theorem dX7_factor_177 : decode cX7_factor 177 = .ok (.aload_n 0, 1) := by decide +kernel
theorem dX7_factor_178 : decode cX7_factor 178 = .ok (.invokevirtual 157, 3) := by decide +kernel
theorem dX7_factor_181 : decode cX7_factor 181 = .ok (.iload 4, 2) := by decide +kernel
theorem dX7_factor_183 : decode cX7_factor 183 = .ok (.invokevirtual 214, 3) := by decide +kernel
theorem dX7_factor_186 : decode cX7_factor 186 = .ok (.return_, 1) := by decide +kernel
