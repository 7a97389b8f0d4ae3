theorem dX0_isInstance_0 : decode cX0_isInstance 0 = .ok (.iload_n 0, 1) := by decide +kernel
theorem dX0_isInstance_1 : decode cX0_isInstance 1 = .ok (.ifCond .lt 12, 3) := by decide +kernel
theorem dX0_isInstance_4 : decode cX0_isInstance 4 = .ok (.iload_n 0, 1) := by decide +kernel
theorem dX0_isInstance_5 : decode cX0_isInstance 5 = .ok (.iconst 3, 1) := by decide +kernel
theorem dX0_isInstance_6 : decode cX0_isInstance 6 = .ok (.if_icmp .ge 7, 3) := by decide +kernel
theorem dX0_isInstance_9 : decode cX0_isInstance 9 = .ok (.iconst 1, 1) := by decide +kernel
theorem dX0_isInstance_10 : decode cX0_isInstance 10 = .ok (.goto 4, 3) := by decide +kernel
theorem dX0_isInstance_13 : decode cX0_isInstance 13 = .ok (.iconst 0, 1) := by decide +kernel
theorem dX0_isInstance_14 : decode cX0_isInstance 14 = .ok (.ireturn, 1) := by decide +kernel
theorem dX3_exists_0 : decode cX3_exists 0 = .ok (.iload_n 0, 1) := by decide +kernel
theorem dX3_exists_1 : decode cX3_exists 1 = .ok (.ifCond .lt 13, 3) := by decide +kernel
theorem dX3_exists_4 : decode cX3_exists 4 = .ok (.iload_n 0, 1) := by decide +kernel
theorem dX3_exists_5 : decode cX3_exists 5 = .ok (.bipush 7, 2) := by decide +kernel
theorem dX3_exists_7 : decode cX3_exists 7 = .ok (.if_icmp .ge 7, 3) := by decide +kernel
theorem dX3_exists_10 : decode cX3_exists 10 = .ok (.iconst 1, 1) := by decide +kernel
theorem dX3_exists_11 : decode cX3_exists 11 = .ok (.goto 4, 3) := by decide +kernel
theorem dX3_exists_14 : decode cX3_exists 14 = .ok (.iconst 0, 1) := by decide +kernel
theorem dX3_exists_15 : decode cX3_exists 15 = .ok (.ireturn, 1) := by decide +kernel
theorem dX0_setPolicy_0 : decode cX0_setPolicy 0 = .ok (.iload_n 1, 1) := by decide +kernel
theorem dX0_setPolicy_1 : decode cX0_setPolicy 1 = .ok (.invokestatic 41, 3) := by decide +kernel
theorem dX0_setPolicy_4 : decode cX0_setPolicy 4 = .ok (.ifCond .eq 20, 3) := by decide +kernel
theorem dX0_setPolicy_7 : decode cX0_setPolicy 7 = .ok (.iload_n 2, 1) := by decide +kernel
theorem dX0_setPolicy_8 : decode cX0_setPolicy 8 = .ok (.invokestatic 45, 3) := by decide +kernel
theorem dX0_setPolicy_11 : decode cX0_setPolicy 11 = .ok (.ifCond .eq 13, 3) := by decide +kernel
theorem dX0_setPolicy_14 : decode cX0_setPolicy 14 = .ok (.iload_n 3, 1) := by decide +kernel
theorem dX0_setPolicy_15 : decode cX0_setPolicy 15 = .ok (.iconst (-1), 1) := by decide +kernel
theorem dX0_setPolicy_16 : decode cX0_setPolicy 16 = .ok (.if_icmp .lt 8, 3) := by decide +kernel
theorem dX0_setPolicy_19 : decode cX0_setPolicy 19 = .ok (.iload_n 3, 1) := by decide +kernel
theorem dX0_setPolicy_20 : decode cX0_setPolicy 20 = .ok (.iconst 5, 1) := by decide +kernel
theorem dX0_setPolicy_21 : decode cX0_setPolicy 21 = .ok (.if_icmp .le 5, 3) := by decide +kernel
theorem dX0_setPolicy_24 : decode cX0_setPolicy 24 = .ok (.iconst 0, 1) := by decide +kernel
theorem dX0_setPolicy_25 : decode cX0_setPolicy 25 = .ok (.ireturn, 1) := by decide +kernel
theorem dX0_setPolicy_26 : decode cX0_setPolicy 26 = .ok (.iload_n 3, 1) := by decide +kernel
theorem dX0_setPolicy_27 : decode cX0_setPolicy 27 = .ok (.iconst 2, 1) := by decide +kernel
theorem dX0_setPolicy_28 : decode cX0_setPolicy 28 = .ok (.if_icmp .ne 13, 3) := by decide +kernel
theorem dX0_setPolicy_31 : decode cX0_setPolicy 31 = .ok (.iload 4, 2) := by decide +kernel
theorem dX0_setPolicy_33 : decode cX0_setPolicy 33 = .ok (.invokestatic 45, 3) := by decide +kernel
theorem dX0_setPolicy_36 : decode cX0_setPolicy 36 = .ok (.ifCond .ne 5, 3) := by decide +kernel
theorem dX0_setPolicy_39 : decode cX0_setPolicy 39 = .ok (.iconst 0, 1) := by decide +kernel
theorem dX0_setPolicy_40 : decode cX0_setPolicy 40 = .ok (.ireturn, 1) := by decide +kernel
theorem dX0_setPolicy_41 : decode cX0_setPolicy 41 = .ok (.aload_n 0, 1) := by decide +kernel
theorem dX0_setPolicy_42 : decode cX0_setPolicy 42 = .ok (.getfield 13, 3) := by decide +kernel
theorem dX0_setPolicy_45 : decode cX0_setPolicy 45 = .ok (.iload_n 1, 1) := by decide +kernel
theorem dX0_setPolicy_46 : decode cX0_setPolicy 46 = .ok (.bipush 7, 2) := by decide +kernel
theorem dX0_setPolicy_48 : decode cX0_setPolicy 48 = .ok (.imul, 1) := by decide +kernel
theorem dX0_setPolicy_49 : decode cX0_setPolicy 49 = .ok (.iload_n 2, 1) := by decide +kernel
theorem dX0_setPolicy_50 : decode cX0_setPolicy 50 = .ok (.iadd, 1) := by decide +kernel
theorem dX0_setPolicy_51 : decode cX0_setPolicy 51 = .ok (.iload_n 3, 1) := by decide +kernel
theorem dX0_setPolicy_52 : decode cX0_setPolicy 52 = .ok (.iastore, 1) := by decide +kernel
theorem dX0_setPolicy_53 : decode cX0_setPolicy 53 = .ok (.aload_n 0, 1) := by decide +kernel
theorem dX0_setPolicy_54 : decode cX0_setPolicy 54 = .ok (.getfield 17, 3) := by decide +kernel
theorem dX0_setPolicy_57 : decode cX0_setPolicy 57 = .ok (.iload_n 1, 1) := by decide +kernel
theorem dX0_setPolicy_58 : decode cX0_setPolicy 58 = .ok (.bipush 7, 2) := by decide +kernel
theorem dX0_setPolicy_60 : decode cX0_setPolicy 60 = .ok (.imul, 1) := by decide +kernel
theorem dX0_setPolicy_61 : decode cX0_setPolicy 61 = .ok (.iload_n 2, 1) := by decide +kernel
theorem dX0_setPolicy_62 : decode cX0_setPolicy 62 = .ok (.iadd, 1) := by decide +kernel
theorem dX0_setPolicy_63 : decode cX0_setPolicy 63 = .ok (.iload 4, 2) := by decide +kernel
theorem dX0_setPolicy_65 : decode cX0_setPolicy 65 = .ok (.iastore, 1) := by decide +kernel
theorem dX0_setPolicy_66 : decode cX0_setPolicy 66 = .ok (.iconst 1, 1) := by decide +kernel
theorem dX0_setPolicy_67 : decode cX0_setPolicy 67 = .ok (.ireturn, 1) := by decide +kernel
theorem dX0_enterComplaint_0 : decode cX0_enterComplaint 0 = .ok (.iload_n 1, 1) := by decide +kernel
theorem dX0_enterComplaint_1 : decode cX0_enterComplaint 1 = .ok (.invokestatic 41, 3) := by decide +kernel
theorem dX0_enterComplaint_4 : decode cX0_enterComplaint 4 = .ok (.ifCond .eq 10, 3) := by decide +kernel
theorem dX0_enterComplaint_7 : decode cX0_enterComplaint 7 = .ok (.iload_n 2, 1) := by decide +kernel
theorem dX0_enterComplaint_8 : decode cX0_enterComplaint 8 = .ok (.invokestatic 45, 3) := by decide +kernel
theorem dX0_enterComplaint_11 : decode cX0_enterComplaint 11 = .ok (.ifCond .ne 5, 3) := by decide +kernel
theorem dX0_enterComplaint_14 : decode cX0_enterComplaint 14 = .ok (.iconst (-1), 1) := by decide +kernel
theorem dX0_enterComplaint_15 : decode cX0_enterComplaint 15 = .ok (.ireturn, 1) := by decide +kernel
theorem dX0_enterComplaint_16 : decode cX0_enterComplaint 16 = .ok (.aload_n 0, 1) := by decide +kernel
theorem dX0_enterComplaint_17 : decode cX0_enterComplaint 17 = .ok (.getfield 23, 3) := by decide +kernel
theorem dX0_enterComplaint_20 : decode cX0_enterComplaint 20 = .ok (.iload_n 2, 1) := by decide +kernel
theorem dX0_enterComplaint_21 : decode cX0_enterComplaint 21 = .ok (.iload_n 3, 1) := by decide +kernel
theorem dX0_enterComplaint_22 : decode cX0_enterComplaint 22 = .ok (.iconst 0, 1) := by decide +kernel
theorem dX0_enterComplaint_23 : decode cX0_enterComplaint 23 = .ok (.iconst (-1), 1) := by decide +kernel
theorem dX0_enterComplaint_24 : decode cX0_enterComplaint 24 = .ok (.invokevirtual 48, 3) := by decide +kernel
theorem dX0_enterComplaint_27 : decode cX0_enterComplaint 27 = .ok (.istore 4, 2) := by decide +kernel
theorem dX0_enterComplaint_29 : decode cX0_enterComplaint 29 = .ok (.iload 4, 2) := by decide +kernel
theorem dX0_enterComplaint_31 : decode cX0_enterComplaint 31 = .ok (.ifCond .ne 5, 3) := by decide +kernel
theorem dX0_enterComplaint_34 : decode cX0_enterComplaint 34 = .ok (.iconst (-1), 1) := by decide +kernel
theorem dX0_enterComplaint_35 : decode cX0_enterComplaint 35 = .ok (.ireturn, 1) := by decide +kernel
theorem dX0_enterComplaint_36 : decode cX0_enterComplaint 36 = .ok (.aload_n 0, 1) := by decide +kernel
theorem dX0_enterComplaint_37 : decode cX0_enterComplaint 37 = .ok (.getfield 20, 3) := by decide +kernel
theorem dX0_enterComplaint_40 : decode cX0_enterComplaint 40 = .ok (.iload_n 1, 1) := by decide +kernel
theorem dX0_enterComplaint_41 : decode cX0_enterComplaint 41 = .ok (.iload 4, 2) := by decide +kernel
theorem dX0_enterComplaint_43 : decode cX0_enterComplaint 43 = .ok (.iastore, 1) := by decide +kernel
theorem dX0_enterComplaint_44 : decode cX0_enterComplaint 44 = .ok (.iload 4, 2) := by decide +kernel
theorem dX0_enterComplaint_46 : decode cX0_enterComplaint 46 = .ok (.ireturn, 1) := by decide +kernel
theorem dX0_complaintOf_0 : decode cX0_complaintOf 0 = .ok (.iload_n 1, 1) := by decide +kernel
theorem dX0_complaintOf_1 : decode cX0_complaintOf 1 = .ok (.invokestatic 41, 3) := by decide +kernel
theorem dX0_complaintOf_4 : decode cX0_complaintOf 4 = .ok (.ifCond .eq 12, 3) := by decide +kernel
theorem dX0_complaintOf_7 : decode cX0_complaintOf 7 = .ok (.aload_n 0, 1) := by decide +kernel
theorem dX0_complaintOf_8 : decode cX0_complaintOf 8 = .ok (.getfield 20, 3) := by decide +kernel
theorem dX0_complaintOf_11 : decode cX0_complaintOf 11 = .ok (.iload_n 1, 1) := by decide +kernel
theorem dX0_complaintOf_12 : decode cX0_complaintOf 12 = .ok (.iaload, 1) := by decide +kernel
theorem dX0_complaintOf_13 : decode cX0_complaintOf 13 = .ok (.goto 4, 3) := by decide +kernel
theorem dX0_complaintOf_16 : decode cX0_complaintOf 16 = .ok (.iconst 0, 1) := by decide +kernel
theorem dX0_complaintOf_17 : decode cX0_complaintOf 17 = .ok (.ireturn, 1) := by decide +kernel
theorem dX3_oneOf_0 : decode cX3_oneOf 0 = .ok (.iload_n 0, 1) := by decide +kernel
theorem dX3_oneOf_1 : decode cX3_oneOf 1 = .ok (.ifCond .lt 19, 3) := by decide +kernel
theorem dX3_oneOf_4 : decode cX3_oneOf 4 = .ok (.iload_n 0, 1) := by decide +kernel
theorem dX3_oneOf_5 : decode cX3_oneOf 5 = .ok (.getstatic 11, 3) := by decide +kernel
theorem dX3_oneOf_8 : decode cX3_oneOf 8 = .ok (.arraylength, 1) := by decide +kernel
theorem dX3_oneOf_9 : decode cX3_oneOf 9 = .ok (.if_icmp .ge 11, 3) := by decide +kernel
theorem dX3_oneOf_12 : decode cX3_oneOf 12 = .ok (.getstatic 11, 3) := by decide +kernel
theorem dX3_oneOf_15 : decode cX3_oneOf 15 = .ok (.iload_n 0, 1) := by decide +kernel
theorem dX3_oneOf_16 : decode cX3_oneOf 16 = .ok (.iaload, 1) := by decide +kernel
theorem dX3_oneOf_17 : decode cX3_oneOf 17 = .ok (.goto 4, 3) := by decide +kernel
theorem dX3_oneOf_20 : decode cX3_oneOf 20 = .ok (.iconst (-1), 1) := by decide +kernel
theorem dX3_oneOf_21 : decode cX3_oneOf 21 = .ok (.ireturn, 1) := by decide +kernel
theorem dX0_policyIndex_0 : decode cX0_policyIndex 0 = .ok (.iload_n 2, 1) := by decide +kernel
theorem dX0_policyIndex_1 : decode cX0_policyIndex 1 = .ok (.istore_n 3, 1) := by decide +kernel
theorem dX0_policyIndex_2 : decode cX0_policyIndex 2 = .ok (.iconst 0, 1) := by decide +kernel
theorem dX0_policyIndex_3 : decode cX0_policyIndex 3 = .ok (.istore 4, 2) := by decide +kernel
theorem dX0_policyIndex_5 : decode cX0_policyIndex 5 = .ok (.iload 4, 2) := by decide +kernel
theorem dX0_policyIndex_7 : decode cX0_policyIndex 7 = .ok (.bipush 7, 2) := by decide +kernel
theorem dX0_policyIndex_9 : decode cX0_policyIndex 9 = .ok (.if_icmp .ge 56, 3) := by decide +kernel
theorem dX0_policyIndex_12 : decode cX0_policyIndex 12 = .ok (.iload_n 3, 1) := by decide +kernel
theorem dX0_policyIndex_13 : decode cX0_policyIndex 13 = .ok (.iconst (-1), 1) := by decide +kernel
theorem dX0_policyIndex_14 : decode cX0_policyIndex 14 = .ok (.if_icmp .eq 51, 3) := by decide +kernel
theorem dX0_policyIndex_17 : decode cX0_policyIndex 17 = .ok (.iload_n 1, 1) := by decide +kernel
theorem dX0_policyIndex_18 : decode cX0_policyIndex 18 = .ok (.bipush 7, 2) := by decide +kernel
theorem dX0_policyIndex_20 : decode cX0_policyIndex 20 = .ok (.imul, 1) := by decide +kernel
theorem dX0_policyIndex_21 : decode cX0_policyIndex 21 = .ok (.iload_n 3, 1) := by decide +kernel
theorem dX0_policyIndex_22 : decode cX0_policyIndex 22 = .ok (.iadd, 1) := by decide +kernel
theorem dX0_policyIndex_23 : decode cX0_policyIndex 23 = .ok (.istore 5, 2) := by decide +kernel
theorem dX0_policyIndex_25 : decode cX0_policyIndex 25 = .ok (.iload 5, 2) := by decide +kernel
theorem dX0_policyIndex_27 : decode cX0_policyIndex 27 = .ok (.ifCond .lt 27, 3) := by decide +kernel
theorem dX0_policyIndex_30 : decode cX0_policyIndex 30 = .ok (.iload 5, 2) := by decide +kernel
theorem dX0_policyIndex_32 : decode cX0_policyIndex 32 = .ok (.aload_n 0, 1) := by decide +kernel
theorem dX0_policyIndex_33 : decode cX0_policyIndex 33 = .ok (.getfield 13, 3) := by decide +kernel
theorem dX0_policyIndex_36 : decode cX0_policyIndex 36 = .ok (.arraylength, 1) := by decide +kernel
theorem dX0_policyIndex_37 : decode cX0_policyIndex 37 = .ok (.if_icmp .ge 17, 3) := by decide +kernel
theorem dX0_policyIndex_40 : decode cX0_policyIndex 40 = .ok (.aload_n 0, 1) := by decide +kernel
theorem dX0_policyIndex_41 : decode cX0_policyIndex 41 = .ok (.getfield 13, 3) := by decide +kernel
theorem dX0_policyIndex_44 : decode cX0_policyIndex 44 = .ok (.iload 5, 2) := by decide +kernel
theorem dX0_policyIndex_46 : decode cX0_policyIndex 46 = .ok (.iaload, 1) := by decide +kernel
theorem dX0_policyIndex_47 : decode cX0_policyIndex 47 = .ok (.iconst (-1), 1) := by decide +kernel
theorem dX0_policyIndex_48 : decode cX0_policyIndex 48 = .ok (.if_icmp .eq 6, 3) := by decide +kernel
theorem dX0_policyIndex_51 : decode cX0_policyIndex 51 = .ok (.iload 5, 2) := by decide +kernel
theorem dX0_policyIndex_53 : decode cX0_policyIndex 53 = .ok (.ireturn, 1) := by decide +kernel
theorem dX0_policyIndex_54 : decode cX0_policyIndex 54 = .ok (.iload_n 3, 1) := by decide +kernel
theorem dX0_policyIndex_55 : decode cX0_policyIndex 55 = .ok (.invokestatic 54, 3) := by decide +kernel
theorem dX0_policyIndex_58 : decode cX0_policyIndex 58 = .ok (.istore_n 3, 1) := by decide +kernel
theorem dX0_policyIndex_59 : decode cX0_policyIndex 59 = .ok (.iinc 4 1, 3) := by decide +kernel
theorem dX0_policyIndex_62 : decode cX0_policyIndex 62 = .ok (.goto (-57), 3) := by decide +kernel
theorem dX0_policyIndex_65 : decode cX0_policyIndex 65 = .ok (.iconst (-1), 1) := by decide +kernel
theorem dX0_policyIndex_66 : decode cX0_policyIndex 66 = .ok (.ireturn, 1) := by decide +kernel
theorem dX8_setNumber_0 : decode cX8_setNumber 0 = .ok (.aload_n 0, 1) := by decide +kernel
theorem dX8_setNumber_1 : decode cX8_setNumber 1 = .ok (.getfield 91, 3) := by decide +kernel
theorem dX8_setNumber_4 : decode cX8_setNumber 4 = .ok (.iconst 1, 1) := by decide +kernel
theorem dX8_setNumber_5 : decode cX8_setNumber 5 = .ok (.isub, 1) := by decide +kernel
theorem dX8_setNumber_6 : decode cX8_setNumber 6 = .ok (.bipush 12, 2) := by decide +kernel
theorem dX8_setNumber_8 : decode cX8_setNumber 8 = .ok (.imul, 1) := by decide +kernel
theorem dX8_setNumber_9 : decode cX8_setNumber 9 = .ok (.iload_n 1, 1) := by decide +kernel
theorem dX8_setNumber_10 : decode cX8_setNumber 10 = .ok (.iadd, 1) := by decide +kernel
theorem dX8_setNumber_11 : decode cX8_setNumber 11 = .ok (.istore_n 3, 1) := by decide +kernel
theorem dX8_setNumber_12 : decode cX8_setNumber 12 = .ok (.iload_n 3, 1) := by decide +kernel
theorem dX8_setNumber_13 : decode cX8_setNumber 13 = .ok (.ifCond .lt 19, 3) := by decide +kernel
theorem dX8_setNumber_16 : decode cX8_setNumber 16 = .ok (.iload_n 3, 1) := by decide +kernel
theorem dX8_setNumber_17 : decode cX8_setNumber 17 = .ok (.aload_n 0, 1) := by decide +kernel
theorem dX8_setNumber_18 : decode cX8_setNumber 18 = .ok (.getfield 11, 3) := by decide +kernel
theorem dX8_setNumber_21 : decode cX8_setNumber 21 = .ok (.arraylength, 1) := by decide +kernel
theorem dX8_setNumber_22 : decode cX8_setNumber 22 = .ok (.if_icmp .ge 10, 3) := by decide +kernel
theorem dX8_setNumber_25 : decode cX8_setNumber 25 = .ok (.aload_n 0, 1) := by decide +kernel
theorem dX8_setNumber_26 : decode cX8_setNumber 26 = .ok (.getfield 11, 3) := by decide +kernel
theorem dX8_setNumber_29 : decode cX8_setNumber 29 = .ok (.iload_n 3, 1) := by decide +kernel
theorem dX8_setNumber_30 : decode cX8_setNumber 30 = .ok (.iload_n 2, 1) := by decide +kernel
theorem dX8_setNumber_31 : decode cX8_setNumber 31 = .ok (.iastore, 1) := by decide +kernel
theorem dX8_setNumber_32 : decode cX8_setNumber 32 = .ok (.return_, 1) := by decide +kernel
theorem dX8_setObject_0 : decode cX8_setObject 0 = .ok (.aload_n 0, 1) := by decide +kernel
theorem dX8_setObject_1 : decode cX8_setObject 1 = .ok (.getfield 91, 3) := by decide +kernel
theorem dX8_setObject_4 : decode cX8_setObject 4 = .ok (.iconst 1, 1) := by decide +kernel
theorem dX8_setObject_5 : decode cX8_setObject 5 = .ok (.isub, 1) := by decide +kernel
theorem dX8_setObject_6 : decode cX8_setObject 6 = .ok (.bipush 8, 2) := by decide +kernel
theorem dX8_setObject_8 : decode cX8_setObject 8 = .ok (.imul, 1) := by decide +kernel
theorem dX8_setObject_9 : decode cX8_setObject 9 = .ok (.iload_n 1, 1) := by decide +kernel
theorem dX8_setObject_10 : decode cX8_setObject 10 = .ok (.iadd, 1) := by decide +kernel
theorem dX8_setObject_11 : decode cX8_setObject 11 = .ok (.istore_n 3, 1) := by decide +kernel
theorem dX8_setObject_12 : decode cX8_setObject 12 = .ok (.iload_n 1, 1) := by decide +kernel
theorem dX8_setObject_13 : decode cX8_setObject 13 = .ok (.iconst (-1), 1) := by decide +kernel
theorem dX8_setObject_14 : decode cX8_setObject 14 = .ok (.if_icmp .eq 23, 3) := by decide +kernel
theorem dX8_setObject_17 : decode cX8_setObject 17 = .ok (.iload_n 3, 1) := by decide +kernel
theorem dX8_setObject_18 : decode cX8_setObject 18 = .ok (.ifCond .lt 19, 3) := by decide +kernel
theorem dX8_setObject_21 : decode cX8_setObject 21 = .ok (.iload_n 3, 1) := by decide +kernel
theorem dX8_setObject_22 : decode cX8_setObject 22 = .ok (.aload_n 0, 1) := by decide +kernel
theorem dX8_setObject_23 : decode cX8_setObject 23 = .ok (.getfield 15, 3) := by decide +kernel
theorem dX8_setObject_26 : decode cX8_setObject 26 = .ok (.arraylength, 1) := by decide +kernel
theorem dX8_setObject_27 : decode cX8_setObject 27 = .ok (.if_icmp .ge 10, 3) := by decide +kernel
theorem dX8_setObject_30 : decode cX8_setObject 30 = .ok (.aload_n 0, 1) := by decide +kernel
theorem dX8_setObject_31 : decode cX8_setObject 31 = .ok (.getfield 15, 3) := by decide +kernel
theorem dX8_setObject_34 : decode cX8_setObject 34 = .ok (.iload_n 3, 1) := by decide +kernel
theorem dX8_setObject_35 : decode cX8_setObject 35 = .ok (.iload_n 2, 1) := by decide +kernel
theorem dX8_setObject_36 : decode cX8_setObject 36 = .ok (.iastore, 1) := by decide +kernel
theorem dX8_setObject_37 : decode cX8_setObject 37 = .ok (.return_, 1) := by decide +kernel
theorem dX6_startOf_0 : decode cX6_startOf 0 = .ok (.iload_n 1, 1) := by decide +kernel
theorem dX6_startOf_1 : decode cX6_startOf 1 = .ok (.ifCond .lt 18, 3) := by decide +kernel
theorem dX6_startOf_4 : decode cX6_startOf 4 = .ok (.iload_n 1, 1) := by decide +kernel
theorem dX6_startOf_5 : decode cX6_startOf 5 = .ok (.bipush 16, 2) := by decide +kernel
theorem dX6_startOf_7 : decode cX6_startOf 7 = .ok (.if_icmp .ge 12, 3) := by decide +kernel
theorem dX6_startOf_10 : decode cX6_startOf 10 = .ok (.aload_n 0, 1) := by decide +kernel
theorem dX6_startOf_11 : decode cX6_startOf 11 = .ok (.getfield 11, 3) := by decide +kernel
theorem dX6_startOf_14 : decode cX6_startOf 14 = .ok (.iload_n 1, 1) := by decide +kernel
theorem dX6_startOf_15 : decode cX6_startOf 15 = .ok (.iaload, 1) := by decide +kernel
theorem dX6_startOf_16 : decode cX6_startOf 16 = .ok (.goto 4, 3) := by decide +kernel
theorem dX6_startOf_19 : decode cX6_startOf 19 = .ok (.iconst (-1), 1) := by decide +kernel
theorem dX6_startOf_20 : decode cX6_startOf 20 = .ok (.ireturn, 1) := by decide +kernel
theorem dX8_begin_0 : decode cX8_begin 0 = .ok (.aload_n 0, 1) := by decide +kernel
theorem dX8_begin_1 : decode cX8_begin 1 = .ok (.getfield 91, 3) := by decide +kernel
theorem dX8_begin_4 : decode cX8_begin 4 = .ok (.ifCond .lt 12, 3) := by decide +kernel
theorem dX8_begin_7 : decode cX8_begin 7 = .ok (.aload_n 0, 1) := by decide +kernel
theorem dX8_begin_8 : decode cX8_begin 8 = .ok (.getfield 91, 3) := by decide +kernel
theorem dX8_begin_11 : decode cX8_begin 11 = .ok (.bipush 12, 2) := by decide +kernel
theorem dX8_begin_13 : decode cX8_begin 13 = .ok (.if_icmp .lt 4, 3) := by decide +kernel
theorem dX8_begin_16 : decode cX8_begin 16 = .ok (.return_, 1) := by decide +kernel
theorem dX8_begin_17 : decode cX8_begin 17 = .ok (.aload_n 0, 1) := by decide +kernel
theorem dX8_begin_18 : decode cX8_begin 18 = .ok (.getfield 18, 3) := by decide +kernel
theorem dX8_begin_21 : decode cX8_begin 21 = .ok (.aload_n 0, 1) := by decide +kernel
theorem dX8_begin_22 : decode cX8_begin 22 = .ok (.getfield 91, 3) := by decide +kernel
theorem dX8_begin_25 : decode cX8_begin 25 = .ok (.aload_n 0, 1) := by decide +kernel
theorem dX8_begin_26 : decode cX8_begin 26 = .ok (.getfield 111, 3) := by decide +kernel
theorem dX8_begin_29 : decode cX8_begin 29 = .ok (.iastore, 1) := by decide +kernel
theorem dX8_begin_30 : decode cX8_begin 30 = .ok (.aload_n 0, 1) := by decide +kernel
theorem dX8_begin_31 : decode cX8_begin 31 = .ok (.dup, 1) := by decide +kernel
theorem dX8_begin_32 : decode cX8_begin 32 = .ok (.getfield 91, 3) := by decide +kernel
theorem dX8_begin_35 : decode cX8_begin 35 = .ok (.iconst 1, 1) := by decide +kernel
theorem dX8_begin_36 : decode cX8_begin 36 = .ok (.iadd, 1) := by decide +kernel
theorem dX8_begin_37 : decode cX8_begin 37 = .ok (.putfield 91, 3) := by decide +kernel
theorem dX8_begin_40 : decode cX8_begin 40 = .ok (.iconst 0, 1) := by decide +kernel
theorem dX8_begin_41 : decode cX8_begin 41 = .ok (.istore_n 2, 1) := by decide +kernel
theorem dX8_begin_42 : decode cX8_begin 42 = .ok (.iload_n 2, 1) := by decide +kernel
theorem dX8_begin_43 : decode cX8_begin 43 = .ok (.bipush 12, 2) := by decide +kernel
theorem dX8_begin_45 : decode cX8_begin 45 = .ok (.if_icmp .ge 15, 3) := by decide +kernel
theorem dX8_begin_48 : decode cX8_begin 48 = .ok (.aload_n 0, 1) := by decide +kernel
theorem dX8_begin_49 : decode cX8_begin 49 = .ok (.iload_n 2, 1) := by decide +kernel
theorem dX8_begin_50 : decode cX8_begin 50 = .ok (.iconst 0, 1) := by decide +kernel
theorem dX8_begin_51 : decode cX8_begin 51 = .ok (.invokevirtual 107, 3) := by decide +kernel
theorem dX8_begin_54 : decode cX8_begin 54 = .ok (.iinc 2 1, 3) := by decide +kernel
theorem dX8_begin_57 : decode cX8_begin 57 = .ok (.goto (-15), 3) := by decide +kernel
theorem dX8_begin_60 : decode cX8_begin 60 = .ok (.iconst 0, 1) := by decide +kernel
theorem dX8_begin_61 : decode cX8_begin 61 = .ok (.istore_n 2, 1) := by decide +kernel
theorem dX8_begin_62 : decode cX8_begin 62 = .ok (.iload_n 2, 1) := by decide +kernel
theorem dX8_begin_63 : decode cX8_begin 63 = .ok (.bipush 8, 2) := by decide +kernel
theorem dX8_begin_65 : decode cX8_begin 65 = .ok (.if_icmp .ge 15, 3) := by decide +kernel
theorem dX8_begin_68 : decode cX8_begin 68 = .ok (.aload_n 0, 1) := by decide +kernel
theorem dX8_begin_69 : decode cX8_begin 69 = .ok (.iload_n 2, 1) := by decide +kernel
theorem dX8_begin_70 : decode cX8_begin 70 = .ok (.iconst 0, 1) := by decide +kernel
theorem dX8_begin_71 : decode cX8_begin 71 = .ok (.invokevirtual 144, 3) := by decide +kernel
theorem dX8_begin_74 : decode cX8_begin 74 = .ok (.iinc 2 1, 3) := by decide +kernel
theorem dX8_begin_77 : decode cX8_begin 77 = .ok (.goto (-15), 3) := by decide +kernel
theorem dX8_begin_80 : decode cX8_begin 80 = .ok (.aload_n 0, 1) := by decide +kernel
theorem dX8_begin_81 : decode cX8_begin 81 = .ok (.aload_n 0, 1) := by decide +kernel
theorem dX8_begin_82 : decode cX8_begin 82 = .ok (.getfield 32, 3) := by decide +kernel
theorem dX8_begin_85 : decode cX8_begin 85 = .ok (.iload_n 1, 1) := by decide +kernel
theorem dX8_begin_86 : decode cX8_begin 86 = .ok (.invokevirtual 210, 3) := by decide +kernel
theorem dX8_begin_89 : decode cX8_begin 89 = .ok (.putfield 111, 3) := by decide +kernel
theorem dX8_begin_92 : decode cX8_begin 92 = .ok (.aload_n 0, 1) := by decide +kernel
theorem dX8_begin_93 : decode cX8_begin 93 = .ok (.getfield 40, 3) := by decide +kernel
theorem dX8_begin_96 : decode cX8_begin 96 = .ok (.dup, 1) := by decide +kernel
theorem dX8_begin_97 : decode cX8_begin 97 = .ok (.getfield 213, 3) := by decide +kernel
theorem dX8_begin_100 : decode cX8_begin 100 = .ok (.iconst 1, 1) := by decide +kernel
theorem dX8_begin_101 : decode cX8_begin 101 = .ok (.iadd, 1) := by decide +kernel
theorem dX8_begin_102 : decode cX8_begin 102 = .ok (.putfield 213, 3) := by decide +kernel
theorem dX8_begin_105 : decode cX8_begin 105 = .ok (.return_, 1) := by decide +kernel
theorem dX6_parametersOf_0 : decode cX6_parametersOf 0 = .ok (.iload_n 1, 1) := by decide +kernel
theorem dX6_parametersOf_1 : decode cX6_parametersOf 1 = .ok (.ifCond .lt 18, 3) := by decide +kernel
theorem dX6_parametersOf_4 : decode cX6_parametersOf 4 = .ok (.iload_n 1, 1) := by decide +kernel
theorem dX6_parametersOf_5 : decode cX6_parametersOf 5 = .ok (.bipush 16, 2) := by decide +kernel
theorem dX6_parametersOf_7 : decode cX6_parametersOf 7 = .ok (.if_icmp .ge 12, 3) := by decide +kernel
theorem dX6_parametersOf_10 : decode cX6_parametersOf 10 = .ok (.aload_n 0, 1) := by decide +kernel
theorem dX6_parametersOf_11 : decode cX6_parametersOf 11 = .ok (.getfield 15, 3) := by decide +kernel
theorem dX6_parametersOf_14 : decode cX6_parametersOf 14 = .ok (.iload_n 1, 1) := by decide +kernel
theorem dX6_parametersOf_15 : decode cX6_parametersOf 15 = .ok (.iaload, 1) := by decide +kernel
theorem dX6_parametersOf_16 : decode cX6_parametersOf 16 = .ok (.goto 4, 3) := by decide +kernel
theorem dX6_parametersOf_19 : decode cX6_parametersOf 19 = .ok (.iconst (-1), 1) := by decide +kernel
theorem dX6_parametersOf_20 : decode cX6_parametersOf 20 = .ok (.ireturn, 1) := by decide +kernel
theorem dX8_start_0 : decode cX8_start 0 = .ok (.aload_n 0, 1) := by decide +kernel
theorem dX8_start_1 : decode cX8_start 1 = .ok (.iconst 0, 1) := by decide +kernel
theorem dX8_start_2 : decode cX8_start 2 = .ok (.putfield 53, 3) := by decide +kernel
theorem dX8_start_5 : decode cX8_start 5 = .ok (.aload_n 0, 1) := by decide +kernel
theorem dX8_start_6 : decode cX8_start 6 = .ok (.iconst 0, 1) := by decide +kernel
theorem dX8_start_7 : decode cX8_start 7 = .ok (.putfield 91, 3) := by decide +kernel
theorem dX8_start_10 : decode cX8_start 10 = .ok (.aload_n 0, 1) := by decide +kernel
theorem dX8_start_11 : decode cX8_start 11 = .ok (.iconst 0, 1) := by decide +kernel
theorem dX8_start_12 : decode cX8_start 12 = .ok (.putfield 94, 3) := by decide +kernel
theorem dX8_start_15 : decode cX8_start 15 = .ok (.aload_n 0, 1) := by decide +kernel
theorem dX8_start_16 : decode cX8_start 16 = .ok (.iconst 0, 1) := by decide +kernel
theorem dX8_start_17 : decode cX8_start 17 = .ok (.putfield 97, 3) := by decide +kernel
theorem dX8_start_20 : decode cX8_start 20 = .ok (.aload_n 0, 1) := by decide +kernel
theorem dX8_start_21 : decode cX8_start 21 = .ok (.iconst 0, 1) := by decide +kernel
theorem dX8_start_22 : decode cX8_start 22 = .ok (.putfield 74, 3) := by decide +kernel
theorem dX8_start_25 : decode cX8_start 25 = .ok (.aload_n 0, 1) := by decide +kernel
theorem dX8_start_26 : decode cX8_start 26 = .ok (.iload_n 1, 1) := by decide +kernel
theorem dX8_start_27 : decode cX8_start 27 = .ok (.invokevirtual 100, 3) := by decide +kernel
theorem dX8_start_30 : decode cX8_start 30 = .ok (.aload_n 0, 1) := by decide +kernel
theorem dX8_start_31 : decode cX8_start 31 = .ok (.getfield 32, 3) := by decide +kernel
theorem dX8_start_34 : decode cX8_start 34 = .ok (.iload_n 1, 1) := by decide +kernel
theorem dX8_start_35 : decode cX8_start 35 = .ok (.invokevirtual 103, 3) := by decide +kernel
theorem dX8_start_38 : decode cX8_start 38 = .ok (.ifCond .le 9, 3) := by decide +kernel
theorem dX8_start_41 : decode cX8_start 41 = .ok (.aload_n 0, 1) := by decide +kernel
theorem dX8_start_42 : decode cX8_start 42 = .ok (.iconst 0, 1) := by decide +kernel
theorem dX8_start_43 : decode cX8_start 43 = .ok (.iload_n 2, 1) := by decide +kernel
theorem dX8_start_44 : decode cX8_start 44 = .ok (.invokevirtual 107, 3) := by decide +kernel
theorem dX8_start_47 : decode cX8_start 47 = .ok (.aload_n 0, 1) := by decide +kernel
theorem dX8_start_48 : decode cX8_start 48 = .ok (.getfield 32, 3) := by decide +kernel
theorem dX8_start_51 : decode cX8_start 51 = .ok (.iload_n 1, 1) := by decide +kernel
theorem dX8_start_52 : decode cX8_start 52 = .ok (.invokevirtual 103, 3) := by decide +kernel
theorem dX8_start_55 : decode cX8_start 55 = .ok (.iconst 1, 1) := by decide +kernel
theorem dX8_start_56 : decode cX8_start 56 = .ok (.if_icmp .le 9, 3) := by decide +kernel
theorem dX8_start_59 : decode cX8_start 59 = .ok (.aload_n 0, 1) := by decide +kernel
theorem dX8_start_60 : decode cX8_start 60 = .ok (.iconst 1, 1) := by decide +kernel
theorem dX8_start_61 : decode cX8_start 61 = .ok (.iload_n 3, 1) := by decide +kernel
theorem dX8_start_62 : decode cX8_start 62 = .ok (.invokevirtual 107, 3) := by decide +kernel
theorem dX8_start_65 : decode cX8_start 65 = .ok (.return_, 1) := by decide +kernel
theorem dX6_get_0 : decode cX6_get 0 = .ok (.iload_n 1, 1) := by decide +kernel
theorem dX6_get_1 : decode cX6_get 1 = .ok (.ifCond .lt 20, 3) := by decide +kernel
theorem dX6_get_4 : decode cX6_get 4 = .ok (.iload_n 1, 1) := by decide +kernel
theorem dX6_get_5 : decode cX6_get 5 = .ok (.aload_n 0, 1) := by decide +kernel
theorem dX6_get_6 : decode cX6_get 6 = .ok (.getfield 21, 3) := by decide +kernel
theorem dX6_get_9 : decode cX6_get 9 = .ok (.if_icmp .ge 12, 3) := by decide +kernel
theorem dX6_get_12 : decode cX6_get 12 = .ok (.aload_n 0, 1) := by decide +kernel
theorem dX6_get_13 : decode cX6_get 13 = .ok (.getfield 18, 3) := by decide +kernel
theorem dX6_get_16 : decode cX6_get 16 = .ok (.iload_n 1, 1) := by decide +kernel
theorem dX6_get_17 : decode cX6_get 17 = .ok (.iaload, 1) := by decide +kernel
theorem dX6_get_18 : decode cX6_get 18 = .ok (.goto 4, 3) := by decide +kernel
theorem dX6_get_21 : decode cX6_get 21 = .ok (.iconst (-1), 1) := by decide +kernel
theorem dX6_get_22 : decode cX6_get 22 = .ok (.ireturn, 1) := by decide +kernel
theorem dX8_fetch_0 : decode cX8_fetch 0 = .ok (.aload_n 0, 1) := by decide +kernel
theorem dX8_fetch_1 : decode cX8_fetch 1 = .ok (.getfield 32, 3) := by decide +kernel
theorem dX8_fetch_4 : decode cX8_fetch 4 = .ok (.aload_n 0, 1) := by decide +kernel
theorem dX8_fetch_5 : decode cX8_fetch 5 = .ok (.getfield 111, 3) := by decide +kernel
theorem dX8_fetch_8 : decode cX8_fetch 8 = .ok (.invokevirtual 114, 3) := by decide +kernel
theorem dX8_fetch_11 : decode cX8_fetch 11 = .ok (.istore_n 1, 1) := by decide +kernel
theorem dX8_fetch_12 : decode cX8_fetch 12 = .ok (.aload_n 0, 1) := by decide +kernel
theorem dX8_fetch_13 : decode cX8_fetch 13 = .ok (.dup, 1) := by decide +kernel
theorem dX8_fetch_14 : decode cX8_fetch 14 = .ok (.getfield 111, 3) := by decide +kernel
theorem dX8_fetch_17 : decode cX8_fetch 17 = .ok (.iconst 1, 1) := by decide +kernel
theorem dX8_fetch_18 : decode cX8_fetch 18 = .ok (.iadd, 1) := by decide +kernel
theorem dX8_fetch_19 : decode cX8_fetch 19 = .ok (.putfield 111, 3) := by decide +kernel
theorem dX8_fetch_22 : decode cX8_fetch 22 = .ok (.iload_n 1, 1) := by decide +kernel
theorem dX8_fetch_23 : decode cX8_fetch 23 = .ok (.ireturn, 1) := by decide +kernel
theorem dX8_countStep_0 : decode cX8_countStep 0 = .ok (.aload_n 0, 1) := by decide +kernel
theorem dX8_countStep_1 : decode cX8_countStep 1 = .ok (.getfield 40, 3) := by decide +kernel
theorem dX8_countStep_4 : decode cX8_countStep 4 = .ok (.getfield 207, 3) := by decide +kernel
theorem dX8_countStep_7 : decode cX8_countStep 7 = .ok (.aload_n 0, 1) := by decide +kernel
theorem dX8_countStep_8 : decode cX8_countStep 8 = .ok (.getfield 44, 3) := by decide +kernel
theorem dX8_countStep_11 : decode cX8_countStep 11 = .ok (.if_icmp .lt 11, 3) := by decide +kernel
theorem dX8_countStep_14 : decode cX8_countStep 14 = .ok (.aload_n 0, 1) := by decide +kernel
theorem dX8_countStep_15 : decode cX8_countStep 15 = .ok (.iconst 3, 1) := by decide +kernel
theorem dX8_countStep_16 : decode cX8_countStep 16 = .ok (.putfield 53, 3) := by decide +kernel
theorem dX8_countStep_19 : decode cX8_countStep 19 = .ok (.goto 16, 3) := by decide +kernel
theorem dX8_countStep_22 : decode cX8_countStep 22 = .ok (.aload_n 0, 1) := by decide +kernel
theorem dX8_countStep_23 : decode cX8_countStep 23 = .ok (.getfield 40, 3) := by decide +kernel
theorem dX8_countStep_26 : decode cX8_countStep 26 = .ok (.dup, 1) := by decide +kernel
theorem dX8_countStep_27 : decode cX8_countStep 27 = .ok (.getfield 207, 3) := by decide +kernel
theorem dX8_countStep_30 : decode cX8_countStep 30 = .ok (.iconst 1, 1) := by decide +kernel
theorem dX8_countStep_31 : decode cX8_countStep 31 = .ok (.iadd, 1) := by decide +kernel
theorem dX8_countStep_32 : decode cX8_countStep 32 = .ok (.putfield 207, 3) := by decide +kernel
theorem dX8_countStep_35 : decode cX8_countStep 35 = .ok (.return_, 1) := by decide +kernel
theorem dX8_pop_0 : decode cX8_pop 0 = .ok (.aload_n 0, 1) := by decide +kernel
theorem dX8_pop_1 : decode cX8_pop 1 = .ok (.getfield 97, 3) := by decide +kernel
theorem dX8_pop_4 : decode cX8_pop 4 = .ok (.ifCond .le 15, 3) := by decide +kernel
theorem dX8_pop_7 : decode cX8_pop 7 = .ok (.aload_n 0, 1) := by decide +kernel
theorem dX8_pop_8 : decode cX8_pop 8 = .ok (.getfield 97, 3) := by decide +kernel
theorem dX8_pop_11 : decode cX8_pop 11 = .ok (.aload_n 0, 1) := by decide +kernel
theorem dX8_pop_12 : decode cX8_pop 12 = .ok (.getfield 24, 3) := by decide +kernel
theorem dX8_pop_15 : decode cX8_pop 15 = .ok (.arraylength, 1) := by decide +kernel
theorem dX8_pop_16 : decode cX8_pop 16 = .ok (.if_icmp .le 5, 3) := by decide +kernel
theorem dX8_pop_19 : decode cX8_pop 19 = .ok (.iconst 0, 1) := by decide +kernel
theorem dX8_pop_20 : decode cX8_pop 20 = .ok (.ireturn, 1) := by decide +kernel
theorem dX8_pop_21 : decode cX8_pop 21 = .ok (.aload_n 0, 1) := by decide +kernel
theorem dX8_pop_22 : decode cX8_pop 22 = .ok (.dup, 1) := by decide +kernel
theorem dX8_pop_23 : decode cX8_pop 23 = .ok (.getfield 97, 3) := by decide +kernel
theorem dX8_pop_26 : decode cX8_pop 26 = .ok (.iconst 1, 1) := by decide +kernel
theorem dX8_pop_27 : decode cX8_pop 27 = .ok (.isub, 1) := by decide +kernel
theorem dX8_pop_28 : decode cX8_pop 28 = .ok (.putfield 97, 3) := by decide +kernel
theorem dX8_pop_31 : decode cX8_pop 31 = .ok (.aload_n 0, 1) := by decide +kernel
theorem dX8_pop_32 : decode cX8_pop 32 = .ok (.getfield 24, 3) := by decide +kernel
theorem dX8_pop_35 : decode cX8_pop 35 = .ok (.aload_n 0, 1) := by decide +kernel
theorem dX8_pop_36 : decode cX8_pop 36 = .ok (.getfield 97, 3) := by decide +kernel
theorem dX8_pop_39 : decode cX8_pop 39 = .ok (.iaload, 1) := by decide +kernel
theorem dX8_pop_40 : decode cX8_pop 40 = .ok (.ireturn, 1) := by decide +kernel
theorem dX5_putNote_0 : decode cX5_putNote 0 = .ok (.aload_n 0, 1) := by decide +kernel
theorem dX5_putNote_1 : decode cX5_putNote 1 = .ok (.getfield 22, 3) := by decide +kernel
theorem dX5_putNote_4 : decode cX5_putNote 4 = .ok (.aload_n 0, 1) := by decide +kernel
theorem dX5_putNote_5 : decode cX5_putNote 5 = .ok (.getfield 11, 3) := by decide +kernel
theorem dX5_putNote_8 : decode cX5_putNote 8 = .ok (.arraylength, 1) := by decide +kernel
theorem dX5_putNote_9 : decode cX5_putNote 9 = .ok (.if_icmp .lt 5, 3) := by decide +kernel
theorem dX5_putNote_12 : decode cX5_putNote 12 = .ok (.iconst 0, 1) := by decide +kernel
theorem dX5_putNote_13 : decode cX5_putNote 13 = .ok (.ireturn, 1) := by decide +kernel
theorem dX5_putNote_14 : decode cX5_putNote 14 = .ok (.aload_n 0, 1) := by decide +kernel
theorem dX5_putNote_15 : decode cX5_putNote 15 = .ok (.getfield 11, 3) := by decide +kernel
theorem dX5_putNote_18 : decode cX5_putNote 18 = .ok (.aload_n 0, 1) := by decide +kernel
theorem dX5_putNote_19 : decode cX5_putNote 19 = .ok (.getfield 22, 3) := by decide +kernel
theorem dX5_putNote_22 : decode cX5_putNote 22 = .ok (.iload_n 1, 1) := by decide +kernel
theorem dX5_putNote_23 : decode cX5_putNote 23 = .ok (.iastore, 1) := by decide +kernel
theorem dX5_putNote_24 : decode cX5_putNote 24 = .ok (.aload_n 0, 1) := by decide +kernel
theorem dX5_putNote_25 : decode cX5_putNote 25 = .ok (.dup, 1) := by decide +kernel
theorem dX5_putNote_26 : decode cX5_putNote 26 = .ok (.getfield 22, 3) := by decide +kernel
theorem dX5_putNote_29 : decode cX5_putNote 29 = .ok (.iconst 1, 1) := by decide +kernel
theorem dX5_putNote_30 : decode cX5_putNote 30 = .ok (.iadd, 1) := by decide +kernel
theorem dX5_putNote_31 : decode cX5_putNote 31 = .ok (.putfield 22, 3) := by decide +kernel
theorem dX5_putNote_34 : decode cX5_putNote 34 = .ok (.iconst 1, 1) := by decide +kernel
theorem dX5_putNote_35 : decode cX5_putNote 35 = .ok (.ireturn, 1) := by decide +kernel
theorem dX8_putNote_0 : decode cX8_putNote 0 = .ok (.aload_n 0, 1) := by decide +kernel
theorem dX8_putNote_1 : decode cX8_putNote 1 = .ok (.getfield 40, 3) := by decide +kernel
theorem dX8_putNote_4 : decode cX8_putNote 4 = .ok (.iload_n 1, 1) := by decide +kernel
theorem dX8_putNote_5 : decode cX8_putNote 5 = .ok (.invokevirtual 188, 3) := by decide +kernel
theorem dX8_putNote_8 : decode cX8_putNote 8 = .ok (.ifCond .ne 8, 3) := by decide +kernel
theorem dX8_putNote_11 : decode cX8_putNote 11 = .ok (.aload_n 0, 1) := by decide +kernel
theorem dX8_putNote_12 : decode cX8_putNote 12 = .ok (.iconst 3, 1) := by decide +kernel
theorem dX8_putNote_13 : decode cX8_putNote 13 = .ok (.putfield 53, 3) := by decide +kernel
theorem dX8_putNote_16 : decode cX8_putNote 16 = .ok (.return_, 1) := by decide +kernel
theorem dX8_hear_0 : decode cX8_hear 0 = .ok (.aload_n 0, 1) := by decide +kernel
theorem dX8_hear_1 : decode cX8_hear 1 = .ok (.invokevirtual 56, 3) := by decide +kernel
theorem dX8_hear_4 : decode cX8_hear 4 = .ok (.istore_n 1, 1) := by decide +kernel
theorem dX8_hear_5 : decode cX8_hear 5 = .ok (.aload_n 0, 1) := by decide +kernel
theorem dX8_hear_6 : decode cX8_hear 6 = .ok (.invokevirtual 56, 3) := by decide +kernel
theorem dX8_hear_9 : decode cX8_hear 9 = .ok (.istore_n 2, 1) := by decide +kernel
theorem dX8_hear_10 : decode cX8_hear 10 = .ok (.aload_n 0, 1) := by decide +kernel
theorem dX8_hear_11 : decode cX8_hear 11 = .ok (.getfield 91, 3) := by decide +kernel
theorem dX8_hear_14 : decode cX8_hear 14 = .ok (.bipush 12, 2) := by decide +kernel
theorem dX8_hear_16 : decode cX8_hear 16 = .ok (.if_icmp .lt 9, 3) := by decide +kernel
theorem dX8_hear_19 : decode cX8_hear 19 = .ok (.aload_n 0, 1) := by decide +kernel
theorem dX8_hear_20 : decode cX8_hear 20 = .ok (.iconst 3, 1) := by decide +kernel
theorem dX8_hear_21 : decode cX8_hear 21 = .ok (.putfield 53, 3) := by decide +kernel
theorem dX8_hear_24 : decode cX8_hear 24 = .ok (.return_, 1) := by decide +kernel
theorem dX8_hear_25 : decode cX8_hear 25 = .ok (.aload_n 0, 1) := by decide +kernel
theorem dX8_hear_26 : decode cX8_hear 26 = .ok (.iload_n 1, 1) := by decide +kernel
theorem dX8_hear_27 : decode cX8_hear 27 = .ok (.invokevirtual 100, 3) := by decide +kernel
theorem dX8_hear_30 : decode cX8_hear 30 = .ok (.iload_n 2, 1) := by decide +kernel
theorem dX8_hear_31 : decode cX8_hear 31 = .ok (.iconst 1, 1) := by decide +kernel
theorem dX8_hear_32 : decode cX8_hear 32 = .ok (.isub, 1) := by decide +kernel
theorem dX8_hear_33 : decode cX8_hear 33 = .ok (.istore_n 3, 1) := by decide +kernel
theorem dX8_hear_34 : decode cX8_hear 34 = .ok (.iload_n 3, 1) := by decide +kernel
theorem dX8_hear_35 : decode cX8_hear 35 = .ok (.ifCond .lt 18, 3) := by decide +kernel
theorem dX8_hear_38 : decode cX8_hear 38 = .ok (.aload_n 0, 1) := by decide +kernel
theorem dX8_hear_39 : decode cX8_hear 39 = .ok (.iload_n 3, 1) := by decide +kernel
theorem dX8_hear_40 : decode cX8_hear 40 = .ok (.aload_n 0, 1) := by decide +kernel
theorem dX8_hear_41 : decode cX8_hear 41 = .ok (.invokevirtual 117, 3) := by decide +kernel
theorem dX8_hear_44 : decode cX8_hear 44 = .ok (.invokevirtual 107, 3) := by decide +kernel
theorem dX8_hear_47 : decode cX8_hear 47 = .ok (.iinc 3 (-1), 3) := by decide +kernel
theorem dX8_hear_50 : decode cX8_hear 50 = .ok (.goto (-16), 3) := by decide +kernel
theorem dX8_hear_53 : decode cX8_hear 53 = .ok (.return_, 1) := by decide +kernel
theorem dX8_tryField_0 : decode cX8_tryField 0 = .ok (.iload_n 1, 1) := by decide +kernel
theorem dX8_tryField_1 : decode cX8_tryField 1 = .ok (.iconst 5, 1) := by decide +kernel
theorem dX8_tryField_2 : decode cX8_tryField 2 = .ok (.imul, 1) := by decide +kernel
theorem dX8_tryField_3 : decode cX8_tryField 3 = .ok (.iload_n 2, 1) := by decide +kernel
theorem dX8_tryField_4 : decode cX8_tryField 4 = .ok (.iadd, 1) := by decide +kernel
theorem dX8_tryField_5 : decode cX8_tryField 5 = .ok (.istore_n 3, 1) := by decide +kernel
theorem dX8_tryField_6 : decode cX8_tryField 6 = .ok (.iload_n 3, 1) := by decide +kernel
theorem dX8_tryField_7 : decode cX8_tryField 7 = .ok (.ifCond .lt 21, 3) := by decide +kernel
theorem dX8_tryField_10 : decode cX8_tryField 10 = .ok (.iload_n 3, 1) := by decide +kernel
theorem dX8_tryField_11 : decode cX8_tryField 11 = .ok (.aload_n 0, 1) := by decide +kernel
theorem dX8_tryField_12 : decode cX8_tryField 12 = .ok (.getfield 21, 3) := by decide +kernel
theorem dX8_tryField_15 : decode cX8_tryField 15 = .ok (.arraylength, 1) := by decide +kernel
theorem dX8_tryField_16 : decode cX8_tryField 16 = .ok (.if_icmp .ge 12, 3) := by decide +kernel
theorem dX8_tryField_19 : decode cX8_tryField 19 = .ok (.aload_n 0, 1) := by decide +kernel
theorem dX8_tryField_20 : decode cX8_tryField 20 = .ok (.getfield 21, 3) := by decide +kernel
theorem dX8_tryField_23 : decode cX8_tryField 23 = .ok (.iload_n 3, 1) := by decide +kernel
theorem dX8_tryField_24 : decode cX8_tryField 24 = .ok (.iaload, 1) := by decide +kernel
theorem dX8_tryField_25 : decode cX8_tryField 25 = .ok (.goto 4, 3) := by decide +kernel
theorem dX8_tryField_28 : decode cX8_tryField 28 = .ok (.iconst (-1), 1) := by decide +kernel
theorem dX8_tryField_29 : decode cX8_tryField 29 = .ok (.ireturn, 1) := by decide +kernel
theorem dX8_setTryField_0 : decode cX8_setTryField 0 = .ok (.iload_n 1, 1) := by decide +kernel
theorem dX8_setTryField_1 : decode cX8_setTryField 1 = .ok (.iconst 5, 1) := by decide +kernel
theorem dX8_setTryField_2 : decode cX8_setTryField 2 = .ok (.imul, 1) := by decide +kernel
theorem dX8_setTryField_3 : decode cX8_setTryField 3 = .ok (.iload_n 2, 1) := by decide +kernel
theorem dX8_setTryField_4 : decode cX8_setTryField 4 = .ok (.iadd, 1) := by decide +kernel
theorem dX8_setTryField_5 : decode cX8_setTryField 5 = .ok (.istore 4, 2) := by decide +kernel
theorem dX8_setTryField_7 : decode cX8_setTryField 7 = .ok (.iload 4, 2) := by decide +kernel
theorem dX8_setTryField_9 : decode cX8_setTryField 9 = .ok (.ifCond .lt 21, 3) := by decide +kernel
theorem dX8_setTryField_12 : decode cX8_setTryField 12 = .ok (.iload 4, 2) := by decide +kernel
theorem dX8_setTryField_14 : decode cX8_setTryField 14 = .ok (.aload_n 0, 1) := by decide +kernel
theorem dX8_setTryField_15 : decode cX8_setTryField 15 = .ok (.getfield 21, 3) := by decide +kernel
theorem dX8_setTryField_18 : decode cX8_setTryField 18 = .ok (.arraylength, 1) := by decide +kernel
theorem dX8_setTryField_19 : decode cX8_setTryField 19 = .ok (.if_icmp .ge 11, 3) := by decide +kernel
theorem dX8_setTryField_22 : decode cX8_setTryField 22 = .ok (.aload_n 0, 1) := by decide +kernel
theorem dX8_setTryField_23 : decode cX8_setTryField 23 = .ok (.getfield 21, 3) := by decide +kernel
theorem dX8_setTryField_26 : decode cX8_setTryField 26 = .ok (.iload 4, 2) := by decide +kernel
theorem dX8_setTryField_28 : decode cX8_setTryField 28 = .ok (.iload_n 3, 1) := by decide +kernel
theorem dX8_setTryField_29 : decode cX8_setTryField 29 = .ok (.iastore, 1) := by decide +kernel
theorem dX8_setTryField_30 : decode cX8_setTryField 30 = .ok (.return_, 1) := by decide +kernel
theorem dX8_doLastly_0 : decode cX8_doLastly 0 = .ok (.aload_n 0, 1) := by decide +kernel
theorem dX8_doLastly_1 : decode cX8_doLastly 1 = .ok (.getfield 94, 3) := by decide +kernel
theorem dX8_doLastly_4 : decode cX8_doLastly 4 = .ok (.iconst 1, 1) := by decide +kernel
theorem dX8_doLastly_5 : decode cX8_doLastly 5 = .ok (.isub, 1) := by decide +kernel
theorem dX8_doLastly_6 : decode cX8_doLastly 6 = .ok (.istore_n 3, 1) := by decide +kernel
theorem dX8_doLastly_7 : decode cX8_doLastly 7 = .ok (.aload_n 0, 1) := by decide +kernel
theorem dX8_doLastly_8 : decode cX8_doLastly 8 = .ok (.aload_n 0, 1) := by decide +kernel
theorem dX8_doLastly_9 : decode cX8_doLastly 9 = .ok (.iload_n 3, 1) := by decide +kernel
theorem dX8_doLastly_10 : decode cX8_doLastly 10 = .ok (.iconst 2, 1) := by decide +kernel
theorem dX8_doLastly_11 : decode cX8_doLastly 11 = .ok (.invokevirtual 219, 3) := by decide +kernel
theorem dX8_doLastly_14 : decode cX8_doLastly 14 = .ok (.putfield 111, 3) := by decide +kernel
theorem dX8_doLastly_17 : decode cX8_doLastly 17 = .ok (.aload_n 0, 1) := by decide +kernel
theorem dX8_doLastly_18 : decode cX8_doLastly 18 = .ok (.aload_n 0, 1) := by decide +kernel
theorem dX8_doLastly_19 : decode cX8_doLastly 19 = .ok (.iload_n 3, 1) := by decide +kernel
theorem dX8_doLastly_20 : decode cX8_doLastly 20 = .ok (.iconst 0, 1) := by decide +kernel
theorem dX8_doLastly_21 : decode cX8_doLastly 21 = .ok (.invokevirtual 219, 3) := by decide +kernel
theorem dX8_doLastly_24 : decode cX8_doLastly 24 = .ok (.putfield 91, 3) := by decide +kernel
theorem dX8_doLastly_27 : decode cX8_doLastly 27 = .ok (.aload_n 0, 1) := by decide +kernel
theorem dX8_doLastly_28 : decode cX8_doLastly 28 = .ok (.iconst 0, 1) := by decide +kernel
theorem dX8_doLastly_29 : decode cX8_doLastly 29 = .ok (.putfield 97, 3) := by decide +kernel
theorem dX8_doLastly_32 : decode cX8_doLastly 32 = .ok (.aload_n 0, 1) := by decide +kernel
theorem dX8_doLastly_33 : decode cX8_doLastly 33 = .ok (.iload_n 3, 1) := by decide +kernel
theorem dX8_doLastly_34 : decode cX8_doLastly 34 = .ok (.iconst 1, 1) := by decide +kernel
theorem dX8_doLastly_35 : decode cX8_doLastly 35 = .ok (.iconst (-1), 1) := by decide +kernel
theorem dX8_doLastly_36 : decode cX8_doLastly 36 = .ok (.invokevirtual 216, 3) := by decide +kernel
theorem dX8_doLastly_39 : decode cX8_doLastly 39 = .ok (.aload_n 0, 1) := by decide +kernel
theorem dX8_doLastly_40 : decode cX8_doLastly 40 = .ok (.iload_n 3, 1) := by decide +kernel
theorem dX8_doLastly_41 : decode cX8_doLastly 41 = .ok (.iconst 2, 1) := by decide +kernel
theorem dX8_doLastly_42 : decode cX8_doLastly 42 = .ok (.iconst (-1), 1) := by decide +kernel
theorem dX8_doLastly_43 : decode cX8_doLastly 43 = .ok (.invokevirtual 216, 3) := by decide +kernel
theorem dX8_doLastly_46 : decode cX8_doLastly 46 = .ok (.aload_n 0, 1) := by decide +kernel
theorem dX8_doLastly_47 : decode cX8_doLastly 47 = .ok (.iload_n 3, 1) := by decide +kernel
theorem dX8_doLastly_48 : decode cX8_doLastly 48 = .ok (.iconst 3, 1) := by decide +kernel
theorem dX8_doLastly_49 : decode cX8_doLastly 49 = .ok (.iload_n 1, 1) := by decide +kernel
theorem dX8_doLastly_50 : decode cX8_doLastly 50 = .ok (.invokevirtual 216, 3) := by decide +kernel
theorem dX8_doLastly_53 : decode cX8_doLastly 53 = .ok (.aload_n 0, 1) := by decide +kernel
theorem dX8_doLastly_54 : decode cX8_doLastly 54 = .ok (.iload_n 3, 1) := by decide +kernel
theorem dX8_doLastly_55 : decode cX8_doLastly 55 = .ok (.iconst 4, 1) := by decide +kernel
theorem dX8_doLastly_56 : decode cX8_doLastly 56 = .ok (.iload_n 2, 1) := by decide +kernel
theorem dX8_doLastly_57 : decode cX8_doLastly 57 = .ok (.invokevirtual 216, 3) := by decide +kernel
theorem dX8_doLastly_60 : decode cX8_doLastly 60 = .ok (.return_, 1) := by decide +kernel
theorem dX8_push_0 : decode cX8_push 0 = .ok (.aload_n 0, 1) := by decide +kernel
theorem dX8_push_1 : decode cX8_push 1 = .ok (.getfield 97, 3) := by decide +kernel
theorem dX8_push_4 : decode cX8_push 4 = .ok (.aload_n 0, 1) := by decide +kernel
theorem dX8_push_5 : decode cX8_push 5 = .ok (.getfield 24, 3) := by decide +kernel
theorem dX8_push_8 : decode cX8_push 8 = .ok (.arraylength, 1) := by decide +kernel
theorem dX8_push_9 : decode cX8_push 9 = .ok (.if_icmp .ge 23, 3) := by decide +kernel
theorem dX8_push_12 : decode cX8_push 12 = .ok (.aload_n 0, 1) := by decide +kernel
theorem dX8_push_13 : decode cX8_push 13 = .ok (.getfield 24, 3) := by decide +kernel
theorem dX8_push_16 : decode cX8_push 16 = .ok (.aload_n 0, 1) := by decide +kernel
theorem dX8_push_17 : decode cX8_push 17 = .ok (.getfield 97, 3) := by decide +kernel
theorem dX8_push_20 : decode cX8_push 20 = .ok (.iload_n 1, 1) := by decide +kernel
theorem dX8_push_21 : decode cX8_push 21 = .ok (.iastore, 1) := by decide +kernel
theorem dX8_push_22 : decode cX8_push 22 = .ok (.aload_n 0, 1) := by decide +kernel
theorem dX8_push_23 : decode cX8_push 23 = .ok (.dup, 1) := by decide +kernel
theorem dX8_push_24 : decode cX8_push 24 = .ok (.getfield 97, 3) := by decide +kernel
theorem dX8_push_27 : decode cX8_push 27 = .ok (.iconst 1, 1) := by decide +kernel
theorem dX8_push_28 : decode cX8_push 28 = .ok (.iadd, 1) := by decide +kernel
theorem dX8_push_29 : decode cX8_push 29 = .ok (.putfield 97, 3) := by decide +kernel
theorem dX8_push_32 : decode cX8_push 32 = .ok (.return_, 1) := by decide +kernel
theorem dX8_rest_0 : decode cX8_rest 0 = .ok (.aload_n 0, 1) := by decide +kernel
theorem dX8_rest_1 : decode cX8_rest 1 = .ok (.getfield 94, 3) := by decide +kernel
theorem dX8_rest_4 : decode cX8_rest 4 = .ok (.ifCond .le 56, 3) := by decide +kernel
theorem dX8_rest_7 : decode cX8_rest 7 = .ok (.aload_n 0, 1) := by decide +kernel
theorem dX8_rest_8 : decode cX8_rest 8 = .ok (.aload_n 0, 1) := by decide +kernel
theorem dX8_rest_9 : decode cX8_rest 9 = .ok (.getfield 94, 3) := by decide +kernel
theorem dX8_rest_12 : decode cX8_rest 12 = .ok (.iconst 1, 1) := by decide +kernel
theorem dX8_rest_13 : decode cX8_rest 13 = .ok (.isub, 1) := by decide +kernel
theorem dX8_rest_14 : decode cX8_rest 14 = .ok (.iconst 0, 1) := by decide +kernel
theorem dX8_rest_15 : decode cX8_rest 15 = .ok (.invokevirtual 219, 3) := by decide +kernel
theorem dX8_rest_18 : decode cX8_rest 18 = .ok (.aload_n 0, 1) := by decide +kernel
theorem dX8_rest_19 : decode cX8_rest 19 = .ok (.getfield 91, 3) := by decide +kernel
theorem dX8_rest_22 : decode cX8_rest 22 = .ok (.if_icmp .ne 38, 3) := by decide +kernel
theorem dX8_rest_25 : decode cX8_rest 25 = .ok (.aload_n 0, 1) := by decide +kernel
theorem dX8_rest_26 : decode cX8_rest 26 = .ok (.aload_n 0, 1) := by decide +kernel
theorem dX8_rest_27 : decode cX8_rest 27 = .ok (.getfield 94, 3) := by decide +kernel
theorem dX8_rest_30 : decode cX8_rest 30 = .ok (.iconst 1, 1) := by decide +kernel
theorem dX8_rest_31 : decode cX8_rest 31 = .ok (.isub, 1) := by decide +kernel
theorem dX8_rest_32 : decode cX8_rest 32 = .ok (.iconst 2, 1) := by decide +kernel
theorem dX8_rest_33 : decode cX8_rest 33 = .ok (.invokevirtual 219, 3) := by decide +kernel
theorem dX8_rest_36 : decode cX8_rest 36 = .ok (.iconst (-1), 1) := by decide +kernel
theorem dX8_rest_37 : decode cX8_rest 37 = .ok (.if_icmp .eq 10, 3) := by decide +kernel
theorem dX8_rest_40 : decode cX8_rest 40 = .ok (.aload_n 0, 1) := by decide +kernel
theorem dX8_rest_41 : decode cX8_rest 41 = .ok (.iconst 2, 1) := by decide +kernel
theorem dX8_rest_42 : decode cX8_rest 42 = .ok (.iload_n 1, 1) := by decide +kernel
theorem dX8_rest_43 : decode cX8_rest 43 = .ok (.invokevirtual 201, 3) := by decide +kernel
theorem dX8_rest_46 : decode cX8_rest 46 = .ok (.return_, 1) := by decide +kernel
theorem dX8_rest_47 : decode cX8_rest 47 = .ok (.aload_n 0, 1) := by decide +kernel
theorem dX8_rest_48 : decode cX8_rest 48 = .ok (.dup, 1) := by decide +kernel
theorem dX8_rest_49 : decode cX8_rest 49 = .ok (.getfield 94, 3) := by decide +kernel
theorem dX8_rest_52 : decode cX8_rest 52 = .ok (.iconst 1, 1) := by decide +kernel
theorem dX8_rest_53 : decode cX8_rest 53 = .ok (.isub, 1) := by decide +kernel
theorem dX8_rest_54 : decode cX8_rest 54 = .ok (.putfield 94, 3) := by decide +kernel
theorem dX8_rest_57 : decode cX8_rest 57 = .ok (.goto (-57), 3) := by decide +kernel
theorem dX8_rest_60 : decode cX8_rest 60 = .ok (.aload_n 0, 1) := by decide +kernel
theorem dX8_rest_61 : decode cX8_rest 61 = .ok (.dup, 1) := by decide +kernel
theorem dX8_rest_62 : decode cX8_rest 62 = .ok (.getfield 91, 3) := by decide +kernel
theorem dX8_rest_65 : decode cX8_rest 65 = .ok (.iconst 1, 1) := by decide +kernel
theorem dX8_rest_66 : decode cX8_rest 66 = .ok (.isub, 1) := by decide +kernel
theorem dX8_rest_67 : decode cX8_rest 67 = .ok (.putfield 91, 3) := by decide +kernel
theorem dX8_rest_70 : decode cX8_rest 70 = .ok (.aload_n 0, 1) := by decide +kernel
theorem dX8_rest_71 : decode cX8_rest 71 = .ok (.iconst 0, 1) := by decide +kernel
theorem dX8_rest_72 : decode cX8_rest 72 = .ok (.putfield 97, 3) := by decide +kernel
theorem dX8_rest_75 : decode cX8_rest 75 = .ok (.aload_n 0, 1) := by decide +kernel
theorem dX8_rest_76 : decode cX8_rest 76 = .ok (.getfield 91, 3) := by decide +kernel
theorem dX8_rest_79 : decode cX8_rest 79 = .ok (.ifCond .le 15, 3) := by decide +kernel
theorem dX8_rest_82 : decode cX8_rest 82 = .ok (.aload_n 0, 1) := by decide +kernel
theorem dX8_rest_83 : decode cX8_rest 83 = .ok (.getfield 91, 3) := by decide +kernel
theorem dX8_rest_86 : decode cX8_rest 86 = .ok (.aload_n 0, 1) := by decide +kernel
theorem dX8_rest_87 : decode cX8_rest 87 = .ok (.getfield 18, 3) := by decide +kernel
theorem dX8_rest_90 : decode cX8_rest 90 = .ok (.arraylength, 1) := by decide +kernel
theorem dX8_rest_91 : decode cX8_rest 91 = .ok (.if_icmp .lt 14, 3) := by decide +kernel
theorem dX8_rest_94 : decode cX8_rest 94 = .ok (.aload_n 0, 1) := by decide +kernel
theorem dX8_rest_95 : decode cX8_rest 95 = .ok (.iconst 1, 1) := by decide +kernel
theorem dX8_rest_96 : decode cX8_rest 96 = .ok (.putfield 53, 3) := by decide +kernel
theorem dX8_rest_99 : decode cX8_rest 99 = .ok (.aload_n 0, 1) := by decide +kernel
theorem dX8_rest_100 : decode cX8_rest 100 = .ok (.iload_n 1, 1) := by decide +kernel
theorem dX8_rest_101 : decode cX8_rest 101 = .ok (.putfield 80, 3) := by decide +kernel
theorem dX8_rest_104 : decode cX8_rest 104 = .ok (.return_, 1) := by decide +kernel
theorem dX8_rest_105 : decode cX8_rest 105 = .ok (.aload_n 0, 1) := by decide +kernel
theorem dX8_rest_106 : decode cX8_rest 106 = .ok (.aload_n 0, 1) := by decide +kernel
theorem dX8_rest_107 : decode cX8_rest 107 = .ok (.getfield 18, 3) := by decide +kernel
theorem dX8_rest_110 : decode cX8_rest 110 = .ok (.aload_n 0, 1) := by decide +kernel
theorem dX8_rest_111 : decode cX8_rest 111 = .ok (.getfield 91, 3) := by decide +kernel
theorem dX8_rest_114 : decode cX8_rest 114 = .ok (.iaload, 1) := by decide +kernel
theorem dX8_rest_115 : decode cX8_rest 115 = .ok (.putfield 111, 3) := by decide +kernel
theorem dX8_rest_118 : decode cX8_rest 118 = .ok (.aload_n 0, 1) := by decide +kernel
theorem dX8_rest_119 : decode cX8_rest 119 = .ok (.iload_n 1, 1) := by decide +kernel
theorem dX8_rest_120 : decode cX8_rest 120 = .ok (.invokevirtual 129, 3) := by decide +kernel
theorem dX8_rest_123 : decode cX8_rest 123 = .ok (.return_, 1) := by decide +kernel
theorem dX8_openTry_0 : decode cX8_openTry 0 = .ok (.aload_n 0, 1) := by decide +kernel
theorem dX8_openTry_1 : decode cX8_openTry 1 = .ok (.invokevirtual 56, 3) := by decide +kernel
theorem dX8_openTry_4 : decode cX8_openTry 4 = .ok (.istore_n 1, 1) := by decide +kernel
theorem dX8_openTry_5 : decode cX8_openTry 5 = .ok (.aload_n 0, 1) := by decide +kernel
theorem dX8_openTry_6 : decode cX8_openTry 6 = .ok (.invokevirtual 56, 3) := by decide +kernel
theorem dX8_openTry_9 : decode cX8_openTry 9 = .ok (.istore_n 2, 1) := by decide +kernel
theorem dX8_openTry_10 : decode cX8_openTry 10 = .ok (.aload_n 0, 1) := by decide +kernel
theorem dX8_openTry_11 : decode cX8_openTry 11 = .ok (.aload_n 0, 1) := by decide +kernel
theorem dX8_openTry_12 : decode cX8_openTry 12 = .ok (.getfield 94, 3) := by decide +kernel
theorem dX8_openTry_15 : decode cX8_openTry 15 = .ok (.iconst 0, 1) := by decide +kernel
theorem dX8_openTry_16 : decode cX8_openTry 16 = .ok (.aload_n 0, 1) := by decide +kernel
theorem dX8_openTry_17 : decode cX8_openTry 17 = .ok (.getfield 91, 3) := by decide +kernel
theorem dX8_openTry_20 : decode cX8_openTry 20 = .ok (.invokevirtual 216, 3) := by decide +kernel
theorem dX8_openTry_23 : decode cX8_openTry 23 = .ok (.aload_n 0, 1) := by decide +kernel
theorem dX8_openTry_24 : decode cX8_openTry 24 = .ok (.aload_n 0, 1) := by decide +kernel
theorem dX8_openTry_25 : decode cX8_openTry 25 = .ok (.getfield 94, 3) := by decide +kernel
theorem dX8_openTry_28 : decode cX8_openTry 28 = .ok (.iconst 1, 1) := by decide +kernel
theorem dX8_openTry_29 : decode cX8_openTry 29 = .ok (.iload_n 1, 1) := by decide +kernel
theorem dX8_openTry_30 : decode cX8_openTry 30 = .ok (.invokevirtual 216, 3) := by decide +kernel
theorem dX8_openTry_33 : decode cX8_openTry 33 = .ok (.aload_n 0, 1) := by decide +kernel
theorem dX8_openTry_34 : decode cX8_openTry 34 = .ok (.aload_n 0, 1) := by decide +kernel
theorem dX8_openTry_35 : decode cX8_openTry 35 = .ok (.getfield 94, 3) := by decide +kernel
theorem dX8_openTry_38 : decode cX8_openTry 38 = .ok (.iconst 2, 1) := by decide +kernel
theorem dX8_openTry_39 : decode cX8_openTry 39 = .ok (.iload_n 2, 1) := by decide +kernel
theorem dX8_openTry_40 : decode cX8_openTry 40 = .ok (.invokevirtual 216, 3) := by decide +kernel
theorem dX8_openTry_43 : decode cX8_openTry 43 = .ok (.aload_n 0, 1) := by decide +kernel
theorem dX8_openTry_44 : decode cX8_openTry 44 = .ok (.dup, 1) := by decide +kernel
theorem dX8_openTry_45 : decode cX8_openTry 45 = .ok (.getfield 94, 3) := by decide +kernel
theorem dX8_openTry_48 : decode cX8_openTry 48 = .ok (.iconst 1, 1) := by decide +kernel
theorem dX8_openTry_49 : decode cX8_openTry 49 = .ok (.iadd, 1) := by decide +kernel
theorem dX8_openTry_50 : decode cX8_openTry 50 = .ok (.putfield 94, 3) := by decide +kernel
theorem dX8_openTry_53 : decode cX8_openTry 53 = .ok (.return_, 1) := by decide +kernel
theorem dX8_goOnBehindLastly_0 : decode cX8_goOnBehindLastly 0 = .ok (.aload_n 0, 1) := by decide +kernel
theorem dX8_goOnBehindLastly_1 : decode cX8_goOnBehindLastly 1 = .ok (.dup, 1) := by decide +kernel
theorem dX8_goOnBehindLastly_2 : decode cX8_goOnBehindLastly 2 = .ok (.getfield 94, 3) := by decide +kernel
theorem dX8_goOnBehindLastly_5 : decode cX8_goOnBehindLastly 5 = .ok (.iconst 1, 1) := by decide +kernel
theorem dX8_goOnBehindLastly_6 : decode cX8_goOnBehindLastly 6 = .ok (.isub, 1) := by decide +kernel
theorem dX8_goOnBehindLastly_7 : decode cX8_goOnBehindLastly 7 = .ok (.putfield 94, 3) := by decide +kernel
theorem dX8_goOnBehindLastly_10 : decode cX8_goOnBehindLastly 10 = .ok (.aload_n 0, 1) := by decide +kernel
theorem dX8_goOnBehindLastly_11 : decode cX8_goOnBehindLastly 11 = .ok (.aload_n 0, 1) := by decide +kernel
theorem dX8_goOnBehindLastly_12 : decode cX8_goOnBehindLastly 12 = .ok (.getfield 94, 3) := by decide +kernel
theorem dX8_goOnBehindLastly_15 : decode cX8_goOnBehindLastly 15 = .ok (.iconst 4, 1) := by decide +kernel
theorem dX8_goOnBehindLastly_16 : decode cX8_goOnBehindLastly 16 = .ok (.invokevirtual 219, 3) := by decide +kernel
theorem dX8_goOnBehindLastly_19 : decode cX8_goOnBehindLastly 19 = .ok (.istore_n 1, 1) := by decide +kernel
theorem dX8_goOnBehindLastly_20 : decode cX8_goOnBehindLastly 20 = .ok (.aload_n 0, 1) := by decide +kernel
theorem dX8_goOnBehindLastly_21 : decode cX8_goOnBehindLastly 21 = .ok (.aload_n 0, 1) := by decide +kernel
theorem dX8_goOnBehindLastly_22 : decode cX8_goOnBehindLastly 22 = .ok (.getfield 94, 3) := by decide +kernel
theorem dX8_goOnBehindLastly_25 : decode cX8_goOnBehindLastly 25 = .ok (.iconst 3, 1) := by decide +kernel
theorem dX8_goOnBehindLastly_26 : decode cX8_goOnBehindLastly 26 = .ok (.invokevirtual 219, 3) := by decide +kernel
theorem dX8_goOnBehindLastly_29 : decode cX8_goOnBehindLastly 29 = .ok (.lookupswitch 43 #[(1, 27), (2, 35)], 27) := by decide +kernel
theorem dX8_goOnBehindLastly_56 : decode cX8_goOnBehindLastly 56 = .ok (.aload_n 0, 1) := by decide +kernel
theorem dX8_goOnBehindLastly_57 : decode cX8_goOnBehindLastly 57 = .ok (.iload_n 1, 1) := by decide +kernel
theorem dX8_goOnBehindLastly_58 : decode cX8_goOnBehindLastly 58 = .ok (.putfield 74, 3) := by decide +kernel
theorem dX8_goOnBehindLastly_61 : decode cX8_goOnBehindLastly 61 = .ok (.goto 11, 3) := by decide +kernel
theorem dX8_goOnBehindLastly_64 : decode cX8_goOnBehindLastly 64 = .ok (.aload_n 0, 1) := by decide +kernel
theorem dX8_goOnBehindLastly_65 : decode cX8_goOnBehindLastly 65 = .ok (.iload_n 1, 1) := by decide +kernel
theorem dX8_goOnBehindLastly_66 : decode cX8_goOnBehindLastly 66 = .ok (.invokevirtual 197, 3) := by decide +kernel
theorem dX8_goOnBehindLastly_69 : decode cX8_goOnBehindLastly 69 = .ok (.goto 3, 3) := by decide +kernel
theorem dX8_goOnBehindLastly_72 : decode cX8_goOnBehindLastly 72 = .ok (.return_, 1) := by decide +kernel
theorem dX8_doCourse_0 : decode cX8_doCourse 0 = .ok (.iload_n 1, 1) := by decide +kernel
theorem dX8_doCourse_1 : decode cX8_doCourse 1 = .ok (.tableswitch 102 0 6 #[43, 50, 61, 68, 79, 86, 95], 43) := by decide +kernel
theorem dX8_doCourse_44 : decode cX8_doCourse 44 = .ok (.aload_n 0, 1) := by decide +kernel
theorem dX8_doCourse_45 : decode cX8_doCourse 45 = .ok (.invokevirtual 191, 3) := by decide +kernel
theorem dX8_doCourse_48 : decode cX8_doCourse 48 = .ok (.goto 60, 3) := by decide +kernel
theorem dX8_doCourse_51 : decode cX8_doCourse 51 = .ok (.aload_n 0, 1) := by decide +kernel
theorem dX8_doCourse_52 : decode cX8_doCourse 52 = .ok (.aload_n 0, 1) := by decide +kernel
theorem dX8_doCourse_53 : decode cX8_doCourse 53 = .ok (.invokevirtual 117, 3) := by decide +kernel
theorem dX8_doCourse_56 : decode cX8_doCourse 56 = .ok (.invokevirtual 159, 3) := by decide +kernel
theorem dX8_doCourse_59 : decode cX8_doCourse 59 = .ok (.goto 49, 3) := by decide +kernel
theorem dX8_doCourse_62 : decode cX8_doCourse 62 = .ok (.aload_n 0, 1) := by decide +kernel
theorem dX8_doCourse_63 : decode cX8_doCourse 63 = .ok (.invokevirtual 194, 3) := by decide +kernel
theorem dX8_doCourse_66 : decode cX8_doCourse 66 = .ok (.goto 42, 3) := by decide +kernel
theorem dX8_doCourse_69 : decode cX8_doCourse 69 = .ok (.aload_n 0, 1) := by decide +kernel
theorem dX8_doCourse_70 : decode cX8_doCourse 70 = .ok (.aload_n 0, 1) := by decide +kernel
theorem dX8_doCourse_71 : decode cX8_doCourse 71 = .ok (.invokevirtual 117, 3) := by decide +kernel
theorem dX8_doCourse_74 : decode cX8_doCourse 74 = .ok (.invokevirtual 197, 3) := by decide +kernel
theorem dX8_doCourse_77 : decode cX8_doCourse 77 = .ok (.goto 31, 3) := by decide +kernel
theorem dX8_doCourse_80 : decode cX8_doCourse 80 = .ok (.aload_n 0, 1) := by decide +kernel
theorem dX8_doCourse_81 : decode cX8_doCourse 81 = .ok (.invokevirtual 198, 3) := by decide +kernel
theorem dX8_doCourse_84 : decode cX8_doCourse 84 = .ok (.goto 24, 3) := by decide +kernel
theorem dX8_doCourse_87 : decode cX8_doCourse 87 = .ok (.aload_n 0, 1) := by decide +kernel
theorem dX8_doCourse_88 : decode cX8_doCourse 88 = .ok (.iconst 0, 1) := by decide +kernel
theorem dX8_doCourse_89 : decode cX8_doCourse 89 = .ok (.iconst 0, 1) := by decide +kernel
theorem dX8_doCourse_90 : decode cX8_doCourse 90 = .ok (.invokevirtual 201, 3) := by decide +kernel
theorem dX8_doCourse_93 : decode cX8_doCourse 93 = .ok (.goto 15, 3) := by decide +kernel
theorem dX8_doCourse_96 : decode cX8_doCourse 96 = .ok (.aload_n 0, 1) := by decide +kernel
theorem dX8_doCourse_97 : decode cX8_doCourse 97 = .ok (.invokevirtual 204, 3) := by decide +kernel
theorem dX8_doCourse_100 : decode cX8_doCourse 100 = .ok (.goto 8, 3) := by decide +kernel
theorem dX8_doCourse_103 : decode cX8_doCourse 103 = .ok (.aload_n 0, 1) := by decide +kernel
theorem dX8_doCourse_104 : decode cX8_doCourse 104 = .ok (.iconst 3, 1) := by decide +kernel
theorem dX8_doCourse_105 : decode cX8_doCourse 105 = .ok (.putfield 53, 3) := by decide +kernel
theorem dX8_doCourse_108 : decode cX8_doCourse 108 = .ok (.return_, 1) := by decide +kernel
theorem dX8_numberAt_0 : decode cX8_numberAt 0 = .ok (.aload_n 0, 1) := by decide +kernel
theorem dX8_numberAt_1 : decode cX8_numberAt 1 = .ok (.getfield 91, 3) := by decide +kernel
theorem dX8_numberAt_4 : decode cX8_numberAt 4 = .ok (.iconst 1, 1) := by decide +kernel
theorem dX8_numberAt_5 : decode cX8_numberAt 5 = .ok (.isub, 1) := by decide +kernel
theorem dX8_numberAt_6 : decode cX8_numberAt 6 = .ok (.bipush 12, 2) := by decide +kernel
theorem dX8_numberAt_8 : decode cX8_numberAt 8 = .ok (.imul, 1) := by decide +kernel
theorem dX8_numberAt_9 : decode cX8_numberAt 9 = .ok (.iload_n 1, 1) := by decide +kernel
theorem dX8_numberAt_10 : decode cX8_numberAt 10 = .ok (.iadd, 1) := by decide +kernel
theorem dX8_numberAt_11 : decode cX8_numberAt 11 = .ok (.istore_n 2, 1) := by decide +kernel
theorem dX8_numberAt_12 : decode cX8_numberAt 12 = .ok (.iload_n 2, 1) := by decide +kernel
theorem dX8_numberAt_13 : decode cX8_numberAt 13 = .ok (.ifCond .lt 21, 3) := by decide +kernel
theorem dX8_numberAt_16 : decode cX8_numberAt 16 = .ok (.iload_n 2, 1) := by decide +kernel
theorem dX8_numberAt_17 : decode cX8_numberAt 17 = .ok (.aload_n 0, 1) := by decide +kernel
theorem dX8_numberAt_18 : decode cX8_numberAt 18 = .ok (.getfield 11, 3) := by decide +kernel
theorem dX8_numberAt_21 : decode cX8_numberAt 21 = .ok (.arraylength, 1) := by decide +kernel
theorem dX8_numberAt_22 : decode cX8_numberAt 22 = .ok (.if_icmp .ge 12, 3) := by decide +kernel
theorem dX8_numberAt_25 : decode cX8_numberAt 25 = .ok (.aload_n 0, 1) := by decide +kernel
theorem dX8_numberAt_26 : decode cX8_numberAt 26 = .ok (.getfield 11, 3) := by decide +kernel
theorem dX8_numberAt_29 : decode cX8_numberAt 29 = .ok (.iload_n 2, 1) := by decide +kernel
theorem dX8_numberAt_30 : decode cX8_numberAt 30 = .ok (.iaload, 1) := by decide +kernel
theorem dX8_numberAt_31 : decode cX8_numberAt 31 = .ok (.goto 4, 3) := by decide +kernel
theorem dX8_numberAt_34 : decode cX8_numberAt 34 = .ok (.iconst 0, 1) := by decide +kernel
theorem dX8_numberAt_35 : decode cX8_numberAt 35 = .ok (.ireturn, 1) := by decide +kernel
theorem dX8_doNumber_0 : decode cX8_doNumber 0 = .ok (.iload_n 1, 1) := by decide +kernel
theorem dX8_doNumber_1 : decode cX8_doNumber 1 = .ok (.tableswitch 111 7 12 #[39, 50, 65, 80, 88, 100], 39) := by decide +kernel
theorem dX8_doNumber_40 : decode cX8_doNumber 40 = .ok (.aload_n 0, 1) := by decide +kernel
theorem dX8_doNumber_41 : decode cX8_doNumber 41 = .ok (.aload_n 0, 1) := by decide +kernel
theorem dX8_doNumber_42 : decode cX8_doNumber 42 = .ok (.invokevirtual 56, 3) := by decide +kernel
theorem dX8_doNumber_45 : decode cX8_doNumber 45 = .ok (.invokevirtual 129, 3) := by decide +kernel
theorem dX8_doNumber_48 : decode cX8_doNumber 48 = .ok (.goto 81, 3) := by decide +kernel
theorem dX8_doNumber_51 : decode cX8_doNumber 51 = .ok (.aload_n 0, 1) := by decide +kernel
theorem dX8_doNumber_52 : decode cX8_doNumber 52 = .ok (.aload_n 0, 1) := by decide +kernel
theorem dX8_doNumber_53 : decode cX8_doNumber 53 = .ok (.aload_n 0, 1) := by decide +kernel
theorem dX8_doNumber_54 : decode cX8_doNumber 54 = .ok (.invokevirtual 56, 3) := by decide +kernel
theorem dX8_doNumber_57 : decode cX8_doNumber 57 = .ok (.invokevirtual 132, 3) := by decide +kernel
theorem dX8_doNumber_60 : decode cX8_doNumber 60 = .ok (.invokevirtual 129, 3) := by decide +kernel
theorem dX8_doNumber_63 : decode cX8_doNumber 63 = .ok (.goto 66, 3) := by decide +kernel
theorem dX8_doNumber_66 : decode cX8_doNumber 66 = .ok (.aload_n 0, 1) := by decide +kernel
theorem dX8_doNumber_67 : decode cX8_doNumber 67 = .ok (.aload_n 0, 1) := by decide +kernel
theorem dX8_doNumber_68 : decode cX8_doNumber 68 = .ok (.invokevirtual 56, 3) := by decide +kernel
theorem dX8_doNumber_71 : decode cX8_doNumber 71 = .ok (.aload_n 0, 1) := by decide +kernel
theorem dX8_doNumber_72 : decode cX8_doNumber 72 = .ok (.invokevirtual 117, 3) := by decide +kernel
theorem dX8_doNumber_75 : decode cX8_doNumber 75 = .ok (.invokevirtual 107, 3) := by decide +kernel
theorem dX8_doNumber_78 : decode cX8_doNumber 78 = .ok (.goto 51, 3) := by decide +kernel
theorem dX8_doNumber_81 : decode cX8_doNumber 81 = .ok (.aload_n 0, 1) := by decide +kernel
theorem dX8_doNumber_82 : decode cX8_doNumber 82 = .ok (.invokevirtual 117, 3) := by decide +kernel
theorem dX8_doNumber_85 : decode cX8_doNumber 85 = .ok (.pop, 1) := by decide +kernel
theorem dX8_doNumber_86 : decode cX8_doNumber 86 = .ok (.goto 43, 3) := by decide +kernel
theorem dX8_doNumber_89 : decode cX8_doNumber 89 = .ok (.aload_n 0, 1) := by decide +kernel
theorem dX8_doNumber_90 : decode cX8_doNumber 90 = .ok (.aload_n 0, 1) := by decide +kernel
theorem dX8_doNumber_91 : decode cX8_doNumber 91 = .ok (.invokevirtual 117, 3) := by decide +kernel
theorem dX8_doNumber_94 : decode cX8_doNumber 94 = .ok (.ineg, 1) := by decide +kernel
theorem dX8_doNumber_95 : decode cX8_doNumber 95 = .ok (.invokevirtual 129, 3) := by decide +kernel
theorem dX8_doNumber_98 : decode cX8_doNumber 98 = .ok (.goto 31, 3) := by decide +kernel
theorem dX8_doNumber_101 : decode cX8_doNumber 101 = .ok (.aload_n 0, 1) := by decide +kernel
theorem dX8_doNumber_102 : decode cX8_doNumber 102 = .ok (.aload_n 0, 1) := by decide +kernel
theorem dX8_doNumber_103 : decode cX8_doNumber 103 = .ok (.invokevirtual 56, 3) := by decide +kernel
theorem dX8_doNumber_106 : decode cX8_doNumber 106 = .ok (.putfield 111, 3) := by decide +kernel
theorem dX8_doNumber_109 : decode cX8_doNumber 109 = .ok (.goto 20, 3) := by decide +kernel
theorem dX8_doNumber_112 : decode cX8_doNumber 112 = .ok (.aload_n 0, 1) := by decide +kernel
theorem dX8_doNumber_113 : decode cX8_doNumber 113 = .ok (.invokevirtual 56, 3) := by decide +kernel
theorem dX8_doNumber_116 : decode cX8_doNumber 116 = .ok (.istore_n 2, 1) := by decide +kernel
theorem dX8_doNumber_117 : decode cX8_doNumber 117 = .ok (.aload_n 0, 1) := by decide +kernel
theorem dX8_doNumber_118 : decode cX8_doNumber 118 = .ok (.invokevirtual 117, 3) := by decide +kernel
theorem dX8_doNumber_121 : decode cX8_doNumber 121 = .ok (.ifCond .ne 8, 3) := by decide +kernel
theorem dX8_doNumber_124 : decode cX8_doNumber 124 = .ok (.aload_n 0, 1) := by decide +kernel
theorem dX8_doNumber_125 : decode cX8_doNumber 125 = .ok (.iload_n 2, 1) := by decide +kernel
theorem dX8_doNumber_126 : decode cX8_doNumber 126 = .ok (.putfield 111, 3) := by decide +kernel
theorem dX8_doNumber_129 : decode cX8_doNumber 129 = .ok (.return_, 1) := by decide +kernel
theorem dX2_makeInTrial_0 : decode cX2_makeInTrial 0 = .ok (.aload_n 0, 1) := by decide +kernel
theorem dX2_makeInTrial_1 : decode cX2_makeInTrial 1 = .ok (.getfield 15, 3) := by decide +kernel
theorem dX2_makeInTrial_4 : decode cX2_makeInTrial 4 = .ok (.aload_n 0, 1) := by decide +kernel
theorem dX2_makeInTrial_5 : decode cX2_makeInTrial 5 = .ok (.getfield 19, 3) := by decide +kernel
theorem dX2_makeInTrial_8 : decode cX2_makeInTrial 8 = .ok (.isub, 1) := by decide +kernel
theorem dX2_makeInTrial_9 : decode cX2_makeInTrial 9 = .ok (.bipush 100, 2) := by decide +kernel
theorem dX2_makeInTrial_11 : decode cX2_makeInTrial 11 = .ok (.if_icmp .lt 7, 3) := by decide +kernel
theorem dX2_makeInTrial_14 : decode cX2_makeInTrial 14 = .ok (.iconst 0, 1) := by decide +kernel
theorem dX2_makeInTrial_15 : decode cX2_makeInTrial 15 = .ok (.goto 12, 3) := by decide +kernel
theorem dX2_makeInTrial_18 : decode cX2_makeInTrial 18 = .ok (.aload_n 0, 1) := by decide +kernel
theorem dX2_makeInTrial_19 : decode cX2_makeInTrial 19 = .ok (.iload_n 1, 1) := by decide +kernel
theorem dX2_makeInTrial_20 : decode cX2_makeInTrial 20 = .ok (.iload_n 2, 1) := by decide +kernel
theorem dX2_makeInTrial_21 : decode cX2_makeInTrial 21 = .ok (.iload_n 3, 1) := by decide +kernel
theorem dX2_makeInTrial_22 : decode cX2_makeInTrial 22 = .ok (.iload 4, 2) := by decide +kernel
theorem dX2_makeInTrial_24 : decode cX2_makeInTrial 24 = .ok (.invokevirtual 28, 3) := by decide +kernel
theorem dX2_makeInTrial_27 : decode cX2_makeInTrial 27 = .ok (.ireturn, 1) := by decide +kernel
theorem dX8_raiseNew_0 : decode cX8_raiseNew 0 = .ok (.aload_n 0, 1) := by decide +kernel
theorem dX8_raiseNew_1 : decode cX8_raiseNew 1 = .ok (.aload_n 0, 1) := by decide +kernel
theorem dX8_raiseNew_2 : decode cX8_raiseNew 2 = .ok (.getfield 36, 3) := by decide +kernel
theorem dX8_raiseNew_5 : decode cX8_raiseNew 5 = .ok (.iload_n 1, 1) := by decide +kernel
theorem dX8_raiseNew_6 : decode cX8_raiseNew 6 = .ok (.iload_n 2, 1) := by decide +kernel
theorem dX8_raiseNew_7 : decode cX8_raiseNew 7 = .ok (.iconst 0, 1) := by decide +kernel
theorem dX8_raiseNew_8 : decode cX8_raiseNew 8 = .ok (.iconst (-1), 1) := by decide +kernel
theorem dX8_raiseNew_9 : decode cX8_raiseNew 9 = .ok (.invokevirtual 178, 3) := by decide +kernel
theorem dX8_raiseNew_12 : decode cX8_raiseNew 12 = .ok (.putfield 74, 3) := by decide +kernel
theorem dX8_raiseNew_15 : decode cX8_raiseNew 15 = .ok (.aload_n 0, 1) := by decide +kernel
theorem dX8_raiseNew_16 : decode cX8_raiseNew 16 = .ok (.getfield 74, 3) := by decide +kernel
theorem dX8_raiseNew_19 : decode cX8_raiseNew 19 = .ok (.ifCond .ne 8, 3) := by decide +kernel
theorem dX8_raiseNew_22 : decode cX8_raiseNew 22 = .ok (.aload_n 0, 1) := by decide +kernel
theorem dX8_raiseNew_23 : decode cX8_raiseNew 23 = .ok (.iconst 3, 1) := by decide +kernel
theorem dX8_raiseNew_24 : decode cX8_raiseNew 24 = .ok (.putfield 53, 3) := by decide +kernel
theorem dX8_raiseNew_27 : decode cX8_raiseNew 27 = .ok (.return_, 1) := by decide +kernel
theorem dX8_ofTwoNumbers_0 : decode cX8_ofTwoNumbers 0 = .ok (.iload_n 0, 1) := by decide +kernel
theorem dX8_ofTwoNumbers_1 : decode cX8_ofTwoNumbers 1 = .ok (.tableswitch 101 14 20 #[43, 47, 51, 55, 67, 79, 90], 43) := by decide +kernel
theorem dX8_ofTwoNumbers_44 : decode cX8_ofTwoNumbers 44 = .ok (.iload_n 1, 1) := by decide +kernel
theorem dX8_ofTwoNumbers_45 : decode cX8_ofTwoNumbers 45 = .ok (.iload_n 2, 1) := by decide +kernel
theorem dX8_ofTwoNumbers_46 : decode cX8_ofTwoNumbers 46 = .ok (.iadd, 1) := by decide +kernel
theorem dX8_ofTwoNumbers_47 : decode cX8_ofTwoNumbers 47 = .ok (.ireturn, 1) := by decide +kernel
theorem dX8_ofTwoNumbers_48 : decode cX8_ofTwoNumbers 48 = .ok (.iload_n 1, 1) := by decide +kernel
theorem dX8_ofTwoNumbers_49 : decode cX8_ofTwoNumbers 49 = .ok (.iload_n 2, 1) := by decide +kernel
theorem dX8_ofTwoNumbers_50 : decode cX8_ofTwoNumbers 50 = .ok (.isub, 1) := by decide +kernel
theorem dX8_ofTwoNumbers_51 : decode cX8_ofTwoNumbers 51 = .ok (.ireturn, 1) := by decide +kernel
theorem dX8_ofTwoNumbers_52 : decode cX8_ofTwoNumbers 52 = .ok (.iload_n 1, 1) := by decide +kernel
theorem dX8_ofTwoNumbers_53 : decode cX8_ofTwoNumbers 53 = .ok (.iload_n 2, 1) := by decide +kernel
theorem dX8_ofTwoNumbers_54 : decode cX8_ofTwoNumbers 54 = .ok (.imul, 1) := by decide +kernel
theorem dX8_ofTwoNumbers_55 : decode cX8_ofTwoNumbers 55 = .ok (.ireturn, 1) := by decide +kernel
theorem dX8_ofTwoNumbers_56 : decode cX8_ofTwoNumbers 56 = .ok (.iload_n 2, 1) := by decide +kernel
theorem dX8_ofTwoNumbers_57 : decode cX8_ofTwoNumbers 57 = .ok (.ifCond .ne 7, 3) := by decide +kernel
theorem dX8_ofTwoNumbers_60 : decode cX8_ofTwoNumbers 60 = .ok (.iconst 0, 1) := by decide +kernel
theorem dX8_ofTwoNumbers_61 : decode cX8_ofTwoNumbers 61 = .ok (.goto 6, 3) := by decide +kernel
theorem dX8_ofTwoNumbers_64 : decode cX8_ofTwoNumbers 64 = .ok (.iload_n 1, 1) := by decide +kernel
theorem dX8_ofTwoNumbers_65 : decode cX8_ofTwoNumbers 65 = .ok (.iload_n 2, 1) := by decide +kernel
theorem dX8_ofTwoNumbers_66 : decode cX8_ofTwoNumbers 66 = .ok (.idiv, 1) := by decide +kernel
theorem dX8_ofTwoNumbers_67 : decode cX8_ofTwoNumbers 67 = .ok (.ireturn, 1) := by decide +kernel
theorem dX8_ofTwoNumbers_68 : decode cX8_ofTwoNumbers 68 = .ok (.iload_n 2, 1) := by decide +kernel
theorem dX8_ofTwoNumbers_69 : decode cX8_ofTwoNumbers 69 = .ok (.ifCond .ne 7, 3) := by decide +kernel
theorem dX8_ofTwoNumbers_72 : decode cX8_ofTwoNumbers 72 = .ok (.iconst 0, 1) := by decide +kernel
theorem dX8_ofTwoNumbers_73 : decode cX8_ofTwoNumbers 73 = .ok (.goto 6, 3) := by decide +kernel
theorem dX8_ofTwoNumbers_76 : decode cX8_ofTwoNumbers 76 = .ok (.iload_n 1, 1) := by decide +kernel
theorem dX8_ofTwoNumbers_77 : decode cX8_ofTwoNumbers 77 = .ok (.iload_n 2, 1) := by decide +kernel
theorem dX8_ofTwoNumbers_78 : decode cX8_ofTwoNumbers 78 = .ok (.irem, 1) := by decide +kernel
theorem dX8_ofTwoNumbers_79 : decode cX8_ofTwoNumbers 79 = .ok (.ireturn, 1) := by decide +kernel
theorem dX8_ofTwoNumbers_80 : decode cX8_ofTwoNumbers 80 = .ok (.iload_n 1, 1) := by decide +kernel
theorem dX8_ofTwoNumbers_81 : decode cX8_ofTwoNumbers 81 = .ok (.iload_n 2, 1) := by decide +kernel
theorem dX8_ofTwoNumbers_82 : decode cX8_ofTwoNumbers 82 = .ok (.if_icmp .ge 7, 3) := by decide +kernel
theorem dX8_ofTwoNumbers_85 : decode cX8_ofTwoNumbers 85 = .ok (.iconst 1, 1) := by decide +kernel
theorem dX8_ofTwoNumbers_86 : decode cX8_ofTwoNumbers 86 = .ok (.goto 4, 3) := by decide +kernel
theorem dX8_ofTwoNumbers_89 : decode cX8_ofTwoNumbers 89 = .ok (.iconst 0, 1) := by decide +kernel
theorem dX8_ofTwoNumbers_90 : decode cX8_ofTwoNumbers 90 = .ok (.ireturn, 1) := by decide +kernel
theorem dX8_ofTwoNumbers_91 : decode cX8_ofTwoNumbers 91 = .ok (.iload_n 1, 1) := by decide +kernel
theorem dX8_ofTwoNumbers_92 : decode cX8_ofTwoNumbers 92 = .ok (.iload_n 2, 1) := by decide +kernel
theorem dX8_ofTwoNumbers_93 : decode cX8_ofTwoNumbers 93 = .ok (.if_icmp .ne 7, 3) := by decide +kernel
theorem dX8_ofTwoNumbers_96 : decode cX8_ofTwoNumbers 96 = .ok (.iconst 1, 1) := by decide +kernel
theorem dX8_ofTwoNumbers_97 : decode cX8_ofTwoNumbers 97 = .ok (.goto 4, 3) := by decide +kernel
theorem dX8_ofTwoNumbers_100 : decode cX8_ofTwoNumbers 100 = .ok (.iconst 0, 1) := by decide +kernel
theorem dX8_ofTwoNumbers_101 : decode cX8_ofTwoNumbers 101 = .ok (.ireturn, 1) := by decide +kernel
theorem dX8_ofTwoNumbers_102 : decode cX8_ofTwoNumbers 102 = .ok (.iload_n 1, 1) := by decide +kernel
theorem dX8_ofTwoNumbers_103 : decode cX8_ofTwoNumbers 103 = .ok (.iload_n 2, 1) := by decide +kernel
theorem dX8_ofTwoNumbers_104 : decode cX8_ofTwoNumbers 104 = .ok (.if_icmp .eq 7, 3) := by decide +kernel
theorem dX8_ofTwoNumbers_107 : decode cX8_ofTwoNumbers 107 = .ok (.iconst 1, 1) := by decide +kernel
theorem dX8_ofTwoNumbers_108 : decode cX8_ofTwoNumbers 108 = .ok (.goto 4, 3) := by decide +kernel
theorem dX8_ofTwoNumbers_111 : decode cX8_ofTwoNumbers 111 = .ok (.iconst 0, 1) := by decide +kernel
theorem dX8_ofTwoNumbers_112 : decode cX8_ofTwoNumbers 112 = .ok (.ireturn, 1) := by decide +kernel
theorem dX8_doTwoNumbers_0 : decode cX8_doTwoNumbers 0 = .ok (.aload_n 0, 1) := by decide +kernel
theorem dX8_doTwoNumbers_1 : decode cX8_doTwoNumbers 1 = .ok (.invokevirtual 117, 3) := by decide +kernel
theorem dX8_doTwoNumbers_4 : decode cX8_doTwoNumbers 4 = .ok (.istore_n 2, 1) := by decide +kernel
theorem dX8_doTwoNumbers_5 : decode cX8_doTwoNumbers 5 = .ok (.aload_n 0, 1) := by decide +kernel
theorem dX8_doTwoNumbers_6 : decode cX8_doTwoNumbers 6 = .ok (.invokevirtual 117, 3) := by decide +kernel
theorem dX8_doTwoNumbers_9 : decode cX8_doTwoNumbers 9 = .ok (.istore_n 3, 1) := by decide +kernel
theorem dX8_doTwoNumbers_10 : decode cX8_doTwoNumbers 10 = .ok (.iload_n 2, 1) := by decide +kernel
theorem dX8_doTwoNumbers_11 : decode cX8_doTwoNumbers 11 = .ok (.ifCond .ne 23, 3) := by decide +kernel
theorem dX8_doTwoNumbers_14 : decode cX8_doTwoNumbers 14 = .ok (.iload_n 1, 1) := by decide +kernel
theorem dX8_doTwoNumbers_15 : decode cX8_doTwoNumbers 15 = .ok (.bipush 17, 2) := by decide +kernel
theorem dX8_doTwoNumbers_17 : decode cX8_doTwoNumbers 17 = .ok (.if_icmp .eq 9, 3) := by decide +kernel
theorem dX8_doTwoNumbers_20 : decode cX8_doTwoNumbers 20 = .ok (.iload_n 1, 1) := by decide +kernel
theorem dX8_doTwoNumbers_21 : decode cX8_doTwoNumbers 21 = .ok (.bipush 18, 2) := by decide +kernel
theorem dX8_doTwoNumbers_23 : decode cX8_doTwoNumbers 23 = .ok (.if_icmp .ne 11, 3) := by decide +kernel
theorem dX8_doTwoNumbers_26 : decode cX8_doTwoNumbers 26 = .ok (.aload_n 0, 1) := by decide +kernel
theorem dX8_doTwoNumbers_27 : decode cX8_doTwoNumbers 27 = .ok (.bipush 6, 2) := by decide +kernel
theorem dX8_doTwoNumbers_29 : decode cX8_doTwoNumbers 29 = .ok (.iconst 3, 1) := by decide +kernel
theorem dX8_doTwoNumbers_30 : decode cX8_doTwoNumbers 30 = .ok (.invokevirtual 122, 3) := by decide +kernel
theorem dX8_doTwoNumbers_33 : decode cX8_doTwoNumbers 33 = .ok (.return_, 1) := by decide +kernel
theorem dX8_doTwoNumbers_34 : decode cX8_doTwoNumbers 34 = .ok (.aload_n 0, 1) := by decide +kernel
theorem dX8_doTwoNumbers_35 : decode cX8_doTwoNumbers 35 = .ok (.iload_n 1, 1) := by decide +kernel
theorem dX8_doTwoNumbers_36 : decode cX8_doTwoNumbers 36 = .ok (.iload_n 3, 1) := by decide +kernel
theorem dX8_doTwoNumbers_37 : decode cX8_doTwoNumbers 37 = .ok (.iload_n 2, 1) := by decide +kernel
theorem dX8_doTwoNumbers_38 : decode cX8_doTwoNumbers 38 = .ok (.invokestatic 125, 3) := by decide +kernel
theorem dX8_doTwoNumbers_41 : decode cX8_doTwoNumbers 41 = .ok (.invokevirtual 129, 3) := by decide +kernel
theorem dX8_doTwoNumbers_44 : decode cX8_doTwoNumbers 44 = .ok (.return_, 1) := by decide +kernel
theorem dX8_objectAt_0 : decode cX8_objectAt 0 = .ok (.aload_n 0, 1) := by decide +kernel
theorem dX8_objectAt_1 : decode cX8_objectAt 1 = .ok (.getfield 91, 3) := by decide +kernel
theorem dX8_objectAt_4 : decode cX8_objectAt 4 = .ok (.iconst 1, 1) := by decide +kernel
theorem dX8_objectAt_5 : decode cX8_objectAt 5 = .ok (.isub, 1) := by decide +kernel
theorem dX8_objectAt_6 : decode cX8_objectAt 6 = .ok (.bipush 8, 2) := by decide +kernel
theorem dX8_objectAt_8 : decode cX8_objectAt 8 = .ok (.imul, 1) := by decide +kernel
theorem dX8_objectAt_9 : decode cX8_objectAt 9 = .ok (.iload_n 1, 1) := by decide +kernel
theorem dX8_objectAt_10 : decode cX8_objectAt 10 = .ok (.iadd, 1) := by decide +kernel
theorem dX8_objectAt_11 : decode cX8_objectAt 11 = .ok (.istore_n 2, 1) := by decide +kernel
theorem dX8_objectAt_12 : decode cX8_objectAt 12 = .ok (.iload_n 1, 1) := by decide +kernel
theorem dX8_objectAt_13 : decode cX8_objectAt 13 = .ok (.iconst (-1), 1) := by decide +kernel
theorem dX8_objectAt_14 : decode cX8_objectAt 14 = .ok (.if_icmp .eq 25, 3) := by decide +kernel
theorem dX8_objectAt_17 : decode cX8_objectAt 17 = .ok (.iload_n 2, 1) := by decide +kernel
theorem dX8_objectAt_18 : decode cX8_objectAt 18 = .ok (.ifCond .lt 21, 3) := by decide +kernel
theorem dX8_objectAt_21 : decode cX8_objectAt 21 = .ok (.iload_n 2, 1) := by decide +kernel
theorem dX8_objectAt_22 : decode cX8_objectAt 22 = .ok (.aload_n 0, 1) := by decide +kernel
theorem dX8_objectAt_23 : decode cX8_objectAt 23 = .ok (.getfield 15, 3) := by decide +kernel
theorem dX8_objectAt_26 : decode cX8_objectAt 26 = .ok (.arraylength, 1) := by decide +kernel
theorem dX8_objectAt_27 : decode cX8_objectAt 27 = .ok (.if_icmp .ge 12, 3) := by decide +kernel
theorem dX8_objectAt_30 : decode cX8_objectAt 30 = .ok (.aload_n 0, 1) := by decide +kernel
theorem dX8_objectAt_31 : decode cX8_objectAt 31 = .ok (.getfield 15, 3) := by decide +kernel
theorem dX8_objectAt_34 : decode cX8_objectAt 34 = .ok (.iload_n 2, 1) := by decide +kernel
theorem dX8_objectAt_35 : decode cX8_objectAt 35 = .ok (.iaload, 1) := by decide +kernel
theorem dX8_objectAt_36 : decode cX8_objectAt 36 = .ok (.goto 4, 3) := by decide +kernel
theorem dX8_objectAt_39 : decode cX8_objectAt 39 = .ok (.iconst 0, 1) := by decide +kernel
theorem dX8_objectAt_40 : decode cX8_objectAt 40 = .ok (.ireturn, 1) := by decide +kernel
theorem dX2_get_0 : decode cX2_get 0 = .ok (.iload_n 1, 1) := by decide +kernel
theorem dX2_get_1 : decode cX2_get 1 = .ok (.iconst 1, 1) := by decide +kernel
theorem dX2_get_2 : decode cX2_get 2 = .ok (.isub, 1) := by decide +kernel
theorem dX2_get_3 : decode cX2_get 3 = .ok (.bipush 7, 2) := by decide +kernel
theorem dX2_get_5 : decode cX2_get 5 = .ok (.imul, 1) := by decide +kernel
theorem dX2_get_6 : decode cX2_get 6 = .ok (.iload_n 2, 1) := by decide +kernel
theorem dX2_get_7 : decode cX2_get 7 = .ok (.iadd, 1) := by decide +kernel
theorem dX2_get_8 : decode cX2_get 8 = .ok (.istore_n 3, 1) := by decide +kernel
theorem dX2_get_9 : decode cX2_get 9 = .ok (.iload_n 3, 1) := by decide +kernel
theorem dX2_get_10 : decode cX2_get 10 = .ok (.ifCond .lt 23, 3) := by decide +kernel
theorem dX2_get_13 : decode cX2_get 13 = .ok (.iload_n 3, 1) := by decide +kernel
theorem dX2_get_14 : decode cX2_get 14 = .ok (.aload_n 0, 1) := by decide +kernel
theorem dX2_get_15 : decode cX2_get 15 = .ok (.getfield 15, 3) := by decide +kernel
theorem dX2_get_18 : decode cX2_get 18 = .ok (.bipush 7, 2) := by decide +kernel
theorem dX2_get_20 : decode cX2_get 20 = .ok (.imul, 1) := by decide +kernel
theorem dX2_get_21 : decode cX2_get 21 = .ok (.if_icmp .ge 12, 3) := by decide +kernel
theorem dX2_get_24 : decode cX2_get 24 = .ok (.aload_n 0, 1) := by decide +kernel
theorem dX2_get_25 : decode cX2_get 25 = .ok (.getfield 11, 3) := by decide +kernel
theorem dX2_get_28 : decode cX2_get 28 = .ok (.iload_n 3, 1) := by decide +kernel
theorem dX2_get_29 : decode cX2_get 29 = .ok (.iaload, 1) := by decide +kernel
theorem dX2_get_30 : decode cX2_get 30 = .ok (.goto 4, 3) := by decide +kernel
theorem dX2_get_33 : decode cX2_get 33 = .ok (.iconst 0, 1) := by decide +kernel
theorem dX2_get_34 : decode cX2_get 34 = .ok (.ireturn, 1) := by decide +kernel
theorem dX2_kindOf_0 : decode cX2_kindOf 0 = .ok (.aload_n 0, 1) := by decide +kernel
theorem dX2_kindOf_1 : decode cX2_kindOf 1 = .ok (.iload_n 1, 1) := by decide +kernel
theorem dX2_kindOf_2 : decode cX2_kindOf 2 = .ok (.iconst 0, 1) := by decide +kernel
theorem dX2_kindOf_3 : decode cX2_kindOf 3 = .ok (.invokevirtual 32, 3) := by decide +kernel
theorem dX2_kindOf_6 : decode cX2_kindOf 6 = .ok (.ireturn, 1) := by decide +kernel
theorem dX2_weightOf_0 : decode cX2_weightOf 0 = .ok (.aload_n 0, 1) := by decide +kernel
theorem dX2_weightOf_1 : decode cX2_weightOf 1 = .ok (.iload_n 1, 1) := by decide +kernel
theorem dX2_weightOf_2 : decode cX2_weightOf 2 = .ok (.iconst 1, 1) := by decide +kernel
theorem dX2_weightOf_3 : decode cX2_weightOf 3 = .ok (.invokevirtual 32, 3) := by decide +kernel
theorem dX2_weightOf_6 : decode cX2_weightOf 6 = .ok (.istore_n 2, 1) := by decide +kernel
theorem dX2_weightOf_7 : decode cX2_weightOf 7 = .ok (.aload_n 0, 1) := by decide +kernel
theorem dX2_weightOf_8 : decode cX2_weightOf 8 = .ok (.iload_n 1, 1) := by decide +kernel
theorem dX2_weightOf_9 : decode cX2_weightOf 9 = .ok (.iconst 0, 1) := by decide +kernel
theorem dX2_weightOf_10 : decode cX2_weightOf 10 = .ok (.invokevirtual 32, 3) := by decide +kernel
theorem dX2_weightOf_13 : decode cX2_weightOf 13 = .ok (.tableswitch 90 1 6 #[39, 44, 56, 63, 67, 73], 39) := by decide +kernel
theorem dX2_weightOf_52 : decode cX2_weightOf 52 = .ok (.iload_n 2, 1) := by decide +kernel
theorem dX2_weightOf_53 : decode cX2_weightOf 53 = .ok (.bipush 10, 2) := by decide +kernel
theorem dX2_weightOf_55 : decode cX2_weightOf 55 = .ok (.iadd, 1) := by decide +kernel
theorem dX2_weightOf_56 : decode cX2_weightOf 56 = .ok (.ireturn, 1) := by decide +kernel
theorem dX2_weightOf_57 : decode cX2_weightOf 57 = .ok (.iload_n 2, 1) := by decide +kernel
theorem dX2_weightOf_58 : decode cX2_weightOf 58 = .ok (.bipush 10, 2) := by decide +kernel
theorem dX2_weightOf_60 : decode cX2_weightOf 60 = .ok (.iadd, 1) := by decide +kernel
theorem dX2_weightOf_61 : decode cX2_weightOf 61 = .ok (.aload_n 0, 1) := by decide +kernel
theorem dX2_weightOf_62 : decode cX2_weightOf 62 = .ok (.iload_n 1, 1) := by decide +kernel
theorem dX2_weightOf_63 : decode cX2_weightOf 63 = .ok (.iconst 2, 1) := by decide +kernel
theorem dX2_weightOf_64 : decode cX2_weightOf 64 = .ok (.invokevirtual 32, 3) := by decide +kernel
theorem dX2_weightOf_67 : decode cX2_weightOf 67 = .ok (.iadd, 1) := by decide +kernel
theorem dX2_weightOf_68 : decode cX2_weightOf 68 = .ok (.ireturn, 1) := by decide +kernel
theorem dX2_weightOf_69 : decode cX2_weightOf 69 = .ok (.iconst 2, 1) := by decide +kernel
theorem dX2_weightOf_70 : decode cX2_weightOf 70 = .ok (.iload_n 2, 1) := by decide +kernel
theorem dX2_weightOf_71 : decode cX2_weightOf 71 = .ok (.bipush 10, 2) := by decide +kernel
theorem dX2_weightOf_73 : decode cX2_weightOf 73 = .ok (.iadd, 1) := by decide +kernel
theorem dX2_weightOf_74 : decode cX2_weightOf 74 = .ok (.imul, 1) := by decide +kernel
theorem dX2_weightOf_75 : decode cX2_weightOf 75 = .ok (.ireturn, 1) := by decide +kernel
theorem dX2_weightOf_76 : decode cX2_weightOf 76 = .ok (.iconst 3, 1) := by decide +kernel
theorem dX2_weightOf_77 : decode cX2_weightOf 77 = .ok (.iload_n 2, 1) := by decide +kernel
theorem dX2_weightOf_78 : decode cX2_weightOf 78 = .ok (.imul, 1) := by decide +kernel
theorem dX2_weightOf_79 : decode cX2_weightOf 79 = .ok (.ireturn, 1) := by decide +kernel
theorem dX2_weightOf_80 : decode cX2_weightOf 80 = .ok (.iconst 3, 1) := by decide +kernel
theorem dX2_weightOf_81 : decode cX2_weightOf 81 = .ok (.iload_n 2, 1) := by decide +kernel
theorem dX2_weightOf_82 : decode cX2_weightOf 82 = .ok (.imul, 1) := by decide +kernel
theorem dX2_weightOf_83 : decode cX2_weightOf 83 = .ok (.iconst 5, 1) := by decide +kernel
theorem dX2_weightOf_84 : decode cX2_weightOf 84 = .ok (.isub, 1) := by decide +kernel
theorem dX2_weightOf_85 : decode cX2_weightOf 85 = .ok (.ireturn, 1) := by decide +kernel
theorem dX2_weightOf_86 : decode cX2_weightOf 86 = .ok (.iconst 3, 1) := by decide +kernel
theorem dX2_weightOf_87 : decode cX2_weightOf 87 = .ok (.iload_n 2, 1) := by decide +kernel
theorem dX2_weightOf_88 : decode cX2_weightOf 88 = .ok (.imul, 1) := by decide +kernel
theorem dX2_weightOf_89 : decode cX2_weightOf 89 = .ok (.aload_n 0, 1) := by decide +kernel
theorem dX2_weightOf_90 : decode cX2_weightOf 90 = .ok (.aload_n 0, 1) := by decide +kernel
theorem dX2_weightOf_91 : decode cX2_weightOf 91 = .ok (.iload_n 1, 1) := by decide +kernel
theorem dX2_weightOf_92 : decode cX2_weightOf 92 = .ok (.bipush 6, 2) := by decide +kernel
theorem dX2_weightOf_94 : decode cX2_weightOf 94 = .ok (.invokevirtual 32, 3) := by decide +kernel
theorem dX2_weightOf_97 : decode cX2_weightOf 97 = .ok (.iconst 1, 1) := by decide +kernel
theorem dX2_weightOf_98 : decode cX2_weightOf 98 = .ok (.invokevirtual 32, 3) := by decide +kernel
theorem dX2_weightOf_101 : decode cX2_weightOf 101 = .ok (.iadd, 1) := by decide +kernel
theorem dX2_weightOf_102 : decode cX2_weightOf 102 = .ok (.ireturn, 1) := by decide +kernel
theorem dX2_weightOf_103 : decode cX2_weightOf 103 = .ok (.iload_n 2, 1) := by decide +kernel
theorem dX2_weightOf_104 : decode cX2_weightOf 104 = .ok (.ireturn, 1) := by decide +kernel
theorem dX2_chainLength_0 : decode cX2_chainLength 0 = .ok (.iconst 0, 1) := by decide +kernel
theorem dX2_chainLength_1 : decode cX2_chainLength 1 = .ok (.istore_n 2, 1) := by decide +kernel
theorem dX2_chainLength_2 : decode cX2_chainLength 2 = .ok (.iload_n 1, 1) := by decide +kernel
theorem dX2_chainLength_3 : decode cX2_chainLength 3 = .ok (.istore_n 3, 1) := by decide +kernel
theorem dX2_chainLength_4 : decode cX2_chainLength 4 = .ok (.iload_n 2, 1) := by decide +kernel
theorem dX2_chainLength_5 : decode cX2_chainLength 5 = .ok (.bipush 50, 2) := by decide +kernel
theorem dX2_chainLength_7 : decode cX2_chainLength 7 = .ok (.if_icmp .ge 21, 3) := by decide +kernel
theorem dX2_chainLength_10 : decode cX2_chainLength 10 = .ok (.iload_n 3, 1) := by decide +kernel
theorem dX2_chainLength_11 : decode cX2_chainLength 11 = .ok (.ifCond .eq 17, 3) := by decide +kernel
theorem dX2_chainLength_14 : decode cX2_chainLength 14 = .ok (.aload_n 0, 1) := by decide +kernel
theorem dX2_chainLength_15 : decode cX2_chainLength 15 = .ok (.iload_n 3, 1) := by decide +kernel
theorem dX2_chainLength_16 : decode cX2_chainLength 16 = .ok (.bipush 6, 2) := by decide +kernel
theorem dX2_chainLength_18 : decode cX2_chainLength 18 = .ok (.invokevirtual 32, 3) := by decide +kernel
theorem dX2_chainLength_21 : decode cX2_chainLength 21 = .ok (.istore_n 3, 1) := by decide +kernel
theorem dX2_chainLength_22 : decode cX2_chainLength 22 = .ok (.iinc 2 1, 3) := by decide +kernel
theorem dX2_chainLength_25 : decode cX2_chainLength 25 = .ok (.goto (-21), 3) := by decide +kernel
theorem dX2_chainLength_28 : decode cX2_chainLength 28 = .ok (.iload_n 2, 1) := by decide +kernel
theorem dX2_chainLength_29 : decode cX2_chainLength 29 = .ok (.ireturn, 1) := by decide +kernel
theorem dX2_tell_0 : decode cX2_tell 0 = .ok (.iload_n 2, 1) := by decide +kernel
theorem dX2_tell_1 : decode cX2_tell 1 = .ok (.lookupswitch 39 #[(6, 27), (7, 33)], 27) := by decide +kernel
theorem dX2_tell_28 : decode cX2_tell 28 = .ok (.aload_n 0, 1) := by decide +kernel
theorem dX2_tell_29 : decode cX2_tell 29 = .ok (.iload_n 1, 1) := by decide +kernel
theorem dX2_tell_30 : decode cX2_tell 30 = .ok (.invokevirtual 49, 3) := by decide +kernel
theorem dX2_tell_33 : decode cX2_tell 33 = .ok (.ireturn, 1) := by decide +kernel
theorem dX2_tell_34 : decode cX2_tell 34 = .ok (.aload_n 0, 1) := by decide +kernel
theorem dX2_tell_35 : decode cX2_tell 35 = .ok (.iload_n 1, 1) := by decide +kernel
theorem dX2_tell_36 : decode cX2_tell 36 = .ok (.invokevirtual 53, 3) := by decide +kernel
theorem dX2_tell_39 : decode cX2_tell 39 = .ok (.ireturn, 1) := by decide +kernel
theorem dX2_tell_40 : decode cX2_tell 40 = .ok (.iload_n 2, 1) := by decide +kernel
theorem dX2_tell_41 : decode cX2_tell 41 = .ok (.ifCond .lt 17, 3) := by decide +kernel
theorem dX2_tell_44 : decode cX2_tell 44 = .ok (.iload_n 2, 1) := by decide +kernel
theorem dX2_tell_45 : decode cX2_tell 45 = .ok (.iconst 5, 1) := by decide +kernel
theorem dX2_tell_46 : decode cX2_tell 46 = .ok (.if_icmp .gt 12, 3) := by decide +kernel
theorem dX2_tell_49 : decode cX2_tell 49 = .ok (.aload_n 0, 1) := by decide +kernel
theorem dX2_tell_50 : decode cX2_tell 50 = .ok (.iload_n 1, 1) := by decide +kernel
theorem dX2_tell_51 : decode cX2_tell 51 = .ok (.iload_n 2, 1) := by decide +kernel
theorem dX2_tell_52 : decode cX2_tell 52 = .ok (.invokevirtual 32, 3) := by decide +kernel
theorem dX2_tell_55 : decode cX2_tell 55 = .ok (.goto 4, 3) := by decide +kernel
theorem dX2_tell_58 : decode cX2_tell 58 = .ok (.iconst 0, 1) := by decide +kernel
theorem dX2_tell_59 : decode cX2_tell 59 = .ok (.ireturn, 1) := by decide +kernel
theorem dX8_tellOf_0 : decode cX8_tellOf 0 = .ok (.aload_n 0, 1) := by decide +kernel
theorem dX8_tellOf_1 : decode cX8_tellOf 1 = .ok (.iload_n 1, 1) := by decide +kernel
theorem dX8_tellOf_2 : decode cX8_tellOf 2 = .ok (.invokevirtual 138, 3) := by decide +kernel
theorem dX8_tellOf_5 : decode cX8_tellOf 5 = .ok (.istore_n 3, 1) := by decide +kernel
theorem dX8_tellOf_6 : decode cX8_tellOf 6 = .ok (.iload_n 3, 1) := by decide +kernel
theorem dX8_tellOf_7 : decode cX8_tellOf 7 = .ok (.ifCond .ne 12, 3) := by decide +kernel
theorem dX8_tellOf_10 : decode cX8_tellOf 10 = .ok (.aload_n 0, 1) := by decide +kernel
theorem dX8_tellOf_11 : decode cX8_tellOf 11 = .ok (.iconst 3, 1) := by decide +kernel
theorem dX8_tellOf_12 : decode cX8_tellOf 12 = .ok (.iconst 1, 1) := by decide +kernel
theorem dX8_tellOf_13 : decode cX8_tellOf 13 = .ok (.invokevirtual 122, 3) := by decide +kernel
theorem dX8_tellOf_16 : decode cX8_tellOf 16 = .ok (.goto 42, 3) := by decide +kernel
theorem dX8_tellOf_19 : decode cX8_tellOf 19 = .ok (.iload_n 2, 1) := by decide +kernel
theorem dX8_tellOf_20 : decode cX8_tellOf 20 = .ok (.iconst 2, 1) := by decide +kernel
theorem dX8_tellOf_21 : decode cX8_tellOf 21 = .ok (.if_icmp .ne 24, 3) := by decide +kernel
theorem dX8_tellOf_24 : decode cX8_tellOf 24 = .ok (.aload_n 0, 1) := by decide +kernel
theorem dX8_tellOf_25 : decode cX8_tellOf 25 = .ok (.getfield 36, 3) := by decide +kernel
theorem dX8_tellOf_28 : decode cX8_tellOf 28 = .ok (.iload_n 3, 1) := by decide +kernel
theorem dX8_tellOf_29 : decode cX8_tellOf 29 = .ok (.invokevirtual 164, 3) := by decide +kernel
theorem dX8_tellOf_32 : decode cX8_tellOf 32 = .ok (.iconst 2, 1) := by decide +kernel
theorem dX8_tellOf_33 : decode cX8_tellOf 33 = .ok (.if_icmp .eq 12, 3) := by decide +kernel
theorem dX8_tellOf_36 : decode cX8_tellOf 36 = .ok (.aload_n 0, 1) := by decide +kernel
theorem dX8_tellOf_37 : decode cX8_tellOf 37 = .ok (.iconst 1, 1) := by decide +kernel
theorem dX8_tellOf_38 : decode cX8_tellOf 38 = .ok (.iconst 2, 1) := by decide +kernel
theorem dX8_tellOf_39 : decode cX8_tellOf 39 = .ok (.invokevirtual 122, 3) := by decide +kernel
theorem dX8_tellOf_42 : decode cX8_tellOf 42 = .ok (.goto 16, 3) := by decide +kernel
theorem dX8_tellOf_45 : decode cX8_tellOf 45 = .ok (.aload_n 0, 1) := by decide +kernel
theorem dX8_tellOf_46 : decode cX8_tellOf 46 = .ok (.aload_n 0, 1) := by decide +kernel
theorem dX8_tellOf_47 : decode cX8_tellOf 47 = .ok (.getfield 36, 3) := by decide +kernel
theorem dX8_tellOf_50 : decode cX8_tellOf 50 = .ok (.iload_n 3, 1) := by decide +kernel
theorem dX8_tellOf_51 : decode cX8_tellOf 51 = .ok (.iload_n 2, 1) := by decide +kernel
theorem dX8_tellOf_52 : decode cX8_tellOf 52 = .ok (.invokevirtual 167, 3) := by decide +kernel
theorem dX8_tellOf_55 : decode cX8_tellOf 55 = .ok (.invokevirtual 129, 3) := by decide +kernel
theorem dX8_tellOf_58 : decode cX8_tellOf 58 = .ok (.return_, 1) := by decide +kernel
theorem dX3_is_0 : decode cX3_is 0 = .ok (.iload_n 0, 1) := by decide +kernel
theorem dX3_is_1 : decode cX3_is 1 = .ok (.istore_n 2, 1) := by decide +kernel
theorem dX3_is_2 : decode cX3_is 2 = .ok (.iconst 0, 1) := by decide +kernel
theorem dX3_is_3 : decode cX3_is 3 = .ok (.istore_n 3, 1) := by decide +kernel
theorem dX3_is_4 : decode cX3_is 4 = .ok (.iload_n 3, 1) := by decide +kernel
theorem dX3_is_5 : decode cX3_is 5 = .ok (.bipush 7, 2) := by decide +kernel
theorem dX3_is_7 : decode cX3_is 7 = .ok (.if_icmp .ge 26, 3) := by decide +kernel
theorem dX3_is_10 : decode cX3_is 10 = .ok (.iload_n 2, 1) := by decide +kernel
theorem dX3_is_11 : decode cX3_is 11 = .ok (.iconst (-1), 1) := by decide +kernel
theorem dX3_is_12 : decode cX3_is 12 = .ok (.if_icmp .eq 21, 3) := by decide +kernel
theorem dX3_is_15 : decode cX3_is 15 = .ok (.iload_n 2, 1) := by decide +kernel
theorem dX3_is_16 : decode cX3_is 16 = .ok (.iload_n 1, 1) := by decide +kernel
theorem dX3_is_17 : decode cX3_is 17 = .ok (.if_icmp .ne 5, 3) := by decide +kernel
theorem dX3_is_20 : decode cX3_is 20 = .ok (.iconst 1, 1) := by decide +kernel
theorem dX3_is_21 : decode cX3_is 21 = .ok (.ireturn, 1) := by decide +kernel
theorem dX3_is_22 : decode cX3_is 22 = .ok (.iload_n 2, 1) := by decide +kernel
theorem dX3_is_23 : decode cX3_is 23 = .ok (.invokestatic 15, 3) := by decide +kernel
theorem dX3_is_26 : decode cX3_is 26 = .ok (.istore_n 2, 1) := by decide +kernel
theorem dX3_is_27 : decode cX3_is 27 = .ok (.iinc 3 1, 3) := by decide +kernel
theorem dX3_is_30 : decode cX3_is 30 = .ok (.goto (-26), 3) := by decide +kernel
theorem dX3_is_33 : decode cX3_is 33 = .ok (.iconst 0, 1) := by decide +kernel
theorem dX3_is_34 : decode cX3_is 34 = .ok (.ireturn, 1) := by decide +kernel
theorem dX8_pushIs_0 : decode cX8_pushIs 0 = .ok (.aload_n 0, 1) := by decide +kernel
theorem dX8_pushIs_1 : decode cX8_pushIs 1 = .ok (.iload_n 1, 1) := by decide +kernel
theorem dX8_pushIs_2 : decode cX8_pushIs 2 = .ok (.ifCond .eq 22, 3) := by decide +kernel
theorem dX8_pushIs_5 : decode cX8_pushIs 5 = .ok (.aload_n 0, 1) := by decide +kernel
theorem dX8_pushIs_6 : decode cX8_pushIs 6 = .ok (.getfield 36, 3) := by decide +kernel
theorem dX8_pushIs_9 : decode cX8_pushIs 9 = .ok (.iload_n 1, 1) := by decide +kernel
theorem dX8_pushIs_10 : decode cX8_pushIs 10 = .ok (.invokevirtual 164, 3) := by decide +kernel
theorem dX8_pushIs_13 : decode cX8_pushIs 13 = .ok (.iload_n 2, 1) := by decide +kernel
theorem dX8_pushIs_14 : decode cX8_pushIs 14 = .ok (.invokestatic 171, 3) := by decide +kernel
theorem dX8_pushIs_17 : decode cX8_pushIs 17 = .ok (.ifCond .eq 7, 3) := by decide +kernel
theorem dX8_pushIs_20 : decode cX8_pushIs 20 = .ok (.iconst 1, 1) := by decide +kernel
theorem dX8_pushIs_21 : decode cX8_pushIs 21 = .ok (.goto 4, 3) := by decide +kernel
theorem dX8_pushIs_24 : decode cX8_pushIs 24 = .ok (.iconst 0, 1) := by decide +kernel
theorem dX8_pushIs_25 : decode cX8_pushIs 25 = .ok (.invokevirtual 129, 3) := by decide +kernel
theorem dX8_pushIs_28 : decode cX8_pushIs 28 = .ok (.return_, 1) := by decide +kernel
theorem dX2_causeOf_0 : decode cX2_causeOf 0 = .ok (.aload_n 0, 1) := by decide +kernel
theorem dX2_causeOf_1 : decode cX2_causeOf 1 = .ok (.iload_n 1, 1) := by decide +kernel
theorem dX2_causeOf_2 : decode cX2_causeOf 2 = .ok (.bipush 6, 2) := by decide +kernel
theorem dX2_causeOf_4 : decode cX2_causeOf 4 = .ok (.invokevirtual 32, 3) := by decide +kernel
theorem dX2_causeOf_7 : decode cX2_causeOf 7 = .ok (.ireturn, 1) := by decide +kernel
theorem dX8_holdCause_0 : decode cX8_holdCause 0 = .ok (.iload_n 2, 1) := by decide +kernel
theorem dX8_holdCause_1 : decode cX8_holdCause 1 = .ok (.ifCond .ne 12, 3) := by decide +kernel
theorem dX8_holdCause_4 : decode cX8_holdCause 4 = .ok (.aload_n 0, 1) := by decide +kernel
theorem dX8_holdCause_5 : decode cX8_holdCause 5 = .ok (.iconst 3, 1) := by decide +kernel
theorem dX8_holdCause_6 : decode cX8_holdCause 6 = .ok (.iconst 1, 1) := by decide +kernel
theorem dX8_holdCause_7 : decode cX8_holdCause 7 = .ok (.invokevirtual 122, 3) := by decide +kernel
theorem dX8_holdCause_10 : decode cX8_holdCause 10 = .ok (.goto 16, 3) := by decide +kernel
theorem dX8_holdCause_13 : decode cX8_holdCause 13 = .ok (.aload_n 0, 1) := by decide +kernel
theorem dX8_holdCause_14 : decode cX8_holdCause 14 = .ok (.iload_n 1, 1) := by decide +kernel
theorem dX8_holdCause_15 : decode cX8_holdCause 15 = .ok (.aload_n 0, 1) := by decide +kernel
theorem dX8_holdCause_16 : decode cX8_holdCause 16 = .ok (.getfield 36, 3) := by decide +kernel
theorem dX8_holdCause_19 : decode cX8_holdCause 19 = .ok (.iload_n 2, 1) := by decide +kernel
theorem dX8_holdCause_20 : decode cX8_holdCause 20 = .ok (.invokevirtual 175, 3) := by decide +kernel
theorem dX8_holdCause_23 : decode cX8_holdCause 23 = .ok (.invokevirtual 144, 3) := by decide +kernel
theorem dX8_holdCause_26 : decode cX8_holdCause 26 = .ok (.return_, 1) := by decide +kernel
theorem dX2_exists_0 : decode cX2_exists 0 = .ok (.iload_n 1, 1) := by decide +kernel
theorem dX2_exists_1 : decode cX2_exists 1 = .ok (.iconst 1, 1) := by decide +kernel
theorem dX2_exists_2 : decode cX2_exists 2 = .ok (.if_icmp .lt 15, 3) := by decide +kernel
theorem dX2_exists_5 : decode cX2_exists 5 = .ok (.iload_n 1, 1) := by decide +kernel
theorem dX2_exists_6 : decode cX2_exists 6 = .ok (.aload_n 0, 1) := by decide +kernel
theorem dX2_exists_7 : decode cX2_exists 7 = .ok (.getfield 15, 3) := by decide +kernel
theorem dX2_exists_10 : decode cX2_exists 10 = .ok (.if_icmp .gt 7, 3) := by decide +kernel
theorem dX2_exists_13 : decode cX2_exists 13 = .ok (.iconst 1, 1) := by decide +kernel
theorem dX2_exists_14 : decode cX2_exists 14 = .ok (.goto 4, 3) := by decide +kernel
theorem dX2_exists_17 : decode cX2_exists 17 = .ok (.iconst 0, 1) := by decide +kernel
theorem dX2_exists_18 : decode cX2_exists 18 = .ok (.ireturn, 1) := by decide +kernel
theorem dX2_settle_0 : decode cX2_settle 0 = .ok (.aload_n 0, 1) := by decide +kernel
theorem dX2_settle_1 : decode cX2_settle 1 = .ok (.iload_n 1, 1) := by decide +kernel
theorem dX2_settle_2 : decode cX2_settle 2 = .ok (.invokevirtual 36, 3) := by decide +kernel
theorem dX2_settle_5 : decode cX2_settle 5 = .ok (.ifCond .eq 29, 3) := by decide +kernel
theorem dX2_settle_8 : decode cX2_settle 8 = .ok (.iload_n 1, 1) := by decide +kernel
theorem dX2_settle_9 : decode cX2_settle 9 = .ok (.iconst 1, 1) := by decide +kernel
theorem dX2_settle_10 : decode cX2_settle 10 = .ok (.isub, 1) := by decide +kernel
theorem dX2_settle_11 : decode cX2_settle 11 = .ok (.bipush 7, 2) := by decide +kernel
theorem dX2_settle_13 : decode cX2_settle 13 = .ok (.imul, 1) := by decide +kernel
theorem dX2_settle_14 : decode cX2_settle 14 = .ok (.istore_n 3, 1) := by decide +kernel
theorem dX2_settle_15 : decode cX2_settle 15 = .ok (.aload_n 0, 1) := by decide +kernel
theorem dX2_settle_16 : decode cX2_settle 16 = .ok (.getfield 11, 3) := by decide +kernel
theorem dX2_settle_19 : decode cX2_settle 19 = .ok (.iload_n 3, 1) := by decide +kernel
theorem dX2_settle_20 : decode cX2_settle 20 = .ok (.bipush 6, 2) := by decide +kernel
theorem dX2_settle_22 : decode cX2_settle 22 = .ok (.iadd, 1) := by decide +kernel
theorem dX2_settle_23 : decode cX2_settle 23 = .ok (.iload_n 2, 1) := by decide +kernel
theorem dX2_settle_24 : decode cX2_settle 24 = .ok (.iastore, 1) := by decide +kernel
theorem dX2_settle_25 : decode cX2_settle 25 = .ok (.aload_n 0, 1) := by decide +kernel
theorem dX2_settle_26 : decode cX2_settle 26 = .ok (.getfield 11, 3) := by decide +kernel
theorem dX2_settle_29 : decode cX2_settle 29 = .ok (.iload_n 3, 1) := by decide +kernel
theorem dX2_settle_30 : decode cX2_settle 30 = .ok (.iconst 5, 1) := by decide +kernel
theorem dX2_settle_31 : decode cX2_settle 31 = .ok (.iadd, 1) := by decide +kernel
theorem dX2_settle_32 : decode cX2_settle 32 = .ok (.iconst 1, 1) := by decide +kernel
theorem dX2_settle_33 : decode cX2_settle 33 = .ok (.iastore, 1) := by decide +kernel
theorem dX2_settle_34 : decode cX2_settle 34 = .ok (.return_, 1) := by decide +kernel
theorem dX8_holdNew_0 : decode cX8_holdNew 0 = .ok (.aload_n 0, 1) := by decide +kernel
theorem dX8_holdNew_1 : decode cX8_holdNew 1 = .ok (.invokevirtual 56, 3) := by decide +kernel
theorem dX8_holdNew_4 : decode cX8_holdNew 4 = .ok (.istore_n 2, 1) := by decide +kernel
theorem dX8_holdNew_5 : decode cX8_holdNew 5 = .ok (.aload_n 0, 1) := by decide +kernel
theorem dX8_holdNew_6 : decode cX8_holdNew 6 = .ok (.invokevirtual 56, 3) := by decide +kernel
theorem dX8_holdNew_9 : decode cX8_holdNew 9 = .ok (.istore_n 3, 1) := by decide +kernel
theorem dX8_holdNew_10 : decode cX8_holdNew 10 = .ok (.aload_n 0, 1) := by decide +kernel
theorem dX8_holdNew_11 : decode cX8_holdNew 11 = .ok (.invokevirtual 56, 3) := by decide +kernel
theorem dX8_holdNew_14 : decode cX8_holdNew 14 = .ok (.istore 4, 2) := by decide +kernel
theorem dX8_holdNew_16 : decode cX8_holdNew 16 = .ok (.aload_n 0, 1) := by decide +kernel
theorem dX8_holdNew_17 : decode cX8_holdNew 17 = .ok (.invokevirtual 117, 3) := by decide +kernel
theorem dX8_holdNew_20 : decode cX8_holdNew 20 = .ok (.istore 5, 2) := by decide +kernel
theorem dX8_holdNew_22 : decode cX8_holdNew 22 = .ok (.aload_n 0, 1) := by decide +kernel
theorem dX8_holdNew_23 : decode cX8_holdNew 23 = .ok (.invokevirtual 117, 3) := by decide +kernel
theorem dX8_holdNew_26 : decode cX8_holdNew 26 = .ok (.istore 6, 2) := by decide +kernel
theorem dX8_holdNew_28 : decode cX8_holdNew 28 = .ok (.aload_n 0, 1) := by decide +kernel
theorem dX8_holdNew_29 : decode cX8_holdNew 29 = .ok (.getfield 36, 3) := by decide +kernel
theorem dX8_holdNew_32 : decode cX8_holdNew 32 = .ok (.iload_n 2, 1) := by decide +kernel
theorem dX8_holdNew_33 : decode cX8_holdNew 33 = .ok (.iload 6, 2) := by decide +kernel
theorem dX8_holdNew_35 : decode cX8_holdNew 35 = .ok (.iload 5, 2) := by decide +kernel
theorem dX8_holdNew_37 : decode cX8_holdNew 37 = .ok (.iload_n 3, 1) := by decide +kernel
theorem dX8_holdNew_38 : decode cX8_holdNew 38 = .ok (.invokevirtual 178, 3) := by decide +kernel
theorem dX8_holdNew_41 : decode cX8_holdNew 41 = .ok (.istore 7, 2) := by decide +kernel
theorem dX8_holdNew_43 : decode cX8_holdNew 43 = .ok (.iload 7, 2) := by decide +kernel
theorem dX8_holdNew_45 : decode cX8_holdNew 45 = .ok (.ifCond .ne 9, 3) := by decide +kernel
theorem dX8_holdNew_48 : decode cX8_holdNew 48 = .ok (.aload_n 0, 1) := by decide +kernel
theorem dX8_holdNew_49 : decode cX8_holdNew 49 = .ok (.iconst 3, 1) := by decide +kernel
theorem dX8_holdNew_50 : decode cX8_holdNew 50 = .ok (.putfield 53, 3) := by decide +kernel
theorem dX8_holdNew_53 : decode cX8_holdNew 53 = .ok (.return_, 1) := by decide +kernel
theorem dX8_holdNew_54 : decode cX8_holdNew 54 = .ok (.iload 4, 2) := by decide +kernel
theorem dX8_holdNew_56 : decode cX8_holdNew 56 = .ok (.bipush (-2), 2) := by decide +kernel
theorem dX8_holdNew_58 : decode cX8_holdNew 58 = .ok (.if_icmp .eq 18, 3) := by decide +kernel
theorem dX8_holdNew_61 : decode cX8_holdNew 61 = .ok (.aload_n 0, 1) := by decide +kernel
theorem dX8_holdNew_62 : decode cX8_holdNew 62 = .ok (.getfield 36, 3) := by decide +kernel
theorem dX8_holdNew_65 : decode cX8_holdNew 65 = .ok (.iload 7, 2) := by decide +kernel
theorem dX8_holdNew_67 : decode cX8_holdNew 67 = .ok (.aload_n 0, 1) := by decide +kernel
theorem dX8_holdNew_68 : decode cX8_holdNew 68 = .ok (.iload 4, 2) := by decide +kernel
theorem dX8_holdNew_70 : decode cX8_holdNew 70 = .ok (.invokevirtual 138, 3) := by decide +kernel
theorem dX8_holdNew_73 : decode cX8_holdNew 73 = .ok (.invokevirtual 182, 3) := by decide +kernel
theorem dX8_holdNew_76 : decode cX8_holdNew 76 = .ok (.aload_n 0, 1) := by decide +kernel
theorem dX8_holdNew_77 : decode cX8_holdNew 77 = .ok (.iload_n 1, 1) := by decide +kernel
theorem dX8_holdNew_78 : decode cX8_holdNew 78 = .ok (.iload 7, 2) := by decide +kernel
theorem dX8_holdNew_80 : decode cX8_holdNew 80 = .ok (.invokevirtual 144, 3) := by decide +kernel
theorem dX8_holdNew_83 : decode cX8_holdNew 83 = .ok (.return_, 1) := by decide +kernel
theorem dX8_raiseHeld_0 : decode cX8_raiseHeld 0 = .ok (.iload_n 1, 1) := by decide +kernel
theorem dX8_raiseHeld_1 : decode cX8_raiseHeld 1 = .ok (.ifCond .ne 12, 3) := by decide +kernel
theorem dX8_raiseHeld_4 : decode cX8_raiseHeld 4 = .ok (.aload_n 0, 1) := by decide +kernel
theorem dX8_raiseHeld_5 : decode cX8_raiseHeld 5 = .ok (.iconst 3, 1) := by decide +kernel
theorem dX8_raiseHeld_6 : decode cX8_raiseHeld 6 = .ok (.iconst 1, 1) := by decide +kernel
theorem dX8_raiseHeld_7 : decode cX8_raiseHeld 7 = .ok (.invokevirtual 122, 3) := by decide +kernel
theorem dX8_raiseHeld_10 : decode cX8_raiseHeld 10 = .ok (.goto 8, 3) := by decide +kernel
theorem dX8_raiseHeld_13 : decode cX8_raiseHeld 13 = .ok (.aload_n 0, 1) := by decide +kernel
theorem dX8_raiseHeld_14 : decode cX8_raiseHeld 14 = .ok (.iload_n 1, 1) := by decide +kernel
theorem dX8_raiseHeld_15 : decode cX8_raiseHeld 15 = .ok (.putfield 74, 3) := by decide +kernel
theorem dX8_raiseHeld_18 : decode cX8_raiseHeld 18 = .ok (.return_, 1) := by decide +kernel
theorem dX2_join_0 : decode cX2_join 0 = .ok (.aload_n 0, 1) := by decide +kernel
theorem dX2_join_1 : decode cX2_join 1 = .ok (.iload_n 1, 1) := by decide +kernel
theorem dX2_join_2 : decode cX2_join 2 = .ok (.iconst 5, 1) := by decide +kernel
theorem dX2_join_3 : decode cX2_join 3 = .ok (.invokevirtual 32, 3) := by decide +kernel
theorem dX2_join_6 : decode cX2_join 6 = .ok (.iconst 1, 1) := by decide +kernel
theorem dX2_join_7 : decode cX2_join 7 = .ok (.if_icmp .ne 7, 3) := by decide +kernel
theorem dX2_join_10 : decode cX2_join 10 = .ok (.iconst 2, 1) := by decide +kernel
theorem dX2_join_11 : decode cX2_join 11 = .ok (.goto 13, 3) := by decide +kernel
theorem dX2_join_14 : decode cX2_join 14 = .ok (.iload_n 1, 1) := by decide +kernel
theorem dX2_join_15 : decode cX2_join 15 = .ok (.iload_n 2, 1) := by decide +kernel
theorem dX2_join_16 : decode cX2_join 16 = .ok (.if_icmp .ne 7, 3) := by decide +kernel
theorem dX2_join_19 : decode cX2_join 19 = .ok (.iconst 5, 1) := by decide +kernel
theorem dX2_join_20 : decode cX2_join 20 = .ok (.goto 4, 3) := by decide +kernel
theorem dX2_join_23 : decode cX2_join 23 = .ok (.iconst (-1), 1) := by decide +kernel
theorem dX2_join_24 : decode cX2_join 24 = .ok (.istore_n 3, 1) := by decide +kernel
theorem dX2_join_25 : decode cX2_join 25 = .ok (.iload_n 3, 1) := by decide +kernel
theorem dX2_join_26 : decode cX2_join 26 = .ok (.iconst (-1), 1) := by decide +kernel
theorem dX2_join_27 : decode cX2_join 27 = .ok (.if_icmp .ne 12, 3) := by decide +kernel
theorem dX2_join_30 : decode cX2_join 30 = .ok (.aload_n 0, 1) := by decide +kernel
theorem dX2_join_31 : decode cX2_join 31 = .ok (.iload_n 1, 1) := by decide +kernel
theorem dX2_join_32 : decode cX2_join 32 = .ok (.iload_n 2, 1) := by decide +kernel
theorem dX2_join_33 : decode cX2_join 33 = .ok (.invokevirtual 42, 3) := by decide +kernel
theorem dX2_join_36 : decode cX2_join 36 = .ok (.goto 13, 3) := by decide +kernel
theorem dX2_join_39 : decode cX2_join 39 = .ok (.aload_n 0, 1) := by decide +kernel
theorem dX2_join_40 : decode cX2_join 40 = .ok (.dup, 1) := by decide +kernel
theorem dX2_join_41 : decode cX2_join 41 = .ok (.getfield 46, 3) := by decide +kernel
theorem dX2_join_44 : decode cX2_join 44 = .ok (.iconst 1, 1) := by decide +kernel
theorem dX2_join_45 : decode cX2_join 45 = .ok (.iadd, 1) := by decide +kernel
theorem dX2_join_46 : decode cX2_join 46 = .ok (.putfield 46, 3) := by decide +kernel
theorem dX2_join_49 : decode cX2_join 49 = .ok (.iload_n 3, 1) := by decide +kernel
theorem dX2_join_50 : decode cX2_join 50 = .ok (.ireturn, 1) := by decide +kernel
theorem dX8_joinHeld_0 : decode cX8_joinHeld 0 = .ok (.iload_n 1, 1) := by decide +kernel
theorem dX8_joinHeld_1 : decode cX8_joinHeld 1 = .ok (.ifCond .ne 10, 3) := by decide +kernel
theorem dX8_joinHeld_4 : decode cX8_joinHeld 4 = .ok (.aload_n 0, 1) := by decide +kernel
theorem dX8_joinHeld_5 : decode cX8_joinHeld 5 = .ok (.iconst 3, 1) := by decide +kernel
theorem dX8_joinHeld_6 : decode cX8_joinHeld 6 = .ok (.iconst 1, 1) := by decide +kernel
theorem dX8_joinHeld_7 : decode cX8_joinHeld 7 = .ok (.invokevirtual 122, 3) := by decide +kernel
theorem dX8_joinHeld_10 : decode cX8_joinHeld 10 = .ok (.return_, 1) := by decide +kernel
theorem dX8_joinHeld_11 : decode cX8_joinHeld 11 = .ok (.aload_n 0, 1) := by decide +kernel
theorem dX8_joinHeld_12 : decode cX8_joinHeld 12 = .ok (.getfield 36, 3) := by decide +kernel
theorem dX8_joinHeld_15 : decode cX8_joinHeld 15 = .ok (.iload_n 1, 1) := by decide +kernel
theorem dX8_joinHeld_16 : decode cX8_joinHeld 16 = .ok (.iload_n 2, 1) := by decide +kernel
theorem dX8_joinHeld_17 : decode cX8_joinHeld 17 = .ok (.invokevirtual 185, 3) := by decide +kernel
theorem dX8_joinHeld_20 : decode cX8_joinHeld 20 = .ok (.istore_n 3, 1) := by decide +kernel
theorem dX8_joinHeld_21 : decode cX8_joinHeld 21 = .ok (.iload_n 3, 1) := by decide +kernel
theorem dX8_joinHeld_22 : decode cX8_joinHeld 22 = .ok (.iconst (-1), 1) := by decide +kernel
theorem dX8_joinHeld_23 : decode cX8_joinHeld 23 = .ok (.if_icmp .eq 30, 3) := by decide +kernel
theorem dX8_joinHeld_26 : decode cX8_joinHeld 26 = .ok (.aload_n 0, 1) := by decide +kernel
theorem dX8_joinHeld_27 : decode cX8_joinHeld 27 = .ok (.iload_n 3, 1) := by decide +kernel
theorem dX8_joinHeld_28 : decode cX8_joinHeld 28 = .ok (.iload_n 3, 1) := by decide +kernel
theorem dX8_joinHeld_29 : decode cX8_joinHeld 29 = .ok (.iconst 2, 1) := by decide +kernel
theorem dX8_joinHeld_30 : decode cX8_joinHeld 30 = .ok (.if_icmp .ne 7, 3) := by decide +kernel
theorem dX8_joinHeld_33 : decode cX8_joinHeld 33 = .ok (.iconst 4, 1) := by decide +kernel
theorem dX8_joinHeld_34 : decode cX8_joinHeld 34 = .ok (.goto 4, 3) := by decide +kernel
theorem dX8_joinHeld_37 : decode cX8_joinHeld 37 = .ok (.iconst 5, 1) := by decide +kernel
theorem dX8_joinHeld_38 : decode cX8_joinHeld 38 = .ok (.invokevirtual 122, 3) := by decide +kernel
theorem dX8_joinHeld_41 : decode cX8_joinHeld 41 = .ok (.aload_n 0, 1) := by decide +kernel
theorem dX8_joinHeld_42 : decode cX8_joinHeld 42 = .ok (.getfield 36, 3) := by decide +kernel
theorem dX8_joinHeld_45 : decode cX8_joinHeld 45 = .ok (.aload_n 0, 1) := by decide +kernel
theorem dX8_joinHeld_46 : decode cX8_joinHeld 46 = .ok (.getfield 74, 3) := by decide +kernel
theorem dX8_joinHeld_49 : decode cX8_joinHeld 49 = .ok (.iload_n 1, 1) := by decide +kernel
theorem dX8_joinHeld_50 : decode cX8_joinHeld 50 = .ok (.invokevirtual 182, 3) := by decide +kernel
theorem dX8_joinHeld_53 : decode cX8_joinHeld 53 = .ok (.return_, 1) := by decide +kernel
theorem dX8_doObjection_0 : decode cX8_doObjection 0 = .ok (.aload_n 0, 1) := by decide +kernel
theorem dX8_doObjection_1 : decode cX8_doObjection 1 = .ok (.invokevirtual 56, 3) := by decide +kernel
theorem dX8_doObjection_4 : decode cX8_doObjection 4 = .ok (.istore_n 2, 1) := by decide +kernel
theorem dX8_doObjection_5 : decode cX8_doObjection 5 = .ok (.iload_n 1, 1) := by decide +kernel
theorem dX8_doObjection_6 : decode cX8_doObjection 6 = .ok (.tableswitch 174 22 29 #[46, 58, 74, 102, 118, 134, 142, 154], 46) := by decide +kernel
theorem dX8_doObjection_52 : decode cX8_doObjection 52 = .ok (.aload_n 0, 1) := by decide +kernel
theorem dX8_doObjection_53 : decode cX8_doObjection 53 = .ok (.iload_n 2, 1) := by decide +kernel
theorem dX8_doObjection_54 : decode cX8_doObjection 54 = .ok (.aload_n 0, 1) := by decide +kernel
theorem dX8_doObjection_55 : decode cX8_doObjection 55 = .ok (.invokevirtual 56, 3) := by decide +kernel
theorem dX8_doObjection_58 : decode cX8_doObjection 58 = .ok (.invokevirtual 135, 3) := by decide +kernel
theorem dX8_doObjection_61 : decode cX8_doObjection 61 = .ok (.goto 128, 3) := by decide +kernel
theorem dX8_doObjection_64 : decode cX8_doObjection 64 = .ok (.aload_n 0, 1) := by decide +kernel
theorem dX8_doObjection_65 : decode cX8_doObjection 65 = .ok (.aload_n 0, 1) := by decide +kernel
theorem dX8_doObjection_66 : decode cX8_doObjection 66 = .ok (.iload_n 2, 1) := by decide +kernel
theorem dX8_doObjection_67 : decode cX8_doObjection 67 = .ok (.invokevirtual 138, 3) := by decide +kernel
theorem dX8_doObjection_70 : decode cX8_doObjection 70 = .ok (.aload_n 0, 1) := by decide +kernel
theorem dX8_doObjection_71 : decode cX8_doObjection 71 = .ok (.invokevirtual 56, 3) := by decide +kernel
theorem dX8_doObjection_74 : decode cX8_doObjection 74 = .ok (.invokevirtual 141, 3) := by decide +kernel
theorem dX8_doObjection_77 : decode cX8_doObjection 77 = .ok (.goto 112, 3) := by decide +kernel
theorem dX8_doObjection_80 : decode cX8_doObjection 80 = .ok (.aload_n 0, 1) := by decide +kernel
theorem dX8_doObjection_81 : decode cX8_doObjection 81 = .ok (.aload_n 0, 1) := by decide +kernel
theorem dX8_doObjection_82 : decode cX8_doObjection 82 = .ok (.iload_n 2, 1) := by decide +kernel
theorem dX8_doObjection_83 : decode cX8_doObjection 83 = .ok (.invokevirtual 138, 3) := by decide +kernel
theorem dX8_doObjection_86 : decode cX8_doObjection 86 = .ok (.aload_n 0, 1) := by decide +kernel
theorem dX8_doObjection_87 : decode cX8_doObjection 87 = .ok (.aload_n 0, 1) := by decide +kernel
theorem dX8_doObjection_88 : decode cX8_doObjection 88 = .ok (.invokevirtual 56, 3) := by decide +kernel
theorem dX8_doObjection_91 : decode cX8_doObjection 91 = .ok (.invokevirtual 138, 3) := by decide +kernel
theorem dX8_doObjection_94 : decode cX8_doObjection 94 = .ok (.if_icmp .ne 7, 3) := by decide +kernel
theorem dX8_doObjection_97 : decode cX8_doObjection 97 = .ok (.iconst 1, 1) := by decide +kernel
theorem dX8_doObjection_98 : decode cX8_doObjection 98 = .ok (.goto 4, 3) := by decide +kernel
theorem dX8_doObjection_101 : decode cX8_doObjection 101 = .ok (.iconst 0, 1) := by decide +kernel
theorem dX8_doObjection_102 : decode cX8_doObjection 102 = .ok (.invokevirtual 129, 3) := by decide +kernel
theorem dX8_doObjection_105 : decode cX8_doObjection 105 = .ok (.goto 84, 3) := by decide +kernel
theorem dX8_doObjection_108 : decode cX8_doObjection 108 = .ok (.aload_n 0, 1) := by decide +kernel
theorem dX8_doObjection_109 : decode cX8_doObjection 109 = .ok (.iload_n 2, 1) := by decide +kernel
theorem dX8_doObjection_110 : decode cX8_doObjection 110 = .ok (.aload_n 0, 1) := by decide +kernel
theorem dX8_doObjection_111 : decode cX8_doObjection 111 = .ok (.aload_n 0, 1) := by decide +kernel
theorem dX8_doObjection_112 : decode cX8_doObjection 112 = .ok (.invokevirtual 56, 3) := by decide +kernel
theorem dX8_doObjection_115 : decode cX8_doObjection 115 = .ok (.invokevirtual 138, 3) := by decide +kernel
theorem dX8_doObjection_118 : decode cX8_doObjection 118 = .ok (.invokevirtual 144, 3) := by decide +kernel
theorem dX8_doObjection_121 : decode cX8_doObjection 121 = .ok (.goto 68, 3) := by decide +kernel
theorem dX8_doObjection_124 : decode cX8_doObjection 124 = .ok (.aload_n 0, 1) := by decide +kernel
theorem dX8_doObjection_125 : decode cX8_doObjection 125 = .ok (.iload_n 2, 1) := by decide +kernel
theorem dX8_doObjection_126 : decode cX8_doObjection 126 = .ok (.aload_n 0, 1) := by decide +kernel
theorem dX8_doObjection_127 : decode cX8_doObjection 127 = .ok (.aload_n 0, 1) := by decide +kernel
theorem dX8_doObjection_128 : decode cX8_doObjection 128 = .ok (.invokevirtual 56, 3) := by decide +kernel
theorem dX8_doObjection_131 : decode cX8_doObjection 131 = .ok (.invokevirtual 138, 3) := by decide +kernel
theorem dX8_doObjection_134 : decode cX8_doObjection 134 = .ok (.invokevirtual 147, 3) := by decide +kernel
theorem dX8_doObjection_137 : decode cX8_doObjection 137 = .ok (.goto 52, 3) := by decide +kernel
theorem dX8_doObjection_140 : decode cX8_doObjection 140 = .ok (.aload_n 0, 1) := by decide +kernel
theorem dX8_doObjection_141 : decode cX8_doObjection 141 = .ok (.iload_n 2, 1) := by decide +kernel
theorem dX8_doObjection_142 : decode cX8_doObjection 142 = .ok (.invokevirtual 150, 3) := by decide +kernel
theorem dX8_doObjection_145 : decode cX8_doObjection 145 = .ok (.goto 44, 3) := by decide +kernel
theorem dX8_doObjection_148 : decode cX8_doObjection 148 = .ok (.aload_n 0, 1) := by decide +kernel
theorem dX8_doObjection_149 : decode cX8_doObjection 149 = .ok (.aload_n 0, 1) := by decide +kernel
theorem dX8_doObjection_150 : decode cX8_doObjection 150 = .ok (.iload_n 2, 1) := by decide +kernel
theorem dX8_doObjection_151 : decode cX8_doObjection 151 = .ok (.invokevirtual 138, 3) := by decide +kernel
theorem dX8_doObjection_154 : decode cX8_doObjection 154 = .ok (.invokevirtual 153, 3) := by decide +kernel
theorem dX8_doObjection_157 : decode cX8_doObjection 157 = .ok (.goto 32, 3) := by decide +kernel
theorem dX8_doObjection_160 : decode cX8_doObjection 160 = .ok (.aload_n 0, 1) := by decide +kernel
theorem dX8_doObjection_161 : decode cX8_doObjection 161 = .ok (.aload_n 0, 1) := by decide +kernel
theorem dX8_doObjection_162 : decode cX8_doObjection 162 = .ok (.iload_n 2, 1) := by decide +kernel
theorem dX8_doObjection_163 : decode cX8_doObjection 163 = .ok (.invokevirtual 138, 3) := by decide +kernel
theorem dX8_doObjection_166 : decode cX8_doObjection 166 = .ok (.aload_n 0, 1) := by decide +kernel
theorem dX8_doObjection_167 : decode cX8_doObjection 167 = .ok (.aload_n 0, 1) := by decide +kernel
theorem dX8_doObjection_168 : decode cX8_doObjection 168 = .ok (.invokevirtual 56, 3) := by decide +kernel
theorem dX8_doObjection_171 : decode cX8_doObjection 171 = .ok (.invokevirtual 138, 3) := by decide +kernel
theorem dX8_doObjection_174 : decode cX8_doObjection 174 = .ok (.invokevirtual 156, 3) := by decide +kernel
theorem dX8_doObjection_177 : decode cX8_doObjection 177 = .ok (.goto 12, 3) := by decide +kernel
theorem dX8_doObjection_180 : decode cX8_doObjection 180 = .ok (.aload_n 0, 1) := by decide +kernel
theorem dX8_doObjection_181 : decode cX8_doObjection 181 = .ok (.aload_n 0, 1) := by decide +kernel
theorem dX8_doObjection_182 : decode cX8_doObjection 182 = .ok (.iload_n 2, 1) := by decide +kernel
theorem dX8_doObjection_183 : decode cX8_doObjection 183 = .ok (.invokevirtual 138, 3) := by decide +kernel
theorem dX8_doObjection_186 : decode cX8_doObjection 186 = .ok (.invokevirtual 159, 3) := by decide +kernel
theorem dX8_doObjection_189 : decode cX8_doObjection 189 = .ok (.return_, 1) := by decide +kernel
theorem dX8_upholdFor_0 : decode cX8_upholdFor 0 = .ok (.aload_n 0, 1) := by decide +kernel
theorem dX8_upholdFor_1 : decode cX8_upholdFor 1 = .ok (.getfield 36, 3) := by decide +kernel
theorem dX8_upholdFor_4 : decode cX8_upholdFor 4 = .ok (.aload_n 0, 1) := by decide +kernel
theorem dX8_upholdFor_5 : decode cX8_upholdFor 5 = .ok (.getfield 74, 3) := by decide +kernel
theorem dX8_upholdFor_8 : decode cX8_upholdFor 8 = .ok (.invokevirtual 164, 3) := by decide +kernel
theorem dX8_upholdFor_11 : decode cX8_upholdFor 11 = .ok (.istore_n 2, 1) := by decide +kernel
theorem dX8_upholdFor_12 : decode cX8_upholdFor 12 = .ok (.iload_n 1, 1) := by decide +kernel
theorem dX8_upholdFor_13 : decode cX8_upholdFor 13 = .ok (.istore_n 3, 1) := by decide +kernel
theorem dX8_upholdFor_14 : decode cX8_upholdFor 14 = .ok (.iconst 0, 1) := by decide +kernel
theorem dX8_upholdFor_15 : decode cX8_upholdFor 15 = .ok (.istore 4, 2) := by decide +kernel
theorem dX8_upholdFor_17 : decode cX8_upholdFor 17 = .ok (.iload 4, 2) := by decide +kernel
theorem dX8_upholdFor_19 : decode cX8_upholdFor 19 = .ok (.sipush 4000, 3) := by decide +kernel
theorem dX8_upholdFor_22 : decode cX8_upholdFor 22 = .ok (.if_icmp .ge 42, 3) := by decide +kernel
theorem dX8_upholdFor_25 : decode cX8_upholdFor 25 = .ok (.iload_n 3, 1) := by decide +kernel
theorem dX8_upholdFor_26 : decode cX8_upholdFor 26 = .ok (.iconst (-1), 1) := by decide +kernel
theorem dX8_upholdFor_27 : decode cX8_upholdFor 27 = .ok (.if_icmp .eq 37, 3) := by decide +kernel
theorem dX8_upholdFor_30 : decode cX8_upholdFor 30 = .ok (.iload_n 2, 1) := by decide +kernel
theorem dX8_upholdFor_31 : decode cX8_upholdFor 31 = .ok (.aload_n 0, 1) := by decide +kernel
theorem dX8_upholdFor_32 : decode cX8_upholdFor 32 = .ok (.getfield 32, 3) := by decide +kernel
theorem dX8_upholdFor_35 : decode cX8_upholdFor 35 = .ok (.iload_n 3, 1) := by decide +kernel
theorem dX8_upholdFor_36 : decode cX8_upholdFor 36 = .ok (.invokevirtual 114, 3) := by decide +kernel
theorem dX8_upholdFor_39 : decode cX8_upholdFor 39 = .ok (.invokestatic 171, 3) := by decide +kernel
theorem dX8_upholdFor_42 : decode cX8_upholdFor 42 = .ok (.ifCond .eq 5, 3) := by decide +kernel
theorem dX8_upholdFor_45 : decode cX8_upholdFor 45 = .ok (.iload_n 3, 1) := by decide +kernel
theorem dX8_upholdFor_46 : decode cX8_upholdFor 46 = .ok (.ireturn, 1) := by decide +kernel
theorem dX8_upholdFor_47 : decode cX8_upholdFor 47 = .ok (.aload_n 0, 1) := by decide +kernel
theorem dX8_upholdFor_48 : decode cX8_upholdFor 48 = .ok (.getfield 32, 3) := by decide +kernel
theorem dX8_upholdFor_51 : decode cX8_upholdFor 51 = .ok (.iload_n 3, 1) := by decide +kernel
theorem dX8_upholdFor_52 : decode cX8_upholdFor 52 = .ok (.iconst 2, 1) := by decide +kernel
theorem dX8_upholdFor_53 : decode cX8_upholdFor 53 = .ok (.iadd, 1) := by decide +kernel
theorem dX8_upholdFor_54 : decode cX8_upholdFor 54 = .ok (.invokevirtual 114, 3) := by decide +kernel
theorem dX8_upholdFor_57 : decode cX8_upholdFor 57 = .ok (.istore_n 3, 1) := by decide +kernel
theorem dX8_upholdFor_58 : decode cX8_upholdFor 58 = .ok (.iinc 4 1, 3) := by decide +kernel
theorem dX8_upholdFor_61 : decode cX8_upholdFor 61 = .ok (.goto (-44), 3) := by decide +kernel
theorem dX8_upholdFor_64 : decode cX8_upholdFor 64 = .ok (.iconst (-1), 1) := by decide +kernel
theorem dX8_upholdFor_65 : decode cX8_upholdFor 65 = .ok (.ireturn, 1) := by decide +kernel
theorem dX8_doUphold_0 : decode cX8_doUphold 0 = .ok (.aload_n 0, 1) := by decide +kernel
theorem dX8_doUphold_1 : decode cX8_doUphold 1 = .ok (.getfield 94, 3) := by decide +kernel
theorem dX8_doUphold_4 : decode cX8_doUphold 4 = .ok (.iconst 1, 1) := by decide +kernel
theorem dX8_doUphold_5 : decode cX8_doUphold 5 = .ok (.isub, 1) := by decide +kernel
theorem dX8_doUphold_6 : decode cX8_doUphold 6 = .ok (.istore_n 2, 1) := by decide +kernel
theorem dX8_doUphold_7 : decode cX8_doUphold 7 = .ok (.aload_n 0, 1) := by decide +kernel
theorem dX8_doUphold_8 : decode cX8_doUphold 8 = .ok (.aload_n 0, 1) := by decide +kernel
theorem dX8_doUphold_9 : decode cX8_doUphold 9 = .ok (.iload_n 2, 1) := by decide +kernel
theorem dX8_doUphold_10 : decode cX8_doUphold 10 = .ok (.iconst 0, 1) := by decide +kernel
theorem dX8_doUphold_11 : decode cX8_doUphold 11 = .ok (.invokevirtual 219, 3) := by decide +kernel
theorem dX8_doUphold_14 : decode cX8_doUphold 14 = .ok (.putfield 91, 3) := by decide +kernel
theorem dX8_doUphold_17 : decode cX8_doUphold 17 = .ok (.aload_n 0, 1) := by decide +kernel
theorem dX8_doUphold_18 : decode cX8_doUphold 18 = .ok (.iconst 0, 1) := by decide +kernel
theorem dX8_doUphold_19 : decode cX8_doUphold 19 = .ok (.putfield 97, 3) := by decide +kernel
theorem dX8_doUphold_22 : decode cX8_doUphold 22 = .ok (.aload_n 0, 1) := by decide +kernel
theorem dX8_doUphold_23 : decode cX8_doUphold 23 = .ok (.iload_n 2, 1) := by decide +kernel
