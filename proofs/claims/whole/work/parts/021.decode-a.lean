/-! ===== decode rows (as printed) ===== -/
theorem dX0_count_0 : decode cX0_count 0 = .ok (.aload_n 0, 1) := by decide +kernel
theorem dX0_count_1 : decode cX0_count 1 = .ok (.getfield 27, 3) := by decide +kernel
theorem dX0_count_4 : decode cX0_count 4 = .ok (.ireturn, 1) := by decide +kernel
theorem dX0_last_0 : decode cX0_last 0 = .ok (.aload_n 0, 1) := by decide +kernel
theorem dX0_last_1 : decode cX0_last 1 = .ok (.getfield 27, 3) := by decide +kernel
theorem dX0_last_4 : decode cX0_last 4 = .ok (.iconst 1, 1) := by decide +kernel
theorem dX0_last_5 : decode cX0_last 5 = .ok (.isub, 1) := by decide +kernel
theorem dX0_last_6 : decode cX0_last 6 = .ok (.ireturn, 1) := by decide +kernel
theorem dX0_has_0 : decode cX0_has 0 = .ok (.iload_n 1, 1) := by decide +kernel
theorem dX0_has_1 : decode cX0_has 1 = .ok (.ifCond .lt 15, 3) := by decide +kernel
theorem dX0_has_4 : decode cX0_has 4 = .ok (.iload_n 1, 1) := by decide +kernel
theorem dX0_has_5 : decode cX0_has 5 = .ok (.aload_n 0, 1) := by decide +kernel
theorem dX0_has_6 : decode cX0_has 6 = .ok (.getfield 27, 3) := by decide +kernel
theorem dX0_has_9 : decode cX0_has 9 = .ok (.if_icmp .ge 7, 3) := by decide +kernel
theorem dX0_has_12 : decode cX0_has 12 = .ok (.iconst 1, 1) := by decide +kernel
theorem dX0_has_13 : decode cX0_has 13 = .ok (.goto 4, 3) := by decide +kernel
theorem dX0_has_16 : decode cX0_has 16 = .ok (.iconst 0, 1) := by decide +kernel
theorem dX0_has_17 : decode cX0_has 17 = .ok (.ireturn, 1) := by decide +kernel
theorem dX0_empty_0 : decode cX0_empty 0 = .ok (.aload_n 0, 1) := by decide +kernel
theorem dX0_empty_1 : decode cX0_empty 1 = .ok (.iconst 0, 1) := by decide +kernel
theorem dX0_empty_2 : decode cX0_empty 2 = .ok (.putfield 27, 3) := by decide +kernel
theorem dX0_empty_5 : decode cX0_empty 5 = .ok (.return_, 1) := by decide +kernel
theorem dX0_add_0 : decode cX0_add 0 = .ok (.aload_n 0, 1) := by decide +kernel
theorem dX0_add_1 : decode cX0_add 1 = .ok (.getfield 27, 3) := by decide +kernel
theorem dX0_add_4 : decode cX0_add 4 = .ok (.bipush 120, 2) := by decide +kernel
theorem dX0_add_6 : decode cX0_add 6 = .ok (.if_icmp .lt 5, 3) := by decide +kernel
theorem dX0_add_9 : decode cX0_add 9 = .ok (.iconst (-1), 1) := by decide +kernel
theorem dX0_add_10 : decode cX0_add 10 = .ok (.ireturn, 1) := by decide +kernel
theorem dX0_add_11 : decode cX0_add 11 = .ok (.aload_n 0, 1) := by decide +kernel
theorem dX0_add_12 : decode cX0_add 12 = .ok (.getfield 11, 3) := by decide +kernel
theorem dX0_add_15 : decode cX0_add 15 = .ok (.aload_n 0, 1) := by decide +kernel
theorem dX0_add_16 : decode cX0_add 16 = .ok (.getfield 27, 3) := by decide +kernel
theorem dX0_add_19 : decode cX0_add 19 = .ok (.iload_n 1, 1) := by decide +kernel
theorem dX0_add_20 : decode cX0_add 20 = .ok (.iastore, 1) := by decide +kernel
theorem dX0_add_21 : decode cX0_add 21 = .ok (.aload_n 0, 1) := by decide +kernel
theorem dX0_add_22 : decode cX0_add 22 = .ok (.getfield 15, 3) := by decide +kernel
theorem dX0_add_25 : decode cX0_add 25 = .ok (.aload_n 0, 1) := by decide +kernel
theorem dX0_add_26 : decode cX0_add 26 = .ok (.getfield 27, 3) := by decide +kernel
theorem dX0_add_29 : decode cX0_add 29 = .ok (.iload_n 2, 1) := by decide +kernel
theorem dX0_add_30 : decode cX0_add 30 = .ok (.iastore, 1) := by decide +kernel
theorem dX0_add_31 : decode cX0_add 31 = .ok (.aload_n 0, 1) := by decide +kernel
theorem dX0_add_32 : decode cX0_add 32 = .ok (.getfield 18, 3) := by decide +kernel
theorem dX0_add_35 : decode cX0_add 35 = .ok (.aload_n 0, 1) := by decide +kernel
theorem dX0_add_36 : decode cX0_add 36 = .ok (.getfield 27, 3) := by decide +kernel
theorem dX0_add_39 : decode cX0_add 39 = .ok (.iload_n 3, 1) := by decide +kernel
theorem dX0_add_40 : decode cX0_add 40 = .ok (.iastore, 1) := by decide +kernel
theorem dX0_add_41 : decode cX0_add 41 = .ok (.aload_n 0, 1) := by decide +kernel
theorem dX0_add_42 : decode cX0_add 42 = .ok (.getfield 21, 3) := by decide +kernel
theorem dX0_add_45 : decode cX0_add 45 = .ok (.aload_n 0, 1) := by decide +kernel
theorem dX0_add_46 : decode cX0_add 46 = .ok (.getfield 27, 3) := by decide +kernel
theorem dX0_add_49 : decode cX0_add 49 = .ok (.iload 4, 2) := by decide +kernel
theorem dX0_add_51 : decode cX0_add 51 = .ok (.iastore, 1) := by decide +kernel
theorem dX0_add_52 : decode cX0_add 52 = .ok (.aload_n 0, 1) := by decide +kernel
theorem dX0_add_53 : decode cX0_add 53 = .ok (.getfield 24, 3) := by decide +kernel
theorem dX0_add_56 : decode cX0_add 56 = .ok (.aload_n 0, 1) := by decide +kernel
theorem dX0_add_57 : decode cX0_add 57 = .ok (.getfield 27, 3) := by decide +kernel
theorem dX0_add_60 : decode cX0_add 60 = .ok (.iconst 1, 1) := by decide +kernel
theorem dX0_add_61 : decode cX0_add 61 = .ok (.aload_n 0, 1) := by decide +kernel
theorem dX0_add_62 : decode cX0_add 62 = .ok (.iload_n 3, 1) := by decide +kernel
theorem dX0_add_63 : decode cX0_add 63 = .ok (.invokevirtual 31, 3) := by decide +kernel
theorem dX0_add_66 : decode cX0_add 66 = .ok (.iadd, 1) := by decide +kernel
theorem dX0_add_67 : decode cX0_add 67 = .ok (.aload_n 0, 1) := by decide +kernel
theorem dX0_add_68 : decode cX0_add 68 = .ok (.iload 4, 2) := by decide +kernel
theorem dX0_add_70 : decode cX0_add 70 = .ok (.invokevirtual 31, 3) := by decide +kernel
theorem dX0_add_73 : decode cX0_add 73 = .ok (.iadd, 1) := by decide +kernel
theorem dX0_add_74 : decode cX0_add 74 = .ok (.iastore, 1) := by decide +kernel
theorem dX0_add_75 : decode cX0_add 75 = .ok (.aload_n 0, 1) := by decide +kernel
theorem dX0_add_76 : decode cX0_add 76 = .ok (.dup, 1) := by decide +kernel
theorem dX0_add_77 : decode cX0_add 77 = .ok (.getfield 27, 3) := by decide +kernel
theorem dX0_add_80 : decode cX0_add 80 = .ok (.iconst 1, 1) := by decide +kernel
theorem dX0_add_81 : decode cX0_add 81 = .ok (.iadd, 1) := by decide +kernel
theorem dX0_add_82 : decode cX0_add 82 = .ok (.putfield 27, 3) := by decide +kernel
theorem dX0_add_85 : decode cX0_add 85 = .ok (.aload_n 0, 1) := by decide +kernel
theorem dX0_add_86 : decode cX0_add 86 = .ok (.getfield 27, 3) := by decide +kernel
theorem dX0_add_89 : decode cX0_add 89 = .ok (.iconst 1, 1) := by decide +kernel
theorem dX0_add_90 : decode cX0_add 90 = .ok (.isub, 1) := by decide +kernel
theorem dX0_add_91 : decode cX0_add 91 = .ok (.ireturn, 1) := by decide +kernel
theorem dX0_addAllOf_0 : decode cX0_addAllOf 0 = .ok (.aload_n 0, 1) := by decide +kernel
theorem dX0_addAllOf_1 : decode cX0_addAllOf 1 = .ok (.getfield 27, 3) := by decide +kernel
theorem dX0_addAllOf_4 : decode cX0_addAllOf 4 = .ok (.istore_n 2, 1) := by decide +kernel
theorem dX0_addAllOf_5 : decode cX0_addAllOf 5 = .ok (.iconst 0, 1) := by decide +kernel
theorem dX0_addAllOf_6 : decode cX0_addAllOf 6 = .ok (.istore_n 3, 1) := by decide +kernel
theorem dX0_addAllOf_7 : decode cX0_addAllOf 7 = .ok (.iload_n 3, 1) := by decide +kernel
theorem dX0_addAllOf_8 : decode cX0_addAllOf 8 = .ok (.aload_n 1, 1) := by decide +kernel
theorem dX0_addAllOf_9 : decode cX0_addAllOf 9 = .ok (.getfield 27, 3) := by decide +kernel
theorem dX0_addAllOf_12 : decode cX0_addAllOf 12 = .ok (.if_icmp .ge 46, 3) := by decide +kernel
theorem dX0_addAllOf_15 : decode cX0_addAllOf 15 = .ok (.aload_n 0, 1) := by decide +kernel
theorem dX0_addAllOf_16 : decode cX0_addAllOf 16 = .ok (.aload_n 1, 1) := by decide +kernel
theorem dX0_addAllOf_17 : decode cX0_addAllOf 17 = .ok (.getfield 11, 3) := by decide +kernel
theorem dX0_addAllOf_20 : decode cX0_addAllOf 20 = .ok (.iload_n 3, 1) := by decide +kernel
theorem dX0_addAllOf_21 : decode cX0_addAllOf 21 = .ok (.iaload, 1) := by decide +kernel
theorem dX0_addAllOf_22 : decode cX0_addAllOf 22 = .ok (.aload_n 1, 1) := by decide +kernel
theorem dX0_addAllOf_23 : decode cX0_addAllOf 23 = .ok (.getfield 15, 3) := by decide +kernel
theorem dX0_addAllOf_26 : decode cX0_addAllOf 26 = .ok (.iload_n 3, 1) := by decide +kernel
theorem dX0_addAllOf_27 : decode cX0_addAllOf 27 = .ok (.iaload, 1) := by decide +kernel
theorem dX0_addAllOf_28 : decode cX0_addAllOf 28 = .ok (.aload_n 1, 1) := by decide +kernel
theorem dX0_addAllOf_29 : decode cX0_addAllOf 29 = .ok (.getfield 18, 3) := by decide +kernel
theorem dX0_addAllOf_32 : decode cX0_addAllOf 32 = .ok (.iload_n 3, 1) := by decide +kernel
theorem dX0_addAllOf_33 : decode cX0_addAllOf 33 = .ok (.iaload, 1) := by decide +kernel
theorem dX0_addAllOf_34 : decode cX0_addAllOf 34 = .ok (.iload_n 2, 1) := by decide +kernel
theorem dX0_addAllOf_35 : decode cX0_addAllOf 35 = .ok (.invokestatic 35, 3) := by decide +kernel
theorem dX0_addAllOf_38 : decode cX0_addAllOf 38 = .ok (.aload_n 1, 1) := by decide +kernel
theorem dX0_addAllOf_39 : decode cX0_addAllOf 39 = .ok (.getfield 21, 3) := by decide +kernel
theorem dX0_addAllOf_42 : decode cX0_addAllOf 42 = .ok (.iload_n 3, 1) := by decide +kernel
theorem dX0_addAllOf_43 : decode cX0_addAllOf 43 = .ok (.iaload, 1) := by decide +kernel
theorem dX0_addAllOf_44 : decode cX0_addAllOf 44 = .ok (.iload_n 2, 1) := by decide +kernel
theorem dX0_addAllOf_45 : decode cX0_addAllOf 45 = .ok (.invokestatic 35, 3) := by decide +kernel
theorem dX0_addAllOf_48 : decode cX0_addAllOf 48 = .ok (.invokevirtual 39, 3) := by decide +kernel
theorem dX0_addAllOf_51 : decode cX0_addAllOf 51 = .ok (.pop, 1) := by decide +kernel
theorem dX0_addAllOf_52 : decode cX0_addAllOf 52 = .ok (.iinc 3 1, 3) := by decide +kernel
theorem dX0_addAllOf_55 : decode cX0_addAllOf 55 = .ok (.goto (-48), 3) := by decide +kernel
theorem dX0_addAllOf_58 : decode cX0_addAllOf 58 = .ok (.return_, 1) := by decide +kernel
theorem dX0_shifted_0 : decode cX0_shifted 0 = .ok (.iload_n 0, 1) := by decide +kernel
theorem dX0_shifted_1 : decode cX0_shifted 1 = .ok (.iconst (-1), 1) := by decide +kernel
theorem dX0_shifted_2 : decode cX0_shifted 2 = .ok (.if_icmp .ne 7, 3) := by decide +kernel
theorem dX0_shifted_5 : decode cX0_shifted 5 = .ok (.iconst (-1), 1) := by decide +kernel
theorem dX0_shifted_6 : decode cX0_shifted 6 = .ok (.goto 6, 3) := by decide +kernel
theorem dX0_shifted_9 : decode cX0_shifted 9 = .ok (.iload_n 0, 1) := by decide +kernel
theorem dX0_shifted_10 : decode cX0_shifted 10 = .ok (.iload_n 1, 1) := by decide +kernel
theorem dX0_shifted_11 : decode cX0_shifted 11 = .ok (.iadd, 1) := by decide +kernel
theorem dX0_shifted_12 : decode cX0_shifted 12 = .ok (.ireturn, 1) := by decide +kernel
theorem dX0_operatorAt_0 : decode cX0_operatorAt 0 = .ok (.aload_n 0, 1) := by decide +kernel
theorem dX0_operatorAt_1 : decode cX0_operatorAt 1 = .ok (.iload_n 1, 1) := by decide +kernel
theorem dX0_operatorAt_2 : decode cX0_operatorAt 2 = .ok (.invokevirtual 43, 3) := by decide +kernel
theorem dX0_operatorAt_5 : decode cX0_operatorAt 5 = .ok (.ifCond .eq 12, 3) := by decide +kernel
theorem dX0_operatorAt_8 : decode cX0_operatorAt 8 = .ok (.aload_n 0, 1) := by decide +kernel
theorem dX0_operatorAt_9 : decode cX0_operatorAt 9 = .ok (.getfield 11, 3) := by decide +kernel
theorem dX0_operatorAt_12 : decode cX0_operatorAt 12 = .ok (.iload_n 1, 1) := by decide +kernel
theorem dX0_operatorAt_13 : decode cX0_operatorAt 13 = .ok (.iaload, 1) := by decide +kernel
theorem dX0_operatorAt_14 : decode cX0_operatorAt 14 = .ok (.goto 4, 3) := by decide +kernel
theorem dX0_operatorAt_17 : decode cX0_operatorAt 17 = .ok (.iconst (-1), 1) := by decide +kernel
theorem dX0_operatorAt_18 : decode cX0_operatorAt 18 = .ok (.ireturn, 1) := by decide +kernel
theorem dX0_letterAt_0 : decode cX0_letterAt 0 = .ok (.aload_n 0, 1) := by decide +kernel
theorem dX0_letterAt_1 : decode cX0_letterAt 1 = .ok (.iload_n 1, 1) := by decide +kernel
theorem dX0_letterAt_2 : decode cX0_letterAt 2 = .ok (.invokevirtual 43, 3) := by decide +kernel
theorem dX0_letterAt_5 : decode cX0_letterAt 5 = .ok (.ifCond .eq 12, 3) := by decide +kernel
theorem dX0_letterAt_8 : decode cX0_letterAt 8 = .ok (.aload_n 0, 1) := by decide +kernel
theorem dX0_letterAt_9 : decode cX0_letterAt 9 = .ok (.getfield 15, 3) := by decide +kernel
theorem dX0_letterAt_12 : decode cX0_letterAt 12 = .ok (.iload_n 1, 1) := by decide +kernel
theorem dX0_letterAt_13 : decode cX0_letterAt 13 = .ok (.iaload, 1) := by decide +kernel
theorem dX0_letterAt_14 : decode cX0_letterAt 14 = .ok (.goto 4, 3) := by decide +kernel
theorem dX0_letterAt_17 : decode cX0_letterAt 17 = .ok (.iconst (-1), 1) := by decide +kernel
theorem dX0_letterAt_18 : decode cX0_letterAt 18 = .ok (.ireturn, 1) := by decide +kernel
theorem dX0_beforeAt_0 : decode cX0_beforeAt 0 = .ok (.aload_n 0, 1) := by decide +kernel
theorem dX0_beforeAt_1 : decode cX0_beforeAt 1 = .ok (.iload_n 1, 1) := by decide +kernel
theorem dX0_beforeAt_2 : decode cX0_beforeAt 2 = .ok (.invokevirtual 43, 3) := by decide +kernel
theorem dX0_beforeAt_5 : decode cX0_beforeAt 5 = .ok (.ifCond .eq 12, 3) := by decide +kernel
theorem dX0_beforeAt_8 : decode cX0_beforeAt 8 = .ok (.aload_n 0, 1) := by decide +kernel
theorem dX0_beforeAt_9 : decode cX0_beforeAt 9 = .ok (.getfield 18, 3) := by decide +kernel
theorem dX0_beforeAt_12 : decode cX0_beforeAt 12 = .ok (.iload_n 1, 1) := by decide +kernel
theorem dX0_beforeAt_13 : decode cX0_beforeAt 13 = .ok (.iaload, 1) := by decide +kernel
theorem dX0_beforeAt_14 : decode cX0_beforeAt 14 = .ok (.goto 4, 3) := by decide +kernel
theorem dX0_beforeAt_17 : decode cX0_beforeAt 17 = .ok (.iconst (-1), 1) := by decide +kernel
theorem dX0_beforeAt_18 : decode cX0_beforeAt 18 = .ok (.ireturn, 1) := by decide +kernel
theorem dX0_afterAt_0 : decode cX0_afterAt 0 = .ok (.aload_n 0, 1) := by decide +kernel
theorem dX0_afterAt_1 : decode cX0_afterAt 1 = .ok (.iload_n 1, 1) := by decide +kernel
theorem dX0_afterAt_2 : decode cX0_afterAt 2 = .ok (.invokevirtual 43, 3) := by decide +kernel
theorem dX0_afterAt_5 : decode cX0_afterAt 5 = .ok (.ifCond .eq 12, 3) := by decide +kernel
theorem dX0_afterAt_8 : decode cX0_afterAt 8 = .ok (.aload_n 0, 1) := by decide +kernel
theorem dX0_afterAt_9 : decode cX0_afterAt 9 = .ok (.getfield 21, 3) := by decide +kernel
theorem dX0_afterAt_12 : decode cX0_afterAt 12 = .ok (.iload_n 1, 1) := by decide +kernel
theorem dX0_afterAt_13 : decode cX0_afterAt 13 = .ok (.iaload, 1) := by decide +kernel
theorem dX0_afterAt_14 : decode cX0_afterAt 14 = .ok (.goto 4, 3) := by decide +kernel
theorem dX0_afterAt_17 : decode cX0_afterAt 17 = .ok (.iconst (-1), 1) := by decide +kernel
theorem dX0_afterAt_18 : decode cX0_afterAt 18 = .ok (.ireturn, 1) := by decide +kernel
theorem dX0_sizeAt_0 : decode cX0_sizeAt 0 = .ok (.aload_n 0, 1) := by decide +kernel
theorem dX0_sizeAt_1 : decode cX0_sizeAt 1 = .ok (.iload_n 1, 1) := by decide +kernel
theorem dX0_sizeAt_2 : decode cX0_sizeAt 2 = .ok (.invokevirtual 43, 3) := by decide +kernel
theorem dX0_sizeAt_5 : decode cX0_sizeAt 5 = .ok (.ifCond .eq 12, 3) := by decide +kernel
theorem dX0_sizeAt_8 : decode cX0_sizeAt 8 = .ok (.aload_n 0, 1) := by decide +kernel
theorem dX0_sizeAt_9 : decode cX0_sizeAt 9 = .ok (.getfield 24, 3) := by decide +kernel
theorem dX0_sizeAt_12 : decode cX0_sizeAt 12 = .ok (.iload_n 1, 1) := by decide +kernel
theorem dX0_sizeAt_13 : decode cX0_sizeAt 13 = .ok (.iaload, 1) := by decide +kernel
theorem dX0_sizeAt_14 : decode cX0_sizeAt 14 = .ok (.goto 4, 3) := by decide +kernel
theorem dX0_sizeAt_17 : decode cX0_sizeAt 17 = .ok (.iconst 0, 1) := by decide +kernel
theorem dX0_sizeAt_18 : decode cX0_sizeAt 18 = .ok (.ireturn, 1) := by decide +kernel
theorem dX0_operandAt_0 : decode cX0_operandAt 0 = .ok (.aload_n 0, 1) := by decide +kernel
theorem dX0_operandAt_1 : decode cX0_operandAt 1 = .ok (.iload_n 1, 1) := by decide +kernel
theorem dX0_operandAt_2 : decode cX0_operandAt 2 = .ok (.invokevirtual 47, 3) := by decide +kernel
theorem dX0_operandAt_5 : decode cX0_operandAt 5 = .ok (.istore_n 3, 1) := by decide +kernel
theorem dX0_operandAt_6 : decode cX0_operandAt 6 = .ok (.aload_n 0, 1) := by decide +kernel
theorem dX0_operandAt_7 : decode cX0_operandAt 7 = .ok (.iload_n 1, 1) := by decide +kernel
theorem dX0_operandAt_8 : decode cX0_operandAt 8 = .ok (.invokevirtual 50, 3) := by decide +kernel
theorem dX0_operandAt_11 : decode cX0_operandAt 11 = .ok (.istore 4, 2) := by decide +kernel
theorem dX0_operandAt_13 : decode cX0_operandAt 13 = .ok (.iload_n 2, 1) := by decide +kernel
theorem dX0_operandAt_14 : decode cX0_operandAt 14 = .ok (.ifCond .ne 15, 3) := by decide +kernel
theorem dX0_operandAt_17 : decode cX0_operandAt 17 = .ok (.iload_n 3, 1) := by decide +kernel
theorem dX0_operandAt_18 : decode cX0_operandAt 18 = .ok (.iconst (-1), 1) := by decide +kernel
theorem dX0_operandAt_19 : decode cX0_operandAt 19 = .ok (.if_icmp .ne 8, 3) := by decide +kernel
theorem dX0_operandAt_22 : decode cX0_operandAt 22 = .ok (.iload 4, 2) := by decide +kernel
theorem dX0_operandAt_24 : decode cX0_operandAt 24 = .ok (.goto 4, 3) := by decide +kernel
theorem dX0_operandAt_27 : decode cX0_operandAt 27 = .ok (.iload_n 3, 1) := by decide +kernel
theorem dX0_operandAt_28 : decode cX0_operandAt 28 = .ok (.ireturn, 1) := by decide +kernel
theorem dX0_operandAt_29 : decode cX0_operandAt 29 = .ok (.iload_n 2, 1) := by decide +kernel
theorem dX0_operandAt_30 : decode cX0_operandAt 30 = .ok (.iconst 1, 1) := by decide +kernel
theorem dX0_operandAt_31 : decode cX0_operandAt 31 = .ok (.if_icmp .ne 13, 3) := by decide +kernel
theorem dX0_operandAt_34 : decode cX0_operandAt 34 = .ok (.iload_n 3, 1) := by decide +kernel
theorem dX0_operandAt_35 : decode cX0_operandAt 35 = .ok (.iconst (-1), 1) := by decide +kernel
theorem dX0_operandAt_36 : decode cX0_operandAt 36 = .ok (.if_icmp .eq 8, 3) := by decide +kernel
theorem dX0_operandAt_39 : decode cX0_operandAt 39 = .ok (.iload 4, 2) := by decide +kernel
theorem dX0_operandAt_41 : decode cX0_operandAt 41 = .ok (.goto 4, 3) := by decide +kernel
theorem dX0_operandAt_44 : decode cX0_operandAt 44 = .ok (.iconst (-1), 1) := by decide +kernel
theorem dX0_operandAt_45 : decode cX0_operandAt 45 = .ok (.ireturn, 1) := by decide +kernel
theorem dX1_count_0 : decode cX1_count 0 = .ok (.aload_n 0, 1) := by decide +kernel
theorem dX1_count_1 : decode cX1_count 1 = .ok (.getfield 28, 3) := by decide +kernel
theorem dX1_count_4 : decode cX1_count 4 = .ok (.ireturn, 1) := by decide +kernel
theorem dX1_has_0 : decode cX1_has 0 = .ok (.iload_n 1, 1) := by decide +kernel
theorem dX1_has_1 : decode cX1_has 1 = .ok (.ifCond .lt 15, 3) := by decide +kernel
theorem dX1_has_4 : decode cX1_has 4 = .ok (.iload_n 1, 1) := by decide +kernel
theorem dX1_has_5 : decode cX1_has 5 = .ok (.aload_n 0, 1) := by decide +kernel
theorem dX1_has_6 : decode cX1_has 6 = .ok (.getfield 28, 3) := by decide +kernel
theorem dX1_has_9 : decode cX1_has 9 = .ok (.if_icmp .ge 7, 3) := by decide +kernel
theorem dX1_has_12 : decode cX1_has 12 = .ok (.iconst 1, 1) := by decide +kernel
theorem dX1_has_13 : decode cX1_has 13 = .ok (.goto 4, 3) := by decide +kernel
theorem dX1_has_16 : decode cX1_has 16 = .ok (.iconst 0, 1) := by decide +kernel
theorem dX1_has_17 : decode cX1_has 17 = .ok (.ireturn, 1) := by decide +kernel
theorem dX1_add_0 : decode cX1_add 0 = .ok (.aload_n 0, 1) := by decide +kernel
theorem dX1_add_1 : decode cX1_add 1 = .ok (.getfield 28, 3) := by decide +kernel
theorem dX1_add_4 : decode cX1_add 4 = .ok (.bipush 16, 2) := by decide +kernel
theorem dX1_add_6 : decode cX1_add 6 = .ok (.if_icmp .lt 5, 3) := by decide +kernel
theorem dX1_add_9 : decode cX1_add 9 = .ok (.iconst (-1), 1) := by decide +kernel
theorem dX1_add_10 : decode cX1_add 10 = .ok (.ireturn, 1) := by decide +kernel
theorem dX1_add_11 : decode cX1_add 11 = .ok (.aload_n 0, 1) := by decide +kernel
theorem dX1_add_12 : decode cX1_add 12 = .ok (.getfield 9, 3) := by decide +kernel
theorem dX1_add_15 : decode cX1_add 15 = .ok (.aload_n 0, 1) := by decide +kernel
theorem dX1_add_16 : decode cX1_add 16 = .ok (.getfield 28, 3) := by decide +kernel
theorem dX1_add_19 : decode cX1_add 19 = .ok (.iload_n 1, 1) := by decide +kernel
theorem dX1_add_20 : decode cX1_add 20 = .ok (.iastore, 1) := by decide +kernel
theorem dX1_add_21 : decode cX1_add 21 = .ok (.aload_n 0, 1) := by decide +kernel
theorem dX1_add_22 : decode cX1_add 22 = .ok (.getfield 15, 3) := by decide +kernel
theorem dX1_add_25 : decode cX1_add 25 = .ok (.aload_n 0, 1) := by decide +kernel
theorem dX1_add_26 : decode cX1_add 26 = .ok (.getfield 28, 3) := by decide +kernel
theorem dX1_add_29 : decode cX1_add 29 = .ok (.iload_n 2, 1) := by decide +kernel
theorem dX1_add_30 : decode cX1_add 30 = .ok (.iastore, 1) := by decide +kernel
theorem dX1_add_31 : decode cX1_add 31 = .ok (.aload_n 0, 1) := by decide +kernel
theorem dX1_add_32 : decode cX1_add 32 = .ok (.getfield 18, 3) := by decide +kernel
theorem dX1_add_35 : decode cX1_add 35 = .ok (.aload_n 0, 1) := by decide +kernel
theorem dX1_add_36 : decode cX1_add 36 = .ok (.getfield 28, 3) := by decide +kernel
theorem dX1_add_39 : decode cX1_add 39 = .ok (.iload_n 3, 1) := by decide +kernel
theorem dX1_add_40 : decode cX1_add 40 = .ok (.iastore, 1) := by decide +kernel
theorem dX1_add_41 : decode cX1_add 41 = .ok (.aload_n 0, 1) := by decide +kernel
theorem dX1_add_42 : decode cX1_add 42 = .ok (.dup, 1) := by decide +kernel
theorem dX1_add_43 : decode cX1_add 43 = .ok (.getfield 28, 3) := by decide +kernel
theorem dX1_add_46 : decode cX1_add 46 = .ok (.iconst 1, 1) := by decide +kernel
theorem dX1_add_47 : decode cX1_add 47 = .ok (.iadd, 1) := by decide +kernel
theorem dX1_add_48 : decode cX1_add 48 = .ok (.putfield 28, 3) := by decide +kernel
theorem dX1_add_51 : decode cX1_add 51 = .ok (.aload_n 0, 1) := by decide +kernel
theorem dX1_add_52 : decode cX1_add 52 = .ok (.getfield 28, 3) := by decide +kernel
theorem dX1_add_55 : decode cX1_add 55 = .ok (.iconst 1, 1) := by decide +kernel
theorem dX1_add_56 : decode cX1_add 56 = .ok (.isub, 1) := by decide +kernel
theorem dX1_add_57 : decode cX1_add 57 = .ok (.ireturn, 1) := by decide +kernel
theorem dX1_find_0 : decode cX1_find 0 = .ok (.iconst 0, 1) := by decide +kernel
theorem dX1_find_1 : decode cX1_find 1 = .ok (.istore_n 3, 1) := by decide +kernel
theorem dX1_find_2 : decode cX1_find 2 = .ok (.iload_n 3, 1) := by decide +kernel
theorem dX1_find_3 : decode cX1_find 3 = .ok (.aload_n 0, 1) := by decide +kernel
theorem dX1_find_4 : decode cX1_find 4 = .ok (.getfield 28, 3) := by decide +kernel
theorem dX1_find_7 : decode cX1_find 7 = .ok (.if_icmp .ge 40, 3) := by decide +kernel
theorem dX1_find_10 : decode cX1_find 10 = .ok (.aload_n 0, 1) := by decide +kernel
theorem dX1_find_11 : decode cX1_find 11 = .ok (.getfield 9, 3) := by decide +kernel
theorem dX1_find_14 : decode cX1_find 14 = .ok (.iload_n 3, 1) := by decide +kernel
theorem dX1_find_15 : decode cX1_find 15 = .ok (.iaload, 1) := by decide +kernel
theorem dX1_find_16 : decode cX1_find 16 = .ok (.iload_n 1, 1) := by decide +kernel
theorem dX1_find_17 : decode cX1_find 17 = .ok (.if_icmp .ne 24, 3) := by decide +kernel
theorem dX1_find_20 : decode cX1_find 20 = .ok (.aload_n 0, 1) := by decide +kernel
theorem dX1_find_21 : decode cX1_find 21 = .ok (.getfield 15, 3) := by decide +kernel
theorem dX1_find_24 : decode cX1_find 24 = .ok (.iload_n 3, 1) := by decide +kernel
theorem dX1_find_25 : decode cX1_find 25 = .ok (.iaload, 1) := by decide +kernel
theorem dX1_find_26 : decode cX1_find 26 = .ok (.iconst 1, 1) := by decide +kernel
theorem dX1_find_27 : decode cX1_find 27 = .ok (.if_icmp .ne 7, 3) := by decide +kernel
theorem dX1_find_30 : decode cX1_find 30 = .ok (.iconst 1, 1) := by decide +kernel
theorem dX1_find_31 : decode cX1_find 31 = .ok (.goto 4, 3) := by decide +kernel
theorem dX1_find_34 : decode cX1_find 34 = .ok (.iconst 0, 1) := by decide +kernel
theorem dX1_find_35 : decode cX1_find 35 = .ok (.iload_n 2, 1) := by decide +kernel
theorem dX1_find_36 : decode cX1_find 36 = .ok (.if_icmp .ne 5, 3) := by decide +kernel
theorem dX1_find_39 : decode cX1_find 39 = .ok (.iload_n 3, 1) := by decide +kernel
theorem dX1_find_40 : decode cX1_find 40 = .ok (.ireturn, 1) := by decide +kernel
theorem dX1_find_41 : decode cX1_find 41 = .ok (.iinc 3 1, 3) := by decide +kernel
theorem dX1_find_44 : decode cX1_find 44 = .ok (.goto (-42), 3) := by decide +kernel
theorem dX1_find_47 : decode cX1_find 47 = .ok (.iconst (-1), 1) := by decide +kernel
theorem dX1_find_48 : decode cX1_find 48 = .ok (.ireturn, 1) := by decide +kernel
theorem dX1_symbolAt_0 : decode cX1_symbolAt 0 = .ok (.aload_n 0, 1) := by decide +kernel
theorem dX1_symbolAt_1 : decode cX1_symbolAt 1 = .ok (.iload_n 1, 1) := by decide +kernel
theorem dX1_symbolAt_2 : decode cX1_symbolAt 2 = .ok (.invokevirtual 32, 3) := by decide +kernel
theorem dX1_symbolAt_5 : decode cX1_symbolAt 5 = .ok (.ifCond .eq 12, 3) := by decide +kernel
theorem dX1_symbolAt_8 : decode cX1_symbolAt 8 = .ok (.aload_n 0, 1) := by decide +kernel
theorem dX1_symbolAt_9 : decode cX1_symbolAt 9 = .ok (.getfield 9, 3) := by decide +kernel
theorem dX1_symbolAt_12 : decode cX1_symbolAt 12 = .ok (.iload_n 1, 1) := by decide +kernel
theorem dX1_symbolAt_13 : decode cX1_symbolAt 13 = .ok (.iaload, 1) := by decide +kernel
theorem dX1_symbolAt_14 : decode cX1_symbolAt 14 = .ok (.goto 4, 3) := by decide +kernel
theorem dX1_symbolAt_17 : decode cX1_symbolAt 17 = .ok (.iconst (-1), 1) := by decide +kernel
theorem dX1_symbolAt_18 : decode cX1_symbolAt 18 = .ok (.ireturn, 1) := by decide +kernel
theorem dX1_kindAt_0 : decode cX1_kindAt 0 = .ok (.aload_n 0, 1) := by decide +kernel
theorem dX1_kindAt_1 : decode cX1_kindAt 1 = .ok (.iload_n 1, 1) := by decide +kernel
theorem dX1_kindAt_2 : decode cX1_kindAt 2 = .ok (.invokevirtual 32, 3) := by decide +kernel
theorem dX1_kindAt_5 : decode cX1_kindAt 5 = .ok (.ifCond .eq 12, 3) := by decide +kernel
theorem dX1_kindAt_8 : decode cX1_kindAt 8 = .ok (.aload_n 0, 1) := by decide +kernel
theorem dX1_kindAt_9 : decode cX1_kindAt 9 = .ok (.getfield 15, 3) := by decide +kernel
theorem dX1_kindAt_12 : decode cX1_kindAt 12 = .ok (.iload_n 1, 1) := by decide +kernel
theorem dX1_kindAt_13 : decode cX1_kindAt 13 = .ok (.iaload, 1) := by decide +kernel
theorem dX1_kindAt_14 : decode cX1_kindAt 14 = .ok (.goto 4, 3) := by decide +kernel
theorem dX1_kindAt_17 : decode cX1_kindAt 17 = .ok (.iconst (-1), 1) := by decide +kernel
theorem dX1_kindAt_18 : decode cX1_kindAt 18 = .ok (.ireturn, 1) := by decide +kernel
theorem dX1_levelAt_0 : decode cX1_levelAt 0 = .ok (.aload_n 0, 1) := by decide +kernel
theorem dX1_levelAt_1 : decode cX1_levelAt 1 = .ok (.iload_n 1, 1) := by decide +kernel
theorem dX1_levelAt_2 : decode cX1_levelAt 2 = .ok (.invokevirtual 32, 3) := by decide +kernel
theorem dX1_levelAt_5 : decode cX1_levelAt 5 = .ok (.ifCond .eq 12, 3) := by decide +kernel
theorem dX1_levelAt_8 : decode cX1_levelAt 8 = .ok (.aload_n 0, 1) := by decide +kernel
theorem dX1_levelAt_9 : decode cX1_levelAt 9 = .ok (.getfield 18, 3) := by decide +kernel
theorem dX1_levelAt_12 : decode cX1_levelAt 12 = .ok (.iload_n 1, 1) := by decide +kernel
theorem dX1_levelAt_13 : decode cX1_levelAt 13 = .ok (.iaload, 1) := by decide +kernel
theorem dX1_levelAt_14 : decode cX1_levelAt 14 = .ok (.goto 4, 3) := by decide +kernel
theorem dX1_levelAt_17 : decode cX1_levelAt 17 = .ok (.iconst 0, 1) := by decide +kernel
theorem dX1_levelAt_18 : decode cX1_levelAt 18 = .ok (.ireturn, 1) := by decide +kernel
theorem dX1_replaceLevel_0 : decode cX1_replaceLevel 0 = .ok (.aload_n 0, 1) := by decide +kernel
theorem dX1_replaceLevel_1 : decode cX1_replaceLevel 1 = .ok (.iload_n 1, 1) := by decide +kernel
theorem dX1_replaceLevel_2 : decode cX1_replaceLevel 2 = .ok (.invokevirtual 36, 3) := by decide +kernel
theorem dX1_replaceLevel_5 : decode cX1_replaceLevel 5 = .ok (.istore_n 3, 1) := by decide +kernel
theorem dX1_replaceLevel_6 : decode cX1_replaceLevel 6 = .ok (.aload_n 0, 1) := by decide +kernel
theorem dX1_replaceLevel_7 : decode cX1_replaceLevel 7 = .ok (.iload_n 1, 1) := by decide +kernel
theorem dX1_replaceLevel_8 : decode cX1_replaceLevel 8 = .ok (.invokevirtual 32, 3) := by decide +kernel
theorem dX1_replaceLevel_11 : decode cX1_replaceLevel 11 = .ok (.ifCond .eq 10, 3) := by decide +kernel
theorem dX1_replaceLevel_14 : decode cX1_replaceLevel 14 = .ok (.aload_n 0, 1) := by decide +kernel
theorem dX1_replaceLevel_15 : decode cX1_replaceLevel 15 = .ok (.getfield 18, 3) := by decide +kernel
theorem dX1_replaceLevel_18 : decode cX1_replaceLevel 18 = .ok (.iload_n 1, 1) := by decide +kernel
theorem dX1_replaceLevel_19 : decode cX1_replaceLevel 19 = .ok (.iload_n 2, 1) := by decide +kernel
theorem dX1_replaceLevel_20 : decode cX1_replaceLevel 20 = .ok (.iastore, 1) := by decide +kernel
theorem dX1_replaceLevel_21 : decode cX1_replaceLevel 21 = .ok (.iload_n 3, 1) := by decide +kernel
theorem dX1_replaceLevel_22 : decode cX1_replaceLevel 22 = .ok (.ireturn, 1) := by decide +kernel
theorem dX1_associativityAt_0 : decode cX1_associativityAt 0 = .ok (.iload_n 1, 1) := by decide +kernel
theorem dX1_associativityAt_1 : decode cX1_associativityAt 1 = .ok (.invokestatic 40, 3) := by decide +kernel
theorem dX1_associativityAt_4 : decode cX1_associativityAt 4 = .ok (.ifCond .eq 12, 3) := by decide +kernel
theorem dX1_associativityAt_7 : decode cX1_associativityAt 7 = .ok (.aload_n 0, 1) := by decide +kernel
theorem dX1_associativityAt_8 : decode cX1_associativityAt 8 = .ok (.getfield 21, 3) := by decide +kernel
theorem dX1_associativityAt_11 : decode cX1_associativityAt 11 = .ok (.iload_n 1, 1) := by decide +kernel
theorem dX1_associativityAt_12 : decode cX1_associativityAt 12 = .ok (.iaload, 1) := by decide +kernel
theorem dX1_associativityAt_13 : decode cX1_associativityAt 13 = .ok (.goto 4, 3) := by decide +kernel
theorem dX1_associativityAt_16 : decode cX1_associativityAt 16 = .ok (.iconst 0, 1) := by decide +kernel
theorem dX1_associativityAt_17 : decode cX1_associativityAt 17 = .ok (.ireturn, 1) := by decide +kernel
theorem dX1_replaceAssociativity_0 : decode cX1_replaceAssociativity 0 = .ok (.aload_n 0, 1) := by decide +kernel
theorem dX1_replaceAssociativity_1 : decode cX1_replaceAssociativity 1 = .ok (.iload_n 1, 1) := by decide +kernel
theorem dX1_replaceAssociativity_2 : decode cX1_replaceAssociativity 2 = .ok (.invokevirtual 43, 3) := by decide +kernel
theorem dX1_replaceAssociativity_5 : decode cX1_replaceAssociativity 5 = .ok (.istore_n 3, 1) := by decide +kernel
theorem dX1_replaceAssociativity_6 : decode cX1_replaceAssociativity 6 = .ok (.iload_n 1, 1) := by decide +kernel
theorem dX1_replaceAssociativity_7 : decode cX1_replaceAssociativity 7 = .ok (.invokestatic 40, 3) := by decide +kernel
theorem dX1_replaceAssociativity_10 : decode cX1_replaceAssociativity 10 = .ok (.ifCond .eq 10, 3) := by decide +kernel
theorem dX1_replaceAssociativity_13 : decode cX1_replaceAssociativity 13 = .ok (.aload_n 0, 1) := by decide +kernel
theorem dX1_replaceAssociativity_14 : decode cX1_replaceAssociativity 14 = .ok (.getfield 21, 3) := by decide +kernel
theorem dX1_replaceAssociativity_17 : decode cX1_replaceAssociativity 17 = .ok (.iload_n 1, 1) := by decide +kernel
theorem dX1_replaceAssociativity_18 : decode cX1_replaceAssociativity 18 = .ok (.iload_n 2, 1) := by decide +kernel
theorem dX1_replaceAssociativity_19 : decode cX1_replaceAssociativity 19 = .ok (.iastore, 1) := by decide +kernel
theorem dX1_replaceAssociativity_20 : decode cX1_replaceAssociativity 20 = .ok (.iload_n 3, 1) := by decide +kernel
theorem dX1_replaceAssociativity_21 : decode cX1_replaceAssociativity 21 = .ok (.ireturn, 1) := by decide +kernel
theorem dX1_isForbidden_0 : decode cX1_isForbidden 0 = .ok (.aload_n 0, 1) := by decide +kernel
theorem dX1_isForbidden_1 : decode cX1_isForbidden 1 = .ok (.iload_n 1, 1) := by decide +kernel
theorem dX1_isForbidden_2 : decode cX1_isForbidden 2 = .ok (.invokevirtual 32, 3) := by decide +kernel
theorem dX1_isForbidden_5 : decode cX1_isForbidden 5 = .ok (.ifCond .eq 29, 3) := by decide +kernel
theorem dX1_isForbidden_8 : decode cX1_isForbidden 8 = .ok (.aload_n 0, 1) := by decide +kernel
theorem dX1_isForbidden_9 : decode cX1_isForbidden 9 = .ok (.iload_n 2, 1) := by decide +kernel
theorem dX1_isForbidden_10 : decode cX1_isForbidden 10 = .ok (.invokevirtual 32, 3) := by decide +kernel
theorem dX1_isForbidden_13 : decode cX1_isForbidden 13 = .ok (.ifCond .eq 21, 3) := by decide +kernel
theorem dX1_isForbidden_16 : decode cX1_isForbidden 16 = .ok (.aload_n 0, 1) := by decide +kernel
theorem dX1_isForbidden_17 : decode cX1_isForbidden 17 = .ok (.getfield 24, 3) := by decide +kernel
theorem dX1_isForbidden_20 : decode cX1_isForbidden 20 = .ok (.iload_n 1, 1) := by decide +kernel
theorem dX1_isForbidden_21 : decode cX1_isForbidden 21 = .ok (.bipush 16, 2) := by decide +kernel
theorem dX1_isForbidden_23 : decode cX1_isForbidden 23 = .ok (.imul, 1) := by decide +kernel
theorem dX1_isForbidden_24 : decode cX1_isForbidden 24 = .ok (.iload_n 2, 1) := by decide +kernel
theorem dX1_isForbidden_25 : decode cX1_isForbidden 25 = .ok (.iadd, 1) := by decide +kernel
theorem dX1_isForbidden_26 : decode cX1_isForbidden 26 = .ok (.baload, 1) := by decide +kernel
theorem dX1_isForbidden_27 : decode cX1_isForbidden 27 = .ok (.ifCond .eq 7, 3) := by decide +kernel
theorem dX1_isForbidden_30 : decode cX1_isForbidden 30 = .ok (.iconst 1, 1) := by decide +kernel
theorem dX1_isForbidden_31 : decode cX1_isForbidden 31 = .ok (.goto 4, 3) := by decide +kernel
theorem dX1_isForbidden_34 : decode cX1_isForbidden 34 = .ok (.iconst 0, 1) := by decide +kernel
theorem dX1_isForbidden_35 : decode cX1_isForbidden 35 = .ok (.ireturn, 1) := by decide +kernel
theorem dX1_replaceForbidden_0 : decode cX1_replaceForbidden 0 = .ok (.aload_n 0, 1) := by decide +kernel
theorem dX1_replaceForbidden_1 : decode cX1_replaceForbidden 1 = .ok (.iload_n 1, 1) := by decide +kernel
theorem dX1_replaceForbidden_2 : decode cX1_replaceForbidden 2 = .ok (.iload_n 2, 1) := by decide +kernel
theorem dX1_replaceForbidden_3 : decode cX1_replaceForbidden 3 = .ok (.invokevirtual 46, 3) := by decide +kernel
theorem dX1_replaceForbidden_6 : decode cX1_replaceForbidden 6 = .ok (.istore 4, 2) := by decide +kernel
theorem dX1_replaceForbidden_8 : decode cX1_replaceForbidden 8 = .ok (.aload_n 0, 1) := by decide +kernel
theorem dX1_replaceForbidden_9 : decode cX1_replaceForbidden 9 = .ok (.iload_n 1, 1) := by decide +kernel
theorem dX1_replaceForbidden_10 : decode cX1_replaceForbidden 10 = .ok (.invokevirtual 32, 3) := by decide +kernel
theorem dX1_replaceForbidden_13 : decode cX1_replaceForbidden 13 = .ok (.ifCond .eq 23, 3) := by decide +kernel
theorem dX1_replaceForbidden_16 : decode cX1_replaceForbidden 16 = .ok (.aload_n 0, 1) := by decide +kernel
theorem dX1_replaceForbidden_17 : decode cX1_replaceForbidden 17 = .ok (.iload_n 2, 1) := by decide +kernel
theorem dX1_replaceForbidden_18 : decode cX1_replaceForbidden 18 = .ok (.invokevirtual 32, 3) := by decide +kernel
theorem dX1_replaceForbidden_21 : decode cX1_replaceForbidden 21 = .ok (.ifCond .eq 15, 3) := by decide +kernel
theorem dX1_replaceForbidden_24 : decode cX1_replaceForbidden 24 = .ok (.aload_n 0, 1) := by decide +kernel
theorem dX1_replaceForbidden_25 : decode cX1_replaceForbidden 25 = .ok (.getfield 24, 3) := by decide +kernel
theorem dX1_replaceForbidden_28 : decode cX1_replaceForbidden 28 = .ok (.iload_n 1, 1) := by decide +kernel
theorem dX1_replaceForbidden_29 : decode cX1_replaceForbidden 29 = .ok (.bipush 16, 2) := by decide +kernel
theorem dX1_replaceForbidden_31 : decode cX1_replaceForbidden 31 = .ok (.imul, 1) := by decide +kernel
theorem dX1_replaceForbidden_32 : decode cX1_replaceForbidden 32 = .ok (.iload_n 2, 1) := by decide +kernel
theorem dX1_replaceForbidden_33 : decode cX1_replaceForbidden 33 = .ok (.iadd, 1) := by decide +kernel
theorem dX1_replaceForbidden_34 : decode cX1_replaceForbidden 34 = .ok (.iload_n 3, 1) := by decide +kernel
theorem dX1_replaceForbidden_35 : decode cX1_replaceForbidden 35 = .ok (.bastore, 1) := by decide +kernel
theorem dX1_replaceForbidden_36 : decode cX1_replaceForbidden 36 = .ok (.iload 4, 2) := by decide +kernel
theorem dX1_replaceForbidden_38 : decode cX1_replaceForbidden 38 = .ok (.ireturn, 1) := by decide +kernel
theorem dX1_minAfter_0 : decode cX1_minAfter 0 = .ok (.aload_n 0, 1) := by decide +kernel
theorem dX1_minAfter_1 : decode cX1_minAfter 1 = .ok (.iload_n 1, 1) := by decide +kernel
theorem dX1_minAfter_2 : decode cX1_minAfter 2 = .ok (.invokevirtual 32, 3) := by decide +kernel
theorem dX1_minAfter_5 : decode cX1_minAfter 5 = .ok (.ifCond .ne 5, 3) := by decide +kernel
theorem dX1_minAfter_8 : decode cX1_minAfter 8 = .ok (.iconst 0, 1) := by decide +kernel
theorem dX1_minAfter_9 : decode cX1_minAfter 9 = .ok (.ireturn, 1) := by decide +kernel
theorem dX1_minAfter_10 : decode cX1_minAfter 10 = .ok (.aload_n 0, 1) := by decide +kernel
theorem dX1_minAfter_11 : decode cX1_minAfter 11 = .ok (.getfield 18, 3) := by decide +kernel
theorem dX1_minAfter_14 : decode cX1_minAfter 14 = .ok (.iload_n 1, 1) := by decide +kernel
theorem dX1_minAfter_15 : decode cX1_minAfter 15 = .ok (.iaload, 1) := by decide +kernel
theorem dX1_minAfter_16 : decode cX1_minAfter 16 = .ok (.istore_n 2, 1) := by decide +kernel
theorem dX1_minAfter_17 : decode cX1_minAfter 17 = .ok (.iload_n 2, 1) := by decide +kernel
theorem dX1_minAfter_18 : decode cX1_minAfter 18 = .ok (.invokestatic 40, 3) := by decide +kernel
theorem dX1_minAfter_21 : decode cX1_minAfter 21 = .ok (.ifCond .eq 17, 3) := by decide +kernel
theorem dX1_minAfter_24 : decode cX1_minAfter 24 = .ok (.aload_n 0, 1) := by decide +kernel
theorem dX1_minAfter_25 : decode cX1_minAfter 25 = .ok (.getfield 21, 3) := by decide +kernel
theorem dX1_minAfter_28 : decode cX1_minAfter 28 = .ok (.iload_n 2, 1) := by decide +kernel
theorem dX1_minAfter_29 : decode cX1_minAfter 29 = .ok (.iaload, 1) := by decide +kernel
theorem dX1_minAfter_30 : decode cX1_minAfter 30 = .ok (.iconst 1, 1) := by decide +kernel
theorem dX1_minAfter_31 : decode cX1_minAfter 31 = .ok (.if_icmp .ne 7, 3) := by decide +kernel
theorem dX1_minAfter_34 : decode cX1_minAfter 34 = .ok (.iconst 1, 1) := by decide +kernel
theorem dX1_minAfter_35 : decode cX1_minAfter 35 = .ok (.goto 4, 3) := by decide +kernel
theorem dX1_minAfter_38 : decode cX1_minAfter 38 = .ok (.iconst 0, 1) := by decide +kernel
theorem dX1_minAfter_39 : decode cX1_minAfter 39 = .ok (.istore_n 3, 1) := by decide +kernel
theorem dX1_minAfter_40 : decode cX1_minAfter 40 = .ok (.aload_n 0, 1) := by decide +kernel
theorem dX1_minAfter_41 : decode cX1_minAfter 41 = .ok (.getfield 15, 3) := by decide +kernel
theorem dX1_minAfter_44 : decode cX1_minAfter 44 = .ok (.iload_n 1, 1) := by decide +kernel
theorem dX1_minAfter_45 : decode cX1_minAfter 45 = .ok (.iaload, 1) := by decide +kernel
theorem dX1_minAfter_46 : decode cX1_minAfter 46 = .ok (.ifCond .ne 13, 3) := by decide +kernel
theorem dX1_minAfter_49 : decode cX1_minAfter 49 = .ok (.iload_n 3, 1) := by decide +kernel
theorem dX1_minAfter_50 : decode cX1_minAfter 50 = .ok (.ifCond .ne 9, 3) := by decide +kernel
theorem dX1_minAfter_53 : decode cX1_minAfter 53 = .ok (.iload_n 2, 1) := by decide +kernel
theorem dX1_minAfter_54 : decode cX1_minAfter 54 = .ok (.iconst 1, 1) := by decide +kernel
theorem dX1_minAfter_55 : decode cX1_minAfter 55 = .ok (.iadd, 1) := by decide +kernel
theorem dX1_minAfter_56 : decode cX1_minAfter 56 = .ok (.goto 4, 3) := by decide +kernel
theorem dX1_minAfter_59 : decode cX1_minAfter 59 = .ok (.iload_n 2, 1) := by decide +kernel
theorem dX1_minAfter_60 : decode cX1_minAfter 60 = .ok (.ireturn, 1) := by decide +kernel
theorem dX1_isNotAssociative_0 : decode cX1_isNotAssociative 0 = .ok (.aload_n 0, 1) := by decide +kernel
theorem dX1_isNotAssociative_1 : decode cX1_isNotAssociative 1 = .ok (.iload_n 1, 1) := by decide +kernel
theorem dX1_isNotAssociative_2 : decode cX1_isNotAssociative 2 = .ok (.invokevirtual 36, 3) := by decide +kernel
theorem dX1_isNotAssociative_5 : decode cX1_isNotAssociative 5 = .ok (.istore_n 3, 1) := by decide +kernel
theorem dX1_isNotAssociative_6 : decode cX1_isNotAssociative 6 = .ok (.aload_n 0, 1) := by decide +kernel
theorem dX1_isNotAssociative_7 : decode cX1_isNotAssociative 7 = .ok (.iload_n 1, 1) := by decide +kernel
theorem dX1_isNotAssociative_8 : decode cX1_isNotAssociative 8 = .ok (.invokevirtual 50, 3) := by decide +kernel
theorem dX1_isNotAssociative_11 : decode cX1_isNotAssociative 11 = .ok (.ifCond .ne 33, 3) := by decide +kernel
theorem dX1_isNotAssociative_14 : decode cX1_isNotAssociative 14 = .ok (.aload_n 0, 1) := by decide +kernel
theorem dX1_isNotAssociative_15 : decode cX1_isNotAssociative 15 = .ok (.iload_n 2, 1) := by decide +kernel
theorem dX1_isNotAssociative_16 : decode cX1_isNotAssociative 16 = .ok (.invokevirtual 50, 3) := by decide +kernel
theorem dX1_isNotAssociative_19 : decode cX1_isNotAssociative 19 = .ok (.ifCond .ne 25, 3) := by decide +kernel
theorem dX1_isNotAssociative_22 : decode cX1_isNotAssociative 22 = .ok (.aload_n 0, 1) := by decide +kernel
theorem dX1_isNotAssociative_23 : decode cX1_isNotAssociative 23 = .ok (.iload_n 2, 1) := by decide +kernel
theorem dX1_isNotAssociative_24 : decode cX1_isNotAssociative 24 = .ok (.invokevirtual 36, 3) := by decide +kernel
theorem dX1_isNotAssociative_27 : decode cX1_isNotAssociative 27 = .ok (.iload_n 3, 1) := by decide +kernel
theorem dX1_isNotAssociative_28 : decode cX1_isNotAssociative 28 = .ok (.if_icmp .ne 16, 3) := by decide +kernel
theorem dX1_isNotAssociative_31 : decode cX1_isNotAssociative 31 = .ok (.aload_n 0, 1) := by decide +kernel
theorem dX1_isNotAssociative_32 : decode cX1_isNotAssociative 32 = .ok (.iload_n 3, 1) := by decide +kernel
theorem dX1_isNotAssociative_33 : decode cX1_isNotAssociative 33 = .ok (.invokevirtual 43, 3) := by decide +kernel
theorem dX1_isNotAssociative_36 : decode cX1_isNotAssociative 36 = .ok (.iconst 2, 1) := by decide +kernel
theorem dX1_isNotAssociative_37 : decode cX1_isNotAssociative 37 = .ok (.if_icmp .ne 7, 3) := by decide +kernel
theorem dX1_isNotAssociative_40 : decode cX1_isNotAssociative 40 = .ok (.iconst 1, 1) := by decide +kernel
theorem dX1_isNotAssociative_41 : decode cX1_isNotAssociative 41 = .ok (.goto 4, 3) := by decide +kernel
theorem dX1_isNotAssociative_44 : decode cX1_isNotAssociative 44 = .ok (.iconst 0, 1) := by decide +kernel
theorem dX1_isNotAssociative_45 : decode cX1_isNotAssociative 45 = .ok (.ireturn, 1) := by decide +kernel
theorem dX3_length_0 : decode cX3_length 0 = .ok (.aload_n 0, 1) := by decide +kernel
theorem dX3_length_1 : decode cX3_length 1 = .ok (.getfield 15, 3) := by decide +kernel
theorem dX3_length_4 : decode cX3_length 4 = .ok (.ireturn, 1) := by decide +kernel
theorem dX3_empty_0 : decode cX3_empty 0 = .ok (.aload_n 0, 1) := by decide +kernel
theorem dX3_empty_1 : decode cX3_empty 1 = .ok (.iconst 0, 1) := by decide +kernel
theorem dX3_empty_2 : decode cX3_empty 2 = .ok (.putfield 15, 3) := by decide +kernel
theorem dX3_empty_5 : decode cX3_empty 5 = .ok (.return_, 1) := by decide +kernel
theorem dX3_put_0 : decode cX3_put 0 = .ok (.aload_n 0, 1) := by decide +kernel
theorem dX3_put_1 : decode cX3_put 1 = .ok (.getfield 15, 3) := by decide +kernel
theorem dX3_put_4 : decode cX3_put 4 = .ok (.bipush 120, 2) := by decide +kernel
theorem dX3_put_6 : decode cX3_put 6 = .ok (.if_icmp .lt 5, 3) := by decide +kernel
theorem dX3_put_9 : decode cX3_put 9 = .ok (.iconst 0, 1) := by decide +kernel
theorem dX3_put_10 : decode cX3_put 10 = .ok (.ireturn, 1) := by decide +kernel
theorem dX3_put_11 : decode cX3_put 11 = .ok (.aload_n 0, 1) := by decide +kernel
theorem dX3_put_12 : decode cX3_put 12 = .ok (.getfield 9, 3) := by decide +kernel
theorem dX3_put_15 : decode cX3_put 15 = .ok (.aload_n 0, 1) := by decide +kernel
theorem dX3_put_16 : decode cX3_put 16 = .ok (.getfield 15, 3) := by decide +kernel
theorem dX3_put_19 : decode cX3_put 19 = .ok (.iload_n 1, 1) := by decide +kernel
theorem dX3_put_20 : decode cX3_put 20 = .ok (.iastore, 1) := by decide +kernel
theorem dX3_put_21 : decode cX3_put 21 = .ok (.aload_n 0, 1) := by decide +kernel
theorem dX3_put_22 : decode cX3_put 22 = .ok (.dup, 1) := by decide +kernel
theorem dX3_put_23 : decode cX3_put 23 = .ok (.getfield 15, 3) := by decide +kernel
theorem dX3_put_26 : decode cX3_put 26 = .ok (.iconst 1, 1) := by decide +kernel
theorem dX3_put_27 : decode cX3_put 27 = .ok (.iadd, 1) := by decide +kernel
theorem dX3_put_28 : decode cX3_put 28 = .ok (.putfield 15, 3) := by decide +kernel
theorem dX3_put_31 : decode cX3_put 31 = .ok (.iconst 1, 1) := by decide +kernel
theorem dX3_put_32 : decode cX3_put 32 = .ok (.ireturn, 1) := by decide +kernel
theorem dX3_at_0 : decode cX3_at 0 = .ok (.iload_n 1, 1) := by decide +kernel
theorem dX3_at_1 : decode cX3_at 1 = .ok (.ifCond .lt 20, 3) := by decide +kernel
theorem dX3_at_4 : decode cX3_at 4 = .ok (.iload_n 1, 1) := by decide +kernel
theorem dX3_at_5 : decode cX3_at 5 = .ok (.aload_n 0, 1) := by decide +kernel
theorem dX3_at_6 : decode cX3_at 6 = .ok (.getfield 15, 3) := by decide +kernel
theorem dX3_at_9 : decode cX3_at 9 = .ok (.if_icmp .ge 12, 3) := by decide +kernel
theorem dX3_at_12 : decode cX3_at 12 = .ok (.aload_n 0, 1) := by decide +kernel
theorem dX3_at_13 : decode cX3_at 13 = .ok (.getfield 9, 3) := by decide +kernel
theorem dX3_at_16 : decode cX3_at 16 = .ok (.iload_n 1, 1) := by decide +kernel
theorem dX3_at_17 : decode cX3_at 17 = .ok (.iaload, 1) := by decide +kernel
theorem dX3_at_18 : decode cX3_at 18 = .ok (.goto 4, 3) := by decide +kernel
theorem dX3_at_21 : decode cX3_at 21 = .ok (.iconst (-1), 1) := by decide +kernel
theorem dX3_at_22 : decode cX3_at 22 = .ok (.ireturn, 1) := by decide +kernel
theorem dX3_copyFrom_0 : decode cX3_copyFrom 0 = .ok (.aload_n 0, 1) := by decide +kernel
theorem dX3_copyFrom_1 : decode cX3_copyFrom 1 = .ok (.invokevirtual 19, 3) := by decide +kernel
theorem dX3_copyFrom_4 : decode cX3_copyFrom 4 = .ok (.iconst 0, 1) := by decide +kernel
theorem dX3_copyFrom_5 : decode cX3_copyFrom 5 = .ok (.istore_n 2, 1) := by decide +kernel
theorem dX3_copyFrom_6 : decode cX3_copyFrom 6 = .ok (.iload_n 2, 1) := by decide +kernel
theorem dX3_copyFrom_7 : decode cX3_copyFrom 7 = .ok (.aload_n 1, 1) := by decide +kernel
theorem dX3_copyFrom_8 : decode cX3_copyFrom 8 = .ok (.getfield 15, 3) := by decide +kernel
theorem dX3_copyFrom_11 : decode cX3_copyFrom 11 = .ok (.if_icmp .ge 20, 3) := by decide +kernel
theorem dX3_copyFrom_14 : decode cX3_copyFrom 14 = .ok (.aload_n 0, 1) := by decide +kernel
theorem dX3_copyFrom_15 : decode cX3_copyFrom 15 = .ok (.aload_n 1, 1) := by decide +kernel
theorem dX3_copyFrom_16 : decode cX3_copyFrom 16 = .ok (.getfield 9, 3) := by decide +kernel
theorem dX3_copyFrom_19 : decode cX3_copyFrom 19 = .ok (.iload_n 2, 1) := by decide +kernel
theorem dX3_copyFrom_20 : decode cX3_copyFrom 20 = .ok (.iaload, 1) := by decide +kernel
theorem dX3_copyFrom_21 : decode cX3_copyFrom 21 = .ok (.invokevirtual 22, 3) := by decide +kernel
theorem dX3_copyFrom_24 : decode cX3_copyFrom 24 = .ok (.pop, 1) := by decide +kernel
theorem dX3_copyFrom_25 : decode cX3_copyFrom 25 = .ok (.iinc 2 1, 3) := by decide +kernel
theorem dX3_copyFrom_28 : decode cX3_copyFrom 28 = .ok (.goto (-22), 3) := by decide +kernel
theorem dX3_copyFrom_31 : decode cX3_copyFrom 31 = .ok (.return_, 1) := by decide +kernel
theorem dX3_copyWithoutPair_0 : decode cX3_copyWithoutPair 0 = .ok (.aload_n 1, 1) := by decide +kernel
theorem dX3_copyWithoutPair_1 : decode cX3_copyWithoutPair 1 = .ok (.iload_n 2, 1) := by decide +kernel
theorem dX3_copyWithoutPair_2 : decode cX3_copyWithoutPair 2 = .ok (.invokevirtual 26, 3) := by decide +kernel
theorem dX3_copyWithoutPair_5 : decode cX3_copyWithoutPair 5 = .ok (.istore_n 3, 1) := by decide +kernel
theorem dX3_copyWithoutPair_6 : decode cX3_copyWithoutPair 6 = .ok (.aload_n 1, 1) := by decide +kernel
theorem dX3_copyWithoutPair_7 : decode cX3_copyWithoutPair 7 = .ok (.iload_n 3, 1) := by decide +kernel
theorem dX3_copyWithoutPair_8 : decode cX3_copyWithoutPair 8 = .ok (.invokevirtual 30, 3) := by decide +kernel
theorem dX3_copyWithoutPair_11 : decode cX3_copyWithoutPair 11 = .ok (.istore 4, 2) := by decide +kernel
theorem dX3_copyWithoutPair_13 : decode cX3_copyWithoutPair 13 = .ok (.aload_n 0, 1) := by decide +kernel
theorem dX3_copyWithoutPair_14 : decode cX3_copyWithoutPair 14 = .ok (.invokevirtual 19, 3) := by decide +kernel
theorem dX3_copyWithoutPair_17 : decode cX3_copyWithoutPair 17 = .ok (.iconst 0, 1) := by decide +kernel
theorem dX3_copyWithoutPair_18 : decode cX3_copyWithoutPair 18 = .ok (.istore 5, 2) := by decide +kernel
theorem dX3_copyWithoutPair_20 : decode cX3_copyWithoutPair 20 = .ok (.iload 5, 2) := by decide +kernel
theorem dX3_copyWithoutPair_22 : decode cX3_copyWithoutPair 22 = .ok (.aload_n 1, 1) := by decide +kernel
theorem dX3_copyWithoutPair_23 : decode cX3_copyWithoutPair 23 = .ok (.getfield 15, 3) := by decide +kernel
theorem dX3_copyWithoutPair_26 : decode cX3_copyWithoutPair 26 = .ok (.if_icmp .ge 34, 3) := by decide +kernel
theorem dX3_copyWithoutPair_29 : decode cX3_copyWithoutPair 29 = .ok (.iload 5, 2) := by decide +kernel
theorem dX3_copyWithoutPair_31 : decode cX3_copyWithoutPair 31 = .ok (.iload_n 3, 1) := by decide +kernel
theorem dX3_copyWithoutPair_32 : decode cX3_copyWithoutPair 32 = .ok (.if_icmp .eq 22, 3) := by decide +kernel
theorem dX3_copyWithoutPair_35 : decode cX3_copyWithoutPair 35 = .ok (.iload 5, 2) := by decide +kernel
theorem dX3_copyWithoutPair_37 : decode cX3_copyWithoutPair 37 = .ok (.iload 4, 2) := by decide +kernel
theorem dX3_copyWithoutPair_39 : decode cX3_copyWithoutPair 39 = .ok (.if_icmp .eq 15, 3) := by decide +kernel
theorem dX3_copyWithoutPair_42 : decode cX3_copyWithoutPair 42 = .ok (.aload_n 0, 1) := by decide +kernel
theorem dX3_copyWithoutPair_43 : decode cX3_copyWithoutPair 43 = .ok (.aload_n 1, 1) := by decide +kernel
theorem dX3_copyWithoutPair_44 : decode cX3_copyWithoutPair 44 = .ok (.getfield 9, 3) := by decide +kernel
theorem dX3_copyWithoutPair_47 : decode cX3_copyWithoutPair 47 = .ok (.iload 5, 2) := by decide +kernel
theorem dX3_copyWithoutPair_49 : decode cX3_copyWithoutPair 49 = .ok (.iaload, 1) := by decide +kernel
theorem dX3_copyWithoutPair_50 : decode cX3_copyWithoutPair 50 = .ok (.invokevirtual 22, 3) := by decide +kernel
theorem dX3_copyWithoutPair_53 : decode cX3_copyWithoutPair 53 = .ok (.pop, 1) := by decide +kernel
theorem dX3_copyWithoutPair_54 : decode cX3_copyWithoutPair 54 = .ok (.iinc 5 1, 3) := by decide +kernel
theorem dX3_copyWithoutPair_57 : decode cX3_copyWithoutPair 57 = .ok (.goto (-37), 3) := by decide +kernel
theorem dX3_copyWithoutPair_60 : decode cX3_copyWithoutPair 60 = .ok (.return_, 1) := by decide +kernel
theorem dX3_countPairs_0 : decode cX3_countPairs 0 = .ok (.iconst 0, 1) := by decide +kernel
theorem dX3_countPairs_1 : decode cX3_countPairs 1 = .ok (.istore_n 1, 1) := by decide +kernel
theorem dX3_countPairs_2 : decode cX3_countPairs 2 = .ok (.iconst 0, 1) := by decide +kernel
theorem dX3_countPairs_3 : decode cX3_countPairs 3 = .ok (.istore_n 2, 1) := by decide +kernel
theorem dX3_countPairs_4 : decode cX3_countPairs 4 = .ok (.iload_n 2, 1) := by decide +kernel
theorem dX3_countPairs_5 : decode cX3_countPairs 5 = .ok (.aload_n 0, 1) := by decide +kernel
theorem dX3_countPairs_6 : decode cX3_countPairs 6 = .ok (.getfield 15, 3) := by decide +kernel
theorem dX3_countPairs_9 : decode cX3_countPairs 9 = .ok (.if_icmp .ge 23, 3) := by decide +kernel
theorem dX3_countPairs_12 : decode cX3_countPairs 12 = .ok (.aload_n 0, 1) := by decide +kernel
theorem dX3_countPairs_13 : decode cX3_countPairs 13 = .ok (.getfield 9, 3) := by decide +kernel
theorem dX3_countPairs_16 : decode cX3_countPairs 16 = .ok (.iload_n 2, 1) := by decide +kernel
theorem dX3_countPairs_17 : decode cX3_countPairs 17 = .ok (.iaload, 1) := by decide +kernel
theorem dX3_countPairs_18 : decode cX3_countPairs 18 = .ok (.bipush 40, 2) := by decide +kernel
theorem dX3_countPairs_20 : decode cX3_countPairs 20 = .ok (.if_icmp .ne 6, 3) := by decide +kernel
theorem dX3_countPairs_23 : decode cX3_countPairs 23 = .ok (.iinc 1 1, 3) := by decide +kernel
theorem dX3_countPairs_26 : decode cX3_countPairs 26 = .ok (.iinc 2 1, 3) := by decide +kernel
theorem dX3_countPairs_29 : decode cX3_countPairs 29 = .ok (.goto (-25), 3) := by decide +kernel
theorem dX3_countPairs_32 : decode cX3_countPairs 32 = .ok (.iload_n 1, 1) := by decide +kernel
theorem dX3_countPairs_33 : decode cX3_countPairs 33 = .ok (.ireturn, 1) := by decide +kernel
theorem dX3_openOf_0 : decode cX3_openOf 0 = .ok (.iconst 0, 1) := by decide +kernel
theorem dX3_openOf_1 : decode cX3_openOf 1 = .ok (.istore_n 2, 1) := by decide +kernel
theorem dX3_openOf_2 : decode cX3_openOf 2 = .ok (.iconst 0, 1) := by decide +kernel
theorem dX3_openOf_3 : decode cX3_openOf 3 = .ok (.istore_n 3, 1) := by decide +kernel
theorem dX3_openOf_4 : decode cX3_openOf 4 = .ok (.iload_n 3, 1) := by decide +kernel
theorem dX3_openOf_5 : decode cX3_openOf 5 = .ok (.aload_n 0, 1) := by decide +kernel
theorem dX3_openOf_6 : decode cX3_openOf 6 = .ok (.getfield 15, 3) := by decide +kernel
theorem dX3_openOf_9 : decode cX3_openOf 9 = .ok (.if_icmp .ge 30, 3) := by decide +kernel
theorem dX3_openOf_12 : decode cX3_openOf 12 = .ok (.aload_n 0, 1) := by decide +kernel
theorem dX3_openOf_13 : decode cX3_openOf 13 = .ok (.getfield 9, 3) := by decide +kernel
theorem dX3_openOf_16 : decode cX3_openOf 16 = .ok (.iload_n 3, 1) := by decide +kernel
theorem dX3_openOf_17 : decode cX3_openOf 17 = .ok (.iaload, 1) := by decide +kernel
theorem dX3_openOf_18 : decode cX3_openOf 18 = .ok (.bipush 40, 2) := by decide +kernel
theorem dX3_openOf_20 : decode cX3_openOf 20 = .ok (.if_icmp .ne 13, 3) := by decide +kernel
theorem dX3_openOf_23 : decode cX3_openOf 23 = .ok (.iload_n 2, 1) := by decide +kernel
theorem dX3_openOf_24 : decode cX3_openOf 24 = .ok (.iload_n 1, 1) := by decide +kernel
theorem dX3_openOf_25 : decode cX3_openOf 25 = .ok (.if_icmp .ne 5, 3) := by decide +kernel
theorem dX3_openOf_28 : decode cX3_openOf 28 = .ok (.iload_n 3, 1) := by decide +kernel
theorem dX3_openOf_29 : decode cX3_openOf 29 = .ok (.ireturn, 1) := by decide +kernel
theorem dX3_openOf_30 : decode cX3_openOf 30 = .ok (.iinc 2 1, 3) := by decide +kernel
theorem dX3_openOf_33 : decode cX3_openOf 33 = .ok (.iinc 3 1, 3) := by decide +kernel
theorem dX3_openOf_36 : decode cX3_openOf 36 = .ok (.goto (-32), 3) := by decide +kernel
theorem dX3_openOf_39 : decode cX3_openOf 39 = .ok (.iconst (-1), 1) := by decide +kernel
theorem dX3_openOf_40 : decode cX3_openOf 40 = .ok (.ireturn, 1) := by decide +kernel
theorem dX3_closeOf_0 : decode cX3_closeOf 0 = .ok (.iconst 0, 1) := by decide +kernel
theorem dX3_closeOf_1 : decode cX3_closeOf 1 = .ok (.istore_n 2, 1) := by decide +kernel
theorem dX3_closeOf_2 : decode cX3_closeOf 2 = .ok (.iload_n 1, 1) := by decide +kernel
theorem dX3_closeOf_3 : decode cX3_closeOf 3 = .ok (.iconst 0, 1) := by decide +kernel
theorem dX3_closeOf_4 : decode cX3_closeOf 4 = .ok (.invokestatic 33, 3) := by decide +kernel
theorem dX3_closeOf_7 : decode cX3_closeOf 7 = .ok (.istore_n 3, 1) := by decide +kernel
theorem dX3_closeOf_8 : decode cX3_closeOf 8 = .ok (.iload_n 3, 1) := by decide +kernel
theorem dX3_closeOf_9 : decode cX3_closeOf 9 = .ok (.aload_n 0, 1) := by decide +kernel
theorem dX3_closeOf_10 : decode cX3_closeOf 10 = .ok (.getfield 15, 3) := by decide +kernel
theorem dX3_closeOf_13 : decode cX3_closeOf 13 = .ok (.if_icmp .ge 46, 3) := by decide +kernel
theorem dX3_closeOf_16 : decode cX3_closeOf 16 = .ok (.aload_n 0, 1) := by decide +kernel
theorem dX3_closeOf_17 : decode cX3_closeOf 17 = .ok (.getfield 9, 3) := by decide +kernel
theorem dX3_closeOf_20 : decode cX3_closeOf 20 = .ok (.iload_n 3, 1) := by decide +kernel
theorem dX3_closeOf_21 : decode cX3_closeOf 21 = .ok (.iaload, 1) := by decide +kernel
theorem dX3_closeOf_22 : decode cX3_closeOf 22 = .ok (.bipush 40, 2) := by decide +kernel
theorem dX3_closeOf_24 : decode cX3_closeOf 24 = .ok (.if_icmp .ne 9, 3) := by decide +kernel
theorem dX3_closeOf_27 : decode cX3_closeOf 27 = .ok (.iinc 2 1, 3) := by decide +kernel
theorem dX3_closeOf_30 : decode cX3_closeOf 30 = .ok (.goto 23, 3) := by decide +kernel
theorem dX3_closeOf_33 : decode cX3_closeOf 33 = .ok (.aload_n 0, 1) := by decide +kernel
theorem dX3_closeOf_34 : decode cX3_closeOf 34 = .ok (.getfield 9, 3) := by decide +kernel
theorem dX3_closeOf_37 : decode cX3_closeOf 37 = .ok (.iload_n 3, 1) := by decide +kernel
theorem dX3_closeOf_38 : decode cX3_closeOf 38 = .ok (.iaload, 1) := by decide +kernel
theorem dX3_closeOf_39 : decode cX3_closeOf 39 = .ok (.bipush 41, 2) := by decide +kernel
theorem dX3_closeOf_41 : decode cX3_closeOf 41 = .ok (.if_icmp .ne 12, 3) := by decide +kernel
theorem dX3_closeOf_44 : decode cX3_closeOf 44 = .ok (.iinc 2 (-1), 3) := by decide +kernel
theorem dX3_closeOf_47 : decode cX3_closeOf 47 = .ok (.iload_n 2, 1) := by decide +kernel
theorem dX3_closeOf_48 : decode cX3_closeOf 48 = .ok (.ifCond .ne 5, 3) := by decide +kernel
theorem dX3_closeOf_51 : decode cX3_closeOf 51 = .ok (.iload_n 3, 1) := by decide +kernel
theorem dX3_closeOf_52 : decode cX3_closeOf 52 = .ok (.ireturn, 1) := by decide +kernel
theorem dX3_closeOf_53 : decode cX3_closeOf 53 = .ok (.iinc 3 1, 3) := by decide +kernel
theorem dX3_closeOf_56 : decode cX3_closeOf 56 = .ok (.goto (-48), 3) := by decide +kernel
theorem dX3_closeOf_59 : decode cX3_closeOf 59 = .ok (.iconst (-1), 1) := by decide +kernel
theorem dX3_closeOf_60 : decode cX3_closeOf 60 = .ok (.ireturn, 1) := by decide +kernel
