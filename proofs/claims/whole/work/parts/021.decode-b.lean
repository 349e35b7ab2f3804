/-! ===== decode rows (as printed) ===== -/
theorem dX2_faultKind_0 : decode cX2_faultKind 0 = .ok (.aload_n 0, 1) := by decide +kernel
theorem dX2_faultKind_1 : decode cX2_faultKind 1 = .ok (.getfield 33, 3) := by decide +kernel
theorem dX2_faultKind_4 : decode cX2_faultKind 4 = .ok (.ireturn, 1) := by decide +kernel
theorem dX2_faultPosition_0 : decode cX2_faultPosition 0 = .ok (.aload_n 0, 1) := by decide +kernel
theorem dX2_faultPosition_1 : decode cX2_faultPosition 1 = .ok (.getfield 37, 3) := by decide +kernel
theorem dX2_faultPosition_4 : decode cX2_faultPosition 4 = .ok (.ireturn, 1) := by decide +kernel
theorem dX2_reads_0 : decode cX2_reads 0 = .ok (.aload_n 0, 1) := by decide +kernel
theorem dX2_reads_1 : decode cX2_reads 1 = .ok (.invokevirtual 40, 3) := by decide +kernel
theorem dX2_reads_4 : decode cX2_reads 4 = .ok (.iconst 0, 1) := by decide +kernel
theorem dX2_reads_5 : decode cX2_reads 5 = .ok (.istore_n 1, 1) := by decide +kernel
theorem dX2_reads_6 : decode cX2_reads 6 = .ok (.iload_n 1, 1) := by decide +kernel
theorem dX2_reads_7 : decode cX2_reads 7 = .ok (.sipush 242, 3) := by decide +kernel
theorem dX2_reads_10 : decode cX2_reads 10 = .ok (.if_icmp .ge 34, 3) := by decide +kernel
theorem dX2_reads_13 : decode cX2_reads 13 = .ok (.aload_n 0, 1) := by decide +kernel
theorem dX2_reads_14 : decode cX2_reads 14 = .ok (.getfield 43, 3) := by decide +kernel
theorem dX2_reads_17 : decode cX2_reads 17 = .ok (.ifCond .ne 27, 3) := by decide +kernel
theorem dX2_reads_20 : decode cX2_reads 20 = .ok (.aload_n 0, 1) := by decide +kernel
theorem dX2_reads_21 : decode cX2_reads 21 = .ok (.getfield 47, 3) := by decide +kernel
theorem dX2_reads_24 : decode cX2_reads 24 = .ok (.ifCond .eq 10, 3) := by decide +kernel
theorem dX2_reads_27 : decode cX2_reads 27 = .ok (.aload_n 0, 1) := by decide +kernel
theorem dX2_reads_28 : decode cX2_reads 28 = .ok (.invokevirtual 50, 3) := by decide +kernel
theorem dX2_reads_31 : decode cX2_reads 31 = .ok (.goto 7, 3) := by decide +kernel
theorem dX2_reads_34 : decode cX2_reads 34 = .ok (.aload_n 0, 1) := by decide +kernel
theorem dX2_reads_35 : decode cX2_reads 35 = .ok (.invokevirtual 53, 3) := by decide +kernel
theorem dX2_reads_38 : decode cX2_reads 38 = .ok (.iinc 1 1, 3) := by decide +kernel
theorem dX2_reads_41 : decode cX2_reads 41 = .ok (.goto (-35), 3) := by decide +kernel
theorem dX2_reads_44 : decode cX2_reads 44 = .ok (.aload_n 0, 1) := by decide +kernel
theorem dX2_reads_45 : decode cX2_reads 45 = .ok (.getfield 43, 3) := by decide +kernel
theorem dX2_reads_48 : decode cX2_reads 48 = .ok (.ifCond .eq 16, 3) := by decide +kernel
theorem dX2_reads_51 : decode cX2_reads 51 = .ok (.aload_n 0, 1) := by decide +kernel
theorem dX2_reads_52 : decode cX2_reads 52 = .ok (.getfield 33, 3) := by decide +kernel
theorem dX2_reads_55 : decode cX2_reads 55 = .ok (.bipush (-10), 2) := by decide +kernel
theorem dX2_reads_57 : decode cX2_reads 57 = .ok (.if_icmp .ne 7, 3) := by decide +kernel
theorem dX2_reads_60 : decode cX2_reads 60 = .ok (.iconst 1, 1) := by decide +kernel
theorem dX2_reads_61 : decode cX2_reads 61 = .ok (.goto 4, 3) := by decide +kernel
theorem dX2_reads_64 : decode cX2_reads 64 = .ok (.iconst 0, 1) := by decide +kernel
theorem dX2_reads_65 : decode cX2_reads 65 = .ok (.ireturn, 1) := by decide +kernel
theorem dX2_start_0 : decode cX2_start 0 = .ok (.aload_n 0, 1) := by decide +kernel
theorem dX2_start_1 : decode cX2_start 1 = .ok (.getfield 25, 3) := by decide +kernel
theorem dX2_start_4 : decode cX2_start 4 = .ok (.invokevirtual 56, 3) := by decide +kernel
theorem dX2_start_7 : decode cX2_start 7 = .ok (.aload_n 0, 1) := by decide +kernel
theorem dX2_start_8 : decode cX2_start 8 = .ok (.iconst 0, 1) := by decide +kernel
theorem dX2_start_9 : decode cX2_start 9 = .ok (.putfield 61, 3) := by decide +kernel
theorem dX2_start_12 : decode cX2_start 12 = .ok (.aload_n 0, 1) := by decide +kernel
theorem dX2_start_13 : decode cX2_start 13 = .ok (.iconst 0, 1) := by decide +kernel
theorem dX2_start_14 : decode cX2_start 14 = .ok (.putfield 64, 3) := by decide +kernel
theorem dX2_start_17 : decode cX2_start 17 = .ok (.aload_n 0, 1) := by decide +kernel
theorem dX2_start_18 : decode cX2_start 18 = .ok (.iconst 1, 1) := by decide +kernel
theorem dX2_start_19 : decode cX2_start 19 = .ok (.putfield 47, 3) := by decide +kernel
theorem dX2_start_22 : decode cX2_start 22 = .ok (.aload_n 0, 1) := by decide +kernel
theorem dX2_start_23 : decode cX2_start 23 = .ok (.iconst (-1), 1) := by decide +kernel
theorem dX2_start_24 : decode cX2_start 24 = .ok (.putfield 67, 3) := by decide +kernel
theorem dX2_start_27 : decode cX2_start 27 = .ok (.aload_n 0, 1) := by decide +kernel
theorem dX2_start_28 : decode cX2_start 28 = .ok (.iconst 0, 1) := by decide +kernel
theorem dX2_start_29 : decode cX2_start 29 = .ok (.putfield 70, 3) := by decide +kernel
theorem dX2_start_32 : decode cX2_start 32 = .ok (.aload_n 0, 1) := by decide +kernel
theorem dX2_start_33 : decode cX2_start 33 = .ok (.iconst 0, 1) := by decide +kernel
theorem dX2_start_34 : decode cX2_start 34 = .ok (.putfield 43, 3) := by decide +kernel
theorem dX2_start_37 : decode cX2_start 37 = .ok (.aload_n 0, 1) := by decide +kernel
theorem dX2_start_38 : decode cX2_start 38 = .ok (.bipush (-10), 2) := by decide +kernel
theorem dX2_start_40 : decode cX2_start 40 = .ok (.putfield 33, 3) := by decide +kernel
theorem dX2_start_43 : decode cX2_start 43 = .ok (.aload_n 0, 1) := by decide +kernel
theorem dX2_start_44 : decode cX2_start 44 = .ok (.bipush (-10), 2) := by decide +kernel
theorem dX2_start_46 : decode cX2_start 46 = .ok (.putfield 37, 3) := by decide +kernel
theorem dX2_start_49 : decode cX2_start 49 = .ok (.return_, 1) := by decide +kernel
theorem dX2_readOperand_0 : decode cX2_readOperand 0 = .ok (.aload_n 0, 1) := by decide +kernel
theorem dX2_readOperand_1 : decode cX2_readOperand 1 = .ok (.getfield 29, 3) := by decide +kernel
theorem dX2_readOperand_4 : decode cX2_readOperand 4 = .ok (.aload_n 0, 1) := by decide +kernel
theorem dX2_readOperand_5 : decode cX2_readOperand 5 = .ok (.getfield 64, 3) := by decide +kernel
theorem dX2_readOperand_8 : decode cX2_readOperand 8 = .ok (.invokevirtual 73, 3) := by decide +kernel
theorem dX2_readOperand_11 : decode cX2_readOperand 11 = .ok (.istore_n 1, 1) := by decide +kernel
theorem dX2_readOperand_12 : decode cX2_readOperand 12 = .ok (.aload_n 0, 1) := by decide +kernel
theorem dX2_readOperand_13 : decode cX2_readOperand 13 = .ok (.getfield 21, 3) := by decide +kernel
theorem dX2_readOperand_16 : decode cX2_readOperand 16 = .ok (.iload_n 1, 1) := by decide +kernel
theorem dX2_readOperand_17 : decode cX2_readOperand 17 = .ok (.iconst 1, 1) := by decide +kernel
theorem dX2_readOperand_18 : decode cX2_readOperand 18 = .ok (.invokevirtual 79, 3) := by decide +kernel
theorem dX2_readOperand_21 : decode cX2_readOperand 21 = .ok (.istore_n 2, 1) := by decide +kernel
theorem dX2_readOperand_22 : decode cX2_readOperand 22 = .ok (.iload_n 1, 1) := by decide +kernel
theorem dX2_readOperand_23 : decode cX2_readOperand 23 = .ok (.invokestatic 85, 3) := by decide +kernel
theorem dX2_readOperand_26 : decode cX2_readOperand 26 = .ok (.ifCond .eq 31, 3) := by decide +kernel
theorem dX2_readOperand_29 : decode cX2_readOperand 29 = .ok (.aload_n 0, 1) := by decide +kernel
theorem dX2_readOperand_30 : decode cX2_readOperand 30 = .ok (.dup, 1) := by decide +kernel
theorem dX2_readOperand_31 : decode cX2_readOperand 31 = .ok (.getfield 64, 3) := by decide +kernel
theorem dX2_readOperand_34 : decode cX2_readOperand 34 = .ok (.iconst 1, 1) := by decide +kernel
theorem dX2_readOperand_35 : decode cX2_readOperand 35 = .ok (.iadd, 1) := by decide +kernel
theorem dX2_readOperand_36 : decode cX2_readOperand 36 = .ok (.putfield 64, 3) := by decide +kernel
theorem dX2_readOperand_39 : decode cX2_readOperand 39 = .ok (.aload_n 0, 1) := by decide +kernel
theorem dX2_readOperand_40 : decode cX2_readOperand 40 = .ok (.aload_n 0, 1) := by decide +kernel
theorem dX2_readOperand_41 : decode cX2_readOperand 41 = .ok (.getfield 25, 3) := by decide +kernel
theorem dX2_readOperand_44 : decode cX2_readOperand 44 = .ok (.iconst (-1), 1) := by decide +kernel
theorem dX2_readOperand_45 : decode cX2_readOperand 45 = .ok (.iload_n 1, 1) := by decide +kernel
theorem dX2_readOperand_46 : decode cX2_readOperand 46 = .ok (.iconst (-1), 1) := by decide +kernel
theorem dX2_readOperand_47 : decode cX2_readOperand 47 = .ok (.iconst (-1), 1) := by decide +kernel
theorem dX2_readOperand_48 : decode cX2_readOperand 48 = .ok (.invokevirtual 89, 3) := by decide +kernel
theorem dX2_readOperand_51 : decode cX2_readOperand 51 = .ok (.invokevirtual 93, 3) := by decide +kernel
theorem dX2_readOperand_54 : decode cX2_readOperand 54 = .ok (.goto 32, 3) := by decide +kernel
theorem dX2_readOperand_57 : decode cX2_readOperand 57 = .ok (.iload_n 1, 1) := by decide +kernel
theorem dX2_readOperand_58 : decode cX2_readOperand 58 = .ok (.bipush 40, 2) := by decide +kernel
theorem dX2_readOperand_60 : decode cX2_readOperand 60 = .ok (.if_icmp .eq 8, 3) := by decide +kernel
theorem dX2_readOperand_63 : decode cX2_readOperand 63 = .ok (.iload_n 2, 1) := by decide +kernel
theorem dX2_readOperand_64 : decode cX2_readOperand 64 = .ok (.iconst (-1), 1) := by decide +kernel
theorem dX2_readOperand_65 : decode cX2_readOperand 65 = .ok (.if_icmp .eq 12, 3) := by decide +kernel
theorem dX2_readOperand_68 : decode cX2_readOperand 68 = .ok (.aload_n 0, 1) := by decide +kernel
theorem dX2_readOperand_69 : decode cX2_readOperand 69 = .ok (.iload_n 2, 1) := by decide +kernel
theorem dX2_readOperand_70 : decode cX2_readOperand 70 = .ok (.iconst (-1), 1) := by decide +kernel
theorem dX2_readOperand_71 : decode cX2_readOperand 71 = .ok (.invokevirtual 97, 3) := by decide +kernel
theorem dX2_readOperand_74 : decode cX2_readOperand 74 = .ok (.goto 12, 3) := by decide +kernel
theorem dX2_readOperand_77 : decode cX2_readOperand 77 = .ok (.aload_n 0, 1) := by decide +kernel
theorem dX2_readOperand_78 : decode cX2_readOperand 78 = .ok (.iconst 1, 1) := by decide +kernel
theorem dX2_readOperand_79 : decode cX2_readOperand 79 = .ok (.aload_n 0, 1) := by decide +kernel
theorem dX2_readOperand_80 : decode cX2_readOperand 80 = .ok (.getfield 64, 3) := by decide +kernel
theorem dX2_readOperand_83 : decode cX2_readOperand 83 = .ok (.invokevirtual 101, 3) := by decide +kernel
theorem dX2_readOperand_86 : decode cX2_readOperand 86 = .ok (.return_, 1) := by decide +kernel
theorem dX2_readOperator_0 : decode cX2_readOperator 0 = .ok (.aload_n 0, 1) := by decide +kernel
theorem dX2_readOperator_1 : decode cX2_readOperator 1 = .ok (.getfield 29, 3) := by decide +kernel
theorem dX2_readOperator_4 : decode cX2_readOperator 4 = .ok (.aload_n 0, 1) := by decide +kernel
theorem dX2_readOperator_5 : decode cX2_readOperator 5 = .ok (.getfield 64, 3) := by decide +kernel
theorem dX2_readOperator_8 : decode cX2_readOperator 8 = .ok (.invokevirtual 73, 3) := by decide +kernel
theorem dX2_readOperator_11 : decode cX2_readOperator 11 = .ok (.istore_n 1, 1) := by decide +kernel
theorem dX2_readOperator_12 : decode cX2_readOperator 12 = .ok (.iload_n 1, 1) := by decide +kernel
theorem dX2_readOperator_13 : decode cX2_readOperator 13 = .ok (.iconst (-1), 1) := by decide +kernel
theorem dX2_readOperator_14 : decode cX2_readOperator 14 = .ok (.if_icmp .eq 9, 3) := by decide +kernel
theorem dX2_readOperator_17 : decode cX2_readOperator 17 = .ok (.iload_n 1, 1) := by decide +kernel
theorem dX2_readOperator_18 : decode cX2_readOperator 18 = .ok (.bipush 41, 2) := by decide +kernel
theorem dX2_readOperator_20 : decode cX2_readOperator 20 = .ok (.if_icmp .ne 8, 3) := by decide +kernel
theorem dX2_readOperator_23 : decode cX2_readOperator 23 = .ok (.aload_n 0, 1) := by decide +kernel
theorem dX2_readOperator_24 : decode cX2_readOperator 24 = .ok (.invokevirtual 104, 3) := by decide +kernel
theorem dX2_readOperator_27 : decode cX2_readOperator 27 = .ok (.return_, 1) := by decide +kernel
theorem dX2_readOperator_28 : decode cX2_readOperator 28 = .ok (.aload_n 0, 1) := by decide +kernel
theorem dX2_readOperator_29 : decode cX2_readOperator 29 = .ok (.getfield 21, 3) := by decide +kernel
theorem dX2_readOperator_32 : decode cX2_readOperator 32 = .ok (.iload_n 1, 1) := by decide +kernel
theorem dX2_readOperator_33 : decode cX2_readOperator 33 = .ok (.iconst 0, 1) := by decide +kernel
theorem dX2_readOperator_34 : decode cX2_readOperator 34 = .ok (.invokevirtual 79, 3) := by decide +kernel
theorem dX2_readOperator_37 : decode cX2_readOperator 37 = .ok (.istore_n 2, 1) := by decide +kernel
theorem dX2_readOperator_38 : decode cX2_readOperator 38 = .ok (.iload_n 2, 1) := by decide +kernel
theorem dX2_readOperator_39 : decode cX2_readOperator 39 = .ok (.iconst (-1), 1) := by decide +kernel
theorem dX2_readOperator_40 : decode cX2_readOperator 40 = .ok (.if_icmp .ne 15, 3) := by decide +kernel
theorem dX2_readOperator_43 : decode cX2_readOperator 43 = .ok (.aload_n 0, 1) := by decide +kernel
theorem dX2_readOperator_44 : decode cX2_readOperator 44 = .ok (.iconst 2, 1) := by decide +kernel
theorem dX2_readOperator_45 : decode cX2_readOperator 45 = .ok (.aload_n 0, 1) := by decide +kernel
theorem dX2_readOperator_46 : decode cX2_readOperator 46 = .ok (.getfield 64, 3) := by decide +kernel
theorem dX2_readOperator_49 : decode cX2_readOperator 49 = .ok (.invokevirtual 101, 3) := by decide +kernel
theorem dX2_readOperator_52 : decode cX2_readOperator 52 = .ok (.goto 30, 3) := by decide +kernel
theorem dX2_readOperator_55 : decode cX2_readOperator 55 = .ok (.aload_n 0, 1) := by decide +kernel
theorem dX2_readOperator_56 : decode cX2_readOperator 56 = .ok (.getfield 21, 3) := by decide +kernel
theorem dX2_readOperator_59 : decode cX2_readOperator 59 = .ok (.iload_n 2, 1) := by decide +kernel
theorem dX2_readOperator_60 : decode cX2_readOperator 60 = .ok (.invokevirtual 107, 3) := by decide +kernel
theorem dX2_readOperator_63 : decode cX2_readOperator 63 = .ok (.aload_n 0, 1) := by decide +kernel
theorem dX2_readOperator_64 : decode cX2_readOperator 64 = .ok (.invokevirtual 110, 3) := by decide +kernel
theorem dX2_readOperator_67 : decode cX2_readOperator 67 = .ok (.if_icmp .ge 10, 3) := by decide +kernel
theorem dX2_readOperator_70 : decode cX2_readOperator 70 = .ok (.aload_n 0, 1) := by decide +kernel
theorem dX2_readOperator_71 : decode cX2_readOperator 71 = .ok (.invokevirtual 104, 3) := by decide +kernel
theorem dX2_readOperator_74 : decode cX2_readOperator 74 = .ok (.goto 8, 3) := by decide +kernel
theorem dX2_readOperator_77 : decode cX2_readOperator 77 = .ok (.aload_n 0, 1) := by decide +kernel
theorem dX2_readOperator_78 : decode cX2_readOperator 78 = .ok (.iload_n 2, 1) := by decide +kernel
theorem dX2_readOperator_79 : decode cX2_readOperator 79 = .ok (.invokevirtual 114, 3) := by decide +kernel
theorem dX2_readOperator_82 : decode cX2_readOperator 82 = .ok (.return_, 1) := by decide +kernel
theorem dX2_joinLeftSide_0 : decode cX2_joinLeftSide 0 = .ok (.aload_n 0, 1) := by decide +kernel
theorem dX2_joinLeftSide_1 : decode cX2_joinLeftSide 1 = .ok (.getfield 70, 3) := by decide +kernel
theorem dX2_joinLeftSide_4 : decode cX2_joinLeftSide 4 = .ok (.ifCond .ne 37, 3) := by decide +kernel
theorem dX2_joinLeftSide_7 : decode cX2_joinLeftSide 7 = .ok (.aload_n 0, 1) := by decide +kernel
theorem dX2_joinLeftSide_8 : decode cX2_joinLeftSide 8 = .ok (.getfield 21, 3) := by decide +kernel
theorem dX2_joinLeftSide_11 : decode cX2_joinLeftSide 11 = .ok (.iload_n 1, 1) := by decide +kernel
theorem dX2_joinLeftSide_12 : decode cX2_joinLeftSide 12 = .ok (.aload_n 0, 1) := by decide +kernel
theorem dX2_joinLeftSide_13 : decode cX2_joinLeftSide 13 = .ok (.getfield 25, 3) := by decide +kernel
theorem dX2_joinLeftSide_16 : decode cX2_joinLeftSide 16 = .ok (.aload_n 0, 1) := by decide +kernel
theorem dX2_joinLeftSide_17 : decode cX2_joinLeftSide 17 = .ok (.getfield 67, 3) := by decide +kernel
theorem dX2_joinLeftSide_20 : decode cX2_joinLeftSide 20 = .ok (.invokevirtual 117, 3) := by decide +kernel
theorem dX2_joinLeftSide_23 : decode cX2_joinLeftSide 23 = .ok (.invokevirtual 120, 3) := by decide +kernel
theorem dX2_joinLeftSide_26 : decode cX2_joinLeftSide 26 = .ok (.ifCond .eq 15, 3) := by decide +kernel
theorem dX2_joinLeftSide_29 : decode cX2_joinLeftSide 29 = .ok (.aload_n 0, 1) := by decide +kernel
theorem dX2_joinLeftSide_30 : decode cX2_joinLeftSide 30 = .ok (.iconst 5, 1) := by decide +kernel
theorem dX2_joinLeftSide_31 : decode cX2_joinLeftSide 31 = .ok (.aload_n 0, 1) := by decide +kernel
theorem dX2_joinLeftSide_32 : decode cX2_joinLeftSide 32 = .ok (.getfield 64, 3) := by decide +kernel
theorem dX2_joinLeftSide_35 : decode cX2_joinLeftSide 35 = .ok (.invokevirtual 101, 3) := by decide +kernel
theorem dX2_joinLeftSide_38 : decode cX2_joinLeftSide 38 = .ok (.goto 76, 3) := by decide +kernel
theorem dX2_joinLeftSide_41 : decode cX2_joinLeftSide 41 = .ok (.aload_n 0, 1) := by decide +kernel
theorem dX2_joinLeftSide_42 : decode cX2_joinLeftSide 42 = .ok (.iload_n 1, 1) := by decide +kernel
theorem dX2_joinLeftSide_43 : decode cX2_joinLeftSide 43 = .ok (.invokevirtual 124, 3) := by decide +kernel
theorem dX2_joinLeftSide_46 : decode cX2_joinLeftSide 46 = .ok (.ifCond .eq 16, 3) := by decide +kernel
theorem dX2_joinLeftSide_49 : decode cX2_joinLeftSide 49 = .ok (.aload_n 0, 1) := by decide +kernel
theorem dX2_joinLeftSide_50 : decode cX2_joinLeftSide 50 = .ok (.bipush 6, 2) := by decide +kernel
theorem dX2_joinLeftSide_52 : decode cX2_joinLeftSide 52 = .ok (.aload_n 0, 1) := by decide +kernel
theorem dX2_joinLeftSide_53 : decode cX2_joinLeftSide 53 = .ok (.getfield 64, 3) := by decide +kernel
theorem dX2_joinLeftSide_56 : decode cX2_joinLeftSide 56 = .ok (.invokevirtual 101, 3) := by decide +kernel
theorem dX2_joinLeftSide_59 : decode cX2_joinLeftSide 59 = .ok (.goto 55, 3) := by decide +kernel
theorem dX2_joinLeftSide_62 : decode cX2_joinLeftSide 62 = .ok (.aload_n 0, 1) := by decide +kernel
theorem dX2_joinLeftSide_63 : decode cX2_joinLeftSide 63 = .ok (.getfield 21, 3) := by decide +kernel
theorem dX2_joinLeftSide_66 : decode cX2_joinLeftSide 66 = .ok (.iload_n 1, 1) := by decide +kernel
theorem dX2_joinLeftSide_67 : decode cX2_joinLeftSide 67 = .ok (.invokevirtual 127, 3) := by decide +kernel
theorem dX2_joinLeftSide_70 : decode cX2_joinLeftSide 70 = .ok (.iconst 2, 1) := by decide +kernel
theorem dX2_joinLeftSide_71 : decode cX2_joinLeftSide 71 = .ok (.if_icmp .ne 34, 3) := by decide +kernel
theorem dX2_joinLeftSide_74 : decode cX2_joinLeftSide 74 = .ok (.aload_n 0, 1) := by decide +kernel
theorem dX2_joinLeftSide_75 : decode cX2_joinLeftSide 75 = .ok (.dup, 1) := by decide +kernel
theorem dX2_joinLeftSide_76 : decode cX2_joinLeftSide 76 = .ok (.getfield 64, 3) := by decide +kernel
theorem dX2_joinLeftSide_79 : decode cX2_joinLeftSide 79 = .ok (.iconst 1, 1) := by decide +kernel
theorem dX2_joinLeftSide_80 : decode cX2_joinLeftSide 80 = .ok (.iadd, 1) := by decide +kernel
theorem dX2_joinLeftSide_81 : decode cX2_joinLeftSide 81 = .ok (.putfield 64, 3) := by decide +kernel
theorem dX2_joinLeftSide_84 : decode cX2_joinLeftSide 84 = .ok (.aload_n 0, 1) := by decide +kernel
theorem dX2_joinLeftSide_85 : decode cX2_joinLeftSide 85 = .ok (.aload_n 0, 1) := by decide +kernel
theorem dX2_joinLeftSide_86 : decode cX2_joinLeftSide 86 = .ok (.getfield 25, 3) := by decide +kernel
theorem dX2_joinLeftSide_89 : decode cX2_joinLeftSide 89 = .ok (.iload_n 1, 1) := by decide +kernel
theorem dX2_joinLeftSide_90 : decode cX2_joinLeftSide 90 = .ok (.iconst (-1), 1) := by decide +kernel
theorem dX2_joinLeftSide_91 : decode cX2_joinLeftSide 91 = .ok (.aload_n 0, 1) := by decide +kernel
theorem dX2_joinLeftSide_92 : decode cX2_joinLeftSide 92 = .ok (.getfield 67, 3) := by decide +kernel
theorem dX2_joinLeftSide_95 : decode cX2_joinLeftSide 95 = .ok (.iconst (-1), 1) := by decide +kernel
theorem dX2_joinLeftSide_96 : decode cX2_joinLeftSide 96 = .ok (.invokevirtual 89, 3) := by decide +kernel
theorem dX2_joinLeftSide_99 : decode cX2_joinLeftSide 99 = .ok (.invokevirtual 93, 3) := by decide +kernel
theorem dX2_joinLeftSide_102 : decode cX2_joinLeftSide 102 = .ok (.goto 12, 3) := by decide +kernel
theorem dX2_joinLeftSide_105 : decode cX2_joinLeftSide 105 = .ok (.aload_n 0, 1) := by decide +kernel
theorem dX2_joinLeftSide_106 : decode cX2_joinLeftSide 106 = .ok (.iload_n 1, 1) := by decide +kernel
theorem dX2_joinLeftSide_107 : decode cX2_joinLeftSide 107 = .ok (.aload_n 0, 1) := by decide +kernel
theorem dX2_joinLeftSide_108 : decode cX2_joinLeftSide 108 = .ok (.getfield 67, 3) := by decide +kernel
theorem dX2_joinLeftSide_111 : decode cX2_joinLeftSide 111 = .ok (.invokevirtual 97, 3) := by decide +kernel
theorem dX2_joinLeftSide_114 : decode cX2_joinLeftSide 114 = .ok (.return_, 1) := by decide +kernel
theorem dX2_openFrame_0 : decode cX2_openFrame 0 = .ok (.aload_n 0, 1) := by decide +kernel
theorem dX2_openFrame_1 : decode cX2_openFrame 1 = .ok (.getfield 61, 3) := by decide +kernel
theorem dX2_openFrame_4 : decode cX2_openFrame 4 = .ok (.bipush 120, 2) := by decide +kernel
theorem dX2_openFrame_6 : decode cX2_openFrame 6 = .ok (.if_icmp .ge 46, 3) := by decide +kernel
theorem dX2_openFrame_9 : decode cX2_openFrame 9 = .ok (.aload_n 0, 1) := by decide +kernel
theorem dX2_openFrame_10 : decode cX2_openFrame 10 = .ok (.getfield 9, 3) := by decide +kernel
theorem dX2_openFrame_13 : decode cX2_openFrame 13 = .ok (.aload_n 0, 1) := by decide +kernel
theorem dX2_openFrame_14 : decode cX2_openFrame 14 = .ok (.getfield 61, 3) := by decide +kernel
theorem dX2_openFrame_17 : decode cX2_openFrame 17 = .ok (.iload_n 1, 1) := by decide +kernel
theorem dX2_openFrame_18 : decode cX2_openFrame 18 = .ok (.iastore, 1) := by decide +kernel
theorem dX2_openFrame_19 : decode cX2_openFrame 19 = .ok (.aload_n 0, 1) := by decide +kernel
theorem dX2_openFrame_20 : decode cX2_openFrame 20 = .ok (.getfield 15, 3) := by decide +kernel
theorem dX2_openFrame_23 : decode cX2_openFrame 23 = .ok (.aload_n 0, 1) := by decide +kernel
theorem dX2_openFrame_24 : decode cX2_openFrame 24 = .ok (.getfield 61, 3) := by decide +kernel
theorem dX2_openFrame_27 : decode cX2_openFrame 27 = .ok (.aload_n 0, 1) := by decide +kernel
theorem dX2_openFrame_28 : decode cX2_openFrame 28 = .ok (.getfield 64, 3) := by decide +kernel
theorem dX2_openFrame_31 : decode cX2_openFrame 31 = .ok (.iastore, 1) := by decide +kernel
theorem dX2_openFrame_32 : decode cX2_openFrame 32 = .ok (.aload_n 0, 1) := by decide +kernel
theorem dX2_openFrame_33 : decode cX2_openFrame 33 = .ok (.getfield 18, 3) := by decide +kernel
theorem dX2_openFrame_36 : decode cX2_openFrame 36 = .ok (.aload_n 0, 1) := by decide +kernel
theorem dX2_openFrame_37 : decode cX2_openFrame 37 = .ok (.getfield 61, 3) := by decide +kernel
theorem dX2_openFrame_40 : decode cX2_openFrame 40 = .ok (.iload_n 2, 1) := by decide +kernel
theorem dX2_openFrame_41 : decode cX2_openFrame 41 = .ok (.iastore, 1) := by decide +kernel
theorem dX2_openFrame_42 : decode cX2_openFrame 42 = .ok (.aload_n 0, 1) := by decide +kernel
theorem dX2_openFrame_43 : decode cX2_openFrame 43 = .ok (.dup, 1) := by decide +kernel
theorem dX2_openFrame_44 : decode cX2_openFrame 44 = .ok (.getfield 61, 3) := by decide +kernel
theorem dX2_openFrame_47 : decode cX2_openFrame 47 = .ok (.iconst 1, 1) := by decide +kernel
theorem dX2_openFrame_48 : decode cX2_openFrame 48 = .ok (.iadd, 1) := by decide +kernel
theorem dX2_openFrame_49 : decode cX2_openFrame 49 = .ok (.putfield 61, 3) := by decide +kernel
theorem dX2_openFrame_52 : decode cX2_openFrame 52 = .ok (.aload_n 0, 1) := by decide +kernel
theorem dX2_openFrame_53 : decode cX2_openFrame 53 = .ok (.dup, 1) := by decide +kernel
theorem dX2_openFrame_54 : decode cX2_openFrame 54 = .ok (.getfield 64, 3) := by decide +kernel
theorem dX2_openFrame_57 : decode cX2_openFrame 57 = .ok (.iconst 1, 1) := by decide +kernel
theorem dX2_openFrame_58 : decode cX2_openFrame 58 = .ok (.iadd, 1) := by decide +kernel
theorem dX2_openFrame_59 : decode cX2_openFrame 59 = .ok (.putfield 64, 3) := by decide +kernel
theorem dX2_openFrame_62 : decode cX2_openFrame 62 = .ok (.aload_n 0, 1) := by decide +kernel
theorem dX2_openFrame_63 : decode cX2_openFrame 63 = .ok (.iconst 1, 1) := by decide +kernel
theorem dX2_openFrame_64 : decode cX2_openFrame 64 = .ok (.putfield 47, 3) := by decide +kernel
theorem dX2_openFrame_67 : decode cX2_openFrame 67 = .ok (.return_, 1) := by decide +kernel
theorem dX2_topFrame_0 : decode cX2_topFrame 0 = .ok (.aload_n 0, 1) := by decide +kernel
theorem dX2_topFrame_1 : decode cX2_topFrame 1 = .ok (.getfield 61, 3) := by decide +kernel
theorem dX2_topFrame_4 : decode cX2_topFrame 4 = .ok (.ifCond .le 21, 3) := by decide +kernel
theorem dX2_topFrame_7 : decode cX2_topFrame 7 = .ok (.aload_n 0, 1) := by decide +kernel
theorem dX2_topFrame_8 : decode cX2_topFrame 8 = .ok (.getfield 61, 3) := by decide +kernel
theorem dX2_topFrame_11 : decode cX2_topFrame 11 = .ok (.bipush 120, 2) := by decide +kernel
theorem dX2_topFrame_13 : decode cX2_topFrame 13 = .ok (.if_icmp .gt 12, 3) := by decide +kernel
theorem dX2_topFrame_16 : decode cX2_topFrame 16 = .ok (.aload_n 0, 1) := by decide +kernel
theorem dX2_topFrame_17 : decode cX2_topFrame 17 = .ok (.getfield 61, 3) := by decide +kernel
theorem dX2_topFrame_20 : decode cX2_topFrame 20 = .ok (.iconst 1, 1) := by decide +kernel
theorem dX2_topFrame_21 : decode cX2_topFrame 21 = .ok (.isub, 1) := by decide +kernel
theorem dX2_topFrame_22 : decode cX2_topFrame 22 = .ok (.goto 4, 3) := by decide +kernel
theorem dX2_topFrame_25 : decode cX2_topFrame 25 = .ok (.iconst (-1), 1) := by decide +kernel
theorem dX2_topFrame_26 : decode cX2_topFrame 26 = .ok (.ireturn, 1) := by decide +kernel
theorem dX2_frameMin_0 : decode cX2_frameMin 0 = .ok (.aload_n 0, 1) := by decide +kernel
theorem dX2_frameMin_1 : decode cX2_frameMin 1 = .ok (.invokevirtual 130, 3) := by decide +kernel
theorem dX2_frameMin_4 : decode cX2_frameMin 4 = .ok (.istore_n 1, 1) := by decide +kernel
theorem dX2_frameMin_5 : decode cX2_frameMin 5 = .ok (.iload_n 1, 1) := by decide +kernel
theorem dX2_frameMin_6 : decode cX2_frameMin 6 = .ok (.iconst (-1), 1) := by decide +kernel
theorem dX2_frameMin_7 : decode cX2_frameMin 7 = .ok (.if_icmp .ne 7, 3) := by decide +kernel
theorem dX2_frameMin_10 : decode cX2_frameMin 10 = .ok (.iconst 0, 1) := by decide +kernel
theorem dX2_frameMin_11 : decode cX2_frameMin 11 = .ok (.goto 16, 3) := by decide +kernel
theorem dX2_frameMin_14 : decode cX2_frameMin 14 = .ok (.aload_n 0, 1) := by decide +kernel
theorem dX2_frameMin_15 : decode cX2_frameMin 15 = .ok (.getfield 21, 3) := by decide +kernel
theorem dX2_frameMin_18 : decode cX2_frameMin 18 = .ok (.aload_n 0, 1) := by decide +kernel
theorem dX2_frameMin_19 : decode cX2_frameMin 19 = .ok (.getfield 9, 3) := by decide +kernel
theorem dX2_frameMin_22 : decode cX2_frameMin 22 = .ok (.iload_n 1, 1) := by decide +kernel
theorem dX2_frameMin_23 : decode cX2_frameMin 23 = .ok (.iaload, 1) := by decide +kernel
theorem dX2_frameMin_24 : decode cX2_frameMin 24 = .ok (.invokevirtual 133, 3) := by decide +kernel
theorem dX2_frameMin_27 : decode cX2_frameMin 27 = .ok (.ireturn, 1) := by decide +kernel
theorem dX2_endFrame_0 : decode cX2_endFrame 0 = .ok (.aload_n 0, 1) := by decide +kernel
theorem dX2_endFrame_1 : decode cX2_endFrame 1 = .ok (.invokevirtual 130, 3) := by decide +kernel
theorem dX2_endFrame_4 : decode cX2_endFrame 4 = .ok (.istore_n 1, 1) := by decide +kernel
theorem dX2_endFrame_5 : decode cX2_endFrame 5 = .ok (.iload_n 1, 1) := by decide +kernel
theorem dX2_endFrame_6 : decode cX2_endFrame 6 = .ok (.iconst (-1), 1) := by decide +kernel
theorem dX2_endFrame_7 : decode cX2_endFrame 7 = .ok (.if_icmp .ne 10, 3) := by decide +kernel
theorem dX2_endFrame_10 : decode cX2_endFrame 10 = .ok (.aload_n 0, 1) := by decide +kernel
theorem dX2_endFrame_11 : decode cX2_endFrame 11 = .ok (.invokevirtual 136, 3) := by decide +kernel
theorem dX2_endFrame_14 : decode cX2_endFrame 14 = .ok (.goto 25, 3) := by decide +kernel
theorem dX2_endFrame_17 : decode cX2_endFrame 17 = .ok (.aload_n 0, 1) := by decide +kernel
theorem dX2_endFrame_18 : decode cX2_endFrame 18 = .ok (.getfield 9, 3) := by decide +kernel
theorem dX2_endFrame_21 : decode cX2_endFrame 21 = .ok (.iload_n 1, 1) := by decide +kernel
theorem dX2_endFrame_22 : decode cX2_endFrame 22 = .ok (.iaload, 1) := by decide +kernel
theorem dX2_endFrame_23 : decode cX2_endFrame 23 = .ok (.iconst (-1), 1) := by decide +kernel
theorem dX2_endFrame_24 : decode cX2_endFrame 24 = .ok (.if_icmp .ne 10, 3) := by decide +kernel
theorem dX2_endFrame_27 : decode cX2_endFrame 27 = .ok (.aload_n 0, 1) := by decide +kernel
theorem dX2_endFrame_28 : decode cX2_endFrame 28 = .ok (.invokevirtual 139, 3) := by decide +kernel
theorem dX2_endFrame_31 : decode cX2_endFrame 31 = .ok (.goto 8, 3) := by decide +kernel
theorem dX2_endFrame_34 : decode cX2_endFrame 34 = .ok (.aload_n 0, 1) := by decide +kernel
theorem dX2_endFrame_35 : decode cX2_endFrame 35 = .ok (.iload_n 1, 1) := by decide +kernel
theorem dX2_endFrame_36 : decode cX2_endFrame 36 = .ok (.invokevirtual 142, 3) := by decide +kernel
theorem dX2_endFrame_39 : decode cX2_endFrame 39 = .ok (.return_, 1) := by decide +kernel
theorem dX2_endText_0 : decode cX2_endText 0 = .ok (.aload_n 0, 1) := by decide +kernel
theorem dX2_endText_1 : decode cX2_endText 1 = .ok (.getfield 29, 3) := by decide +kernel
theorem dX2_endText_4 : decode cX2_endText 4 = .ok (.aload_n 0, 1) := by decide +kernel
theorem dX2_endText_5 : decode cX2_endText 5 = .ok (.getfield 64, 3) := by decide +kernel
theorem dX2_endText_8 : decode cX2_endText 8 = .ok (.invokevirtual 73, 3) := by decide +kernel
theorem dX2_endText_11 : decode cX2_endText 11 = .ok (.bipush 41, 2) := by decide +kernel
theorem dX2_endText_13 : decode cX2_endText 13 = .ok (.if_icmp .ne 12, 3) := by decide +kernel
theorem dX2_endText_16 : decode cX2_endText 16 = .ok (.aload_n 0, 1) := by decide +kernel
theorem dX2_endText_17 : decode cX2_endText 17 = .ok (.iconst 4, 1) := by decide +kernel
theorem dX2_endText_18 : decode cX2_endText 18 = .ok (.aload_n 0, 1) := by decide +kernel
theorem dX2_endText_19 : decode cX2_endText 19 = .ok (.getfield 64, 3) := by decide +kernel
theorem dX2_endText_22 : decode cX2_endText 22 = .ok (.invokevirtual 101, 3) := by decide +kernel
theorem dX2_endText_25 : decode cX2_endText 25 = .ok (.aload_n 0, 1) := by decide +kernel
theorem dX2_endText_26 : decode cX2_endText 26 = .ok (.iconst 1, 1) := by decide +kernel
theorem dX2_endText_27 : decode cX2_endText 27 = .ok (.putfield 43, 3) := by decide +kernel
theorem dX2_endText_30 : decode cX2_endText 30 = .ok (.return_, 1) := by decide +kernel
theorem dX2_endBracket_0 : decode cX2_endBracket 0 = .ok (.aload_n 0, 1) := by decide +kernel
theorem dX2_endBracket_1 : decode cX2_endBracket 1 = .ok (.getfield 29, 3) := by decide +kernel
theorem dX2_endBracket_4 : decode cX2_endBracket 4 = .ok (.aload_n 0, 1) := by decide +kernel
theorem dX2_endBracket_5 : decode cX2_endBracket 5 = .ok (.getfield 64, 3) := by decide +kernel
theorem dX2_endBracket_8 : decode cX2_endBracket 8 = .ok (.invokevirtual 73, 3) := by decide +kernel
theorem dX2_endBracket_11 : decode cX2_endBracket 11 = .ok (.bipush 41, 2) := by decide +kernel
theorem dX2_endBracket_13 : decode cX2_endBracket 13 = .ok (.if_icmp .ne 31, 3) := by decide +kernel
theorem dX2_endBracket_16 : decode cX2_endBracket 16 = .ok (.aload_n 0, 1) := by decide +kernel
theorem dX2_endBracket_17 : decode cX2_endBracket 17 = .ok (.dup, 1) := by decide +kernel
theorem dX2_endBracket_18 : decode cX2_endBracket 18 = .ok (.getfield 64, 3) := by decide +kernel
theorem dX2_endBracket_21 : decode cX2_endBracket 21 = .ok (.iconst 1, 1) := by decide +kernel
theorem dX2_endBracket_22 : decode cX2_endBracket 22 = .ok (.iadd, 1) := by decide +kernel
theorem dX2_endBracket_23 : decode cX2_endBracket 23 = .ok (.putfield 64, 3) := by decide +kernel
theorem dX2_endBracket_26 : decode cX2_endBracket 26 = .ok (.aload_n 0, 1) := by decide +kernel
theorem dX2_endBracket_27 : decode cX2_endBracket 27 = .ok (.dup, 1) := by decide +kernel
theorem dX2_endBracket_28 : decode cX2_endBracket 28 = .ok (.getfield 61, 3) := by decide +kernel
theorem dX2_endBracket_31 : decode cX2_endBracket 31 = .ok (.iconst 1, 1) := by decide +kernel
theorem dX2_endBracket_32 : decode cX2_endBracket 32 = .ok (.isub, 1) := by decide +kernel
theorem dX2_endBracket_33 : decode cX2_endBracket 33 = .ok (.putfield 61, 3) := by decide +kernel
theorem dX2_endBracket_36 : decode cX2_endBracket 36 = .ok (.aload_n 0, 1) := by decide +kernel
theorem dX2_endBracket_37 : decode cX2_endBracket 37 = .ok (.iconst 1, 1) := by decide +kernel
theorem dX2_endBracket_38 : decode cX2_endBracket 38 = .ok (.putfield 70, 3) := by decide +kernel
theorem dX2_endBracket_41 : decode cX2_endBracket 41 = .ok (.goto 12, 3) := by decide +kernel
theorem dX2_endBracket_44 : decode cX2_endBracket 44 = .ok (.aload_n 0, 1) := by decide +kernel
theorem dX2_endBracket_45 : decode cX2_endBracket 45 = .ok (.iconst 3, 1) := by decide +kernel
theorem dX2_endBracket_46 : decode cX2_endBracket 46 = .ok (.aload_n 0, 1) := by decide +kernel
theorem dX2_endBracket_47 : decode cX2_endBracket 47 = .ok (.getfield 64, 3) := by decide +kernel
theorem dX2_endBracket_50 : decode cX2_endBracket 50 = .ok (.invokevirtual 101, 3) := by decide +kernel
theorem dX2_endBracket_53 : decode cX2_endBracket 53 = .ok (.return_, 1) := by decide +kernel
theorem dX2_completeNode_0 : decode cX2_completeNode 0 = .ok (.aload_n 0, 1) := by decide +kernel
theorem dX2_completeNode_1 : decode cX2_completeNode 1 = .ok (.getfield 9, 3) := by decide +kernel
theorem dX2_completeNode_4 : decode cX2_completeNode 4 = .ok (.iload_n 1, 1) := by decide +kernel
theorem dX2_completeNode_5 : decode cX2_completeNode 5 = .ok (.iaload, 1) := by decide +kernel
theorem dX2_completeNode_6 : decode cX2_completeNode 6 = .ok (.istore_n 2, 1) := by decide +kernel
theorem dX2_completeNode_7 : decode cX2_completeNode 7 = .ok (.aload_n 0, 1) := by decide +kernel
theorem dX2_completeNode_8 : decode cX2_completeNode 8 = .ok (.iload_n 2, 1) := by decide +kernel
theorem dX2_completeNode_9 : decode cX2_completeNode 9 = .ok (.invokevirtual 124, 3) := by decide +kernel
theorem dX2_completeNode_12 : decode cX2_completeNode 12 = .ok (.ifCond .eq 16, 3) := by decide +kernel
theorem dX2_completeNode_15 : decode cX2_completeNode 15 = .ok (.aload_n 0, 1) := by decide +kernel
theorem dX2_completeNode_16 : decode cX2_completeNode 16 = .ok (.bipush 6, 2) := by decide +kernel
theorem dX2_completeNode_18 : decode cX2_completeNode 18 = .ok (.aload_n 0, 1) := by decide +kernel
theorem dX2_completeNode_19 : decode cX2_completeNode 19 = .ok (.getfield 15, 3) := by decide +kernel
theorem dX2_completeNode_22 : decode cX2_completeNode 22 = .ok (.iload_n 1, 1) := by decide +kernel
theorem dX2_completeNode_23 : decode cX2_completeNode 23 = .ok (.iaload, 1) := by decide +kernel
theorem dX2_completeNode_24 : decode cX2_completeNode 24 = .ok (.invokevirtual 101, 3) := by decide +kernel
theorem dX2_completeNode_27 : decode cX2_completeNode 27 = .ok (.return_, 1) := by decide +kernel
theorem dX2_completeNode_28 : decode cX2_completeNode 28 = .ok (.aload_n 0, 1) := by decide +kernel
theorem dX2_completeNode_29 : decode cX2_completeNode 29 = .ok (.dup, 1) := by decide +kernel
theorem dX2_completeNode_30 : decode cX2_completeNode 30 = .ok (.getfield 61, 3) := by decide +kernel
theorem dX2_completeNode_33 : decode cX2_completeNode 33 = .ok (.iconst 1, 1) := by decide +kernel
theorem dX2_completeNode_34 : decode cX2_completeNode 34 = .ok (.isub, 1) := by decide +kernel
theorem dX2_completeNode_35 : decode cX2_completeNode 35 = .ok (.putfield 61, 3) := by decide +kernel
theorem dX2_completeNode_38 : decode cX2_completeNode 38 = .ok (.aload_n 0, 1) := by decide +kernel
theorem dX2_completeNode_39 : decode cX2_completeNode 39 = .ok (.aload_n 0, 1) := by decide +kernel
theorem dX2_completeNode_40 : decode cX2_completeNode 40 = .ok (.getfield 25, 3) := by decide +kernel
theorem dX2_completeNode_43 : decode cX2_completeNode 43 = .ok (.iload_n 2, 1) := by decide +kernel
theorem dX2_completeNode_44 : decode cX2_completeNode 44 = .ok (.iconst (-1), 1) := by decide +kernel
theorem dX2_completeNode_45 : decode cX2_completeNode 45 = .ok (.aload_n 0, 1) := by decide +kernel
theorem dX2_completeNode_46 : decode cX2_completeNode 46 = .ok (.getfield 18, 3) := by decide +kernel
theorem dX2_completeNode_49 : decode cX2_completeNode 49 = .ok (.iload_n 1, 1) := by decide +kernel
theorem dX2_completeNode_50 : decode cX2_completeNode 50 = .ok (.iaload, 1) := by decide +kernel
theorem dX2_completeNode_51 : decode cX2_completeNode 51 = .ok (.aload_n 0, 1) := by decide +kernel
theorem dX2_completeNode_52 : decode cX2_completeNode 52 = .ok (.getfield 67, 3) := by decide +kernel
theorem dX2_completeNode_55 : decode cX2_completeNode 55 = .ok (.invokevirtual 89, 3) := by decide +kernel
theorem dX2_completeNode_58 : decode cX2_completeNode 58 = .ok (.invokevirtual 93, 3) := by decide +kernel
theorem dX2_completeNode_61 : decode cX2_completeNode 61 = .ok (.return_, 1) := by decide +kernel
theorem dX2_isForbiddenUnder_0 : decode cX2_isForbiddenUnder 0 = .ok (.aload_n 0, 1) := by decide +kernel
theorem dX2_isForbiddenUnder_1 : decode cX2_isForbiddenUnder 1 = .ok (.getfield 70, 3) := by decide +kernel
theorem dX2_isForbiddenUnder_4 : decode cX2_isForbiddenUnder 4 = .ok (.ifCond .ne 29, 3) := by decide +kernel
theorem dX2_isForbiddenUnder_7 : decode cX2_isForbiddenUnder 7 = .ok (.aload_n 0, 1) := by decide +kernel
theorem dX2_isForbiddenUnder_8 : decode cX2_isForbiddenUnder 8 = .ok (.getfield 21, 3) := by decide +kernel
theorem dX2_isForbiddenUnder_11 : decode cX2_isForbiddenUnder 11 = .ok (.iload_n 1, 1) := by decide +kernel
theorem dX2_isForbiddenUnder_12 : decode cX2_isForbiddenUnder 12 = .ok (.aload_n 0, 1) := by decide +kernel
theorem dX2_isForbiddenUnder_13 : decode cX2_isForbiddenUnder 13 = .ok (.getfield 25, 3) := by decide +kernel
theorem dX2_isForbiddenUnder_16 : decode cX2_isForbiddenUnder 16 = .ok (.aload_n 0, 1) := by decide +kernel
theorem dX2_isForbiddenUnder_17 : decode cX2_isForbiddenUnder 17 = .ok (.getfield 67, 3) := by decide +kernel
theorem dX2_isForbiddenUnder_20 : decode cX2_isForbiddenUnder 20 = .ok (.invokevirtual 117, 3) := by decide +kernel
theorem dX2_isForbiddenUnder_23 : decode cX2_isForbiddenUnder 23 = .ok (.invokevirtual 145, 3) := by decide +kernel
theorem dX2_isForbiddenUnder_26 : decode cX2_isForbiddenUnder 26 = .ok (.ifCond .eq 7, 3) := by decide +kernel
theorem dX2_isForbiddenUnder_29 : decode cX2_isForbiddenUnder 29 = .ok (.iconst 1, 1) := by decide +kernel
theorem dX2_isForbiddenUnder_30 : decode cX2_isForbiddenUnder 30 = .ok (.goto 4, 3) := by decide +kernel
theorem dX2_isForbiddenUnder_33 : decode cX2_isForbiddenUnder 33 = .ok (.iconst 0, 1) := by decide +kernel
theorem dX2_isForbiddenUnder_34 : decode cX2_isForbiddenUnder 34 = .ok (.ireturn, 1) := by decide +kernel
theorem dX2_takeLeftSide_0 : decode cX2_takeLeftSide 0 = .ok (.aload_n 0, 1) := by decide +kernel
theorem dX2_takeLeftSide_1 : decode cX2_takeLeftSide 1 = .ok (.iload_n 1, 1) := by decide +kernel
theorem dX2_takeLeftSide_2 : decode cX2_takeLeftSide 2 = .ok (.putfield 67, 3) := by decide +kernel
theorem dX2_takeLeftSide_5 : decode cX2_takeLeftSide 5 = .ok (.aload_n 0, 1) := by decide +kernel
theorem dX2_takeLeftSide_6 : decode cX2_takeLeftSide 6 = .ok (.iconst 0, 1) := by decide +kernel
theorem dX2_takeLeftSide_7 : decode cX2_takeLeftSide 7 = .ok (.putfield 70, 3) := by decide +kernel
theorem dX2_takeLeftSide_10 : decode cX2_takeLeftSide 10 = .ok (.aload_n 0, 1) := by decide +kernel
theorem dX2_takeLeftSide_11 : decode cX2_takeLeftSide 11 = .ok (.iconst 0, 1) := by decide +kernel
theorem dX2_takeLeftSide_12 : decode cX2_takeLeftSide 12 = .ok (.putfield 47, 3) := by decide +kernel
theorem dX2_takeLeftSide_15 : decode cX2_takeLeftSide 15 = .ok (.return_, 1) := by decide +kernel
theorem dX2_fail_0 : decode cX2_fail 0 = .ok (.aload_n 0, 1) := by decide +kernel
theorem dX2_fail_1 : decode cX2_fail 1 = .ok (.iload_n 1, 1) := by decide +kernel
theorem dX2_fail_2 : decode cX2_fail 2 = .ok (.putfield 33, 3) := by decide +kernel
theorem dX2_fail_5 : decode cX2_fail 5 = .ok (.aload_n 0, 1) := by decide +kernel
theorem dX2_fail_6 : decode cX2_fail 6 = .ok (.iload_n 2, 1) := by decide +kernel
theorem dX2_fail_7 : decode cX2_fail 7 = .ok (.putfield 37, 3) := by decide +kernel
theorem dX2_fail_10 : decode cX2_fail 10 = .ok (.aload_n 0, 1) := by decide +kernel
theorem dX2_fail_11 : decode cX2_fail 11 = .ok (.iconst 1, 1) := by decide +kernel
theorem dX2_fail_12 : decode cX2_fail 12 = .ok (.putfield 43, 3) := by decide +kernel
theorem dX2_fail_15 : decode cX2_fail 15 = .ok (.return_, 1) := by decide +kernel
theorem dX4_writeAll_0 : decode cX4_writeAll 0 = .ok (.aload_n 0, 1) := by decide +kernel
theorem dX4_writeAll_1 : decode cX4_writeAll 1 = .ok (.iload_n 2, 1) := by decide +kernel
theorem dX4_writeAll_2 : decode cX4_writeAll 2 = .ok (.putfield 27, 3) := by decide +kernel
theorem dX4_writeAll_5 : decode cX4_writeAll 5 = .ok (.aload_n 0, 1) := by decide +kernel
theorem dX4_writeAll_6 : decode cX4_writeAll 6 = .ok (.getfield 27, 3) := by decide +kernel
theorem dX4_writeAll_9 : decode cX4_writeAll 9 = .ok (.ifCond .ne 13, 3) := by decide +kernel
theorem dX4_writeAll_12 : decode cX4_writeAll 12 = .ok (.aload_n 0, 1) := by decide +kernel
theorem dX4_writeAll_13 : decode cX4_writeAll 13 = .ok (.iload_n 1, 1) := by decide +kernel
theorem dX4_writeAll_14 : decode cX4_writeAll 14 = .ok (.invokevirtual 31, 3) := by decide +kernel
theorem dX4_writeAll_17 : decode cX4_writeAll 17 = .ok (.aload_n 0, 1) := by decide +kernel
theorem dX4_writeAll_18 : decode cX4_writeAll 18 = .ok (.iload_n 1, 1) := by decide +kernel
theorem dX4_writeAll_19 : decode cX4_writeAll 19 = .ok (.invokevirtual 35, 3) := by decide +kernel
theorem dX4_writeAll_22 : decode cX4_writeAll 22 = .ok (.aload_n 0, 1) := by decide +kernel
theorem dX4_writeAll_23 : decode cX4_writeAll 23 = .ok (.getfield 23, 3) := by decide +kernel
theorem dX4_writeAll_26 : decode cX4_writeAll 26 = .ok (.invokevirtual 38, 3) := by decide +kernel
theorem dX4_writeAll_29 : decode cX4_writeAll 29 = .ok (.aload_n 0, 1) := by decide +kernel
theorem dX4_writeAll_30 : decode cX4_writeAll 30 = .ok (.iload_n 1, 1) := by decide +kernel
theorem dX4_writeAll_31 : decode cX4_writeAll 31 = .ok (.iconst 0, 1) := by decide +kernel
theorem dX4_writeAll_32 : decode cX4_writeAll 32 = .ok (.iconst 0, 1) := by decide +kernel
theorem dX4_writeAll_33 : decode cX4_writeAll 33 = .ok (.iconst 0, 1) := by decide +kernel
theorem dX4_writeAll_34 : decode cX4_writeAll 34 = .ok (.invokevirtual 43, 3) := by decide +kernel
theorem dX4_writeAll_37 : decode cX4_writeAll 37 = .ok (.return_, 1) := by decide +kernel
theorem dX4_markNeeded_0 : decode cX4_markNeeded 0 = .ok (.aload_n 0, 1) := by decide +kernel
theorem dX4_markNeeded_1 : decode cX4_markNeeded 1 = .ok (.iload_n 1, 1) := by decide +kernel
theorem dX4_markNeeded_2 : decode cX4_markNeeded 2 = .ok (.invokevirtual 47, 3) := by decide +kernel
theorem dX4_markNeeded_5 : decode cX4_markNeeded 5 = .ok (.iload_n 1, 1) := by decide +kernel
theorem dX4_markNeeded_6 : decode cX4_markNeeded 6 = .ok (.bipush 99, 2) := by decide +kernel
theorem dX4_markNeeded_8 : decode cX4_markNeeded 8 = .ok (.invokestatic 50, 3) := by decide +kernel
theorem dX4_markNeeded_11 : decode cX4_markNeeded 11 = .ok (.istore_n 2, 1) := by decide +kernel
theorem dX4_markNeeded_12 : decode cX4_markNeeded 12 = .ok (.iload_n 2, 1) := by decide +kernel
theorem dX4_markNeeded_13 : decode cX4_markNeeded 13 = .ok (.ifCond .lt 43, 3) := by decide +kernel
theorem dX4_markNeeded_16 : decode cX4_markNeeded 16 = .ok (.aload_n 0, 1) := by decide +kernel
theorem dX4_markNeeded_17 : decode cX4_markNeeded 17 = .ok (.getfield 9, 3) := by decide +kernel
theorem dX4_markNeeded_20 : decode cX4_markNeeded 20 = .ok (.iload_n 2, 1) := by decide +kernel
theorem dX4_markNeeded_21 : decode cX4_markNeeded 21 = .ok (.iaload, 1) := by decide +kernel
theorem dX4_markNeeded_22 : decode cX4_markNeeded 22 = .ok (.iconst (-1), 1) := by decide +kernel
theorem dX4_markNeeded_23 : decode cX4_markNeeded 23 = .ok (.if_icmp .ne 27, 3) := by decide +kernel
theorem dX4_markNeeded_26 : decode cX4_markNeeded 26 = .ok (.aload_n 0, 1) := by decide +kernel
theorem dX4_markNeeded_27 : decode cX4_markNeeded 27 = .ok (.aload_n 0, 1) := by decide +kernel
theorem dX4_markNeeded_28 : decode cX4_markNeeded 28 = .ok (.getfield 19, 3) := by decide +kernel
theorem dX4_markNeeded_31 : decode cX4_markNeeded 31 = .ok (.iload_n 2, 1) := by decide +kernel
theorem dX4_markNeeded_32 : decode cX4_markNeeded 32 = .ok (.invokevirtual 56, 3) := by decide +kernel
theorem dX4_markNeeded_35 : decode cX4_markNeeded 35 = .ok (.invokevirtual 47, 3) := by decide +kernel
theorem dX4_markNeeded_38 : decode cX4_markNeeded 38 = .ok (.aload_n 0, 1) := by decide +kernel
theorem dX4_markNeeded_39 : decode cX4_markNeeded 39 = .ok (.aload_n 0, 1) := by decide +kernel
theorem dX4_markNeeded_40 : decode cX4_markNeeded 40 = .ok (.getfield 19, 3) := by decide +kernel
theorem dX4_markNeeded_43 : decode cX4_markNeeded 43 = .ok (.iload_n 2, 1) := by decide +kernel
theorem dX4_markNeeded_44 : decode cX4_markNeeded 44 = .ok (.invokevirtual 62, 3) := by decide +kernel
theorem dX4_markNeeded_47 : decode cX4_markNeeded 47 = .ok (.invokevirtual 47, 3) := by decide +kernel
theorem dX4_markNeeded_50 : decode cX4_markNeeded 50 = .ok (.iinc 2 (-1), 3) := by decide +kernel
theorem dX4_markNeeded_53 : decode cX4_markNeeded 53 = .ok (.goto (-41), 3) := by decide +kernel
theorem dX4_markNeeded_56 : decode cX4_markNeeded 56 = .ok (.return_, 1) := by decide +kernel
theorem dX4_mark_0 : decode cX4_mark 0 = .ok (.iload_n 1, 1) := by decide +kernel
theorem dX4_mark_1 : decode cX4_mark 1 = .ok (.ifCond .lt 16, 3) := by decide +kernel
theorem dX4_mark_4 : decode cX4_mark 4 = .ok (.iload_n 1, 1) := by decide +kernel
theorem dX4_mark_5 : decode cX4_mark 5 = .ok (.bipush 100, 2) := by decide +kernel
theorem dX4_mark_7 : decode cX4_mark 7 = .ok (.if_icmp .ge 10, 3) := by decide +kernel
theorem dX4_mark_10 : decode cX4_mark 10 = .ok (.aload_n 0, 1) := by decide +kernel
theorem dX4_mark_11 : decode cX4_mark 11 = .ok (.getfield 9, 3) := by decide +kernel
theorem dX4_mark_14 : decode cX4_mark 14 = .ok (.iload_n 1, 1) := by decide +kernel
theorem dX4_mark_15 : decode cX4_mark 15 = .ok (.iconst (-1), 1) := by decide +kernel
theorem dX4_mark_16 : decode cX4_mark 16 = .ok (.iastore, 1) := by decide +kernel
theorem dX4_mark_17 : decode cX4_mark 17 = .ok (.return_, 1) := by decide +kernel
theorem dX4_countNeeded_0 : decode cX4_countNeeded 0 = .ok (.iconst 0, 1) := by decide +kernel
theorem dX4_countNeeded_1 : decode cX4_countNeeded 1 = .ok (.istore_n 2, 1) := by decide +kernel
theorem dX4_countNeeded_2 : decode cX4_countNeeded 2 = .ok (.iload_n 2, 1) := by decide +kernel
theorem dX4_countNeeded_3 : decode cX4_countNeeded 3 = .ok (.iload_n 1, 1) := by decide +kernel
theorem dX4_countNeeded_4 : decode cX4_countNeeded 4 = .ok (.if_icmp .gt 39, 3) := by decide +kernel
theorem dX4_countNeeded_7 : decode cX4_countNeeded 7 = .ok (.iload_n 2, 1) := by decide +kernel
theorem dX4_countNeeded_8 : decode cX4_countNeeded 8 = .ok (.bipush 100, 2) := by decide +kernel
theorem dX4_countNeeded_10 : decode cX4_countNeeded 10 = .ok (.if_icmp .ge 33, 3) := by decide +kernel
theorem dX4_countNeeded_13 : decode cX4_countNeeded 13 = .ok (.aload_n 0, 1) := by decide +kernel
theorem dX4_countNeeded_14 : decode cX4_countNeeded 14 = .ok (.getfield 9, 3) := by decide +kernel
theorem dX4_countNeeded_17 : decode cX4_countNeeded 17 = .ok (.iload_n 2, 1) := by decide +kernel
theorem dX4_countNeeded_18 : decode cX4_countNeeded 18 = .ok (.iaload, 1) := by decide +kernel
theorem dX4_countNeeded_19 : decode cX4_countNeeded 19 = .ok (.iconst (-1), 1) := by decide +kernel
theorem dX4_countNeeded_20 : decode cX4_countNeeded 20 = .ok (.if_icmp .ne 17, 3) := by decide +kernel
theorem dX4_countNeeded_23 : decode cX4_countNeeded 23 = .ok (.aload_n 0, 1) := by decide +kernel
theorem dX4_countNeeded_24 : decode cX4_countNeeded 24 = .ok (.getfield 9, 3) := by decide +kernel
theorem dX4_countNeeded_27 : decode cX4_countNeeded 27 = .ok (.iload_n 2, 1) := by decide +kernel
theorem dX4_countNeeded_28 : decode cX4_countNeeded 28 = .ok (.aload_n 0, 1) := by decide +kernel
theorem dX4_countNeeded_29 : decode cX4_countNeeded 29 = .ok (.iload_n 2, 1) := by decide +kernel
theorem dX4_countNeeded_30 : decode cX4_countNeeded 30 = .ok (.iconst 0, 1) := by decide +kernel
theorem dX4_countNeeded_31 : decode cX4_countNeeded 31 = .ok (.iconst 0, 1) := by decide +kernel
theorem dX4_countNeeded_32 : decode cX4_countNeeded 32 = .ok (.iconst 0, 1) := by decide +kernel
theorem dX4_countNeeded_33 : decode cX4_countNeeded 33 = .ok (.invokevirtual 65, 3) := by decide +kernel
theorem dX4_countNeeded_36 : decode cX4_countNeeded 36 = .ok (.iastore, 1) := by decide +kernel
theorem dX4_countNeeded_37 : decode cX4_countNeeded 37 = .ok (.iinc 2 1, 3) := by decide +kernel
theorem dX4_countNeeded_40 : decode cX4_countNeeded 40 = .ok (.goto (-38), 3) := by decide +kernel
theorem dX4_countNeeded_43 : decode cX4_countNeeded 43 = .ok (.return_, 1) := by decide +kernel
theorem dX4_pairsInside_0 : decode cX4_pairsInside 0 = .ok (.aload_n 0, 1) := by decide +kernel
theorem dX4_pairsInside_1 : decode cX4_pairsInside 1 = .ok (.getfield 19, 3) := by decide +kernel
theorem dX4_pairsInside_4 : decode cX4_pairsInside 4 = .ok (.iload_n 1, 1) := by decide +kernel
theorem dX4_pairsInside_5 : decode cX4_pairsInside 5 = .ok (.invokevirtual 69, 3) := by decide +kernel
theorem dX4_pairsInside_8 : decode cX4_pairsInside 8 = .ok (.istore 5, 2) := by decide +kernel
theorem dX4_pairsInside_10 : decode cX4_pairsInside 10 = .ok (.iload 5, 2) := by decide +kernel
theorem dX4_pairsInside_12 : decode cX4_pairsInside 12 = .ok (.iconst (-1), 1) := by decide +kernel
theorem dX4_pairsInside_13 : decode cX4_pairsInside 13 = .ok (.if_icmp .ne 5, 3) := by decide +kernel
theorem dX4_pairsInside_16 : decode cX4_pairsInside 16 = .ok (.iconst 0, 1) := by decide +kernel
theorem dX4_pairsInside_17 : decode cX4_pairsInside 17 = .ok (.ireturn, 1) := by decide +kernel
theorem dX4_pairsInside_18 : decode cX4_pairsInside 18 = .ok (.iload 4, 2) := by decide +kernel
theorem dX4_pairsInside_20 : decode cX4_pairsInside 20 = .ok (.bipush 40, 2) := by decide +kernel
theorem dX4_pairsInside_22 : decode cX4_pairsInside 22 = .ok (.if_icmp .ge 14, 3) := by decide +kernel
theorem dX4_pairsInside_25 : decode cX4_pairsInside 25 = .ok (.aload_n 0, 1) := by decide +kernel
theorem dX4_pairsInside_26 : decode cX4_pairsInside 26 = .ok (.iload 5, 2) := by decide +kernel
theorem dX4_pairsInside_28 : decode cX4_pairsInside 28 = .ok (.iload_n 2, 1) := by decide +kernel
theorem dX4_pairsInside_29 : decode cX4_pairsInside 29 = .ok (.iload_n 3, 1) := by decide +kernel
theorem dX4_pairsInside_30 : decode cX4_pairsInside 30 = .ok (.invokevirtual 72, 3) := by decide +kernel
theorem dX4_pairsInside_33 : decode cX4_pairsInside 33 = .ok (.ifCond .ne 7, 3) := by decide +kernel
theorem dX4_pairsInside_36 : decode cX4_pairsInside 36 = .ok (.sipush 1000, 3) := by decide +kernel
theorem dX4_pairsInside_39 : decode cX4_pairsInside 39 = .ok (.ireturn, 1) := by decide +kernel
theorem dX4_pairsInside_40 : decode cX4_pairsInside 40 = .ok (.aload_n 0, 1) := by decide +kernel
theorem dX4_pairsInside_41 : decode cX4_pairsInside 41 = .ok (.iload 5, 2) := by decide +kernel
theorem dX4_pairsInside_43 : decode cX4_pairsInside 43 = .ok (.aload_n 0, 1) := by decide +kernel
theorem dX4_pairsInside_44 : decode cX4_pairsInside 44 = .ok (.getfield 19, 3) := by decide +kernel
theorem dX4_pairsInside_47 : decode cX4_pairsInside 47 = .ok (.iload_n 1, 1) := by decide +kernel
theorem dX4_pairsInside_48 : decode cX4_pairsInside 48 = .ok (.invokevirtual 56, 3) := by decide +kernel
theorem dX4_pairsInside_51 : decode cX4_pairsInside 51 = .ok (.iload_n 2, 1) := by decide +kernel
theorem dX4_pairsInside_52 : decode cX4_pairsInside 52 = .ok (.aload_n 0, 1) := by decide +kernel
theorem dX4_pairsInside_53 : decode cX4_pairsInside 53 = .ok (.getfield 15, 3) := by decide +kernel
theorem dX4_pairsInside_56 : decode cX4_pairsInside 56 = .ok (.iload 5, 2) := by decide +kernel
theorem dX4_pairsInside_58 : decode cX4_pairsInside 58 = .ok (.invokevirtual 76, 3) := by decide +kernel
theorem dX4_pairsInside_61 : decode cX4_pairsInside 61 = .ok (.iload 4, 2) := by decide +kernel
theorem dX4_pairsInside_63 : decode cX4_pairsInside 63 = .ok (.iconst 1, 1) := by decide +kernel
theorem dX4_pairsInside_64 : decode cX4_pairsInside 64 = .ok (.iadd, 1) := by decide +kernel
theorem dX4_pairsInside_65 : decode cX4_pairsInside 65 = .ok (.invokevirtual 81, 3) := by decide +kernel
theorem dX4_pairsInside_68 : decode cX4_pairsInside 68 = .ok (.aload_n 0, 1) := by decide +kernel
theorem dX4_pairsInside_69 : decode cX4_pairsInside 69 = .ok (.iload 5, 2) := by decide +kernel
theorem dX4_pairsInside_71 : decode cX4_pairsInside 71 = .ok (.aload_n 0, 1) := by decide +kernel
theorem dX4_pairsInside_72 : decode cX4_pairsInside 72 = .ok (.getfield 19, 3) := by decide +kernel
theorem dX4_pairsInside_75 : decode cX4_pairsInside 75 = .ok (.iload_n 1, 1) := by decide +kernel
theorem dX4_pairsInside_76 : decode cX4_pairsInside 76 = .ok (.invokevirtual 62, 3) := by decide +kernel
theorem dX4_pairsInside_79 : decode cX4_pairsInside 79 = .ok (.aload_n 0, 1) := by decide +kernel
theorem dX4_pairsInside_80 : decode cX4_pairsInside 80 = .ok (.getfield 15, 3) := by decide +kernel
theorem dX4_pairsInside_83 : decode cX4_pairsInside 83 = .ok (.iload 5, 2) := by decide +kernel
theorem dX4_pairsInside_85 : decode cX4_pairsInside 85 = .ok (.invokevirtual 85, 3) := by decide +kernel
theorem dX4_pairsInside_88 : decode cX4_pairsInside 88 = .ok (.iload_n 3, 1) := by decide +kernel
theorem dX4_pairsInside_89 : decode cX4_pairsInside 89 = .ok (.iload 4, 2) := by decide +kernel
theorem dX4_pairsInside_91 : decode cX4_pairsInside 91 = .ok (.iconst 1, 1) := by decide +kernel
theorem dX4_pairsInside_92 : decode cX4_pairsInside 92 = .ok (.iadd, 1) := by decide +kernel
theorem dX4_pairsInside_93 : decode cX4_pairsInside 93 = .ok (.invokevirtual 81, 3) := by decide +kernel
theorem dX4_pairsInside_96 : decode cX4_pairsInside 96 = .ok (.iadd, 1) := by decide +kernel
theorem dX4_pairsInside_97 : decode cX4_pairsInside 97 = .ok (.ireturn, 1) := by decide +kernel
theorem dX4_isReadWhole_0 : decode cX4_isReadWhole 0 = .ok (.aload_n 0, 1) := by decide +kernel
theorem dX4_isReadWhole_1 : decode cX4_isReadWhole 1 = .ok (.getfield 15, 3) := by decide +kernel
theorem dX4_isReadWhole_4 : decode cX4_isReadWhole 4 = .ok (.iload_n 1, 1) := by decide +kernel
theorem dX4_isReadWhole_5 : decode cX4_isReadWhole 5 = .ok (.invokevirtual 88, 3) := by decide +kernel
theorem dX4_isReadWhole_8 : decode cX4_isReadWhole 8 = .ok (.istore 4, 2) := by decide +kernel
theorem dX4_isReadWhole_10 : decode cX4_isReadWhole 10 = .ok (.iload 4, 2) := by decide +kernel
theorem dX4_isReadWhole_12 : decode cX4_isReadWhole 12 = .ok (.iconst 1, 1) := by decide +kernel
theorem dX4_isReadWhole_13 : decode cX4_isReadWhole 13 = .ok (.if_icmp .eq 15, 3) := by decide +kernel
theorem dX4_isReadWhole_16 : decode cX4_isReadWhole 16 = .ok (.aload_n 0, 1) := by decide +kernel
theorem dX4_isReadWhole_17 : decode cX4_isReadWhole 17 = .ok (.getfield 15, 3) := by decide +kernel
theorem dX4_isReadWhole_20 : decode cX4_isReadWhole 20 = .ok (.iload_n 1, 1) := by decide +kernel
theorem dX4_isReadWhole_21 : decode cX4_isReadWhole 21 = .ok (.invokevirtual 76, 3) := by decide +kernel
theorem dX4_isReadWhole_24 : decode cX4_isReadWhole 24 = .ok (.iload_n 2, 1) := by decide +kernel
theorem dX4_isReadWhole_25 : decode cX4_isReadWhole 25 = .ok (.if_icmp .lt 7, 3) := by decide +kernel
theorem dX4_isReadWhole_28 : decode cX4_isReadWhole 28 = .ok (.iconst 1, 1) := by decide +kernel
theorem dX4_isReadWhole_29 : decode cX4_isReadWhole 29 = .ok (.goto 4, 3) := by decide +kernel
theorem dX4_isReadWhole_32 : decode cX4_isReadWhole 32 = .ok (.iconst 0, 1) := by decide +kernel
theorem dX4_isReadWhole_33 : decode cX4_isReadWhole 33 = .ok (.istore 5, 2) := by decide +kernel
theorem dX4_isReadWhole_35 : decode cX4_isReadWhole 35 = .ok (.iload 4, 2) := by decide +kernel
theorem dX4_isReadWhole_37 : decode cX4_isReadWhole 37 = .ok (.iconst 2, 1) := by decide +kernel
theorem dX4_isReadWhole_38 : decode cX4_isReadWhole 38 = .ok (.if_icmp .eq 15, 3) := by decide +kernel
theorem dX4_isReadWhole_41 : decode cX4_isReadWhole 41 = .ok (.aload_n 0, 1) := by decide +kernel
theorem dX4_isReadWhole_42 : decode cX4_isReadWhole 42 = .ok (.getfield 15, 3) := by decide +kernel
theorem dX4_isReadWhole_45 : decode cX4_isReadWhole 45 = .ok (.iload_n 1, 1) := by decide +kernel
theorem dX4_isReadWhole_46 : decode cX4_isReadWhole 46 = .ok (.invokevirtual 85, 3) := by decide +kernel
theorem dX4_isReadWhole_49 : decode cX4_isReadWhole 49 = .ok (.iload_n 3, 1) := by decide +kernel
theorem dX4_isReadWhole_50 : decode cX4_isReadWhole 50 = .ok (.if_icmp .le 7, 3) := by decide +kernel
theorem dX4_isReadWhole_53 : decode cX4_isReadWhole 53 = .ok (.iconst 1, 1) := by decide +kernel
theorem dX4_isReadWhole_54 : decode cX4_isReadWhole 54 = .ok (.goto 4, 3) := by decide +kernel
theorem dX4_isReadWhole_57 : decode cX4_isReadWhole 57 = .ok (.iconst 0, 1) := by decide +kernel
theorem dX4_isReadWhole_58 : decode cX4_isReadWhole 58 = .ok (.istore 6, 2) := by decide +kernel
theorem dX4_isReadWhole_60 : decode cX4_isReadWhole 60 = .ok (.iload 5, 2) := by decide +kernel
theorem dX4_isReadWhole_62 : decode cX4_isReadWhole 62 = .ok (.ifCond .eq 12, 3) := by decide +kernel
theorem dX4_isReadWhole_65 : decode cX4_isReadWhole 65 = .ok (.iload 6, 2) := by decide +kernel
theorem dX4_isReadWhole_67 : decode cX4_isReadWhole 67 = .ok (.ifCond .eq 7, 3) := by decide +kernel
theorem dX4_isReadWhole_70 : decode cX4_isReadWhole 70 = .ok (.iconst 1, 1) := by decide +kernel
theorem dX4_isReadWhole_71 : decode cX4_isReadWhole 71 = .ok (.goto 4, 3) := by decide +kernel
theorem dX4_isReadWhole_74 : decode cX4_isReadWhole 74 = .ok (.iconst 0, 1) := by decide +kernel
theorem dX4_isReadWhole_75 : decode cX4_isReadWhole 75 = .ok (.ireturn, 1) := by decide +kernel
theorem dX4_pairsOfOperand_0 : decode cX4_pairsOfOperand 0 = .ok (.aload_n 0, 1) := by decide +kernel
theorem dX4_pairsOfOperand_1 : decode cX4_pairsOfOperand 1 = .ok (.getfield 19, 3) := by decide +kernel
theorem dX4_pairsOfOperand_4 : decode cX4_pairsOfOperand 4 = .ok (.iload_n 2, 1) := by decide +kernel
theorem dX4_pairsOfOperand_5 : decode cX4_pairsOfOperand 5 = .ok (.invokevirtual 69, 3) := by decide +kernel
theorem dX4_pairsOfOperand_8 : decode cX4_pairsOfOperand 8 = .ok (.iconst (-1), 1) := by decide +kernel
theorem dX4_pairsOfOperand_9 : decode cX4_pairsOfOperand 9 = .ok (.if_icmp .ne 5, 3) := by decide +kernel
theorem dX4_pairsOfOperand_12 : decode cX4_pairsOfOperand 12 = .ok (.iconst 0, 1) := by decide +kernel
theorem dX4_pairsOfOperand_13 : decode cX4_pairsOfOperand 13 = .ok (.ireturn, 1) := by decide +kernel
theorem dX4_pairsOfOperand_14 : decode cX4_pairsOfOperand 14 = .ok (.aload_n 0, 1) := by decide +kernel
theorem dX4_pairsOfOperand_15 : decode cX4_pairsOfOperand 15 = .ok (.iload_n 1, 1) := by decide +kernel
theorem dX4_pairsOfOperand_16 : decode cX4_pairsOfOperand 16 = .ok (.iload_n 2, 1) := by decide +kernel
theorem dX4_pairsOfOperand_17 : decode cX4_pairsOfOperand 17 = .ok (.iload_n 3, 1) := by decide +kernel
theorem dX4_pairsOfOperand_18 : decode cX4_pairsOfOperand 18 = .ok (.iload 4, 2) := by decide +kernel
theorem dX4_pairsOfOperand_20 : decode cX4_pairsOfOperand 20 = .ok (.iload 5, 2) := by decide +kernel
theorem dX4_pairsOfOperand_22 : decode cX4_pairsOfOperand 22 = .ok (.invokevirtual 91, 3) := by decide +kernel
theorem dX4_pairsOfOperand_25 : decode cX4_pairsOfOperand 25 = .ok (.aload_n 0, 1) := by decide +kernel
theorem dX4_pairsOfOperand_26 : decode cX4_pairsOfOperand 26 = .ok (.iload_n 2, 1) := by decide +kernel
theorem dX4_pairsOfOperand_27 : decode cX4_pairsOfOperand 27 = .ok (.invokevirtual 94, 3) := by decide +kernel
theorem dX4_pairsOfOperand_30 : decode cX4_pairsOfOperand 30 = .ok (.invokestatic 50, 3) := by decide +kernel
theorem dX4_pairsOfOperand_33 : decode cX4_pairsOfOperand 33 = .ok (.ireturn, 1) := by decide +kernel
theorem dX4_pairsIfBracketed_0 : decode cX4_pairsIfBracketed 0 = .ok (.iload_n 1, 1) := by decide +kernel
theorem dX4_pairsIfBracketed_1 : decode cX4_pairsIfBracketed 1 = .ok (.ifCond .lt 20, 3) := by decide +kernel
theorem dX4_pairsIfBracketed_4 : decode cX4_pairsIfBracketed 4 = .ok (.iload_n 1, 1) := by decide +kernel
theorem dX4_pairsIfBracketed_5 : decode cX4_pairsIfBracketed 5 = .ok (.bipush 100, 2) := by decide +kernel
theorem dX4_pairsIfBracketed_7 : decode cX4_pairsIfBracketed 7 = .ok (.if_icmp .ge 14, 3) := by decide +kernel
theorem dX4_pairsIfBracketed_10 : decode cX4_pairsIfBracketed 10 = .ok (.iconst 1, 1) := by decide +kernel
theorem dX4_pairsIfBracketed_11 : decode cX4_pairsIfBracketed 11 = .ok (.aload_n 0, 1) := by decide +kernel
theorem dX4_pairsIfBracketed_12 : decode cX4_pairsIfBracketed 12 = .ok (.getfield 9, 3) := by decide +kernel
theorem dX4_pairsIfBracketed_15 : decode cX4_pairsIfBracketed 15 = .ok (.iload_n 1, 1) := by decide +kernel
theorem dX4_pairsIfBracketed_16 : decode cX4_pairsIfBracketed 16 = .ok (.iaload, 1) := by decide +kernel
theorem dX4_pairsIfBracketed_17 : decode cX4_pairsIfBracketed 17 = .ok (.iadd, 1) := by decide +kernel
theorem dX4_pairsIfBracketed_18 : decode cX4_pairsIfBracketed 18 = .ok (.goto 6, 3) := by decide +kernel
theorem dX4_pairsIfBracketed_21 : decode cX4_pairsIfBracketed 21 = .ok (.sipush 1000, 3) := by decide +kernel
theorem dX4_pairsIfBracketed_24 : decode cX4_pairsIfBracketed 24 = .ok (.ireturn, 1) := by decide +kernel
theorem dX4_pairsIfOpen_0 : decode cX4_pairsIfOpen 0 = .ok (.aload_n 0, 1) := by decide +kernel
theorem dX4_pairsIfOpen_1 : decode cX4_pairsIfOpen 1 = .ok (.getfield 19, 3) := by decide +kernel
theorem dX4_pairsIfOpen_4 : decode cX4_pairsIfOpen 4 = .ok (.iload_n 2, 1) := by decide +kernel
theorem dX4_pairsIfOpen_5 : decode cX4_pairsIfOpen 5 = .ok (.invokevirtual 69, 3) := by decide +kernel
theorem dX4_pairsIfOpen_8 : decode cX4_pairsIfOpen 8 = .ok (.istore 6, 2) := by decide +kernel
theorem dX4_pairsIfOpen_10 : decode cX4_pairsIfOpen 10 = .ok (.aload_n 0, 1) := by decide +kernel
theorem dX4_pairsIfOpen_11 : decode cX4_pairsIfOpen 11 = .ok (.getfield 15, 3) := by decide +kernel
theorem dX4_pairsIfOpen_14 : decode cX4_pairsIfOpen 14 = .ok (.iload_n 1, 1) := by decide +kernel
theorem dX4_pairsIfOpen_15 : decode cX4_pairsIfOpen 15 = .ok (.iload 6, 2) := by decide +kernel
theorem dX4_pairsIfOpen_17 : decode cX4_pairsIfOpen 17 = .ok (.invokevirtual 97, 3) := by decide +kernel
theorem dX4_pairsIfOpen_20 : decode cX4_pairsIfOpen 20 = .ok (.ifCond .ne 16, 3) := by decide +kernel
theorem dX4_pairsIfOpen_23 : decode cX4_pairsIfOpen 23 = .ok (.aload_n 0, 1) := by decide +kernel
theorem dX4_pairsIfOpen_24 : decode cX4_pairsIfOpen 24 = .ok (.getfield 15, 3) := by decide +kernel
theorem dX4_pairsIfOpen_27 : decode cX4_pairsIfOpen 27 = .ok (.iload_n 1, 1) := by decide +kernel
theorem dX4_pairsIfOpen_28 : decode cX4_pairsIfOpen 28 = .ok (.iload 6, 2) := by decide +kernel
theorem dX4_pairsIfOpen_30 : decode cX4_pairsIfOpen 30 = .ok (.invokevirtual 101, 3) := by decide +kernel
theorem dX4_pairsIfOpen_33 : decode cX4_pairsIfOpen 33 = .ok (.ifCond .eq 7, 3) := by decide +kernel
theorem dX4_pairsIfOpen_36 : decode cX4_pairsIfOpen 36 = .ok (.sipush 1000, 3) := by decide +kernel
theorem dX4_pairsIfOpen_39 : decode cX4_pairsIfOpen 39 = .ok (.ireturn, 1) := by decide +kernel
theorem dX4_pairsIfOpen_40 : decode cX4_pairsIfOpen 40 = .ok (.aload_n 0, 1) := by decide +kernel
theorem dX4_pairsIfOpen_41 : decode cX4_pairsIfOpen 41 = .ok (.iload_n 2, 1) := by decide +kernel
theorem dX4_pairsIfOpen_42 : decode cX4_pairsIfOpen 42 = .ok (.iload_n 3, 1) := by decide +kernel
theorem dX4_pairsIfOpen_43 : decode cX4_pairsIfOpen 43 = .ok (.iload 4, 2) := by decide +kernel
theorem dX4_pairsIfOpen_45 : decode cX4_pairsIfOpen 45 = .ok (.iload 5, 2) := by decide +kernel
theorem dX4_pairsIfOpen_47 : decode cX4_pairsIfOpen 47 = .ok (.invokevirtual 65, 3) := by decide +kernel
theorem dX4_pairsIfOpen_50 : decode cX4_pairsIfOpen 50 = .ok (.ireturn, 1) := by decide +kernel
theorem dX4_writeNode_0 : decode cX4_writeNode 0 = .ok (.iload 4, 2) := by decide +kernel
theorem dX4_writeNode_2 : decode cX4_writeNode 2 = .ok (.bipush 40, 2) := by decide +kernel
theorem dX4_writeNode_4 : decode cX4_writeNode 4 = .ok (.if_icmp .lt 4, 3) := by decide +kernel
theorem dX4_writeNode_7 : decode cX4_writeNode 7 = .ok (.return_, 1) := by decide +kernel
theorem dX4_writeNode_8 : decode cX4_writeNode 8 = .ok (.aload_n 0, 1) := by decide +kernel
theorem dX4_writeNode_9 : decode cX4_writeNode 9 = .ok (.getfield 19, 3) := by decide +kernel
theorem dX4_writeNode_12 : decode cX4_writeNode 12 = .ok (.iload_n 1, 1) := by decide +kernel
theorem dX4_writeNode_13 : decode cX4_writeNode 13 = .ok (.invokevirtual 69, 3) := by decide +kernel
theorem dX4_writeNode_16 : decode cX4_writeNode 16 = .ok (.istore 5, 2) := by decide +kernel
theorem dX4_writeNode_18 : decode cX4_writeNode 18 = .ok (.iload 5, 2) := by decide +kernel
theorem dX4_writeNode_20 : decode cX4_writeNode 20 = .ok (.iconst (-1), 1) := by decide +kernel
theorem dX4_writeNode_21 : decode cX4_writeNode 21 = .ok (.if_icmp .ne 20, 3) := by decide +kernel
theorem dX4_writeNode_24 : decode cX4_writeNode 24 = .ok (.aload_n 0, 1) := by decide +kernel
theorem dX4_writeNode_25 : decode cX4_writeNode 25 = .ok (.getfield 23, 3) := by decide +kernel
theorem dX4_writeNode_28 : decode cX4_writeNode 28 = .ok (.aload_n 0, 1) := by decide +kernel
theorem dX4_writeNode_29 : decode cX4_writeNode 29 = .ok (.getfield 19, 3) := by decide +kernel
theorem dX4_writeNode_32 : decode cX4_writeNode 32 = .ok (.iload_n 1, 1) := by decide +kernel
theorem dX4_writeNode_33 : decode cX4_writeNode 33 = .ok (.invokevirtual 104, 3) := by decide +kernel
theorem dX4_writeNode_36 : decode cX4_writeNode 36 = .ok (.invokevirtual 107, 3) := by decide +kernel
theorem dX4_writeNode_39 : decode cX4_writeNode 39 = .ok (.pop, 1) := by decide +kernel
theorem dX4_writeNode_40 : decode cX4_writeNode 40 = .ok (.return_, 1) := by decide +kernel
theorem dX4_writeNode_41 : decode cX4_writeNode 41 = .ok (.aload_n 0, 1) := by decide +kernel
theorem dX4_writeNode_42 : decode cX4_writeNode 42 = .ok (.iload 5, 2) := by decide +kernel
theorem dX4_writeNode_44 : decode cX4_writeNode 44 = .ok (.aload_n 0, 1) := by decide +kernel
theorem dX4_writeNode_45 : decode cX4_writeNode 45 = .ok (.getfield 19, 3) := by decide +kernel
theorem dX4_writeNode_48 : decode cX4_writeNode 48 = .ok (.iload_n 1, 1) := by decide +kernel
theorem dX4_writeNode_49 : decode cX4_writeNode 49 = .ok (.invokevirtual 56, 3) := by decide +kernel
theorem dX4_writeNode_52 : decode cX4_writeNode 52 = .ok (.iload_n 2, 1) := by decide +kernel
theorem dX4_writeNode_53 : decode cX4_writeNode 53 = .ok (.aload_n 0, 1) := by decide +kernel
theorem dX4_writeNode_54 : decode cX4_writeNode 54 = .ok (.getfield 15, 3) := by decide +kernel
theorem dX4_writeNode_57 : decode cX4_writeNode 57 = .ok (.iload 5, 2) := by decide +kernel
theorem dX4_writeNode_59 : decode cX4_writeNode 59 = .ok (.invokevirtual 76, 3) := by decide +kernel
theorem dX4_writeNode_62 : decode cX4_writeNode 62 = .ok (.iload 4, 2) := by decide +kernel
theorem dX4_writeNode_64 : decode cX4_writeNode 64 = .ok (.iconst 1, 1) := by decide +kernel
theorem dX4_writeNode_65 : decode cX4_writeNode 65 = .ok (.iadd, 1) := by decide +kernel
theorem dX4_writeNode_66 : decode cX4_writeNode 66 = .ok (.invokevirtual 111, 3) := by decide +kernel
theorem dX4_writeNode_69 : decode cX4_writeNode 69 = .ok (.aload_n 0, 1) := by decide +kernel
theorem dX4_writeNode_70 : decode cX4_writeNode 70 = .ok (.getfield 23, 3) := by decide +kernel
theorem dX4_writeNode_73 : decode cX4_writeNode 73 = .ok (.aload_n 0, 1) := by decide +kernel
theorem dX4_writeNode_74 : decode cX4_writeNode 74 = .ok (.getfield 15, 3) := by decide +kernel
theorem dX4_writeNode_77 : decode cX4_writeNode 77 = .ok (.iload 5, 2) := by decide +kernel
theorem dX4_writeNode_79 : decode cX4_writeNode 79 = .ok (.invokevirtual 115, 3) := by decide +kernel
theorem dX4_writeNode_82 : decode cX4_writeNode 82 = .ok (.invokevirtual 107, 3) := by decide +kernel
theorem dX4_writeNode_85 : decode cX4_writeNode 85 = .ok (.pop, 1) := by decide +kernel
theorem dX4_writeNode_86 : decode cX4_writeNode 86 = .ok (.aload_n 0, 1) := by decide +kernel
theorem dX4_writeNode_87 : decode cX4_writeNode 87 = .ok (.iload 5, 2) := by decide +kernel
theorem dX4_writeNode_89 : decode cX4_writeNode 89 = .ok (.aload_n 0, 1) := by decide +kernel
theorem dX4_writeNode_90 : decode cX4_writeNode 90 = .ok (.getfield 19, 3) := by decide +kernel
theorem dX4_writeNode_93 : decode cX4_writeNode 93 = .ok (.iload_n 1, 1) := by decide +kernel
theorem dX4_writeNode_94 : decode cX4_writeNode 94 = .ok (.invokevirtual 62, 3) := by decide +kernel
theorem dX4_writeNode_97 : decode cX4_writeNode 97 = .ok (.aload_n 0, 1) := by decide +kernel
theorem dX4_writeNode_98 : decode cX4_writeNode 98 = .ok (.getfield 15, 3) := by decide +kernel
theorem dX4_writeNode_101 : decode cX4_writeNode 101 = .ok (.iload 5, 2) := by decide +kernel
theorem dX4_writeNode_103 : decode cX4_writeNode 103 = .ok (.invokevirtual 85, 3) := by decide +kernel
theorem dX4_writeNode_106 : decode cX4_writeNode 106 = .ok (.iload_n 3, 1) := by decide +kernel
theorem dX4_writeNode_107 : decode cX4_writeNode 107 = .ok (.iload 4, 2) := by decide +kernel
theorem dX4_writeNode_109 : decode cX4_writeNode 109 = .ok (.iconst 1, 1) := by decide +kernel
theorem dX4_writeNode_110 : decode cX4_writeNode 110 = .ok (.iadd, 1) := by decide +kernel
theorem dX4_writeNode_111 : decode cX4_writeNode 111 = .ok (.invokevirtual 111, 3) := by decide +kernel
theorem dX4_writeNode_114 : decode cX4_writeNode 114 = .ok (.return_, 1) := by decide +kernel
theorem dX4_writeOperand_0 : decode cX4_writeOperand 0 = .ok (.iload_n 2, 1) := by decide +kernel
theorem dX4_writeOperand_1 : decode cX4_writeOperand 1 = .ok (.iconst (-1), 1) := by decide +kernel
theorem dX4_writeOperand_2 : decode cX4_writeOperand 2 = .ok (.if_icmp .ne 4, 3) := by decide +kernel
theorem dX4_writeOperand_5 : decode cX4_writeOperand 5 = .ok (.return_, 1) := by decide +kernel
theorem dX4_writeOperand_6 : decode cX4_writeOperand 6 = .ok (.aload_n 0, 1) := by decide +kernel
theorem dX4_writeOperand_7 : decode cX4_writeOperand 7 = .ok (.getfield 19, 3) := by decide +kernel
theorem dX4_writeOperand_10 : decode cX4_writeOperand 10 = .ok (.iload_n 2, 1) := by decide +kernel
theorem dX4_writeOperand_11 : decode cX4_writeOperand 11 = .ok (.invokevirtual 69, 3) := by decide +kernel
theorem dX4_writeOperand_14 : decode cX4_writeOperand 14 = .ok (.iconst (-1), 1) := by decide +kernel
theorem dX4_writeOperand_15 : decode cX4_writeOperand 15 = .ok (.if_icmp .eq 33, 3) := by decide +kernel
theorem dX4_writeOperand_18 : decode cX4_writeOperand 18 = .ok (.aload_n 0, 1) := by decide +kernel
theorem dX4_writeOperand_19 : decode cX4_writeOperand 19 = .ok (.getfield 27, 3) := by decide +kernel
theorem dX4_writeOperand_22 : decode cX4_writeOperand 22 = .ok (.ifCond .ne 22, 3) := by decide +kernel
theorem dX4_writeOperand_25 : decode cX4_writeOperand 25 = .ok (.aload_n 0, 1) := by decide +kernel
theorem dX4_writeOperand_26 : decode cX4_writeOperand 26 = .ok (.iload_n 1, 1) := by decide +kernel
theorem dX4_writeOperand_27 : decode cX4_writeOperand 27 = .ok (.iload_n 2, 1) := by decide +kernel
theorem dX4_writeOperand_28 : decode cX4_writeOperand 28 = .ok (.iload_n 3, 1) := by decide +kernel
theorem dX4_writeOperand_29 : decode cX4_writeOperand 29 = .ok (.iload 4, 2) := by decide +kernel
theorem dX4_writeOperand_31 : decode cX4_writeOperand 31 = .ok (.iload 5, 2) := by decide +kernel
theorem dX4_writeOperand_33 : decode cX4_writeOperand 33 = .ok (.invokevirtual 91, 3) := by decide +kernel
theorem dX4_writeOperand_36 : decode cX4_writeOperand 36 = .ok (.aload_n 0, 1) := by decide +kernel
theorem dX4_writeOperand_37 : decode cX4_writeOperand 37 = .ok (.iload_n 2, 1) := by decide +kernel
theorem dX4_writeOperand_38 : decode cX4_writeOperand 38 = .ok (.invokevirtual 94, 3) := by decide +kernel
theorem dX4_writeOperand_41 : decode cX4_writeOperand 41 = .ok (.if_icmp .le 7, 3) := by decide +kernel
theorem dX4_writeOperand_44 : decode cX4_writeOperand 44 = .ok (.iconst 1, 1) := by decide +kernel
theorem dX4_writeOperand_45 : decode cX4_writeOperand 45 = .ok (.goto 4, 3) := by decide +kernel
theorem dX4_writeOperand_48 : decode cX4_writeOperand 48 = .ok (.iconst 0, 1) := by decide +kernel
theorem dX4_writeOperand_49 : decode cX4_writeOperand 49 = .ok (.istore 6, 2) := by decide +kernel
theorem dX4_writeOperand_51 : decode cX4_writeOperand 51 = .ok (.iload 6, 2) := by decide +kernel
theorem dX4_writeOperand_53 : decode cX4_writeOperand 53 = .ok (.ifCond .eq 35, 3) := by decide +kernel
theorem dX4_writeOperand_56 : decode cX4_writeOperand 56 = .ok (.aload_n 0, 1) := by decide +kernel
theorem dX4_writeOperand_57 : decode cX4_writeOperand 57 = .ok (.getfield 23, 3) := by decide +kernel
theorem dX4_writeOperand_60 : decode cX4_writeOperand 60 = .ok (.bipush 40, 2) := by decide +kernel
theorem dX4_writeOperand_62 : decode cX4_writeOperand 62 = .ok (.invokevirtual 107, 3) := by decide +kernel
theorem dX4_writeOperand_65 : decode cX4_writeOperand 65 = .ok (.pop, 1) := by decide +kernel
theorem dX4_writeOperand_66 : decode cX4_writeOperand 66 = .ok (.aload_n 0, 1) := by decide +kernel
theorem dX4_writeOperand_67 : decode cX4_writeOperand 67 = .ok (.iload_n 2, 1) := by decide +kernel
theorem dX4_writeOperand_68 : decode cX4_writeOperand 68 = .ok (.iconst 0, 1) := by decide +kernel
theorem dX4_writeOperand_69 : decode cX4_writeOperand 69 = .ok (.iconst 0, 1) := by decide +kernel
theorem dX4_writeOperand_70 : decode cX4_writeOperand 70 = .ok (.iload 5, 2) := by decide +kernel
theorem dX4_writeOperand_72 : decode cX4_writeOperand 72 = .ok (.invokevirtual 43, 3) := by decide +kernel
theorem dX4_writeOperand_75 : decode cX4_writeOperand 75 = .ok (.aload_n 0, 1) := by decide +kernel
theorem dX4_writeOperand_76 : decode cX4_writeOperand 76 = .ok (.getfield 23, 3) := by decide +kernel
theorem dX4_writeOperand_79 : decode cX4_writeOperand 79 = .ok (.bipush 41, 2) := by decide +kernel
theorem dX4_writeOperand_81 : decode cX4_writeOperand 81 = .ok (.invokevirtual 107, 3) := by decide +kernel
theorem dX4_writeOperand_84 : decode cX4_writeOperand 84 = .ok (.pop, 1) := by decide +kernel
theorem dX4_writeOperand_85 : decode cX4_writeOperand 85 = .ok (.goto 13, 3) := by decide +kernel
theorem dX4_writeOperand_88 : decode cX4_writeOperand 88 = .ok (.aload_n 0, 1) := by decide +kernel
theorem dX4_writeOperand_89 : decode cX4_writeOperand 89 = .ok (.iload_n 2, 1) := by decide +kernel
theorem dX4_writeOperand_90 : decode cX4_writeOperand 90 = .ok (.iload_n 3, 1) := by decide +kernel
theorem dX4_writeOperand_91 : decode cX4_writeOperand 91 = .ok (.iload 4, 2) := by decide +kernel
theorem dX4_writeOperand_93 : decode cX4_writeOperand 93 = .ok (.iload 5, 2) := by decide +kernel
theorem dX4_writeOperand_95 : decode cX4_writeOperand 95 = .ok (.invokevirtual 43, 3) := by decide +kernel
theorem dX4_writeOperand_98 : decode cX4_writeOperand 98 = .ok (.return_, 1) := by decide +kernel
theorem dX5_defineInfix_0 : decode cX5_defineInfix 0 = .ok (.aload_n 0, 1) := by decide +kernel
theorem dX5_defineInfix_1 : decode cX5_defineInfix 1 = .ok (.iload_n 1, 1) := by decide +kernel
theorem dX5_defineInfix_2 : decode cX5_defineInfix 2 = .ok (.iconst 0, 1) := by decide +kernel
theorem dX5_defineInfix_3 : decode cX5_defineInfix 3 = .ok (.iload_n 2, 1) := by decide +kernel
theorem dX5_defineInfix_4 : decode cX5_defineInfix 4 = .ok (.invokevirtual 65, 3) := by decide +kernel
theorem dX5_defineInfix_7 : decode cX5_defineInfix 7 = .ok (.ireturn, 1) := by decide +kernel
theorem dX5_definePrefix_0 : decode cX5_definePrefix 0 = .ok (.aload_n 0, 1) := by decide +kernel
theorem dX5_definePrefix_1 : decode cX5_definePrefix 1 = .ok (.iload_n 1, 1) := by decide +kernel
theorem dX5_definePrefix_2 : decode cX5_definePrefix 2 = .ok (.iconst 1, 1) := by decide +kernel
theorem dX5_definePrefix_3 : decode cX5_definePrefix 3 = .ok (.iload_n 2, 1) := by decide +kernel
theorem dX5_definePrefix_4 : decode cX5_definePrefix 4 = .ok (.invokevirtual 65, 3) := by decide +kernel
theorem dX5_definePrefix_7 : decode cX5_definePrefix 7 = .ok (.ireturn, 1) := by decide +kernel
theorem dX5_definePostfix_0 : decode cX5_definePostfix 0 = .ok (.aload_n 0, 1) := by decide +kernel
theorem dX5_definePostfix_1 : decode cX5_definePostfix 1 = .ok (.iload_n 1, 1) := by decide +kernel
theorem dX5_definePostfix_2 : decode cX5_definePostfix 2 = .ok (.iconst 2, 1) := by decide +kernel
theorem dX5_definePostfix_3 : decode cX5_definePostfix 3 = .ok (.iload_n 2, 1) := by decide +kernel
theorem dX5_definePostfix_4 : decode cX5_definePostfix 4 = .ok (.invokevirtual 65, 3) := by decide +kernel
theorem dX5_definePostfix_7 : decode cX5_definePostfix 7 = .ok (.ireturn, 1) := by decide +kernel
theorem dX5_defineOperator_0 : decode cX5_defineOperator 0 = .ok (.iload_n 1, 1) := by decide +kernel
theorem dX5_defineOperator_1 : decode cX5_defineOperator 1 = .ok (.invokestatic 69, 3) := by decide +kernel
theorem dX5_defineOperator_4 : decode cX5_defineOperator 4 = .ok (.ifCond .ne 6, 3) := by decide +kernel
theorem dX5_defineOperator_7 : decode cX5_defineOperator 7 = .ok (.bipush (-3), 2) := by decide +kernel
theorem dX5_defineOperator_9 : decode cX5_defineOperator 9 = .ok (.ireturn, 1) := by decide +kernel
theorem dX5_defineOperator_10 : decode cX5_defineOperator 10 = .ok (.iload_n 3, 1) := by decide +kernel
theorem dX5_defineOperator_11 : decode cX5_defineOperator 11 = .ok (.invokestatic 73, 3) := by decide +kernel
theorem dX5_defineOperator_14 : decode cX5_defineOperator 14 = .ok (.ifCond .ne 6, 3) := by decide +kernel
theorem dX5_defineOperator_17 : decode cX5_defineOperator 17 = .ok (.bipush (-4), 2) := by decide +kernel
theorem dX5_defineOperator_19 : decode cX5_defineOperator 19 = .ok (.ireturn, 1) := by decide +kernel
theorem dX5_defineOperator_20 : decode cX5_defineOperator 20 = .ok (.aload_n 0, 1) := by decide +kernel
theorem dX5_defineOperator_21 : decode cX5_defineOperator 21 = .ok (.getfield 10, 3) := by decide +kernel
theorem dX5_defineOperator_24 : decode cX5_defineOperator 24 = .ok (.iload_n 1, 1) := by decide +kernel
theorem dX5_defineOperator_25 : decode cX5_defineOperator 25 = .ok (.iload_n 2, 1) := by decide +kernel
theorem dX5_defineOperator_26 : decode cX5_defineOperator 26 = .ok (.iconst 1, 1) := by decide +kernel
theorem dX5_defineOperator_27 : decode cX5_defineOperator 27 = .ok (.if_icmp .ne 7, 3) := by decide +kernel
theorem dX5_defineOperator_30 : decode cX5_defineOperator 30 = .ok (.iconst 1, 1) := by decide +kernel
theorem dX5_defineOperator_31 : decode cX5_defineOperator 31 = .ok (.goto 4, 3) := by decide +kernel
theorem dX5_defineOperator_34 : decode cX5_defineOperator 34 = .ok (.iconst 0, 1) := by decide +kernel
theorem dX5_defineOperator_35 : decode cX5_defineOperator 35 = .ok (.invokevirtual 76, 3) := by decide +kernel
theorem dX5_defineOperator_38 : decode cX5_defineOperator 38 = .ok (.iconst (-1), 1) := by decide +kernel
theorem dX5_defineOperator_39 : decode cX5_defineOperator 39 = .ok (.if_icmp .eq 6, 3) := by decide +kernel
theorem dX5_defineOperator_42 : decode cX5_defineOperator 42 = .ok (.bipush (-5), 2) := by decide +kernel
theorem dX5_defineOperator_44 : decode cX5_defineOperator 44 = .ok (.ireturn, 1) := by decide +kernel
theorem dX5_defineOperator_45 : decode cX5_defineOperator 45 = .ok (.aload_n 0, 1) := by decide +kernel
theorem dX5_defineOperator_46 : decode cX5_defineOperator 46 = .ok (.getfield 10, 3) := by decide +kernel
theorem dX5_defineOperator_49 : decode cX5_defineOperator 49 = .ok (.iload_n 1, 1) := by decide +kernel
theorem dX5_defineOperator_50 : decode cX5_defineOperator 50 = .ok (.iload_n 2, 1) := by decide +kernel
theorem dX5_defineOperator_51 : decode cX5_defineOperator 51 = .ok (.iload_n 3, 1) := by decide +kernel
theorem dX5_defineOperator_52 : decode cX5_defineOperator 52 = .ok (.invokevirtual 80, 3) := by decide +kernel
theorem dX5_defineOperator_55 : decode cX5_defineOperator 55 = .ok (.istore 4, 2) := by decide +kernel
theorem dX5_defineOperator_57 : decode cX5_defineOperator 57 = .ok (.iload 4, 2) := by decide +kernel
theorem dX5_defineOperator_59 : decode cX5_defineOperator 59 = .ok (.iconst (-1), 1) := by decide +kernel
theorem dX5_defineOperator_60 : decode cX5_defineOperator 60 = .ok (.if_icmp .ne 8, 3) := by decide +kernel
theorem dX5_defineOperator_63 : decode cX5_defineOperator 63 = .ok (.bipush (-6), 2) := by decide +kernel
theorem dX5_defineOperator_65 : decode cX5_defineOperator 65 = .ok (.goto 5, 3) := by decide +kernel
theorem dX5_defineOperator_68 : decode cX5_defineOperator 68 = .ok (.iload 4, 2) := by decide +kernel
theorem dX5_defineOperator_70 : decode cX5_defineOperator 70 = .ok (.ireturn, 1) := by decide +kernel
theorem dX5_operatorCount_0 : decode cX5_operatorCount 0 = .ok (.aload_n 0, 1) := by decide +kernel
theorem dX5_operatorCount_1 : decode cX5_operatorCount 1 = .ok (.getfield 10, 3) := by decide +kernel
theorem dX5_operatorCount_4 : decode cX5_operatorCount 4 = .ok (.invokevirtual 83, 3) := by decide +kernel
theorem dX5_operatorCount_7 : decode cX5_operatorCount 7 = .ok (.ireturn, 1) := by decide +kernel
theorem dX5_symbol_0 : decode cX5_symbol 0 = .ok (.aload_n 0, 1) := by decide +kernel
theorem dX5_symbol_1 : decode cX5_symbol 1 = .ok (.getfield 10, 3) := by decide +kernel
theorem dX5_symbol_4 : decode cX5_symbol 4 = .ok (.iload_n 1, 1) := by decide +kernel
theorem dX5_symbol_5 : decode cX5_symbol 5 = .ok (.invokevirtual 87, 3) := by decide +kernel
theorem dX5_symbol_8 : decode cX5_symbol 8 = .ok (.ifCond .eq 14, 3) := by decide +kernel
theorem dX5_symbol_11 : decode cX5_symbol 11 = .ok (.aload_n 0, 1) := by decide +kernel
theorem dX5_symbol_12 : decode cX5_symbol 12 = .ok (.getfield 10, 3) := by decide +kernel
theorem dX5_symbol_15 : decode cX5_symbol 15 = .ok (.iload_n 1, 1) := by decide +kernel
theorem dX5_symbol_16 : decode cX5_symbol 16 = .ok (.invokevirtual 90, 3) := by decide +kernel
theorem dX5_symbol_19 : decode cX5_symbol 19 = .ok (.goto 5, 3) := by decide +kernel
theorem dX5_symbol_22 : decode cX5_symbol 22 = .ok (.bipush (-2), 2) := by decide +kernel
theorem dX5_symbol_24 : decode cX5_symbol 24 = .ok (.ireturn, 1) := by decide +kernel
theorem dX5_kind_0 : decode cX5_kind 0 = .ok (.aload_n 0, 1) := by decide +kernel
theorem dX5_kind_1 : decode cX5_kind 1 = .ok (.getfield 10, 3) := by decide +kernel
theorem dX5_kind_4 : decode cX5_kind 4 = .ok (.iload_n 1, 1) := by decide +kernel
theorem dX5_kind_5 : decode cX5_kind 5 = .ok (.invokevirtual 87, 3) := by decide +kernel
theorem dX5_kind_8 : decode cX5_kind 8 = .ok (.ifCond .eq 14, 3) := by decide +kernel
theorem dX5_kind_11 : decode cX5_kind 11 = .ok (.aload_n 0, 1) := by decide +kernel
theorem dX5_kind_12 : decode cX5_kind 12 = .ok (.getfield 10, 3) := by decide +kernel
theorem dX5_kind_15 : decode cX5_kind 15 = .ok (.iload_n 1, 1) := by decide +kernel
theorem dX5_kind_16 : decode cX5_kind 16 = .ok (.invokevirtual 94, 3) := by decide +kernel
theorem dX5_kind_19 : decode cX5_kind 19 = .ok (.goto 5, 3) := by decide +kernel
theorem dX5_kind_22 : decode cX5_kind 22 = .ok (.bipush (-2), 2) := by decide +kernel
theorem dX5_kind_24 : decode cX5_kind 24 = .ok (.ireturn, 1) := by decide +kernel
theorem dX5_setLevel_0 : decode cX5_setLevel 0 = .ok (.aload_n 0, 1) := by decide +kernel
theorem dX5_setLevel_1 : decode cX5_setLevel 1 = .ok (.getfield 10, 3) := by decide +kernel
theorem dX5_setLevel_4 : decode cX5_setLevel 4 = .ok (.iload_n 1, 1) := by decide +kernel
theorem dX5_setLevel_5 : decode cX5_setLevel 5 = .ok (.invokevirtual 87, 3) := by decide +kernel
theorem dX5_setLevel_8 : decode cX5_setLevel 8 = .ok (.ifCond .ne 6, 3) := by decide +kernel
theorem dX5_setLevel_11 : decode cX5_setLevel 11 = .ok (.bipush (-2), 2) := by decide +kernel
theorem dX5_setLevel_13 : decode cX5_setLevel 13 = .ok (.ireturn, 1) := by decide +kernel
theorem dX5_setLevel_14 : decode cX5_setLevel 14 = .ok (.iload_n 2, 1) := by decide +kernel
theorem dX5_setLevel_15 : decode cX5_setLevel 15 = .ok (.invokestatic 73, 3) := by decide +kernel
theorem dX5_setLevel_18 : decode cX5_setLevel 18 = .ok (.ifCond .ne 6, 3) := by decide +kernel
theorem dX5_setLevel_21 : decode cX5_setLevel 21 = .ok (.bipush (-4), 2) := by decide +kernel
theorem dX5_setLevel_23 : decode cX5_setLevel 23 = .ok (.ireturn, 1) := by decide +kernel
theorem dX5_setLevel_24 : decode cX5_setLevel 24 = .ok (.aload_n 0, 1) := by decide +kernel
theorem dX5_setLevel_25 : decode cX5_setLevel 25 = .ok (.getfield 10, 3) := by decide +kernel
theorem dX5_setLevel_28 : decode cX5_setLevel 28 = .ok (.iload_n 1, 1) := by decide +kernel
theorem dX5_setLevel_29 : decode cX5_setLevel 29 = .ok (.iload_n 2, 1) := by decide +kernel
theorem dX5_setLevel_30 : decode cX5_setLevel 30 = .ok (.invokevirtual 97, 3) := by decide +kernel
theorem dX5_setLevel_33 : decode cX5_setLevel 33 = .ok (.ireturn, 1) := by decide +kernel
theorem dX5_setAssociativity_0 : decode cX5_setAssociativity 0 = .ok (.iload_n 1, 1) := by decide +kernel
theorem dX5_setAssociativity_1 : decode cX5_setAssociativity 1 = .ok (.invokestatic 73, 3) := by decide +kernel
theorem dX5_setAssociativity_4 : decode cX5_setAssociativity 4 = .ok (.ifCond .eq 12, 3) := by decide +kernel
theorem dX5_setAssociativity_7 : decode cX5_setAssociativity 7 = .ok (.iload_n 2, 1) := by decide +kernel
theorem dX5_setAssociativity_8 : decode cX5_setAssociativity 8 = .ok (.ifCond .lt 8, 3) := by decide +kernel
theorem dX5_setAssociativity_11 : decode cX5_setAssociativity 11 = .ok (.iload_n 2, 1) := by decide +kernel
theorem dX5_setAssociativity_12 : decode cX5_setAssociativity 12 = .ok (.iconst 2, 1) := by decide +kernel
theorem dX5_setAssociativity_13 : decode cX5_setAssociativity 13 = .ok (.if_icmp .le 6, 3) := by decide +kernel
theorem dX5_setAssociativity_16 : decode cX5_setAssociativity 16 = .ok (.bipush (-4), 2) := by decide +kernel
theorem dX5_setAssociativity_18 : decode cX5_setAssociativity 18 = .ok (.ireturn, 1) := by decide +kernel
theorem dX5_setAssociativity_19 : decode cX5_setAssociativity 19 = .ok (.aload_n 0, 1) := by decide +kernel
theorem dX5_setAssociativity_20 : decode cX5_setAssociativity 20 = .ok (.getfield 10, 3) := by decide +kernel
theorem dX5_setAssociativity_23 : decode cX5_setAssociativity 23 = .ok (.iload_n 1, 1) := by decide +kernel
theorem dX5_setAssociativity_24 : decode cX5_setAssociativity 24 = .ok (.iload_n 2, 1) := by decide +kernel
theorem dX5_setAssociativity_25 : decode cX5_setAssociativity 25 = .ok (.invokevirtual 101, 3) := by decide +kernel
theorem dX5_setAssociativity_28 : decode cX5_setAssociativity 28 = .ok (.ireturn, 1) := by decide +kernel
theorem dX5_setForbidden_0 : decode cX5_setForbidden 0 = .ok (.aload_n 0, 1) := by decide +kernel
theorem dX5_setForbidden_1 : decode cX5_setForbidden 1 = .ok (.getfield 10, 3) := by decide +kernel
theorem dX5_setForbidden_4 : decode cX5_setForbidden 4 = .ok (.iload_n 1, 1) := by decide +kernel
theorem dX5_setForbidden_5 : decode cX5_setForbidden 5 = .ok (.invokevirtual 87, 3) := by decide +kernel
theorem dX5_setForbidden_8 : decode cX5_setForbidden 8 = .ok (.ifCond .eq 14, 3) := by decide +kernel
theorem dX5_setForbidden_11 : decode cX5_setForbidden 11 = .ok (.aload_n 0, 1) := by decide +kernel
theorem dX5_setForbidden_12 : decode cX5_setForbidden 12 = .ok (.getfield 10, 3) := by decide +kernel
theorem dX5_setForbidden_15 : decode cX5_setForbidden 15 = .ok (.iload_n 2, 1) := by decide +kernel
theorem dX5_setForbidden_16 : decode cX5_setForbidden 16 = .ok (.invokevirtual 87, 3) := by decide +kernel
theorem dX5_setForbidden_19 : decode cX5_setForbidden 19 = .ok (.ifCond .ne 6, 3) := by decide +kernel
theorem dX5_setForbidden_22 : decode cX5_setForbidden 22 = .ok (.bipush (-2), 2) := by decide +kernel
theorem dX5_setForbidden_24 : decode cX5_setForbidden 24 = .ok (.ireturn, 1) := by decide +kernel
theorem dX5_setForbidden_25 : decode cX5_setForbidden 25 = .ok (.aload_n 0, 1) := by decide +kernel
theorem dX5_setForbidden_26 : decode cX5_setForbidden 26 = .ok (.getfield 10, 3) := by decide +kernel
theorem dX5_setForbidden_29 : decode cX5_setForbidden 29 = .ok (.iload_n 1, 1) := by decide +kernel
theorem dX5_setForbidden_30 : decode cX5_setForbidden 30 = .ok (.iload_n 2, 1) := by decide +kernel
theorem dX5_setForbidden_31 : decode cX5_setForbidden 31 = .ok (.iload_n 3, 1) := by decide +kernel
theorem dX5_setForbidden_32 : decode cX5_setForbidden 32 = .ok (.invokevirtual 104, 3) := by decide +kernel
theorem dX5_setForbidden_35 : decode cX5_setForbidden 35 = .ok (.ifCond .eq 7, 3) := by decide +kernel
theorem dX5_setForbidden_38 : decode cX5_setForbidden 38 = .ok (.iconst 1, 1) := by decide +kernel
theorem dX5_setForbidden_39 : decode cX5_setForbidden 39 = .ok (.goto 4, 3) := by decide +kernel
theorem dX5_setForbidden_42 : decode cX5_setForbidden 42 = .ok (.iconst 0, 1) := by decide +kernel
theorem dX5_setForbidden_43 : decode cX5_setForbidden 43 = .ok (.ireturn, 1) := by decide +kernel
theorem dX5_leaf_0 : decode cX5_leaf 0 = .ok (.iload_n 1, 1) := by decide +kernel
theorem dX5_leaf_1 : decode cX5_leaf 1 = .ok (.invokestatic 108, 3) := by decide +kernel
theorem dX5_leaf_4 : decode cX5_leaf 4 = .ok (.ifCond .ne 6, 3) := by decide +kernel
theorem dX5_leaf_7 : decode cX5_leaf 7 = .ok (.bipush (-3), 2) := by decide +kernel
theorem dX5_leaf_9 : decode cX5_leaf 9 = .ok (.ireturn, 1) := by decide +kernel
theorem dX5_leaf_10 : decode cX5_leaf 10 = .ok (.aload_n 0, 1) := by decide +kernel
theorem dX5_leaf_11 : decode cX5_leaf 11 = .ok (.getfield 19, 3) := by decide +kernel
theorem dX5_leaf_14 : decode cX5_leaf 14 = .ok (.invokevirtual 111, 3) := by decide +kernel
theorem dX5_leaf_17 : decode cX5_leaf 17 = .ok (.bipush 100, 2) := by decide +kernel
theorem dX5_leaf_19 : decode cX5_leaf 19 = .ok (.if_icmp .lt 6, 3) := by decide +kernel
theorem dX5_leaf_22 : decode cX5_leaf 22 = .ok (.bipush (-6), 2) := by decide +kernel
theorem dX5_leaf_24 : decode cX5_leaf 24 = .ok (.ireturn, 1) := by decide +kernel
theorem dX5_leaf_25 : decode cX5_leaf 25 = .ok (.aload_n 0, 1) := by decide +kernel
theorem dX5_leaf_26 : decode cX5_leaf 26 = .ok (.getfield 19, 3) := by decide +kernel
theorem dX5_leaf_29 : decode cX5_leaf 29 = .ok (.iconst (-1), 1) := by decide +kernel
theorem dX5_leaf_30 : decode cX5_leaf 30 = .ok (.iload_n 1, 1) := by decide +kernel
theorem dX5_leaf_31 : decode cX5_leaf 31 = .ok (.iconst (-1), 1) := by decide +kernel
theorem dX5_leaf_32 : decode cX5_leaf 32 = .ok (.iconst (-1), 1) := by decide +kernel
theorem dX5_leaf_33 : decode cX5_leaf 33 = .ok (.invokevirtual 112, 3) := by decide +kernel
theorem dX5_leaf_36 : decode cX5_leaf 36 = .ok (.ireturn, 1) := by decide +kernel
theorem dX5_unary_0 : decode cX5_unary 0 = .ok (.aload_n 0, 1) := by decide +kernel
theorem dX5_unary_1 : decode cX5_unary 1 = .ok (.getfield 10, 3) := by decide +kernel
theorem dX5_unary_4 : decode cX5_unary 4 = .ok (.iload_n 1, 1) := by decide +kernel
theorem dX5_unary_5 : decode cX5_unary 5 = .ok (.invokevirtual 87, 3) := by decide +kernel
theorem dX5_unary_8 : decode cX5_unary 8 = .ok (.ifCond .ne 6, 3) := by decide +kernel
theorem dX5_unary_11 : decode cX5_unary 11 = .ok (.bipush (-2), 2) := by decide +kernel
theorem dX5_unary_13 : decode cX5_unary 13 = .ok (.ireturn, 1) := by decide +kernel
theorem dX5_unary_14 : decode cX5_unary 14 = .ok (.aload_n 0, 1) := by decide +kernel
theorem dX5_unary_15 : decode cX5_unary 15 = .ok (.getfield 10, 3) := by decide +kernel
theorem dX5_unary_18 : decode cX5_unary 18 = .ok (.iload_n 1, 1) := by decide +kernel
theorem dX5_unary_19 : decode cX5_unary 19 = .ok (.invokevirtual 94, 3) := by decide +kernel
theorem dX5_unary_22 : decode cX5_unary 22 = .ok (.istore_n 3, 1) := by decide +kernel
theorem dX5_unary_23 : decode cX5_unary 23 = .ok (.iload_n 3, 1) := by decide +kernel
theorem dX5_unary_24 : decode cX5_unary 24 = .ok (.ifCond .ne 6, 3) := by decide +kernel
theorem dX5_unary_27 : decode cX5_unary 27 = .ok (.bipush (-8), 2) := by decide +kernel
theorem dX5_unary_29 : decode cX5_unary 29 = .ok (.ireturn, 1) := by decide +kernel
theorem dX5_unary_30 : decode cX5_unary 30 = .ok (.aload_n 0, 1) := by decide +kernel
theorem dX5_unary_31 : decode cX5_unary 31 = .ok (.getfield 19, 3) := by decide +kernel
theorem dX5_unary_34 : decode cX5_unary 34 = .ok (.iload_n 2, 1) := by decide +kernel
theorem dX5_unary_35 : decode cX5_unary 35 = .ok (.invokevirtual 115, 3) := by decide +kernel
theorem dX5_unary_38 : decode cX5_unary 38 = .ok (.ifCond .ne 5, 3) := by decide +kernel
theorem dX5_unary_41 : decode cX5_unary 41 = .ok (.iconst (-1), 1) := by decide +kernel
theorem dX5_unary_42 : decode cX5_unary 42 = .ok (.ireturn, 1) := by decide +kernel
theorem dX5_unary_43 : decode cX5_unary 43 = .ok (.iload_n 3, 1) := by decide +kernel
theorem dX5_unary_44 : decode cX5_unary 44 = .ok (.iconst 1, 1) := by decide +kernel
theorem dX5_unary_45 : decode cX5_unary 45 = .ok (.if_icmp .ne 13, 3) := by decide +kernel
theorem dX5_unary_48 : decode cX5_unary 48 = .ok (.aload_n 0, 1) := by decide +kernel
theorem dX5_unary_49 : decode cX5_unary 49 = .ok (.iload_n 1, 1) := by decide +kernel
theorem dX5_unary_50 : decode cX5_unary 50 = .ok (.iconst (-1), 1) := by decide +kernel
theorem dX5_unary_51 : decode cX5_unary 51 = .ok (.iload_n 2, 1) := by decide +kernel
theorem dX5_unary_52 : decode cX5_unary 52 = .ok (.invokevirtual 116, 3) := by decide +kernel
theorem dX5_unary_55 : decode cX5_unary 55 = .ok (.goto 10, 3) := by decide +kernel
theorem dX5_unary_58 : decode cX5_unary 58 = .ok (.aload_n 0, 1) := by decide +kernel
theorem dX5_unary_59 : decode cX5_unary 59 = .ok (.iload_n 1, 1) := by decide +kernel
theorem dX5_unary_60 : decode cX5_unary 60 = .ok (.iload_n 2, 1) := by decide +kernel
theorem dX5_unary_61 : decode cX5_unary 61 = .ok (.iconst (-1), 1) := by decide +kernel
theorem dX5_unary_62 : decode cX5_unary 62 = .ok (.invokevirtual 116, 3) := by decide +kernel
theorem dX5_unary_65 : decode cX5_unary 65 = .ok (.ireturn, 1) := by decide +kernel
theorem dX5_binary_0 : decode cX5_binary 0 = .ok (.aload_n 0, 1) := by decide +kernel
theorem dX5_binary_1 : decode cX5_binary 1 = .ok (.getfield 10, 3) := by decide +kernel
theorem dX5_binary_4 : decode cX5_binary 4 = .ok (.iload_n 1, 1) := by decide +kernel
theorem dX5_binary_5 : decode cX5_binary 5 = .ok (.invokevirtual 87, 3) := by decide +kernel
theorem dX5_binary_8 : decode cX5_binary 8 = .ok (.ifCond .ne 6, 3) := by decide +kernel
theorem dX5_binary_11 : decode cX5_binary 11 = .ok (.bipush (-2), 2) := by decide +kernel
theorem dX5_binary_13 : decode cX5_binary 13 = .ok (.ireturn, 1) := by decide +kernel
theorem dX5_binary_14 : decode cX5_binary 14 = .ok (.aload_n 0, 1) := by decide +kernel
theorem dX5_binary_15 : decode cX5_binary 15 = .ok (.getfield 10, 3) := by decide +kernel
theorem dX5_binary_18 : decode cX5_binary 18 = .ok (.iload_n 1, 1) := by decide +kernel
theorem dX5_binary_19 : decode cX5_binary 19 = .ok (.invokevirtual 94, 3) := by decide +kernel
theorem dX5_binary_22 : decode cX5_binary 22 = .ok (.ifCond .eq 6, 3) := by decide +kernel
theorem dX5_binary_25 : decode cX5_binary 25 = .ok (.bipush (-8), 2) := by decide +kernel
theorem dX5_binary_27 : decode cX5_binary 27 = .ok (.ireturn, 1) := by decide +kernel
theorem dX5_binary_28 : decode cX5_binary 28 = .ok (.aload_n 0, 1) := by decide +kernel
theorem dX5_binary_29 : decode cX5_binary 29 = .ok (.getfield 19, 3) := by decide +kernel
theorem dX5_binary_32 : decode cX5_binary 32 = .ok (.iload_n 2, 1) := by decide +kernel
theorem dX5_binary_33 : decode cX5_binary 33 = .ok (.invokevirtual 115, 3) := by decide +kernel
theorem dX5_binary_36 : decode cX5_binary 36 = .ok (.ifCond .eq 14, 3) := by decide +kernel
theorem dX5_binary_39 : decode cX5_binary 39 = .ok (.aload_n 0, 1) := by decide +kernel
theorem dX5_binary_40 : decode cX5_binary 40 = .ok (.getfield 19, 3) := by decide +kernel
theorem dX5_binary_43 : decode cX5_binary 43 = .ok (.iload_n 3, 1) := by decide +kernel
theorem dX5_binary_44 : decode cX5_binary 44 = .ok (.invokevirtual 115, 3) := by decide +kernel
theorem dX5_binary_47 : decode cX5_binary 47 = .ok (.ifCond .ne 5, 3) := by decide +kernel
theorem dX5_binary_50 : decode cX5_binary 50 = .ok (.iconst (-1), 1) := by decide +kernel
theorem dX5_binary_51 : decode cX5_binary 51 = .ok (.ireturn, 1) := by decide +kernel
theorem dX5_binary_52 : decode cX5_binary 52 = .ok (.aload_n 0, 1) := by decide +kernel
theorem dX5_binary_53 : decode cX5_binary 53 = .ok (.iload_n 1, 1) := by decide +kernel
theorem dX5_binary_54 : decode cX5_binary 54 = .ok (.iload_n 2, 1) := by decide +kernel
theorem dX5_binary_55 : decode cX5_binary 55 = .ok (.iload_n 3, 1) := by decide +kernel
theorem dX5_binary_56 : decode cX5_binary 56 = .ok (.invokevirtual 116, 3) := by decide +kernel
theorem dX5_binary_59 : decode cX5_binary 59 = .ok (.ireturn, 1) := by decide +kernel
theorem dX5_addOperatorNode_0 : decode cX5_addOperatorNode 0 = .ok (.iconst 1, 1) := by decide +kernel
theorem dX5_addOperatorNode_1 : decode cX5_addOperatorNode 1 = .ok (.aload_n 0, 1) := by decide +kernel
theorem dX5_addOperatorNode_2 : decode cX5_addOperatorNode 2 = .ok (.getfield 19, 3) := by decide +kernel
theorem dX5_addOperatorNode_5 : decode cX5_addOperatorNode 5 = .ok (.iload_n 2, 1) := by decide +kernel
theorem dX5_addOperatorNode_6 : decode cX5_addOperatorNode 6 = .ok (.invokevirtual 119, 3) := by decide +kernel
theorem dX5_addOperatorNode_9 : decode cX5_addOperatorNode 9 = .ok (.iadd, 1) := by decide +kernel
theorem dX5_addOperatorNode_10 : decode cX5_addOperatorNode 10 = .ok (.aload_n 0, 1) := by decide +kernel
theorem dX5_addOperatorNode_11 : decode cX5_addOperatorNode 11 = .ok (.getfield 19, 3) := by decide +kernel
theorem dX5_addOperatorNode_14 : decode cX5_addOperatorNode 14 = .ok (.iload_n 3, 1) := by decide +kernel
theorem dX5_addOperatorNode_15 : decode cX5_addOperatorNode 15 = .ok (.invokevirtual 119, 3) := by decide +kernel
theorem dX5_addOperatorNode_18 : decode cX5_addOperatorNode 18 = .ok (.iadd, 1) := by decide +kernel
theorem dX5_addOperatorNode_19 : decode cX5_addOperatorNode 19 = .ok (.bipush 40, 2) := by decide +kernel
theorem dX5_addOperatorNode_21 : decode cX5_addOperatorNode 21 = .ok (.if_icmp .le 6, 3) := by decide +kernel
theorem dX5_addOperatorNode_24 : decode cX5_addOperatorNode 24 = .ok (.bipush (-7), 2) := by decide +kernel
theorem dX5_addOperatorNode_26 : decode cX5_addOperatorNode 26 = .ok (.ireturn, 1) := by decide +kernel
theorem dX5_addOperatorNode_27 : decode cX5_addOperatorNode 27 = .ok (.aload_n 0, 1) := by decide +kernel
theorem dX5_addOperatorNode_28 : decode cX5_addOperatorNode 28 = .ok (.getfield 19, 3) := by decide +kernel
theorem dX5_addOperatorNode_31 : decode cX5_addOperatorNode 31 = .ok (.invokevirtual 111, 3) := by decide +kernel
theorem dX5_addOperatorNode_34 : decode cX5_addOperatorNode 34 = .ok (.bipush 100, 2) := by decide +kernel
theorem dX5_addOperatorNode_36 : decode cX5_addOperatorNode 36 = .ok (.if_icmp .lt 6, 3) := by decide +kernel
theorem dX5_addOperatorNode_39 : decode cX5_addOperatorNode 39 = .ok (.bipush (-6), 2) := by decide +kernel
theorem dX5_addOperatorNode_41 : decode cX5_addOperatorNode 41 = .ok (.ireturn, 1) := by decide +kernel
theorem dX5_addOperatorNode_42 : decode cX5_addOperatorNode 42 = .ok (.aload_n 0, 1) := by decide +kernel
theorem dX5_addOperatorNode_43 : decode cX5_addOperatorNode 43 = .ok (.getfield 19, 3) := by decide +kernel
theorem dX5_addOperatorNode_46 : decode cX5_addOperatorNode 46 = .ok (.iload_n 1, 1) := by decide +kernel
theorem dX5_addOperatorNode_47 : decode cX5_addOperatorNode 47 = .ok (.iconst (-1), 1) := by decide +kernel
theorem dX5_addOperatorNode_48 : decode cX5_addOperatorNode 48 = .ok (.iload_n 2, 1) := by decide +kernel
theorem dX5_addOperatorNode_49 : decode cX5_addOperatorNode 49 = .ok (.iload_n 3, 1) := by decide +kernel
theorem dX5_addOperatorNode_50 : decode cX5_addOperatorNode 50 = .ok (.invokevirtual 112, 3) := by decide +kernel
theorem dX5_addOperatorNode_53 : decode cX5_addOperatorNode 53 = .ok (.ireturn, 1) := by decide +kernel
theorem dX5_nodeCount_0 : decode cX5_nodeCount 0 = .ok (.aload_n 0, 1) := by decide +kernel
theorem dX5_nodeCount_1 : decode cX5_nodeCount 1 = .ok (.getfield 19, 3) := by decide +kernel
theorem dX5_nodeCount_4 : decode cX5_nodeCount 4 = .ok (.invokevirtual 111, 3) := by decide +kernel
theorem dX5_nodeCount_7 : decode cX5_nodeCount 7 = .ok (.ireturn, 1) := by decide +kernel
theorem dX5_operatorOf_0 : decode cX5_operatorOf 0 = .ok (.aload_n 0, 1) := by decide +kernel
theorem dX5_operatorOf_1 : decode cX5_operatorOf 1 = .ok (.getfield 19, 3) := by decide +kernel
theorem dX5_operatorOf_4 : decode cX5_operatorOf 4 = .ok (.iload_n 1, 1) := by decide +kernel
theorem dX5_operatorOf_5 : decode cX5_operatorOf 5 = .ok (.invokevirtual 115, 3) := by decide +kernel
theorem dX5_operatorOf_8 : decode cX5_operatorOf 8 = .ok (.ifCond .ne 5, 3) := by decide +kernel
theorem dX5_operatorOf_11 : decode cX5_operatorOf 11 = .ok (.iconst (-1), 1) := by decide +kernel
theorem dX5_operatorOf_12 : decode cX5_operatorOf 12 = .ok (.ireturn, 1) := by decide +kernel
theorem dX5_operatorOf_13 : decode cX5_operatorOf 13 = .ok (.aload_n 0, 1) := by decide +kernel
theorem dX5_operatorOf_14 : decode cX5_operatorOf 14 = .ok (.getfield 19, 3) := by decide +kernel
theorem dX5_operatorOf_17 : decode cX5_operatorOf 17 = .ok (.iload_n 1, 1) := by decide +kernel
theorem dX5_operatorOf_18 : decode cX5_operatorOf 18 = .ok (.invokevirtual 122, 3) := by decide +kernel
theorem dX5_operatorOf_21 : decode cX5_operatorOf 21 = .ok (.istore_n 2, 1) := by decide +kernel
theorem dX5_operatorOf_22 : decode cX5_operatorOf 22 = .ok (.iload_n 2, 1) := by decide +kernel
theorem dX5_operatorOf_23 : decode cX5_operatorOf 23 = .ok (.iconst (-1), 1) := by decide +kernel
theorem dX5_operatorOf_24 : decode cX5_operatorOf 24 = .ok (.if_icmp .ne 8, 3) := by decide +kernel
theorem dX5_operatorOf_27 : decode cX5_operatorOf 27 = .ok (.bipush (-10), 2) := by decide +kernel
theorem dX5_operatorOf_29 : decode cX5_operatorOf 29 = .ok (.goto 4, 3) := by decide +kernel
theorem dX5_operatorOf_32 : decode cX5_operatorOf 32 = .ok (.iload_n 2, 1) := by decide +kernel
theorem dX5_operatorOf_33 : decode cX5_operatorOf 33 = .ok (.ireturn, 1) := by decide +kernel
theorem dX5_letterOf_0 : decode cX5_letterOf 0 = .ok (.aload_n 0, 1) := by decide +kernel
theorem dX5_letterOf_1 : decode cX5_letterOf 1 = .ok (.getfield 19, 3) := by decide +kernel
theorem dX5_letterOf_4 : decode cX5_letterOf 4 = .ok (.iload_n 1, 1) := by decide +kernel
theorem dX5_letterOf_5 : decode cX5_letterOf 5 = .ok (.invokevirtual 115, 3) := by decide +kernel
theorem dX5_letterOf_8 : decode cX5_letterOf 8 = .ok (.ifCond .ne 5, 3) := by decide +kernel
theorem dX5_letterOf_11 : decode cX5_letterOf 11 = .ok (.iconst (-1), 1) := by decide +kernel
theorem dX5_letterOf_12 : decode cX5_letterOf 12 = .ok (.ireturn, 1) := by decide +kernel
theorem dX5_letterOf_13 : decode cX5_letterOf 13 = .ok (.aload_n 0, 1) := by decide +kernel
theorem dX5_letterOf_14 : decode cX5_letterOf 14 = .ok (.getfield 19, 3) := by decide +kernel
theorem dX5_letterOf_17 : decode cX5_letterOf 17 = .ok (.iload_n 1, 1) := by decide +kernel
theorem dX5_letterOf_18 : decode cX5_letterOf 18 = .ok (.invokevirtual 125, 3) := by decide +kernel
theorem dX5_letterOf_21 : decode cX5_letterOf 21 = .ok (.istore_n 2, 1) := by decide +kernel
theorem dX5_letterOf_22 : decode cX5_letterOf 22 = .ok (.iload_n 2, 1) := by decide +kernel
theorem dX5_letterOf_23 : decode cX5_letterOf 23 = .ok (.iconst (-1), 1) := by decide +kernel
theorem dX5_letterOf_24 : decode cX5_letterOf 24 = .ok (.if_icmp .ne 8, 3) := by decide +kernel
theorem dX5_letterOf_27 : decode cX5_letterOf 27 = .ok (.bipush (-10), 2) := by decide +kernel
theorem dX5_letterOf_29 : decode cX5_letterOf 29 = .ok (.goto 4, 3) := by decide +kernel
theorem dX5_letterOf_32 : decode cX5_letterOf 32 = .ok (.iload_n 2, 1) := by decide +kernel
theorem dX5_letterOf_33 : decode cX5_letterOf 33 = .ok (.ireturn, 1) := by decide +kernel
theorem dX5_operand_0 : decode cX5_operand 0 = .ok (.aload_n 0, 1) := by decide +kernel
theorem dX5_operand_1 : decode cX5_operand 1 = .ok (.getfield 19, 3) := by decide +kernel
theorem dX5_operand_4 : decode cX5_operand 4 = .ok (.iload_n 1, 1) := by decide +kernel
theorem dX5_operand_5 : decode cX5_operand 5 = .ok (.invokevirtual 115, 3) := by decide +kernel
theorem dX5_operand_8 : decode cX5_operand 8 = .ok (.ifCond .ne 5, 3) := by decide +kernel
theorem dX5_operand_11 : decode cX5_operand 11 = .ok (.iconst (-1), 1) := by decide +kernel
theorem dX5_operand_12 : decode cX5_operand 12 = .ok (.ireturn, 1) := by decide +kernel
theorem dX5_operand_13 : decode cX5_operand 13 = .ok (.aload_n 0, 1) := by decide +kernel
theorem dX5_operand_14 : decode cX5_operand 14 = .ok (.getfield 19, 3) := by decide +kernel
theorem dX5_operand_17 : decode cX5_operand 17 = .ok (.iload_n 1, 1) := by decide +kernel
theorem dX5_operand_18 : decode cX5_operand 18 = .ok (.iload_n 2, 1) := by decide +kernel
theorem dX5_operand_19 : decode cX5_operand 19 = .ok (.invokevirtual 128, 3) := by decide +kernel
theorem dX5_operand_22 : decode cX5_operand 22 = .ok (.istore_n 3, 1) := by decide +kernel
theorem dX5_operand_23 : decode cX5_operand 23 = .ok (.iload_n 3, 1) := by decide +kernel
theorem dX5_operand_24 : decode cX5_operand 24 = .ok (.iconst (-1), 1) := by decide +kernel
theorem dX5_operand_25 : decode cX5_operand 25 = .ok (.if_icmp .ne 8, 3) := by decide +kernel
theorem dX5_operand_28 : decode cX5_operand 28 = .ok (.bipush (-10), 2) := by decide +kernel
theorem dX5_operand_30 : decode cX5_operand 30 = .ok (.goto 4, 3) := by decide +kernel
theorem dX5_operand_33 : decode cX5_operand 33 = .ok (.iload_n 3, 1) := by decide +kernel
theorem dX5_operand_34 : decode cX5_operand 34 = .ok (.ireturn, 1) := by decide +kernel
theorem dX5_size_0 : decode cX5_size 0 = .ok (.aload_n 0, 1) := by decide +kernel
theorem dX5_size_1 : decode cX5_size 1 = .ok (.getfield 19, 3) := by decide +kernel
theorem dX5_size_4 : decode cX5_size 4 = .ok (.iload_n 1, 1) := by decide +kernel
theorem dX5_size_5 : decode cX5_size 5 = .ok (.invokevirtual 115, 3) := by decide +kernel
theorem dX5_size_8 : decode cX5_size 8 = .ok (.ifCond .eq 14, 3) := by decide +kernel
theorem dX5_size_11 : decode cX5_size 11 = .ok (.aload_n 0, 1) := by decide +kernel
theorem dX5_size_12 : decode cX5_size 12 = .ok (.getfield 19, 3) := by decide +kernel
theorem dX5_size_15 : decode cX5_size 15 = .ok (.iload_n 1, 1) := by decide +kernel
theorem dX5_size_16 : decode cX5_size 16 = .ok (.invokevirtual 119, 3) := by decide +kernel
theorem dX5_size_19 : decode cX5_size 19 = .ok (.goto 4, 3) := by decide +kernel
theorem dX5_size_22 : decode cX5_size 22 = .ok (.iconst (-1), 1) := by decide +kernel
theorem dX5_size_23 : decode cX5_size 23 = .ok (.ireturn, 1) := by decide +kernel
theorem dX5_areEqual_0 : decode cX5_areEqual 0 = .ok (.aload_n 0, 1) := by decide +kernel
theorem dX5_areEqual_1 : decode cX5_areEqual 1 = .ok (.getfield 19, 3) := by decide +kernel
theorem dX5_areEqual_4 : decode cX5_areEqual 4 = .ok (.iload_n 1, 1) := by decide +kernel
theorem dX5_areEqual_5 : decode cX5_areEqual 5 = .ok (.invokevirtual 115, 3) := by decide +kernel
theorem dX5_areEqual_8 : decode cX5_areEqual 8 = .ok (.ifCond .eq 14, 3) := by decide +kernel
theorem dX5_areEqual_11 : decode cX5_areEqual 11 = .ok (.aload_n 0, 1) := by decide +kernel
theorem dX5_areEqual_12 : decode cX5_areEqual 12 = .ok (.getfield 19, 3) := by decide +kernel
theorem dX5_areEqual_15 : decode cX5_areEqual 15 = .ok (.iload_n 2, 1) := by decide +kernel
theorem dX5_areEqual_16 : decode cX5_areEqual 16 = .ok (.invokevirtual 115, 3) := by decide +kernel
theorem dX5_areEqual_19 : decode cX5_areEqual 19 = .ok (.ifCond .ne 5, 3) := by decide +kernel
theorem dX5_areEqual_22 : decode cX5_areEqual 22 = .ok (.iconst (-1), 1) := by decide +kernel
theorem dX5_areEqual_23 : decode cX5_areEqual 23 = .ok (.ireturn, 1) := by decide +kernel
theorem dX5_areEqual_24 : decode cX5_areEqual 24 = .ok (.aload_n 0, 1) := by decide +kernel
theorem dX5_areEqual_25 : decode cX5_areEqual 25 = .ok (.getfield 19, 3) := by decide +kernel
theorem dX5_areEqual_28 : decode cX5_areEqual 28 = .ok (.iload_n 1, 1) := by decide +kernel
theorem dX5_areEqual_29 : decode cX5_areEqual 29 = .ok (.aload_n 0, 1) := by decide +kernel
theorem dX5_areEqual_30 : decode cX5_areEqual 30 = .ok (.getfield 19, 3) := by decide +kernel
theorem dX5_areEqual_33 : decode cX5_areEqual 33 = .ok (.iload_n 2, 1) := by decide +kernel
theorem dX5_areEqual_34 : decode cX5_areEqual 34 = .ok (.iconst 0, 1) := by decide +kernel
theorem dX5_areEqual_35 : decode cX5_areEqual 35 = .ok (.invokestatic 131, 3) := by decide +kernel
theorem dX5_areEqual_38 : decode cX5_areEqual 38 = .ok (.ifCond .eq 7, 3) := by decide +kernel
theorem dX5_areEqual_41 : decode cX5_areEqual 41 = .ok (.iconst 1, 1) := by decide +kernel
theorem dX5_areEqual_42 : decode cX5_areEqual 42 = .ok (.goto 4, 3) := by decide +kernel
theorem dX5_areEqual_45 : decode cX5_areEqual 45 = .ok (.iconst 0, 1) := by decide +kernel
theorem dX5_areEqual_46 : decode cX5_areEqual 46 = .ok (.ireturn, 1) := by decide +kernel
theorem dX5_sameTree_0 : decode cX5_sameTree 0 = .ok (.iload_n 1, 1) := by decide +kernel
theorem dX5_sameTree_1 : decode cX5_sameTree 1 = .ok (.iconst (-1), 1) := by decide +kernel
theorem dX5_sameTree_2 : decode cX5_sameTree 2 = .ok (.if_icmp .eq 8, 3) := by decide +kernel
theorem dX5_sameTree_5 : decode cX5_sameTree 5 = .ok (.iload_n 3, 1) := by decide +kernel
theorem dX5_sameTree_6 : decode cX5_sameTree 6 = .ok (.iconst (-1), 1) := by decide +kernel
theorem dX5_sameTree_7 : decode cX5_sameTree 7 = .ok (.if_icmp .ne 14, 3) := by decide +kernel
theorem dX5_sameTree_10 : decode cX5_sameTree 10 = .ok (.iload_n 1, 1) := by decide +kernel
theorem dX5_sameTree_11 : decode cX5_sameTree 11 = .ok (.iload_n 3, 1) := by decide +kernel
theorem dX5_sameTree_12 : decode cX5_sameTree 12 = .ok (.if_icmp .ne 7, 3) := by decide +kernel
theorem dX5_sameTree_15 : decode cX5_sameTree 15 = .ok (.iconst 1, 1) := by decide +kernel
theorem dX5_sameTree_16 : decode cX5_sameTree 16 = .ok (.goto 4, 3) := by decide +kernel
theorem dX5_sameTree_19 : decode cX5_sameTree 19 = .ok (.iconst 0, 1) := by decide +kernel
theorem dX5_sameTree_20 : decode cX5_sameTree 20 = .ok (.ireturn, 1) := by decide +kernel
theorem dX5_sameTree_21 : decode cX5_sameTree 21 = .ok (.iload 4, 2) := by decide +kernel
theorem dX5_sameTree_23 : decode cX5_sameTree 23 = .ok (.bipush 40, 2) := by decide +kernel
theorem dX5_sameTree_25 : decode cX5_sameTree 25 = .ok (.if_icmp .ge 29, 3) := by decide +kernel
theorem dX5_sameTree_28 : decode cX5_sameTree 28 = .ok (.aload_n 0, 1) := by decide +kernel
theorem dX5_sameTree_29 : decode cX5_sameTree 29 = .ok (.iload_n 1, 1) := by decide +kernel
theorem dX5_sameTree_30 : decode cX5_sameTree 30 = .ok (.invokevirtual 122, 3) := by decide +kernel
theorem dX5_sameTree_33 : decode cX5_sameTree 33 = .ok (.aload_n 2, 1) := by decide +kernel
theorem dX5_sameTree_34 : decode cX5_sameTree 34 = .ok (.iload_n 3, 1) := by decide +kernel
theorem dX5_sameTree_35 : decode cX5_sameTree 35 = .ok (.invokevirtual 122, 3) := by decide +kernel
theorem dX5_sameTree_38 : decode cX5_sameTree 38 = .ok (.if_icmp .ne 16, 3) := by decide +kernel
theorem dX5_sameTree_41 : decode cX5_sameTree 41 = .ok (.aload_n 0, 1) := by decide +kernel
theorem dX5_sameTree_42 : decode cX5_sameTree 42 = .ok (.iload_n 1, 1) := by decide +kernel
theorem dX5_sameTree_43 : decode cX5_sameTree 43 = .ok (.invokevirtual 125, 3) := by decide +kernel
theorem dX5_sameTree_46 : decode cX5_sameTree 46 = .ok (.aload_n 2, 1) := by decide +kernel
theorem dX5_sameTree_47 : decode cX5_sameTree 47 = .ok (.iload_n 3, 1) := by decide +kernel
theorem dX5_sameTree_48 : decode cX5_sameTree 48 = .ok (.invokevirtual 125, 3) := by decide +kernel
theorem dX5_sameTree_51 : decode cX5_sameTree 51 = .ok (.if_icmp .eq 5, 3) := by decide +kernel
theorem dX5_sameTree_54 : decode cX5_sameTree 54 = .ok (.iconst 0, 1) := by decide +kernel
theorem dX5_sameTree_55 : decode cX5_sameTree 55 = .ok (.ireturn, 1) := by decide +kernel
theorem dX5_sameTree_56 : decode cX5_sameTree 56 = .ok (.aload_n 0, 1) := by decide +kernel
theorem dX5_sameTree_57 : decode cX5_sameTree 57 = .ok (.aload_n 0, 1) := by decide +kernel
theorem dX5_sameTree_58 : decode cX5_sameTree 58 = .ok (.iload_n 1, 1) := by decide +kernel
theorem dX5_sameTree_59 : decode cX5_sameTree 59 = .ok (.invokevirtual 135, 3) := by decide +kernel
theorem dX5_sameTree_62 : decode cX5_sameTree 62 = .ok (.aload_n 2, 1) := by decide +kernel
theorem dX5_sameTree_63 : decode cX5_sameTree 63 = .ok (.aload_n 2, 1) := by decide +kernel
theorem dX5_sameTree_64 : decode cX5_sameTree 64 = .ok (.iload_n 3, 1) := by decide +kernel
theorem dX5_sameTree_65 : decode cX5_sameTree 65 = .ok (.invokevirtual 135, 3) := by decide +kernel
theorem dX5_sameTree_68 : decode cX5_sameTree 68 = .ok (.iload 4, 2) := by decide +kernel
theorem dX5_sameTree_70 : decode cX5_sameTree 70 = .ok (.iconst 1, 1) := by decide +kernel
theorem dX5_sameTree_71 : decode cX5_sameTree 71 = .ok (.iadd, 1) := by decide +kernel
theorem dX5_sameTree_72 : decode cX5_sameTree 72 = .ok (.invokestatic 131, 3) := by decide +kernel
theorem dX5_sameTree_75 : decode cX5_sameTree 75 = .ok (.ifCond .eq 29, 3) := by decide +kernel
theorem dX5_sameTree_78 : decode cX5_sameTree 78 = .ok (.aload_n 0, 1) := by decide +kernel
theorem dX5_sameTree_79 : decode cX5_sameTree 79 = .ok (.aload_n 0, 1) := by decide +kernel
theorem dX5_sameTree_80 : decode cX5_sameTree 80 = .ok (.iload_n 1, 1) := by decide +kernel
theorem dX5_sameTree_81 : decode cX5_sameTree 81 = .ok (.invokevirtual 138, 3) := by decide +kernel
theorem dX5_sameTree_84 : decode cX5_sameTree 84 = .ok (.aload_n 2, 1) := by decide +kernel
theorem dX5_sameTree_85 : decode cX5_sameTree 85 = .ok (.aload_n 2, 1) := by decide +kernel
theorem dX5_sameTree_86 : decode cX5_sameTree 86 = .ok (.iload_n 3, 1) := by decide +kernel
theorem dX5_sameTree_87 : decode cX5_sameTree 87 = .ok (.invokevirtual 138, 3) := by decide +kernel
theorem dX5_sameTree_90 : decode cX5_sameTree 90 = .ok (.iload 4, 2) := by decide +kernel
theorem dX5_sameTree_92 : decode cX5_sameTree 92 = .ok (.iconst 1, 1) := by decide +kernel
theorem dX5_sameTree_93 : decode cX5_sameTree 93 = .ok (.iadd, 1) := by decide +kernel
theorem dX5_sameTree_94 : decode cX5_sameTree 94 = .ok (.invokestatic 131, 3) := by decide +kernel
theorem dX5_sameTree_97 : decode cX5_sameTree 97 = .ok (.ifCond .eq 7, 3) := by decide +kernel
theorem dX5_sameTree_100 : decode cX5_sameTree 100 = .ok (.iconst 1, 1) := by decide +kernel
theorem dX5_sameTree_101 : decode cX5_sameTree 101 = .ok (.goto 4, 3) := by decide +kernel
theorem dX5_sameTree_104 : decode cX5_sameTree 104 = .ok (.iconst 0, 1) := by decide +kernel
theorem dX5_sameTree_105 : decode cX5_sameTree 105 = .ok (.ireturn, 1) := by decide +kernel
theorem dX5_print_0 : decode cX5_print 0 = .ok (.aload_n 0, 1) := by decide +kernel
theorem dX5_print_1 : decode cX5_print 1 = .ok (.iload_n 1, 1) := by decide +kernel
theorem dX5_print_2 : decode cX5_print 2 = .ok (.iconst 0, 1) := by decide +kernel
theorem dX5_print_3 : decode cX5_print 3 = .ok (.invokevirtual 141, 3) := by decide +kernel
theorem dX5_print_6 : decode cX5_print 6 = .ok (.ireturn, 1) := by decide +kernel
theorem dX5_printFull_0 : decode cX5_printFull 0 = .ok (.aload_n 0, 1) := by decide +kernel
theorem dX5_printFull_1 : decode cX5_printFull 1 = .ok (.iload_n 1, 1) := by decide +kernel
theorem dX5_printFull_2 : decode cX5_printFull 2 = .ok (.iconst 1, 1) := by decide +kernel
theorem dX5_printFull_3 : decode cX5_printFull 3 = .ok (.invokevirtual 141, 3) := by decide +kernel
theorem dX5_printFull_6 : decode cX5_printFull 6 = .ok (.ireturn, 1) := by decide +kernel
theorem dX5_writeTree_0 : decode cX5_writeTree 0 = .ok (.aload_n 0, 1) := by decide +kernel
theorem dX5_writeTree_1 : decode cX5_writeTree 1 = .ok (.getfield 19, 3) := by decide +kernel
theorem dX5_writeTree_4 : decode cX5_writeTree 4 = .ok (.iload_n 1, 1) := by decide +kernel
theorem dX5_writeTree_5 : decode cX5_writeTree 5 = .ok (.invokevirtual 115, 3) := by decide +kernel
theorem dX5_writeTree_8 : decode cX5_writeTree 8 = .ok (.ifCond .ne 5, 3) := by decide +kernel
theorem dX5_writeTree_11 : decode cX5_writeTree 11 = .ok (.iconst (-1), 1) := by decide +kernel
theorem dX5_writeTree_12 : decode cX5_writeTree 12 = .ok (.ireturn, 1) := by decide +kernel
theorem dX5_writeTree_13 : decode cX5_writeTree 13 = .ok (.aload_n 0, 1) := by decide +kernel
theorem dX5_writeTree_14 : decode cX5_writeTree 14 = .ok (.getfield 51, 3) := by decide +kernel
theorem dX5_writeTree_17 : decode cX5_writeTree 17 = .ok (.iload_n 1, 1) := by decide +kernel
theorem dX5_writeTree_18 : decode cX5_writeTree 18 = .ok (.iload_n 2, 1) := by decide +kernel
theorem dX5_writeTree_19 : decode cX5_writeTree 19 = .ok (.invokevirtual 144, 3) := by decide +kernel
theorem dX5_writeTree_22 : decode cX5_writeTree 22 = .ok (.aload_n 0, 1) := by decide +kernel
theorem dX5_writeTree_23 : decode cX5_writeTree 23 = .ok (.iload_n 1, 1) := by decide +kernel
theorem dX5_writeTree_24 : decode cX5_writeTree 24 = .ok (.putfield 55, 3) := by decide +kernel
theorem dX5_writeTree_27 : decode cX5_writeTree 27 = .ok (.aload_n 0, 1) := by decide +kernel
theorem dX5_writeTree_28 : decode cX5_writeTree 28 = .ok (.getfield 33, 3) := by decide +kernel
theorem dX5_writeTree_31 : decode cX5_writeTree 31 = .ok (.invokevirtual 148, 3) := by decide +kernel
theorem dX5_writeTree_34 : decode cX5_writeTree 34 = .ok (.ireturn, 1) := by decide +kernel
theorem dX5_outputAt_0 : decode cX5_outputAt 0 = .ok (.aload_n 0, 1) := by decide +kernel
theorem dX5_outputAt_1 : decode cX5_outputAt 1 = .ok (.getfield 33, 3) := by decide +kernel
theorem dX5_outputAt_4 : decode cX5_outputAt 4 = .ok (.iload_n 1, 1) := by decide +kernel
theorem dX5_outputAt_5 : decode cX5_outputAt 5 = .ok (.invokevirtual 151, 3) := by decide +kernel
theorem dX5_outputAt_8 : decode cX5_outputAt 8 = .ok (.istore_n 2, 1) := by decide +kernel
theorem dX5_outputAt_9 : decode cX5_outputAt 9 = .ok (.iload_n 2, 1) := by decide +kernel
theorem dX5_outputAt_10 : decode cX5_outputAt 10 = .ok (.iconst (-1), 1) := by decide +kernel
theorem dX5_outputAt_11 : decode cX5_outputAt 11 = .ok (.if_icmp .ne 8, 3) := by decide +kernel
theorem dX5_outputAt_14 : decode cX5_outputAt 14 = .ok (.bipush (-9), 2) := by decide +kernel
theorem dX5_outputAt_16 : decode cX5_outputAt 16 = .ok (.goto 4, 3) := by decide +kernel
theorem dX5_outputAt_19 : decode cX5_outputAt 19 = .ok (.iload_n 2, 1) := by decide +kernel
theorem dX5_outputAt_20 : decode cX5_outputAt 20 = .ok (.ireturn, 1) := by decide +kernel
theorem dX5_bracketPairs_0 : decode cX5_bracketPairs 0 = .ok (.aload_n 0, 1) := by decide +kernel
theorem dX5_bracketPairs_1 : decode cX5_bracketPairs 1 = .ok (.getfield 33, 3) := by decide +kernel
theorem dX5_bracketPairs_4 : decode cX5_bracketPairs 4 = .ok (.invokevirtual 154, 3) := by decide +kernel
theorem dX5_bracketPairs_7 : decode cX5_bracketPairs 7 = .ok (.ireturn, 1) := by decide +kernel
theorem dX5_readWithout_0 : decode cX5_readWithout 0 = .ok (.aload_n 0, 1) := by decide +kernel
theorem dX5_readWithout_1 : decode cX5_readWithout 1 = .ok (.getfield 55, 3) := by decide +kernel
theorem dX5_readWithout_4 : decode cX5_readWithout 4 = .ok (.iconst (-1), 1) := by decide +kernel
theorem dX5_readWithout_5 : decode cX5_readWithout 5 = .ok (.if_icmp .ne 6, 3) := by decide +kernel
theorem dX5_readWithout_8 : decode cX5_readWithout 8 = .ok (.bipush (-11), 2) := by decide +kernel
theorem dX5_readWithout_10 : decode cX5_readWithout 10 = .ok (.ireturn, 1) := by decide +kernel
theorem dX5_readWithout_11 : decode cX5_readWithout 11 = .ok (.iload_n 1, 1) := by decide +kernel
theorem dX5_readWithout_12 : decode cX5_readWithout 12 = .ok (.ifCond .lt 14, 3) := by decide +kernel
theorem dX5_readWithout_15 : decode cX5_readWithout 15 = .ok (.iload_n 1, 1) := by decide +kernel
theorem dX5_readWithout_16 : decode cX5_readWithout 16 = .ok (.aload_n 0, 1) := by decide +kernel
theorem dX5_readWithout_17 : decode cX5_readWithout 17 = .ok (.getfield 33, 3) := by decide +kernel
theorem dX5_readWithout_20 : decode cX5_readWithout 20 = .ok (.invokevirtual 154, 3) := by decide +kernel
theorem dX5_readWithout_23 : decode cX5_readWithout 23 = .ok (.if_icmp .lt 6, 3) := by decide +kernel
theorem dX5_readWithout_26 : decode cX5_readWithout 26 = .ok (.bipush (-9), 2) := by decide +kernel
theorem dX5_readWithout_28 : decode cX5_readWithout 28 = .ok (.ireturn, 1) := by decide +kernel
theorem dX5_readWithout_29 : decode cX5_readWithout 29 = .ok (.aload_n 0, 1) := by decide +kernel
theorem dX5_readWithout_30 : decode cX5_readWithout 30 = .ok (.getfield 36, 3) := by decide +kernel
theorem dX5_readWithout_33 : decode cX5_readWithout 33 = .ok (.aload_n 0, 1) := by decide +kernel
theorem dX5_readWithout_34 : decode cX5_readWithout 34 = .ok (.getfield 33, 3) := by decide +kernel
theorem dX5_readWithout_37 : decode cX5_readWithout 37 = .ok (.iload_n 1, 1) := by decide +kernel
theorem dX5_readWithout_38 : decode cX5_readWithout 38 = .ok (.invokevirtual 157, 3) := by decide +kernel
theorem dX5_readWithout_41 : decode cX5_readWithout 41 = .ok (.aload_n 0, 1) := by decide +kernel
theorem dX5_readWithout_42 : decode cX5_readWithout 42 = .ok (.getfield 44, 3) := by decide +kernel
theorem dX5_readWithout_45 : decode cX5_readWithout 45 = .ok (.invokevirtual 161, 3) := by decide +kernel
theorem dX5_readWithout_48 : decode cX5_readWithout 48 = .ok (.ifCond .ne 5, 3) := by decide +kernel
theorem dX5_readWithout_51 : decode cX5_readWithout 51 = .ok (.iconst 2, 1) := by decide +kernel
theorem dX5_readWithout_52 : decode cX5_readWithout 52 = .ok (.ireturn, 1) := by decide +kernel
theorem dX5_readWithout_53 : decode cX5_readWithout 53 = .ok (.aload_n 0, 1) := by decide +kernel
theorem dX5_readWithout_54 : decode cX5_readWithout 54 = .ok (.getfield 23, 3) := by decide +kernel
theorem dX5_readWithout_57 : decode cX5_readWithout 57 = .ok (.aload_n 0, 1) := by decide +kernel
theorem dX5_readWithout_58 : decode cX5_readWithout 58 = .ok (.getfield 23, 3) := by decide +kernel
theorem dX5_readWithout_61 : decode cX5_readWithout 61 = .ok (.invokevirtual 165, 3) := by decide +kernel
theorem dX5_readWithout_64 : decode cX5_readWithout 64 = .ok (.aload_n 0, 1) := by decide +kernel
theorem dX5_readWithout_65 : decode cX5_readWithout 65 = .ok (.getfield 19, 3) := by decide +kernel
theorem dX5_readWithout_68 : decode cX5_readWithout 68 = .ok (.aload_n 0, 1) := by decide +kernel
theorem dX5_readWithout_69 : decode cX5_readWithout 69 = .ok (.getfield 55, 3) := by decide +kernel
theorem dX5_readWithout_72 : decode cX5_readWithout 72 = .ok (.iconst 0, 1) := by decide +kernel
theorem dX5_readWithout_73 : decode cX5_readWithout 73 = .ok (.invokestatic 131, 3) := by decide +kernel
theorem dX5_readWithout_76 : decode cX5_readWithout 76 = .ok (.ifCond .eq 7, 3) := by decide +kernel
theorem dX5_readWithout_79 : decode cX5_readWithout 79 = .ok (.iconst 0, 1) := by decide +kernel
theorem dX5_readWithout_80 : decode cX5_readWithout 80 = .ok (.goto 4, 3) := by decide +kernel
theorem dX5_readWithout_83 : decode cX5_readWithout 83 = .ok (.iconst 1, 1) := by decide +kernel
theorem dX5_readWithout_84 : decode cX5_readWithout 84 = .ok (.ireturn, 1) := by decide +kernel
theorem dX5_append_0 : decode cX5_append 0 = .ok (.iload_n 1, 1) := by decide +kernel
theorem dX5_append_1 : decode cX5_append 1 = .ok (.bipush 33, 2) := by decide +kernel
theorem dX5_append_3 : decode cX5_append 3 = .ok (.if_icmp .lt 9, 3) := by decide +kernel
theorem dX5_append_6 : decode cX5_append 6 = .ok (.iload_n 1, 1) := by decide +kernel
theorem dX5_append_7 : decode cX5_append 7 = .ok (.bipush 126, 2) := by decide +kernel
theorem dX5_append_9 : decode cX5_append 9 = .ok (.if_icmp .le 6, 3) := by decide +kernel
theorem dX5_append_12 : decode cX5_append 12 = .ok (.bipush (-3), 2) := by decide +kernel
theorem dX5_append_14 : decode cX5_append 14 = .ok (.ireturn, 1) := by decide +kernel
theorem dX5_append_15 : decode cX5_append 15 = .ok (.aload_n 0, 1) := by decide +kernel
theorem dX5_append_16 : decode cX5_append 16 = .ok (.getfield 29, 3) := by decide +kernel
theorem dX5_append_19 : decode cX5_append 19 = .ok (.iload_n 1, 1) := by decide +kernel
theorem dX5_append_20 : decode cX5_append 20 = .ok (.invokevirtual 168, 3) := by decide +kernel
theorem dX5_append_23 : decode cX5_append 23 = .ok (.ifCond .eq 13, 3) := by decide +kernel
theorem dX5_append_26 : decode cX5_append 26 = .ok (.aload_n 0, 1) := by decide +kernel
theorem dX5_append_27 : decode cX5_append 27 = .ok (.getfield 29, 3) := by decide +kernel
theorem dX5_append_30 : decode cX5_append 30 = .ok (.invokevirtual 148, 3) := by decide +kernel
theorem dX5_append_33 : decode cX5_append 33 = .ok (.goto 5, 3) := by decide +kernel
theorem dX5_append_36 : decode cX5_append 36 = .ok (.bipush (-7), 2) := by decide +kernel
theorem dX5_append_38 : decode cX5_append 38 = .ok (.ireturn, 1) := by decide +kernel
theorem dX5_copyOutput_0 : decode cX5_copyOutput 0 = .ok (.aload_n 0, 1) := by decide +kernel
theorem dX5_copyOutput_1 : decode cX5_copyOutput 1 = .ok (.getfield 29, 3) := by decide +kernel
theorem dX5_copyOutput_4 : decode cX5_copyOutput 4 = .ok (.aload_n 0, 1) := by decide +kernel
theorem dX5_copyOutput_5 : decode cX5_copyOutput 5 = .ok (.getfield 33, 3) := by decide +kernel
theorem dX5_copyOutput_8 : decode cX5_copyOutput 8 = .ok (.invokevirtual 171, 3) := by decide +kernel
theorem dX5_copyOutput_11 : decode cX5_copyOutput 11 = .ok (.aload_n 0, 1) := by decide +kernel
theorem dX5_copyOutput_12 : decode cX5_copyOutput 12 = .ok (.getfield 29, 3) := by decide +kernel
theorem dX5_copyOutput_15 : decode cX5_copyOutput 15 = .ok (.invokevirtual 148, 3) := by decide +kernel
theorem dX5_copyOutput_18 : decode cX5_copyOutput 18 = .ok (.ireturn, 1) := by decide +kernel
theorem dX5_clearInput_0 : decode cX5_clearInput 0 = .ok (.aload_n 0, 1) := by decide +kernel
theorem dX5_clearInput_1 : decode cX5_clearInput 1 = .ok (.getfield 29, 3) := by decide +kernel
theorem dX5_clearInput_4 : decode cX5_clearInput 4 = .ok (.invokevirtual 148, 3) := by decide +kernel
theorem dX5_clearInput_7 : decode cX5_clearInput 7 = .ok (.istore_n 1, 1) := by decide +kernel
theorem dX5_clearInput_8 : decode cX5_clearInput 8 = .ok (.aload_n 0, 1) := by decide +kernel
theorem dX5_clearInput_9 : decode cX5_clearInput 9 = .ok (.getfield 29, 3) := by decide +kernel
theorem dX5_clearInput_12 : decode cX5_clearInput 12 = .ok (.invokevirtual 175, 3) := by decide +kernel
theorem dX5_clearInput_15 : decode cX5_clearInput 15 = .ok (.iload_n 1, 1) := by decide +kernel
theorem dX5_clearInput_16 : decode cX5_clearInput 16 = .ok (.ireturn, 1) := by decide +kernel
theorem dX5_parse_0 : decode cX5_parse 0 = .ok (.aload_n 0, 1) := by decide +kernel
theorem dX5_parse_1 : decode cX5_parse 1 = .ok (.getfield 36, 3) := by decide +kernel
theorem dX5_parse_4 : decode cX5_parse 4 = .ok (.aload_n 0, 1) := by decide +kernel
theorem dX5_parse_5 : decode cX5_parse 5 = .ok (.getfield 29, 3) := by decide +kernel
theorem dX5_parse_8 : decode cX5_parse 8 = .ok (.invokevirtual 171, 3) := by decide +kernel
theorem dX5_parse_11 : decode cX5_parse 11 = .ok (.aload_n 0, 1) := by decide +kernel
theorem dX5_parse_12 : decode cX5_parse 12 = .ok (.getfield 44, 3) := by decide +kernel
theorem dX5_parse_15 : decode cX5_parse 15 = .ok (.invokevirtual 161, 3) := by decide +kernel
theorem dX5_parse_18 : decode cX5_parse 18 = .ok (.ifCond .ne 28, 3) := by decide +kernel
theorem dX5_parse_21 : decode cX5_parse 21 = .ok (.aload_n 0, 1) := by decide +kernel
theorem dX5_parse_22 : decode cX5_parse 22 = .ok (.aload_n 0, 1) := by decide +kernel
theorem dX5_parse_23 : decode cX5_parse 23 = .ok (.getfield 44, 3) := by decide +kernel
theorem dX5_parse_26 : decode cX5_parse 26 = .ok (.invokevirtual 178, 3) := by decide +kernel
theorem dX5_parse_29 : decode cX5_parse 29 = .ok (.putfield 59, 3) := by decide +kernel
theorem dX5_parse_32 : decode cX5_parse 32 = .ok (.aload_n 0, 1) := by decide +kernel
theorem dX5_parse_33 : decode cX5_parse 33 = .ok (.aload_n 0, 1) := by decide +kernel
theorem dX5_parse_34 : decode cX5_parse 34 = .ok (.getfield 44, 3) := by decide +kernel
theorem dX5_parse_37 : decode cX5_parse 37 = .ok (.invokevirtual 181, 3) := by decide +kernel
theorem dX5_parse_40 : decode cX5_parse 40 = .ok (.putfield 62, 3) := by decide +kernel
theorem dX5_parse_43 : decode cX5_parse 43 = .ok (.bipush (-12), 2) := by decide +kernel
theorem dX5_parse_45 : decode cX5_parse 45 = .ok (.ireturn, 1) := by decide +kernel
theorem dX5_parse_46 : decode cX5_parse 46 = .ok (.aload_n 0, 1) := by decide +kernel
theorem dX5_parse_47 : decode cX5_parse 47 = .ok (.getfield 23, 3) := by decide +kernel
theorem dX5_parse_50 : decode cX5_parse 50 = .ok (.invokevirtual 111, 3) := by decide +kernel
theorem dX5_parse_53 : decode cX5_parse 53 = .ok (.bipush 40, 2) := by decide +kernel
theorem dX5_parse_55 : decode cX5_parse 55 = .ok (.if_icmp .le 6, 3) := by decide +kernel
theorem dX5_parse_58 : decode cX5_parse 58 = .ok (.bipush (-7), 2) := by decide +kernel
theorem dX5_parse_60 : decode cX5_parse 60 = .ok (.ireturn, 1) := by decide +kernel
theorem dX5_parse_61 : decode cX5_parse 61 = .ok (.aload_n 0, 1) := by decide +kernel
theorem dX5_parse_62 : decode cX5_parse 62 = .ok (.getfield 19, 3) := by decide +kernel
theorem dX5_parse_65 : decode cX5_parse 65 = .ok (.invokevirtual 111, 3) := by decide +kernel
theorem dX5_parse_68 : decode cX5_parse 68 = .ok (.aload_n 0, 1) := by decide +kernel
theorem dX5_parse_69 : decode cX5_parse 69 = .ok (.getfield 23, 3) := by decide +kernel
theorem dX5_parse_72 : decode cX5_parse 72 = .ok (.invokevirtual 111, 3) := by decide +kernel
theorem dX5_parse_75 : decode cX5_parse 75 = .ok (.iadd, 1) := by decide +kernel
theorem dX5_parse_76 : decode cX5_parse 76 = .ok (.bipush 100, 2) := by decide +kernel
theorem dX5_parse_78 : decode cX5_parse 78 = .ok (.if_icmp .le 6, 3) := by decide +kernel
theorem dX5_parse_81 : decode cX5_parse 81 = .ok (.bipush (-6), 2) := by decide +kernel
theorem dX5_parse_83 : decode cX5_parse 83 = .ok (.ireturn, 1) := by decide +kernel
theorem dX5_parse_84 : decode cX5_parse 84 = .ok (.aload_n 0, 1) := by decide +kernel
theorem dX5_parse_85 : decode cX5_parse 85 = .ok (.getfield 19, 3) := by decide +kernel
theorem dX5_parse_88 : decode cX5_parse 88 = .ok (.aload_n 0, 1) := by decide +kernel
theorem dX5_parse_89 : decode cX5_parse 89 = .ok (.getfield 23, 3) := by decide +kernel
theorem dX5_parse_92 : decode cX5_parse 92 = .ok (.invokevirtual 184, 3) := by decide +kernel
theorem dX5_parse_95 : decode cX5_parse 95 = .ok (.aload_n 0, 1) := by decide +kernel
theorem dX5_parse_96 : decode cX5_parse 96 = .ok (.getfield 19, 3) := by decide +kernel
theorem dX5_parse_99 : decode cX5_parse 99 = .ok (.invokevirtual 165, 3) := by decide +kernel
theorem dX5_parse_102 : decode cX5_parse 102 = .ok (.ireturn, 1) := by decide +kernel
theorem dX5_errorKind_0 : decode cX5_errorKind 0 = .ok (.aload_n 0, 1) := by decide +kernel
theorem dX5_errorKind_1 : decode cX5_errorKind 1 = .ok (.getfield 59, 3) := by decide +kernel
theorem dX5_errorKind_4 : decode cX5_errorKind 4 = .ok (.ireturn, 1) := by decide +kernel
theorem dX5_errorPosition_0 : decode cX5_errorPosition 0 = .ok (.aload_n 0, 1) := by decide +kernel
theorem dX5_errorPosition_1 : decode cX5_errorPosition 1 = .ok (.getfield 62, 3) := by decide +kernel
theorem dX5_errorPosition_4 : decode cX5_errorPosition 4 = .ok (.ireturn, 1) := by decide +kernel
theorem dX5_isLetter_0 : decode cX5_isLetter 0 = .ok (.iload_n 0, 1) := by decide +kernel
theorem dX5_isLetter_1 : decode cX5_isLetter 1 = .ok (.bipush 97, 2) := by decide +kernel
theorem dX5_isLetter_3 : decode cX5_isLetter 3 = .ok (.if_icmp .lt 13, 3) := by decide +kernel
theorem dX5_isLetter_6 : decode cX5_isLetter 6 = .ok (.iload_n 0, 1) := by decide +kernel
theorem dX5_isLetter_7 : decode cX5_isLetter 7 = .ok (.bipush 122, 2) := by decide +kernel
theorem dX5_isLetter_9 : decode cX5_isLetter 9 = .ok (.if_icmp .gt 7, 3) := by decide +kernel
theorem dX5_isLetter_12 : decode cX5_isLetter 12 = .ok (.iconst 1, 1) := by decide +kernel
theorem dX5_isLetter_13 : decode cX5_isLetter 13 = .ok (.goto 4, 3) := by decide +kernel
theorem dX5_isLetter_16 : decode cX5_isLetter 16 = .ok (.iconst 0, 1) := by decide +kernel
theorem dX5_isLetter_17 : decode cX5_isLetter 17 = .ok (.ireturn, 1) := by decide +kernel
theorem dX5_canBeSymbol_0 : decode cX5_canBeSymbol 0 = .ok (.iload_n 0, 1) := by decide +kernel
theorem dX5_canBeSymbol_1 : decode cX5_canBeSymbol 1 = .ok (.bipush 33, 2) := by decide +kernel
theorem dX5_canBeSymbol_3 : decode cX5_canBeSymbol 3 = .ok (.if_icmp .lt 32, 3) := by decide +kernel
theorem dX5_canBeSymbol_6 : decode cX5_canBeSymbol 6 = .ok (.iload_n 0, 1) := by decide +kernel
theorem dX5_canBeSymbol_7 : decode cX5_canBeSymbol 7 = .ok (.bipush 126, 2) := by decide +kernel
theorem dX5_canBeSymbol_9 : decode cX5_canBeSymbol 9 = .ok (.if_icmp .gt 26, 3) := by decide +kernel
theorem dX5_canBeSymbol_12 : decode cX5_canBeSymbol 12 = .ok (.iload_n 0, 1) := by decide +kernel
theorem dX5_canBeSymbol_13 : decode cX5_canBeSymbol 13 = .ok (.invokestatic 108, 3) := by decide +kernel
theorem dX5_canBeSymbol_16 : decode cX5_canBeSymbol 16 = .ok (.ifCond .ne 19, 3) := by decide +kernel
theorem dX5_canBeSymbol_19 : decode cX5_canBeSymbol 19 = .ok (.iload_n 0, 1) := by decide +kernel
theorem dX5_canBeSymbol_20 : decode cX5_canBeSymbol 20 = .ok (.bipush 40, 2) := by decide +kernel
theorem dX5_canBeSymbol_22 : decode cX5_canBeSymbol 22 = .ok (.if_icmp .eq 13, 3) := by decide +kernel
theorem dX5_canBeSymbol_25 : decode cX5_canBeSymbol 25 = .ok (.iload_n 0, 1) := by decide +kernel
theorem dX5_canBeSymbol_26 : decode cX5_canBeSymbol 26 = .ok (.bipush 41, 2) := by decide +kernel
theorem dX5_canBeSymbol_28 : decode cX5_canBeSymbol 28 = .ok (.if_icmp .eq 7, 3) := by decide +kernel
theorem dX5_canBeSymbol_31 : decode cX5_canBeSymbol 31 = .ok (.iconst 1, 1) := by decide +kernel
theorem dX5_canBeSymbol_32 : decode cX5_canBeSymbol 32 = .ok (.goto 4, 3) := by decide +kernel
theorem dX5_canBeSymbol_35 : decode cX5_canBeSymbol 35 = .ok (.iconst 0, 1) := by decide +kernel
theorem dX5_canBeSymbol_36 : decode cX5_canBeSymbol 36 = .ok (.ireturn, 1) := by decide +kernel
theorem dX5_isLevel_0 : decode cX5_isLevel 0 = .ok (.iload_n 0, 1) := by decide +kernel
theorem dX5_isLevel_1 : decode cX5_isLevel 1 = .ok (.iconst 1, 1) := by decide +kernel
theorem dX5_isLevel_2 : decode cX5_isLevel 2 = .ok (.if_icmp .lt 13, 3) := by decide +kernel
theorem dX5_isLevel_5 : decode cX5_isLevel 5 = .ok (.iload_n 0, 1) := by decide +kernel
theorem dX5_isLevel_6 : decode cX5_isLevel 6 = .ok (.bipush 9, 2) := by decide +kernel
theorem dX5_isLevel_8 : decode cX5_isLevel 8 = .ok (.if_icmp .gt 7, 3) := by decide +kernel
theorem dX5_isLevel_11 : decode cX5_isLevel 11 = .ok (.iconst 1, 1) := by decide +kernel
theorem dX5_isLevel_12 : decode cX5_isLevel 12 = .ok (.goto 4, 3) := by decide +kernel
theorem dX5_isLevel_15 : decode cX5_isLevel 15 = .ok (.iconst 0, 1) := by decide +kernel
theorem dX5_isLevel_16 : decode cX5_isLevel 16 = .ok (.ireturn, 1) := by decide +kernel
