/-! ===== decode rows (as printed) ===== -/
theorem dX6_in_0 : decode cX6_in 0 = .ok (.iload_n 0, 1) := by decide +kernel
theorem dX6_in_1 : decode cX6_in 1 = .ok (.iload_n 1, 1) := by decide +kernel
theorem dX6_in_2 : decode cX6_in 2 = .ok (.if_icmp .lt 12, 3) := by decide +kernel
theorem dX6_in_5 : decode cX6_in 5 = .ok (.iload_n 0, 1) := by decide +kernel
theorem dX6_in_6 : decode cX6_in 6 = .ok (.iload_n 2, 1) := by decide +kernel
theorem dX6_in_7 : decode cX6_in 7 = .ok (.if_icmp .gt 7, 3) := by decide +kernel
theorem dX6_in_10 : decode cX6_in 10 = .ok (.iconst 1, 1) := by decide +kernel
theorem dX6_in_11 : decode cX6_in 11 = .ok (.goto 4, 3) := by decide +kernel
theorem dX6_in_14 : decode cX6_in 14 = .ok (.iconst 0, 1) := by decide +kernel
theorem dX6_in_15 : decode cX6_in 15 = .ok (.ireturn, 1) := by decide +kernel
theorem dX6_isOperator_0 : decode cX6_isOperator 0 = .ok (.iload_n 1, 1) := by decide +kernel
theorem dX6_isOperator_1 : decode cX6_isOperator 1 = .ok (.iconst 0, 1) := by decide +kernel
theorem dX6_isOperator_2 : decode cX6_isOperator 2 = .ok (.aload_n 0, 1) := by decide +kernel
theorem dX6_isOperator_3 : decode cX6_isOperator 3 = .ok (.getfield 87, 3) := by decide +kernel
theorem dX6_isOperator_6 : decode cX6_isOperator 6 = .ok (.iconst 1, 1) := by decide +kernel
theorem dX6_isOperator_7 : decode cX6_isOperator 7 = .ok (.isub, 1) := by decide +kernel
theorem dX6_isOperator_8 : decode cX6_isOperator 8 = .ok (.invokestatic 90, 3) := by decide +kernel
theorem dX6_isOperator_11 : decode cX6_isOperator 11 = .ok (.ireturn, 1) := by decide +kernel
theorem dX6_isNode_0 : decode cX6_isNode 0 = .ok (.iload_n 1, 1) := by decide +kernel
theorem dX6_isNode_1 : decode cX6_isNode 1 = .ok (.iconst 0, 1) := by decide +kernel
theorem dX6_isNode_2 : decode cX6_isNode 2 = .ok (.aload_n 0, 1) := by decide +kernel
theorem dX6_isNode_3 : decode cX6_isNode 3 = .ok (.getfield 94, 3) := by decide +kernel
theorem dX6_isNode_6 : decode cX6_isNode 6 = .ok (.iconst 1, 1) := by decide +kernel
theorem dX6_isNode_7 : decode cX6_isNode 7 = .ok (.isub, 1) := by decide +kernel
theorem dX6_isNode_8 : decode cX6_isNode 8 = .ok (.invokestatic 90, 3) := by decide +kernel
theorem dX6_isNode_11 : decode cX6_isNode 11 = .ok (.ireturn, 1) := by decide +kernel
theorem dX6_isLetter_0 : decode cX6_isLetter 0 = .ok (.iload_n 0, 1) := by decide +kernel
theorem dX6_isLetter_1 : decode cX6_isLetter 1 = .ok (.bipush 97, 2) := by decide +kernel
theorem dX6_isLetter_3 : decode cX6_isLetter 3 = .ok (.bipush 122, 2) := by decide +kernel
theorem dX6_isLetter_5 : decode cX6_isLetter 5 = .ok (.invokestatic 90, 3) := by decide +kernel
theorem dX6_isLetter_8 : decode cX6_isLetter 8 = .ok (.ireturn, 1) := by decide +kernel
theorem dX6_operatorFor_0 : decode cX6_operatorFor 0 = .ok (.iconst 0, 1) := by decide +kernel
theorem dX6_operatorFor_1 : decode cX6_operatorFor 1 = .ok (.istore_n 3, 1) := by decide +kernel
theorem dX6_operatorFor_2 : decode cX6_operatorFor 2 = .ok (.iload_n 3, 1) := by decide +kernel
theorem dX6_operatorFor_3 : decode cX6_operatorFor 3 = .ok (.aload_n 0, 1) := by decide +kernel
theorem dX6_operatorFor_4 : decode cX6_operatorFor 4 = .ok (.getfield 87, 3) := by decide +kernel
theorem dX6_operatorFor_7 : decode cX6_operatorFor 7 = .ok (.if_icmp .ge 40, 3) := by decide +kernel
theorem dX6_operatorFor_10 : decode cX6_operatorFor 10 = .ok (.aload_n 0, 1) := by decide +kernel
theorem dX6_operatorFor_11 : decode cX6_operatorFor 11 = .ok (.getfield 7, 3) := by decide +kernel
theorem dX6_operatorFor_14 : decode cX6_operatorFor 14 = .ok (.iload_n 3, 1) := by decide +kernel
theorem dX6_operatorFor_15 : decode cX6_operatorFor 15 = .ok (.iaload, 1) := by decide +kernel
theorem dX6_operatorFor_16 : decode cX6_operatorFor 16 = .ok (.iload_n 1, 1) := by decide +kernel
theorem dX6_operatorFor_17 : decode cX6_operatorFor 17 = .ok (.if_icmp .ne 24, 3) := by decide +kernel
theorem dX6_operatorFor_20 : decode cX6_operatorFor 20 = .ok (.aload_n 0, 1) := by decide +kernel
theorem dX6_operatorFor_21 : decode cX6_operatorFor 21 = .ok (.getfield 13, 3) := by decide +kernel
theorem dX6_operatorFor_24 : decode cX6_operatorFor 24 = .ok (.iload_n 3, 1) := by decide +kernel
theorem dX6_operatorFor_25 : decode cX6_operatorFor 25 = .ok (.iaload, 1) := by decide +kernel
theorem dX6_operatorFor_26 : decode cX6_operatorFor 26 = .ok (.iconst 1, 1) := by decide +kernel
theorem dX6_operatorFor_27 : decode cX6_operatorFor 27 = .ok (.if_icmp .ne 7, 3) := by decide +kernel
theorem dX6_operatorFor_30 : decode cX6_operatorFor 30 = .ok (.iconst 1, 1) := by decide +kernel
theorem dX6_operatorFor_31 : decode cX6_operatorFor 31 = .ok (.goto 4, 3) := by decide +kernel
theorem dX6_operatorFor_34 : decode cX6_operatorFor 34 = .ok (.iconst 0, 1) := by decide +kernel
theorem dX6_operatorFor_35 : decode cX6_operatorFor 35 = .ok (.iload_n 2, 1) := by decide +kernel
theorem dX6_operatorFor_36 : decode cX6_operatorFor 36 = .ok (.if_icmp .ne 5, 3) := by decide +kernel
theorem dX6_operatorFor_39 : decode cX6_operatorFor 39 = .ok (.iload_n 3, 1) := by decide +kernel
theorem dX6_operatorFor_40 : decode cX6_operatorFor 40 = .ok (.ireturn, 1) := by decide +kernel
theorem dX6_operatorFor_41 : decode cX6_operatorFor 41 = .ok (.iinc 3 1, 3) := by decide +kernel
theorem dX6_operatorFor_44 : decode cX6_operatorFor 44 = .ok (.goto (-42), 3) := by decide +kernel
theorem dX6_operatorFor_47 : decode cX6_operatorFor 47 = .ok (.bipush (-10), 2) := by decide +kernel
theorem dX6_operatorFor_49 : decode cX6_operatorFor 49 = .ok (.ireturn, 1) := by decide +kernel
theorem dX6_define_0 : decode cX6_define 0 = .ok (.iload_n 1, 1) := by decide +kernel
theorem dX6_define_1 : decode cX6_define 1 = .ok (.bipush 33, 2) := by decide +kernel
theorem dX6_define_3 : decode cX6_define 3 = .ok (.bipush 126, 2) := by decide +kernel
theorem dX6_define_5 : decode cX6_define 5 = .ok (.invokestatic 90, 3) := by decide +kernel
theorem dX6_define_8 : decode cX6_define 8 = .ok (.ifCond .eq 22, 3) := by decide +kernel
theorem dX6_define_11 : decode cX6_define 11 = .ok (.iload_n 1, 1) := by decide +kernel
theorem dX6_define_12 : decode cX6_define 12 = .ok (.invokestatic 97, 3) := by decide +kernel
theorem dX6_define_15 : decode cX6_define 15 = .ok (.ifCond .ne 15, 3) := by decide +kernel
theorem dX6_define_18 : decode cX6_define 18 = .ok (.iload_n 1, 1) := by decide +kernel
theorem dX6_define_19 : decode cX6_define 19 = .ok (.bipush 40, 2) := by decide +kernel
theorem dX6_define_21 : decode cX6_define 21 = .ok (.if_icmp .eq 9, 3) := by decide +kernel
theorem dX6_define_24 : decode cX6_define 24 = .ok (.iload_n 1, 1) := by decide +kernel
theorem dX6_define_25 : decode cX6_define 25 = .ok (.bipush 41, 2) := by decide +kernel
theorem dX6_define_27 : decode cX6_define 27 = .ok (.if_icmp .ne 6, 3) := by decide +kernel
theorem dX6_define_30 : decode cX6_define 30 = .ok (.bipush (-3), 2) := by decide +kernel
theorem dX6_define_32 : decode cX6_define 32 = .ok (.ireturn, 1) := by decide +kernel
theorem dX6_define_33 : decode cX6_define 33 = .ok (.iload_n 3, 1) := by decide +kernel
theorem dX6_define_34 : decode cX6_define 34 = .ok (.iconst 1, 1) := by decide +kernel
theorem dX6_define_35 : decode cX6_define 35 = .ok (.bipush 9, 2) := by decide +kernel
theorem dX6_define_37 : decode cX6_define 37 = .ok (.invokestatic 90, 3) := by decide +kernel
theorem dX6_define_40 : decode cX6_define 40 = .ok (.ifCond .ne 6, 3) := by decide +kernel
theorem dX6_define_43 : decode cX6_define 43 = .ok (.bipush (-4), 2) := by decide +kernel
theorem dX6_define_45 : decode cX6_define 45 = .ok (.ireturn, 1) := by decide +kernel
theorem dX6_define_46 : decode cX6_define 46 = .ok (.aload_n 0, 1) := by decide +kernel
theorem dX6_define_47 : decode cX6_define 47 = .ok (.iload_n 1, 1) := by decide +kernel
theorem dX6_define_48 : decode cX6_define 48 = .ok (.iload_n 2, 1) := by decide +kernel
theorem dX6_define_49 : decode cX6_define 49 = .ok (.iconst 1, 1) := by decide +kernel
theorem dX6_define_50 : decode cX6_define 50 = .ok (.if_icmp .ne 7, 3) := by decide +kernel
theorem dX6_define_53 : decode cX6_define 53 = .ok (.iconst 1, 1) := by decide +kernel
theorem dX6_define_54 : decode cX6_define 54 = .ok (.goto 4, 3) := by decide +kernel
theorem dX6_define_57 : decode cX6_define 57 = .ok (.iconst 0, 1) := by decide +kernel
theorem dX6_define_58 : decode cX6_define 58 = .ok (.invokevirtual 101, 3) := by decide +kernel
theorem dX6_define_61 : decode cX6_define 61 = .ok (.ifCond .lt 6, 3) := by decide +kernel
theorem dX6_define_64 : decode cX6_define 64 = .ok (.bipush (-5), 2) := by decide +kernel
theorem dX6_define_66 : decode cX6_define 66 = .ok (.ireturn, 1) := by decide +kernel
theorem dX6_define_67 : decode cX6_define 67 = .ok (.aload_n 0, 1) := by decide +kernel
theorem dX6_define_68 : decode cX6_define 68 = .ok (.getfield 87, 3) := by decide +kernel
theorem dX6_define_71 : decode cX6_define 71 = .ok (.bipush 16, 2) := by decide +kernel
theorem dX6_define_73 : decode cX6_define 73 = .ok (.if_icmp .ne 6, 3) := by decide +kernel
theorem dX6_define_76 : decode cX6_define 76 = .ok (.bipush (-6), 2) := by decide +kernel
theorem dX6_define_78 : decode cX6_define 78 = .ok (.ireturn, 1) := by decide +kernel
theorem dX6_define_79 : decode cX6_define 79 = .ok (.aload_n 0, 1) := by decide +kernel
theorem dX6_define_80 : decode cX6_define 80 = .ok (.getfield 7, 3) := by decide +kernel
theorem dX6_define_83 : decode cX6_define 83 = .ok (.aload_n 0, 1) := by decide +kernel
theorem dX6_define_84 : decode cX6_define 84 = .ok (.getfield 87, 3) := by decide +kernel
theorem dX6_define_87 : decode cX6_define 87 = .ok (.iload_n 1, 1) := by decide +kernel
theorem dX6_define_88 : decode cX6_define 88 = .ok (.iastore, 1) := by decide +kernel
theorem dX6_define_89 : decode cX6_define 89 = .ok (.aload_n 0, 1) := by decide +kernel
theorem dX6_define_90 : decode cX6_define 90 = .ok (.getfield 13, 3) := by decide +kernel
theorem dX6_define_93 : decode cX6_define 93 = .ok (.aload_n 0, 1) := by decide +kernel
theorem dX6_define_94 : decode cX6_define 94 = .ok (.getfield 87, 3) := by decide +kernel
theorem dX6_define_97 : decode cX6_define 97 = .ok (.iload_n 2, 1) := by decide +kernel
theorem dX6_define_98 : decode cX6_define 98 = .ok (.iastore, 1) := by decide +kernel
theorem dX6_define_99 : decode cX6_define 99 = .ok (.aload_n 0, 1) := by decide +kernel
theorem dX6_define_100 : decode cX6_define 100 = .ok (.getfield 16, 3) := by decide +kernel
theorem dX6_define_103 : decode cX6_define 103 = .ok (.aload_n 0, 1) := by decide +kernel
theorem dX6_define_104 : decode cX6_define 104 = .ok (.getfield 87, 3) := by decide +kernel
theorem dX6_define_107 : decode cX6_define 107 = .ok (.iload_n 3, 1) := by decide +kernel
theorem dX6_define_108 : decode cX6_define 108 = .ok (.iastore, 1) := by decide +kernel
theorem dX6_define_109 : decode cX6_define 109 = .ok (.aload_n 0, 1) := by decide +kernel
theorem dX6_define_110 : decode cX6_define 110 = .ok (.dup, 1) := by decide +kernel
theorem dX6_define_111 : decode cX6_define 111 = .ok (.getfield 87, 3) := by decide +kernel
theorem dX6_define_114 : decode cX6_define 114 = .ok (.iconst 1, 1) := by decide +kernel
theorem dX6_define_115 : decode cX6_define 115 = .ok (.iadd, 1) := by decide +kernel
theorem dX6_define_116 : decode cX6_define 116 = .ok (.putfield 87, 3) := by decide +kernel
theorem dX6_define_119 : decode cX6_define 119 = .ok (.aload_n 0, 1) := by decide +kernel
theorem dX6_define_120 : decode cX6_define 120 = .ok (.getfield 87, 3) := by decide +kernel
theorem dX6_define_123 : decode cX6_define 123 = .ok (.iconst 1, 1) := by decide +kernel
theorem dX6_define_124 : decode cX6_define 124 = .ok (.isub, 1) := by decide +kernel
theorem dX6_define_125 : decode cX6_define 125 = .ok (.ireturn, 1) := by decide +kernel
theorem dX6_defineInfix_0 : decode cX6_defineInfix 0 = .ok (.aload_n 0, 1) := by decide +kernel
theorem dX6_defineInfix_1 : decode cX6_defineInfix 1 = .ok (.iload_n 1, 1) := by decide +kernel
theorem dX6_defineInfix_2 : decode cX6_defineInfix 2 = .ok (.iconst 0, 1) := by decide +kernel
theorem dX6_defineInfix_3 : decode cX6_defineInfix 3 = .ok (.iload_n 2, 1) := by decide +kernel
theorem dX6_defineInfix_4 : decode cX6_defineInfix 4 = .ok (.invokevirtual 105, 3) := by decide +kernel
theorem dX6_defineInfix_7 : decode cX6_defineInfix 7 = .ok (.ireturn, 1) := by decide +kernel
theorem dX6_definePrefix_0 : decode cX6_definePrefix 0 = .ok (.aload_n 0, 1) := by decide +kernel
theorem dX6_definePrefix_1 : decode cX6_definePrefix 1 = .ok (.iload_n 1, 1) := by decide +kernel
theorem dX6_definePrefix_2 : decode cX6_definePrefix 2 = .ok (.iconst 1, 1) := by decide +kernel
theorem dX6_definePrefix_3 : decode cX6_definePrefix 3 = .ok (.iload_n 2, 1) := by decide +kernel
theorem dX6_definePrefix_4 : decode cX6_definePrefix 4 = .ok (.invokevirtual 105, 3) := by decide +kernel
theorem dX6_definePrefix_7 : decode cX6_definePrefix 7 = .ok (.ireturn, 1) := by decide +kernel
theorem dX6_definePostfix_0 : decode cX6_definePostfix 0 = .ok (.aload_n 0, 1) := by decide +kernel
theorem dX6_definePostfix_1 : decode cX6_definePostfix 1 = .ok (.iload_n 1, 1) := by decide +kernel
theorem dX6_definePostfix_2 : decode cX6_definePostfix 2 = .ok (.iconst 2, 1) := by decide +kernel
theorem dX6_definePostfix_3 : decode cX6_definePostfix 3 = .ok (.iload_n 2, 1) := by decide +kernel
theorem dX6_definePostfix_4 : decode cX6_definePostfix 4 = .ok (.invokevirtual 105, 3) := by decide +kernel
theorem dX6_definePostfix_7 : decode cX6_definePostfix 7 = .ok (.ireturn, 1) := by decide +kernel
theorem dX6_operatorCount_0 : decode cX6_operatorCount 0 = .ok (.aload_n 0, 1) := by decide +kernel
theorem dX6_operatorCount_1 : decode cX6_operatorCount 1 = .ok (.getfield 87, 3) := by decide +kernel
theorem dX6_operatorCount_4 : decode cX6_operatorCount 4 = .ok (.ireturn, 1) := by decide +kernel
theorem dX6_symbol_0 : decode cX6_symbol 0 = .ok (.aload_n 0, 1) := by decide +kernel
theorem dX6_symbol_1 : decode cX6_symbol 1 = .ok (.iload_n 1, 1) := by decide +kernel
theorem dX6_symbol_2 : decode cX6_symbol 2 = .ok (.invokevirtual 109, 3) := by decide +kernel
theorem dX6_symbol_5 : decode cX6_symbol 5 = .ok (.ifCond .eq 12, 3) := by decide +kernel
theorem dX6_symbol_8 : decode cX6_symbol 8 = .ok (.aload_n 0, 1) := by decide +kernel
theorem dX6_symbol_9 : decode cX6_symbol 9 = .ok (.getfield 7, 3) := by decide +kernel
theorem dX6_symbol_12 : decode cX6_symbol 12 = .ok (.iload_n 1, 1) := by decide +kernel
theorem dX6_symbol_13 : decode cX6_symbol 13 = .ok (.iaload, 1) := by decide +kernel
theorem dX6_symbol_14 : decode cX6_symbol 14 = .ok (.goto 5, 3) := by decide +kernel
theorem dX6_symbol_17 : decode cX6_symbol 17 = .ok (.bipush (-2), 2) := by decide +kernel
theorem dX6_symbol_19 : decode cX6_symbol 19 = .ok (.ireturn, 1) := by decide +kernel
theorem dX6_kind_0 : decode cX6_kind 0 = .ok (.aload_n 0, 1) := by decide +kernel
theorem dX6_kind_1 : decode cX6_kind 1 = .ok (.iload_n 1, 1) := by decide +kernel
theorem dX6_kind_2 : decode cX6_kind 2 = .ok (.invokevirtual 109, 3) := by decide +kernel
theorem dX6_kind_5 : decode cX6_kind 5 = .ok (.ifCond .eq 12, 3) := by decide +kernel
theorem dX6_kind_8 : decode cX6_kind 8 = .ok (.aload_n 0, 1) := by decide +kernel
theorem dX6_kind_9 : decode cX6_kind 9 = .ok (.getfield 13, 3) := by decide +kernel
theorem dX6_kind_12 : decode cX6_kind 12 = .ok (.iload_n 1, 1) := by decide +kernel
theorem dX6_kind_13 : decode cX6_kind 13 = .ok (.iaload, 1) := by decide +kernel
theorem dX6_kind_14 : decode cX6_kind 14 = .ok (.goto 5, 3) := by decide +kernel
theorem dX6_kind_17 : decode cX6_kind 17 = .ok (.bipush (-2), 2) := by decide +kernel
theorem dX6_kind_19 : decode cX6_kind 19 = .ok (.ireturn, 1) := by decide +kernel
theorem dX6_setLevel_0 : decode cX6_setLevel 0 = .ok (.aload_n 0, 1) := by decide +kernel
theorem dX6_setLevel_1 : decode cX6_setLevel 1 = .ok (.iload_n 1, 1) := by decide +kernel
theorem dX6_setLevel_2 : decode cX6_setLevel 2 = .ok (.invokevirtual 109, 3) := by decide +kernel
theorem dX6_setLevel_5 : decode cX6_setLevel 5 = .ok (.ifCond .ne 6, 3) := by decide +kernel
theorem dX6_setLevel_8 : decode cX6_setLevel 8 = .ok (.bipush (-2), 2) := by decide +kernel
theorem dX6_setLevel_10 : decode cX6_setLevel 10 = .ok (.ireturn, 1) := by decide +kernel
theorem dX6_setLevel_11 : decode cX6_setLevel 11 = .ok (.iload_n 2, 1) := by decide +kernel
theorem dX6_setLevel_12 : decode cX6_setLevel 12 = .ok (.iconst 1, 1) := by decide +kernel
theorem dX6_setLevel_13 : decode cX6_setLevel 13 = .ok (.bipush 9, 2) := by decide +kernel
theorem dX6_setLevel_15 : decode cX6_setLevel 15 = .ok (.invokestatic 90, 3) := by decide +kernel
theorem dX6_setLevel_18 : decode cX6_setLevel 18 = .ok (.ifCond .ne 6, 3) := by decide +kernel
theorem dX6_setLevel_21 : decode cX6_setLevel 21 = .ok (.bipush (-4), 2) := by decide +kernel
theorem dX6_setLevel_23 : decode cX6_setLevel 23 = .ok (.ireturn, 1) := by decide +kernel
theorem dX6_setLevel_24 : decode cX6_setLevel 24 = .ok (.aload_n 0, 1) := by decide +kernel
theorem dX6_setLevel_25 : decode cX6_setLevel 25 = .ok (.getfield 16, 3) := by decide +kernel
theorem dX6_setLevel_28 : decode cX6_setLevel 28 = .ok (.iload_n 1, 1) := by decide +kernel
theorem dX6_setLevel_29 : decode cX6_setLevel 29 = .ok (.iaload, 1) := by decide +kernel
theorem dX6_setLevel_30 : decode cX6_setLevel 30 = .ok (.istore_n 3, 1) := by decide +kernel
theorem dX6_setLevel_31 : decode cX6_setLevel 31 = .ok (.aload_n 0, 1) := by decide +kernel
theorem dX6_setLevel_32 : decode cX6_setLevel 32 = .ok (.getfield 16, 3) := by decide +kernel
theorem dX6_setLevel_35 : decode cX6_setLevel 35 = .ok (.iload_n 1, 1) := by decide +kernel
theorem dX6_setLevel_36 : decode cX6_setLevel 36 = .ok (.iload_n 2, 1) := by decide +kernel
theorem dX6_setLevel_37 : decode cX6_setLevel 37 = .ok (.iastore, 1) := by decide +kernel
theorem dX6_setLevel_38 : decode cX6_setLevel 38 = .ok (.iload_n 3, 1) := by decide +kernel
theorem dX6_setLevel_39 : decode cX6_setLevel 39 = .ok (.ireturn, 1) := by decide +kernel
theorem dX6_setAssociativity_0 : decode cX6_setAssociativity 0 = .ok (.iload_n 1, 1) := by decide +kernel
theorem dX6_setAssociativity_1 : decode cX6_setAssociativity 1 = .ok (.iconst 1, 1) := by decide +kernel
theorem dX6_setAssociativity_2 : decode cX6_setAssociativity 2 = .ok (.bipush 9, 2) := by decide +kernel
theorem dX6_setAssociativity_4 : decode cX6_setAssociativity 4 = .ok (.invokestatic 90, 3) := by decide +kernel
theorem dX6_setAssociativity_7 : decode cX6_setAssociativity 7 = .ok (.ifCond .eq 12, 3) := by decide +kernel
theorem dX6_setAssociativity_10 : decode cX6_setAssociativity 10 = .ok (.iload_n 2, 1) := by decide +kernel
theorem dX6_setAssociativity_11 : decode cX6_setAssociativity 11 = .ok (.iconst 0, 1) := by decide +kernel
theorem dX6_setAssociativity_12 : decode cX6_setAssociativity 12 = .ok (.iconst 2, 1) := by decide +kernel
theorem dX6_setAssociativity_13 : decode cX6_setAssociativity 13 = .ok (.invokestatic 90, 3) := by decide +kernel
theorem dX6_setAssociativity_16 : decode cX6_setAssociativity 16 = .ok (.ifCond .ne 6, 3) := by decide +kernel
theorem dX6_setAssociativity_19 : decode cX6_setAssociativity 19 = .ok (.bipush (-4), 2) := by decide +kernel
theorem dX6_setAssociativity_21 : decode cX6_setAssociativity 21 = .ok (.ireturn, 1) := by decide +kernel
theorem dX6_setAssociativity_22 : decode cX6_setAssociativity 22 = .ok (.aload_n 0, 1) := by decide +kernel
theorem dX6_setAssociativity_23 : decode cX6_setAssociativity 23 = .ok (.getfield 19, 3) := by decide +kernel
theorem dX6_setAssociativity_26 : decode cX6_setAssociativity 26 = .ok (.iload_n 1, 1) := by decide +kernel
theorem dX6_setAssociativity_27 : decode cX6_setAssociativity 27 = .ok (.iaload, 1) := by decide +kernel
theorem dX6_setAssociativity_28 : decode cX6_setAssociativity 28 = .ok (.istore_n 3, 1) := by decide +kernel
theorem dX6_setAssociativity_29 : decode cX6_setAssociativity 29 = .ok (.aload_n 0, 1) := by decide +kernel
theorem dX6_setAssociativity_30 : decode cX6_setAssociativity 30 = .ok (.getfield 19, 3) := by decide +kernel
theorem dX6_setAssociativity_33 : decode cX6_setAssociativity 33 = .ok (.iload_n 1, 1) := by decide +kernel
theorem dX6_setAssociativity_34 : decode cX6_setAssociativity 34 = .ok (.iload_n 2, 1) := by decide +kernel
theorem dX6_setAssociativity_35 : decode cX6_setAssociativity 35 = .ok (.iastore, 1) := by decide +kernel
theorem dX6_setAssociativity_36 : decode cX6_setAssociativity 36 = .ok (.iload_n 3, 1) := by decide +kernel
theorem dX6_setAssociativity_37 : decode cX6_setAssociativity 37 = .ok (.ireturn, 1) := by decide +kernel
theorem dX6_setForbidden_0 : decode cX6_setForbidden 0 = .ok (.aload_n 0, 1) := by decide +kernel
theorem dX6_setForbidden_1 : decode cX6_setForbidden 1 = .ok (.iload_n 1, 1) := by decide +kernel
theorem dX6_setForbidden_2 : decode cX6_setForbidden 2 = .ok (.invokevirtual 109, 3) := by decide +kernel
theorem dX6_setForbidden_5 : decode cX6_setForbidden 5 = .ok (.ifCond .eq 11, 3) := by decide +kernel
theorem dX6_setForbidden_8 : decode cX6_setForbidden 8 = .ok (.aload_n 0, 1) := by decide +kernel
theorem dX6_setForbidden_9 : decode cX6_setForbidden 9 = .ok (.iload_n 2, 1) := by decide +kernel
theorem dX6_setForbidden_10 : decode cX6_setForbidden 10 = .ok (.invokevirtual 109, 3) := by decide +kernel
theorem dX6_setForbidden_13 : decode cX6_setForbidden 13 = .ok (.ifCond .ne 6, 3) := by decide +kernel
theorem dX6_setForbidden_16 : decode cX6_setForbidden 16 = .ok (.bipush (-2), 2) := by decide +kernel
theorem dX6_setForbidden_18 : decode cX6_setForbidden 18 = .ok (.ireturn, 1) := by decide +kernel
theorem dX6_setForbidden_19 : decode cX6_setForbidden 19 = .ok (.aload_n 0, 1) := by decide +kernel
theorem dX6_setForbidden_20 : decode cX6_setForbidden 20 = .ok (.getfield 22, 3) := by decide +kernel
theorem dX6_setForbidden_23 : decode cX6_setForbidden 23 = .ok (.bipush 16, 2) := by decide +kernel
theorem dX6_setForbidden_25 : decode cX6_setForbidden 25 = .ok (.iload_n 1, 1) := by decide +kernel
theorem dX6_setForbidden_26 : decode cX6_setForbidden 26 = .ok (.imul, 1) := by decide +kernel
theorem dX6_setForbidden_27 : decode cX6_setForbidden 27 = .ok (.iload_n 2, 1) := by decide +kernel
theorem dX6_setForbidden_28 : decode cX6_setForbidden 28 = .ok (.iadd, 1) := by decide +kernel
theorem dX6_setForbidden_29 : decode cX6_setForbidden 29 = .ok (.baload, 1) := by decide +kernel
theorem dX6_setForbidden_30 : decode cX6_setForbidden 30 = .ok (.istore 4, 2) := by decide +kernel
theorem dX6_setForbidden_32 : decode cX6_setForbidden 32 = .ok (.aload_n 0, 1) := by decide +kernel
theorem dX6_setForbidden_33 : decode cX6_setForbidden 33 = .ok (.getfield 22, 3) := by decide +kernel
theorem dX6_setForbidden_36 : decode cX6_setForbidden 36 = .ok (.bipush 16, 2) := by decide +kernel
theorem dX6_setForbidden_38 : decode cX6_setForbidden 38 = .ok (.iload_n 1, 1) := by decide +kernel
theorem dX6_setForbidden_39 : decode cX6_setForbidden 39 = .ok (.imul, 1) := by decide +kernel
theorem dX6_setForbidden_40 : decode cX6_setForbidden 40 = .ok (.iload_n 2, 1) := by decide +kernel
theorem dX6_setForbidden_41 : decode cX6_setForbidden 41 = .ok (.iadd, 1) := by decide +kernel
theorem dX6_setForbidden_42 : decode cX6_setForbidden 42 = .ok (.iload_n 3, 1) := by decide +kernel
theorem dX6_setForbidden_43 : decode cX6_setForbidden 43 = .ok (.bastore, 1) := by decide +kernel
theorem dX6_setForbidden_44 : decode cX6_setForbidden 44 = .ok (.iload 4, 2) := by decide +kernel
theorem dX6_setForbidden_46 : decode cX6_setForbidden 46 = .ok (.ifCond .eq 7, 3) := by decide +kernel
theorem dX6_setForbidden_49 : decode cX6_setForbidden 49 = .ok (.iconst 1, 1) := by decide +kernel
theorem dX6_setForbidden_50 : decode cX6_setForbidden 50 = .ok (.goto 4, 3) := by decide +kernel
theorem dX6_setForbidden_53 : decode cX6_setForbidden 53 = .ok (.iconst 0, 1) := by decide +kernel
theorem dX6_setForbidden_54 : decode cX6_setForbidden 54 = .ok (.ireturn, 1) := by decide +kernel
theorem dX6_rightLevel_0 : decode cX6_rightLevel 0 = .ok (.aload_n 0, 1) := by decide +kernel
theorem dX6_rightLevel_1 : decode cX6_rightLevel 1 = .ok (.getfield 19, 3) := by decide +kernel
theorem dX6_rightLevel_4 : decode cX6_rightLevel 4 = .ok (.aload_n 0, 1) := by decide +kernel
theorem dX6_rightLevel_5 : decode cX6_rightLevel 5 = .ok (.getfield 16, 3) := by decide +kernel
theorem dX6_rightLevel_8 : decode cX6_rightLevel 8 = .ok (.iload_n 1, 1) := by decide +kernel
theorem dX6_rightLevel_9 : decode cX6_rightLevel 9 = .ok (.iaload, 1) := by decide +kernel
theorem dX6_rightLevel_10 : decode cX6_rightLevel 10 = .ok (.iaload, 1) := by decide +kernel
theorem dX6_rightLevel_11 : decode cX6_rightLevel 11 = .ok (.iconst 1, 1) := by decide +kernel
theorem dX6_rightLevel_12 : decode cX6_rightLevel 12 = .ok (.if_icmp .ne 12, 3) := by decide +kernel
theorem dX6_rightLevel_15 : decode cX6_rightLevel 15 = .ok (.aload_n 0, 1) := by decide +kernel
theorem dX6_rightLevel_16 : decode cX6_rightLevel 16 = .ok (.getfield 16, 3) := by decide +kernel
theorem dX6_rightLevel_19 : decode cX6_rightLevel 19 = .ok (.iload_n 1, 1) := by decide +kernel
theorem dX6_rightLevel_20 : decode cX6_rightLevel 20 = .ok (.iaload, 1) := by decide +kernel
theorem dX6_rightLevel_21 : decode cX6_rightLevel 21 = .ok (.goto 11, 3) := by decide +kernel
theorem dX6_rightLevel_24 : decode cX6_rightLevel 24 = .ok (.aload_n 0, 1) := by decide +kernel
theorem dX6_rightLevel_25 : decode cX6_rightLevel 25 = .ok (.getfield 16, 3) := by decide +kernel
theorem dX6_rightLevel_28 : decode cX6_rightLevel 28 = .ok (.iload_n 1, 1) := by decide +kernel
theorem dX6_rightLevel_29 : decode cX6_rightLevel 29 = .ok (.iaload, 1) := by decide +kernel
theorem dX6_rightLevel_30 : decode cX6_rightLevel 30 = .ok (.iconst 1, 1) := by decide +kernel
theorem dX6_rightLevel_31 : decode cX6_rightLevel 31 = .ok (.iadd, 1) := by decide +kernel
theorem dX6_rightLevel_32 : decode cX6_rightLevel 32 = .ok (.ireturn, 1) := by decide +kernel
theorem dX6_isClash_0 : decode cX6_isClash 0 = .ok (.iload_n 2, 1) := by decide +kernel
theorem dX6_isClash_1 : decode cX6_isClash 1 = .ok (.ifCond .lt 46, 3) := by decide +kernel
theorem dX6_isClash_4 : decode cX6_isClash 4 = .ok (.aload_n 0, 1) := by decide +kernel
theorem dX6_isClash_5 : decode cX6_isClash 5 = .ok (.getfield 13, 3) := by decide +kernel
theorem dX6_isClash_8 : decode cX6_isClash 8 = .ok (.iload_n 2, 1) := by decide +kernel
theorem dX6_isClash_9 : decode cX6_isClash 9 = .ok (.iaload, 1) := by decide +kernel
theorem dX6_isClash_10 : decode cX6_isClash 10 = .ok (.ifCond .ne 37, 3) := by decide +kernel
theorem dX6_isClash_13 : decode cX6_isClash 13 = .ok (.aload_n 0, 1) := by decide +kernel
theorem dX6_isClash_14 : decode cX6_isClash 14 = .ok (.getfield 16, 3) := by decide +kernel
theorem dX6_isClash_17 : decode cX6_isClash 17 = .ok (.iload_n 2, 1) := by decide +kernel
theorem dX6_isClash_18 : decode cX6_isClash 18 = .ok (.iaload, 1) := by decide +kernel
theorem dX6_isClash_19 : decode cX6_isClash 19 = .ok (.aload_n 0, 1) := by decide +kernel
theorem dX6_isClash_20 : decode cX6_isClash 20 = .ok (.getfield 16, 3) := by decide +kernel
theorem dX6_isClash_23 : decode cX6_isClash 23 = .ok (.iload_n 1, 1) := by decide +kernel
theorem dX6_isClash_24 : decode cX6_isClash 24 = .ok (.iaload, 1) := by decide +kernel
theorem dX6_isClash_25 : decode cX6_isClash 25 = .ok (.if_icmp .ne 22, 3) := by decide +kernel
theorem dX6_isClash_28 : decode cX6_isClash 28 = .ok (.aload_n 0, 1) := by decide +kernel
theorem dX6_isClash_29 : decode cX6_isClash 29 = .ok (.getfield 19, 3) := by decide +kernel
theorem dX6_isClash_32 : decode cX6_isClash 32 = .ok (.aload_n 0, 1) := by decide +kernel
theorem dX6_isClash_33 : decode cX6_isClash 33 = .ok (.getfield 16, 3) := by decide +kernel
theorem dX6_isClash_36 : decode cX6_isClash 36 = .ok (.iload_n 1, 1) := by decide +kernel
theorem dX6_isClash_37 : decode cX6_isClash 37 = .ok (.iaload, 1) := by decide +kernel
theorem dX6_isClash_38 : decode cX6_isClash 38 = .ok (.iaload, 1) := by decide +kernel
theorem dX6_isClash_39 : decode cX6_isClash 39 = .ok (.iconst 2, 1) := by decide +kernel
theorem dX6_isClash_40 : decode cX6_isClash 40 = .ok (.if_icmp .ne 7, 3) := by decide +kernel
theorem dX6_isClash_43 : decode cX6_isClash 43 = .ok (.iconst 1, 1) := by decide +kernel
theorem dX6_isClash_44 : decode cX6_isClash 44 = .ok (.goto 4, 3) := by decide +kernel
theorem dX6_isClash_47 : decode cX6_isClash 47 = .ok (.iconst 0, 1) := by decide +kernel
theorem dX6_isClash_48 : decode cX6_isClash 48 = .ok (.ireturn, 1) := by decide +kernel
theorem dX6_isBarred_0 : decode cX6_isBarred 0 = .ok (.iload_n 2, 1) := by decide +kernel
theorem dX6_isBarred_1 : decode cX6_isBarred 1 = .ok (.ifCond .lt 21, 3) := by decide +kernel
theorem dX6_isBarred_4 : decode cX6_isBarred 4 = .ok (.aload_n 0, 1) := by decide +kernel
theorem dX6_isBarred_5 : decode cX6_isBarred 5 = .ok (.getfield 22, 3) := by decide +kernel
theorem dX6_isBarred_8 : decode cX6_isBarred 8 = .ok (.bipush 16, 2) := by decide +kernel
theorem dX6_isBarred_10 : decode cX6_isBarred 10 = .ok (.iload_n 1, 1) := by decide +kernel
theorem dX6_isBarred_11 : decode cX6_isBarred 11 = .ok (.imul, 1) := by decide +kernel
theorem dX6_isBarred_12 : decode cX6_isBarred 12 = .ok (.iload_n 2, 1) := by decide +kernel
theorem dX6_isBarred_13 : decode cX6_isBarred 13 = .ok (.iadd, 1) := by decide +kernel
theorem dX6_isBarred_14 : decode cX6_isBarred 14 = .ok (.baload, 1) := by decide +kernel
theorem dX6_isBarred_15 : decode cX6_isBarred 15 = .ok (.ifCond .eq 7, 3) := by decide +kernel
theorem dX6_isBarred_18 : decode cX6_isBarred 18 = .ok (.iconst 1, 1) := by decide +kernel
theorem dX6_isBarred_19 : decode cX6_isBarred 19 = .ok (.goto 4, 3) := by decide +kernel
theorem dX6_isBarred_22 : decode cX6_isBarred 22 = .ok (.iconst 0, 1) := by decide +kernel
theorem dX6_isBarred_23 : decode cX6_isBarred 23 = .ok (.ireturn, 1) := by decide +kernel
theorem dX6_addNode_0 : decode cX6_addNode 0 = .ok (.aload_n 0, 1) := by decide +kernel
theorem dX6_addNode_1 : decode cX6_addNode 1 = .ok (.getfield 26, 3) := by decide +kernel
theorem dX6_addNode_4 : decode cX6_addNode 4 = .ok (.aload_n 0, 1) := by decide +kernel
theorem dX6_addNode_5 : decode cX6_addNode 5 = .ok (.getfield 94, 3) := by decide +kernel
theorem dX6_addNode_8 : decode cX6_addNode 8 = .ok (.iload_n 1, 1) := by decide +kernel
theorem dX6_addNode_9 : decode cX6_addNode 9 = .ok (.iastore, 1) := by decide +kernel
theorem dX6_addNode_10 : decode cX6_addNode 10 = .ok (.aload_n 0, 1) := by decide +kernel
theorem dX6_addNode_11 : decode cX6_addNode 11 = .ok (.getfield 29, 3) := by decide +kernel
theorem dX6_addNode_14 : decode cX6_addNode 14 = .ok (.aload_n 0, 1) := by decide +kernel
theorem dX6_addNode_15 : decode cX6_addNode 15 = .ok (.getfield 94, 3) := by decide +kernel
theorem dX6_addNode_18 : decode cX6_addNode 18 = .ok (.iload_n 2, 1) := by decide +kernel
theorem dX6_addNode_19 : decode cX6_addNode 19 = .ok (.iastore, 1) := by decide +kernel
theorem dX6_addNode_20 : decode cX6_addNode 20 = .ok (.aload_n 0, 1) := by decide +kernel
theorem dX6_addNode_21 : decode cX6_addNode 21 = .ok (.getfield 32, 3) := by decide +kernel
theorem dX6_addNode_24 : decode cX6_addNode 24 = .ok (.aload_n 0, 1) := by decide +kernel
theorem dX6_addNode_25 : decode cX6_addNode 25 = .ok (.getfield 94, 3) := by decide +kernel
theorem dX6_addNode_28 : decode cX6_addNode 28 = .ok (.iload_n 3, 1) := by decide +kernel
theorem dX6_addNode_29 : decode cX6_addNode 29 = .ok (.iastore, 1) := by decide +kernel
theorem dX6_addNode_30 : decode cX6_addNode 30 = .ok (.aload_n 0, 1) := by decide +kernel
theorem dX6_addNode_31 : decode cX6_addNode 31 = .ok (.getfield 35, 3) := by decide +kernel
theorem dX6_addNode_34 : decode cX6_addNode 34 = .ok (.aload_n 0, 1) := by decide +kernel
theorem dX6_addNode_35 : decode cX6_addNode 35 = .ok (.getfield 94, 3) := by decide +kernel
theorem dX6_addNode_38 : decode cX6_addNode 38 = .ok (.iload 4, 2) := by decide +kernel
theorem dX6_addNode_40 : decode cX6_addNode 40 = .ok (.iastore, 1) := by decide +kernel
theorem dX6_addNode_41 : decode cX6_addNode 41 = .ok (.aload_n 0, 1) := by decide +kernel
theorem dX6_addNode_42 : decode cX6_addNode 42 = .ok (.getfield 38, 3) := by decide +kernel
theorem dX6_addNode_45 : decode cX6_addNode 45 = .ok (.aload_n 0, 1) := by decide +kernel
theorem dX6_addNode_46 : decode cX6_addNode 46 = .ok (.getfield 94, 3) := by decide +kernel
theorem dX6_addNode_49 : decode cX6_addNode 49 = .ok (.iconst 1, 1) := by decide +kernel
theorem dX6_addNode_50 : decode cX6_addNode 50 = .ok (.iload_n 3, 1) := by decide +kernel
theorem dX6_addNode_51 : decode cX6_addNode 51 = .ok (.ifCond .lt 12, 3) := by decide +kernel
theorem dX6_addNode_54 : decode cX6_addNode 54 = .ok (.aload_n 0, 1) := by decide +kernel
theorem dX6_addNode_55 : decode cX6_addNode 55 = .ok (.getfield 38, 3) := by decide +kernel
theorem dX6_addNode_58 : decode cX6_addNode 58 = .ok (.iload_n 3, 1) := by decide +kernel
theorem dX6_addNode_59 : decode cX6_addNode 59 = .ok (.iaload, 1) := by decide +kernel
theorem dX6_addNode_60 : decode cX6_addNode 60 = .ok (.goto 4, 3) := by decide +kernel
theorem dX6_addNode_63 : decode cX6_addNode 63 = .ok (.iconst 0, 1) := by decide +kernel
theorem dX6_addNode_64 : decode cX6_addNode 64 = .ok (.iadd, 1) := by decide +kernel
theorem dX6_addNode_65 : decode cX6_addNode 65 = .ok (.iload 4, 2) := by decide +kernel
theorem dX6_addNode_67 : decode cX6_addNode 67 = .ok (.ifCond .lt 13, 3) := by decide +kernel
theorem dX6_addNode_70 : decode cX6_addNode 70 = .ok (.aload_n 0, 1) := by decide +kernel
theorem dX6_addNode_71 : decode cX6_addNode 71 = .ok (.getfield 38, 3) := by decide +kernel
theorem dX6_addNode_74 : decode cX6_addNode 74 = .ok (.iload 4, 2) := by decide +kernel
theorem dX6_addNode_76 : decode cX6_addNode 76 = .ok (.iaload, 1) := by decide +kernel
theorem dX6_addNode_77 : decode cX6_addNode 77 = .ok (.goto 4, 3) := by decide +kernel
theorem dX6_addNode_80 : decode cX6_addNode 80 = .ok (.iconst 0, 1) := by decide +kernel
theorem dX6_addNode_81 : decode cX6_addNode 81 = .ok (.iadd, 1) := by decide +kernel
theorem dX6_addNode_82 : decode cX6_addNode 82 = .ok (.iastore, 1) := by decide +kernel
theorem dX6_addNode_83 : decode cX6_addNode 83 = .ok (.aload_n 0, 1) := by decide +kernel
theorem dX6_addNode_84 : decode cX6_addNode 84 = .ok (.dup, 1) := by decide +kernel
theorem dX6_addNode_85 : decode cX6_addNode 85 = .ok (.getfield 94, 3) := by decide +kernel
theorem dX6_addNode_88 : decode cX6_addNode 88 = .ok (.iconst 1, 1) := by decide +kernel
theorem dX6_addNode_89 : decode cX6_addNode 89 = .ok (.iadd, 1) := by decide +kernel
theorem dX6_addNode_90 : decode cX6_addNode 90 = .ok (.putfield 94, 3) := by decide +kernel
theorem dX6_addNode_93 : decode cX6_addNode 93 = .ok (.aload_n 0, 1) := by decide +kernel
theorem dX6_addNode_94 : decode cX6_addNode 94 = .ok (.getfield 94, 3) := by decide +kernel
theorem dX6_addNode_97 : decode cX6_addNode 97 = .ok (.iconst 1, 1) := by decide +kernel
theorem dX6_addNode_98 : decode cX6_addNode 98 = .ok (.isub, 1) := by decide +kernel
theorem dX6_addNode_99 : decode cX6_addNode 99 = .ok (.ireturn, 1) := by decide +kernel
theorem dX6_leaf_0 : decode cX6_leaf 0 = .ok (.iload_n 1, 1) := by decide +kernel
theorem dX6_leaf_1 : decode cX6_leaf 1 = .ok (.invokestatic 97, 3) := by decide +kernel
theorem dX6_leaf_4 : decode cX6_leaf 4 = .ok (.ifCond .ne 6, 3) := by decide +kernel
theorem dX6_leaf_7 : decode cX6_leaf 7 = .ok (.bipush (-3), 2) := by decide +kernel
theorem dX6_leaf_9 : decode cX6_leaf 9 = .ok (.ireturn, 1) := by decide +kernel
theorem dX6_leaf_10 : decode cX6_leaf 10 = .ok (.aload_n 0, 1) := by decide +kernel
theorem dX6_leaf_11 : decode cX6_leaf 11 = .ok (.getfield 94, 3) := by decide +kernel
theorem dX6_leaf_14 : decode cX6_leaf 14 = .ok (.bipush 100, 2) := by decide +kernel
theorem dX6_leaf_16 : decode cX6_leaf 16 = .ok (.if_icmp .ne 8, 3) := by decide +kernel
theorem dX6_leaf_19 : decode cX6_leaf 19 = .ok (.bipush (-6), 2) := by decide +kernel
theorem dX6_leaf_21 : decode cX6_leaf 21 = .ok (.goto 14, 3) := by decide +kernel
theorem dX6_leaf_24 : decode cX6_leaf 24 = .ok (.aload_n 0, 1) := by decide +kernel
theorem dX6_leaf_25 : decode cX6_leaf 25 = .ok (.bipush (-10), 2) := by decide +kernel
theorem dX6_leaf_27 : decode cX6_leaf 27 = .ok (.iload_n 1, 1) := by decide +kernel
theorem dX6_leaf_28 : decode cX6_leaf 28 = .ok (.bipush (-10), 2) := by decide +kernel
theorem dX6_leaf_30 : decode cX6_leaf 30 = .ok (.bipush (-10), 2) := by decide +kernel
theorem dX6_leaf_32 : decode cX6_leaf 32 = .ok (.invokevirtual 112, 3) := by decide +kernel
theorem dX6_leaf_35 : decode cX6_leaf 35 = .ok (.ireturn, 1) := by decide +kernel
theorem dX6_unary_0 : decode cX6_unary 0 = .ok (.aload_n 0, 1) := by decide +kernel
theorem dX6_unary_1 : decode cX6_unary 1 = .ok (.iload_n 1, 1) := by decide +kernel
theorem dX6_unary_2 : decode cX6_unary 2 = .ok (.invokevirtual 109, 3) := by decide +kernel
theorem dX6_unary_5 : decode cX6_unary 5 = .ok (.ifCond .ne 6, 3) := by decide +kernel
theorem dX6_unary_8 : decode cX6_unary 8 = .ok (.bipush (-2), 2) := by decide +kernel
theorem dX6_unary_10 : decode cX6_unary 10 = .ok (.ireturn, 1) := by decide +kernel
theorem dX6_unary_11 : decode cX6_unary 11 = .ok (.aload_n 0, 1) := by decide +kernel
theorem dX6_unary_12 : decode cX6_unary 12 = .ok (.getfield 13, 3) := by decide +kernel
theorem dX6_unary_15 : decode cX6_unary 15 = .ok (.iload_n 1, 1) := by decide +kernel
theorem dX6_unary_16 : decode cX6_unary 16 = .ok (.iaload, 1) := by decide +kernel
theorem dX6_unary_17 : decode cX6_unary 17 = .ok (.ifCond .ne 6, 3) := by decide +kernel
theorem dX6_unary_20 : decode cX6_unary 20 = .ok (.bipush (-8), 2) := by decide +kernel
theorem dX6_unary_22 : decode cX6_unary 22 = .ok (.ireturn, 1) := by decide +kernel
theorem dX6_unary_23 : decode cX6_unary 23 = .ok (.aload_n 0, 1) := by decide +kernel
theorem dX6_unary_24 : decode cX6_unary 24 = .ok (.iload_n 2, 1) := by decide +kernel
theorem dX6_unary_25 : decode cX6_unary 25 = .ok (.invokevirtual 116, 3) := by decide +kernel
theorem dX6_unary_28 : decode cX6_unary 28 = .ok (.ifCond .ne 5, 3) := by decide +kernel
theorem dX6_unary_31 : decode cX6_unary 31 = .ok (.iconst (-1), 1) := by decide +kernel
theorem dX6_unary_32 : decode cX6_unary 32 = .ok (.ireturn, 1) := by decide +kernel
theorem dX6_unary_33 : decode cX6_unary 33 = .ok (.aload_n 0, 1) := by decide +kernel
theorem dX6_unary_34 : decode cX6_unary 34 = .ok (.getfield 38, 3) := by decide +kernel
theorem dX6_unary_37 : decode cX6_unary 37 = .ok (.iload_n 2, 1) := by decide +kernel
theorem dX6_unary_38 : decode cX6_unary 38 = .ok (.iaload, 1) := by decide +kernel
theorem dX6_unary_39 : decode cX6_unary 39 = .ok (.iconst 1, 1) := by decide +kernel
theorem dX6_unary_40 : decode cX6_unary 40 = .ok (.iadd, 1) := by decide +kernel
theorem dX6_unary_41 : decode cX6_unary 41 = .ok (.bipush 40, 2) := by decide +kernel
theorem dX6_unary_43 : decode cX6_unary 43 = .ok (.if_icmp .le 6, 3) := by decide +kernel
theorem dX6_unary_46 : decode cX6_unary 46 = .ok (.bipush (-7), 2) := by decide +kernel
theorem dX6_unary_48 : decode cX6_unary 48 = .ok (.ireturn, 1) := by decide +kernel
theorem dX6_unary_49 : decode cX6_unary 49 = .ok (.aload_n 0, 1) := by decide +kernel
theorem dX6_unary_50 : decode cX6_unary 50 = .ok (.getfield 94, 3) := by decide +kernel
theorem dX6_unary_53 : decode cX6_unary 53 = .ok (.bipush 100, 2) := by decide +kernel
theorem dX6_unary_55 : decode cX6_unary 55 = .ok (.if_icmp .ne 8, 3) := by decide +kernel
theorem dX6_unary_58 : decode cX6_unary 58 = .ok (.bipush (-6), 2) := by decide +kernel
theorem dX6_unary_60 : decode cX6_unary 60 = .ok (.goto 13, 3) := by decide +kernel
theorem dX6_unary_63 : decode cX6_unary 63 = .ok (.aload_n 0, 1) := by decide +kernel
theorem dX6_unary_64 : decode cX6_unary 64 = .ok (.iload_n 1, 1) := by decide +kernel
theorem dX6_unary_65 : decode cX6_unary 65 = .ok (.bipush (-10), 2) := by decide +kernel
theorem dX6_unary_67 : decode cX6_unary 67 = .ok (.iload_n 2, 1) := by decide +kernel
theorem dX6_unary_68 : decode cX6_unary 68 = .ok (.bipush (-10), 2) := by decide +kernel
theorem dX6_unary_70 : decode cX6_unary 70 = .ok (.invokevirtual 112, 3) := by decide +kernel
theorem dX6_unary_73 : decode cX6_unary 73 = .ok (.ireturn, 1) := by decide +kernel
theorem dX6_binary_0 : decode cX6_binary 0 = .ok (.aload_n 0, 1) := by decide +kernel
theorem dX6_binary_1 : decode cX6_binary 1 = .ok (.iload_n 1, 1) := by decide +kernel
theorem dX6_binary_2 : decode cX6_binary 2 = .ok (.invokevirtual 109, 3) := by decide +kernel
theorem dX6_binary_5 : decode cX6_binary 5 = .ok (.ifCond .ne 6, 3) := by decide +kernel
theorem dX6_binary_8 : decode cX6_binary 8 = .ok (.bipush (-2), 2) := by decide +kernel
theorem dX6_binary_10 : decode cX6_binary 10 = .ok (.ireturn, 1) := by decide +kernel
theorem dX6_binary_11 : decode cX6_binary 11 = .ok (.aload_n 0, 1) := by decide +kernel
theorem dX6_binary_12 : decode cX6_binary 12 = .ok (.getfield 13, 3) := by decide +kernel
theorem dX6_binary_15 : decode cX6_binary 15 = .ok (.iload_n 1, 1) := by decide +kernel
theorem dX6_binary_16 : decode cX6_binary 16 = .ok (.iaload, 1) := by decide +kernel
theorem dX6_binary_17 : decode cX6_binary 17 = .ok (.ifCond .eq 6, 3) := by decide +kernel
theorem dX6_binary_20 : decode cX6_binary 20 = .ok (.bipush (-8), 2) := by decide +kernel
theorem dX6_binary_22 : decode cX6_binary 22 = .ok (.ireturn, 1) := by decide +kernel
theorem dX6_binary_23 : decode cX6_binary 23 = .ok (.aload_n 0, 1) := by decide +kernel
theorem dX6_binary_24 : decode cX6_binary 24 = .ok (.iload_n 2, 1) := by decide +kernel
theorem dX6_binary_25 : decode cX6_binary 25 = .ok (.invokevirtual 116, 3) := by decide +kernel
theorem dX6_binary_28 : decode cX6_binary 28 = .ok (.ifCond .eq 11, 3) := by decide +kernel
theorem dX6_binary_31 : decode cX6_binary 31 = .ok (.aload_n 0, 1) := by decide +kernel
theorem dX6_binary_32 : decode cX6_binary 32 = .ok (.iload_n 3, 1) := by decide +kernel
theorem dX6_binary_33 : decode cX6_binary 33 = .ok (.invokevirtual 116, 3) := by decide +kernel
theorem dX6_binary_36 : decode cX6_binary 36 = .ok (.ifCond .ne 5, 3) := by decide +kernel
theorem dX6_binary_39 : decode cX6_binary 39 = .ok (.iconst (-1), 1) := by decide +kernel
theorem dX6_binary_40 : decode cX6_binary 40 = .ok (.ireturn, 1) := by decide +kernel
theorem dX6_binary_41 : decode cX6_binary 41 = .ok (.aload_n 0, 1) := by decide +kernel
theorem dX6_binary_42 : decode cX6_binary 42 = .ok (.getfield 38, 3) := by decide +kernel
theorem dX6_binary_45 : decode cX6_binary 45 = .ok (.iload_n 2, 1) := by decide +kernel
theorem dX6_binary_46 : decode cX6_binary 46 = .ok (.iaload, 1) := by decide +kernel
theorem dX6_binary_47 : decode cX6_binary 47 = .ok (.aload_n 0, 1) := by decide +kernel
theorem dX6_binary_48 : decode cX6_binary 48 = .ok (.getfield 38, 3) := by decide +kernel
theorem dX6_binary_51 : decode cX6_binary 51 = .ok (.iload_n 3, 1) := by decide +kernel
theorem dX6_binary_52 : decode cX6_binary 52 = .ok (.iaload, 1) := by decide +kernel
theorem dX6_binary_53 : decode cX6_binary 53 = .ok (.iadd, 1) := by decide +kernel
theorem dX6_binary_54 : decode cX6_binary 54 = .ok (.iconst 1, 1) := by decide +kernel
theorem dX6_binary_55 : decode cX6_binary 55 = .ok (.iadd, 1) := by decide +kernel
theorem dX6_binary_56 : decode cX6_binary 56 = .ok (.bipush 40, 2) := by decide +kernel
theorem dX6_binary_58 : decode cX6_binary 58 = .ok (.if_icmp .le 6, 3) := by decide +kernel
theorem dX6_binary_61 : decode cX6_binary 61 = .ok (.bipush (-7), 2) := by decide +kernel
theorem dX6_binary_63 : decode cX6_binary 63 = .ok (.ireturn, 1) := by decide +kernel
theorem dX6_binary_64 : decode cX6_binary 64 = .ok (.aload_n 0, 1) := by decide +kernel
theorem dX6_binary_65 : decode cX6_binary 65 = .ok (.getfield 94, 3) := by decide +kernel
theorem dX6_binary_68 : decode cX6_binary 68 = .ok (.bipush 100, 2) := by decide +kernel
theorem dX6_binary_70 : decode cX6_binary 70 = .ok (.if_icmp .ne 8, 3) := by decide +kernel
theorem dX6_binary_73 : decode cX6_binary 73 = .ok (.bipush (-6), 2) := by decide +kernel
theorem dX6_binary_75 : decode cX6_binary 75 = .ok (.goto 12, 3) := by decide +kernel
theorem dX6_binary_78 : decode cX6_binary 78 = .ok (.aload_n 0, 1) := by decide +kernel
theorem dX6_binary_79 : decode cX6_binary 79 = .ok (.iload_n 1, 1) := by decide +kernel
theorem dX6_binary_80 : decode cX6_binary 80 = .ok (.bipush (-10), 2) := by decide +kernel
theorem dX6_binary_82 : decode cX6_binary 82 = .ok (.iload_n 2, 1) := by decide +kernel
theorem dX6_binary_83 : decode cX6_binary 83 = .ok (.iload_n 3, 1) := by decide +kernel
theorem dX6_binary_84 : decode cX6_binary 84 = .ok (.invokevirtual 112, 3) := by decide +kernel
theorem dX6_binary_87 : decode cX6_binary 87 = .ok (.ireturn, 1) := by decide +kernel
theorem dX6_nodeCount_0 : decode cX6_nodeCount 0 = .ok (.aload_n 0, 1) := by decide +kernel
theorem dX6_nodeCount_1 : decode cX6_nodeCount 1 = .ok (.getfield 94, 3) := by decide +kernel
theorem dX6_nodeCount_4 : decode cX6_nodeCount 4 = .ok (.ireturn, 1) := by decide +kernel
theorem dX6_operatorOf_0 : decode cX6_operatorOf 0 = .ok (.aload_n 0, 1) := by decide +kernel
theorem dX6_operatorOf_1 : decode cX6_operatorOf 1 = .ok (.iload_n 1, 1) := by decide +kernel
theorem dX6_operatorOf_2 : decode cX6_operatorOf 2 = .ok (.invokevirtual 116, 3) := by decide +kernel
theorem dX6_operatorOf_5 : decode cX6_operatorOf 5 = .ok (.ifCond .eq 12, 3) := by decide +kernel
theorem dX6_operatorOf_8 : decode cX6_operatorOf 8 = .ok (.aload_n 0, 1) := by decide +kernel
theorem dX6_operatorOf_9 : decode cX6_operatorOf 9 = .ok (.getfield 26, 3) := by decide +kernel
theorem dX6_operatorOf_12 : decode cX6_operatorOf 12 = .ok (.iload_n 1, 1) := by decide +kernel
theorem dX6_operatorOf_13 : decode cX6_operatorOf 13 = .ok (.iaload, 1) := by decide +kernel
theorem dX6_operatorOf_14 : decode cX6_operatorOf 14 = .ok (.goto 4, 3) := by decide +kernel
theorem dX6_operatorOf_17 : decode cX6_operatorOf 17 = .ok (.iconst (-1), 1) := by decide +kernel
theorem dX6_operatorOf_18 : decode cX6_operatorOf 18 = .ok (.ireturn, 1) := by decide +kernel
theorem dX6_letterOf_0 : decode cX6_letterOf 0 = .ok (.aload_n 0, 1) := by decide +kernel
theorem dX6_letterOf_1 : decode cX6_letterOf 1 = .ok (.iload_n 1, 1) := by decide +kernel
theorem dX6_letterOf_2 : decode cX6_letterOf 2 = .ok (.invokevirtual 116, 3) := by decide +kernel
theorem dX6_letterOf_5 : decode cX6_letterOf 5 = .ok (.ifCond .eq 12, 3) := by decide +kernel
theorem dX6_letterOf_8 : decode cX6_letterOf 8 = .ok (.aload_n 0, 1) := by decide +kernel
theorem dX6_letterOf_9 : decode cX6_letterOf 9 = .ok (.getfield 29, 3) := by decide +kernel
theorem dX6_letterOf_12 : decode cX6_letterOf 12 = .ok (.iload_n 1, 1) := by decide +kernel
theorem dX6_letterOf_13 : decode cX6_letterOf 13 = .ok (.iaload, 1) := by decide +kernel
theorem dX6_letterOf_14 : decode cX6_letterOf 14 = .ok (.goto 4, 3) := by decide +kernel
theorem dX6_letterOf_17 : decode cX6_letterOf 17 = .ok (.iconst (-1), 1) := by decide +kernel
theorem dX6_letterOf_18 : decode cX6_letterOf 18 = .ok (.ireturn, 1) := by decide +kernel
theorem dX6_operand_0 : decode cX6_operand 0 = .ok (.aload_n 0, 1) := by decide +kernel
theorem dX6_operand_1 : decode cX6_operand 1 = .ok (.iload_n 1, 1) := by decide +kernel
theorem dX6_operand_2 : decode cX6_operand 2 = .ok (.invokevirtual 116, 3) := by decide +kernel
theorem dX6_operand_5 : decode cX6_operand 5 = .ok (.ifCond .ne 5, 3) := by decide +kernel
theorem dX6_operand_8 : decode cX6_operand 8 = .ok (.iconst (-1), 1) := by decide +kernel
theorem dX6_operand_9 : decode cX6_operand 9 = .ok (.ireturn, 1) := by decide +kernel
theorem dX6_operand_10 : decode cX6_operand 10 = .ok (.iload_n 2, 1) := by decide +kernel
theorem dX6_operand_11 : decode cX6_operand 11 = .ok (.ifCond .ne 12, 3) := by decide +kernel
theorem dX6_operand_14 : decode cX6_operand 14 = .ok (.aload_n 0, 1) := by decide +kernel
theorem dX6_operand_15 : decode cX6_operand 15 = .ok (.getfield 32, 3) := by decide +kernel
theorem dX6_operand_18 : decode cX6_operand 18 = .ok (.iload_n 1, 1) := by decide +kernel
theorem dX6_operand_19 : decode cX6_operand 19 = .ok (.iaload, 1) := by decide +kernel
theorem dX6_operand_20 : decode cX6_operand 20 = .ok (.goto 19, 3) := by decide +kernel
theorem dX6_operand_23 : decode cX6_operand 23 = .ok (.iload_n 2, 1) := by decide +kernel
theorem dX6_operand_24 : decode cX6_operand 24 = .ok (.iconst 1, 1) := by decide +kernel
theorem dX6_operand_25 : decode cX6_operand 25 = .ok (.if_icmp .ne 12, 3) := by decide +kernel
theorem dX6_operand_28 : decode cX6_operand 28 = .ok (.aload_n 0, 1) := by decide +kernel
theorem dX6_operand_29 : decode cX6_operand 29 = .ok (.getfield 35, 3) := by decide +kernel
theorem dX6_operand_32 : decode cX6_operand 32 = .ok (.iload_n 1, 1) := by decide +kernel
theorem dX6_operand_33 : decode cX6_operand 33 = .ok (.iaload, 1) := by decide +kernel
theorem dX6_operand_34 : decode cX6_operand 34 = .ok (.goto 5, 3) := by decide +kernel
theorem dX6_operand_37 : decode cX6_operand 37 = .ok (.bipush (-10), 2) := by decide +kernel
theorem dX6_operand_39 : decode cX6_operand 39 = .ok (.ireturn, 1) := by decide +kernel
theorem dX6_size_0 : decode cX6_size 0 = .ok (.aload_n 0, 1) := by decide +kernel
theorem dX6_size_1 : decode cX6_size 1 = .ok (.iload_n 1, 1) := by decide +kernel
theorem dX6_size_2 : decode cX6_size 2 = .ok (.invokevirtual 116, 3) := by decide +kernel
theorem dX6_size_5 : decode cX6_size 5 = .ok (.ifCond .eq 12, 3) := by decide +kernel
theorem dX6_size_8 : decode cX6_size 8 = .ok (.aload_n 0, 1) := by decide +kernel
theorem dX6_size_9 : decode cX6_size 9 = .ok (.getfield 38, 3) := by decide +kernel
theorem dX6_size_12 : decode cX6_size 12 = .ok (.iload_n 1, 1) := by decide +kernel
theorem dX6_size_13 : decode cX6_size 13 = .ok (.iaload, 1) := by decide +kernel
theorem dX6_size_14 : decode cX6_size 14 = .ok (.goto 4, 3) := by decide +kernel
theorem dX6_size_17 : decode cX6_size 17 = .ok (.iconst (-1), 1) := by decide +kernel
theorem dX6_size_18 : decode cX6_size 18 = .ok (.ireturn, 1) := by decide +kernel
theorem dX6_areEqual_0 : decode cX6_areEqual 0 = .ok (.aload_n 0, 1) := by decide +kernel
theorem dX6_areEqual_1 : decode cX6_areEqual 1 = .ok (.iload_n 1, 1) := by decide +kernel
theorem dX6_areEqual_2 : decode cX6_areEqual 2 = .ok (.invokevirtual 116, 3) := by decide +kernel
theorem dX6_areEqual_5 : decode cX6_areEqual 5 = .ok (.ifCond .eq 11, 3) := by decide +kernel
theorem dX6_areEqual_8 : decode cX6_areEqual 8 = .ok (.aload_n 0, 1) := by decide +kernel
theorem dX6_areEqual_9 : decode cX6_areEqual 9 = .ok (.iload_n 2, 1) := by decide +kernel
theorem dX6_areEqual_10 : decode cX6_areEqual 10 = .ok (.invokevirtual 116, 3) := by decide +kernel
theorem dX6_areEqual_13 : decode cX6_areEqual 13 = .ok (.ifCond .ne 5, 3) := by decide +kernel
theorem dX6_areEqual_16 : decode cX6_areEqual 16 = .ok (.iconst (-1), 1) := by decide +kernel
theorem dX6_areEqual_17 : decode cX6_areEqual 17 = .ok (.ireturn, 1) := by decide +kernel
theorem dX6_areEqual_18 : decode cX6_areEqual 18 = .ok (.iconst 1, 1) := by decide +kernel
theorem dX6_areEqual_19 : decode cX6_areEqual 19 = .ok (.istore_n 3, 1) := by decide +kernel
theorem dX6_areEqual_20 : decode cX6_areEqual 20 = .ok (.aload_n 0, 1) := by decide +kernel
theorem dX6_areEqual_21 : decode cX6_areEqual 21 = .ok (.getfield 57, 3) := by decide +kernel
theorem dX6_areEqual_24 : decode cX6_areEqual 24 = .ok (.iconst 0, 1) := by decide +kernel
theorem dX6_areEqual_25 : decode cX6_areEqual 25 = .ok (.iload_n 1, 1) := by decide +kernel
theorem dX6_areEqual_26 : decode cX6_areEqual 26 = .ok (.iastore, 1) := by decide +kernel
theorem dX6_areEqual_27 : decode cX6_areEqual 27 = .ok (.aload_n 0, 1) := by decide +kernel
theorem dX6_areEqual_28 : decode cX6_areEqual 28 = .ok (.getfield 60, 3) := by decide +kernel
theorem dX6_areEqual_31 : decode cX6_areEqual 31 = .ok (.iconst 0, 1) := by decide +kernel
theorem dX6_areEqual_32 : decode cX6_areEqual 32 = .ok (.iload_n 2, 1) := by decide +kernel
theorem dX6_areEqual_33 : decode cX6_areEqual 33 = .ok (.iastore, 1) := by decide +kernel
theorem dX6_areEqual_34 : decode cX6_areEqual 34 = .ok (.iload_n 3, 1) := by decide +kernel
theorem dX6_areEqual_35 : decode cX6_areEqual 35 = .ok (.ifCond .le 139, 3) := by decide +kernel
theorem dX6_areEqual_38 : decode cX6_areEqual 38 = .ok (.iinc 3 (-1), 3) := by decide +kernel
theorem dX6_areEqual_41 : decode cX6_areEqual 41 = .ok (.aload_n 0, 1) := by decide +kernel
theorem dX6_areEqual_42 : decode cX6_areEqual 42 = .ok (.getfield 57, 3) := by decide +kernel
theorem dX6_areEqual_45 : decode cX6_areEqual 45 = .ok (.iload_n 3, 1) := by decide +kernel
theorem dX6_areEqual_46 : decode cX6_areEqual 46 = .ok (.iaload, 1) := by decide +kernel
theorem dX6_areEqual_47 : decode cX6_areEqual 47 = .ok (.istore 4, 2) := by decide +kernel
theorem dX6_areEqual_49 : decode cX6_areEqual 49 = .ok (.aload_n 0, 1) := by decide +kernel
theorem dX6_areEqual_50 : decode cX6_areEqual 50 = .ok (.getfield 60, 3) := by decide +kernel
theorem dX6_areEqual_53 : decode cX6_areEqual 53 = .ok (.iload_n 3, 1) := by decide +kernel
theorem dX6_areEqual_54 : decode cX6_areEqual 54 = .ok (.iaload, 1) := by decide +kernel
theorem dX6_areEqual_55 : decode cX6_areEqual 55 = .ok (.istore 5, 2) := by decide +kernel
theorem dX6_areEqual_57 : decode cX6_areEqual 57 = .ok (.aload_n 0, 1) := by decide +kernel
theorem dX6_areEqual_58 : decode cX6_areEqual 58 = .ok (.getfield 26, 3) := by decide +kernel
theorem dX6_areEqual_61 : decode cX6_areEqual 61 = .ok (.iload 4, 2) := by decide +kernel
theorem dX6_areEqual_63 : decode cX6_areEqual 63 = .ok (.iaload, 1) := by decide +kernel
theorem dX6_areEqual_64 : decode cX6_areEqual 64 = .ok (.aload_n 0, 1) := by decide +kernel
theorem dX6_areEqual_65 : decode cX6_areEqual 65 = .ok (.getfield 26, 3) := by decide +kernel
theorem dX6_areEqual_68 : decode cX6_areEqual 68 = .ok (.iload 5, 2) := by decide +kernel
theorem dX6_areEqual_70 : decode cX6_areEqual 70 = .ok (.iaload, 1) := by decide +kernel
theorem dX6_areEqual_71 : decode cX6_areEqual 71 = .ok (.if_icmp .ne 20, 3) := by decide +kernel
theorem dX6_areEqual_74 : decode cX6_areEqual 74 = .ok (.aload_n 0, 1) := by decide +kernel
theorem dX6_areEqual_75 : decode cX6_areEqual 75 = .ok (.getfield 29, 3) := by decide +kernel
theorem dX6_areEqual_78 : decode cX6_areEqual 78 = .ok (.iload 4, 2) := by decide +kernel
theorem dX6_areEqual_80 : decode cX6_areEqual 80 = .ok (.iaload, 1) := by decide +kernel
theorem dX6_areEqual_81 : decode cX6_areEqual 81 = .ok (.aload_n 0, 1) := by decide +kernel
theorem dX6_areEqual_82 : decode cX6_areEqual 82 = .ok (.getfield 29, 3) := by decide +kernel
theorem dX6_areEqual_85 : decode cX6_areEqual 85 = .ok (.iload 5, 2) := by decide +kernel
theorem dX6_areEqual_87 : decode cX6_areEqual 87 = .ok (.iaload, 1) := by decide +kernel
theorem dX6_areEqual_88 : decode cX6_areEqual 88 = .ok (.if_icmp .eq 5, 3) := by decide +kernel
theorem dX6_areEqual_91 : decode cX6_areEqual 91 = .ok (.iconst 0, 1) := by decide +kernel
theorem dX6_areEqual_92 : decode cX6_areEqual 92 = .ok (.ireturn, 1) := by decide +kernel
theorem dX6_areEqual_93 : decode cX6_areEqual 93 = .ok (.aload_n 0, 1) := by decide +kernel
theorem dX6_areEqual_94 : decode cX6_areEqual 94 = .ok (.getfield 32, 3) := by decide +kernel
theorem dX6_areEqual_97 : decode cX6_areEqual 97 = .ok (.iload 4, 2) := by decide +kernel
theorem dX6_areEqual_99 : decode cX6_areEqual 99 = .ok (.iaload, 1) := by decide +kernel
theorem dX6_areEqual_100 : decode cX6_areEqual 100 = .ok (.ifCond .lt 32, 3) := by decide +kernel
theorem dX6_areEqual_103 : decode cX6_areEqual 103 = .ok (.aload_n 0, 1) := by decide +kernel
theorem dX6_areEqual_104 : decode cX6_areEqual 104 = .ok (.getfield 57, 3) := by decide +kernel
theorem dX6_areEqual_107 : decode cX6_areEqual 107 = .ok (.iload_n 3, 1) := by decide +kernel
theorem dX6_areEqual_108 : decode cX6_areEqual 108 = .ok (.aload_n 0, 1) := by decide +kernel
theorem dX6_areEqual_109 : decode cX6_areEqual 109 = .ok (.getfield 32, 3) := by decide +kernel
theorem dX6_areEqual_112 : decode cX6_areEqual 112 = .ok (.iload 4, 2) := by decide +kernel
theorem dX6_areEqual_114 : decode cX6_areEqual 114 = .ok (.iaload, 1) := by decide +kernel
theorem dX6_areEqual_115 : decode cX6_areEqual 115 = .ok (.iastore, 1) := by decide +kernel
theorem dX6_areEqual_116 : decode cX6_areEqual 116 = .ok (.aload_n 0, 1) := by decide +kernel
theorem dX6_areEqual_117 : decode cX6_areEqual 117 = .ok (.getfield 60, 3) := by decide +kernel
theorem dX6_areEqual_120 : decode cX6_areEqual 120 = .ok (.iload_n 3, 1) := by decide +kernel
theorem dX6_areEqual_121 : decode cX6_areEqual 121 = .ok (.aload_n 0, 1) := by decide +kernel
theorem dX6_areEqual_122 : decode cX6_areEqual 122 = .ok (.getfield 32, 3) := by decide +kernel
theorem dX6_areEqual_125 : decode cX6_areEqual 125 = .ok (.iload 5, 2) := by decide +kernel
theorem dX6_areEqual_127 : decode cX6_areEqual 127 = .ok (.iaload, 1) := by decide +kernel
theorem dX6_areEqual_128 : decode cX6_areEqual 128 = .ok (.iastore, 1) := by decide +kernel
theorem dX6_areEqual_129 : decode cX6_areEqual 129 = .ok (.iinc 3 1, 3) := by decide +kernel
theorem dX6_areEqual_132 : decode cX6_areEqual 132 = .ok (.aload_n 0, 1) := by decide +kernel
theorem dX6_areEqual_133 : decode cX6_areEqual 133 = .ok (.getfield 35, 3) := by decide +kernel
theorem dX6_areEqual_136 : decode cX6_areEqual 136 = .ok (.iload 4, 2) := by decide +kernel
theorem dX6_areEqual_138 : decode cX6_areEqual 138 = .ok (.iaload, 1) := by decide +kernel
theorem dX6_areEqual_139 : decode cX6_areEqual 139 = .ok (.ifCond .lt 32, 3) := by decide +kernel
theorem dX6_areEqual_142 : decode cX6_areEqual 142 = .ok (.aload_n 0, 1) := by decide +kernel
theorem dX6_areEqual_143 : decode cX6_areEqual 143 = .ok (.getfield 57, 3) := by decide +kernel
theorem dX6_areEqual_146 : decode cX6_areEqual 146 = .ok (.iload_n 3, 1) := by decide +kernel
theorem dX6_areEqual_147 : decode cX6_areEqual 147 = .ok (.aload_n 0, 1) := by decide +kernel
theorem dX6_areEqual_148 : decode cX6_areEqual 148 = .ok (.getfield 35, 3) := by decide +kernel
theorem dX6_areEqual_151 : decode cX6_areEqual 151 = .ok (.iload 4, 2) := by decide +kernel
theorem dX6_areEqual_153 : decode cX6_areEqual 153 = .ok (.iaload, 1) := by decide +kernel
theorem dX6_areEqual_154 : decode cX6_areEqual 154 = .ok (.iastore, 1) := by decide +kernel
theorem dX6_areEqual_155 : decode cX6_areEqual 155 = .ok (.aload_n 0, 1) := by decide +kernel
theorem dX6_areEqual_156 : decode cX6_areEqual 156 = .ok (.getfield 60, 3) := by decide +kernel
theorem dX6_areEqual_159 : decode cX6_areEqual 159 = .ok (.iload_n 3, 1) := by decide +kernel
theorem dX6_areEqual_160 : decode cX6_areEqual 160 = .ok (.aload_n 0, 1) := by decide +kernel
theorem dX6_areEqual_161 : decode cX6_areEqual 161 = .ok (.getfield 35, 3) := by decide +kernel
theorem dX6_areEqual_164 : decode cX6_areEqual 164 = .ok (.iload 5, 2) := by decide +kernel
theorem dX6_areEqual_166 : decode cX6_areEqual 166 = .ok (.iaload, 1) := by decide +kernel
theorem dX6_areEqual_167 : decode cX6_areEqual 167 = .ok (.iastore, 1) := by decide +kernel
theorem dX6_areEqual_168 : decode cX6_areEqual 168 = .ok (.iinc 3 1, 3) := by decide +kernel
theorem dX6_areEqual_171 : decode cX6_areEqual 171 = .ok (.goto (-137), 3) := by decide +kernel
theorem dX6_areEqual_174 : decode cX6_areEqual 174 = .ok (.iconst 1, 1) := by decide +kernel
theorem dX6_areEqual_175 : decode cX6_areEqual 175 = .ok (.ireturn, 1) := by decide +kernel
theorem dX6_cell_0 : decode cX6_cell 0 = .ok (.bipush 121, 2) := by decide +kernel
theorem dX6_cell_2 : decode cX6_cell 2 = .ok (.iload_n 0, 1) := by decide +kernel
theorem dX6_cell_3 : decode cX6_cell 3 = .ok (.imul, 1) := by decide +kernel
theorem dX6_cell_4 : decode cX6_cell 4 = .ok (.bipush 11, 2) := by decide +kernel
theorem dX6_cell_6 : decode cX6_cell 6 = .ok (.iload_n 1, 1) := by decide +kernel
theorem dX6_cell_7 : decode cX6_cell 7 = .ok (.imul, 1) := by decide +kernel
theorem dX6_cell_8 : decode cX6_cell 8 = .ok (.iadd, 1) := by decide +kernel
theorem dX6_cell_9 : decode cX6_cell 9 = .ok (.iload_n 2, 1) := by decide +kernel
theorem dX6_cell_10 : decode cX6_cell 10 = .ok (.iadd, 1) := by decide +kernel
theorem dX6_cell_11 : decode cX6_cell 11 = .ok (.ireturn, 1) := by decide +kernel
theorem dX6_mayBeBare_0 : decode cX6_mayBeBare 0 = .ok (.aload_n 0, 1) := by decide +kernel
theorem dX6_mayBeBare_1 : decode cX6_mayBeBare 1 = .ok (.getfield 26, 3) := by decide +kernel
theorem dX6_mayBeBare_4 : decode cX6_mayBeBare 4 = .ok (.iload_n 2, 1) := by decide +kernel
theorem dX6_mayBeBare_5 : decode cX6_mayBeBare 5 = .ok (.iaload, 1) := by decide +kernel
theorem dX6_mayBeBare_6 : decode cX6_mayBeBare 6 = .ok (.istore 4, 2) := by decide +kernel
theorem dX6_mayBeBare_8 : decode cX6_mayBeBare 8 = .ok (.aload_n 0, 1) := by decide +kernel
theorem dX6_mayBeBare_9 : decode cX6_mayBeBare 9 = .ok (.iload_n 1, 1) := by decide +kernel
theorem dX6_mayBeBare_10 : decode cX6_mayBeBare 10 = .ok (.iload 4, 2) := by decide +kernel
theorem dX6_mayBeBare_12 : decode cX6_mayBeBare 12 = .ok (.invokevirtual 119, 3) := by decide +kernel
theorem dX6_mayBeBare_15 : decode cX6_mayBeBare 15 = .ok (.ifCond .ne 30, 3) := by decide +kernel
theorem dX6_mayBeBare_18 : decode cX6_mayBeBare 18 = .ok (.iload_n 3, 1) := by decide +kernel
theorem dX6_mayBeBare_19 : decode cX6_mayBeBare 19 = .ok (.ifCond .eq 22, 3) := by decide +kernel
theorem dX6_mayBeBare_22 : decode cX6_mayBeBare 22 = .ok (.aload_n 0, 1) := by decide +kernel
theorem dX6_mayBeBare_23 : decode cX6_mayBeBare 23 = .ok (.getfield 13, 3) := by decide +kernel
theorem dX6_mayBeBare_26 : decode cX6_mayBeBare 26 = .ok (.iload_n 1, 1) := by decide +kernel
theorem dX6_mayBeBare_27 : decode cX6_mayBeBare 27 = .ok (.iaload, 1) := by decide +kernel
theorem dX6_mayBeBare_28 : decode cX6_mayBeBare 28 = .ok (.ifCond .ne 13, 3) := by decide +kernel
theorem dX6_mayBeBare_31 : decode cX6_mayBeBare 31 = .ok (.aload_n 0, 1) := by decide +kernel
theorem dX6_mayBeBare_32 : decode cX6_mayBeBare 32 = .ok (.iload_n 1, 1) := by decide +kernel
theorem dX6_mayBeBare_33 : decode cX6_mayBeBare 33 = .ok (.iload 4, 2) := by decide +kernel
theorem dX6_mayBeBare_35 : decode cX6_mayBeBare 35 = .ok (.invokevirtual 123, 3) := by decide +kernel
theorem dX6_mayBeBare_38 : decode cX6_mayBeBare 38 = .ok (.ifCond .ne 7, 3) := by decide +kernel
theorem dX6_mayBeBare_41 : decode cX6_mayBeBare 41 = .ok (.iconst 1, 1) := by decide +kernel
theorem dX6_mayBeBare_42 : decode cX6_mayBeBare 42 = .ok (.goto 4, 3) := by decide +kernel
theorem dX6_mayBeBare_45 : decode cX6_mayBeBare 45 = .ok (.iconst 0, 1) := by decide +kernel
theorem dX6_mayBeBare_46 : decode cX6_mayBeBare 46 = .ok (.ireturn, 1) := by decide +kernel
theorem dX6_bareCost_0 : decode cX6_bareCost 0 = .ok (.aload_n 0, 1) := by decide +kernel
theorem dX6_bareCost_1 : decode cX6_bareCost 1 = .ok (.iload_n 1, 1) := by decide +kernel
theorem dX6_bareCost_2 : decode cX6_bareCost 2 = .ok (.iload_n 2, 1) := by decide +kernel
theorem dX6_bareCost_3 : decode cX6_bareCost 3 = .ok (.iload 5, 2) := by decide +kernel
theorem dX6_bareCost_5 : decode cX6_bareCost 5 = .ok (.invokevirtual 126, 3) := by decide +kernel
theorem dX6_bareCost_8 : decode cX6_bareCost 8 = .ok (.ifCond .eq 18, 3) := by decide +kernel
theorem dX6_bareCost_11 : decode cX6_bareCost 11 = .ok (.aload_n 0, 1) := by decide +kernel
theorem dX6_bareCost_12 : decode cX6_bareCost 12 = .ok (.getfield 63, 3) := by decide +kernel
theorem dX6_bareCost_15 : decode cX6_bareCost 15 = .ok (.iload_n 2, 1) := by decide +kernel
theorem dX6_bareCost_16 : decode cX6_bareCost 16 = .ok (.iload_n 3, 1) := by decide +kernel
theorem dX6_bareCost_17 : decode cX6_bareCost 17 = .ok (.iload 4, 2) := by decide +kernel
theorem dX6_bareCost_19 : decode cX6_bareCost 19 = .ok (.invokestatic 130, 3) := by decide +kernel
theorem dX6_bareCost_22 : decode cX6_bareCost 22 = .ok (.iaload, 1) := by decide +kernel
theorem dX6_bareCost_23 : decode cX6_bareCost 23 = .ok (.goto 6, 3) := by decide +kernel
theorem dX6_bareCost_26 : decode cX6_bareCost 26 = .ok (.sipush 1000, 3) := by decide +kernel
theorem dX6_bareCost_29 : decode cX6_bareCost 29 = .ok (.ireturn, 1) := by decide +kernel
theorem dX6_operandCost_0 : decode cX6_operandCost 0 = .ok (.aload_n 0, 1) := by decide +kernel
theorem dX6_operandCost_1 : decode cX6_operandCost 1 = .ok (.getfield 26, 3) := by decide +kernel
theorem dX6_operandCost_4 : decode cX6_operandCost 4 = .ok (.iload_n 2, 1) := by decide +kernel
theorem dX6_operandCost_5 : decode cX6_operandCost 5 = .ok (.iaload, 1) := by decide +kernel
theorem dX6_operandCost_6 : decode cX6_operandCost 6 = .ok (.ifCond .ge 5, 3) := by decide +kernel
theorem dX6_operandCost_9 : decode cX6_operandCost 9 = .ok (.iconst 0, 1) := by decide +kernel
theorem dX6_operandCost_10 : decode cX6_operandCost 10 = .ok (.ireturn, 1) := by decide +kernel
theorem dX6_operandCost_11 : decode cX6_operandCost 11 = .ok (.aload_n 0, 1) := by decide +kernel
theorem dX6_operandCost_12 : decode cX6_operandCost 12 = .ok (.iload_n 1, 1) := by decide +kernel
theorem dX6_operandCost_13 : decode cX6_operandCost 13 = .ok (.iload_n 2, 1) := by decide +kernel
theorem dX6_operandCost_14 : decode cX6_operandCost 14 = .ok (.iload_n 3, 1) := by decide +kernel
theorem dX6_operandCost_15 : decode cX6_operandCost 15 = .ok (.iload 4, 2) := by decide +kernel
theorem dX6_operandCost_17 : decode cX6_operandCost 17 = .ok (.iload 5, 2) := by decide +kernel
theorem dX6_operandCost_19 : decode cX6_operandCost 19 = .ok (.invokevirtual 133, 3) := by decide +kernel
theorem dX6_operandCost_22 : decode cX6_operandCost 22 = .ok (.istore 6, 2) := by decide +kernel
theorem dX6_operandCost_24 : decode cX6_operandCost 24 = .ok (.iconst 1, 1) := by decide +kernel
theorem dX6_operandCost_25 : decode cX6_operandCost 25 = .ok (.aload_n 0, 1) := by decide +kernel
theorem dX6_operandCost_26 : decode cX6_operandCost 26 = .ok (.getfield 63, 3) := by decide +kernel
theorem dX6_operandCost_29 : decode cX6_operandCost 29 = .ok (.iload_n 2, 1) := by decide +kernel
theorem dX6_operandCost_30 : decode cX6_operandCost 30 = .ok (.iconst 0, 1) := by decide +kernel
theorem dX6_operandCost_31 : decode cX6_operandCost 31 = .ok (.iconst 0, 1) := by decide +kernel
theorem dX6_operandCost_32 : decode cX6_operandCost 32 = .ok (.invokestatic 130, 3) := by decide +kernel
theorem dX6_operandCost_35 : decode cX6_operandCost 35 = .ok (.iaload, 1) := by decide +kernel
theorem dX6_operandCost_36 : decode cX6_operandCost 36 = .ok (.iadd, 1) := by decide +kernel
theorem dX6_operandCost_37 : decode cX6_operandCost 37 = .ok (.istore 7, 2) := by decide +kernel
theorem dX6_operandCost_39 : decode cX6_operandCost 39 = .ok (.iload 6, 2) := by decide +kernel
theorem dX6_operandCost_41 : decode cX6_operandCost 41 = .ok (.iload 7, 2) := by decide +kernel
theorem dX6_operandCost_43 : decode cX6_operandCost 43 = .ok (.if_icmp .ge 8, 3) := by decide +kernel
theorem dX6_operandCost_46 : decode cX6_operandCost 46 = .ok (.iload 6, 2) := by decide +kernel
theorem dX6_operandCost_48 : decode cX6_operandCost 48 = .ok (.goto 5, 3) := by decide +kernel
theorem dX6_operandCost_51 : decode cX6_operandCost 51 = .ok (.iload 7, 2) := by decide +kernel
theorem dX6_operandCost_53 : decode cX6_operandCost 53 = .ok (.ireturn, 1) := by decide +kernel
theorem dX6_costOf_0 : decode cX6_costOf 0 = .ok (.aload_n 0, 1) := by decide +kernel
theorem dX6_costOf_1 : decode cX6_costOf 1 = .ok (.getfield 26, 3) := by decide +kernel
theorem dX6_costOf_4 : decode cX6_costOf 4 = .ok (.iload_n 1, 1) := by decide +kernel
theorem dX6_costOf_5 : decode cX6_costOf 5 = .ok (.iaload, 1) := by decide +kernel
theorem dX6_costOf_6 : decode cX6_costOf 6 = .ok (.istore 4, 2) := by decide +kernel
theorem dX6_costOf_8 : decode cX6_costOf 8 = .ok (.iload 4, 2) := by decide +kernel
theorem dX6_costOf_10 : decode cX6_costOf 10 = .ok (.ifCond .ge 5, 3) := by decide +kernel
theorem dX6_costOf_13 : decode cX6_costOf 13 = .ok (.iconst 0, 1) := by decide +kernel
theorem dX6_costOf_14 : decode cX6_costOf 14 = .ok (.ireturn, 1) := by decide +kernel
theorem dX6_costOf_15 : decode cX6_costOf 15 = .ok (.aload_n 0, 1) := by decide +kernel
theorem dX6_costOf_16 : decode cX6_costOf 16 = .ok (.getfield 13, 3) := by decide +kernel
theorem dX6_costOf_19 : decode cX6_costOf 19 = .ok (.iload 4, 2) := by decide +kernel
theorem dX6_costOf_21 : decode cX6_costOf 21 = .ok (.iaload, 1) := by decide +kernel
theorem dX6_costOf_22 : decode cX6_costOf 22 = .ok (.iconst 1, 1) := by decide +kernel
theorem dX6_costOf_23 : decode cX6_costOf 23 = .ok (.if_icmp .ne 42, 3) := by decide +kernel
theorem dX6_costOf_26 : decode cX6_costOf 26 = .ok (.iload_n 3, 1) := by decide +kernel
theorem dX6_costOf_27 : decode cX6_costOf 27 = .ok (.aload_n 0, 1) := by decide +kernel
theorem dX6_costOf_28 : decode cX6_costOf 28 = .ok (.getfield 16, 3) := by decide +kernel
theorem dX6_costOf_31 : decode cX6_costOf 31 = .ok (.iload 4, 2) := by decide +kernel
theorem dX6_costOf_33 : decode cX6_costOf 33 = .ok (.iaload, 1) := by decide +kernel
theorem dX6_costOf_34 : decode cX6_costOf 34 = .ok (.if_icmp .lt 9, 3) := by decide +kernel
theorem dX6_costOf_37 : decode cX6_costOf 37 = .ok (.sipush 1000, 3) := by decide +kernel
theorem dX6_costOf_40 : decode cX6_costOf 40 = .ok (.goto 24, 3) := by decide +kernel
theorem dX6_costOf_43 : decode cX6_costOf 43 = .ok (.aload_n 0, 1) := by decide +kernel
theorem dX6_costOf_44 : decode cX6_costOf 44 = .ok (.iload 4, 2) := by decide +kernel
theorem dX6_costOf_46 : decode cX6_costOf 46 = .ok (.aload_n 0, 1) := by decide +kernel
theorem dX6_costOf_47 : decode cX6_costOf 47 = .ok (.getfield 32, 3) := by decide +kernel
theorem dX6_costOf_50 : decode cX6_costOf 50 = .ok (.iload_n 1, 1) := by decide +kernel
theorem dX6_costOf_51 : decode cX6_costOf 51 = .ok (.iaload, 1) := by decide +kernel
theorem dX6_costOf_52 : decode cX6_costOf 52 = .ok (.aload_n 0, 1) := by decide +kernel
theorem dX6_costOf_53 : decode cX6_costOf 53 = .ok (.getfield 16, 3) := by decide +kernel
theorem dX6_costOf_56 : decode cX6_costOf 56 = .ok (.iload 4, 2) := by decide +kernel
theorem dX6_costOf_58 : decode cX6_costOf 58 = .ok (.iaload, 1) := by decide +kernel
theorem dX6_costOf_59 : decode cX6_costOf 59 = .ok (.iload_n 3, 1) := by decide +kernel
theorem dX6_costOf_60 : decode cX6_costOf 60 = .ok (.iconst 0, 1) := by decide +kernel
theorem dX6_costOf_61 : decode cX6_costOf 61 = .ok (.invokevirtual 137, 3) := by decide +kernel
theorem dX6_costOf_64 : decode cX6_costOf 64 = .ok (.ireturn, 1) := by decide +kernel
theorem dX6_costOf_65 : decode cX6_costOf 65 = .ok (.aload_n 0, 1) := by decide +kernel
theorem dX6_costOf_66 : decode cX6_costOf 66 = .ok (.getfield 16, 3) := by decide +kernel
theorem dX6_costOf_69 : decode cX6_costOf 69 = .ok (.iload 4, 2) := by decide +kernel
theorem dX6_costOf_71 : decode cX6_costOf 71 = .ok (.iaload, 1) := by decide +kernel
theorem dX6_costOf_72 : decode cX6_costOf 72 = .ok (.iload_n 2, 1) := by decide +kernel
theorem dX6_costOf_73 : decode cX6_costOf 73 = .ok (.if_icmp .ge 7, 3) := by decide +kernel
theorem dX6_costOf_76 : decode cX6_costOf 76 = .ok (.sipush 1000, 3) := by decide +kernel
theorem dX6_costOf_79 : decode cX6_costOf 79 = .ok (.ireturn, 1) := by decide +kernel
theorem dX6_costOf_80 : decode cX6_costOf 80 = .ok (.aload_n 0, 1) := by decide +kernel
theorem dX6_costOf_81 : decode cX6_costOf 81 = .ok (.iload 4, 2) := by decide +kernel
theorem dX6_costOf_83 : decode cX6_costOf 83 = .ok (.aload_n 0, 1) := by decide +kernel
theorem dX6_costOf_84 : decode cX6_costOf 84 = .ok (.getfield 32, 3) := by decide +kernel
theorem dX6_costOf_87 : decode cX6_costOf 87 = .ok (.iload_n 1, 1) := by decide +kernel
theorem dX6_costOf_88 : decode cX6_costOf 88 = .ok (.iaload, 1) := by decide +kernel
theorem dX6_costOf_89 : decode cX6_costOf 89 = .ok (.iload_n 2, 1) := by decide +kernel
theorem dX6_costOf_90 : decode cX6_costOf 90 = .ok (.aload_n 0, 1) := by decide +kernel
theorem dX6_costOf_91 : decode cX6_costOf 91 = .ok (.getfield 16, 3) := by decide +kernel
theorem dX6_costOf_94 : decode cX6_costOf 94 = .ok (.iload 4, 2) := by decide +kernel
theorem dX6_costOf_96 : decode cX6_costOf 96 = .ok (.iaload, 1) := by decide +kernel
theorem dX6_costOf_97 : decode cX6_costOf 97 = .ok (.iconst 1, 1) := by decide +kernel
theorem dX6_costOf_98 : decode cX6_costOf 98 = .ok (.invokevirtual 137, 3) := by decide +kernel
theorem dX6_costOf_101 : decode cX6_costOf 101 = .ok (.istore 5, 2) := by decide +kernel
theorem dX6_costOf_103 : decode cX6_costOf 103 = .ok (.aload_n 0, 1) := by decide +kernel
theorem dX6_costOf_104 : decode cX6_costOf 104 = .ok (.getfield 13, 3) := by decide +kernel
theorem dX6_costOf_107 : decode cX6_costOf 107 = .ok (.iload 4, 2) := by decide +kernel
theorem dX6_costOf_109 : decode cX6_costOf 109 = .ok (.iaload, 1) := by decide +kernel
theorem dX6_costOf_110 : decode cX6_costOf 110 = .ok (.iconst 2, 1) := by decide +kernel
theorem dX6_costOf_111 : decode cX6_costOf 111 = .ok (.if_icmp .ne 6, 3) := by decide +kernel
theorem dX6_costOf_114 : decode cX6_costOf 114 = .ok (.iload 5, 2) := by decide +kernel
theorem dX6_costOf_116 : decode cX6_costOf 116 = .ok (.ireturn, 1) := by decide +kernel
theorem dX6_costOf_117 : decode cX6_costOf 117 = .ok (.aload_n 0, 1) := by decide +kernel
theorem dX6_costOf_118 : decode cX6_costOf 118 = .ok (.iload 4, 2) := by decide +kernel
theorem dX6_costOf_120 : decode cX6_costOf 120 = .ok (.invokevirtual 140, 3) := by decide +kernel
theorem dX6_costOf_123 : decode cX6_costOf 123 = .ok (.istore 6, 2) := by decide +kernel
theorem dX6_costOf_125 : decode cX6_costOf 125 = .ok (.iload_n 3, 1) := by decide +kernel
theorem dX6_costOf_126 : decode cX6_costOf 126 = .ok (.iload 6, 2) := by decide +kernel
theorem dX6_costOf_128 : decode cX6_costOf 128 = .ok (.if_icmp .lt 9, 3) := by decide +kernel
theorem dX6_costOf_131 : decode cX6_costOf 131 = .ok (.sipush 1000, 3) := by decide +kernel
theorem dX6_costOf_134 : decode cX6_costOf 134 = .ok (.goto 22, 3) := by decide +kernel
theorem dX6_costOf_137 : decode cX6_costOf 137 = .ok (.iload 5, 2) := by decide +kernel
theorem dX6_costOf_139 : decode cX6_costOf 139 = .ok (.aload_n 0, 1) := by decide +kernel
theorem dX6_costOf_140 : decode cX6_costOf 140 = .ok (.iload 4, 2) := by decide +kernel
theorem dX6_costOf_142 : decode cX6_costOf 142 = .ok (.aload_n 0, 1) := by decide +kernel
theorem dX6_costOf_143 : decode cX6_costOf 143 = .ok (.getfield 35, 3) := by decide +kernel
theorem dX6_costOf_146 : decode cX6_costOf 146 = .ok (.iload_n 1, 1) := by decide +kernel
theorem dX6_costOf_147 : decode cX6_costOf 147 = .ok (.iaload, 1) := by decide +kernel
theorem dX6_costOf_148 : decode cX6_costOf 148 = .ok (.iload 6, 2) := by decide +kernel
theorem dX6_costOf_150 : decode cX6_costOf 150 = .ok (.iload_n 3, 1) := by decide +kernel
theorem dX6_costOf_151 : decode cX6_costOf 151 = .ok (.iconst 0, 1) := by decide +kernel
theorem dX6_costOf_152 : decode cX6_costOf 152 = .ok (.invokevirtual 137, 3) := by decide +kernel
theorem dX6_costOf_155 : decode cX6_costOf 155 = .ok (.iadd, 1) := by decide +kernel
theorem dX6_costOf_156 : decode cX6_costOf 156 = .ok (.ireturn, 1) := by decide +kernel
theorem dX6_layCosts_0 : decode cX6_layCosts 0 = .ok (.iconst 0, 1) := by decide +kernel
theorem dX6_layCosts_1 : decode cX6_layCosts 1 = .ok (.istore_n 2, 1) := by decide +kernel
theorem dX6_layCosts_2 : decode cX6_layCosts 2 = .ok (.iload_n 2, 1) := by decide +kernel
theorem dX6_layCosts_3 : decode cX6_layCosts 3 = .ok (.iload_n 1, 1) := by decide +kernel
theorem dX6_layCosts_4 : decode cX6_layCosts 4 = .ok (.if_icmp .gt 77, 3) := by decide +kernel
theorem dX6_layCosts_7 : decode cX6_layCosts 7 = .ok (.iconst 0, 1) := by decide +kernel
theorem dX6_layCosts_8 : decode cX6_layCosts 8 = .ok (.istore_n 3, 1) := by decide +kernel
theorem dX6_layCosts_9 : decode cX6_layCosts 9 = .ok (.iload_n 3, 1) := by decide +kernel
theorem dX6_layCosts_10 : decode cX6_layCosts 10 = .ok (.bipush 11, 2) := by decide +kernel
theorem dX6_layCosts_12 : decode cX6_layCosts 12 = .ok (.if_icmp .ge 63, 3) := by decide +kernel
theorem dX6_layCosts_15 : decode cX6_layCosts 15 = .ok (.iconst 0, 1) := by decide +kernel
theorem dX6_layCosts_16 : decode cX6_layCosts 16 = .ok (.istore 4, 2) := by decide +kernel
theorem dX6_layCosts_18 : decode cX6_layCosts 18 = .ok (.iload 4, 2) := by decide +kernel
theorem dX6_layCosts_20 : decode cX6_layCosts 20 = .ok (.bipush 11, 2) := by decide +kernel
theorem dX6_layCosts_22 : decode cX6_layCosts 22 = .ok (.if_icmp .ge 47, 3) := by decide +kernel
theorem dX6_layCosts_25 : decode cX6_layCosts 25 = .ok (.aload_n 0, 1) := by decide +kernel
theorem dX6_layCosts_26 : decode cX6_layCosts 26 = .ok (.iload_n 2, 1) := by decide +kernel
theorem dX6_layCosts_27 : decode cX6_layCosts 27 = .ok (.iload_n 3, 1) := by decide +kernel
theorem dX6_layCosts_28 : decode cX6_layCosts 28 = .ok (.iload 4, 2) := by decide +kernel
theorem dX6_layCosts_30 : decode cX6_layCosts 30 = .ok (.invokevirtual 144, 3) := by decide +kernel
theorem dX6_layCosts_33 : decode cX6_layCosts 33 = .ok (.istore 5, 2) := by decide +kernel
theorem dX6_layCosts_35 : decode cX6_layCosts 35 = .ok (.aload_n 0, 1) := by decide +kernel
theorem dX6_layCosts_36 : decode cX6_layCosts 36 = .ok (.getfield 63, 3) := by decide +kernel
theorem dX6_layCosts_39 : decode cX6_layCosts 39 = .ok (.iload_n 2, 1) := by decide +kernel
theorem dX6_layCosts_40 : decode cX6_layCosts 40 = .ok (.iload_n 3, 1) := by decide +kernel
theorem dX6_layCosts_41 : decode cX6_layCosts 41 = .ok (.iload 4, 2) := by decide +kernel
theorem dX6_layCosts_43 : decode cX6_layCosts 43 = .ok (.invokestatic 130, 3) := by decide +kernel
theorem dX6_layCosts_46 : decode cX6_layCosts 46 = .ok (.iload 5, 2) := by decide +kernel
theorem dX6_layCosts_48 : decode cX6_layCosts 48 = .ok (.sipush 1000, 3) := by decide +kernel
theorem dX6_layCosts_51 : decode cX6_layCosts 51 = .ok (.if_icmp .le 9, 3) := by decide +kernel
theorem dX6_layCosts_54 : decode cX6_layCosts 54 = .ok (.sipush 1000, 3) := by decide +kernel
theorem dX6_layCosts_57 : decode cX6_layCosts 57 = .ok (.goto 5, 3) := by decide +kernel
theorem dX6_layCosts_60 : decode cX6_layCosts 60 = .ok (.iload 5, 2) := by decide +kernel
theorem dX6_layCosts_62 : decode cX6_layCosts 62 = .ok (.iastore, 1) := by decide +kernel
theorem dX6_layCosts_63 : decode cX6_layCosts 63 = .ok (.iinc 4 1, 3) := by decide +kernel
theorem dX6_layCosts_66 : decode cX6_layCosts 66 = .ok (.goto (-48), 3) := by decide +kernel
theorem dX6_layCosts_69 : decode cX6_layCosts 69 = .ok (.iinc 3 1, 3) := by decide +kernel
theorem dX6_layCosts_72 : decode cX6_layCosts 72 = .ok (.goto (-63), 3) := by decide +kernel
theorem dX6_layCosts_75 : decode cX6_layCosts 75 = .ok (.iinc 2 1, 3) := by decide +kernel
theorem dX6_layCosts_78 : decode cX6_layCosts 78 = .ok (.goto (-76), 3) := by decide +kernel
theorem dX6_layCosts_81 : decode cX6_layCosts 81 = .ok (.return_, 1) := by decide +kernel
theorem dX6_push_0 : decode cX6_push 0 = .ok (.aload_n 0, 1) := by decide +kernel
theorem dX6_push_1 : decode cX6_push 1 = .ok (.getfield 66, 3) := by decide +kernel
theorem dX6_push_4 : decode cX6_push 4 = .ok (.iconst 4, 1) := by decide +kernel
theorem dX6_push_5 : decode cX6_push 5 = .ok (.aload_n 0, 1) := by decide +kernel
theorem dX6_push_6 : decode cX6_push 6 = .ok (.getfield 147, 3) := by decide +kernel
theorem dX6_push_9 : decode cX6_push 9 = .ok (.imul, 1) := by decide +kernel
theorem dX6_push_10 : decode cX6_push 10 = .ok (.iload_n 1, 1) := by decide +kernel
theorem dX6_push_11 : decode cX6_push 11 = .ok (.iastore, 1) := by decide +kernel
theorem dX6_push_12 : decode cX6_push 12 = .ok (.aload_n 0, 1) := by decide +kernel
theorem dX6_push_13 : decode cX6_push 13 = .ok (.getfield 66, 3) := by decide +kernel
theorem dX6_push_16 : decode cX6_push 16 = .ok (.iconst 4, 1) := by decide +kernel
theorem dX6_push_17 : decode cX6_push 17 = .ok (.aload_n 0, 1) := by decide +kernel
theorem dX6_push_18 : decode cX6_push 18 = .ok (.getfield 147, 3) := by decide +kernel
theorem dX6_push_21 : decode cX6_push 21 = .ok (.imul, 1) := by decide +kernel
theorem dX6_push_22 : decode cX6_push 22 = .ok (.iconst 1, 1) := by decide +kernel
theorem dX6_push_23 : decode cX6_push 23 = .ok (.iadd, 1) := by decide +kernel
theorem dX6_push_24 : decode cX6_push 24 = .ok (.iload_n 2, 1) := by decide +kernel
theorem dX6_push_25 : decode cX6_push 25 = .ok (.iastore, 1) := by decide +kernel
theorem dX6_push_26 : decode cX6_push 26 = .ok (.aload_n 0, 1) := by decide +kernel
theorem dX6_push_27 : decode cX6_push 27 = .ok (.getfield 66, 3) := by decide +kernel
theorem dX6_push_30 : decode cX6_push 30 = .ok (.iconst 4, 1) := by decide +kernel
theorem dX6_push_31 : decode cX6_push 31 = .ok (.aload_n 0, 1) := by decide +kernel
theorem dX6_push_32 : decode cX6_push 32 = .ok (.getfield 147, 3) := by decide +kernel
theorem dX6_push_35 : decode cX6_push 35 = .ok (.imul, 1) := by decide +kernel
theorem dX6_push_36 : decode cX6_push 36 = .ok (.iconst 2, 1) := by decide +kernel
theorem dX6_push_37 : decode cX6_push 37 = .ok (.iadd, 1) := by decide +kernel
theorem dX6_push_38 : decode cX6_push 38 = .ok (.iload_n 3, 1) := by decide +kernel
theorem dX6_push_39 : decode cX6_push 39 = .ok (.iastore, 1) := by decide +kernel
theorem dX6_push_40 : decode cX6_push 40 = .ok (.aload_n 0, 1) := by decide +kernel
theorem dX6_push_41 : decode cX6_push 41 = .ok (.getfield 66, 3) := by decide +kernel
theorem dX6_push_44 : decode cX6_push 44 = .ok (.iconst 4, 1) := by decide +kernel
theorem dX6_push_45 : decode cX6_push 45 = .ok (.aload_n 0, 1) := by decide +kernel
theorem dX6_push_46 : decode cX6_push 46 = .ok (.getfield 147, 3) := by decide +kernel
theorem dX6_push_49 : decode cX6_push 49 = .ok (.imul, 1) := by decide +kernel
theorem dX6_push_50 : decode cX6_push 50 = .ok (.iconst 3, 1) := by decide +kernel
theorem dX6_push_51 : decode cX6_push 51 = .ok (.iadd, 1) := by decide +kernel
theorem dX6_push_52 : decode cX6_push 52 = .ok (.iload 4, 2) := by decide +kernel
theorem dX6_push_54 : decode cX6_push 54 = .ok (.iastore, 1) := by decide +kernel
theorem dX6_push_55 : decode cX6_push 55 = .ok (.aload_n 0, 1) := by decide +kernel
theorem dX6_push_56 : decode cX6_push 56 = .ok (.dup, 1) := by decide +kernel
theorem dX6_push_57 : decode cX6_push 57 = .ok (.getfield 147, 3) := by decide +kernel
theorem dX6_push_60 : decode cX6_push 60 = .ok (.iconst 1, 1) := by decide +kernel
theorem dX6_push_61 : decode cX6_push 61 = .ok (.iadd, 1) := by decide +kernel
theorem dX6_push_62 : decode cX6_push 62 = .ok (.putfield 147, 3) := by decide +kernel
theorem dX6_push_65 : decode cX6_push 65 = .ok (.return_, 1) := by decide +kernel
theorem dX6_pushOperand_0 : decode cX6_pushOperand 0 = .ok (.aload_n 0, 1) := by decide +kernel
theorem dX6_pushOperand_1 : decode cX6_pushOperand 1 = .ok (.getfield 26, 3) := by decide +kernel
theorem dX6_pushOperand_4 : decode cX6_pushOperand 4 = .ok (.iload_n 2, 1) := by decide +kernel
theorem dX6_pushOperand_5 : decode cX6_pushOperand 5 = .ok (.iaload, 1) := by decide +kernel
theorem dX6_pushOperand_6 : decode cX6_pushOperand 6 = .ok (.ifCond .ge 13, 3) := by decide +kernel
theorem dX6_pushOperand_9 : decode cX6_pushOperand 9 = .ok (.aload_n 0, 1) := by decide +kernel
theorem dX6_pushOperand_10 : decode cX6_pushOperand 10 = .ok (.iload_n 2, 1) := by decide +kernel
theorem dX6_pushOperand_11 : decode cX6_pushOperand 11 = .ok (.bipush (-10), 2) := by decide +kernel
theorem dX6_pushOperand_13 : decode cX6_pushOperand 13 = .ok (.iconst 0, 1) := by decide +kernel
theorem dX6_pushOperand_14 : decode cX6_pushOperand 14 = .ok (.iconst 0, 1) := by decide +kernel
theorem dX6_pushOperand_15 : decode cX6_pushOperand 15 = .ok (.invokevirtual 150, 3) := by decide +kernel
theorem dX6_pushOperand_18 : decode cX6_pushOperand 18 = .ok (.return_, 1) := by decide +kernel
theorem dX6_pushOperand_19 : decode cX6_pushOperand 19 = .ok (.iload 6, 2) := by decide +kernel
theorem dX6_pushOperand_21 : decode cX6_pushOperand 21 = .ok (.ifCond .ne 34, 3) := by decide +kernel
theorem dX6_pushOperand_24 : decode cX6_pushOperand 24 = .ok (.aload_n 0, 1) := by decide +kernel
theorem dX6_pushOperand_25 : decode cX6_pushOperand 25 = .ok (.iload_n 1, 1) := by decide +kernel
theorem dX6_pushOperand_26 : decode cX6_pushOperand 26 = .ok (.iload_n 2, 1) := by decide +kernel
theorem dX6_pushOperand_27 : decode cX6_pushOperand 27 = .ok (.iload_n 3, 1) := by decide +kernel
theorem dX6_pushOperand_28 : decode cX6_pushOperand 28 = .ok (.iload 4, 2) := by decide +kernel
theorem dX6_pushOperand_30 : decode cX6_pushOperand 30 = .ok (.iload 5, 2) := by decide +kernel
theorem dX6_pushOperand_32 : decode cX6_pushOperand 32 = .ok (.invokevirtual 133, 3) := by decide +kernel
theorem dX6_pushOperand_35 : decode cX6_pushOperand 35 = .ok (.iconst 1, 1) := by decide +kernel
theorem dX6_pushOperand_36 : decode cX6_pushOperand 36 = .ok (.aload_n 0, 1) := by decide +kernel
theorem dX6_pushOperand_37 : decode cX6_pushOperand 37 = .ok (.getfield 63, 3) := by decide +kernel
theorem dX6_pushOperand_40 : decode cX6_pushOperand 40 = .ok (.iload_n 2, 1) := by decide +kernel
theorem dX6_pushOperand_41 : decode cX6_pushOperand 41 = .ok (.iconst 0, 1) := by decide +kernel
theorem dX6_pushOperand_42 : decode cX6_pushOperand 42 = .ok (.iconst 0, 1) := by decide +kernel
theorem dX6_pushOperand_43 : decode cX6_pushOperand 43 = .ok (.invokestatic 130, 3) := by decide +kernel
theorem dX6_pushOperand_46 : decode cX6_pushOperand 46 = .ok (.iaload, 1) := by decide +kernel
theorem dX6_pushOperand_47 : decode cX6_pushOperand 47 = .ok (.iadd, 1) := by decide +kernel
theorem dX6_pushOperand_48 : decode cX6_pushOperand 48 = .ok (.if_icmp .gt 7, 3) := by decide +kernel
theorem dX6_pushOperand_51 : decode cX6_pushOperand 51 = .ok (.iconst 1, 1) := by decide +kernel
theorem dX6_pushOperand_52 : decode cX6_pushOperand 52 = .ok (.goto 4, 3) := by decide +kernel
theorem dX6_pushOperand_55 : decode cX6_pushOperand 55 = .ok (.iconst 0, 1) := by decide +kernel
theorem dX6_pushOperand_56 : decode cX6_pushOperand 56 = .ok (.istore 7, 2) := by decide +kernel
theorem dX6_pushOperand_58 : decode cX6_pushOperand 58 = .ok (.iload 7, 2) := by decide +kernel
theorem dX6_pushOperand_60 : decode cX6_pushOperand 60 = .ok (.ifCond .eq 16, 3) := by decide +kernel
theorem dX6_pushOperand_63 : decode cX6_pushOperand 63 = .ok (.aload_n 0, 1) := by decide +kernel
theorem dX6_pushOperand_64 : decode cX6_pushOperand 64 = .ok (.iload_n 2, 1) := by decide +kernel
theorem dX6_pushOperand_65 : decode cX6_pushOperand 65 = .ok (.bipush (-10), 2) := by decide +kernel
theorem dX6_pushOperand_67 : decode cX6_pushOperand 67 = .ok (.iload_n 3, 1) := by decide +kernel
theorem dX6_pushOperand_68 : decode cX6_pushOperand 68 = .ok (.iload 4, 2) := by decide +kernel
theorem dX6_pushOperand_70 : decode cX6_pushOperand 70 = .ok (.invokevirtual 150, 3) := by decide +kernel
theorem dX6_pushOperand_73 : decode cX6_pushOperand 73 = .ok (.goto 32, 3) := by decide +kernel
theorem dX6_pushOperand_76 : decode cX6_pushOperand 76 = .ok (.aload_n 0, 1) := by decide +kernel
theorem dX6_pushOperand_77 : decode cX6_pushOperand 77 = .ok (.bipush (-10), 2) := by decide +kernel
theorem dX6_pushOperand_79 : decode cX6_pushOperand 79 = .ok (.bipush 41, 2) := by decide +kernel
theorem dX6_pushOperand_81 : decode cX6_pushOperand 81 = .ok (.iconst 0, 1) := by decide +kernel
theorem dX6_pushOperand_82 : decode cX6_pushOperand 82 = .ok (.iconst 0, 1) := by decide +kernel
theorem dX6_pushOperand_83 : decode cX6_pushOperand 83 = .ok (.invokevirtual 150, 3) := by decide +kernel
theorem dX6_pushOperand_86 : decode cX6_pushOperand 86 = .ok (.aload_n 0, 1) := by decide +kernel
theorem dX6_pushOperand_87 : decode cX6_pushOperand 87 = .ok (.iload_n 2, 1) := by decide +kernel
theorem dX6_pushOperand_88 : decode cX6_pushOperand 88 = .ok (.bipush (-10), 2) := by decide +kernel
theorem dX6_pushOperand_90 : decode cX6_pushOperand 90 = .ok (.iconst 0, 1) := by decide +kernel
theorem dX6_pushOperand_91 : decode cX6_pushOperand 91 = .ok (.iconst 0, 1) := by decide +kernel
theorem dX6_pushOperand_92 : decode cX6_pushOperand 92 = .ok (.invokevirtual 150, 3) := by decide +kernel
theorem dX6_pushOperand_95 : decode cX6_pushOperand 95 = .ok (.aload_n 0, 1) := by decide +kernel
theorem dX6_pushOperand_96 : decode cX6_pushOperand 96 = .ok (.bipush (-10), 2) := by decide +kernel
theorem dX6_pushOperand_98 : decode cX6_pushOperand 98 = .ok (.bipush 40, 2) := by decide +kernel
theorem dX6_pushOperand_100 : decode cX6_pushOperand 100 = .ok (.iconst 0, 1) := by decide +kernel
theorem dX6_pushOperand_101 : decode cX6_pushOperand 101 = .ok (.iconst 0, 1) := by decide +kernel
theorem dX6_pushOperand_102 : decode cX6_pushOperand 102 = .ok (.invokevirtual 150, 3) := by decide +kernel
theorem dX6_pushOperand_105 : decode cX6_pushOperand 105 = .ok (.return_, 1) := by decide +kernel
theorem dX6_write_0 : decode cX6_write 0 = .ok (.aload_n 0, 1) := by decide +kernel
theorem dX6_write_1 : decode cX6_write 1 = .ok (.getfield 41, 3) := by decide +kernel
theorem dX6_write_4 : decode cX6_write 4 = .ok (.aload_n 0, 1) := by decide +kernel
theorem dX6_write_5 : decode cX6_write 5 = .ok (.getfield 154, 3) := by decide +kernel
theorem dX6_write_8 : decode cX6_write 8 = .ok (.iload_n 1, 1) := by decide +kernel
theorem dX6_write_9 : decode cX6_write 9 = .ok (.iastore, 1) := by decide +kernel
theorem dX6_write_10 : decode cX6_write 10 = .ok (.aload_n 0, 1) := by decide +kernel
theorem dX6_write_11 : decode cX6_write 11 = .ok (.dup, 1) := by decide +kernel
theorem dX6_write_12 : decode cX6_write 12 = .ok (.getfield 154, 3) := by decide +kernel
theorem dX6_write_15 : decode cX6_write 15 = .ok (.iconst 1, 1) := by decide +kernel
theorem dX6_write_16 : decode cX6_write 16 = .ok (.iadd, 1) := by decide +kernel
theorem dX6_write_17 : decode cX6_write 17 = .ok (.putfield 154, 3) := by decide +kernel
theorem dX6_write_20 : decode cX6_write 20 = .ok (.return_, 1) := by decide +kernel
