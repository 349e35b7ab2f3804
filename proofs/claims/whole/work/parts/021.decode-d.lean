/-! ===== decode rows (as printed) ===== -/
theorem dX6_pushParts_0 : decode cX6_pushParts 0 = .ok (.aload_n 0, 1) := by decide +kernel
theorem dX6_pushParts_1 : decode cX6_pushParts 1 = .ok (.getfield 26, 3) := by decide +kernel
theorem dX6_pushParts_4 : decode cX6_pushParts 4 = .ok (.iload_n 1, 1) := by decide +kernel
theorem dX6_pushParts_5 : decode cX6_pushParts 5 = .ok (.iaload, 1) := by decide +kernel
theorem dX6_pushParts_6 : decode cX6_pushParts 6 = .ok (.istore 5, 2) := by decide +kernel
theorem dX6_pushParts_8 : decode cX6_pushParts 8 = .ok (.aload_n 0, 1) := by decide +kernel
theorem dX6_pushParts_9 : decode cX6_pushParts 9 = .ok (.getfield 13, 3) := by decide +kernel
theorem dX6_pushParts_12 : decode cX6_pushParts 12 = .ok (.iload 5, 2) := by decide +kernel
theorem dX6_pushParts_14 : decode cX6_pushParts 14 = .ok (.iaload, 1) := by decide +kernel
theorem dX6_pushParts_15 : decode cX6_pushParts 15 = .ok (.iconst 1, 1) := by decide +kernel
theorem dX6_pushParts_16 : decode cX6_pushParts 16 = .ok (.if_icmp .ne 44, 3) := by decide +kernel
theorem dX6_pushParts_19 : decode cX6_pushParts 19 = .ok (.aload_n 0, 1) := by decide +kernel
theorem dX6_pushParts_20 : decode cX6_pushParts 20 = .ok (.iload 5, 2) := by decide +kernel
theorem dX6_pushParts_22 : decode cX6_pushParts 22 = .ok (.aload_n 0, 1) := by decide +kernel
theorem dX6_pushParts_23 : decode cX6_pushParts 23 = .ok (.getfield 32, 3) := by decide +kernel
theorem dX6_pushParts_26 : decode cX6_pushParts 26 = .ok (.iload_n 1, 1) := by decide +kernel
theorem dX6_pushParts_27 : decode cX6_pushParts 27 = .ok (.iaload, 1) := by decide +kernel
theorem dX6_pushParts_28 : decode cX6_pushParts 28 = .ok (.aload_n 0, 1) := by decide +kernel
theorem dX6_pushParts_29 : decode cX6_pushParts 29 = .ok (.getfield 16, 3) := by decide +kernel
theorem dX6_pushParts_32 : decode cX6_pushParts 32 = .ok (.iload 5, 2) := by decide +kernel
theorem dX6_pushParts_34 : decode cX6_pushParts 34 = .ok (.iaload, 1) := by decide +kernel
theorem dX6_pushParts_35 : decode cX6_pushParts 35 = .ok (.iload_n 3, 1) := by decide +kernel
theorem dX6_pushParts_36 : decode cX6_pushParts 36 = .ok (.iconst 0, 1) := by decide +kernel
theorem dX6_pushParts_37 : decode cX6_pushParts 37 = .ok (.iload 4, 2) := by decide +kernel
theorem dX6_pushParts_39 : decode cX6_pushParts 39 = .ok (.invokevirtual 157, 3) := by decide +kernel
theorem dX6_pushParts_42 : decode cX6_pushParts 42 = .ok (.aload_n 0, 1) := by decide +kernel
theorem dX6_pushParts_43 : decode cX6_pushParts 43 = .ok (.bipush (-10), 2) := by decide +kernel
theorem dX6_pushParts_45 : decode cX6_pushParts 45 = .ok (.aload_n 0, 1) := by decide +kernel
theorem dX6_pushParts_46 : decode cX6_pushParts 46 = .ok (.getfield 7, 3) := by decide +kernel
theorem dX6_pushParts_49 : decode cX6_pushParts 49 = .ok (.iload 5, 2) := by decide +kernel
theorem dX6_pushParts_51 : decode cX6_pushParts 51 = .ok (.iaload, 1) := by decide +kernel
theorem dX6_pushParts_52 : decode cX6_pushParts 52 = .ok (.iconst 0, 1) := by decide +kernel
theorem dX6_pushParts_53 : decode cX6_pushParts 53 = .ok (.iconst 0, 1) := by decide +kernel
theorem dX6_pushParts_54 : decode cX6_pushParts 54 = .ok (.invokevirtual 150, 3) := by decide +kernel
theorem dX6_pushParts_57 : decode cX6_pushParts 57 = .ok (.goto 73, 3) := by decide +kernel
theorem dX6_pushParts_60 : decode cX6_pushParts 60 = .ok (.aload_n 0, 1) := by decide +kernel
theorem dX6_pushParts_61 : decode cX6_pushParts 61 = .ok (.getfield 13, 3) := by decide +kernel
theorem dX6_pushParts_64 : decode cX6_pushParts 64 = .ok (.iload 5, 2) := by decide +kernel
theorem dX6_pushParts_66 : decode cX6_pushParts 66 = .ok (.iaload, 1) := by decide +kernel
theorem dX6_pushParts_67 : decode cX6_pushParts 67 = .ok (.ifCond .ne 25, 3) := by decide +kernel
theorem dX6_pushParts_70 : decode cX6_pushParts 70 = .ok (.aload_n 0, 1) := by decide +kernel
theorem dX6_pushParts_71 : decode cX6_pushParts 71 = .ok (.iload 5, 2) := by decide +kernel
theorem dX6_pushParts_73 : decode cX6_pushParts 73 = .ok (.aload_n 0, 1) := by decide +kernel
theorem dX6_pushParts_74 : decode cX6_pushParts 74 = .ok (.getfield 35, 3) := by decide +kernel
theorem dX6_pushParts_77 : decode cX6_pushParts 77 = .ok (.iload_n 1, 1) := by decide +kernel
theorem dX6_pushParts_78 : decode cX6_pushParts 78 = .ok (.iaload, 1) := by decide +kernel
theorem dX6_pushParts_79 : decode cX6_pushParts 79 = .ok (.aload_n 0, 1) := by decide +kernel
theorem dX6_pushParts_80 : decode cX6_pushParts 80 = .ok (.iload 5, 2) := by decide +kernel
theorem dX6_pushParts_82 : decode cX6_pushParts 82 = .ok (.invokevirtual 140, 3) := by decide +kernel
theorem dX6_pushParts_85 : decode cX6_pushParts 85 = .ok (.iload_n 3, 1) := by decide +kernel
theorem dX6_pushParts_86 : decode cX6_pushParts 86 = .ok (.iconst 0, 1) := by decide +kernel
theorem dX6_pushParts_87 : decode cX6_pushParts 87 = .ok (.iload 4, 2) := by decide +kernel
theorem dX6_pushParts_89 : decode cX6_pushParts 89 = .ok (.invokevirtual 157, 3) := by decide +kernel
theorem dX6_pushParts_92 : decode cX6_pushParts 92 = .ok (.aload_n 0, 1) := by decide +kernel
theorem dX6_pushParts_93 : decode cX6_pushParts 93 = .ok (.bipush (-10), 2) := by decide +kernel
theorem dX6_pushParts_95 : decode cX6_pushParts 95 = .ok (.aload_n 0, 1) := by decide +kernel
theorem dX6_pushParts_96 : decode cX6_pushParts 96 = .ok (.getfield 7, 3) := by decide +kernel
theorem dX6_pushParts_99 : decode cX6_pushParts 99 = .ok (.iload 5, 2) := by decide +kernel
theorem dX6_pushParts_101 : decode cX6_pushParts 101 = .ok (.iaload, 1) := by decide +kernel
theorem dX6_pushParts_102 : decode cX6_pushParts 102 = .ok (.iconst 0, 1) := by decide +kernel
theorem dX6_pushParts_103 : decode cX6_pushParts 103 = .ok (.iconst 0, 1) := by decide +kernel
theorem dX6_pushParts_104 : decode cX6_pushParts 104 = .ok (.invokevirtual 150, 3) := by decide +kernel
theorem dX6_pushParts_107 : decode cX6_pushParts 107 = .ok (.aload_n 0, 1) := by decide +kernel
theorem dX6_pushParts_108 : decode cX6_pushParts 108 = .ok (.iload 5, 2) := by decide +kernel
theorem dX6_pushParts_110 : decode cX6_pushParts 110 = .ok (.aload_n 0, 1) := by decide +kernel
theorem dX6_pushParts_111 : decode cX6_pushParts 111 = .ok (.getfield 32, 3) := by decide +kernel
theorem dX6_pushParts_114 : decode cX6_pushParts 114 = .ok (.iload_n 1, 1) := by decide +kernel
theorem dX6_pushParts_115 : decode cX6_pushParts 115 = .ok (.iaload, 1) := by decide +kernel
theorem dX6_pushParts_116 : decode cX6_pushParts 116 = .ok (.iload_n 2, 1) := by decide +kernel
theorem dX6_pushParts_117 : decode cX6_pushParts 117 = .ok (.aload_n 0, 1) := by decide +kernel
theorem dX6_pushParts_118 : decode cX6_pushParts 118 = .ok (.getfield 16, 3) := by decide +kernel
theorem dX6_pushParts_121 : decode cX6_pushParts 121 = .ok (.iload 5, 2) := by decide +kernel
theorem dX6_pushParts_123 : decode cX6_pushParts 123 = .ok (.iaload, 1) := by decide +kernel
theorem dX6_pushParts_124 : decode cX6_pushParts 124 = .ok (.iconst 1, 1) := by decide +kernel
theorem dX6_pushParts_125 : decode cX6_pushParts 125 = .ok (.iload 4, 2) := by decide +kernel
theorem dX6_pushParts_127 : decode cX6_pushParts 127 = .ok (.invokevirtual 157, 3) := by decide +kernel
theorem dX6_pushParts_130 : decode cX6_pushParts 130 = .ok (.return_, 1) := by decide +kernel
theorem dX6_printTree_0 : decode cX6_printTree 0 = .ok (.aload_n 0, 1) := by decide +kernel
theorem dX6_printTree_1 : decode cX6_printTree 1 = .ok (.iload_n 1, 1) := by decide +kernel
theorem dX6_printTree_2 : decode cX6_printTree 2 = .ok (.invokevirtual 161, 3) := by decide +kernel
theorem dX6_printTree_5 : decode cX6_printTree 5 = .ok (.aload_n 0, 1) := by decide +kernel
theorem dX6_printTree_6 : decode cX6_printTree 6 = .ok (.iconst 0, 1) := by decide +kernel
theorem dX6_printTree_7 : decode cX6_printTree 7 = .ok (.putfield 154, 3) := by decide +kernel
theorem dX6_printTree_10 : decode cX6_printTree 10 = .ok (.aload_n 0, 1) := by decide +kernel
theorem dX6_printTree_11 : decode cX6_printTree 11 = .ok (.iconst 0, 1) := by decide +kernel
theorem dX6_printTree_12 : decode cX6_printTree 12 = .ok (.putfield 147, 3) := by decide +kernel
theorem dX6_printTree_15 : decode cX6_printTree 15 = .ok (.aload_n 0, 1) := by decide +kernel
theorem dX6_printTree_16 : decode cX6_printTree 16 = .ok (.iload_n 1, 1) := by decide +kernel
theorem dX6_printTree_17 : decode cX6_printTree 17 = .ok (.bipush (-10), 2) := by decide +kernel
theorem dX6_printTree_19 : decode cX6_printTree 19 = .ok (.iconst 0, 1) := by decide +kernel
theorem dX6_printTree_20 : decode cX6_printTree 20 = .ok (.iconst 0, 1) := by decide +kernel
theorem dX6_printTree_21 : decode cX6_printTree 21 = .ok (.invokevirtual 150, 3) := by decide +kernel
theorem dX6_printTree_24 : decode cX6_printTree 24 = .ok (.aload_n 0, 1) := by decide +kernel
theorem dX6_printTree_25 : decode cX6_printTree 25 = .ok (.getfield 147, 3) := by decide +kernel
theorem dX6_printTree_28 : decode cX6_printTree 28 = .ok (.ifCond .le 110, 3) := by decide +kernel
theorem dX6_printTree_31 : decode cX6_printTree 31 = .ok (.aload_n 0, 1) := by decide +kernel
theorem dX6_printTree_32 : decode cX6_printTree 32 = .ok (.dup, 1) := by decide +kernel
theorem dX6_printTree_33 : decode cX6_printTree 33 = .ok (.getfield 147, 3) := by decide +kernel
theorem dX6_printTree_36 : decode cX6_printTree 36 = .ok (.iconst 1, 1) := by decide +kernel
theorem dX6_printTree_37 : decode cX6_printTree 37 = .ok (.isub, 1) := by decide +kernel
theorem dX6_printTree_38 : decode cX6_printTree 38 = .ok (.putfield 147, 3) := by decide +kernel
theorem dX6_printTree_41 : decode cX6_printTree 41 = .ok (.aload_n 0, 1) := by decide +kernel
theorem dX6_printTree_42 : decode cX6_printTree 42 = .ok (.getfield 66, 3) := by decide +kernel
theorem dX6_printTree_45 : decode cX6_printTree 45 = .ok (.iconst 4, 1) := by decide +kernel
theorem dX6_printTree_46 : decode cX6_printTree 46 = .ok (.aload_n 0, 1) := by decide +kernel
theorem dX6_printTree_47 : decode cX6_printTree 47 = .ok (.getfield 147, 3) := by decide +kernel
theorem dX6_printTree_50 : decode cX6_printTree 50 = .ok (.imul, 1) := by decide +kernel
theorem dX6_printTree_51 : decode cX6_printTree 51 = .ok (.iaload, 1) := by decide +kernel
theorem dX6_printTree_52 : decode cX6_printTree 52 = .ok (.istore_n 3, 1) := by decide +kernel
theorem dX6_printTree_53 : decode cX6_printTree 53 = .ok (.aload_n 0, 1) := by decide +kernel
theorem dX6_printTree_54 : decode cX6_printTree 54 = .ok (.getfield 66, 3) := by decide +kernel
theorem dX6_printTree_57 : decode cX6_printTree 57 = .ok (.iconst 4, 1) := by decide +kernel
theorem dX6_printTree_58 : decode cX6_printTree 58 = .ok (.aload_n 0, 1) := by decide +kernel
theorem dX6_printTree_59 : decode cX6_printTree 59 = .ok (.getfield 147, 3) := by decide +kernel
theorem dX6_printTree_62 : decode cX6_printTree 62 = .ok (.imul, 1) := by decide +kernel
theorem dX6_printTree_63 : decode cX6_printTree 63 = .ok (.iconst 1, 1) := by decide +kernel
theorem dX6_printTree_64 : decode cX6_printTree 64 = .ok (.iadd, 1) := by decide +kernel
theorem dX6_printTree_65 : decode cX6_printTree 65 = .ok (.iaload, 1) := by decide +kernel
theorem dX6_printTree_66 : decode cX6_printTree 66 = .ok (.istore 4, 2) := by decide +kernel
theorem dX6_printTree_68 : decode cX6_printTree 68 = .ok (.iload_n 3, 1) := by decide +kernel
theorem dX6_printTree_69 : decode cX6_printTree 69 = .ok (.ifCond .ge 12, 3) := by decide +kernel
theorem dX6_printTree_72 : decode cX6_printTree 72 = .ok (.aload_n 0, 1) := by decide +kernel
theorem dX6_printTree_73 : decode cX6_printTree 73 = .ok (.iload 4, 2) := by decide +kernel
theorem dX6_printTree_75 : decode cX6_printTree 75 = .ok (.invokevirtual 165, 3) := by decide +kernel
theorem dX6_printTree_78 : decode cX6_printTree 78 = .ok (.goto 57, 3) := by decide +kernel
theorem dX6_printTree_81 : decode cX6_printTree 81 = .ok (.aload_n 0, 1) := by decide +kernel
theorem dX6_printTree_82 : decode cX6_printTree 82 = .ok (.getfield 26, 3) := by decide +kernel
theorem dX6_printTree_85 : decode cX6_printTree 85 = .ok (.iload_n 3, 1) := by decide +kernel
theorem dX6_printTree_86 : decode cX6_printTree 86 = .ok (.iaload, 1) := by decide +kernel
theorem dX6_printTree_87 : decode cX6_printTree 87 = .ok (.ifCond .ge 16, 3) := by decide +kernel
theorem dX6_printTree_90 : decode cX6_printTree 90 = .ok (.aload_n 0, 1) := by decide +kernel
theorem dX6_printTree_91 : decode cX6_printTree 91 = .ok (.aload_n 0, 1) := by decide +kernel
theorem dX6_printTree_92 : decode cX6_printTree 92 = .ok (.getfield 29, 3) := by decide +kernel
theorem dX6_printTree_95 : decode cX6_printTree 95 = .ok (.iload_n 3, 1) := by decide +kernel
theorem dX6_printTree_96 : decode cX6_printTree 96 = .ok (.iaload, 1) := by decide +kernel
theorem dX6_printTree_97 : decode cX6_printTree 97 = .ok (.invokevirtual 165, 3) := by decide +kernel
theorem dX6_printTree_100 : decode cX6_printTree 100 = .ok (.goto 35, 3) := by decide +kernel
theorem dX6_printTree_103 : decode cX6_printTree 103 = .ok (.aload_n 0, 1) := by decide +kernel
theorem dX6_printTree_104 : decode cX6_printTree 104 = .ok (.iload_n 3, 1) := by decide +kernel
theorem dX6_printTree_105 : decode cX6_printTree 105 = .ok (.aload_n 0, 1) := by decide +kernel
theorem dX6_printTree_106 : decode cX6_printTree 106 = .ok (.getfield 66, 3) := by decide +kernel
theorem dX6_printTree_109 : decode cX6_printTree 109 = .ok (.iconst 4, 1) := by decide +kernel
theorem dX6_printTree_110 : decode cX6_printTree 110 = .ok (.aload_n 0, 1) := by decide +kernel
theorem dX6_printTree_111 : decode cX6_printTree 111 = .ok (.getfield 147, 3) := by decide +kernel
theorem dX6_printTree_114 : decode cX6_printTree 114 = .ok (.imul, 1) := by decide +kernel
theorem dX6_printTree_115 : decode cX6_printTree 115 = .ok (.iconst 2, 1) := by decide +kernel
theorem dX6_printTree_116 : decode cX6_printTree 116 = .ok (.iadd, 1) := by decide +kernel
theorem dX6_printTree_117 : decode cX6_printTree 117 = .ok (.iaload, 1) := by decide +kernel
theorem dX6_printTree_118 : decode cX6_printTree 118 = .ok (.aload_n 0, 1) := by decide +kernel
theorem dX6_printTree_119 : decode cX6_printTree 119 = .ok (.getfield 66, 3) := by decide +kernel
theorem dX6_printTree_122 : decode cX6_printTree 122 = .ok (.iconst 4, 1) := by decide +kernel
theorem dX6_printTree_123 : decode cX6_printTree 123 = .ok (.aload_n 0, 1) := by decide +kernel
theorem dX6_printTree_124 : decode cX6_printTree 124 = .ok (.getfield 147, 3) := by decide +kernel
theorem dX6_printTree_127 : decode cX6_printTree 127 = .ok (.imul, 1) := by decide +kernel
theorem dX6_printTree_128 : decode cX6_printTree 128 = .ok (.iconst 3, 1) := by decide +kernel
theorem dX6_printTree_129 : decode cX6_printTree 129 = .ok (.iadd, 1) := by decide +kernel
theorem dX6_printTree_130 : decode cX6_printTree 130 = .ok (.iaload, 1) := by decide +kernel
theorem dX6_printTree_131 : decode cX6_printTree 131 = .ok (.iload_n 2, 1) := by decide +kernel
theorem dX6_printTree_132 : decode cX6_printTree 132 = .ok (.invokevirtual 168, 3) := by decide +kernel
theorem dX6_printTree_135 : decode cX6_printTree 135 = .ok (.goto (-111), 3) := by decide +kernel
theorem dX6_printTree_138 : decode cX6_printTree 138 = .ok (.aload_n 0, 1) := by decide +kernel
theorem dX6_printTree_139 : decode cX6_printTree 139 = .ok (.iload_n 1, 1) := by decide +kernel
theorem dX6_printTree_140 : decode cX6_printTree 140 = .ok (.putfield 44, 3) := by decide +kernel
theorem dX6_printTree_143 : decode cX6_printTree 143 = .ok (.aload_n 0, 1) := by decide +kernel
theorem dX6_printTree_144 : decode cX6_printTree 144 = .ok (.getfield 154, 3) := by decide +kernel
theorem dX6_printTree_147 : decode cX6_printTree 147 = .ok (.ireturn, 1) := by decide +kernel
theorem dX6_print_0 : decode cX6_print 0 = .ok (.aload_n 0, 1) := by decide +kernel
theorem dX6_print_1 : decode cX6_print 1 = .ok (.iload_n 1, 1) := by decide +kernel
theorem dX6_print_2 : decode cX6_print 2 = .ok (.invokevirtual 116, 3) := by decide +kernel
theorem dX6_print_5 : decode cX6_print 5 = .ok (.ifCond .eq 12, 3) := by decide +kernel
theorem dX6_print_8 : decode cX6_print 8 = .ok (.aload_n 0, 1) := by decide +kernel
theorem dX6_print_9 : decode cX6_print 9 = .ok (.iload_n 1, 1) := by decide +kernel
theorem dX6_print_10 : decode cX6_print 10 = .ok (.iconst 0, 1) := by decide +kernel
theorem dX6_print_11 : decode cX6_print 11 = .ok (.invokevirtual 172, 3) := by decide +kernel
theorem dX6_print_14 : decode cX6_print 14 = .ok (.goto 4, 3) := by decide +kernel
theorem dX6_print_17 : decode cX6_print 17 = .ok (.iconst (-1), 1) := by decide +kernel
theorem dX6_print_18 : decode cX6_print 18 = .ok (.ireturn, 1) := by decide +kernel
theorem dX6_printFull_0 : decode cX6_printFull 0 = .ok (.aload_n 0, 1) := by decide +kernel
theorem dX6_printFull_1 : decode cX6_printFull 1 = .ok (.iload_n 1, 1) := by decide +kernel
theorem dX6_printFull_2 : decode cX6_printFull 2 = .ok (.invokevirtual 116, 3) := by decide +kernel
theorem dX6_printFull_5 : decode cX6_printFull 5 = .ok (.ifCond .eq 12, 3) := by decide +kernel
theorem dX6_printFull_8 : decode cX6_printFull 8 = .ok (.aload_n 0, 1) := by decide +kernel
theorem dX6_printFull_9 : decode cX6_printFull 9 = .ok (.iload_n 1, 1) := by decide +kernel
theorem dX6_printFull_10 : decode cX6_printFull 10 = .ok (.iconst 1, 1) := by decide +kernel
theorem dX6_printFull_11 : decode cX6_printFull 11 = .ok (.invokevirtual 172, 3) := by decide +kernel
theorem dX6_printFull_14 : decode cX6_printFull 14 = .ok (.goto 4, 3) := by decide +kernel
theorem dX6_printFull_17 : decode cX6_printFull 17 = .ok (.iconst (-1), 1) := by decide +kernel
theorem dX6_printFull_18 : decode cX6_printFull 18 = .ok (.ireturn, 1) := by decide +kernel
theorem dX6_outputAt_0 : decode cX6_outputAt 0 = .ok (.iload_n 1, 1) := by decide +kernel
theorem dX6_outputAt_1 : decode cX6_outputAt 1 = .ok (.iconst 0, 1) := by decide +kernel
theorem dX6_outputAt_2 : decode cX6_outputAt 2 = .ok (.aload_n 0, 1) := by decide +kernel
theorem dX6_outputAt_3 : decode cX6_outputAt 3 = .ok (.getfield 154, 3) := by decide +kernel
theorem dX6_outputAt_6 : decode cX6_outputAt 6 = .ok (.iconst 1, 1) := by decide +kernel
theorem dX6_outputAt_7 : decode cX6_outputAt 7 = .ok (.isub, 1) := by decide +kernel
theorem dX6_outputAt_8 : decode cX6_outputAt 8 = .ok (.invokestatic 90, 3) := by decide +kernel
theorem dX6_outputAt_11 : decode cX6_outputAt 11 = .ok (.ifCond .eq 12, 3) := by decide +kernel
theorem dX6_outputAt_14 : decode cX6_outputAt 14 = .ok (.aload_n 0, 1) := by decide +kernel
theorem dX6_outputAt_15 : decode cX6_outputAt 15 = .ok (.getfield 41, 3) := by decide +kernel
theorem dX6_outputAt_18 : decode cX6_outputAt 18 = .ok (.iload_n 1, 1) := by decide +kernel
theorem dX6_outputAt_19 : decode cX6_outputAt 19 = .ok (.iaload, 1) := by decide +kernel
theorem dX6_outputAt_20 : decode cX6_outputAt 20 = .ok (.goto 5, 3) := by decide +kernel
theorem dX6_outputAt_23 : decode cX6_outputAt 23 = .ok (.bipush (-9), 2) := by decide +kernel
theorem dX6_outputAt_25 : decode cX6_outputAt 25 = .ok (.ireturn, 1) := by decide +kernel
theorem dX6_bracketPairs_0 : decode cX6_bracketPairs 0 = .ok (.iconst 0, 1) := by decide +kernel
theorem dX6_bracketPairs_1 : decode cX6_bracketPairs 1 = .ok (.istore_n 1, 1) := by decide +kernel
theorem dX6_bracketPairs_2 : decode cX6_bracketPairs 2 = .ok (.iconst 0, 1) := by decide +kernel
theorem dX6_bracketPairs_3 : decode cX6_bracketPairs 3 = .ok (.istore_n 2, 1) := by decide +kernel
theorem dX6_bracketPairs_4 : decode cX6_bracketPairs 4 = .ok (.iload_n 2, 1) := by decide +kernel
theorem dX6_bracketPairs_5 : decode cX6_bracketPairs 5 = .ok (.aload_n 0, 1) := by decide +kernel
theorem dX6_bracketPairs_6 : decode cX6_bracketPairs 6 = .ok (.getfield 154, 3) := by decide +kernel
theorem dX6_bracketPairs_9 : decode cX6_bracketPairs 9 = .ok (.if_icmp .ge 28, 3) := by decide +kernel
theorem dX6_bracketPairs_12 : decode cX6_bracketPairs 12 = .ok (.iload_n 1, 1) := by decide +kernel
theorem dX6_bracketPairs_13 : decode cX6_bracketPairs 13 = .ok (.aload_n 0, 1) := by decide +kernel
theorem dX6_bracketPairs_14 : decode cX6_bracketPairs 14 = .ok (.getfield 41, 3) := by decide +kernel
theorem dX6_bracketPairs_17 : decode cX6_bracketPairs 17 = .ok (.iload_n 2, 1) := by decide +kernel
theorem dX6_bracketPairs_18 : decode cX6_bracketPairs 18 = .ok (.iaload, 1) := by decide +kernel
theorem dX6_bracketPairs_19 : decode cX6_bracketPairs 19 = .ok (.bipush 40, 2) := by decide +kernel
theorem dX6_bracketPairs_21 : decode cX6_bracketPairs 21 = .ok (.if_icmp .ne 7, 3) := by decide +kernel
theorem dX6_bracketPairs_24 : decode cX6_bracketPairs 24 = .ok (.iconst 1, 1) := by decide +kernel
theorem dX6_bracketPairs_25 : decode cX6_bracketPairs 25 = .ok (.goto 4, 3) := by decide +kernel
theorem dX6_bracketPairs_28 : decode cX6_bracketPairs 28 = .ok (.iconst 0, 1) := by decide +kernel
theorem dX6_bracketPairs_29 : decode cX6_bracketPairs 29 = .ok (.iadd, 1) := by decide +kernel
theorem dX6_bracketPairs_30 : decode cX6_bracketPairs 30 = .ok (.istore_n 1, 1) := by decide +kernel
theorem dX6_bracketPairs_31 : decode cX6_bracketPairs 31 = .ok (.iinc 2 1, 3) := by decide +kernel
theorem dX6_bracketPairs_34 : decode cX6_bracketPairs 34 = .ok (.goto (-30), 3) := by decide +kernel
theorem dX6_bracketPairs_37 : decode cX6_bracketPairs 37 = .ok (.iload_n 1, 1) := by decide +kernel
theorem dX6_bracketPairs_38 : decode cX6_bracketPairs 38 = .ok (.ireturn, 1) := by decide +kernel
theorem dX6_addRead_0 : decode cX6_addRead 0 = .ok (.aload_n 0, 1) := by decide +kernel
theorem dX6_addRead_1 : decode cX6_addRead 1 = .ok (.getfield 72, 3) := by decide +kernel
theorem dX6_addRead_4 : decode cX6_addRead 4 = .ok (.aload_n 0, 1) := by decide +kernel
theorem dX6_addRead_5 : decode cX6_addRead 5 = .ok (.getfield 175, 3) := by decide +kernel
theorem dX6_addRead_8 : decode cX6_addRead 8 = .ok (.iload_n 1, 1) := by decide +kernel
theorem dX6_addRead_9 : decode cX6_addRead 9 = .ok (.iastore, 1) := by decide +kernel
theorem dX6_addRead_10 : decode cX6_addRead 10 = .ok (.aload_n 0, 1) := by decide +kernel
theorem dX6_addRead_11 : decode cX6_addRead 11 = .ok (.getfield 75, 3) := by decide +kernel
theorem dX6_addRead_14 : decode cX6_addRead 14 = .ok (.aload_n 0, 1) := by decide +kernel
theorem dX6_addRead_15 : decode cX6_addRead 15 = .ok (.getfield 175, 3) := by decide +kernel
theorem dX6_addRead_18 : decode cX6_addRead 18 = .ok (.iload_n 2, 1) := by decide +kernel
theorem dX6_addRead_19 : decode cX6_addRead 19 = .ok (.iastore, 1) := by decide +kernel
theorem dX6_addRead_20 : decode cX6_addRead 20 = .ok (.aload_n 0, 1) := by decide +kernel
theorem dX6_addRead_21 : decode cX6_addRead 21 = .ok (.getfield 78, 3) := by decide +kernel
theorem dX6_addRead_24 : decode cX6_addRead 24 = .ok (.aload_n 0, 1) := by decide +kernel
theorem dX6_addRead_25 : decode cX6_addRead 25 = .ok (.getfield 175, 3) := by decide +kernel
theorem dX6_addRead_28 : decode cX6_addRead 28 = .ok (.iload_n 3, 1) := by decide +kernel
theorem dX6_addRead_29 : decode cX6_addRead 29 = .ok (.iastore, 1) := by decide +kernel
theorem dX6_addRead_30 : decode cX6_addRead 30 = .ok (.aload_n 0, 1) := by decide +kernel
theorem dX6_addRead_31 : decode cX6_addRead 31 = .ok (.getfield 81, 3) := by decide +kernel
theorem dX6_addRead_34 : decode cX6_addRead 34 = .ok (.aload_n 0, 1) := by decide +kernel
theorem dX6_addRead_35 : decode cX6_addRead 35 = .ok (.getfield 175, 3) := by decide +kernel
theorem dX6_addRead_38 : decode cX6_addRead 38 = .ok (.iload 4, 2) := by decide +kernel
theorem dX6_addRead_40 : decode cX6_addRead 40 = .ok (.iastore, 1) := by decide +kernel
theorem dX6_addRead_41 : decode cX6_addRead 41 = .ok (.aload_n 0, 1) := by decide +kernel
theorem dX6_addRead_42 : decode cX6_addRead 42 = .ok (.dup, 1) := by decide +kernel
theorem dX6_addRead_43 : decode cX6_addRead 43 = .ok (.getfield 175, 3) := by decide +kernel
theorem dX6_addRead_46 : decode cX6_addRead 46 = .ok (.iconst 1, 1) := by decide +kernel
theorem dX6_addRead_47 : decode cX6_addRead 47 = .ok (.iadd, 1) := by decide +kernel
theorem dX6_addRead_48 : decode cX6_addRead 48 = .ok (.putfield 175, 3) := by decide +kernel
theorem dX6_addRead_51 : decode cX6_addRead 51 = .ok (.aload_n 0, 1) := by decide +kernel
theorem dX6_addRead_52 : decode cX6_addRead 52 = .ok (.getfield 175, 3) := by decide +kernel
theorem dX6_addRead_55 : decode cX6_addRead 55 = .ok (.iconst 1, 1) := by decide +kernel
theorem dX6_addRead_56 : decode cX6_addRead 56 = .ok (.isub, 1) := by decide +kernel
theorem dX6_addRead_57 : decode cX6_addRead 57 = .ok (.ireturn, 1) := by decide +kernel
theorem dX6_fail_0 : decode cX6_fail 0 = .ok (.aload_n 0, 1) := by decide +kernel
theorem dX6_fail_1 : decode cX6_fail 1 = .ok (.iload_n 1, 1) := by decide +kernel
theorem dX6_fail_2 : decode cX6_fail 2 = .ok (.putfield 178, 3) := by decide +kernel
theorem dX6_fail_5 : decode cX6_fail 5 = .ok (.aload_n 0, 1) := by decide +kernel
theorem dX6_fail_6 : decode cX6_fail 6 = .ok (.iload_n 2, 1) := by decide +kernel
theorem dX6_fail_7 : decode cX6_fail 7 = .ok (.putfield 181, 3) := by decide +kernel
theorem dX6_fail_10 : decode cX6_fail 10 = .ok (.return_, 1) := by decide +kernel
theorem dX6_openCall_0 : decode cX6_openCall 0 = .ok (.aload_n 0, 1) := by decide +kernel
theorem dX6_openCall_1 : decode cX6_openCall 1 = .ok (.getfield 84, 3) := by decide +kernel
theorem dX6_openCall_4 : decode cX6_openCall 4 = .ok (.iconst 5, 1) := by decide +kernel
theorem dX6_openCall_5 : decode cX6_openCall 5 = .ok (.aload_n 0, 1) := by decide +kernel
theorem dX6_openCall_6 : decode cX6_openCall 6 = .ok (.getfield 184, 3) := by decide +kernel
theorem dX6_openCall_9 : decode cX6_openCall 9 = .ok (.imul, 1) := by decide +kernel
theorem dX6_openCall_10 : decode cX6_openCall 10 = .ok (.iload_n 1, 1) := by decide +kernel
theorem dX6_openCall_11 : decode cX6_openCall 11 = .ok (.iastore, 1) := by decide +kernel
theorem dX6_openCall_12 : decode cX6_openCall 12 = .ok (.aload_n 0, 1) := by decide +kernel
theorem dX6_openCall_13 : decode cX6_openCall 13 = .ok (.getfield 84, 3) := by decide +kernel
theorem dX6_openCall_16 : decode cX6_openCall 16 = .ok (.iconst 5, 1) := by decide +kernel
theorem dX6_openCall_17 : decode cX6_openCall 17 = .ok (.aload_n 0, 1) := by decide +kernel
theorem dX6_openCall_18 : decode cX6_openCall 18 = .ok (.getfield 184, 3) := by decide +kernel
theorem dX6_openCall_21 : decode cX6_openCall 21 = .ok (.imul, 1) := by decide +kernel
theorem dX6_openCall_22 : decode cX6_openCall 22 = .ok (.iconst 1, 1) := by decide +kernel
theorem dX6_openCall_23 : decode cX6_openCall 23 = .ok (.iadd, 1) := by decide +kernel
theorem dX6_openCall_24 : decode cX6_openCall 24 = .ok (.iload_n 2, 1) := by decide +kernel
theorem dX6_openCall_25 : decode cX6_openCall 25 = .ok (.iastore, 1) := by decide +kernel
theorem dX6_openCall_26 : decode cX6_openCall 26 = .ok (.aload_n 0, 1) := by decide +kernel
theorem dX6_openCall_27 : decode cX6_openCall 27 = .ok (.getfield 84, 3) := by decide +kernel
theorem dX6_openCall_30 : decode cX6_openCall 30 = .ok (.iconst 5, 1) := by decide +kernel
theorem dX6_openCall_31 : decode cX6_openCall 31 = .ok (.aload_n 0, 1) := by decide +kernel
theorem dX6_openCall_32 : decode cX6_openCall 32 = .ok (.getfield 184, 3) := by decide +kernel
theorem dX6_openCall_35 : decode cX6_openCall 35 = .ok (.imul, 1) := by decide +kernel
theorem dX6_openCall_36 : decode cX6_openCall 36 = .ok (.iconst 2, 1) := by decide +kernel
theorem dX6_openCall_37 : decode cX6_openCall 37 = .ok (.iadd, 1) := by decide +kernel
theorem dX6_openCall_38 : decode cX6_openCall 38 = .ok (.aload_n 0, 1) := by decide +kernel
theorem dX6_openCall_39 : decode cX6_openCall 39 = .ok (.getfield 187, 3) := by decide +kernel
theorem dX6_openCall_42 : decode cX6_openCall 42 = .ok (.iastore, 1) := by decide +kernel
theorem dX6_openCall_43 : decode cX6_openCall 43 = .ok (.aload_n 0, 1) := by decide +kernel
theorem dX6_openCall_44 : decode cX6_openCall 44 = .ok (.getfield 84, 3) := by decide +kernel
theorem dX6_openCall_47 : decode cX6_openCall 47 = .ok (.iconst 5, 1) := by decide +kernel
theorem dX6_openCall_48 : decode cX6_openCall 48 = .ok (.aload_n 0, 1) := by decide +kernel
theorem dX6_openCall_49 : decode cX6_openCall 49 = .ok (.getfield 184, 3) := by decide +kernel
theorem dX6_openCall_52 : decode cX6_openCall 52 = .ok (.imul, 1) := by decide +kernel
theorem dX6_openCall_53 : decode cX6_openCall 53 = .ok (.iconst 3, 1) := by decide +kernel
theorem dX6_openCall_54 : decode cX6_openCall 54 = .ok (.iadd, 1) := by decide +kernel
theorem dX6_openCall_55 : decode cX6_openCall 55 = .ok (.iload_n 3, 1) := by decide +kernel
theorem dX6_openCall_56 : decode cX6_openCall 56 = .ok (.iastore, 1) := by decide +kernel
theorem dX6_openCall_57 : decode cX6_openCall 57 = .ok (.aload_n 0, 1) := by decide +kernel
theorem dX6_openCall_58 : decode cX6_openCall 58 = .ok (.getfield 84, 3) := by decide +kernel
theorem dX6_openCall_61 : decode cX6_openCall 61 = .ok (.iconst 5, 1) := by decide +kernel
theorem dX6_openCall_62 : decode cX6_openCall 62 = .ok (.aload_n 0, 1) := by decide +kernel
theorem dX6_openCall_63 : decode cX6_openCall 63 = .ok (.getfield 184, 3) := by decide +kernel
theorem dX6_openCall_66 : decode cX6_openCall 66 = .ok (.imul, 1) := by decide +kernel
theorem dX6_openCall_67 : decode cX6_openCall 67 = .ok (.iconst 4, 1) := by decide +kernel
theorem dX6_openCall_68 : decode cX6_openCall 68 = .ok (.iadd, 1) := by decide +kernel
theorem dX6_openCall_69 : decode cX6_openCall 69 = .ok (.aload_n 0, 1) := by decide +kernel
theorem dX6_openCall_70 : decode cX6_openCall 70 = .ok (.getfield 190, 3) := by decide +kernel
theorem dX6_openCall_73 : decode cX6_openCall 73 = .ok (.iastore, 1) := by decide +kernel
theorem dX6_openCall_74 : decode cX6_openCall 74 = .ok (.aload_n 0, 1) := by decide +kernel
theorem dX6_openCall_75 : decode cX6_openCall 75 = .ok (.dup, 1) := by decide +kernel
theorem dX6_openCall_76 : decode cX6_openCall 76 = .ok (.getfield 184, 3) := by decide +kernel
theorem dX6_openCall_79 : decode cX6_openCall 79 = .ok (.iconst 1, 1) := by decide +kernel
theorem dX6_openCall_80 : decode cX6_openCall 80 = .ok (.iadd, 1) := by decide +kernel
theorem dX6_openCall_81 : decode cX6_openCall 81 = .ok (.putfield 184, 3) := by decide +kernel
theorem dX6_openCall_84 : decode cX6_openCall 84 = .ok (.aload_n 0, 1) := by decide +kernel
theorem dX6_openCall_85 : decode cX6_openCall 85 = .ok (.iload 4, 2) := by decide +kernel
theorem dX6_openCall_87 : decode cX6_openCall 87 = .ok (.putfield 190, 3) := by decide +kernel
theorem dX6_openCall_90 : decode cX6_openCall 90 = .ok (.aload_n 0, 1) := by decide +kernel
theorem dX6_openCall_91 : decode cX6_openCall 91 = .ok (.dup, 1) := by decide +kernel
theorem dX6_openCall_92 : decode cX6_openCall 92 = .ok (.getfield 187, 3) := by decide +kernel
theorem dX6_openCall_95 : decode cX6_openCall 95 = .ok (.iconst 1, 1) := by decide +kernel
theorem dX6_openCall_96 : decode cX6_openCall 96 = .ok (.iadd, 1) := by decide +kernel
theorem dX6_openCall_97 : decode cX6_openCall 97 = .ok (.putfield 187, 3) := by decide +kernel
theorem dX6_openCall_100 : decode cX6_openCall 100 = .ok (.aload_n 0, 1) := by decide +kernel
theorem dX6_openCall_101 : decode cX6_openCall 101 = .ok (.iconst 1, 1) := by decide +kernel
theorem dX6_openCall_102 : decode cX6_openCall 102 = .ok (.putfield 193, 3) := by decide +kernel
theorem dX6_openCall_105 : decode cX6_openCall 105 = .ok (.return_, 1) := by decide +kernel
theorem dX6_readOperand_0 : decode cX6_readOperand 0 = .ok (.aload_n 0, 1) := by decide +kernel
theorem dX6_readOperand_1 : decode cX6_readOperand 1 = .ok (.getfield 187, 3) := by decide +kernel
theorem dX6_readOperand_4 : decode cX6_readOperand 4 = .ok (.aload_n 0, 1) := by decide +kernel
theorem dX6_readOperand_5 : decode cX6_readOperand 5 = .ok (.getfield 197, 3) := by decide +kernel
theorem dX6_readOperand_8 : decode cX6_readOperand 8 = .ok (.if_icmp .ge 15, 3) := by decide +kernel
theorem dX6_readOperand_11 : decode cX6_readOperand 11 = .ok (.aload_n 0, 1) := by decide +kernel
theorem dX6_readOperand_12 : decode cX6_readOperand 12 = .ok (.getfield 69, 3) := by decide +kernel
theorem dX6_readOperand_15 : decode cX6_readOperand 15 = .ok (.aload_n 0, 1) := by decide +kernel
theorem dX6_readOperand_16 : decode cX6_readOperand 16 = .ok (.getfield 187, 3) := by decide +kernel
theorem dX6_readOperand_19 : decode cX6_readOperand 19 = .ok (.iaload, 1) := by decide +kernel
theorem dX6_readOperand_20 : decode cX6_readOperand 20 = .ok (.goto 5, 3) := by decide +kernel
theorem dX6_readOperand_23 : decode cX6_readOperand 23 = .ok (.bipush (-10), 2) := by decide +kernel
theorem dX6_readOperand_25 : decode cX6_readOperand 25 = .ok (.istore_n 1, 1) := by decide +kernel
theorem dX6_readOperand_26 : decode cX6_readOperand 26 = .ok (.iload_n 1, 1) := by decide +kernel
theorem dX6_readOperand_27 : decode cX6_readOperand 27 = .ok (.ifCond .ge 8, 3) := by decide +kernel
theorem dX6_readOperand_30 : decode cX6_readOperand 30 = .ok (.bipush (-10), 2) := by decide +kernel
theorem dX6_readOperand_32 : decode cX6_readOperand 32 = .ok (.goto 9, 3) := by decide +kernel
theorem dX6_readOperand_35 : decode cX6_readOperand 35 = .ok (.aload_n 0, 1) := by decide +kernel
theorem dX6_readOperand_36 : decode cX6_readOperand 36 = .ok (.iload_n 1, 1) := by decide +kernel
theorem dX6_readOperand_37 : decode cX6_readOperand 37 = .ok (.iconst 1, 1) := by decide +kernel
theorem dX6_readOperand_38 : decode cX6_readOperand 38 = .ok (.invokevirtual 101, 3) := by decide +kernel
theorem dX6_readOperand_41 : decode cX6_readOperand 41 = .ok (.istore_n 2, 1) := by decide +kernel
theorem dX6_readOperand_42 : decode cX6_readOperand 42 = .ok (.iload_n 1, 1) := by decide +kernel
theorem dX6_readOperand_43 : decode cX6_readOperand 43 = .ok (.invokestatic 97, 3) := by decide +kernel
theorem dX6_readOperand_46 : decode cX6_readOperand 46 = .ok (.ifCond .eq 41, 3) := by decide +kernel
theorem dX6_readOperand_49 : decode cX6_readOperand 49 = .ok (.aload_n 0, 1) := by decide +kernel
theorem dX6_readOperand_50 : decode cX6_readOperand 50 = .ok (.aload_n 0, 1) := by decide +kernel
theorem dX6_readOperand_51 : decode cX6_readOperand 51 = .ok (.bipush (-10), 2) := by decide +kernel
theorem dX6_readOperand_53 : decode cX6_readOperand 53 = .ok (.iload_n 1, 1) := by decide +kernel
theorem dX6_readOperand_54 : decode cX6_readOperand 54 = .ok (.bipush (-10), 2) := by decide +kernel
theorem dX6_readOperand_56 : decode cX6_readOperand 56 = .ok (.bipush (-10), 2) := by decide +kernel
theorem dX6_readOperand_58 : decode cX6_readOperand 58 = .ok (.invokevirtual 200, 3) := by decide +kernel
theorem dX6_readOperand_61 : decode cX6_readOperand 61 = .ok (.putfield 203, 3) := by decide +kernel
theorem dX6_readOperand_64 : decode cX6_readOperand 64 = .ok (.aload_n 0, 1) := by decide +kernel
theorem dX6_readOperand_65 : decode cX6_readOperand 65 = .ok (.iconst 0, 1) := by decide +kernel
theorem dX6_readOperand_66 : decode cX6_readOperand 66 = .ok (.putfield 206, 3) := by decide +kernel
theorem dX6_readOperand_69 : decode cX6_readOperand 69 = .ok (.aload_n 0, 1) := by decide +kernel
theorem dX6_readOperand_70 : decode cX6_readOperand 70 = .ok (.iconst 0, 1) := by decide +kernel
theorem dX6_readOperand_71 : decode cX6_readOperand 71 = .ok (.putfield 193, 3) := by decide +kernel
theorem dX6_readOperand_74 : decode cX6_readOperand 74 = .ok (.aload_n 0, 1) := by decide +kernel
theorem dX6_readOperand_75 : decode cX6_readOperand 75 = .ok (.dup, 1) := by decide +kernel
theorem dX6_readOperand_76 : decode cX6_readOperand 76 = .ok (.getfield 187, 3) := by decide +kernel
theorem dX6_readOperand_79 : decode cX6_readOperand 79 = .ok (.iconst 1, 1) := by decide +kernel
theorem dX6_readOperand_80 : decode cX6_readOperand 80 = .ok (.iadd, 1) := by decide +kernel
theorem dX6_readOperand_81 : decode cX6_readOperand 81 = .ok (.putfield 187, 3) := by decide +kernel
theorem dX6_readOperand_84 : decode cX6_readOperand 84 = .ok (.goto 53, 3) := by decide +kernel
theorem dX6_readOperand_87 : decode cX6_readOperand 87 = .ok (.iload_n 1, 1) := by decide +kernel
theorem dX6_readOperand_88 : decode cX6_readOperand 88 = .ok (.bipush 40, 2) := by decide +kernel
theorem dX6_readOperand_90 : decode cX6_readOperand 90 = .ok (.if_icmp .ne 17, 3) := by decide +kernel
theorem dX6_readOperand_93 : decode cX6_readOperand 93 = .ok (.aload_n 0, 1) := by decide +kernel
theorem dX6_readOperand_94 : decode cX6_readOperand 94 = .ok (.bipush 40, 2) := by decide +kernel
theorem dX6_readOperand_96 : decode cX6_readOperand 96 = .ok (.bipush (-10), 2) := by decide +kernel
theorem dX6_readOperand_98 : decode cX6_readOperand 98 = .ok (.bipush (-10), 2) := by decide +kernel
theorem dX6_readOperand_100 : decode cX6_readOperand 100 = .ok (.iconst 0, 1) := by decide +kernel
theorem dX6_readOperand_101 : decode cX6_readOperand 101 = .ok (.invokevirtual 209, 3) := by decide +kernel
theorem dX6_readOperand_104 : decode cX6_readOperand 104 = .ok (.goto 33, 3) := by decide +kernel
theorem dX6_readOperand_107 : decode cX6_readOperand 107 = .ok (.iload_n 2, 1) := by decide +kernel
theorem dX6_readOperand_108 : decode cX6_readOperand 108 = .ok (.ifCond .lt 20, 3) := by decide +kernel
theorem dX6_readOperand_111 : decode cX6_readOperand 111 = .ok (.aload_n 0, 1) := by decide +kernel
theorem dX6_readOperand_112 : decode cX6_readOperand 112 = .ok (.iconst 1, 1) := by decide +kernel
theorem dX6_readOperand_113 : decode cX6_readOperand 113 = .ok (.iload_n 2, 1) := by decide +kernel
theorem dX6_readOperand_114 : decode cX6_readOperand 114 = .ok (.bipush (-10), 2) := by decide +kernel
theorem dX6_readOperand_116 : decode cX6_readOperand 116 = .ok (.aload_n 0, 1) := by decide +kernel
theorem dX6_readOperand_117 : decode cX6_readOperand 117 = .ok (.getfield 16, 3) := by decide +kernel
theorem dX6_readOperand_120 : decode cX6_readOperand 120 = .ok (.iload_n 2, 1) := by decide +kernel
theorem dX6_readOperand_121 : decode cX6_readOperand 121 = .ok (.iaload, 1) := by decide +kernel
theorem dX6_readOperand_122 : decode cX6_readOperand 122 = .ok (.invokevirtual 209, 3) := by decide +kernel
theorem dX6_readOperand_125 : decode cX6_readOperand 125 = .ok (.goto 12, 3) := by decide +kernel
theorem dX6_readOperand_128 : decode cX6_readOperand 128 = .ok (.aload_n 0, 1) := by decide +kernel
theorem dX6_readOperand_129 : decode cX6_readOperand 129 = .ok (.iconst 1, 1) := by decide +kernel
theorem dX6_readOperand_130 : decode cX6_readOperand 130 = .ok (.aload_n 0, 1) := by decide +kernel
theorem dX6_readOperand_131 : decode cX6_readOperand 131 = .ok (.getfield 187, 3) := by decide +kernel
theorem dX6_readOperand_134 : decode cX6_readOperand 134 = .ok (.invokevirtual 212, 3) := by decide +kernel
theorem dX6_readOperand_137 : decode cX6_readOperand 137 = .ok (.return_, 1) := by decide +kernel
theorem dX6_isBareAndBarred_0 : decode cX6_isBareAndBarred 0 = .ok (.aload_n 0, 1) := by decide +kernel
theorem dX6_isBareAndBarred_1 : decode cX6_isBareAndBarred 1 = .ok (.getfield 206, 3) := by decide +kernel
theorem dX6_isBareAndBarred_4 : decode cX6_isBareAndBarred 4 = .ok (.ifCond .ne 24, 3) := by decide +kernel
theorem dX6_isBareAndBarred_7 : decode cX6_isBareAndBarred 7 = .ok (.aload_n 0, 1) := by decide +kernel
theorem dX6_isBareAndBarred_8 : decode cX6_isBareAndBarred 8 = .ok (.iload_n 1, 1) := by decide +kernel
theorem dX6_isBareAndBarred_9 : decode cX6_isBareAndBarred 9 = .ok (.aload_n 0, 1) := by decide +kernel
theorem dX6_isBareAndBarred_10 : decode cX6_isBareAndBarred 10 = .ok (.getfield 72, 3) := by decide +kernel
theorem dX6_isBareAndBarred_13 : decode cX6_isBareAndBarred 13 = .ok (.aload_n 0, 1) := by decide +kernel
theorem dX6_isBareAndBarred_14 : decode cX6_isBareAndBarred 14 = .ok (.getfield 203, 3) := by decide +kernel
theorem dX6_isBareAndBarred_17 : decode cX6_isBareAndBarred 17 = .ok (.iaload, 1) := by decide +kernel
theorem dX6_isBareAndBarred_18 : decode cX6_isBareAndBarred 18 = .ok (.invokevirtual 119, 3) := by decide +kernel
theorem dX6_isBareAndBarred_21 : decode cX6_isBareAndBarred 21 = .ok (.ifCond .eq 7, 3) := by decide +kernel
theorem dX6_isBareAndBarred_24 : decode cX6_isBareAndBarred 24 = .ok (.iconst 1, 1) := by decide +kernel
theorem dX6_isBareAndBarred_25 : decode cX6_isBareAndBarred 25 = .ok (.goto 4, 3) := by decide +kernel
theorem dX6_isBareAndBarred_28 : decode cX6_isBareAndBarred 28 = .ok (.iconst 0, 1) := by decide +kernel
theorem dX6_isBareAndBarred_29 : decode cX6_isBareAndBarred 29 = .ok (.ireturn, 1) := by decide +kernel
theorem dX6_readPostfix_0 : decode cX6_readPostfix 0 = .ok (.aload_n 0, 1) := by decide +kernel
theorem dX6_readPostfix_1 : decode cX6_readPostfix 1 = .ok (.iload_n 1, 1) := by decide +kernel
theorem dX6_readPostfix_2 : decode cX6_readPostfix 2 = .ok (.invokevirtual 216, 3) := by decide +kernel
theorem dX6_readPostfix_5 : decode cX6_readPostfix 5 = .ok (.ifCond .eq 14, 3) := by decide +kernel
theorem dX6_readPostfix_8 : decode cX6_readPostfix 8 = .ok (.aload_n 0, 1) := by decide +kernel
theorem dX6_readPostfix_9 : decode cX6_readPostfix 9 = .ok (.bipush 6, 2) := by decide +kernel
theorem dX6_readPostfix_11 : decode cX6_readPostfix 11 = .ok (.aload_n 0, 1) := by decide +kernel
theorem dX6_readPostfix_12 : decode cX6_readPostfix 12 = .ok (.getfield 187, 3) := by decide +kernel
theorem dX6_readPostfix_15 : decode cX6_readPostfix 15 = .ok (.invokevirtual 212, 3) := by decide +kernel
theorem dX6_readPostfix_18 : decode cX6_readPostfix 18 = .ok (.return_, 1) := by decide +kernel
theorem dX6_readPostfix_19 : decode cX6_readPostfix 19 = .ok (.aload_n 0, 1) := by decide +kernel
theorem dX6_readPostfix_20 : decode cX6_readPostfix 20 = .ok (.aload_n 0, 1) := by decide +kernel
theorem dX6_readPostfix_21 : decode cX6_readPostfix 21 = .ok (.iload_n 1, 1) := by decide +kernel
theorem dX6_readPostfix_22 : decode cX6_readPostfix 22 = .ok (.bipush (-10), 2) := by decide +kernel
theorem dX6_readPostfix_24 : decode cX6_readPostfix 24 = .ok (.aload_n 0, 1) := by decide +kernel
theorem dX6_readPostfix_25 : decode cX6_readPostfix 25 = .ok (.getfield 203, 3) := by decide +kernel
theorem dX6_readPostfix_28 : decode cX6_readPostfix 28 = .ok (.bipush (-10), 2) := by decide +kernel
theorem dX6_readPostfix_30 : decode cX6_readPostfix 30 = .ok (.invokevirtual 200, 3) := by decide +kernel
theorem dX6_readPostfix_33 : decode cX6_readPostfix 33 = .ok (.putfield 203, 3) := by decide +kernel
theorem dX6_readPostfix_36 : decode cX6_readPostfix 36 = .ok (.aload_n 0, 1) := by decide +kernel
theorem dX6_readPostfix_37 : decode cX6_readPostfix 37 = .ok (.iconst 0, 1) := by decide +kernel
theorem dX6_readPostfix_38 : decode cX6_readPostfix 38 = .ok (.putfield 206, 3) := by decide +kernel
theorem dX6_readPostfix_41 : decode cX6_readPostfix 41 = .ok (.aload_n 0, 1) := by decide +kernel
theorem dX6_readPostfix_42 : decode cX6_readPostfix 42 = .ok (.dup, 1) := by decide +kernel
theorem dX6_readPostfix_43 : decode cX6_readPostfix 43 = .ok (.getfield 187, 3) := by decide +kernel
theorem dX6_readPostfix_46 : decode cX6_readPostfix 46 = .ok (.iconst 1, 1) := by decide +kernel
theorem dX6_readPostfix_47 : decode cX6_readPostfix 47 = .ok (.iadd, 1) := by decide +kernel
theorem dX6_readPostfix_48 : decode cX6_readPostfix 48 = .ok (.putfield 187, 3) := by decide +kernel
theorem dX6_readPostfix_51 : decode cX6_readPostfix 51 = .ok (.return_, 1) := by decide +kernel
theorem dX6_readInfix_0 : decode cX6_readInfix 0 = .ok (.aload_n 0, 1) := by decide +kernel
theorem dX6_readInfix_1 : decode cX6_readInfix 1 = .ok (.getfield 206, 3) := by decide +kernel
theorem dX6_readInfix_4 : decode cX6_readInfix 4 = .ok (.ifCond .ne 32, 3) := by decide +kernel
theorem dX6_readInfix_7 : decode cX6_readInfix 7 = .ok (.aload_n 0, 1) := by decide +kernel
theorem dX6_readInfix_8 : decode cX6_readInfix 8 = .ok (.iload_n 1, 1) := by decide +kernel
theorem dX6_readInfix_9 : decode cX6_readInfix 9 = .ok (.aload_n 0, 1) := by decide +kernel
theorem dX6_readInfix_10 : decode cX6_readInfix 10 = .ok (.getfield 72, 3) := by decide +kernel
theorem dX6_readInfix_13 : decode cX6_readInfix 13 = .ok (.aload_n 0, 1) := by decide +kernel
theorem dX6_readInfix_14 : decode cX6_readInfix 14 = .ok (.getfield 203, 3) := by decide +kernel
theorem dX6_readInfix_17 : decode cX6_readInfix 17 = .ok (.iaload, 1) := by decide +kernel
theorem dX6_readInfix_18 : decode cX6_readInfix 18 = .ok (.invokevirtual 123, 3) := by decide +kernel
theorem dX6_readInfix_21 : decode cX6_readInfix 21 = .ok (.ifCond .eq 15, 3) := by decide +kernel
theorem dX6_readInfix_24 : decode cX6_readInfix 24 = .ok (.aload_n 0, 1) := by decide +kernel
theorem dX6_readInfix_25 : decode cX6_readInfix 25 = .ok (.iconst 5, 1) := by decide +kernel
theorem dX6_readInfix_26 : decode cX6_readInfix 26 = .ok (.aload_n 0, 1) := by decide +kernel
theorem dX6_readInfix_27 : decode cX6_readInfix 27 = .ok (.getfield 187, 3) := by decide +kernel
theorem dX6_readInfix_30 : decode cX6_readInfix 30 = .ok (.invokevirtual 212, 3) := by decide +kernel
theorem dX6_readInfix_33 : decode cX6_readInfix 33 = .ok (.goto 39, 3) := by decide +kernel
theorem dX6_readInfix_36 : decode cX6_readInfix 36 = .ok (.aload_n 0, 1) := by decide +kernel
theorem dX6_readInfix_37 : decode cX6_readInfix 37 = .ok (.iload_n 1, 1) := by decide +kernel
theorem dX6_readInfix_38 : decode cX6_readInfix 38 = .ok (.invokevirtual 216, 3) := by decide +kernel
theorem dX6_readInfix_41 : decode cX6_readInfix 41 = .ok (.ifCond .eq 16, 3) := by decide +kernel
theorem dX6_readInfix_44 : decode cX6_readInfix 44 = .ok (.aload_n 0, 1) := by decide +kernel
theorem dX6_readInfix_45 : decode cX6_readInfix 45 = .ok (.bipush 6, 2) := by decide +kernel
theorem dX6_readInfix_47 : decode cX6_readInfix 47 = .ok (.aload_n 0, 1) := by decide +kernel
theorem dX6_readInfix_48 : decode cX6_readInfix 48 = .ok (.getfield 187, 3) := by decide +kernel
theorem dX6_readInfix_51 : decode cX6_readInfix 51 = .ok (.invokevirtual 212, 3) := by decide +kernel
theorem dX6_readInfix_54 : decode cX6_readInfix 54 = .ok (.goto 18, 3) := by decide +kernel
theorem dX6_readInfix_57 : decode cX6_readInfix 57 = .ok (.aload_n 0, 1) := by decide +kernel
theorem dX6_readInfix_58 : decode cX6_readInfix 58 = .ok (.iconst 0, 1) := by decide +kernel
theorem dX6_readInfix_59 : decode cX6_readInfix 59 = .ok (.iload_n 1, 1) := by decide +kernel
theorem dX6_readInfix_60 : decode cX6_readInfix 60 = .ok (.aload_n 0, 1) := by decide +kernel
theorem dX6_readInfix_61 : decode cX6_readInfix 61 = .ok (.getfield 203, 3) := by decide +kernel
theorem dX6_readInfix_64 : decode cX6_readInfix 64 = .ok (.aload_n 0, 1) := by decide +kernel
theorem dX6_readInfix_65 : decode cX6_readInfix 65 = .ok (.iload_n 1, 1) := by decide +kernel
theorem dX6_readInfix_66 : decode cX6_readInfix 66 = .ok (.invokevirtual 140, 3) := by decide +kernel
theorem dX6_readInfix_69 : decode cX6_readInfix 69 = .ok (.invokevirtual 209, 3) := by decide +kernel
theorem dX6_readInfix_72 : decode cX6_readInfix 72 = .ok (.return_, 1) := by decide +kernel
theorem dX6_endCall_0 : decode cX6_endCall 0 = .ok (.aload_n 0, 1) := by decide +kernel
theorem dX6_endCall_1 : decode cX6_endCall 1 = .ok (.dup, 1) := by decide +kernel
theorem dX6_endCall_2 : decode cX6_endCall 2 = .ok (.getfield 184, 3) := by decide +kernel
theorem dX6_endCall_5 : decode cX6_endCall 5 = .ok (.iconst 1, 1) := by decide +kernel
theorem dX6_endCall_6 : decode cX6_endCall 6 = .ok (.isub, 1) := by decide +kernel
theorem dX6_endCall_7 : decode cX6_endCall 7 = .ok (.putfield 184, 3) := by decide +kernel
theorem dX6_endCall_10 : decode cX6_endCall 10 = .ok (.aload_n 0, 1) := by decide +kernel
theorem dX6_endCall_11 : decode cX6_endCall 11 = .ok (.getfield 84, 3) := by decide +kernel
theorem dX6_endCall_14 : decode cX6_endCall 14 = .ok (.iconst 5, 1) := by decide +kernel
theorem dX6_endCall_15 : decode cX6_endCall 15 = .ok (.aload_n 0, 1) := by decide +kernel
theorem dX6_endCall_16 : decode cX6_endCall 16 = .ok (.getfield 184, 3) := by decide +kernel
theorem dX6_endCall_19 : decode cX6_endCall 19 = .ok (.imul, 1) := by decide +kernel
theorem dX6_endCall_20 : decode cX6_endCall 20 = .ok (.iaload, 1) := by decide +kernel
theorem dX6_endCall_21 : decode cX6_endCall 21 = .ok (.istore_n 1, 1) := by decide +kernel
theorem dX6_endCall_22 : decode cX6_endCall 22 = .ok (.aload_n 0, 1) := by decide +kernel
theorem dX6_endCall_23 : decode cX6_endCall 23 = .ok (.getfield 84, 3) := by decide +kernel
theorem dX6_endCall_26 : decode cX6_endCall 26 = .ok (.iconst 5, 1) := by decide +kernel
theorem dX6_endCall_27 : decode cX6_endCall 27 = .ok (.aload_n 0, 1) := by decide +kernel
theorem dX6_endCall_28 : decode cX6_endCall 28 = .ok (.getfield 184, 3) := by decide +kernel
theorem dX6_endCall_31 : decode cX6_endCall 31 = .ok (.imul, 1) := by decide +kernel
theorem dX6_endCall_32 : decode cX6_endCall 32 = .ok (.iconst 1, 1) := by decide +kernel
theorem dX6_endCall_33 : decode cX6_endCall 33 = .ok (.iadd, 1) := by decide +kernel
theorem dX6_endCall_34 : decode cX6_endCall 34 = .ok (.iaload, 1) := by decide +kernel
theorem dX6_endCall_35 : decode cX6_endCall 35 = .ok (.istore_n 2, 1) := by decide +kernel
theorem dX6_endCall_36 : decode cX6_endCall 36 = .ok (.aload_n 0, 1) := by decide +kernel
theorem dX6_endCall_37 : decode cX6_endCall 37 = .ok (.getfield 84, 3) := by decide +kernel
theorem dX6_endCall_40 : decode cX6_endCall 40 = .ok (.iconst 5, 1) := by decide +kernel
theorem dX6_endCall_41 : decode cX6_endCall 41 = .ok (.aload_n 0, 1) := by decide +kernel
theorem dX6_endCall_42 : decode cX6_endCall 42 = .ok (.getfield 184, 3) := by decide +kernel
theorem dX6_endCall_45 : decode cX6_endCall 45 = .ok (.imul, 1) := by decide +kernel
theorem dX6_endCall_46 : decode cX6_endCall 46 = .ok (.iconst 2, 1) := by decide +kernel
theorem dX6_endCall_47 : decode cX6_endCall 47 = .ok (.iadd, 1) := by decide +kernel
theorem dX6_endCall_48 : decode cX6_endCall 48 = .ok (.iaload, 1) := by decide +kernel
theorem dX6_endCall_49 : decode cX6_endCall 49 = .ok (.istore_n 3, 1) := by decide +kernel
theorem dX6_endCall_50 : decode cX6_endCall 50 = .ok (.iload_n 1, 1) := by decide +kernel
theorem dX6_endCall_51 : decode cX6_endCall 51 = .ok (.bipush 40, 2) := by decide +kernel
theorem dX6_endCall_53 : decode cX6_endCall 53 = .ok (.if_icmp .ne 41, 3) := by decide +kernel
theorem dX6_endCall_56 : decode cX6_endCall 56 = .ok (.aload_n 0, 1) := by decide +kernel
theorem dX6_endCall_57 : decode cX6_endCall 57 = .ok (.getfield 187, 3) := by decide +kernel
theorem dX6_endCall_60 : decode cX6_endCall 60 = .ok (.aload_n 0, 1) := by decide +kernel
theorem dX6_endCall_61 : decode cX6_endCall 61 = .ok (.getfield 197, 3) := by decide +kernel
theorem dX6_endCall_64 : decode cX6_endCall 64 = .ok (.if_icmp .ne 12, 3) := by decide +kernel
theorem dX6_endCall_67 : decode cX6_endCall 67 = .ok (.aload_n 0, 1) := by decide +kernel
theorem dX6_endCall_68 : decode cX6_endCall 68 = .ok (.iconst 3, 1) := by decide +kernel
theorem dX6_endCall_69 : decode cX6_endCall 69 = .ok (.aload_n 0, 1) := by decide +kernel
theorem dX6_endCall_70 : decode cX6_endCall 70 = .ok (.getfield 187, 3) := by decide +kernel
theorem dX6_endCall_73 : decode cX6_endCall 73 = .ok (.invokevirtual 212, 3) := by decide +kernel
theorem dX6_endCall_76 : decode cX6_endCall 76 = .ok (.aload_n 0, 1) := by decide +kernel
theorem dX6_endCall_77 : decode cX6_endCall 77 = .ok (.dup, 1) := by decide +kernel
theorem dX6_endCall_78 : decode cX6_endCall 78 = .ok (.getfield 187, 3) := by decide +kernel
theorem dX6_endCall_81 : decode cX6_endCall 81 = .ok (.iconst 1, 1) := by decide +kernel
theorem dX6_endCall_82 : decode cX6_endCall 82 = .ok (.iadd, 1) := by decide +kernel
theorem dX6_endCall_83 : decode cX6_endCall 83 = .ok (.putfield 187, 3) := by decide +kernel
theorem dX6_endCall_86 : decode cX6_endCall 86 = .ok (.aload_n 0, 1) := by decide +kernel
theorem dX6_endCall_87 : decode cX6_endCall 87 = .ok (.iconst 1, 1) := by decide +kernel
theorem dX6_endCall_88 : decode cX6_endCall 88 = .ok (.putfield 206, 3) := by decide +kernel
theorem dX6_endCall_91 : decode cX6_endCall 91 = .ok (.goto 75, 3) := by decide +kernel
theorem dX6_endCall_94 : decode cX6_endCall 94 = .ok (.aload_n 0, 1) := by decide +kernel
theorem dX6_endCall_95 : decode cX6_endCall 95 = .ok (.iload_n 2, 1) := by decide +kernel
theorem dX6_endCall_96 : decode cX6_endCall 96 = .ok (.invokevirtual 216, 3) := by decide +kernel
theorem dX6_endCall_99 : decode cX6_endCall 99 = .ok (.ifCond .eq 13, 3) := by decide +kernel
theorem dX6_endCall_102 : decode cX6_endCall 102 = .ok (.aload_n 0, 1) := by decide +kernel
theorem dX6_endCall_103 : decode cX6_endCall 103 = .ok (.bipush 6, 2) := by decide +kernel
theorem dX6_endCall_105 : decode cX6_endCall 105 = .ok (.iload_n 3, 1) := by decide +kernel
theorem dX6_endCall_106 : decode cX6_endCall 106 = .ok (.invokevirtual 212, 3) := by decide +kernel
theorem dX6_endCall_109 : decode cX6_endCall 109 = .ok (.goto 57, 3) := by decide +kernel
theorem dX6_endCall_112 : decode cX6_endCall 112 = .ok (.aload_n 0, 1) := by decide +kernel
theorem dX6_endCall_113 : decode cX6_endCall 113 = .ok (.iload_n 1, 1) := by decide +kernel
theorem dX6_endCall_114 : decode cX6_endCall 114 = .ok (.iconst 1, 1) := by decide +kernel
theorem dX6_endCall_115 : decode cX6_endCall 115 = .ok (.if_icmp .ne 19, 3) := by decide +kernel
theorem dX6_endCall_118 : decode cX6_endCall 118 = .ok (.aload_n 0, 1) := by decide +kernel
theorem dX6_endCall_119 : decode cX6_endCall 119 = .ok (.iload_n 2, 1) := by decide +kernel
theorem dX6_endCall_120 : decode cX6_endCall 120 = .ok (.bipush (-10), 2) := by decide +kernel
theorem dX6_endCall_122 : decode cX6_endCall 122 = .ok (.aload_n 0, 1) := by decide +kernel
theorem dX6_endCall_123 : decode cX6_endCall 123 = .ok (.getfield 203, 3) := by decide +kernel
theorem dX6_endCall_126 : decode cX6_endCall 126 = .ok (.bipush (-10), 2) := by decide +kernel
theorem dX6_endCall_128 : decode cX6_endCall 128 = .ok (.invokevirtual 200, 3) := by decide +kernel
theorem dX6_endCall_131 : decode cX6_endCall 131 = .ok (.goto 27, 3) := by decide +kernel
theorem dX6_endCall_134 : decode cX6_endCall 134 = .ok (.aload_n 0, 1) := by decide +kernel
theorem dX6_endCall_135 : decode cX6_endCall 135 = .ok (.iload_n 2, 1) := by decide +kernel
theorem dX6_endCall_136 : decode cX6_endCall 136 = .ok (.bipush (-10), 2) := by decide +kernel
theorem dX6_endCall_138 : decode cX6_endCall 138 = .ok (.aload_n 0, 1) := by decide +kernel
theorem dX6_endCall_139 : decode cX6_endCall 139 = .ok (.getfield 84, 3) := by decide +kernel
theorem dX6_endCall_142 : decode cX6_endCall 142 = .ok (.iconst 5, 1) := by decide +kernel
theorem dX6_endCall_143 : decode cX6_endCall 143 = .ok (.aload_n 0, 1) := by decide +kernel
theorem dX6_endCall_144 : decode cX6_endCall 144 = .ok (.getfield 184, 3) := by decide +kernel
theorem dX6_endCall_147 : decode cX6_endCall 147 = .ok (.imul, 1) := by decide +kernel
theorem dX6_endCall_148 : decode cX6_endCall 148 = .ok (.iconst 3, 1) := by decide +kernel
theorem dX6_endCall_149 : decode cX6_endCall 149 = .ok (.iadd, 1) := by decide +kernel
theorem dX6_endCall_150 : decode cX6_endCall 150 = .ok (.iaload, 1) := by decide +kernel
theorem dX6_endCall_151 : decode cX6_endCall 151 = .ok (.aload_n 0, 1) := by decide +kernel
theorem dX6_endCall_152 : decode cX6_endCall 152 = .ok (.getfield 203, 3) := by decide +kernel
theorem dX6_endCall_155 : decode cX6_endCall 155 = .ok (.invokevirtual 200, 3) := by decide +kernel
theorem dX6_endCall_158 : decode cX6_endCall 158 = .ok (.putfield 203, 3) := by decide +kernel
theorem dX6_endCall_161 : decode cX6_endCall 161 = .ok (.aload_n 0, 1) := by decide +kernel
theorem dX6_endCall_162 : decode cX6_endCall 162 = .ok (.iconst 0, 1) := by decide +kernel
theorem dX6_endCall_163 : decode cX6_endCall 163 = .ok (.putfield 206, 3) := by decide +kernel
theorem dX6_endCall_166 : decode cX6_endCall 166 = .ok (.aload_n 0, 1) := by decide +kernel
theorem dX6_endCall_167 : decode cX6_endCall 167 = .ok (.aload_n 0, 1) := by decide +kernel
theorem dX6_endCall_168 : decode cX6_endCall 168 = .ok (.getfield 84, 3) := by decide +kernel
theorem dX6_endCall_171 : decode cX6_endCall 171 = .ok (.iconst 5, 1) := by decide +kernel
theorem dX6_endCall_172 : decode cX6_endCall 172 = .ok (.aload_n 0, 1) := by decide +kernel
theorem dX6_endCall_173 : decode cX6_endCall 173 = .ok (.getfield 184, 3) := by decide +kernel
theorem dX6_endCall_176 : decode cX6_endCall 176 = .ok (.imul, 1) := by decide +kernel
theorem dX6_endCall_177 : decode cX6_endCall 177 = .ok (.iconst 4, 1) := by decide +kernel
theorem dX6_endCall_178 : decode cX6_endCall 178 = .ok (.iadd, 1) := by decide +kernel
theorem dX6_endCall_179 : decode cX6_endCall 179 = .ok (.iaload, 1) := by decide +kernel
theorem dX6_endCall_180 : decode cX6_endCall 180 = .ok (.putfield 190, 3) := by decide +kernel
theorem dX6_endCall_183 : decode cX6_endCall 183 = .ok (.return_, 1) := by decide +kernel
theorem dX6_goOn_0 : decode cX6_goOn 0 = .ok (.aload_n 0, 1) := by decide +kernel
theorem dX6_goOn_1 : decode cX6_goOn 1 = .ok (.getfield 187, 3) := by decide +kernel
theorem dX6_goOn_4 : decode cX6_goOn 4 = .ok (.aload_n 0, 1) := by decide +kernel
theorem dX6_goOn_5 : decode cX6_goOn 5 = .ok (.getfield 197, 3) := by decide +kernel
theorem dX6_goOn_8 : decode cX6_goOn 8 = .ok (.if_icmp .eq 17, 3) := by decide +kernel
theorem dX6_goOn_11 : decode cX6_goOn 11 = .ok (.aload_n 0, 1) := by decide +kernel
theorem dX6_goOn_12 : decode cX6_goOn 12 = .ok (.getfield 69, 3) := by decide +kernel
theorem dX6_goOn_15 : decode cX6_goOn 15 = .ok (.aload_n 0, 1) := by decide +kernel
theorem dX6_goOn_16 : decode cX6_goOn 16 = .ok (.getfield 187, 3) := by decide +kernel
theorem dX6_goOn_19 : decode cX6_goOn 19 = .ok (.iaload, 1) := by decide +kernel
theorem dX6_goOn_20 : decode cX6_goOn 20 = .ok (.bipush 41, 2) := by decide +kernel
theorem dX6_goOn_22 : decode cX6_goOn 22 = .ok (.if_icmp .ne 7, 3) := by decide +kernel
theorem dX6_goOn_25 : decode cX6_goOn 25 = .ok (.iconst 1, 1) := by decide +kernel
theorem dX6_goOn_26 : decode cX6_goOn 26 = .ok (.goto 4, 3) := by decide +kernel
theorem dX6_goOn_29 : decode cX6_goOn 29 = .ok (.iconst 0, 1) := by decide +kernel
theorem dX6_goOn_30 : decode cX6_goOn 30 = .ok (.istore_n 1, 1) := by decide +kernel
theorem dX6_goOn_31 : decode cX6_goOn 31 = .ok (.iload_n 1, 1) := by decide +kernel
theorem dX6_goOn_32 : decode cX6_goOn 32 = .ok (.ifCond .eq 8, 3) := by decide +kernel
theorem dX6_goOn_35 : decode cX6_goOn 35 = .ok (.bipush (-10), 2) := by decide +kernel
theorem dX6_goOn_37 : decode cX6_goOn 37 = .ok (.goto 17, 3) := by decide +kernel
theorem dX6_goOn_40 : decode cX6_goOn 40 = .ok (.aload_n 0, 1) := by decide +kernel
theorem dX6_goOn_41 : decode cX6_goOn 41 = .ok (.aload_n 0, 1) := by decide +kernel
theorem dX6_goOn_42 : decode cX6_goOn 42 = .ok (.getfield 69, 3) := by decide +kernel
theorem dX6_goOn_45 : decode cX6_goOn 45 = .ok (.aload_n 0, 1) := by decide +kernel
theorem dX6_goOn_46 : decode cX6_goOn 46 = .ok (.getfield 187, 3) := by decide +kernel
theorem dX6_goOn_49 : decode cX6_goOn 49 = .ok (.iaload, 1) := by decide +kernel
theorem dX6_goOn_50 : decode cX6_goOn 50 = .ok (.iconst 0, 1) := by decide +kernel
theorem dX6_goOn_51 : decode cX6_goOn 51 = .ok (.invokevirtual 101, 3) := by decide +kernel
theorem dX6_goOn_54 : decode cX6_goOn 54 = .ok (.istore_n 2, 1) := by decide +kernel
theorem dX6_goOn_55 : decode cX6_goOn 55 = .ok (.iload_n 1, 1) := by decide +kernel
theorem dX6_goOn_56 : decode cX6_goOn 56 = .ok (.ifCond .ne 19, 3) := by decide +kernel
theorem dX6_goOn_59 : decode cX6_goOn 59 = .ok (.iload_n 2, 1) := by decide +kernel
theorem dX6_goOn_60 : decode cX6_goOn 60 = .ok (.ifCond .ge 15, 3) := by decide +kernel
theorem dX6_goOn_63 : decode cX6_goOn 63 = .ok (.aload_n 0, 1) := by decide +kernel
theorem dX6_goOn_64 : decode cX6_goOn 64 = .ok (.iconst 2, 1) := by decide +kernel
theorem dX6_goOn_65 : decode cX6_goOn 65 = .ok (.aload_n 0, 1) := by decide +kernel
theorem dX6_goOn_66 : decode cX6_goOn 66 = .ok (.getfield 187, 3) := by decide +kernel
theorem dX6_goOn_69 : decode cX6_goOn 69 = .ok (.invokevirtual 212, 3) := by decide +kernel
theorem dX6_goOn_72 : decode cX6_goOn 72 = .ok (.goto 85, 3) := by decide +kernel
theorem dX6_goOn_75 : decode cX6_goOn 75 = .ok (.iload_n 1, 1) := by decide +kernel
theorem dX6_goOn_76 : decode cX6_goOn 76 = .ok (.ifCond .ne 42, 3) := by decide +kernel
theorem dX6_goOn_79 : decode cX6_goOn 79 = .ok (.aload_n 0, 1) := by decide +kernel
theorem dX6_goOn_80 : decode cX6_goOn 80 = .ok (.getfield 16, 3) := by decide +kernel
theorem dX6_goOn_83 : decode cX6_goOn 83 = .ok (.iload_n 2, 1) := by decide +kernel
theorem dX6_goOn_84 : decode cX6_goOn 84 = .ok (.iaload, 1) := by decide +kernel
theorem dX6_goOn_85 : decode cX6_goOn 85 = .ok (.aload_n 0, 1) := by decide +kernel
theorem dX6_goOn_86 : decode cX6_goOn 86 = .ok (.getfield 190, 3) := by decide +kernel
theorem dX6_goOn_89 : decode cX6_goOn 89 = .ok (.if_icmp .lt 29, 3) := by decide +kernel
theorem dX6_goOn_92 : decode cX6_goOn 92 = .ok (.aload_n 0, 1) := by decide +kernel
theorem dX6_goOn_93 : decode cX6_goOn 93 = .ok (.getfield 13, 3) := by decide +kernel
theorem dX6_goOn_96 : decode cX6_goOn 96 = .ok (.iload_n 2, 1) := by decide +kernel
theorem dX6_goOn_97 : decode cX6_goOn 97 = .ok (.iaload, 1) := by decide +kernel
theorem dX6_goOn_98 : decode cX6_goOn 98 = .ok (.iconst 2, 1) := by decide +kernel
theorem dX6_goOn_99 : decode cX6_goOn 99 = .ok (.if_icmp .ne 11, 3) := by decide +kernel
theorem dX6_goOn_102 : decode cX6_goOn 102 = .ok (.aload_n 0, 1) := by decide +kernel
theorem dX6_goOn_103 : decode cX6_goOn 103 = .ok (.iload_n 2, 1) := by decide +kernel
theorem dX6_goOn_104 : decode cX6_goOn 104 = .ok (.invokevirtual 219, 3) := by decide +kernel
theorem dX6_goOn_107 : decode cX6_goOn 107 = .ok (.goto 50, 3) := by decide +kernel
theorem dX6_goOn_110 : decode cX6_goOn 110 = .ok (.aload_n 0, 1) := by decide +kernel
theorem dX6_goOn_111 : decode cX6_goOn 111 = .ok (.iload_n 2, 1) := by decide +kernel
theorem dX6_goOn_112 : decode cX6_goOn 112 = .ok (.invokevirtual 222, 3) := by decide +kernel
theorem dX6_goOn_115 : decode cX6_goOn 115 = .ok (.goto 42, 3) := by decide +kernel
theorem dX6_goOn_118 : decode cX6_goOn 118 = .ok (.aload_n 0, 1) := by decide +kernel
theorem dX6_goOn_119 : decode cX6_goOn 119 = .ok (.getfield 184, 3) := by decide +kernel
theorem dX6_goOn_122 : decode cX6_goOn 122 = .ok (.ifCond .le 10, 3) := by decide +kernel
theorem dX6_goOn_125 : decode cX6_goOn 125 = .ok (.aload_n 0, 1) := by decide +kernel
theorem dX6_goOn_126 : decode cX6_goOn 126 = .ok (.invokevirtual 225, 3) := by decide +kernel
theorem dX6_goOn_129 : decode cX6_goOn 129 = .ok (.goto 28, 3) := by decide +kernel
theorem dX6_goOn_132 : decode cX6_goOn 132 = .ok (.aload_n 0, 1) := by decide +kernel
theorem dX6_goOn_133 : decode cX6_goOn 133 = .ok (.getfield 187, 3) := by decide +kernel
theorem dX6_goOn_136 : decode cX6_goOn 136 = .ok (.aload_n 0, 1) := by decide +kernel
theorem dX6_goOn_137 : decode cX6_goOn 137 = .ok (.getfield 197, 3) := by decide +kernel
theorem dX6_goOn_140 : decode cX6_goOn 140 = .ok (.if_icmp .ge 15, 3) := by decide +kernel
theorem dX6_goOn_143 : decode cX6_goOn 143 = .ok (.aload_n 0, 1) := by decide +kernel
theorem dX6_goOn_144 : decode cX6_goOn 144 = .ok (.iconst 4, 1) := by decide +kernel
theorem dX6_goOn_145 : decode cX6_goOn 145 = .ok (.aload_n 0, 1) := by decide +kernel
theorem dX6_goOn_146 : decode cX6_goOn 146 = .ok (.getfield 187, 3) := by decide +kernel
theorem dX6_goOn_149 : decode cX6_goOn 149 = .ok (.invokevirtual 212, 3) := by decide +kernel
theorem dX6_goOn_152 : decode cX6_goOn 152 = .ok (.goto 5, 3) := by decide +kernel
theorem dX6_goOn_155 : decode cX6_goOn 155 = .ok (.iconst 1, 1) := by decide +kernel
theorem dX6_goOn_156 : decode cX6_goOn 156 = .ok (.ireturn, 1) := by decide +kernel
theorem dX6_goOn_157 : decode cX6_goOn 157 = .ok (.iconst 0, 1) := by decide +kernel
theorem dX6_goOn_158 : decode cX6_goOn 158 = .ok (.ireturn, 1) := by decide +kernel
theorem dX6_readAll_0 : decode cX6_readAll 0 = .ok (.aload_n 0, 1) := by decide +kernel
theorem dX6_readAll_1 : decode cX6_readAll 1 = .ok (.iconst 0, 1) := by decide +kernel
theorem dX6_readAll_2 : decode cX6_readAll 2 = .ok (.putfield 175, 3) := by decide +kernel
theorem dX6_readAll_5 : decode cX6_readAll 5 = .ok (.aload_n 0, 1) := by decide +kernel
theorem dX6_readAll_6 : decode cX6_readAll 6 = .ok (.iconst 0, 1) := by decide +kernel
theorem dX6_readAll_7 : decode cX6_readAll 7 = .ok (.putfield 184, 3) := by decide +kernel
theorem dX6_readAll_10 : decode cX6_readAll 10 = .ok (.aload_n 0, 1) := by decide +kernel
theorem dX6_readAll_11 : decode cX6_readAll 11 = .ok (.iconst 0, 1) := by decide +kernel
theorem dX6_readAll_12 : decode cX6_readAll 12 = .ok (.putfield 187, 3) := by decide +kernel
theorem dX6_readAll_15 : decode cX6_readAll 15 = .ok (.aload_n 0, 1) := by decide +kernel
theorem dX6_readAll_16 : decode cX6_readAll 16 = .ok (.iconst 0, 1) := by decide +kernel
theorem dX6_readAll_17 : decode cX6_readAll 17 = .ok (.putfield 190, 3) := by decide +kernel
theorem dX6_readAll_20 : decode cX6_readAll 20 = .ok (.aload_n 0, 1) := by decide +kernel
theorem dX6_readAll_21 : decode cX6_readAll 21 = .ok (.bipush (-10), 2) := by decide +kernel
theorem dX6_readAll_23 : decode cX6_readAll 23 = .ok (.putfield 203, 3) := by decide +kernel
theorem dX6_readAll_26 : decode cX6_readAll 26 = .ok (.aload_n 0, 1) := by decide +kernel
theorem dX6_readAll_27 : decode cX6_readAll 27 = .ok (.iconst 0, 1) := by decide +kernel
theorem dX6_readAll_28 : decode cX6_readAll 28 = .ok (.putfield 206, 3) := by decide +kernel
theorem dX6_readAll_31 : decode cX6_readAll 31 = .ok (.aload_n 0, 1) := by decide +kernel
theorem dX6_readAll_32 : decode cX6_readAll 32 = .ok (.iconst 1, 1) := by decide +kernel
theorem dX6_readAll_33 : decode cX6_readAll 33 = .ok (.putfield 193, 3) := by decide +kernel
theorem dX6_readAll_36 : decode cX6_readAll 36 = .ok (.aload_n 0, 1) := by decide +kernel
theorem dX6_readAll_37 : decode cX6_readAll 37 = .ok (.bipush (-10), 2) := by decide +kernel
theorem dX6_readAll_39 : decode cX6_readAll 39 = .ok (.putfield 178, 3) := by decide +kernel
theorem dX6_readAll_42 : decode cX6_readAll 42 = .ok (.aload_n 0, 1) := by decide +kernel
theorem dX6_readAll_43 : decode cX6_readAll 43 = .ok (.bipush (-10), 2) := by decide +kernel
theorem dX6_readAll_45 : decode cX6_readAll 45 = .ok (.putfield 181, 3) := by decide +kernel
theorem dX6_readAll_48 : decode cX6_readAll 48 = .ok (.iconst 0, 1) := by decide +kernel
theorem dX6_readAll_49 : decode cX6_readAll 49 = .ok (.istore_n 1, 1) := by decide +kernel
theorem dX6_readAll_50 : decode cX6_readAll 50 = .ok (.iload_n 1, 1) := by decide +kernel
theorem dX6_readAll_51 : decode cX6_readAll 51 = .ok (.ifCond .ne 32, 3) := by decide +kernel
theorem dX6_readAll_54 : decode cX6_readAll 54 = .ok (.aload_n 0, 1) := by decide +kernel
theorem dX6_readAll_55 : decode cX6_readAll 55 = .ok (.getfield 178, 3) := by decide +kernel
theorem dX6_readAll_58 : decode cX6_readAll 58 = .ok (.ifCond .ge 25, 3) := by decide +kernel
theorem dX6_readAll_61 : decode cX6_readAll 61 = .ok (.aload_n 0, 1) := by decide +kernel
theorem dX6_readAll_62 : decode cX6_readAll 62 = .ok (.getfield 193, 3) := by decide +kernel
theorem dX6_readAll_65 : decode cX6_readAll 65 = .ok (.ifCond .eq 10, 3) := by decide +kernel
theorem dX6_readAll_68 : decode cX6_readAll 68 = .ok (.aload_n 0, 1) := by decide +kernel
theorem dX6_readAll_69 : decode cX6_readAll 69 = .ok (.invokevirtual 228, 3) := by decide +kernel
theorem dX6_readAll_72 : decode cX6_readAll 72 = .ok (.goto (-22), 3) := by decide +kernel
theorem dX6_readAll_75 : decode cX6_readAll 75 = .ok (.aload_n 0, 1) := by decide +kernel
theorem dX6_readAll_76 : decode cX6_readAll 76 = .ok (.invokevirtual 231, 3) := by decide +kernel
theorem dX6_readAll_79 : decode cX6_readAll 79 = .ok (.istore_n 1, 1) := by decide +kernel
theorem dX6_readAll_80 : decode cX6_readAll 80 = .ok (.goto (-30), 3) := by decide +kernel
theorem dX6_readAll_83 : decode cX6_readAll 83 = .ok (.aload_n 0, 1) := by decide +kernel
theorem dX6_readAll_84 : decode cX6_readAll 84 = .ok (.getfield 178, 3) := by decide +kernel
theorem dX6_readAll_87 : decode cX6_readAll 87 = .ok (.ifCond .ge 7, 3) := by decide +kernel
theorem dX6_readAll_90 : decode cX6_readAll 90 = .ok (.iconst 1, 1) := by decide +kernel
theorem dX6_readAll_91 : decode cX6_readAll 91 = .ok (.goto 4, 3) := by decide +kernel
theorem dX6_readAll_94 : decode cX6_readAll 94 = .ok (.iconst 0, 1) := by decide +kernel
theorem dX6_readAll_95 : decode cX6_readAll 95 = .ok (.ireturn, 1) := by decide +kernel
theorem dX6_isSameAs_0 : decode cX6_isSameAs 0 = .ok (.iconst 1, 1) := by decide +kernel
theorem dX6_isSameAs_1 : decode cX6_isSameAs 1 = .ok (.istore_n 2, 1) := by decide +kernel
theorem dX6_isSameAs_2 : decode cX6_isSameAs 2 = .ok (.aload_n 0, 1) := by decide +kernel
theorem dX6_isSameAs_3 : decode cX6_isSameAs 3 = .ok (.getfield 57, 3) := by decide +kernel
theorem dX6_isSameAs_6 : decode cX6_isSameAs 6 = .ok (.iconst 0, 1) := by decide +kernel
theorem dX6_isSameAs_7 : decode cX6_isSameAs 7 = .ok (.iload_n 1, 1) := by decide +kernel
theorem dX6_isSameAs_8 : decode cX6_isSameAs 8 = .ok (.iastore, 1) := by decide +kernel
theorem dX6_isSameAs_9 : decode cX6_isSameAs 9 = .ok (.aload_n 0, 1) := by decide +kernel
theorem dX6_isSameAs_10 : decode cX6_isSameAs 10 = .ok (.getfield 60, 3) := by decide +kernel
theorem dX6_isSameAs_13 : decode cX6_isSameAs 13 = .ok (.iconst 0, 1) := by decide +kernel
theorem dX6_isSameAs_14 : decode cX6_isSameAs 14 = .ok (.aload_n 0, 1) := by decide +kernel
theorem dX6_isSameAs_15 : decode cX6_isSameAs 15 = .ok (.getfield 203, 3) := by decide +kernel
theorem dX6_isSameAs_18 : decode cX6_isSameAs 18 = .ok (.iastore, 1) := by decide +kernel
theorem dX6_isSameAs_19 : decode cX6_isSameAs 19 = .ok (.iload_n 2, 1) := by decide +kernel
theorem dX6_isSameAs_20 : decode cX6_isSameAs 20 = .ok (.ifCond .le 132, 3) := by decide +kernel
theorem dX6_isSameAs_23 : decode cX6_isSameAs 23 = .ok (.iinc 2 (-1), 3) := by decide +kernel
theorem dX6_isSameAs_26 : decode cX6_isSameAs 26 = .ok (.aload_n 0, 1) := by decide +kernel
theorem dX6_isSameAs_27 : decode cX6_isSameAs 27 = .ok (.getfield 57, 3) := by decide +kernel
theorem dX6_isSameAs_30 : decode cX6_isSameAs 30 = .ok (.iload_n 2, 1) := by decide +kernel
theorem dX6_isSameAs_31 : decode cX6_isSameAs 31 = .ok (.iaload, 1) := by decide +kernel
theorem dX6_isSameAs_32 : decode cX6_isSameAs 32 = .ok (.istore_n 3, 1) := by decide +kernel
theorem dX6_isSameAs_33 : decode cX6_isSameAs 33 = .ok (.aload_n 0, 1) := by decide +kernel
theorem dX6_isSameAs_34 : decode cX6_isSameAs 34 = .ok (.getfield 60, 3) := by decide +kernel
theorem dX6_isSameAs_37 : decode cX6_isSameAs 37 = .ok (.iload_n 2, 1) := by decide +kernel
theorem dX6_isSameAs_38 : decode cX6_isSameAs 38 = .ok (.iaload, 1) := by decide +kernel
theorem dX6_isSameAs_39 : decode cX6_isSameAs 39 = .ok (.istore 4, 2) := by decide +kernel
theorem dX6_isSameAs_41 : decode cX6_isSameAs 41 = .ok (.aload_n 0, 1) := by decide +kernel
theorem dX6_isSameAs_42 : decode cX6_isSameAs 42 = .ok (.getfield 26, 3) := by decide +kernel
theorem dX6_isSameAs_45 : decode cX6_isSameAs 45 = .ok (.iload_n 3, 1) := by decide +kernel
theorem dX6_isSameAs_46 : decode cX6_isSameAs 46 = .ok (.iaload, 1) := by decide +kernel
theorem dX6_isSameAs_47 : decode cX6_isSameAs 47 = .ok (.aload_n 0, 1) := by decide +kernel
theorem dX6_isSameAs_48 : decode cX6_isSameAs 48 = .ok (.getfield 72, 3) := by decide +kernel
theorem dX6_isSameAs_51 : decode cX6_isSameAs 51 = .ok (.iload 4, 2) := by decide +kernel
theorem dX6_isSameAs_53 : decode cX6_isSameAs 53 = .ok (.iaload, 1) := by decide +kernel
theorem dX6_isSameAs_54 : decode cX6_isSameAs 54 = .ok (.if_icmp .ne 19, 3) := by decide +kernel
theorem dX6_isSameAs_57 : decode cX6_isSameAs 57 = .ok (.aload_n 0, 1) := by decide +kernel
theorem dX6_isSameAs_58 : decode cX6_isSameAs 58 = .ok (.getfield 29, 3) := by decide +kernel
theorem dX6_isSameAs_61 : decode cX6_isSameAs 61 = .ok (.iload_n 3, 1) := by decide +kernel
theorem dX6_isSameAs_62 : decode cX6_isSameAs 62 = .ok (.iaload, 1) := by decide +kernel
theorem dX6_isSameAs_63 : decode cX6_isSameAs 63 = .ok (.aload_n 0, 1) := by decide +kernel
theorem dX6_isSameAs_64 : decode cX6_isSameAs 64 = .ok (.getfield 75, 3) := by decide +kernel
theorem dX6_isSameAs_67 : decode cX6_isSameAs 67 = .ok (.iload 4, 2) := by decide +kernel
theorem dX6_isSameAs_69 : decode cX6_isSameAs 69 = .ok (.iaload, 1) := by decide +kernel
theorem dX6_isSameAs_70 : decode cX6_isSameAs 70 = .ok (.if_icmp .eq 5, 3) := by decide +kernel
theorem dX6_isSameAs_73 : decode cX6_isSameAs 73 = .ok (.iconst 0, 1) := by decide +kernel
theorem dX6_isSameAs_74 : decode cX6_isSameAs 74 = .ok (.ireturn, 1) := by decide +kernel
theorem dX6_isSameAs_75 : decode cX6_isSameAs 75 = .ok (.aload_n 0, 1) := by decide +kernel
theorem dX6_isSameAs_76 : decode cX6_isSameAs 76 = .ok (.getfield 32, 3) := by decide +kernel
theorem dX6_isSameAs_79 : decode cX6_isSameAs 79 = .ok (.iload_n 3, 1) := by decide +kernel
theorem dX6_isSameAs_80 : decode cX6_isSameAs 80 = .ok (.iaload, 1) := by decide +kernel
theorem dX6_isSameAs_81 : decode cX6_isSameAs 81 = .ok (.ifCond .lt 31, 3) := by decide +kernel
theorem dX6_isSameAs_84 : decode cX6_isSameAs 84 = .ok (.aload_n 0, 1) := by decide +kernel
theorem dX6_isSameAs_85 : decode cX6_isSameAs 85 = .ok (.getfield 57, 3) := by decide +kernel
theorem dX6_isSameAs_88 : decode cX6_isSameAs 88 = .ok (.iload_n 2, 1) := by decide +kernel
theorem dX6_isSameAs_89 : decode cX6_isSameAs 89 = .ok (.aload_n 0, 1) := by decide +kernel
theorem dX6_isSameAs_90 : decode cX6_isSameAs 90 = .ok (.getfield 32, 3) := by decide +kernel
theorem dX6_isSameAs_93 : decode cX6_isSameAs 93 = .ok (.iload_n 3, 1) := by decide +kernel
theorem dX6_isSameAs_94 : decode cX6_isSameAs 94 = .ok (.iaload, 1) := by decide +kernel
theorem dX6_isSameAs_95 : decode cX6_isSameAs 95 = .ok (.iastore, 1) := by decide +kernel
theorem dX6_isSameAs_96 : decode cX6_isSameAs 96 = .ok (.aload_n 0, 1) := by decide +kernel
theorem dX6_isSameAs_97 : decode cX6_isSameAs 97 = .ok (.getfield 60, 3) := by decide +kernel
theorem dX6_isSameAs_100 : decode cX6_isSameAs 100 = .ok (.iload_n 2, 1) := by decide +kernel
theorem dX6_isSameAs_101 : decode cX6_isSameAs 101 = .ok (.aload_n 0, 1) := by decide +kernel
theorem dX6_isSameAs_102 : decode cX6_isSameAs 102 = .ok (.getfield 78, 3) := by decide +kernel
theorem dX6_isSameAs_105 : decode cX6_isSameAs 105 = .ok (.iload 4, 2) := by decide +kernel
theorem dX6_isSameAs_107 : decode cX6_isSameAs 107 = .ok (.iaload, 1) := by decide +kernel
theorem dX6_isSameAs_108 : decode cX6_isSameAs 108 = .ok (.iastore, 1) := by decide +kernel
theorem dX6_isSameAs_109 : decode cX6_isSameAs 109 = .ok (.iinc 2 1, 3) := by decide +kernel
theorem dX6_isSameAs_112 : decode cX6_isSameAs 112 = .ok (.aload_n 0, 1) := by decide +kernel
theorem dX6_isSameAs_113 : decode cX6_isSameAs 113 = .ok (.getfield 35, 3) := by decide +kernel
theorem dX6_isSameAs_116 : decode cX6_isSameAs 116 = .ok (.iload_n 3, 1) := by decide +kernel
theorem dX6_isSameAs_117 : decode cX6_isSameAs 117 = .ok (.iaload, 1) := by decide +kernel
theorem dX6_isSameAs_118 : decode cX6_isSameAs 118 = .ok (.ifCond .lt 31, 3) := by decide +kernel
theorem dX6_isSameAs_121 : decode cX6_isSameAs 121 = .ok (.aload_n 0, 1) := by decide +kernel
theorem dX6_isSameAs_122 : decode cX6_isSameAs 122 = .ok (.getfield 57, 3) := by decide +kernel
theorem dX6_isSameAs_125 : decode cX6_isSameAs 125 = .ok (.iload_n 2, 1) := by decide +kernel
theorem dX6_isSameAs_126 : decode cX6_isSameAs 126 = .ok (.aload_n 0, 1) := by decide +kernel
theorem dX6_isSameAs_127 : decode cX6_isSameAs 127 = .ok (.getfield 35, 3) := by decide +kernel
theorem dX6_isSameAs_130 : decode cX6_isSameAs 130 = .ok (.iload_n 3, 1) := by decide +kernel
theorem dX6_isSameAs_131 : decode cX6_isSameAs 131 = .ok (.iaload, 1) := by decide +kernel
theorem dX6_isSameAs_132 : decode cX6_isSameAs 132 = .ok (.iastore, 1) := by decide +kernel
theorem dX6_isSameAs_133 : decode cX6_isSameAs 133 = .ok (.aload_n 0, 1) := by decide +kernel
theorem dX6_isSameAs_134 : decode cX6_isSameAs 134 = .ok (.getfield 60, 3) := by decide +kernel
theorem dX6_isSameAs_137 : decode cX6_isSameAs 137 = .ok (.iload_n 2, 1) := by decide +kernel
theorem dX6_isSameAs_138 : decode cX6_isSameAs 138 = .ok (.aload_n 0, 1) := by decide +kernel
theorem dX6_isSameAs_139 : decode cX6_isSameAs 139 = .ok (.getfield 81, 3) := by decide +kernel
theorem dX6_isSameAs_142 : decode cX6_isSameAs 142 = .ok (.iload 4, 2) := by decide +kernel
theorem dX6_isSameAs_144 : decode cX6_isSameAs 144 = .ok (.iaload, 1) := by decide +kernel
theorem dX6_isSameAs_145 : decode cX6_isSameAs 145 = .ok (.iastore, 1) := by decide +kernel
theorem dX6_isSameAs_146 : decode cX6_isSameAs 146 = .ok (.iinc 2 1, 3) := by decide +kernel
theorem dX6_isSameAs_149 : decode cX6_isSameAs 149 = .ok (.goto (-130), 3) := by decide +kernel
theorem dX6_isSameAs_152 : decode cX6_isSameAs 152 = .ok (.iconst 1, 1) := by decide +kernel
theorem dX6_isSameAs_153 : decode cX6_isSameAs 153 = .ok (.ireturn, 1) := by decide +kernel
theorem dX6_openingOf_0 : decode cX6_openingOf 0 = .ok (.iconst 0, 1) := by decide +kernel
theorem dX6_openingOf_1 : decode cX6_openingOf 1 = .ok (.istore_n 2, 1) := by decide +kernel
theorem dX6_openingOf_2 : decode cX6_openingOf 2 = .ok (.iconst 0, 1) := by decide +kernel
theorem dX6_openingOf_3 : decode cX6_openingOf 3 = .ok (.istore_n 3, 1) := by decide +kernel
theorem dX6_openingOf_4 : decode cX6_openingOf 4 = .ok (.iload_n 3, 1) := by decide +kernel
theorem dX6_openingOf_5 : decode cX6_openingOf 5 = .ok (.aload_n 0, 1) := by decide +kernel
theorem dX6_openingOf_6 : decode cX6_openingOf 6 = .ok (.getfield 154, 3) := by decide +kernel
theorem dX6_openingOf_9 : decode cX6_openingOf 9 = .ok (.if_icmp .ge 30, 3) := by decide +kernel
theorem dX6_openingOf_12 : decode cX6_openingOf 12 = .ok (.aload_n 0, 1) := by decide +kernel
theorem dX6_openingOf_13 : decode cX6_openingOf 13 = .ok (.getfield 41, 3) := by decide +kernel
theorem dX6_openingOf_16 : decode cX6_openingOf 16 = .ok (.iload_n 3, 1) := by decide +kernel
theorem dX6_openingOf_17 : decode cX6_openingOf 17 = .ok (.iaload, 1) := by decide +kernel
theorem dX6_openingOf_18 : decode cX6_openingOf 18 = .ok (.bipush 40, 2) := by decide +kernel
theorem dX6_openingOf_20 : decode cX6_openingOf 20 = .ok (.if_icmp .ne 13, 3) := by decide +kernel
theorem dX6_openingOf_23 : decode cX6_openingOf 23 = .ok (.iload_n 2, 1) := by decide +kernel
theorem dX6_openingOf_24 : decode cX6_openingOf 24 = .ok (.iload_n 1, 1) := by decide +kernel
theorem dX6_openingOf_25 : decode cX6_openingOf 25 = .ok (.if_icmp .ne 5, 3) := by decide +kernel
theorem dX6_openingOf_28 : decode cX6_openingOf 28 = .ok (.iload_n 3, 1) := by decide +kernel
theorem dX6_openingOf_29 : decode cX6_openingOf 29 = .ok (.ireturn, 1) := by decide +kernel
theorem dX6_openingOf_30 : decode cX6_openingOf 30 = .ok (.iinc 2 1, 3) := by decide +kernel
theorem dX6_openingOf_33 : decode cX6_openingOf 33 = .ok (.iinc 3 1, 3) := by decide +kernel
theorem dX6_openingOf_36 : decode cX6_openingOf 36 = .ok (.goto (-32), 3) := by decide +kernel
theorem dX6_openingOf_39 : decode cX6_openingOf 39 = .ok (.bipush (-10), 2) := by decide +kernel
theorem dX6_openingOf_41 : decode cX6_openingOf 41 = .ok (.ireturn, 1) := by decide +kernel
theorem dX6_closingOf_0 : decode cX6_closingOf 0 = .ok (.iconst 1, 1) := by decide +kernel
theorem dX6_closingOf_1 : decode cX6_closingOf 1 = .ok (.istore_n 2, 1) := by decide +kernel
theorem dX6_closingOf_2 : decode cX6_closingOf 2 = .ok (.iload_n 1, 1) := by decide +kernel
theorem dX6_closingOf_3 : decode cX6_closingOf 3 = .ok (.istore_n 3, 1) := by decide +kernel
theorem dX6_closingOf_4 : decode cX6_closingOf 4 = .ok (.iload_n 2, 1) := by decide +kernel
theorem dX6_closingOf_5 : decode cX6_closingOf 5 = .ok (.ifCond .le 43, 3) := by decide +kernel
theorem dX6_closingOf_8 : decode cX6_closingOf 8 = .ok (.iinc 3 1, 3) := by decide +kernel
theorem dX6_closingOf_11 : decode cX6_closingOf 11 = .ok (.iload_n 2, 1) := by decide +kernel
theorem dX6_closingOf_12 : decode cX6_closingOf 12 = .ok (.aload_n 0, 1) := by decide +kernel
theorem dX6_closingOf_13 : decode cX6_closingOf 13 = .ok (.getfield 41, 3) := by decide +kernel
theorem dX6_closingOf_16 : decode cX6_closingOf 16 = .ok (.iload_n 3, 1) := by decide +kernel
theorem dX6_closingOf_17 : decode cX6_closingOf 17 = .ok (.iaload, 1) := by decide +kernel
theorem dX6_closingOf_18 : decode cX6_closingOf 18 = .ok (.bipush 40, 2) := by decide +kernel
theorem dX6_closingOf_20 : decode cX6_closingOf 20 = .ok (.if_icmp .ne 7, 3) := by decide +kernel
theorem dX6_closingOf_23 : decode cX6_closingOf 23 = .ok (.iconst 1, 1) := by decide +kernel
theorem dX6_closingOf_24 : decode cX6_closingOf 24 = .ok (.goto 19, 3) := by decide +kernel
theorem dX6_closingOf_27 : decode cX6_closingOf 27 = .ok (.aload_n 0, 1) := by decide +kernel
theorem dX6_closingOf_28 : decode cX6_closingOf 28 = .ok (.getfield 41, 3) := by decide +kernel
theorem dX6_closingOf_31 : decode cX6_closingOf 31 = .ok (.iload_n 3, 1) := by decide +kernel
theorem dX6_closingOf_32 : decode cX6_closingOf 32 = .ok (.iaload, 1) := by decide +kernel
theorem dX6_closingOf_33 : decode cX6_closingOf 33 = .ok (.bipush 41, 2) := by decide +kernel
theorem dX6_closingOf_35 : decode cX6_closingOf 35 = .ok (.if_icmp .ne 7, 3) := by decide +kernel
theorem dX6_closingOf_38 : decode cX6_closingOf 38 = .ok (.iconst (-1), 1) := by decide +kernel
theorem dX6_closingOf_39 : decode cX6_closingOf 39 = .ok (.goto 4, 3) := by decide +kernel
theorem dX6_closingOf_42 : decode cX6_closingOf 42 = .ok (.iconst 0, 1) := by decide +kernel
theorem dX6_closingOf_43 : decode cX6_closingOf 43 = .ok (.iadd, 1) := by decide +kernel
theorem dX6_closingOf_44 : decode cX6_closingOf 44 = .ok (.istore_n 2, 1) := by decide +kernel
theorem dX6_closingOf_45 : decode cX6_closingOf 45 = .ok (.goto (-41), 3) := by decide +kernel
theorem dX6_closingOf_48 : decode cX6_closingOf 48 = .ok (.iload_n 3, 1) := by decide +kernel
theorem dX6_closingOf_49 : decode cX6_closingOf 49 = .ok (.ireturn, 1) := by decide +kernel
theorem dX6_readWithout_0 : decode cX6_readWithout 0 = .ok (.aload_n 0, 1) := by decide +kernel
theorem dX6_readWithout_1 : decode cX6_readWithout 1 = .ok (.getfield 44, 3) := by decide +kernel
theorem dX6_readWithout_4 : decode cX6_readWithout 4 = .ok (.ifCond .ge 6, 3) := by decide +kernel
theorem dX6_readWithout_7 : decode cX6_readWithout 7 = .ok (.bipush (-11), 2) := by decide +kernel
theorem dX6_readWithout_9 : decode cX6_readWithout 9 = .ok (.ireturn, 1) := by decide +kernel
theorem dX6_readWithout_10 : decode cX6_readWithout 10 = .ok (.iload_n 1, 1) := by decide +kernel
theorem dX6_readWithout_11 : decode cX6_readWithout 11 = .ok (.iconst 0, 1) := by decide +kernel
theorem dX6_readWithout_12 : decode cX6_readWithout 12 = .ok (.aload_n 0, 1) := by decide +kernel
theorem dX6_readWithout_13 : decode cX6_readWithout 13 = .ok (.invokevirtual 235, 3) := by decide +kernel
theorem dX6_readWithout_16 : decode cX6_readWithout 16 = .ok (.iconst 1, 1) := by decide +kernel
theorem dX6_readWithout_17 : decode cX6_readWithout 17 = .ok (.isub, 1) := by decide +kernel
theorem dX6_readWithout_18 : decode cX6_readWithout 18 = .ok (.invokestatic 90, 3) := by decide +kernel
theorem dX6_readWithout_21 : decode cX6_readWithout 21 = .ok (.ifCond .ne 6, 3) := by decide +kernel
theorem dX6_readWithout_24 : decode cX6_readWithout 24 = .ok (.bipush (-9), 2) := by decide +kernel
theorem dX6_readWithout_26 : decode cX6_readWithout 26 = .ok (.ireturn, 1) := by decide +kernel
theorem dX6_readWithout_27 : decode cX6_readWithout 27 = .ok (.aload_n 0, 1) := by decide +kernel
theorem dX6_readWithout_28 : decode cX6_readWithout 28 = .ok (.iload_n 1, 1) := by decide +kernel
theorem dX6_readWithout_29 : decode cX6_readWithout 29 = .ok (.invokevirtual 239, 3) := by decide +kernel
theorem dX6_readWithout_32 : decode cX6_readWithout 32 = .ok (.istore_n 2, 1) := by decide +kernel
theorem dX6_readWithout_33 : decode cX6_readWithout 33 = .ok (.aload_n 0, 1) := by decide +kernel
theorem dX6_readWithout_34 : decode cX6_readWithout 34 = .ok (.iload_n 2, 1) := by decide +kernel
theorem dX6_readWithout_35 : decode cX6_readWithout 35 = .ok (.invokevirtual 242, 3) := by decide +kernel
theorem dX6_readWithout_38 : decode cX6_readWithout 38 = .ok (.istore_n 3, 1) := by decide +kernel
theorem dX6_readWithout_39 : decode cX6_readWithout 39 = .ok (.aload_n 0, 1) := by decide +kernel
theorem dX6_readWithout_40 : decode cX6_readWithout 40 = .ok (.iconst 0, 1) := by decide +kernel
theorem dX6_readWithout_41 : decode cX6_readWithout 41 = .ok (.putfield 197, 3) := by decide +kernel
theorem dX6_readWithout_44 : decode cX6_readWithout 44 = .ok (.iconst 0, 1) := by decide +kernel
theorem dX6_readWithout_45 : decode cX6_readWithout 45 = .ok (.istore 4, 2) := by decide +kernel
theorem dX6_readWithout_47 : decode cX6_readWithout 47 = .ok (.iload 4, 2) := by decide +kernel
theorem dX6_readWithout_49 : decode cX6_readWithout 49 = .ok (.aload_n 0, 1) := by decide +kernel
theorem dX6_readWithout_50 : decode cX6_readWithout 50 = .ok (.getfield 154, 3) := by decide +kernel
theorem dX6_readWithout_53 : decode cX6_readWithout 53 = .ok (.if_icmp .ge 47, 3) := by decide +kernel
theorem dX6_readWithout_56 : decode cX6_readWithout 56 = .ok (.iload 4, 2) := by decide +kernel
theorem dX6_readWithout_58 : decode cX6_readWithout 58 = .ok (.iload_n 2, 1) := by decide +kernel
theorem dX6_readWithout_59 : decode cX6_readWithout 59 = .ok (.if_icmp .eq 35, 3) := by decide +kernel
theorem dX6_readWithout_62 : decode cX6_readWithout 62 = .ok (.iload 4, 2) := by decide +kernel
theorem dX6_readWithout_64 : decode cX6_readWithout 64 = .ok (.iload_n 3, 1) := by decide +kernel
theorem dX6_readWithout_65 : decode cX6_readWithout 65 = .ok (.if_icmp .eq 29, 3) := by decide +kernel
theorem dX6_readWithout_68 : decode cX6_readWithout 68 = .ok (.aload_n 0, 1) := by decide +kernel
theorem dX6_readWithout_69 : decode cX6_readWithout 69 = .ok (.getfield 69, 3) := by decide +kernel
theorem dX6_readWithout_72 : decode cX6_readWithout 72 = .ok (.aload_n 0, 1) := by decide +kernel
theorem dX6_readWithout_73 : decode cX6_readWithout 73 = .ok (.getfield 197, 3) := by decide +kernel
theorem dX6_readWithout_76 : decode cX6_readWithout 76 = .ok (.aload_n 0, 1) := by decide +kernel
theorem dX6_readWithout_77 : decode cX6_readWithout 77 = .ok (.getfield 41, 3) := by decide +kernel
theorem dX6_readWithout_80 : decode cX6_readWithout 80 = .ok (.iload 4, 2) := by decide +kernel
theorem dX6_readWithout_82 : decode cX6_readWithout 82 = .ok (.iaload, 1) := by decide +kernel
theorem dX6_readWithout_83 : decode cX6_readWithout 83 = .ok (.iastore, 1) := by decide +kernel
theorem dX6_readWithout_84 : decode cX6_readWithout 84 = .ok (.aload_n 0, 1) := by decide +kernel
theorem dX6_readWithout_85 : decode cX6_readWithout 85 = .ok (.dup, 1) := by decide +kernel
theorem dX6_readWithout_86 : decode cX6_readWithout 86 = .ok (.getfield 197, 3) := by decide +kernel
theorem dX6_readWithout_89 : decode cX6_readWithout 89 = .ok (.iconst 1, 1) := by decide +kernel
theorem dX6_readWithout_90 : decode cX6_readWithout 90 = .ok (.iadd, 1) := by decide +kernel
theorem dX6_readWithout_91 : decode cX6_readWithout 91 = .ok (.putfield 197, 3) := by decide +kernel
theorem dX6_readWithout_94 : decode cX6_readWithout 94 = .ok (.iinc 4 1, 3) := by decide +kernel
theorem dX6_readWithout_97 : decode cX6_readWithout 97 = .ok (.goto (-50), 3) := by decide +kernel
theorem dX6_readWithout_100 : decode cX6_readWithout 100 = .ok (.aload_n 0, 1) := by decide +kernel
theorem dX6_readWithout_101 : decode cX6_readWithout 101 = .ok (.invokevirtual 245, 3) := by decide +kernel
theorem dX6_readWithout_104 : decode cX6_readWithout 104 = .ok (.ifCond .ne 5, 3) := by decide +kernel
theorem dX6_readWithout_107 : decode cX6_readWithout 107 = .ok (.iconst 2, 1) := by decide +kernel
theorem dX6_readWithout_108 : decode cX6_readWithout 108 = .ok (.ireturn, 1) := by decide +kernel
theorem dX6_readWithout_109 : decode cX6_readWithout 109 = .ok (.aload_n 0, 1) := by decide +kernel
theorem dX6_readWithout_110 : decode cX6_readWithout 110 = .ok (.aload_n 0, 1) := by decide +kernel
theorem dX6_readWithout_111 : decode cX6_readWithout 111 = .ok (.getfield 44, 3) := by decide +kernel
theorem dX6_readWithout_114 : decode cX6_readWithout 114 = .ok (.invokevirtual 248, 3) := by decide +kernel
theorem dX6_readWithout_117 : decode cX6_readWithout 117 = .ok (.ifCond .eq 7, 3) := by decide +kernel
theorem dX6_readWithout_120 : decode cX6_readWithout 120 = .ok (.iconst 0, 1) := by decide +kernel
theorem dX6_readWithout_121 : decode cX6_readWithout 121 = .ok (.goto 4, 3) := by decide +kernel
theorem dX6_readWithout_124 : decode cX6_readWithout 124 = .ok (.iconst 1, 1) := by decide +kernel
theorem dX6_readWithout_125 : decode cX6_readWithout 125 = .ok (.ireturn, 1) := by decide +kernel
theorem dX6_append_0 : decode cX6_append 0 = .ok (.iload_n 1, 1) := by decide +kernel
theorem dX6_append_1 : decode cX6_append 1 = .ok (.bipush 33, 2) := by decide +kernel
theorem dX6_append_3 : decode cX6_append 3 = .ok (.bipush 126, 2) := by decide +kernel
theorem dX6_append_5 : decode cX6_append 5 = .ok (.invokestatic 90, 3) := by decide +kernel
theorem dX6_append_8 : decode cX6_append 8 = .ok (.ifCond .ne 6, 3) := by decide +kernel
theorem dX6_append_11 : decode cX6_append 11 = .ok (.bipush (-3), 2) := by decide +kernel
theorem dX6_append_13 : decode cX6_append 13 = .ok (.ireturn, 1) := by decide +kernel
theorem dX6_append_14 : decode cX6_append 14 = .ok (.aload_n 0, 1) := by decide +kernel
theorem dX6_append_15 : decode cX6_append 15 = .ok (.getfield 251, 3) := by decide +kernel
theorem dX6_append_18 : decode cX6_append 18 = .ok (.bipush 120, 2) := by decide +kernel
theorem dX6_append_20 : decode cX6_append 20 = .ok (.if_icmp .ne 6, 3) := by decide +kernel
theorem dX6_append_23 : decode cX6_append 23 = .ok (.bipush (-7), 2) := by decide +kernel
theorem dX6_append_25 : decode cX6_append 25 = .ok (.ireturn, 1) := by decide +kernel
theorem dX6_append_26 : decode cX6_append 26 = .ok (.aload_n 0, 1) := by decide +kernel
theorem dX6_append_27 : decode cX6_append 27 = .ok (.getfield 48, 3) := by decide +kernel
theorem dX6_append_30 : decode cX6_append 30 = .ok (.aload_n 0, 1) := by decide +kernel
theorem dX6_append_31 : decode cX6_append 31 = .ok (.getfield 251, 3) := by decide +kernel
theorem dX6_append_34 : decode cX6_append 34 = .ok (.iload_n 1, 1) := by decide +kernel
theorem dX6_append_35 : decode cX6_append 35 = .ok (.iastore, 1) := by decide +kernel
theorem dX6_append_36 : decode cX6_append 36 = .ok (.aload_n 0, 1) := by decide +kernel
theorem dX6_append_37 : decode cX6_append 37 = .ok (.dup, 1) := by decide +kernel
theorem dX6_append_38 : decode cX6_append 38 = .ok (.getfield 251, 3) := by decide +kernel
theorem dX6_append_41 : decode cX6_append 41 = .ok (.iconst 1, 1) := by decide +kernel
theorem dX6_append_42 : decode cX6_append 42 = .ok (.iadd, 1) := by decide +kernel
theorem dX6_append_43 : decode cX6_append 43 = .ok (.putfield 251, 3) := by decide +kernel
theorem dX6_append_46 : decode cX6_append 46 = .ok (.aload_n 0, 1) := by decide +kernel
theorem dX6_append_47 : decode cX6_append 47 = .ok (.getfield 251, 3) := by decide +kernel
theorem dX6_append_50 : decode cX6_append 50 = .ok (.ireturn, 1) := by decide +kernel
theorem dX6_copyOutput_0 : decode cX6_copyOutput 0 = .ok (.aload_n 0, 1) := by decide +kernel
theorem dX6_copyOutput_1 : decode cX6_copyOutput 1 = .ok (.aload_n 0, 1) := by decide +kernel
theorem dX6_copyOutput_2 : decode cX6_copyOutput 2 = .ok (.getfield 154, 3) := by decide +kernel
theorem dX6_copyOutput_5 : decode cX6_copyOutput 5 = .ok (.putfield 251, 3) := by decide +kernel
theorem dX6_copyOutput_8 : decode cX6_copyOutput 8 = .ok (.iconst 0, 1) := by decide +kernel
theorem dX6_copyOutput_9 : decode cX6_copyOutput 9 = .ok (.istore_n 1, 1) := by decide +kernel
theorem dX6_copyOutput_10 : decode cX6_copyOutput 10 = .ok (.iload_n 1, 1) := by decide +kernel
theorem dX6_copyOutput_11 : decode cX6_copyOutput 11 = .ok (.aload_n 0, 1) := by decide +kernel
theorem dX6_copyOutput_12 : decode cX6_copyOutput 12 = .ok (.getfield 154, 3) := by decide +kernel
theorem dX6_copyOutput_15 : decode cX6_copyOutput 15 = .ok (.if_icmp .ge 21, 3) := by decide +kernel
theorem dX6_copyOutput_18 : decode cX6_copyOutput 18 = .ok (.aload_n 0, 1) := by decide +kernel
theorem dX6_copyOutput_19 : decode cX6_copyOutput 19 = .ok (.getfield 48, 3) := by decide +kernel
theorem dX6_copyOutput_22 : decode cX6_copyOutput 22 = .ok (.iload_n 1, 1) := by decide +kernel
theorem dX6_copyOutput_23 : decode cX6_copyOutput 23 = .ok (.aload_n 0, 1) := by decide +kernel
theorem dX6_copyOutput_24 : decode cX6_copyOutput 24 = .ok (.getfield 41, 3) := by decide +kernel
theorem dX6_copyOutput_27 : decode cX6_copyOutput 27 = .ok (.iload_n 1, 1) := by decide +kernel
theorem dX6_copyOutput_28 : decode cX6_copyOutput 28 = .ok (.iaload, 1) := by decide +kernel
theorem dX6_copyOutput_29 : decode cX6_copyOutput 29 = .ok (.iastore, 1) := by decide +kernel
theorem dX6_copyOutput_30 : decode cX6_copyOutput 30 = .ok (.iinc 1 1, 3) := by decide +kernel
theorem dX6_copyOutput_33 : decode cX6_copyOutput 33 = .ok (.goto (-23), 3) := by decide +kernel
theorem dX6_copyOutput_36 : decode cX6_copyOutput 36 = .ok (.aload_n 0, 1) := by decide +kernel
theorem dX6_copyOutput_37 : decode cX6_copyOutput 37 = .ok (.getfield 251, 3) := by decide +kernel
theorem dX6_copyOutput_40 : decode cX6_copyOutput 40 = .ok (.ireturn, 1) := by decide +kernel
theorem dX6_clearInput_0 : decode cX6_clearInput 0 = .ok (.aload_n 0, 1) := by decide +kernel
theorem dX6_clearInput_1 : decode cX6_clearInput 1 = .ok (.getfield 251, 3) := by decide +kernel
theorem dX6_clearInput_4 : decode cX6_clearInput 4 = .ok (.istore_n 1, 1) := by decide +kernel
theorem dX6_clearInput_5 : decode cX6_clearInput 5 = .ok (.aload_n 0, 1) := by decide +kernel
theorem dX6_clearInput_6 : decode cX6_clearInput 6 = .ok (.iconst 0, 1) := by decide +kernel
theorem dX6_clearInput_7 : decode cX6_clearInput 7 = .ok (.putfield 251, 3) := by decide +kernel
theorem dX6_clearInput_10 : decode cX6_clearInput 10 = .ok (.iload_n 1, 1) := by decide +kernel
theorem dX6_clearInput_11 : decode cX6_clearInput 11 = .ok (.ireturn, 1) := by decide +kernel
theorem dX6_parse_0 : decode cX6_parse 0 = .ok (.aload_n 0, 1) := by decide +kernel
theorem dX6_parse_1 : decode cX6_parse 1 = .ok (.aload_n 0, 1) := by decide +kernel
theorem dX6_parse_2 : decode cX6_parse 2 = .ok (.getfield 251, 3) := by decide +kernel
theorem dX6_parse_5 : decode cX6_parse 5 = .ok (.putfield 197, 3) := by decide +kernel
theorem dX6_parse_8 : decode cX6_parse 8 = .ok (.iconst 0, 1) := by decide +kernel
theorem dX6_parse_9 : decode cX6_parse 9 = .ok (.istore_n 1, 1) := by decide +kernel
theorem dX6_parse_10 : decode cX6_parse 10 = .ok (.iload_n 1, 1) := by decide +kernel
theorem dX6_parse_11 : decode cX6_parse 11 = .ok (.aload_n 0, 1) := by decide +kernel
theorem dX6_parse_12 : decode cX6_parse 12 = .ok (.getfield 251, 3) := by decide +kernel
theorem dX6_parse_15 : decode cX6_parse 15 = .ok (.if_icmp .ge 21, 3) := by decide +kernel
theorem dX6_parse_18 : decode cX6_parse 18 = .ok (.aload_n 0, 1) := by decide +kernel
theorem dX6_parse_19 : decode cX6_parse 19 = .ok (.getfield 69, 3) := by decide +kernel
theorem dX6_parse_22 : decode cX6_parse 22 = .ok (.iload_n 1, 1) := by decide +kernel
theorem dX6_parse_23 : decode cX6_parse 23 = .ok (.aload_n 0, 1) := by decide +kernel
theorem dX6_parse_24 : decode cX6_parse 24 = .ok (.getfield 48, 3) := by decide +kernel
theorem dX6_parse_27 : decode cX6_parse 27 = .ok (.iload_n 1, 1) := by decide +kernel
theorem dX6_parse_28 : decode cX6_parse 28 = .ok (.iaload, 1) := by decide +kernel
theorem dX6_parse_29 : decode cX6_parse 29 = .ok (.iastore, 1) := by decide +kernel
theorem dX6_parse_30 : decode cX6_parse 30 = .ok (.iinc 1 1, 3) := by decide +kernel
theorem dX6_parse_33 : decode cX6_parse 33 = .ok (.goto (-23), 3) := by decide +kernel
theorem dX6_parse_36 : decode cX6_parse 36 = .ok (.aload_n 0, 1) := by decide +kernel
theorem dX6_parse_37 : decode cX6_parse 37 = .ok (.invokevirtual 245, 3) := by decide +kernel
theorem dX6_parse_40 : decode cX6_parse 40 = .ok (.ifCond .ne 22, 3) := by decide +kernel
theorem dX6_parse_43 : decode cX6_parse 43 = .ok (.aload_n 0, 1) := by decide +kernel
theorem dX6_parse_44 : decode cX6_parse 44 = .ok (.aload_n 0, 1) := by decide +kernel
theorem dX6_parse_45 : decode cX6_parse 45 = .ok (.getfield 178, 3) := by decide +kernel
theorem dX6_parse_48 : decode cX6_parse 48 = .ok (.putfield 51, 3) := by decide +kernel
theorem dX6_parse_51 : decode cX6_parse 51 = .ok (.aload_n 0, 1) := by decide +kernel
theorem dX6_parse_52 : decode cX6_parse 52 = .ok (.aload_n 0, 1) := by decide +kernel
theorem dX6_parse_53 : decode cX6_parse 53 = .ok (.getfield 181, 3) := by decide +kernel
theorem dX6_parse_56 : decode cX6_parse 56 = .ok (.putfield 54, 3) := by decide +kernel
theorem dX6_parse_59 : decode cX6_parse 59 = .ok (.bipush (-12), 2) := by decide +kernel
theorem dX6_parse_61 : decode cX6_parse 61 = .ok (.ireturn, 1) := by decide +kernel
theorem dX6_parse_62 : decode cX6_parse 62 = .ok (.aload_n 0, 1) := by decide +kernel
theorem dX6_parse_63 : decode cX6_parse 63 = .ok (.getfield 175, 3) := by decide +kernel
theorem dX6_parse_66 : decode cX6_parse 66 = .ok (.bipush 40, 2) := by decide +kernel
theorem dX6_parse_68 : decode cX6_parse 68 = .ok (.if_icmp .le 6, 3) := by decide +kernel
theorem dX6_parse_71 : decode cX6_parse 71 = .ok (.bipush (-7), 2) := by decide +kernel
theorem dX6_parse_73 : decode cX6_parse 73 = .ok (.ireturn, 1) := by decide +kernel
theorem dX6_parse_74 : decode cX6_parse 74 = .ok (.aload_n 0, 1) := by decide +kernel
theorem dX6_parse_75 : decode cX6_parse 75 = .ok (.getfield 94, 3) := by decide +kernel
theorem dX6_parse_78 : decode cX6_parse 78 = .ok (.aload_n 0, 1) := by decide +kernel
theorem dX6_parse_79 : decode cX6_parse 79 = .ok (.getfield 175, 3) := by decide +kernel
theorem dX6_parse_82 : decode cX6_parse 82 = .ok (.iadd, 1) := by decide +kernel
theorem dX6_parse_83 : decode cX6_parse 83 = .ok (.bipush 100, 2) := by decide +kernel
theorem dX6_parse_85 : decode cX6_parse 85 = .ok (.if_icmp .le 6, 3) := by decide +kernel
theorem dX6_parse_88 : decode cX6_parse 88 = .ok (.bipush (-6), 2) := by decide +kernel
theorem dX6_parse_90 : decode cX6_parse 90 = .ok (.ireturn, 1) := by decide +kernel
theorem dX6_parse_91 : decode cX6_parse 91 = .ok (.aload_n 0, 1) := by decide +kernel
theorem dX6_parse_92 : decode cX6_parse 92 = .ok (.getfield 94, 3) := by decide +kernel
theorem dX6_parse_95 : decode cX6_parse 95 = .ok (.istore_n 1, 1) := by decide +kernel
theorem dX6_parse_96 : decode cX6_parse 96 = .ok (.iconst 0, 1) := by decide +kernel
theorem dX6_parse_97 : decode cX6_parse 97 = .ok (.istore_n 2, 1) := by decide +kernel
theorem dX6_parse_98 : decode cX6_parse 98 = .ok (.iload_n 2, 1) := by decide +kernel
theorem dX6_parse_99 : decode cX6_parse 99 = .ok (.aload_n 0, 1) := by decide +kernel
theorem dX6_parse_100 : decode cX6_parse 100 = .ok (.getfield 175, 3) := by decide +kernel
theorem dX6_parse_103 : decode cX6_parse 103 = .ok (.if_icmp .ge 77, 3) := by decide +kernel
theorem dX6_parse_106 : decode cX6_parse 106 = .ok (.aload_n 0, 1) := by decide +kernel
theorem dX6_parse_107 : decode cX6_parse 107 = .ok (.getfield 78, 3) := by decide +kernel
theorem dX6_parse_110 : decode cX6_parse 110 = .ok (.iload_n 2, 1) := by decide +kernel
theorem dX6_parse_111 : decode cX6_parse 111 = .ok (.iaload, 1) := by decide +kernel
theorem dX6_parse_112 : decode cX6_parse 112 = .ok (.ifCond .ge 8, 3) := by decide +kernel
theorem dX6_parse_115 : decode cX6_parse 115 = .ok (.bipush (-10), 2) := by decide +kernel
theorem dX6_parse_117 : decode cX6_parse 117 = .ok (.goto 11, 3) := by decide +kernel
theorem dX6_parse_120 : decode cX6_parse 120 = .ok (.iload_n 1, 1) := by decide +kernel
theorem dX6_parse_121 : decode cX6_parse 121 = .ok (.aload_n 0, 1) := by decide +kernel
theorem dX6_parse_122 : decode cX6_parse 122 = .ok (.getfield 78, 3) := by decide +kernel
theorem dX6_parse_125 : decode cX6_parse 125 = .ok (.iload_n 2, 1) := by decide +kernel
theorem dX6_parse_126 : decode cX6_parse 126 = .ok (.iaload, 1) := by decide +kernel
theorem dX6_parse_127 : decode cX6_parse 127 = .ok (.iadd, 1) := by decide +kernel
theorem dX6_parse_128 : decode cX6_parse 128 = .ok (.istore_n 3, 1) := by decide +kernel
theorem dX6_parse_129 : decode cX6_parse 129 = .ok (.aload_n 0, 1) := by decide +kernel
theorem dX6_parse_130 : decode cX6_parse 130 = .ok (.getfield 81, 3) := by decide +kernel
theorem dX6_parse_133 : decode cX6_parse 133 = .ok (.iload_n 2, 1) := by decide +kernel
theorem dX6_parse_134 : decode cX6_parse 134 = .ok (.iaload, 1) := by decide +kernel
theorem dX6_parse_135 : decode cX6_parse 135 = .ok (.ifCond .ge 8, 3) := by decide +kernel
theorem dX6_parse_138 : decode cX6_parse 138 = .ok (.bipush (-10), 2) := by decide +kernel
theorem dX6_parse_140 : decode cX6_parse 140 = .ok (.goto 11, 3) := by decide +kernel
theorem dX6_parse_143 : decode cX6_parse 143 = .ok (.iload_n 1, 1) := by decide +kernel
theorem dX6_parse_144 : decode cX6_parse 144 = .ok (.aload_n 0, 1) := by decide +kernel
theorem dX6_parse_145 : decode cX6_parse 145 = .ok (.getfield 81, 3) := by decide +kernel
theorem dX6_parse_148 : decode cX6_parse 148 = .ok (.iload_n 2, 1) := by decide +kernel
theorem dX6_parse_149 : decode cX6_parse 149 = .ok (.iaload, 1) := by decide +kernel
theorem dX6_parse_150 : decode cX6_parse 150 = .ok (.iadd, 1) := by decide +kernel
theorem dX6_parse_151 : decode cX6_parse 151 = .ok (.istore 4, 2) := by decide +kernel
theorem dX6_parse_153 : decode cX6_parse 153 = .ok (.aload_n 0, 1) := by decide +kernel
theorem dX6_parse_154 : decode cX6_parse 154 = .ok (.aload_n 0, 1) := by decide +kernel
theorem dX6_parse_155 : decode cX6_parse 155 = .ok (.getfield 72, 3) := by decide +kernel
theorem dX6_parse_158 : decode cX6_parse 158 = .ok (.iload_n 2, 1) := by decide +kernel
theorem dX6_parse_159 : decode cX6_parse 159 = .ok (.iaload, 1) := by decide +kernel
theorem dX6_parse_160 : decode cX6_parse 160 = .ok (.aload_n 0, 1) := by decide +kernel
theorem dX6_parse_161 : decode cX6_parse 161 = .ok (.getfield 75, 3) := by decide +kernel
theorem dX6_parse_164 : decode cX6_parse 164 = .ok (.iload_n 2, 1) := by decide +kernel
theorem dX6_parse_165 : decode cX6_parse 165 = .ok (.iaload, 1) := by decide +kernel
theorem dX6_parse_166 : decode cX6_parse 166 = .ok (.iload_n 3, 1) := by decide +kernel
theorem dX6_parse_167 : decode cX6_parse 167 = .ok (.iload 4, 2) := by decide +kernel
theorem dX6_parse_169 : decode cX6_parse 169 = .ok (.invokevirtual 112, 3) := by decide +kernel
theorem dX6_parse_172 : decode cX6_parse 172 = .ok (.istore 5, 2) := by decide +kernel
theorem dX6_parse_174 : decode cX6_parse 174 = .ok (.iinc 2 1, 3) := by decide +kernel
theorem dX6_parse_177 : decode cX6_parse 177 = .ok (.goto (-79), 3) := by decide +kernel
theorem dX6_parse_180 : decode cX6_parse 180 = .ok (.iload_n 1, 1) := by decide +kernel
theorem dX6_parse_181 : decode cX6_parse 181 = .ok (.aload_n 0, 1) := by decide +kernel
theorem dX6_parse_182 : decode cX6_parse 182 = .ok (.getfield 203, 3) := by decide +kernel
theorem dX6_parse_185 : decode cX6_parse 185 = .ok (.iadd, 1) := by decide +kernel
theorem dX6_parse_186 : decode cX6_parse 186 = .ok (.ireturn, 1) := by decide +kernel
theorem dX6_errorKind_0 : decode cX6_errorKind 0 = .ok (.aload_n 0, 1) := by decide +kernel
theorem dX6_errorKind_1 : decode cX6_errorKind 1 = .ok (.getfield 51, 3) := by decide +kernel
theorem dX6_errorKind_4 : decode cX6_errorKind 4 = .ok (.ireturn, 1) := by decide +kernel
theorem dX6_errorPosition_0 : decode cX6_errorPosition 0 = .ok (.aload_n 0, 1) := by decide +kernel
theorem dX6_errorPosition_1 : decode cX6_errorPosition 1 = .ok (.getfield 54, 3) := by decide +kernel
theorem dX6_errorPosition_4 : decode cX6_errorPosition 4 = .ok (.ireturn, 1) := by decide +kernel
