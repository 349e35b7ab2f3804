/-! ===== constructors: decode rows (as printed), words ===== -/
theorem dX0_init_0 : decode cX0_init 0 = .ok (.aload_n 0, 1) := by decide +kernel
theorem dX0_init_1 : decode cX0_init 1 = .ok (.invokespecial 3, 3) := by decide +kernel
theorem dX0_init_4 : decode cX0_init 4 = .ok (.aload_n 0, 1) := by decide +kernel
theorem dX0_init_5 : decode cX0_init 5 = .ok (.bipush 120, 2) := by decide +kernel
theorem dX0_init_7 : decode cX0_init 7 = .ok (.newarray .int, 2) := by decide +kernel
theorem dX0_init_9 : decode cX0_init 9 = .ok (.putfield 11, 3) := by decide +kernel
theorem dX0_init_12 : decode cX0_init 12 = .ok (.aload_n 0, 1) := by decide +kernel
theorem dX0_init_13 : decode cX0_init 13 = .ok (.bipush 120, 2) := by decide +kernel
theorem dX0_init_15 : decode cX0_init 15 = .ok (.newarray .int, 2) := by decide +kernel
theorem dX0_init_17 : decode cX0_init 17 = .ok (.putfield 15, 3) := by decide +kernel
theorem dX0_init_20 : decode cX0_init 20 = .ok (.aload_n 0, 1) := by decide +kernel
theorem dX0_init_21 : decode cX0_init 21 = .ok (.bipush 120, 2) := by decide +kernel
theorem dX0_init_23 : decode cX0_init 23 = .ok (.newarray .int, 2) := by decide +kernel
theorem dX0_init_25 : decode cX0_init 25 = .ok (.putfield 18, 3) := by decide +kernel
theorem dX0_init_28 : decode cX0_init 28 = .ok (.aload_n 0, 1) := by decide +kernel
theorem dX0_init_29 : decode cX0_init 29 = .ok (.bipush 120, 2) := by decide +kernel
theorem dX0_init_31 : decode cX0_init 31 = .ok (.newarray .int, 2) := by decide +kernel
theorem dX0_init_33 : decode cX0_init 33 = .ok (.putfield 21, 3) := by decide +kernel
theorem dX0_init_36 : decode cX0_init 36 = .ok (.aload_n 0, 1) := by decide +kernel
theorem dX0_init_37 : decode cX0_init 37 = .ok (.bipush 120, 2) := by decide +kernel
theorem dX0_init_39 : decode cX0_init 39 = .ok (.newarray .int, 2) := by decide +kernel
theorem dX0_init_41 : decode cX0_init 41 = .ok (.putfield 24, 3) := by decide +kernel
theorem dX0_init_44 : decode cX0_init 44 = .ok (.return_, 1) := by decide +kernel
theorem dX1_init_0 : decode cX1_init 0 = .ok (.aload_n 0, 1) := by decide +kernel
theorem dX1_init_1 : decode cX1_init 1 = .ok (.invokespecial 3, 3) := by decide +kernel
theorem dX1_init_4 : decode cX1_init 4 = .ok (.aload_n 0, 1) := by decide +kernel
theorem dX1_init_5 : decode cX1_init 5 = .ok (.bipush 16, 2) := by decide +kernel
theorem dX1_init_7 : decode cX1_init 7 = .ok (.newarray .int, 2) := by decide +kernel
theorem dX1_init_9 : decode cX1_init 9 = .ok (.putfield 9, 3) := by decide +kernel
theorem dX1_init_12 : decode cX1_init 12 = .ok (.aload_n 0, 1) := by decide +kernel
theorem dX1_init_13 : decode cX1_init 13 = .ok (.bipush 16, 2) := by decide +kernel
theorem dX1_init_15 : decode cX1_init 15 = .ok (.newarray .int, 2) := by decide +kernel
theorem dX1_init_17 : decode cX1_init 17 = .ok (.putfield 15, 3) := by decide +kernel
theorem dX1_init_20 : decode cX1_init 20 = .ok (.aload_n 0, 1) := by decide +kernel
theorem dX1_init_21 : decode cX1_init 21 = .ok (.bipush 16, 2) := by decide +kernel
theorem dX1_init_23 : decode cX1_init 23 = .ok (.newarray .int, 2) := by decide +kernel
theorem dX1_init_25 : decode cX1_init 25 = .ok (.putfield 18, 3) := by decide +kernel
theorem dX1_init_28 : decode cX1_init 28 = .ok (.aload_n 0, 1) := by decide +kernel
theorem dX1_init_29 : decode cX1_init 29 = .ok (.bipush 10, 2) := by decide +kernel
theorem dX1_init_31 : decode cX1_init 31 = .ok (.newarray .int, 2) := by decide +kernel
theorem dX1_init_33 : decode cX1_init 33 = .ok (.putfield 21, 3) := by decide +kernel
theorem dX1_init_36 : decode cX1_init 36 = .ok (.aload_n 0, 1) := by decide +kernel
theorem dX1_init_37 : decode cX1_init 37 = .ok (.sipush 256, 3) := by decide +kernel
theorem dX1_init_40 : decode cX1_init 40 = .ok (.newarray .boolean, 2) := by decide +kernel
theorem dX1_init_42 : decode cX1_init 42 = .ok (.putfield 24, 3) := by decide +kernel
theorem dX1_init_45 : decode cX1_init 45 = .ok (.return_, 1) := by decide +kernel
theorem dX2_init_0 : decode cX2_init 0 = .ok (.aload_n 0, 1) := by decide +kernel
theorem dX2_init_1 : decode cX2_init 1 = .ok (.invokespecial 3, 3) := by decide +kernel
theorem dX2_init_4 : decode cX2_init 4 = .ok (.aload_n 0, 1) := by decide +kernel
theorem dX2_init_5 : decode cX2_init 5 = .ok (.bipush 120, 2) := by decide +kernel
theorem dX2_init_7 : decode cX2_init 7 = .ok (.newarray .int, 2) := by decide +kernel
theorem dX2_init_9 : decode cX2_init 9 = .ok (.putfield 9, 3) := by decide +kernel
theorem dX2_init_12 : decode cX2_init 12 = .ok (.aload_n 0, 1) := by decide +kernel
theorem dX2_init_13 : decode cX2_init 13 = .ok (.bipush 120, 2) := by decide +kernel
theorem dX2_init_15 : decode cX2_init 15 = .ok (.newarray .int, 2) := by decide +kernel
theorem dX2_init_17 : decode cX2_init 17 = .ok (.putfield 15, 3) := by decide +kernel
theorem dX2_init_20 : decode cX2_init 20 = .ok (.aload_n 0, 1) := by decide +kernel
theorem dX2_init_21 : decode cX2_init 21 = .ok (.bipush 120, 2) := by decide +kernel
theorem dX2_init_23 : decode cX2_init 23 = .ok (.newarray .int, 2) := by decide +kernel
theorem dX2_init_25 : decode cX2_init 25 = .ok (.putfield 18, 3) := by decide +kernel
theorem dX2_init_28 : decode cX2_init 28 = .ok (.aload_n 0, 1) := by decide +kernel
theorem dX2_init_29 : decode cX2_init 29 = .ok (.aload_n 1, 1) := by decide +kernel
theorem dX2_init_30 : decode cX2_init 30 = .ok (.putfield 21, 3) := by decide +kernel
theorem dX2_init_33 : decode cX2_init 33 = .ok (.aload_n 0, 1) := by decide +kernel
theorem dX2_init_34 : decode cX2_init 34 = .ok (.aload_n 2, 1) := by decide +kernel
theorem dX2_init_35 : decode cX2_init 35 = .ok (.putfield 25, 3) := by decide +kernel
theorem dX2_init_38 : decode cX2_init 38 = .ok (.aload_n 0, 1) := by decide +kernel
theorem dX2_init_39 : decode cX2_init 39 = .ok (.aload_n 3, 1) := by decide +kernel
theorem dX2_init_40 : decode cX2_init 40 = .ok (.putfield 29, 3) := by decide +kernel
theorem dX2_init_43 : decode cX2_init 43 = .ok (.return_, 1) := by decide +kernel
theorem dX3_init_0 : decode cX3_init 0 = .ok (.aload_n 0, 1) := by decide +kernel
theorem dX3_init_1 : decode cX3_init 1 = .ok (.invokespecial 3, 3) := by decide +kernel
theorem dX3_init_4 : decode cX3_init 4 = .ok (.aload_n 0, 1) := by decide +kernel
theorem dX3_init_5 : decode cX3_init 5 = .ok (.bipush 120, 2) := by decide +kernel
theorem dX3_init_7 : decode cX3_init 7 = .ok (.newarray .int, 2) := by decide +kernel
theorem dX3_init_9 : decode cX3_init 9 = .ok (.putfield 9, 3) := by decide +kernel
theorem dX3_init_12 : decode cX3_init 12 = .ok (.return_, 1) := by decide +kernel
theorem dX4_init_0 : decode cX4_init 0 = .ok (.aload_n 0, 1) := by decide +kernel
theorem dX4_init_1 : decode cX4_init 1 = .ok (.invokespecial 3, 3) := by decide +kernel
theorem dX4_init_4 : decode cX4_init 4 = .ok (.aload_n 0, 1) := by decide +kernel
theorem dX4_init_5 : decode cX4_init 5 = .ok (.bipush 100, 2) := by decide +kernel
theorem dX4_init_7 : decode cX4_init 7 = .ok (.newarray .int, 2) := by decide +kernel
theorem dX4_init_9 : decode cX4_init 9 = .ok (.putfield 9, 3) := by decide +kernel
theorem dX4_init_12 : decode cX4_init 12 = .ok (.aload_n 0, 1) := by decide +kernel
theorem dX4_init_13 : decode cX4_init 13 = .ok (.aload_n 1, 1) := by decide +kernel
theorem dX4_init_14 : decode cX4_init 14 = .ok (.putfield 15, 3) := by decide +kernel
theorem dX4_init_17 : decode cX4_init 17 = .ok (.aload_n 0, 1) := by decide +kernel
theorem dX4_init_18 : decode cX4_init 18 = .ok (.aload_n 2, 1) := by decide +kernel
theorem dX4_init_19 : decode cX4_init 19 = .ok (.putfield 19, 3) := by decide +kernel
theorem dX4_init_22 : decode cX4_init 22 = .ok (.aload_n 0, 1) := by decide +kernel
theorem dX4_init_23 : decode cX4_init 23 = .ok (.aload_n 3, 1) := by decide +kernel
theorem dX4_init_24 : decode cX4_init 24 = .ok (.putfield 23, 3) := by decide +kernel
theorem dX4_init_27 : decode cX4_init 27 = .ok (.return_, 1) := by decide +kernel
theorem dX5_init_0 : decode cX5_init 0 = .ok (.aload_n 0, 1) := by decide +kernel
theorem dX5_init_1 : decode cX5_init 1 = .ok (.invokespecial 1, 3) := by decide +kernel
theorem dX5_init_4 : decode cX5_init 4 = .ok (.aload_n 0, 1) := by decide +kernel
theorem dX5_init_5 : decode cX5_init 5 = .ok (.new 7, 3) := by decide +kernel
theorem dX5_init_8 : decode cX5_init 8 = .ok (.dup, 1) := by decide +kernel
theorem dX5_init_9 : decode cX5_init 9 = .ok (.invokespecial 9, 3) := by decide +kernel
theorem dX5_init_12 : decode cX5_init 12 = .ok (.putfield 10, 3) := by decide +kernel
theorem dX5_init_15 : decode cX5_init 15 = .ok (.aload_n 0, 1) := by decide +kernel
theorem dX5_init_16 : decode cX5_init 16 = .ok (.new 16, 3) := by decide +kernel
theorem dX5_init_19 : decode cX5_init 19 = .ok (.dup, 1) := by decide +kernel
theorem dX5_init_20 : decode cX5_init 20 = .ok (.invokespecial 18, 3) := by decide +kernel
theorem dX5_init_23 : decode cX5_init 23 = .ok (.putfield 19, 3) := by decide +kernel
theorem dX5_init_26 : decode cX5_init 26 = .ok (.aload_n 0, 1) := by decide +kernel
theorem dX5_init_27 : decode cX5_init 27 = .ok (.new 16, 3) := by decide +kernel
theorem dX5_init_30 : decode cX5_init 30 = .ok (.dup, 1) := by decide +kernel
theorem dX5_init_31 : decode cX5_init 31 = .ok (.invokespecial 18, 3) := by decide +kernel
theorem dX5_init_34 : decode cX5_init 34 = .ok (.putfield 23, 3) := by decide +kernel
theorem dX5_init_37 : decode cX5_init 37 = .ok (.aload_n 0, 1) := by decide +kernel
theorem dX5_init_38 : decode cX5_init 38 = .ok (.new 26, 3) := by decide +kernel
theorem dX5_init_41 : decode cX5_init 41 = .ok (.dup, 1) := by decide +kernel
theorem dX5_init_42 : decode cX5_init 42 = .ok (.invokespecial 28, 3) := by decide +kernel
theorem dX5_init_45 : decode cX5_init 45 = .ok (.putfield 29, 3) := by decide +kernel
theorem dX5_init_48 : decode cX5_init 48 = .ok (.aload_n 0, 1) := by decide +kernel
theorem dX5_init_49 : decode cX5_init 49 = .ok (.new 26, 3) := by decide +kernel
theorem dX5_init_52 : decode cX5_init 52 = .ok (.dup, 1) := by decide +kernel
theorem dX5_init_53 : decode cX5_init 53 = .ok (.invokespecial 28, 3) := by decide +kernel
theorem dX5_init_56 : decode cX5_init 56 = .ok (.putfield 33, 3) := by decide +kernel
theorem dX5_init_59 : decode cX5_init 59 = .ok (.aload_n 0, 1) := by decide +kernel
theorem dX5_init_60 : decode cX5_init 60 = .ok (.new 26, 3) := by decide +kernel
theorem dX5_init_63 : decode cX5_init 63 = .ok (.dup, 1) := by decide +kernel
theorem dX5_init_64 : decode cX5_init 64 = .ok (.invokespecial 28, 3) := by decide +kernel
theorem dX5_init_67 : decode cX5_init 67 = .ok (.putfield 36, 3) := by decide +kernel
theorem dX5_init_70 : decode cX5_init 70 = .ok (.aload_n 0, 1) := by decide +kernel
theorem dX5_init_71 : decode cX5_init 71 = .ok (.new 39, 3) := by decide +kernel
theorem dX5_init_74 : decode cX5_init 74 = .ok (.dup, 1) := by decide +kernel
theorem dX5_init_75 : decode cX5_init 75 = .ok (.aload_n 0, 1) := by decide +kernel
theorem dX5_init_76 : decode cX5_init 76 = .ok (.getfield 10, 3) := by decide +kernel
theorem dX5_init_79 : decode cX5_init 79 = .ok (.aload_n 0, 1) := by decide +kernel
theorem dX5_init_80 : decode cX5_init 80 = .ok (.getfield 23, 3) := by decide +kernel
theorem dX5_init_83 : decode cX5_init 83 = .ok (.aload_n 0, 1) := by decide +kernel
theorem dX5_init_84 : decode cX5_init 84 = .ok (.getfield 36, 3) := by decide +kernel
theorem dX5_init_87 : decode cX5_init 87 = .ok (.invokespecial 41, 3) := by decide +kernel
theorem dX5_init_90 : decode cX5_init 90 = .ok (.putfield 44, 3) := by decide +kernel
theorem dX5_init_93 : decode cX5_init 93 = .ok (.aload_n 0, 1) := by decide +kernel
theorem dX5_init_94 : decode cX5_init 94 = .ok (.new 48, 3) := by decide +kernel
theorem dX5_init_97 : decode cX5_init 97 = .ok (.dup, 1) := by decide +kernel
theorem dX5_init_98 : decode cX5_init 98 = .ok (.aload_n 0, 1) := by decide +kernel
theorem dX5_init_99 : decode cX5_init 99 = .ok (.getfield 10, 3) := by decide +kernel
theorem dX5_init_102 : decode cX5_init 102 = .ok (.aload_n 0, 1) := by decide +kernel
theorem dX5_init_103 : decode cX5_init 103 = .ok (.getfield 19, 3) := by decide +kernel
theorem dX5_init_106 : decode cX5_init 106 = .ok (.aload_n 0, 1) := by decide +kernel
theorem dX5_init_107 : decode cX5_init 107 = .ok (.getfield 33, 3) := by decide +kernel
theorem dX5_init_110 : decode cX5_init 110 = .ok (.invokespecial 50, 3) := by decide +kernel
theorem dX5_init_113 : decode cX5_init 113 = .ok (.putfield 51, 3) := by decide +kernel
theorem dX5_init_116 : decode cX5_init 116 = .ok (.aload_n 0, 1) := by decide +kernel
theorem dX5_init_117 : decode cX5_init 117 = .ok (.iconst (-1), 1) := by decide +kernel
theorem dX5_init_118 : decode cX5_init 118 = .ok (.putfield 55, 3) := by decide +kernel
theorem dX5_init_121 : decode cX5_init 121 = .ok (.aload_n 0, 1) := by decide +kernel
theorem dX5_init_122 : decode cX5_init 122 = .ok (.bipush (-10), 2) := by decide +kernel
theorem dX5_init_124 : decode cX5_init 124 = .ok (.putfield 59, 3) := by decide +kernel
theorem dX5_init_127 : decode cX5_init 127 = .ok (.aload_n 0, 1) := by decide +kernel
theorem dX5_init_128 : decode cX5_init 128 = .ok (.bipush (-10), 2) := by decide +kernel
theorem dX5_init_130 : decode cX5_init 130 = .ok (.putfield 62, 3) := by decide +kernel
theorem dX5_init_133 : decode cX5_init 133 = .ok (.return_, 1) := by decide +kernel
theorem dX6_init_0 : decode cX6_init 0 = .ok (.aload_n 0, 1) := by decide +kernel
theorem dX6_init_1 : decode cX6_init 1 = .ok (.invokespecial 1, 3) := by decide +kernel
theorem dX6_init_4 : decode cX6_init 4 = .ok (.aload_n 0, 1) := by decide +kernel
theorem dX6_init_5 : decode cX6_init 5 = .ok (.bipush 16, 2) := by decide +kernel
theorem dX6_init_7 : decode cX6_init 7 = .ok (.newarray .int, 2) := by decide +kernel
theorem dX6_init_9 : decode cX6_init 9 = .ok (.putfield 7, 3) := by decide +kernel
theorem dX6_init_12 : decode cX6_init 12 = .ok (.aload_n 0, 1) := by decide +kernel
theorem dX6_init_13 : decode cX6_init 13 = .ok (.bipush 16, 2) := by decide +kernel
theorem dX6_init_15 : decode cX6_init 15 = .ok (.newarray .int, 2) := by decide +kernel
theorem dX6_init_17 : decode cX6_init 17 = .ok (.putfield 13, 3) := by decide +kernel
theorem dX6_init_20 : decode cX6_init 20 = .ok (.aload_n 0, 1) := by decide +kernel
theorem dX6_init_21 : decode cX6_init 21 = .ok (.bipush 16, 2) := by decide +kernel
theorem dX6_init_23 : decode cX6_init 23 = .ok (.newarray .int, 2) := by decide +kernel
theorem dX6_init_25 : decode cX6_init 25 = .ok (.putfield 16, 3) := by decide +kernel
theorem dX6_init_28 : decode cX6_init 28 = .ok (.aload_n 0, 1) := by decide +kernel
theorem dX6_init_29 : decode cX6_init 29 = .ok (.bipush 10, 2) := by decide +kernel
theorem dX6_init_31 : decode cX6_init 31 = .ok (.newarray .int, 2) := by decide +kernel
theorem dX6_init_33 : decode cX6_init 33 = .ok (.putfield 19, 3) := by decide +kernel
theorem dX6_init_36 : decode cX6_init 36 = .ok (.aload_n 0, 1) := by decide +kernel
theorem dX6_init_37 : decode cX6_init 37 = .ok (.sipush 256, 3) := by decide +kernel
theorem dX6_init_40 : decode cX6_init 40 = .ok (.newarray .boolean, 2) := by decide +kernel
theorem dX6_init_42 : decode cX6_init 42 = .ok (.putfield 22, 3) := by decide +kernel
theorem dX6_init_45 : decode cX6_init 45 = .ok (.aload_n 0, 1) := by decide +kernel
theorem dX6_init_46 : decode cX6_init 46 = .ok (.bipush 100, 2) := by decide +kernel
theorem dX6_init_48 : decode cX6_init 48 = .ok (.newarray .int, 2) := by decide +kernel
theorem dX6_init_50 : decode cX6_init 50 = .ok (.putfield 26, 3) := by decide +kernel
theorem dX6_init_53 : decode cX6_init 53 = .ok (.aload_n 0, 1) := by decide +kernel
theorem dX6_init_54 : decode cX6_init 54 = .ok (.bipush 100, 2) := by decide +kernel
theorem dX6_init_56 : decode cX6_init 56 = .ok (.newarray .int, 2) := by decide +kernel
theorem dX6_init_58 : decode cX6_init 58 = .ok (.putfield 29, 3) := by decide +kernel
theorem dX6_init_61 : decode cX6_init 61 = .ok (.aload_n 0, 1) := by decide +kernel
theorem dX6_init_62 : decode cX6_init 62 = .ok (.bipush 100, 2) := by decide +kernel
theorem dX6_init_64 : decode cX6_init 64 = .ok (.newarray .int, 2) := by decide +kernel
theorem dX6_init_66 : decode cX6_init 66 = .ok (.putfield 32, 3) := by decide +kernel
theorem dX6_init_69 : decode cX6_init 69 = .ok (.aload_n 0, 1) := by decide +kernel
theorem dX6_init_70 : decode cX6_init 70 = .ok (.bipush 100, 2) := by decide +kernel
theorem dX6_init_72 : decode cX6_init 72 = .ok (.newarray .int, 2) := by decide +kernel
theorem dX6_init_74 : decode cX6_init 74 = .ok (.putfield 35, 3) := by decide +kernel
theorem dX6_init_77 : decode cX6_init 77 = .ok (.aload_n 0, 1) := by decide +kernel
theorem dX6_init_78 : decode cX6_init 78 = .ok (.bipush 100, 2) := by decide +kernel
theorem dX6_init_80 : decode cX6_init 80 = .ok (.newarray .int, 2) := by decide +kernel
theorem dX6_init_82 : decode cX6_init 82 = .ok (.putfield 38, 3) := by decide +kernel
theorem dX6_init_85 : decode cX6_init 85 = .ok (.aload_n 0, 1) := by decide +kernel
theorem dX6_init_86 : decode cX6_init 86 = .ok (.bipush 120, 2) := by decide +kernel
theorem dX6_init_88 : decode cX6_init 88 = .ok (.newarray .int, 2) := by decide +kernel
theorem dX6_init_90 : decode cX6_init 90 = .ok (.putfield 41, 3) := by decide +kernel
theorem dX6_init_93 : decode cX6_init 93 = .ok (.aload_n 0, 1) := by decide +kernel
theorem dX6_init_94 : decode cX6_init 94 = .ok (.bipush (-10), 2) := by decide +kernel
theorem dX6_init_96 : decode cX6_init 96 = .ok (.putfield 44, 3) := by decide +kernel
theorem dX6_init_99 : decode cX6_init 99 = .ok (.aload_n 0, 1) := by decide +kernel
theorem dX6_init_100 : decode cX6_init 100 = .ok (.bipush 120, 2) := by decide +kernel
theorem dX6_init_102 : decode cX6_init 102 = .ok (.newarray .int, 2) := by decide +kernel
theorem dX6_init_104 : decode cX6_init 104 = .ok (.putfield 48, 3) := by decide +kernel
theorem dX6_init_107 : decode cX6_init 107 = .ok (.aload_n 0, 1) := by decide +kernel
theorem dX6_init_108 : decode cX6_init 108 = .ok (.bipush (-10), 2) := by decide +kernel
theorem dX6_init_110 : decode cX6_init 110 = .ok (.putfield 51, 3) := by decide +kernel
theorem dX6_init_113 : decode cX6_init 113 = .ok (.aload_n 0, 1) := by decide +kernel
theorem dX6_init_114 : decode cX6_init 114 = .ok (.bipush (-10), 2) := by decide +kernel
theorem dX6_init_116 : decode cX6_init 116 = .ok (.putfield 54, 3) := by decide +kernel
theorem dX6_init_119 : decode cX6_init 119 = .ok (.aload_n 0, 1) := by decide +kernel
theorem dX6_init_120 : decode cX6_init 120 = .ok (.sipush 256, 3) := by decide +kernel
theorem dX6_init_123 : decode cX6_init 123 = .ok (.newarray .int, 2) := by decide +kernel
theorem dX6_init_125 : decode cX6_init 125 = .ok (.putfield 57, 3) := by decide +kernel
theorem dX6_init_128 : decode cX6_init 128 = .ok (.aload_n 0, 1) := by decide +kernel
theorem dX6_init_129 : decode cX6_init 129 = .ok (.sipush 256, 3) := by decide +kernel
theorem dX6_init_132 : decode cX6_init 132 = .ok (.newarray .int, 2) := by decide +kernel
theorem dX6_init_134 : decode cX6_init 134 = .ok (.putfield 60, 3) := by decide +kernel
theorem dX6_init_137 : decode cX6_init 137 = .ok (.aload_n 0, 1) := by decide +kernel
theorem dX6_init_138 : decode cX6_init 138 = .ok (.sipush 12100, 3) := by decide +kernel
theorem dX6_init_141 : decode cX6_init 141 = .ok (.newarray .int, 2) := by decide +kernel
theorem dX6_init_143 : decode cX6_init 143 = .ok (.putfield 63, 3) := by decide +kernel
theorem dX6_init_146 : decode cX6_init 146 = .ok (.aload_n 0, 1) := by decide +kernel
theorem dX6_init_147 : decode cX6_init 147 = .ok (.sipush 1200, 3) := by decide +kernel
theorem dX6_init_150 : decode cX6_init 150 = .ok (.newarray .int, 2) := by decide +kernel
theorem dX6_init_152 : decode cX6_init 152 = .ok (.putfield 66, 3) := by decide +kernel
theorem dX6_init_155 : decode cX6_init 155 = .ok (.aload_n 0, 1) := by decide +kernel
theorem dX6_init_156 : decode cX6_init 156 = .ok (.bipush 120, 2) := by decide +kernel
theorem dX6_init_158 : decode cX6_init 158 = .ok (.newarray .int, 2) := by decide +kernel
theorem dX6_init_160 : decode cX6_init 160 = .ok (.putfield 69, 3) := by decide +kernel
theorem dX6_init_163 : decode cX6_init 163 = .ok (.aload_n 0, 1) := by decide +kernel
theorem dX6_init_164 : decode cX6_init 164 = .ok (.sipush 130, 3) := by decide +kernel
theorem dX6_init_167 : decode cX6_init 167 = .ok (.newarray .int, 2) := by decide +kernel
theorem dX6_init_169 : decode cX6_init 169 = .ok (.putfield 72, 3) := by decide +kernel
theorem dX6_init_172 : decode cX6_init 172 = .ok (.aload_n 0, 1) := by decide +kernel
theorem dX6_init_173 : decode cX6_init 173 = .ok (.sipush 130, 3) := by decide +kernel
theorem dX6_init_176 : decode cX6_init 176 = .ok (.newarray .int, 2) := by decide +kernel
theorem dX6_init_178 : decode cX6_init 178 = .ok (.putfield 75, 3) := by decide +kernel
theorem dX6_init_181 : decode cX6_init 181 = .ok (.aload_n 0, 1) := by decide +kernel
theorem dX6_init_182 : decode cX6_init 182 = .ok (.sipush 130, 3) := by decide +kernel
theorem dX6_init_185 : decode cX6_init 185 = .ok (.newarray .int, 2) := by decide +kernel
theorem dX6_init_187 : decode cX6_init 187 = .ok (.putfield 78, 3) := by decide +kernel
theorem dX6_init_190 : decode cX6_init 190 = .ok (.aload_n 0, 1) := by decide +kernel
theorem dX6_init_191 : decode cX6_init 191 = .ok (.sipush 130, 3) := by decide +kernel
theorem dX6_init_194 : decode cX6_init 194 = .ok (.newarray .int, 2) := by decide +kernel
theorem dX6_init_196 : decode cX6_init 196 = .ok (.putfield 81, 3) := by decide +kernel
theorem dX6_init_199 : decode cX6_init 199 = .ok (.aload_n 0, 1) := by decide +kernel
theorem dX6_init_200 : decode cX6_init 200 = .ok (.sipush 700, 3) := by decide +kernel
theorem dX6_init_203 : decode cX6_init 203 = .ok (.newarray .int, 2) := by decide +kernel
theorem dX6_init_205 : decode cX6_init 205 = .ok (.putfield 84, 3) := by decide +kernel
theorem dX6_init_208 : decode cX6_init 208 = .ok (.return_, 1) := by decide +kernel
theorem wOI : Cond.instanceMethod objectInit ∈ TB := tb_of (tbl1 (List.mem_of_getElem? (i := 15) (by decide +kernel))) rfl
theorem wOC : Cond.code objectInit ⟨#[0xb1]⟩ 1 none ∈ TB := tb_of (tbl1 (List.mem_of_getElem? (i := 16) (by decide +kernel))) rfl
theorem wAI : Cond.arrayClass .int ∈ TB := tb_of (tbl1 (List.mem_of_getElem? (i := 42) (by decide +kernel))) rfl
theorem wAZ : Cond.arrayClass .boolean ∈ TB := tb_of (tbl1 (List.mem_of_getElem? (i := 43) (by decide +kernel))) rfl
theorem oX0 : Cond.methodLink RX0 3 objectInit ∈ TB := tb_of (tbl1 (List.mem_of_getElem? (i := 49) (by decide +kernel))) rfl
theorem tI0 : Cond.instantiable RX0 6 ∈ TB := tb_of (tbl1 (List.mem_of_getElem? (i := 45) (by decide +kernel))) rfl
theorem tN0 : Cond.initialized RX0 ∈ TB := tb_of (tbl1 (List.mem_of_getElem? (i := 3) (by decide +kernel))) rfl
theorem iM0 : Cond.instanceMethod yX0_init ∈ TB := tb_of (tbl1 (List.mem_of_getElem? (i := 47) (by decide +kernel))) rfl
theorem iC0 : Cond.code yX0_init cX0_init 1 none ∈ TB := tb_of (tbl1 (List.mem_of_getElem? (i := 48) (by decide +kernel))) rfl
theorem oX1 : Cond.methodLink RX1 3 objectInit ∈ TB := tb_of (tbl1 (List.mem_of_getElem? (i := 22) (by decide +kernel))) rfl
theorem tI1 : Cond.instantiable RX1 6 ∈ TB := tb_of (tbl1 (List.mem_of_getElem? (i := 18) (by decide +kernel))) rfl
theorem tN1 : Cond.initialized RX1 ∈ TB := tb_of (tbl1 (List.mem_of_getElem? (i := 2) (by decide +kernel))) rfl
theorem iM1 : Cond.instanceMethod yX1_init ∈ TB := tb_of (tbl1 (List.mem_of_getElem? (i := 20) (by decide +kernel))) rfl
theorem iC1 : Cond.code yX1_init cX1_init 1 none ∈ TB := tb_of (tbl1 (List.mem_of_getElem? (i := 21) (by decide +kernel))) rfl
theorem oX2 : Cond.methodLink RX2 3 objectInit ∈ TB := tb_of (tbl1 (List.mem_of_getElem? (i := 87) (by decide +kernel))) rfl
theorem tI2 : Cond.instantiable RX2 14 ∈ TB := tb_of (tbl1 (List.mem_of_getElem? (i := 83) (by decide +kernel))) rfl
theorem tN2 : Cond.initialized RX2 ∈ TB := tb_of (tbl1 (List.mem_of_getElem? (i := 5) (by decide +kernel))) rfl
theorem iM2 : Cond.instanceMethod yX2_init ∈ TB := tb_of (tbl1 (List.mem_of_getElem? (i := 85) (by decide +kernel))) rfl
theorem iC2 : Cond.code yX2_init cX2_init 4 none ∈ TB := tb_of (tbl1 (List.mem_of_getElem? (i := 86) (by decide +kernel))) rfl
theorem oX3 : Cond.methodLink RX3 3 objectInit ∈ TB := tb_of (tbl1 (List.mem_of_getElem? (i := 74) (by decide +kernel))) rfl
theorem tI3 : Cond.instantiable RX3 2 ∈ TB := tb_of (tbl1 (List.mem_of_getElem? (i := 70) (by decide +kernel))) rfl
theorem tN3 : Cond.initialized RX3 ∈ TB := tb_of (tbl1 (List.mem_of_getElem? (i := 4) (by decide +kernel))) rfl
theorem iM3 : Cond.instanceMethod yX3_init ∈ TB := tb_of (tbl1 (List.mem_of_getElem? (i := 72) (by decide +kernel))) rfl
theorem iC3 : Cond.code yX3_init cX3_init 1 none ∈ TB := tb_of (tbl1 (List.mem_of_getElem? (i := 73) (by decide +kernel))) rfl
theorem oX4 : Cond.methodLink RX4 3 objectInit ∈ TB := tb_of (tbl1 (List.mem_of_getElem? (i := 136) (by decide +kernel))) rfl
theorem tI4 : Cond.instantiable RX4 5 ∈ TB := tb_of (tbl1 (List.mem_of_getElem? (i := 132) (by decide +kernel))) rfl
theorem tN4 : Cond.initialized RX4 ∈ TB := tb_of (tbl1 (List.mem_of_getElem? (i := 6) (by decide +kernel))) rfl
theorem iM4 : Cond.instanceMethod yX4_init ∈ TB := tb_of (tbl1 (List.mem_of_getElem? (i := 134) (by decide +kernel))) rfl
theorem iC4 : Cond.code yX4_init cX4_init 4 none ∈ TB := tb_of (tbl1 (List.mem_of_getElem? (i := 135) (by decide +kernel))) rfl
theorem oX5 : Cond.methodLink RX5 1 objectInit ∈ TB := tb_of (tbl1 (List.mem_of_getElem? (i := 14) (by decide +kernel))) rfl
theorem tI5 : Cond.instantiable RX5 11 ∈ TB := tb_of (tbl1 (List.mem_of_getElem? (i := 10) (by decide +kernel))) rfl
theorem tN5 : Cond.initialized RX5 ∈ TB := tb_of (tbl1 (List.mem_of_getElem? (i := 1) (by decide +kernel))) rfl
theorem iM5 : Cond.instanceMethod yX5_init ∈ TB := tb_of (tbl1 (List.mem_of_getElem? (i := 12) (by decide +kernel))) rfl
theorem iC5 : Cond.code yX5_init cX5_init 1 none ∈ TB := tb_of (tbl1 (List.mem_of_getElem? (i := 13) (by decide +kernel))) rfl
theorem oX6 : Cond.methodLink RX6 1 objectInit ∈ TB := tb_of (tbl3 (List.mem_of_getElem? (i := 143) (by decide +kernel))) rfl
theorem tI6 : Cond.instantiable RX6 40 ∈ TB := tb_of (tbl3 (List.mem_of_getElem? (i := 139) (by decide +kernel))) rfl
theorem tN6 : Cond.initialized RX6 ∈ TB := tb_of (tbl1 (List.mem_of_getElem? (i := 7) (by decide +kernel))) rfl
theorem iM6 : Cond.instanceMethod yX6_init ∈ TB := tb_of (tbl3 (List.mem_of_getElem? (i := 141) (by decide +kernel))) rfl
theorem iC6 : Cond.code yX6_init cX6_init 1 none ∈ TB := tb_of (tbl3 (List.mem_of_getElem? (i := 142) (by decide +kernel))) rfl
theorem nX5_7 : Cond.classLink RX5 7 RX1 ∈ TB := tb_of (tbl1 (List.mem_of_getElem? (i := 17) (by decide +kernel))) rfl
theorem nX5_16 : Cond.classLink RX5 16 RX0 ∈ TB := tb_of (tbl1 (List.mem_of_getElem? (i := 44) (by decide +kernel))) rfl
theorem nX5_26 : Cond.classLink RX5 26 RX3 ∈ TB := tb_of (tbl1 (List.mem_of_getElem? (i := 69) (by decide +kernel))) rfl
theorem nX5_39 : Cond.classLink RX5 39 RX2 ∈ TB := tb_of (tbl1 (List.mem_of_getElem? (i := 82) (by decide +kernel))) rfl
theorem nX5_48 : Cond.classLink RX5 48 RX4 ∈ TB := tb_of (tbl1 (List.mem_of_getElem? (i := 131) (by decide +kernel))) rfl
theorem nL_7 : Cond.classLink RL 7 RX5 ∈ TB := tb_of (tbl1 (List.mem_of_getElem? (i := 9) (by decide +kernel))) rfl
theorem nL_10 : Cond.classLink RL 10 RX6 ∈ TB := tb_of (tbl3 (List.mem_of_getElem? (i := 138) (by decide +kernel))) rfl
theorem lX5_41 : Cond.methodLink RX5 41 yX2_init ∈ TB := tb_of (tbl1 (List.mem_of_getElem? (i := 84) (by decide +kernel))) rfl
theorem lX5_50 : Cond.methodLink RX5 50 yX4_init ∈ TB := tb_of (tbl1 (List.mem_of_getElem? (i := 133) (by decide +kernel))) rfl
theorem lL_9 : Cond.methodLink RL 9 yX5_init ∈ TB := tb_of (tbl1 (List.mem_of_getElem? (i := 11) (by decide +kernel))) rfl
theorem lL_12 : Cond.methodLink RL 12 yX6_init ∈ TB := tb_of (tbl3 (List.mem_of_getElem? (i := 140) (by decide +kernel))) rfl
theorem kn9 : Cond.methodLinkNest RX5 9 yX1_init RX5 ∈ lw_tbl := (tbl1 (List.mem_of_getElem? (i := 19) (by decide +kernel)))
theorem kn18 : Cond.methodLinkNest RX5 18 yX0_init RX5 ∈ lw_tbl := (tbl1 (List.mem_of_getElem? (i := 46) (by decide +kernel)))
theorem kn28 : Cond.methodLinkNest RX5 28 yX3_init RX5 ∈ lw_tbl := (tbl1 (List.mem_of_getElem? (i := 71) (by decide +kernel)))
theorem kn40 : Cond.methodLinkNest RX1 40 yX5_isLevel RX5 ∈ lw_tbl := (tbl2 (List.mem_of_getElem? (i := 33) (by decide +kernel)))
theorem kn85 : Cond.methodLinkNest RX2 85 yX5_isLetter RX5 ∈ lw_tbl := (tbl3 (List.mem_of_getElem? (i := 32) (by decide +kernel)))
