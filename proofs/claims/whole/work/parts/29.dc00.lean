/-! the instructions of the methods -/
theorem dc_0_0 : am_dc 0 0 = some (.aload_n 0, 1, 0) := by decide +kernel
theorem dc_0_1 : am_dc 0 1 = some (.invokespecial 3, 4, 0) := by decide +kernel
theorem dc_0_4 : am_dc 0 4 = some (.aload_n 0, 5, 0) := by decide +kernel
theorem dc_0_5 : am_dc 0 5 = some (.new 9, 8, 0) := by decide +kernel
theorem dc_0_8 : am_dc 0 8 = some (.dup, 9, 0) := by decide +kernel
theorem dc_0_9 : am_dc 0 9 = some (.invokespecial 11, 12, 0) := by decide +kernel
theorem dc_0_12 : am_dc 0 12 = some (.putfield 12, 15, 0) := by decide +kernel
theorem dc_0_15 : am_dc 0 15 = some (.aload_n 0, 16, 0) := by decide +kernel
theorem dc_0_16 : am_dc 0 16 = some (.new 16, 19, 0) := by decide +kernel
theorem dc_0_19 : am_dc 0 19 = some (.dup, 20, 0) := by decide +kernel
theorem dc_0_20 : am_dc 0 20 = some (.invokespecial 18, 23, 0) := by decide +kernel
theorem dc_0_23 : am_dc 0 23 = some (.putfield 19, 26, 0) := by decide +kernel
theorem dc_0_26 : am_dc 0 26 = some (.aload_n 0, 27, 0) := by decide +kernel
theorem dc_0_27 : am_dc 0 27 = some (.new 9, 30, 0) := by decide +kernel
theorem dc_0_30 : am_dc 0 30 = some (.dup, 31, 0) := by decide +kernel
theorem dc_0_31 : am_dc 0 31 = some (.invokespecial 11, 34, 0) := by decide +kernel
theorem dc_0_34 : am_dc 0 34 = some (.putfield 23, 37, 0) := by decide +kernel
theorem dc_0_37 : am_dc 0 37 = some (.aload_n 0, 38, 0) := by decide +kernel
theorem dc_0_38 : am_dc 0 38 = some (.new 16, 41, 0) := by decide +kernel
theorem dc_0_41 : am_dc 0 41 = some (.dup, 42, 0) := by decide +kernel
theorem dc_0_42 : am_dc 0 42 = some (.invokespecial 18, 45, 0) := by decide +kernel
theorem dc_0_45 : am_dc 0 45 = some (.putfield 26, 48, 0) := by decide +kernel
theorem dc_0_48 : am_dc 0 48 = some (.aload_n 0, 49, 0) := by decide +kernel
theorem dc_0_49 : am_dc 0 49 = some (.new 29, 52, 0) := by decide +kernel
theorem dc_0_52 : am_dc 0 52 = some (.dup, 53, 0) := by decide +kernel
theorem dc_0_53 : am_dc 0 53 = some (.invokespecial 31, 56, 0) := by decide +kernel
theorem dc_0_56 : am_dc 0 56 = some (.putfield 32, 59, 0) := by decide +kernel
theorem dc_0_59 : am_dc 0 59 = some (.aload_n 0, 60, 0) := by decide +kernel
theorem dc_0_60 : am_dc 0 60 = some (.new 36, 63, 0) := by decide +kernel
theorem dc_0_63 : am_dc 0 63 = some (.dup, 64, 0) := by decide +kernel
theorem dc_0_64 : am_dc 0 64 = some (.aload_n 0, 65, 0) := by decide +kernel
theorem dc_0_65 : am_dc 0 65 = some (.getfield 12, 68, 0) := by decide +kernel
theorem dc_0_68 : am_dc 0 68 = some (.invokespecial 38, 71, 0) := by decide +kernel
theorem dc_0_71 : am_dc 0 71 = some (.putfield 41, 74, 0) := by decide +kernel
theorem dc_0_74 : am_dc 0 74 = some (.aload_n 0, 75, 0) := by decide +kernel
theorem dc_0_75 : am_dc 0 75 = some (.new 45, 78, 0) := by decide +kernel
theorem dc_0_78 : am_dc 0 78 = some (.dup, 79, 0) := by decide +kernel
theorem dc_0_79 : am_dc 0 79 = some (.aload_n 0, 80, 0) := by decide +kernel
theorem dc_0_80 : am_dc 0 80 = some (.getfield 12, 83, 0) := by decide +kernel
theorem dc_0_83 : am_dc 0 83 = some (.invokespecial 47, 86, 0) := by decide +kernel
theorem dc_0_86 : am_dc 0 86 = some (.putfield 48, 89, 0) := by decide +kernel
theorem dc_0_89 : am_dc 0 89 = some (.aload_n 0, 90, 0) := by decide +kernel
theorem dc_0_90 : am_dc 0 90 = some (.bipush 8, 92, 0) := by decide +kernel
theorem dc_0_92 : am_dc 0 92 = some (.newarray .int, 94, 0) := by decide +kernel
theorem dc_0_94 : am_dc 0 94 = some (.putfield 52, 97, 0) := by decide +kernel
theorem dc_0_97 : am_dc 0 97 = some (.aload_n 0, 98, 0) := by decide +kernel
theorem dc_0_98 : am_dc 0 98 = some (.bipush 8, 100, 0) := by decide +kernel
theorem dc_0_100 : am_dc 0 100 = some (.anewarray 56, 103, 0) := by decide +kernel
theorem dc_0_103 : am_dc 0 103 = some (.putfield 58, 106, 0) := by decide +kernel
theorem dc_0_106 : am_dc 0 106 = some (.aload_n 0, 107, 0) := by decide +kernel
theorem dc_0_107 : am_dc 0 107 = some (.bipush 8, 109, 0) := by decide +kernel
theorem dc_0_109 : am_dc 0 109 = some (.bipush 120, 111, 0) := by decide +kernel
theorem dc_0_111 : am_dc 0 111 = some (.multianewarray 62 2, 115, 0) := by decide +kernel
theorem dc_0_115 : am_dc 0 115 = some (.putfield 64, 118, 0) := by decide +kernel
theorem dc_0_118 : am_dc 0 118 = some (.aload_n 0, 119, 0) := by decide +kernel
theorem dc_0_119 : am_dc 0 119 = some (.bipush 8, 121, 0) := by decide +kernel
theorem dc_0_121 : am_dc 0 121 = some (.newarray .int, 123, 0) := by decide +kernel
theorem dc_0_123 : am_dc 0 123 = some (.putfield 67, 126, 0) := by decide +kernel
theorem dc_0_126 : am_dc 0 126 = some (.aload_n 0, 127, 0) := by decide +kernel
theorem dc_0_127 : am_dc 0 127 = some (.bipush 8, 129, 0) := by decide +kernel
theorem dc_0_129 : am_dc 0 129 = some (.newarray .int, 131, 0) := by decide +kernel
theorem dc_0_131 : am_dc 0 131 = some (.putfield 70, 134, 0) := by decide +kernel
theorem dc_0_134 : am_dc 0 134 = some (.return_, 135, 0) := by decide +kernel
theorem dc_1_0 : am_dc 1 0 = some (.aload_n 0, 1, 0) := by decide +kernel
theorem dc_1_1 : am_dc 1 1 = some (.invokespecial 3, 4, 0) := by decide +kernel
theorem dc_1_4 : am_dc 1 4 = some (.aload_n 0, 5, 0) := by decide +kernel
theorem dc_1_5 : am_dc 1 5 = some (.iconst 5, 6, 0) := by decide +kernel
theorem dc_1_6 : am_dc 1 6 = some (.anewarray 9, 9, 0) := by decide +kernel
theorem dc_1_9 : am_dc 1 9 = some (.putfield 11, 12, 0) := by decide +kernel
theorem dc_1_12 : am_dc 1 12 = some (.aload_n 0, 13, 0) := by decide +kernel
theorem dc_1_13 : am_dc 1 13 = some (.bipush 99, 15, 0) := by decide +kernel
theorem dc_1_15 : am_dc 1 15 = some (.putfield 17, 18, 0) := by decide +kernel
theorem dc_1_18 : am_dc 1 18 = some (.aload_n 0, 19, 0) := by decide +kernel
theorem dc_1_19 : am_dc 1 19 = some (.iconst 5, 20, 0) := by decide +kernel
theorem dc_1_20 : am_dc 1 20 = some (.newarray .int, 22, 0) := by decide +kernel
theorem dc_1_22 : am_dc 1 22 = some (.putfield 21, 25, 0) := by decide +kernel
theorem dc_1_25 : am_dc 1 25 = some (.aload_n 0, 26, 0) := by decide +kernel
theorem dc_1_26 : am_dc 1 26 = some (.bipush 21, 28, 0) := by decide +kernel
theorem dc_1_28 : am_dc 1 28 = some (.newarray .int, 30, 0) := by decide +kernel
theorem dc_1_30 : am_dc 1 30 = some (.putfield 25, 33, 0) := by decide +kernel
theorem dc_1_33 : am_dc 1 33 = some (.aload_n 0, 34, 0) := by decide +kernel
theorem dc_1_34 : am_dc 1 34 = some (.iconst 1, 35, 0) := by decide +kernel
theorem dc_1_35 : am_dc 1 35 = some (.putfield 28, 38, 0) := by decide +kernel
theorem dc_1_38 : am_dc 1 38 = some (.aload_n 0, 39, 0) := by decide +kernel
theorem dc_1_39 : am_dc 1 39 = some (.bipush 20, 41, 0) := by decide +kernel
theorem dc_1_41 : am_dc 1 41 = some (.newarray .int, 43, 0) := by decide +kernel
theorem dc_1_43 : am_dc 1 43 = some (.putfield 31, 46, 0) := by decide +kernel
theorem dc_1_46 : am_dc 1 46 = some (.aload_n 0, 47, 0) := by decide +kernel
theorem dc_1_47 : am_dc 1 47 = some (.bipush 20, 49, 0) := by decide +kernel
theorem dc_1_49 : am_dc 1 49 = some (.newarray .int, 51, 0) := by decide +kernel
theorem dc_1_51 : am_dc 1 51 = some (.putfield 34, 54, 0) := by decide +kernel
theorem dc_1_54 : am_dc 1 54 = some (.aload_n 0, 55, 0) := by decide +kernel
theorem dc_1_55 : am_dc 1 55 = some (.bipush 10, 57, 0) := by decide +kernel
theorem dc_1_57 : am_dc 1 57 = some (.newarray .long, 59, 0) := by decide +kernel
theorem dc_1_59 : am_dc 1 59 = some (.putfield 37, 62, 0) := by decide +kernel
theorem dc_1_62 : am_dc 1 62 = some (.aload_n 0, 63, 0) := by decide +kernel
theorem dc_1_63 : am_dc 1 63 = some (.bipush 10, 65, 0) := by decide +kernel
theorem dc_1_65 : am_dc 1 65 = some (.newarray .long, 67, 0) := by decide +kernel
theorem dc_1_67 : am_dc 1 67 = some (.putfield 41, 70, 0) := by decide +kernel
theorem dc_1_70 : am_dc 1 70 = some (.return_, 71, 0) := by decide +kernel
theorem dc_2_0 : am_dc 2 0 = some (.aload_n 0, 1, 0) := by decide +kernel
theorem dc_2_1 : am_dc 2 1 = some (.invokespecial 3, 4, 0) := by decide +kernel
theorem dc_2_4 : am_dc 2 4 = some (.aload_n 0, 5, 0) := by decide +kernel
theorem dc_2_5 : am_dc 2 5 = some (.iconst 5, 6, 0) := by decide +kernel
theorem dc_2_6 : am_dc 2 6 = some (.newarray .int, 8, 0) := by decide +kernel
theorem dc_2_8 : am_dc 2 8 = some (.putfield 9, 11, 0) := by decide +kernel
theorem dc_2_11 : am_dc 2 11 = some (.aload_n 0, 12, 0) := by decide +kernel
theorem dc_2_12 : am_dc 2 12 = some (.iconst 5, 13, 0) := by decide +kernel
theorem dc_2_13 : am_dc 2 13 = some (.newarray .int, 15, 0) := by decide +kernel
theorem dc_2_15 : am_dc 2 15 = some (.putfield 15, 18, 0) := by decide +kernel
theorem dc_2_18 : am_dc 2 18 = some (.aload_n 0, 19, 0) := by decide +kernel
theorem dc_2_19 : am_dc 2 19 = some (.bipush 10, 21, 0) := by decide +kernel
theorem dc_2_21 : am_dc 2 21 = some (.newarray .int, 23, 0) := by decide +kernel
theorem dc_2_23 : am_dc 2 23 = some (.putfield 18, 26, 0) := by decide +kernel
theorem dc_2_26 : am_dc 2 26 = some (.aload_n 0, 27, 0) := by decide +kernel
theorem dc_2_27 : am_dc 2 27 = some (.bipush 10, 29, 0) := by decide +kernel
theorem dc_2_29 : am_dc 2 29 = some (.newarray .int, 31, 0) := by decide +kernel
theorem dc_2_31 : am_dc 2 31 = some (.putfield 21, 34, 0) := by decide +kernel
theorem dc_2_34 : am_dc 2 34 = some (.return_, 35, 0) := by decide +kernel
theorem dc_3_0 : am_dc 3 0 = some (.aload_n 0, 1, 0) := by decide +kernel
theorem dc_3_1 : am_dc 3 1 = some (.invokespecial 3, 4, 0) := by decide +kernel
theorem dc_3_4 : am_dc 3 4 = some (.aload_n 0, 5, 0) := by decide +kernel
theorem dc_3_5 : am_dc 3 5 = some (.iconst 0, 6, 0) := by decide +kernel
theorem dc_3_6 : am_dc 3 6 = some (.newarray .int, 8, 0) := by decide +kernel
theorem dc_3_8 : am_dc 3 8 = some (.putfield 9, 11, 0) := by decide +kernel
theorem dc_3_11 : am_dc 3 11 = some (.aload_n 0, 12, 0) := by decide +kernel
theorem dc_3_12 : am_dc 3 12 = some (.new 15, 15, 0) := by decide +kernel
theorem dc_3_15 : am_dc 3 15 = some (.dup, 16, 0) := by decide +kernel
theorem dc_3_16 : am_dc 3 16 = some (.invokespecial 17, 19, 0) := by decide +kernel
theorem dc_3_19 : am_dc 3 19 = some (.putfield 18, 22, 0) := by decide +kernel
theorem dc_3_22 : am_dc 3 22 = some (.aload_n 0, 23, 0) := by decide +kernel
theorem dc_3_23 : am_dc 3 23 = some (.iconst 4, 24, 0) := by decide +kernel
theorem dc_3_24 : am_dc 3 24 = some (.newarray .int, 26, 0) := by decide +kernel
theorem dc_3_26 : am_dc 3 26 = some (.putfield 22, 29, 0) := by decide +kernel
theorem dc_3_29 : am_dc 3 29 = some (.aload_n 0, 30, 0) := by decide +kernel
theorem dc_3_30 : am_dc 3 30 = some (.iconst 4, 31, 0) := by decide +kernel
theorem dc_3_31 : am_dc 3 31 = some (.newarray .int, 33, 0) := by decide +kernel
theorem dc_3_33 : am_dc 3 33 = some (.putfield 25, 36, 0) := by decide +kernel
theorem dc_3_36 : am_dc 3 36 = some (.aload_n 0, 37, 0) := by decide +kernel
theorem dc_3_37 : am_dc 3 37 = some (.iconst 4, 38, 0) := by decide +kernel
theorem dc_3_38 : am_dc 3 38 = some (.newarray .int, 40, 0) := by decide +kernel
theorem dc_3_40 : am_dc 3 40 = some (.putfield 28, 43, 0) := by decide +kernel
theorem dc_3_43 : am_dc 3 43 = some (.return_, 44, 0) := by decide +kernel
theorem dc_4_0 : am_dc 4 0 = some (.aload_n 0, 1, 0) := by decide +kernel
theorem dc_4_1 : am_dc 4 1 = some (.invokespecial 3, 4, 0) := by decide +kernel
theorem dc_4_4 : am_dc 4 4 = some (.aload_n 0, 5, 0) := by decide +kernel
theorem dc_4_5 : am_dc 4 5 = some (.iconst 5, 6, 0) := by decide +kernel
theorem dc_4_6 : am_dc 4 6 = some (.newarray .int, 8, 0) := by decide +kernel
theorem dc_4_8 : am_dc 4 8 = some (.putfield 9, 11, 0) := by decide +kernel
theorem dc_4_11 : am_dc 4 11 = some (.aload_n 0, 12, 0) := by decide +kernel
theorem dc_4_12 : am_dc 4 12 = some (.iconst 0, 13, 0) := by decide +kernel
theorem dc_4_13 : am_dc 4 13 = some (.newarray .long, 15, 0) := by decide +kernel
theorem dc_4_15 : am_dc 4 15 = some (.putfield 15, 18, 0) := by decide +kernel
theorem dc_4_18 : am_dc 4 18 = some (.aload_n 0, 19, 0) := by decide +kernel
theorem dc_4_19 : am_dc 4 19 = some (.iconst 0, 20, 0) := by decide +kernel
theorem dc_4_20 : am_dc 4 20 = some (.newarray .int, 22, 0) := by decide +kernel
theorem dc_4_22 : am_dc 4 22 = some (.putfield 19, 25, 0) := by decide +kernel
theorem dc_4_25 : am_dc 4 25 = some (.aload_n 0, 26, 0) := by decide +kernel
theorem dc_4_26 : am_dc 4 26 = some (.iconst 5, 27, 0) := by decide +kernel
theorem dc_4_27 : am_dc 4 27 = some (.newarray .boolean, 29, 0) := by decide +kernel
theorem dc_4_29 : am_dc 4 29 = some (.putfield 22, 32, 0) := by decide +kernel
theorem dc_4_32 : am_dc 4 32 = some (.aload_n 0, 33, 0) := by decide +kernel
theorem dc_4_33 : am_dc 4 33 = some (.bipush 20, 35, 0) := by decide +kernel
theorem dc_4_35 : am_dc 4 35 = some (.newarray .int, 37, 0) := by decide +kernel
theorem dc_4_37 : am_dc 4 37 = some (.putfield 26, 40, 0) := by decide +kernel
theorem dc_4_40 : am_dc 4 40 = some (.aload_n 0, 41, 0) := by decide +kernel
theorem dc_4_41 : am_dc 4 41 = some (.bipush 20, 43, 0) := by decide +kernel
theorem dc_4_43 : am_dc 4 43 = some (.newarray .int, 45, 0) := by decide +kernel
theorem dc_4_45 : am_dc 4 45 = some (.putfield 29, 48, 0) := by decide +kernel
theorem dc_4_48 : am_dc 4 48 = some (.aload_n 0, 49, 0) := by decide +kernel
theorem dc_4_49 : am_dc 4 49 = some (.iconst 5, 50, 0) := by decide +kernel
theorem dc_4_50 : am_dc 4 50 = some (.newarray .long, 52, 0) := by decide +kernel
theorem dc_4_52 : am_dc 4 52 = some (.putfield 32, 55, 0) := by decide +kernel
theorem dc_4_55 : am_dc 4 55 = some (.aload_n 0, 56, 0) := by decide +kernel
theorem dc_4_56 : am_dc 4 56 = some (.iconst 5, 57, 0) := by decide +kernel
theorem dc_4_57 : am_dc 4 57 = some (.newarray .long, 59, 0) := by decide +kernel
theorem dc_4_59 : am_dc 4 59 = some (.putfield 35, 62, 0) := by decide +kernel
theorem dc_4_62 : am_dc 4 62 = some (.aload_n 0, 63, 0) := by decide +kernel
theorem dc_4_63 : am_dc 4 63 = some (.aload_n 1, 64, 0) := by decide +kernel
theorem dc_4_64 : am_dc 4 64 = some (.putfield 38, 67, 0) := by decide +kernel
theorem dc_4_67 : am_dc 4 67 = some (.return_, 68, 0) := by decide +kernel
theorem dc_5_0 : am_dc 5 0 = some (.aload_n 0, 1, 0) := by decide +kernel
theorem dc_5_1 : am_dc 5 1 = some (.invokespecial 3, 4, 0) := by decide +kernel
theorem dc_5_4 : am_dc 5 4 = some (.aload_n 0, 5, 0) := by decide +kernel
theorem dc_5_5 : am_dc 5 5 = some (.sipush 162, 8, 0) := by decide +kernel
theorem dc_5_8 : am_dc 5 8 = some (.newarray .int, 10, 0) := by decide +kernel
theorem dc_5_10 : am_dc 5 10 = some (.putfield 11, 13, 0) := by decide +kernel
theorem dc_5_13 : am_dc 5 13 = some (.aload_n 0, 14, 0) := by decide +kernel
theorem dc_5_14 : am_dc 5 14 = some (.iconst 0, 15, 0) := by decide +kernel
theorem dc_5_15 : am_dc 5 15 = some (.newarray .int, 17, 0) := by decide +kernel
theorem dc_5_17 : am_dc 5 17 = some (.putfield 15, 20, 0) := by decide +kernel
theorem dc_5_20 : am_dc 5 20 = some (.aload_n 0, 21, 0) := by decide +kernel
theorem dc_5_21 : am_dc 5 21 = some (.iconst 0, 22, 0) := by decide +kernel
theorem dc_5_22 : am_dc 5 22 = some (.newarray .long, 24, 0) := by decide +kernel
theorem dc_5_24 : am_dc 5 24 = some (.putfield 18, 27, 0) := by decide +kernel
theorem dc_5_27 : am_dc 5 27 = some (.aload_n 0, 28, 0) := by decide +kernel
theorem dc_5_28 : am_dc 5 28 = some (.aload_n 1, 29, 0) := by decide +kernel
theorem dc_5_29 : am_dc 5 29 = some (.putfield 22, 32, 0) := by decide +kernel
theorem dc_5_32 : am_dc 5 32 = some (.return_, 33, 0) := by decide +kernel
theorem dc_6_0 : am_dc 6 0 = some (.iload_n 1, 1, 0) := by decide +kernel
theorem dc_6_1 : am_dc 6 1 = some (.invokestatic 73, 4, 0) := by decide +kernel
theorem dc_6_4 : am_dc 6 4 = some (.ifCond .ne 5, 7, 9) := by decide +kernel
theorem dc_6_7 : am_dc 6 7 = some (.iconst (-1), 8, 0) := by decide +kernel
theorem dc_6_8 : am_dc 6 8 = some (.ireturn, 9, 0) := by decide +kernel
theorem dc_6_9 : am_dc 6 9 = some (.aload_n 0, 10, 0) := by decide +kernel
theorem dc_6_10 : am_dc 6 10 = some (.getfield 52, 13, 0) := by decide +kernel
theorem dc_6_13 : am_dc 6 13 = some (.iload_n 1, 14, 0) := by decide +kernel
theorem dc_6_14 : am_dc 6 14 = some (.iaload, 15, 0) := by decide +kernel
theorem dc_6_15 : am_dc 6 15 = some (.ifCond .ne 6, 18, 21) := by decide +kernel
theorem dc_6_18 : am_dc 6 18 = some (.bipush (-11), 20, 0) := by decide +kernel
theorem dc_6_20 : am_dc 6 20 = some (.ireturn, 21, 0) := by decide +kernel
theorem dc_6_21 : am_dc 6 21 = some (.aload_n 0, 22, 0) := by decide +kernel
theorem dc_6_22 : am_dc 6 22 = some (.iload_n 1, 23, 0) := by decide +kernel
theorem dc_6_23 : am_dc 6 23 = some (.invokevirtual 77, 26, 0) := by decide +kernel
theorem dc_6_26 : am_dc 6 26 = some (.ifCond .ne 6, 29, 32) := by decide +kernel
theorem dc_6_29 : am_dc 6 29 = some (.bipush (-12), 31, 0) := by decide +kernel
theorem dc_6_31 : am_dc 6 31 = some (.ireturn, 32, 0) := by decide +kernel
theorem dc_6_32 : am_dc 6 32 = some (.aload_n 0, 33, 0) := by decide +kernel
theorem dc_6_33 : am_dc 6 33 = some (.getfield 12, 36, 0) := by decide +kernel
theorem dc_6_36 : am_dc 6 36 = some (.getfield 80, 39, 0) := by decide +kernel
theorem dc_6_39 : am_dc 6 39 = some (.istore_n 2, 40, 0) := by decide +kernel
theorem dc_6_40 : am_dc 6 40 = some (.aload_n 0, 41, 0) := by decide +kernel
theorem dc_6_41 : am_dc 6 41 = some (.getfield 32, 44, 0) := by decide +kernel
theorem dc_6_44 : am_dc 6 44 = some (.aload_n 0, 45, 0) := by decide +kernel
theorem dc_6_45 : am_dc 6 45 = some (.getfield 64, 48, 0) := by decide +kernel
theorem dc_6_48 : am_dc 6 48 = some (.iload_n 1, 49, 0) := by decide +kernel
theorem dc_6_49 : am_dc 6 49 = some (.aaload, 50, 0) := by decide +kernel
theorem dc_6_50 : am_dc 6 50 = some (.aload_n 0, 51, 0) := by decide +kernel
theorem dc_6_51 : am_dc 6 51 = some (.getfield 70, 54, 0) := by decide +kernel
theorem dc_6_54 : am_dc 6 54 = some (.iload_n 1, 55, 0) := by decide +kernel
theorem dc_6_55 : am_dc 6 55 = some (.iaload, 56, 0) := by decide +kernel
theorem dc_6_56 : am_dc 6 56 = some (.aload_n 0, 57, 0) := by decide +kernel
theorem dc_6_57 : am_dc 6 57 = some (.getfield 12, 60, 0) := by decide +kernel
theorem dc_6_60 : am_dc 6 60 = some (.invokevirtual 84, 63, 0) := by decide +kernel
theorem dc_6_63 : am_dc 6 63 = some (.istore_n 3, 64, 0) := by decide +kernel
theorem dc_6_64 : am_dc 6 64 = some (.iload_n 3, 65, 0) := by decide +kernel
theorem dc_6_65 : am_dc 6 65 = some (.ifCond .le 10, 68, 75) := by decide +kernel
theorem dc_6_68 : am_dc 6 68 = some (.aload_n 0, 69, 0) := by decide +kernel
theorem dc_6_69 : am_dc 6 69 = some (.getfield 41, 72, 0) := by decide +kernel
theorem dc_6_72 : am_dc 6 72 = some (.invokevirtual 88, 75, 0) := by decide +kernel
theorem dc_6_75 : am_dc 6 75 = some (.aload_n 0, 76, 0) := by decide +kernel
theorem dc_6_76 : am_dc 6 76 = some (.getfield 12, 79, 0) := by decide +kernel
theorem dc_6_79 : am_dc 6 79 = some (.getfield 80, 82, 0) := by decide +kernel
theorem dc_6_82 : am_dc 6 82 = some (.iload_n 2, 83, 0) := by decide +kernel
theorem dc_6_83 : am_dc 6 83 = some (.if_icmp .le 10, 86, 93) := by decide +kernel
theorem dc_6_86 : am_dc 6 86 = some (.aload_n 0, 87, 0) := by decide +kernel
theorem dc_6_87 : am_dc 6 87 = some (.getfield 19, 90, 0) := by decide +kernel
theorem dc_6_90 : am_dc 6 90 = some (.invokevirtual 91, 93, 0) := by decide +kernel
theorem dc_6_93 : am_dc 6 93 = some (.iload_n 3, 94, 0) := by decide +kernel
theorem dc_6_94 : am_dc 6 94 = some (.ireturn, 95, 0) := by decide +kernel
theorem dc_7_0 : am_dc 7 0 = some (.iload_n 0, 1, 0) := by decide +kernel
theorem dc_7_1 : am_dc 7 1 = some (.ifCond .lt 13, 4, 14) := by decide +kernel
theorem dc_7_4 : am_dc 7 4 = some (.iload_n 0, 5, 0) := by decide +kernel
theorem dc_7_5 : am_dc 7 5 = some (.bipush 8, 7, 0) := by decide +kernel
theorem dc_7_7 : am_dc 7 7 = some (.if_icmp .ge 7, 10, 14) := by decide +kernel
theorem dc_7_10 : am_dc 7 10 = some (.iconst 1, 11, 0) := by decide +kernel
theorem dc_7_11 : am_dc 7 11 = some (.goto 4, 14, 15) := by decide +kernel
theorem dc_7_14 : am_dc 7 14 = some (.iconst 0, 15, 0) := by decide +kernel
theorem dc_7_15 : am_dc 7 15 = some (.ireturn, 16, 0) := by decide +kernel
theorem dc_8_0 : am_dc 8 0 = some (.aload_n 0, 1, 0) := by decide +kernel
theorem dc_8_1 : am_dc 8 1 = some (.getfield 52, 4, 0) := by decide +kernel
theorem dc_8_4 : am_dc 8 4 = some (.iload_n 1, 5, 0) := by decide +kernel
theorem dc_8_5 : am_dc 8 5 = some (.iaload, 6, 0) := by decide +kernel
theorem dc_8_6 : am_dc 8 6 = some (.iconst 2, 7, 0) := by decide +kernel
theorem dc_8_7 : am_dc 8 7 = some (.if_icmp .ne 16, 10, 23) := by decide +kernel
theorem dc_8_10 : am_dc 8 10 = some (.aload_n 0, 11, 0) := by decide +kernel
theorem dc_8_11 : am_dc 8 11 = some (.getfield 67, 14, 0) := by decide +kernel
theorem dc_8_14 : am_dc 8 14 = some (.iload_n 1, 15, 0) := by decide +kernel
theorem dc_8_15 : am_dc 8 15 = some (.iaload, 16, 0) := by decide +kernel
theorem dc_8_16 : am_dc 8 16 = some (.ifCond .ne 7, 19, 23) := by decide +kernel
theorem dc_8_19 : am_dc 8 19 = some (.iconst 1, 20, 0) := by decide +kernel
theorem dc_8_20 : am_dc 8 20 = some (.goto 4, 23, 24) := by decide +kernel
theorem dc_8_23 : am_dc 8 23 = some (.iconst 0, 24, 0) := by decide +kernel
theorem dc_8_24 : am_dc 8 24 = some (.ireturn, 25, 0) := by decide +kernel
theorem dc_9_0 : am_dc 9 0 = some (.aload_n 0, 1, 0) := by decide +kernel
theorem dc_9_1 : am_dc 9 1 = some (.aload_n 1, 2, 0) := by decide +kernel
theorem dc_9_2 : am_dc 9 2 = some (.putfield 9, 5, 0) := by decide +kernel
theorem dc_9_5 : am_dc 9 5 = some (.aload_n 0, 6, 0) := by decide +kernel
theorem dc_9_6 : am_dc 9 6 = some (.iload_n 2, 7, 0) := by decide +kernel
theorem dc_9_7 : am_dc 9 7 = some (.putfield 31, 10, 0) := by decide +kernel
theorem dc_9_10 : am_dc 9 10 = some (.aload_n 0, 11, 0) := by decide +kernel
theorem dc_9_11 : am_dc 9 11 = some (.invokevirtual 35, 14, 0) := by decide +kernel
theorem dc_9_14 : am_dc 9 14 = some (.istore 4, 16, 0) := by decide +kernel
theorem dc_9_16 : am_dc 9 16 = some (.iload 4, 18, 0) := by decide +kernel
theorem dc_9_18 : am_dc 9 18 = some (.ifCond .lt 10, 21, 28) := by decide +kernel
theorem dc_9_21 : am_dc 9 21 = some (.sipush (-1000), 24, 0) := by decide +kernel
theorem dc_9_24 : am_dc 9 24 = some (.iload 4, 26, 0) := by decide +kernel
theorem dc_9_26 : am_dc 9 26 = some (.isub, 27, 0) := by decide +kernel
theorem dc_9_27 : am_dc 9 27 = some (.ireturn, 28, 0) := by decide +kernel
theorem dc_9_28 : am_dc 9 28 = some (.aload_n 0, 29, 0) := by decide +kernel
theorem dc_9_29 : am_dc 9 29 = some (.getfield 18, 32, 0) := by decide +kernel
theorem dc_9_32 : am_dc 9 32 = some (.aload_n 3, 33, 0) := by decide +kernel
theorem dc_9_33 : am_dc 9 33 = some (.invokevirtual 39, 36, 0) := by decide +kernel
theorem dc_9_36 : am_dc 9 36 = some (.aload_n 0, 37, 0) := by decide +kernel
theorem dc_9_37 : am_dc 9 37 = some (.invokevirtual 43, 40, 0) := by decide +kernel
theorem dc_9_40 : am_dc 9 40 = some (.istore 5, 42, 0) := by decide +kernel
theorem dc_9_42 : am_dc 9 42 = some (.iload 5, 44, 0) := by decide +kernel
theorem dc_9_44 : am_dc 9 44 = some (.ifCond .le 11, 47, 55) := by decide +kernel
theorem dc_9_47 : am_dc 9 47 = some (.aload_n 3, 48, 0) := by decide +kernel
theorem dc_9_48 : am_dc 9 48 = some (.aload_n 0, 49, 0) := by decide +kernel
theorem dc_9_49 : am_dc 9 49 = some (.getfield 18, 52, 0) := by decide +kernel
theorem dc_9_52 : am_dc 9 52 = some (.invokevirtual 39, 55, 0) := by decide +kernel
theorem dc_9_55 : am_dc 9 55 = some (.iload 5, 57, 0) := by decide +kernel
theorem dc_9_57 : am_dc 9 57 = some (.ireturn, 58, 0) := by decide +kernel
theorem dc_10_0 : am_dc 10 0 = some (.aload_n 0, 1, 0) := by decide +kernel
theorem dc_10_1 : am_dc 10 1 = some (.iconst 0, 2, 0) := by decide +kernel
theorem dc_10_2 : am_dc 10 2 = some (.putfield 46, 5, 0) := by decide +kernel
theorem dc_10_5 : am_dc 10 5 = some (.aload_n 0, 6, 0) := by decide +kernel
theorem dc_10_6 : am_dc 10 6 = some (.iconst 0, 7, 0) := by decide +kernel
theorem dc_10_7 : am_dc 10 7 = some (.putfield 49, 10, 0) := by decide +kernel
theorem dc_10_10 : am_dc 10 10 = some (.iconst 0, 11, 0) := by decide +kernel
theorem dc_10_11 : am_dc 10 11 = some (.istore_n 1, 12, 0) := by decide +kernel
theorem dc_10_12 : am_dc 10 12 = some (.iload_n 1, 13, 0) := by decide +kernel
theorem dc_10_13 : am_dc 10 13 = some (.ifCond .eq 22, 16, 35) := by decide +kernel
theorem dc_10_16 : am_dc 10 16 = some (.iload_n 1, 17, 0) := by decide +kernel
theorem dc_10_17 : am_dc 10 17 = some (.aload_n 0, 18, 0) := by decide +kernel
theorem dc_10_18 : am_dc 10 18 = some (.getfield 31, 21, 0) := by decide +kernel
theorem dc_10_21 : am_dc 10 21 = some (.if_icmp .ge 36, 24, 57) := by decide +kernel
theorem dc_10_24 : am_dc 10 24 = some (.aload_n 0, 25, 0) := by decide +kernel
theorem dc_10_25 : am_dc 10 25 = some (.getfield 46, 28, 0) := by decide +kernel
theorem dc_10_28 : am_dc 10 28 = some (.aload_n 0, 29, 0) := by decide +kernel
theorem dc_10_29 : am_dc 10 29 = some (.getfield 31, 32, 0) := by decide +kernel
theorem dc_10_32 : am_dc 10 32 = some (.if_icmp .ge 25, 35, 57) := by decide +kernel
theorem dc_10_35 : am_dc 10 35 = some (.aload_n 0, 36, 0) := by decide +kernel
theorem dc_10_36 : am_dc 10 36 = some (.invokevirtual 53, 39, 0) := by decide +kernel
theorem dc_10_39 : am_dc 10 39 = some (.aload_n 0, 40, 0) := by decide +kernel
theorem dc_10_40 : am_dc 10 40 = some (.getfield 49, 43, 0) := by decide +kernel
theorem dc_10_43 : am_dc 10 43 = some (.ifCond .eq 8, 46, 51) := by decide +kernel
theorem dc_10_46 : am_dc 10 46 = some (.aload_n 0, 47, 0) := by decide +kernel
theorem dc_10_47 : am_dc 10 47 = some (.getfield 46, 50, 0) := by decide +kernel
theorem dc_10_50 : am_dc 10 50 = some (.ireturn, 51, 0) := by decide +kernel
theorem dc_10_51 : am_dc 10 51 = some (.iinc 1 1, 54, 0) := by decide +kernel
theorem dc_10_54 : am_dc 10 54 = some (.goto (-42), 57, 12) := by decide +kernel
theorem dc_10_57 : am_dc 10 57 = some (.bipush (-4), 59, 0) := by decide +kernel
theorem dc_10_59 : am_dc 10 59 = some (.ireturn, 60, 0) := by decide +kernel
theorem dc_11_0 : am_dc 11 0 = some (.aload_n 0, 1, 0) := by decide +kernel
theorem dc_11_1 : am_dc 11 1 = some (.aload_n 0, 2, 0) := by decide +kernel
theorem dc_11_2 : am_dc 11 2 = some (.invokevirtual 60, 5, 0) := by decide +kernel
theorem dc_11_5 : am_dc 11 5 = some (.putfield 67, 8, 0) := by decide +kernel
theorem dc_11_8 : am_dc 11 8 = some (.aload_n 0, 9, 0) := by decide +kernel
theorem dc_11_9 : am_dc 11 9 = some (.getfield 67, 12, 0) := by decide +kernel
theorem dc_11_12 : am_dc 11 12 = some (.bipush 108, 14, 0) := by decide +kernel
theorem dc_11_14 : am_dc 11 14 = some (.if_icmp .ne 24, 17, 38) := by decide +kernel
theorem dc_11_17 : am_dc 11 17 = some (.aload_n 0, 18, 0) := by decide +kernel
theorem dc_11_18 : am_dc 11 18 = some (.dup, 19, 0) := by decide +kernel
theorem dc_11_19 : am_dc 11 19 = some (.getfield 46, 22, 0) := by decide +kernel
theorem dc_11_22 : am_dc 11 22 = some (.iconst 1, 23, 0) := by decide +kernel
theorem dc_11_23 : am_dc 11 23 = some (.iadd, 24, 0) := by decide +kernel
theorem dc_11_24 : am_dc 11 24 = some (.putfield 46, 27, 0) := by decide +kernel
theorem dc_11_27 : am_dc 11 27 = some (.aload_n 0, 28, 0) := by decide +kernel
theorem dc_11_28 : am_dc 11 28 = some (.aload_n 0, 29, 0) := by decide +kernel
theorem dc_11_29 : am_dc 11 29 = some (.invokevirtual 70, 32, 0) := by decide +kernel
theorem dc_11_32 : am_dc 11 32 = some (.putfield 73, 35, 0) := by decide +kernel
theorem dc_11_35 : am_dc 11 35 = some (.goto 43, 38, 78) := by decide +kernel
theorem dc_11_38 : am_dc 11 38 = some (.aload_n 0, 39, 0) := by decide +kernel
theorem dc_11_39 : am_dc 11 39 = some (.bipush 98, 41, 0) := by decide +kernel
theorem dc_11_41 : am_dc 11 41 = some (.invokevirtual 76, 44, 0) := by decide +kernel
theorem dc_11_44 : am_dc 11 44 = some (.aload_n 0, 45, 0) := by decide +kernel
theorem dc_11_45 : am_dc 11 45 = some (.aload_n 0, 46, 0) := by decide +kernel
theorem dc_11_46 : am_dc 11 46 = some (.invokevirtual 70, 49, 0) := by decide +kernel
theorem dc_11_49 : am_dc 11 49 = some (.putfield 80, 52, 0) := by decide +kernel
theorem dc_11_52 : am_dc 11 52 = some (.aload_n 0, 53, 0) := by decide +kernel
theorem dc_11_53 : am_dc 11 53 = some (.bipush 32, 55, 0) := by decide +kernel
theorem dc_11_55 : am_dc 11 55 = some (.invokevirtual 76, 58, 0) := by decide +kernel
theorem dc_11_58 : am_dc 11 58 = some (.aload_n 0, 59, 0) := by decide +kernel
theorem dc_11_59 : am_dc 11 59 = some (.aload_n 0, 60, 0) := by decide +kernel
theorem dc_11_60 : am_dc 11 60 = some (.invokevirtual 70, 63, 0) := by decide +kernel
theorem dc_11_63 : am_dc 11 63 = some (.putfield 83, 66, 0) := by decide +kernel
theorem dc_11_66 : am_dc 11 66 = some (.aload_n 0, 67, 0) := by decide +kernel
theorem dc_11_67 : am_dc 11 67 = some (.invokevirtual 86, 70, 0) := by decide +kernel
theorem dc_11_70 : am_dc 11 70 = some (.aload_n 0, 71, 0) := by decide +kernel
theorem dc_11_71 : am_dc 11 71 = some (.invokevirtual 89, 74, 0) := by decide +kernel
theorem dc_11_74 : am_dc 11 74 = some (.aload_n 0, 75, 0) := by decide +kernel
theorem dc_11_75 : am_dc 11 75 = some (.invokevirtual 92, 78, 0) := by decide +kernel
theorem dc_11_78 : am_dc 11 78 = some (.aload_n 0, 79, 0) := by decide +kernel
theorem dc_11_79 : am_dc 11 79 = some (.bipush 59, 81, 0) := by decide +kernel
theorem dc_11_81 : am_dc 11 81 = some (.invokevirtual 76, 84, 0) := by decide +kernel
theorem dc_11_84 : am_dc 11 84 = some (.return_, 85, 0) := by decide +kernel
theorem dc_12_0 : am_dc 12 0 = some (.aload_n 0, 1, 0) := by decide +kernel
theorem dc_12_1 : am_dc 12 1 = some (.getfield 46, 4, 0) := by decide +kernel
theorem dc_12_4 : am_dc 12 4 = some (.aload_n 0, 5, 0) := by decide +kernel
theorem dc_12_5 : am_dc 12 5 = some (.getfield 31, 8, 0) := by decide +kernel
theorem dc_12_8 : am_dc 12 8 = some (.if_icmp .ge 27, 11, 35) := by decide +kernel
theorem dc_12_11 : am_dc 12 11 = some (.aload_n 0, 12, 0) := by decide +kernel
theorem dc_12_12 : am_dc 12 12 = some (.getfield 46, 15, 0) := by decide +kernel
theorem dc_12_15 : am_dc 12 15 = some (.aload_n 0, 16, 0) := by decide +kernel
theorem dc_12_16 : am_dc 12 16 = some (.getfield 9, 19, 0) := by decide +kernel
theorem dc_12_19 : am_dc 12 19 = some (.arraylength, 20, 0) := by decide +kernel
theorem dc_12_20 : am_dc 12 20 = some (.if_icmp .ge 15, 23, 35) := by decide +kernel
theorem dc_12_23 : am_dc 12 23 = some (.aload_n 0, 24, 0) := by decide +kernel
theorem dc_12_24 : am_dc 12 24 = some (.getfield 9, 27, 0) := by decide +kernel
theorem dc_12_27 : am_dc 12 27 = some (.aload_n 0, 28, 0) := by decide +kernel
theorem dc_12_28 : am_dc 12 28 = some (.getfield 46, 31, 0) := by decide +kernel
theorem dc_12_31 : am_dc 12 31 = some (.iaload, 32, 0) := by decide +kernel
theorem dc_12_32 : am_dc 12 32 = some (.goto 6, 35, 38) := by decide +kernel
theorem dc_12_35 : am_dc 12 35 = some (.sipush (-1000), 38, 0) := by decide +kernel
theorem dc_12_38 : am_dc 12 38 = some (.ireturn, 39, 0) := by decide +kernel
theorem dc_13_0 : am_dc 13 0 = some (.iconst 0, 1, 0) := by decide +kernel
theorem dc_13_1 : am_dc 13 1 = some (.istore_n 1, 2, 0) := by decide +kernel
theorem dc_13_2 : am_dc 13 2 = some (.iconst 0, 3, 0) := by decide +kernel
theorem dc_13_3 : am_dc 13 3 = some (.istore_n 2, 4, 0) := by decide +kernel
theorem dc_13_4 : am_dc 13 4 = some (.aload_n 0, 5, 0) := by decide +kernel
theorem dc_13_5 : am_dc 13 5 = some (.getfield 49, 8, 0) := by decide +kernel
theorem dc_13_8 : am_dc 13 8 = some (.ifCond .ne 55, 11, 63) := by decide +kernel
theorem dc_13_11 : am_dc 13 11 = some (.iload_n 2, 12, 0) := by decide +kernel
theorem dc_13_12 : am_dc 13 12 = some (.iconst 3, 13, 0) := by decide +kernel
theorem dc_13_13 : am_dc 13 13 = some (.if_icmp .ge 50, 16, 63) := by decide +kernel
theorem dc_13_16 : am_dc 13 16 = some (.iload_n 2, 17, 0) := by decide +kernel
theorem dc_13_17 : am_dc 13 17 = some (.ifCond .eq 7, 20, 24) := by decide +kernel
theorem dc_13_20 : am_dc 13 20 = some (.iload_n 1, 21, 0) := by decide +kernel
theorem dc_13_21 : am_dc 13 21 = some (.ifCond .le 42, 24, 63) := by decide +kernel
theorem dc_13_24 : am_dc 13 24 = some (.aload_n 0, 25, 0) := by decide +kernel
theorem dc_13_25 : am_dc 13 25 = some (.invokevirtual 60, 28, 0) := by decide +kernel
theorem dc_13_28 : am_dc 13 28 = some (.invokestatic 63, 31, 0) := by decide +kernel
theorem dc_13_31 : am_dc 13 31 = some (.ifCond .eq 32, 34, 63) := by decide +kernel
theorem dc_13_34 : am_dc 13 34 = some (.iload_n 1, 35, 0) := by decide +kernel
theorem dc_13_35 : am_dc 13 35 = some (.bipush 10, 37, 0) := by decide +kernel
theorem dc_13_37 : am_dc 13 37 = some (.imul, 38, 0) := by decide +kernel
theorem dc_13_38 : am_dc 13 38 = some (.aload_n 0, 39, 0) := by decide +kernel
theorem dc_13_39 : am_dc 13 39 = some (.invokevirtual 60, 42, 0) := by decide +kernel
theorem dc_13_42 : am_dc 13 42 = some (.iadd, 43, 0) := by decide +kernel
theorem dc_13_43 : am_dc 13 43 = some (.bipush 48, 45, 0) := by decide +kernel
theorem dc_13_45 : am_dc 13 45 = some (.isub, 46, 0) := by decide +kernel
theorem dc_13_46 : am_dc 13 46 = some (.istore_n 1, 47, 0) := by decide +kernel
theorem dc_13_47 : am_dc 13 47 = some (.aload_n 0, 48, 0) := by decide +kernel
theorem dc_13_48 : am_dc 13 48 = some (.dup, 49, 0) := by decide +kernel
theorem dc_13_49 : am_dc 13 49 = some (.getfield 46, 52, 0) := by decide +kernel
theorem dc_13_52 : am_dc 13 52 = some (.iconst 1, 53, 0) := by decide +kernel
theorem dc_13_53 : am_dc 13 53 = some (.iadd, 54, 0) := by decide +kernel
theorem dc_13_54 : am_dc 13 54 = some (.putfield 46, 57, 0) := by decide +kernel
theorem dc_13_57 : am_dc 13 57 = some (.iinc 2 1, 60, 0) := by decide +kernel
theorem dc_13_60 : am_dc 13 60 = some (.goto (-56), 63, 4) := by decide +kernel
theorem dc_13_63 : am_dc 13 63 = some (.aload_n 0, 64, 0) := by decide +kernel
theorem dc_13_64 : am_dc 13 64 = some (.aload_n 0, 65, 0) := by decide +kernel
theorem dc_13_65 : am_dc 13 65 = some (.getfield 49, 68, 0) := by decide +kernel
theorem dc_13_68 : am_dc 13 68 = some (.ifCond .ne 7, 71, 75) := by decide +kernel
theorem dc_13_71 : am_dc 13 71 = some (.iload_n 2, 72, 0) := by decide +kernel
theorem dc_13_72 : am_dc 13 72 = some (.ifCond .ne 7, 75, 79) := by decide +kernel
theorem dc_13_75 : am_dc 13 75 = some (.iconst 1, 76, 0) := by decide +kernel
theorem dc_13_76 : am_dc 13 76 = some (.goto 4, 79, 80) := by decide +kernel
theorem dc_13_79 : am_dc 13 79 = some (.iconst 0, 80, 0) := by decide +kernel
theorem dc_13_80 : am_dc 13 80 = some (.putfield 49, 83, 0) := by decide +kernel
theorem dc_13_83 : am_dc 13 83 = some (.iload_n 1, 84, 0) := by decide +kernel
theorem dc_13_84 : am_dc 13 84 = some (.ireturn, 85, 0) := by decide +kernel
theorem dc_14_0 : am_dc 14 0 = some (.iload_n 0, 1, 0) := by decide +kernel
theorem dc_14_1 : am_dc 14 1 = some (.bipush 48, 3, 0) := by decide +kernel
theorem dc_14_3 : am_dc 14 3 = some (.if_icmp .lt 13, 6, 16) := by decide +kernel
theorem dc_14_6 : am_dc 14 6 = some (.iload_n 0, 7, 0) := by decide +kernel
theorem dc_14_7 : am_dc 14 7 = some (.bipush 57, 9, 0) := by decide +kernel
theorem dc_14_9 : am_dc 14 9 = some (.if_icmp .gt 7, 12, 16) := by decide +kernel
theorem dc_14_12 : am_dc 14 12 = some (.iconst 1, 13, 0) := by decide +kernel
theorem dc_14_13 : am_dc 14 13 = some (.goto 4, 16, 17) := by decide +kernel
theorem dc_14_16 : am_dc 14 16 = some (.iconst 0, 17, 0) := by decide +kernel
theorem dc_14_17 : am_dc 14 17 = some (.ireturn, 18, 0) := by decide +kernel
theorem dc_15_0 : am_dc 15 0 = some (.aload_n 0, 1, 0) := by decide +kernel
theorem dc_15_1 : am_dc 15 1 = some (.getfield 49, 4, 0) := by decide +kernel
theorem dc_15_4 : am_dc 15 4 = some (.ifCond .ne 24, 7, 28) := by decide +kernel
theorem dc_15_7 : am_dc 15 7 = some (.aload_n 0, 8, 0) := by decide +kernel
theorem dc_15_8 : am_dc 15 8 = some (.invokevirtual 60, 11, 0) := by decide +kernel
theorem dc_15_11 : am_dc 15 11 = some (.iload_n 1, 12, 0) := by decide +kernel
theorem dc_15_12 : am_dc 15 12 = some (.if_icmp .ne 16, 15, 28) := by decide +kernel
theorem dc_15_15 : am_dc 15 15 = some (.aload_n 0, 16, 0) := by decide +kernel
theorem dc_15_16 : am_dc 15 16 = some (.dup, 17, 0) := by decide +kernel
theorem dc_15_17 : am_dc 15 17 = some (.getfield 46, 20, 0) := by decide +kernel
theorem dc_15_20 : am_dc 15 20 = some (.iconst 1, 21, 0) := by decide +kernel
theorem dc_15_21 : am_dc 15 21 = some (.iadd, 22, 0) := by decide +kernel
theorem dc_15_22 : am_dc 15 22 = some (.putfield 46, 25, 0) := by decide +kernel
theorem dc_15_25 : am_dc 15 25 = some (.goto 8, 28, 33) := by decide +kernel
theorem dc_15_28 : am_dc 15 28 = some (.aload_n 0, 29, 0) := by decide +kernel
theorem dc_15_29 : am_dc 15 29 = some (.iconst 1, 30, 0) := by decide +kernel
theorem dc_15_30 : am_dc 15 30 = some (.putfield 49, 33, 0) := by decide +kernel
theorem dc_15_33 : am_dc 15 33 = some (.return_, 34, 0) := by decide +kernel
theorem dc_16_0 : am_dc 16 0 = some (.aload_n 0, 1, 0) := by decide +kernel
theorem dc_16_1 : am_dc 16 1 = some (.iconst 0, 2, 0) := by decide +kernel
theorem dc_16_2 : am_dc 16 2 = some (.putfield 95, 5, 0) := by decide +kernel
theorem dc_16_5 : am_dc 16 5 = some (.iconst 0, 6, 0) := by decide +kernel
theorem dc_16_6 : am_dc 16 6 = some (.istore_n 1, 7, 0) := by decide +kernel
theorem dc_16_7 : am_dc 16 7 = some (.iload_n 1, 8, 0) := by decide +kernel
theorem dc_16_8 : am_dc 16 8 = some (.aload_n 0, 9, 0) := by decide +kernel
theorem dc_16_9 : am_dc 16 9 = some (.getfield 31, 12, 0) := by decide +kernel
theorem dc_16_12 : am_dc 16 12 = some (.if_icmp .ge 89, 15, 101) := by decide +kernel
theorem dc_16_15 : am_dc 16 15 = some (.aload_n 0, 16, 0) := by decide +kernel
theorem dc_16_16 : am_dc 16 16 = some (.getfield 49, 19, 0) := by decide +kernel
theorem dc_16_19 : am_dc 16 19 = some (.ifCond .ne 82, 22, 101) := by decide +kernel
theorem dc_16_22 : am_dc 16 22 = some (.aload_n 0, 23, 0) := by decide +kernel
theorem dc_16_23 : am_dc 16 23 = some (.invokevirtual 60, 26, 0) := by decide +kernel
theorem dc_16_26 : am_dc 16 26 = some (.bipush 32, 28, 0) := by decide +kernel
theorem dc_16_28 : am_dc 16 28 = some (.if_icmp .ne 73, 31, 101) := by decide +kernel
theorem dc_16_31 : am_dc 16 31 = some (.aload_n 0, 32, 0) := by decide +kernel
theorem dc_16_32 : am_dc 16 32 = some (.dup, 33, 0) := by decide +kernel
theorem dc_16_33 : am_dc 16 33 = some (.getfield 46, 36, 0) := by decide +kernel
theorem dc_16_36 : am_dc 16 36 = some (.iconst 1, 37, 0) := by decide +kernel
theorem dc_16_37 : am_dc 16 37 = some (.iadd, 38, 0) := by decide +kernel
theorem dc_16_38 : am_dc 16 38 = some (.putfield 46, 41, 0) := by decide +kernel
theorem dc_16_41 : am_dc 16 41 = some (.aload_n 0, 42, 0) := by decide +kernel
theorem dc_16_42 : am_dc 16 42 = some (.invokevirtual 70, 45, 0) := by decide +kernel
theorem dc_16_45 : am_dc 16 45 = some (.istore_n 2, 46, 0) := by decide +kernel
theorem dc_16_46 : am_dc 16 46 = some (.aload_n 0, 47, 0) := by decide +kernel
theorem dc_16_47 : am_dc 16 47 = some (.bipush 47, 49, 0) := by decide +kernel
theorem dc_16_49 : am_dc 16 49 = some (.invokevirtual 76, 52, 0) := by decide +kernel
theorem dc_16_52 : am_dc 16 52 = some (.aload_n 0, 53, 0) := by decide +kernel
theorem dc_16_53 : am_dc 16 53 = some (.invokevirtual 70, 56, 0) := by decide +kernel
theorem dc_16_56 : am_dc 16 56 = some (.istore_n 3, 57, 0) := by decide +kernel
theorem dc_16_57 : am_dc 16 57 = some (.aload_n 0, 58, 0) := by decide +kernel
theorem dc_16_58 : am_dc 16 58 = some (.getfield 95, 61, 0) := by decide +kernel
theorem dc_16_61 : am_dc 16 61 = some (.iconst 4, 62, 0) := by decide +kernel
theorem dc_16_62 : am_dc 16 62 = some (.if_icmp .ge 23, 65, 85) := by decide +kernel
theorem dc_16_65 : am_dc 16 65 = some (.aload_n 0, 66, 0) := by decide +kernel
theorem dc_16_66 : am_dc 16 66 = some (.getfield 22, 69, 0) := by decide +kernel
theorem dc_16_69 : am_dc 16 69 = some (.aload_n 0, 70, 0) := by decide +kernel
theorem dc_16_70 : am_dc 16 70 = some (.getfield 95, 73, 0) := by decide +kernel
theorem dc_16_73 : am_dc 16 73 = some (.iload_n 2, 74, 0) := by decide +kernel
theorem dc_16_74 : am_dc 16 74 = some (.iastore, 75, 0) := by decide +kernel
theorem dc_16_75 : am_dc 16 75 = some (.aload_n 0, 76, 0) := by decide +kernel
theorem dc_16_76 : am_dc 16 76 = some (.getfield 25, 79, 0) := by decide +kernel
theorem dc_16_79 : am_dc 16 79 = some (.aload_n 0, 80, 0) := by decide +kernel
theorem dc_16_80 : am_dc 16 80 = some (.getfield 95, 83, 0) := by decide +kernel
theorem dc_16_83 : am_dc 16 83 = some (.iload_n 3, 84, 0) := by decide +kernel
theorem dc_16_84 : am_dc 16 84 = some (.iastore, 85, 0) := by decide +kernel
theorem dc_16_85 : am_dc 16 85 = some (.aload_n 0, 86, 0) := by decide +kernel
theorem dc_16_86 : am_dc 16 86 = some (.dup, 87, 0) := by decide +kernel
theorem dc_16_87 : am_dc 16 87 = some (.getfield 95, 90, 0) := by decide +kernel
theorem dc_16_90 : am_dc 16 90 = some (.iconst 1, 91, 0) := by decide +kernel
theorem dc_16_91 : am_dc 16 91 = some (.iadd, 92, 0) := by decide +kernel
theorem dc_16_92 : am_dc 16 92 = some (.putfield 95, 95, 0) := by decide +kernel
theorem dc_16_95 : am_dc 16 95 = some (.iinc 1 1, 98, 0) := by decide +kernel
theorem dc_16_98 : am_dc 16 98 = some (.goto (-91), 101, 7) := by decide +kernel
theorem dc_16_101 : am_dc 16 101 = some (.return_, 102, 0) := by decide +kernel
theorem dc_17_0 : am_dc 17 0 = some (.aload_n 0, 1, 0) := by decide +kernel
theorem dc_17_1 : am_dc 17 1 = some (.aload_n 0, 2, 0) := by decide +kernel
theorem dc_17_2 : am_dc 17 2 = some (.getfield 49, 5, 0) := by decide +kernel
theorem dc_17_5 : am_dc 17 5 = some (.ifCond .eq 8, 8, 13) := by decide +kernel
theorem dc_17_8 : am_dc 17 8 = some (.bipush 59, 10, 0) := by decide +kernel
theorem dc_17_10 : am_dc 17 10 = some (.goto 7, 13, 17) := by decide +kernel
theorem dc_17_13 : am_dc 17 13 = some (.aload_n 0, 14, 0) := by decide +kernel
theorem dc_17_14 : am_dc 17 14 = some (.invokevirtual 60, 17, 0) := by decide +kernel
theorem dc_17_17 : am_dc 17 17 = some (.putfield 98, 20, 0) := by decide +kernel
theorem dc_17_20 : am_dc 17 20 = some (.aload_n 0, 21, 0) := by decide +kernel
theorem dc_17_21 : am_dc 17 21 = some (.getfield 98, 24, 0) := by decide +kernel
theorem dc_17_24 : am_dc 17 24 = some (.lookupswitch 86 #[(33, 52), (60, 65), (62, 65), (63, 65), (64, 65)], 76, 0) := by decide +kernel
theorem dc_17_76 : am_dc 17 76 = some (.aload_n 0, 77, 0) := by decide +kernel
theorem dc_17_77 : am_dc 17 77 = some (.dup, 78, 0) := by decide +kernel
theorem dc_17_78 : am_dc 17 78 = some (.getfield 46, 81, 0) := by decide +kernel
theorem dc_17_81 : am_dc 17 81 = some (.iconst 1, 82, 0) := by decide +kernel
theorem dc_17_82 : am_dc 17 82 = some (.iadd, 83, 0) := by decide +kernel
theorem dc_17_83 : am_dc 17 83 = some (.putfield 46, 86, 0) := by decide +kernel
theorem dc_17_86 : am_dc 17 86 = some (.goto 24, 89, 110) := by decide +kernel
theorem dc_17_89 : am_dc 17 89 = some (.aload_n 0, 90, 0) := by decide +kernel
theorem dc_17_90 : am_dc 17 90 = some (.dup, 91, 0) := by decide +kernel
theorem dc_17_91 : am_dc 17 91 = some (.getfield 46, 94, 0) := by decide +kernel
theorem dc_17_94 : am_dc 17 94 = some (.iconst 1, 95, 0) := by decide +kernel
theorem dc_17_95 : am_dc 17 95 = some (.iadd, 96, 0) := by decide +kernel
theorem dc_17_96 : am_dc 17 96 = some (.putfield 46, 99, 0) := by decide +kernel
theorem dc_17_99 : am_dc 17 99 = some (.aload_n 0, 100, 0) := by decide +kernel
theorem dc_17_100 : am_dc 17 100 = some (.aload_n 0, 101, 0) := by decide +kernel
theorem dc_17_101 : am_dc 17 101 = some (.invokevirtual 70, 104, 0) := by decide +kernel
theorem dc_17_104 : am_dc 17 104 = some (.putfield 73, 107, 0) := by decide +kernel
theorem dc_17_107 : am_dc 17 107 = some (.goto 3, 110, 110) := by decide +kernel
theorem dc_17_110 : am_dc 17 110 = some (.return_, 111, 0) := by decide +kernel
theorem dc_18_0 : am_dc 18 0 = some (.aload_n 0, 1, 0) := by decide +kernel
theorem dc_18_1 : am_dc 18 1 = some (.iconst 0, 2, 0) := by decide +kernel
theorem dc_18_2 : am_dc 18 2 = some (.putfield 101, 5, 0) := by decide +kernel
theorem dc_18_5 : am_dc 18 5 = some (.iconst 0, 6, 0) := by decide +kernel
theorem dc_18_6 : am_dc 18 6 = some (.istore_n 1, 7, 0) := by decide +kernel
theorem dc_18_7 : am_dc 18 7 = some (.iload_n 1, 8, 0) := by decide +kernel
theorem dc_18_8 : am_dc 18 8 = some (.aload_n 0, 9, 0) := by decide +kernel
theorem dc_18_9 : am_dc 18 9 = some (.getfield 31, 12, 0) := by decide +kernel
theorem dc_18_12 : am_dc 18 12 = some (.if_icmp .ge 77, 15, 89) := by decide +kernel
theorem dc_18_15 : am_dc 18 15 = some (.aload_n 0, 16, 0) := by decide +kernel
theorem dc_18_16 : am_dc 18 16 = some (.getfield 49, 19, 0) := by decide +kernel
theorem dc_18_19 : am_dc 18 19 = some (.ifCond .ne 70, 22, 89) := by decide +kernel
theorem dc_18_22 : am_dc 18 22 = some (.aload_n 0, 23, 0) := by decide +kernel
theorem dc_18_23 : am_dc 18 23 = some (.getfield 98, 26, 0) := by decide +kernel
theorem dc_18_26 : am_dc 18 26 = some (.bipush 62, 28, 0) := by decide +kernel
theorem dc_18_28 : am_dc 18 28 = some (.if_icmp .ne 61, 31, 89) := by decide +kernel
theorem dc_18_31 : am_dc 18 31 = some (.aload_n 0, 32, 0) := by decide +kernel
theorem dc_18_32 : am_dc 18 32 = some (.invokevirtual 60, 35, 0) := by decide +kernel
theorem dc_18_35 : am_dc 18 35 = some (.bipush 32, 37, 0) := by decide +kernel
theorem dc_18_37 : am_dc 18 37 = some (.if_icmp .ne 52, 40, 89) := by decide +kernel
theorem dc_18_40 : am_dc 18 40 = some (.aload_n 0, 41, 0) := by decide +kernel
theorem dc_18_41 : am_dc 18 41 = some (.dup, 42, 0) := by decide +kernel
theorem dc_18_42 : am_dc 18 42 = some (.getfield 46, 45, 0) := by decide +kernel
theorem dc_18_45 : am_dc 18 45 = some (.iconst 1, 46, 0) := by decide +kernel
theorem dc_18_46 : am_dc 18 46 = some (.iadd, 47, 0) := by decide +kernel
theorem dc_18_47 : am_dc 18 47 = some (.putfield 46, 50, 0) := by decide +kernel
theorem dc_18_50 : am_dc 18 50 = some (.aload_n 0, 51, 0) := by decide +kernel
theorem dc_18_51 : am_dc 18 51 = some (.invokevirtual 70, 54, 0) := by decide +kernel
theorem dc_18_54 : am_dc 18 54 = some (.istore_n 2, 55, 0) := by decide +kernel
theorem dc_18_55 : am_dc 18 55 = some (.aload_n 0, 56, 0) := by decide +kernel
theorem dc_18_56 : am_dc 18 56 = some (.getfield 101, 59, 0) := by decide +kernel
theorem dc_18_59 : am_dc 18 59 = some (.iconst 4, 60, 0) := by decide +kernel
theorem dc_18_60 : am_dc 18 60 = some (.if_icmp .ge 13, 63, 73) := by decide +kernel
theorem dc_18_63 : am_dc 18 63 = some (.aload_n 0, 64, 0) := by decide +kernel
theorem dc_18_64 : am_dc 18 64 = some (.getfield 28, 67, 0) := by decide +kernel
theorem dc_18_67 : am_dc 18 67 = some (.aload_n 0, 68, 0) := by decide +kernel
theorem dc_18_68 : am_dc 18 68 = some (.getfield 101, 71, 0) := by decide +kernel
theorem dc_18_71 : am_dc 18 71 = some (.iload_n 2, 72, 0) := by decide +kernel
theorem dc_18_72 : am_dc 18 72 = some (.iastore, 73, 0) := by decide +kernel
theorem dc_18_73 : am_dc 18 73 = some (.aload_n 0, 74, 0) := by decide +kernel
theorem dc_18_74 : am_dc 18 74 = some (.dup, 75, 0) := by decide +kernel
theorem dc_18_75 : am_dc 18 75 = some (.getfield 101, 78, 0) := by decide +kernel
theorem dc_18_78 : am_dc 18 78 = some (.iconst 1, 79, 0) := by decide +kernel
theorem dc_18_79 : am_dc 18 79 = some (.iadd, 80, 0) := by decide +kernel
theorem dc_18_80 : am_dc 18 80 = some (.putfield 101, 83, 0) := by decide +kernel
theorem dc_18_83 : am_dc 18 83 = some (.iinc 1 1, 86, 0) := by decide +kernel
theorem dc_18_86 : am_dc 18 86 = some (.goto (-79), 89, 7) := by decide +kernel
theorem dc_18_89 : am_dc 18 89 = some (.return_, 90, 0) := by decide +kernel
theorem dc_19_0 : am_dc 19 0 = some (.iconst 0, 1, 0) := by decide +kernel
theorem dc_19_1 : am_dc 19 1 = some (.istore_n 2, 2, 0) := by decide +kernel
theorem dc_19_2 : am_dc 19 2 = some (.iload_n 2, 3, 0) := by decide +kernel
theorem dc_19_3 : am_dc 19 3 = some (.iconst 5, 4, 0) := by decide +kernel
theorem dc_19_4 : am_dc 19 4 = some (.if_icmp .ge 21, 7, 25) := by decide +kernel
theorem dc_19_7 : am_dc 19 7 = some (.aload_n 0, 8, 0) := by decide +kernel
theorem dc_19_8 : am_dc 19 8 = some (.getfield 11, 11, 0) := by decide +kernel
theorem dc_19_11 : am_dc 19 11 = some (.iload_n 2, 12, 0) := by decide +kernel
theorem dc_19_12 : am_dc 19 12 = some (.aload_n 1, 13, 0) := by decide +kernel
theorem dc_19_13 : am_dc 19 13 = some (.getfield 11, 16, 0) := by decide +kernel
theorem dc_19_16 : am_dc 19 16 = some (.iload_n 2, 17, 0) := by decide +kernel
theorem dc_19_17 : am_dc 19 17 = some (.aaload, 18, 0) := by decide +kernel
theorem dc_19_18 : am_dc 19 18 = some (.aastore, 19, 0) := by decide +kernel
theorem dc_19_19 : am_dc 19 19 = some (.iinc 2 1, 22, 0) := by decide +kernel
theorem dc_19_22 : am_dc 19 22 = some (.goto (-20), 25, 2) := by decide +kernel
theorem dc_19_25 : am_dc 19 25 = some (.aload_n 0, 26, 0) := by decide +kernel
theorem dc_19_26 : am_dc 19 26 = some (.aload_n 1, 27, 0) := by decide +kernel
theorem dc_19_27 : am_dc 19 27 = some (.getfield 44, 30, 0) := by decide +kernel
theorem dc_19_30 : am_dc 19 30 = some (.putfield 44, 33, 0) := by decide +kernel
theorem dc_19_33 : am_dc 19 33 = some (.aload_n 0, 34, 0) := by decide +kernel
theorem dc_19_34 : am_dc 19 34 = some (.aload_n 1, 35, 0) := by decide +kernel
theorem dc_19_35 : am_dc 19 35 = some (.getfield 17, 38, 0) := by decide +kernel
theorem dc_19_38 : am_dc 19 38 = some (.putfield 17, 41, 0) := by decide +kernel
theorem dc_19_41 : am_dc 19 41 = some (.aload_n 0, 42, 0) := by decide +kernel
theorem dc_19_42 : am_dc 19 42 = some (.invokevirtual 47, 45, 0) := by decide +kernel
theorem dc_19_45 : am_dc 19 45 = some (.return_, 46, 0) := by decide +kernel
theorem dc_20_0 : am_dc 20 0 = some (.aload_n 0, 1, 0) := by decide +kernel
theorem dc_20_1 : am_dc 20 1 = some (.getfield 21, 4, 0) := by decide +kernel
theorem dc_20_4 : am_dc 20 4 = some (.bipush (-4), 6, 0) := by decide +kernel
theorem dc_20_6 : am_dc 20 6 = some (.invokestatic 54, 9, 0) := by decide +kernel
theorem dc_20_9 : am_dc 20 9 = some (.aload_n 0, 10, 0) := by decide +kernel
theorem dc_20_10 : am_dc 20 10 = some (.getfield 34, 13, 0) := by decide +kernel
theorem dc_20_13 : am_dc 20 13 = some (.bipush (-4), 15, 0) := by decide +kernel
theorem dc_20_15 : am_dc 20 15 = some (.invokestatic 54, 18, 0) := by decide +kernel
theorem dc_20_18 : am_dc 20 18 = some (.aload_n 0, 19, 0) := by decide +kernel
theorem dc_20_19 : am_dc 20 19 = some (.iconst 1, 20, 0) := by decide +kernel
theorem dc_20_20 : am_dc 20 20 = some (.putfield 28, 23, 0) := by decide +kernel
theorem dc_20_23 : am_dc 20 23 = some (.iconst 0, 24, 0) := by decide +kernel
theorem dc_20_24 : am_dc 20 24 = some (.istore_n 1, 25, 0) := by decide +kernel
theorem dc_20_25 : am_dc 20 25 = some (.iload_n 1, 26, 0) := by decide +kernel
theorem dc_20_26 : am_dc 20 26 = some (.aload_n 0, 27, 0) := by decide +kernel
theorem dc_20_27 : am_dc 20 27 = some (.getfield 44, 30, 0) := by decide +kernel
theorem dc_20_30 : am_dc 20 30 = some (.if_icmp .ge 97, 33, 127) := by decide +kernel
theorem dc_20_33 : am_dc 20 33 = some (.aload_n 0, 34, 0) := by decide +kernel
theorem dc_20_34 : am_dc 20 34 = some (.getfield 11, 37, 0) := by decide +kernel
theorem dc_20_37 : am_dc 20 37 = some (.iload_n 1, 38, 0) := by decide +kernel
theorem dc_20_38 : am_dc 20 38 = some (.aaload, 39, 0) := by decide +kernel
theorem dc_20_39 : am_dc 20 39 = some (.astore_n 3, 40, 0) := by decide +kernel
theorem dc_20_40 : am_dc 20 40 = some (.aload_n 3, 41, 0) := by decide +kernel
theorem dc_20_41 : am_dc 20 41 = some (.instanceof 60, 44, 0) := by decide +kernel
theorem dc_20_44 : am_dc 20 44 = some (.ifCond .eq 41, 47, 85) := by decide +kernel
theorem dc_20_47 : am_dc 20 47 = some (.aload_n 3, 48, 0) := by decide +kernel
theorem dc_20_48 : am_dc 20 48 = some (.checkcast 60, 51, 0) := by decide +kernel
theorem dc_20_51 : am_dc 20 51 = some (.astore_n 2, 52, 0) := by decide +kernel
theorem dc_20_52 : am_dc 20 52 = some (.aload_n 0, 53, 0) := by decide +kernel
theorem dc_20_53 : am_dc 20 53 = some (.getfield 21, 56, 0) := by decide +kernel
theorem dc_20_56 : am_dc 20 56 = some (.aload_n 2, 57, 0) := by decide +kernel
theorem dc_20_57 : am_dc 20 57 = some (.getfield 62, 60, 0) := by decide +kernel
theorem dc_20_60 : am_dc 20 60 = some (.iload_n 1, 61, 0) := by decide +kernel
theorem dc_20_61 : am_dc 20 61 = some (.iastore, 62, 0) := by decide +kernel
theorem dc_20_62 : am_dc 20 62 = some (.aload_n 2, 63, 0) := by decide +kernel
theorem dc_20_63 : am_dc 20 63 = some (.getfield 65, 66, 0) := by decide +kernel
theorem dc_20_66 : am_dc 20 66 = some (.iconst 0, 67, 0) := by decide +kernel
theorem dc_20_67 : am_dc 20 67 = some (.aload_n 0, 68, 0) := by decide +kernel
theorem dc_20_68 : am_dc 20 68 = some (.getfield 34, 71, 0) := by decide +kernel
theorem dc_20_71 : am_dc 20 71 = some (.aload_n 2, 72, 0) := by decide +kernel
theorem dc_20_72 : am_dc 20 72 = some (.getfield 62, 75, 0) := by decide +kernel
theorem dc_20_75 : am_dc 20 75 = some (.iconst 4, 76, 0) := by decide +kernel
theorem dc_20_76 : am_dc 20 76 = some (.imul, 77, 0) := by decide +kernel
theorem dc_20_77 : am_dc 20 77 = some (.aload_n 2, 78, 0) := by decide +kernel
theorem dc_20_78 : am_dc 20 78 = some (.getfield 65, 81, 0) := by decide +kernel
theorem dc_20_81 : am_dc 20 81 = some (.arraylength, 82, 0) := by decide +kernel
theorem dc_20_82 : am_dc 20 82 = some (.invokestatic 68, 85, 0) := by decide +kernel
theorem dc_20_85 : am_dc 20 85 = some (.iconst 0, 86, 0) := by decide +kernel
theorem dc_20_86 : am_dc 20 86 = some (.istore_n 2, 87, 0) := by decide +kernel
theorem dc_20_87 : am_dc 20 87 = some (.iload_n 2, 88, 0) := by decide +kernel
theorem dc_20_88 : am_dc 20 88 = some (.aload_n 0, 89, 0) := by decide +kernel
theorem dc_20_89 : am_dc 20 89 = some (.getfield 11, 92, 0) := by decide +kernel
theorem dc_20_92 : am_dc 20 92 = some (.iload_n 1, 93, 0) := by decide +kernel
theorem dc_20_93 : am_dc 20 93 = some (.aaload, 94, 0) := by decide +kernel
theorem dc_20_94 : am_dc 20 94 = some (.invokevirtual 74, 97, 0) := by decide +kernel
theorem dc_20_97 : am_dc 20 97 = some (.if_icmp .ge 24, 100, 121) := by decide +kernel
theorem dc_20_100 : am_dc 20 100 = some (.aload_n 0, 101, 0) := by decide +kernel
theorem dc_20_101 : am_dc 20 101 = some (.aload_n 0, 102, 0) := by decide +kernel
theorem dc_20_102 : am_dc 20 102 = some (.getfield 11, 105, 0) := by decide +kernel
theorem dc_20_105 : am_dc 20 105 = some (.iload_n 1, 106, 0) := by decide +kernel
theorem dc_20_106 : am_dc 20 106 = some (.aaload, 107, 0) := by decide +kernel
theorem dc_20_107 : am_dc 20 107 = some (.getfield 78, 110, 0) := by decide +kernel
theorem dc_20_110 : am_dc 20 110 = some (.iload_n 2, 111, 0) := by decide +kernel
theorem dc_20_111 : am_dc 20 111 = some (.iaload, 112, 0) := by decide +kernel
theorem dc_20_112 : am_dc 20 112 = some (.invokevirtual 79, 115, 0) := by decide +kernel
theorem dc_20_115 : am_dc 20 115 = some (.iinc 2 1, 118, 0) := by decide +kernel
theorem dc_20_118 : am_dc 20 118 = some (.goto (-31), 121, 87) := by decide +kernel
theorem dc_20_121 : am_dc 20 121 = some (.iinc 1 1, 124, 0) := by decide +kernel
theorem dc_20_124 : am_dc 20 124 = some (.goto (-99), 127, 25) := by decide +kernel
theorem dc_20_127 : am_dc 20 127 = some (.iconst 0, 128, 0) := by decide +kernel
theorem dc_20_128 : am_dc 20 128 = some (.istore_n 1, 129, 0) := by decide +kernel
theorem dc_20_129 : am_dc 20 129 = some (.iload_n 1, 130, 0) := by decide +kernel
theorem dc_20_130 : am_dc 20 130 = some (.aload_n 0, 131, 0) := by decide +kernel
theorem dc_20_131 : am_dc 20 131 = some (.getfield 44, 134, 0) := by decide +kernel
theorem dc_20_134 : am_dc 20 134 = some (.if_icmp .ge 76, 137, 210) := by decide +kernel
theorem dc_20_137 : am_dc 20 137 = some (.iconst 0, 138, 0) := by decide +kernel
theorem dc_20_138 : am_dc 20 138 = some (.istore_n 2, 139, 0) := by decide +kernel
theorem dc_20_139 : am_dc 20 139 = some (.iload_n 2, 140, 0) := by decide +kernel
theorem dc_20_140 : am_dc 20 140 = some (.aload_n 0, 141, 0) := by decide +kernel
theorem dc_20_141 : am_dc 20 141 = some (.getfield 11, 144, 0) := by decide +kernel
theorem dc_20_144 : am_dc 20 144 = some (.iload_n 1, 145, 0) := by decide +kernel
theorem dc_20_145 : am_dc 20 145 = some (.aaload, 146, 0) := by decide +kernel
theorem dc_20_146 : am_dc 20 146 = some (.invokevirtual 74, 149, 0) := by decide +kernel
theorem dc_20_149 : am_dc 20 149 = some (.if_icmp .ge 34, 152, 183) := by decide +kernel
theorem dc_20_152 : am_dc 20 152 = some (.aload_n 0, 153, 0) := by decide +kernel
theorem dc_20_153 : am_dc 20 153 = some (.getfield 31, 156, 0) := by decide +kernel
theorem dc_20_156 : am_dc 20 156 = some (.iload_n 1, 157, 0) := by decide +kernel
theorem dc_20_157 : am_dc 20 157 = some (.iconst 4, 158, 0) := by decide +kernel
theorem dc_20_158 : am_dc 20 158 = some (.imul, 159, 0) := by decide +kernel
theorem dc_20_159 : am_dc 20 159 = some (.iload_n 2, 160, 0) := by decide +kernel
theorem dc_20_160 : am_dc 20 160 = some (.iadd, 161, 0) := by decide +kernel
theorem dc_20_161 : am_dc 20 161 = some (.aload_n 0, 162, 0) := by decide +kernel
theorem dc_20_162 : am_dc 20 162 = some (.aload_n 0, 163, 0) := by decide +kernel
theorem dc_20_163 : am_dc 20 163 = some (.getfield 11, 166, 0) := by decide +kernel
theorem dc_20_166 : am_dc 20 166 = some (.iload_n 1, 167, 0) := by decide +kernel
theorem dc_20_167 : am_dc 20 167 = some (.aaload, 168, 0) := by decide +kernel
theorem dc_20_168 : am_dc 20 168 = some (.getfield 78, 171, 0) := by decide +kernel
theorem dc_20_171 : am_dc 20 171 = some (.iload_n 2, 172, 0) := by decide +kernel
theorem dc_20_172 : am_dc 20 172 = some (.iaload, 173, 0) := by decide +kernel
theorem dc_20_173 : am_dc 20 173 = some (.invokevirtual 83, 176, 0) := by decide +kernel
theorem dc_20_176 : am_dc 20 176 = some (.iastore, 177, 0) := by decide +kernel
theorem dc_20_177 : am_dc 20 177 = some (.iinc 2 1, 180, 0) := by decide +kernel
theorem dc_20_180 : am_dc 20 180 = some (.goto (-41), 183, 139) := by decide +kernel
theorem dc_20_183 : am_dc 20 183 = some (.aload_n 0, 184, 0) := by decide +kernel
theorem dc_20_184 : am_dc 20 184 = some (.iload_n 1, 185, 0) := by decide +kernel
theorem dc_20_185 : am_dc 20 185 = some (.iconst 0, 186, 0) := by decide +kernel
theorem dc_20_186 : am_dc 20 186 = some (.invokevirtual 87, 189, 0) := by decide +kernel
theorem dc_20_189 : am_dc 20 189 = some (.aload_n 0, 190, 0) := by decide +kernel
theorem dc_20_190 : am_dc 20 190 = some (.getfield 21, 193, 0) := by decide +kernel
theorem dc_20_193 : am_dc 20 193 = some (.iload_n 1, 194, 0) := by decide +kernel
theorem dc_20_194 : am_dc 20 194 = some (.iaload, 195, 0) := by decide +kernel
theorem dc_20_195 : am_dc 20 195 = some (.ifCond .lt 9, 198, 204) := by decide +kernel
theorem dc_20_198 : am_dc 20 198 = some (.aload_n 0, 199, 0) := by decide +kernel
theorem dc_20_199 : am_dc 20 199 = some (.iload_n 1, 200, 0) := by decide +kernel
theorem dc_20_200 : am_dc 20 200 = some (.iconst 1, 201, 0) := by decide +kernel
theorem dc_20_201 : am_dc 20 201 = some (.invokevirtual 87, 204, 0) := by decide +kernel
theorem dc_20_204 : am_dc 20 204 = some (.iinc 1 1, 207, 0) := by decide +kernel
theorem dc_20_207 : am_dc 20 207 = some (.goto (-78), 210, 129) := by decide +kernel
theorem dc_20_210 : am_dc 20 210 = some (.return_, 211, 0) := by decide +kernel
theorem dc_21_0 : am_dc 21 0 = some (.iconst 0, 1, 0) := by decide +kernel
theorem dc_21_1 : am_dc 21 1 = some (.istore_n 2, 2, 0) := by decide +kernel
theorem dc_21_2 : am_dc 21 2 = some (.aload_n 0, 3, 0) := by decide +kernel
theorem dc_21_3 : am_dc 21 3 = some (.arraylength, 4, 0) := by decide +kernel
theorem dc_21_4 : am_dc 21 4 = some (.istore_n 3, 5, 0) := by decide +kernel
theorem dc_21_5 : am_dc 21 5 = some (.iload_n 2, 6, 0) := by decide +kernel
theorem dc_21_6 : am_dc 21 6 = some (.iload_n 3, 7, 0) := by decide +kernel
theorem dc_21_7 : am_dc 21 7 = some (.if_icmp .ge 13, 10, 20) := by decide +kernel
theorem dc_21_10 : am_dc 21 10 = some (.aload_n 0, 11, 0) := by decide +kernel
theorem dc_21_11 : am_dc 21 11 = some (.iload_n 2, 12, 0) := by decide +kernel
theorem dc_21_12 : am_dc 21 12 = some (.iload_n 1, 13, 0) := by decide +kernel
theorem dc_21_13 : am_dc 21 13 = some (.iastore, 14, 0) := by decide +kernel
theorem dc_21_14 : am_dc 21 14 = some (.iinc 2 1, 17, 0) := by decide +kernel
theorem dc_21_17 : am_dc 21 17 = some (.goto (-12), 20, 5) := by decide +kernel
theorem dc_21_20 : am_dc 21 20 = some (.return_, 21, 0) := by decide +kernel
theorem dc_22_0 : am_dc 22 0 = some (.aload_n 0, 1, 0) := by decide +kernel
theorem dc_22_1 : am_dc 22 1 = some (.getfield 21, 4, 0) := by decide +kernel
theorem dc_22_4 : am_dc 22 4 = some (.arraylength, 5, 0) := by decide +kernel
theorem dc_22_5 : am_dc 22 5 = some (.ireturn, 6, 0) := by decide +kernel
theorem dc_23_0 : am_dc 23 0 = some (.aload_n 0, 1, 0) := by decide +kernel
theorem dc_23_1 : am_dc 23 1 = some (.iload_n 1, 2, 0) := by decide +kernel
theorem dc_23_2 : am_dc 23 2 = some (.invokevirtual 83, 5, 0) := by decide +kernel
theorem dc_23_5 : am_dc 23 5 = some (.istore_n 2, 6, 0) := by decide +kernel
theorem dc_23_6 : am_dc 23 6 = some (.iload_n 2, 7, 0) := by decide +kernel
theorem dc_23_7 : am_dc 23 7 = some (.aload_n 0, 8, 0) := by decide +kernel
theorem dc_23_8 : am_dc 23 8 = some (.getfield 28, 11, 0) := by decide +kernel
theorem dc_23_11 : am_dc 23 11 = some (.if_icmp .ge 13, 14, 24) := by decide +kernel
theorem dc_23_14 : am_dc 23 14 = some (.aload_n 0, 15, 0) := by decide +kernel
theorem dc_23_15 : am_dc 23 15 = some (.getfield 25, 18, 0) := by decide +kernel
theorem dc_23_18 : am_dc 23 18 = some (.iload_n 2, 19, 0) := by decide +kernel
theorem dc_23_19 : am_dc 23 19 = some (.iaload, 20, 0) := by decide +kernel
theorem dc_23_20 : am_dc 23 20 = some (.iload_n 1, 21, 0) := by decide +kernel
theorem dc_23_21 : am_dc 23 21 = some (.if_icmp .eq 12, 24, 33) := by decide +kernel
theorem dc_23_24 : am_dc 23 24 = some (.aload_n 0, 25, 0) := by decide +kernel
theorem dc_23_25 : am_dc 23 25 = some (.getfield 28, 28, 0) := by decide +kernel
theorem dc_23_28 : am_dc 23 28 = some (.bipush 21, 30, 0) := by decide +kernel
theorem dc_23_30 : am_dc 23 30 = some (.if_icmp .lt 4, 33, 34) := by decide +kernel
theorem dc_23_33 : am_dc 23 33 = some (.return_, 34, 0) := by decide +kernel
theorem dc_23_34 : am_dc 23 34 = some (.aload_n 0, 35, 0) := by decide +kernel
theorem dc_23_35 : am_dc 23 35 = some (.getfield 28, 38, 0) := by decide +kernel
theorem dc_23_38 : am_dc 23 38 = some (.istore_n 3, 39, 0) := by decide +kernel
theorem dc_23_39 : am_dc 23 39 = some (.iload_n 3, 40, 0) := by decide +kernel
theorem dc_23_40 : am_dc 23 40 = some (.iload_n 2, 41, 0) := by decide +kernel
theorem dc_23_41 : am_dc 23 41 = some (.if_icmp .le 23, 44, 64) := by decide +kernel
theorem dc_23_44 : am_dc 23 44 = some (.aload_n 0, 45, 0) := by decide +kernel
theorem dc_23_45 : am_dc 23 45 = some (.getfield 25, 48, 0) := by decide +kernel
theorem dc_23_48 : am_dc 23 48 = some (.iload_n 3, 49, 0) := by decide +kernel
theorem dc_23_49 : am_dc 23 49 = some (.aload_n 0, 50, 0) := by decide +kernel
theorem dc_23_50 : am_dc 23 50 = some (.getfield 25, 53, 0) := by decide +kernel
theorem dc_23_53 : am_dc 23 53 = some (.iload_n 3, 54, 0) := by decide +kernel
theorem dc_23_54 : am_dc 23 54 = some (.iconst 1, 55, 0) := by decide +kernel
theorem dc_23_55 : am_dc 23 55 = some (.isub, 56, 0) := by decide +kernel
theorem dc_23_56 : am_dc 23 56 = some (.iaload, 57, 0) := by decide +kernel
theorem dc_23_57 : am_dc 23 57 = some (.iastore, 58, 0) := by decide +kernel
theorem dc_23_58 : am_dc 23 58 = some (.iinc 3 (-1), 61, 0) := by decide +kernel
theorem dc_23_61 : am_dc 23 61 = some (.goto (-22), 64, 39) := by decide +kernel
theorem dc_23_64 : am_dc 23 64 = some (.aload_n 0, 65, 0) := by decide +kernel
theorem dc_23_65 : am_dc 23 65 = some (.getfield 25, 68, 0) := by decide +kernel
theorem dc_23_68 : am_dc 23 68 = some (.iload_n 2, 69, 0) := by decide +kernel
theorem dc_23_69 : am_dc 23 69 = some (.iload_n 1, 70, 0) := by decide +kernel
theorem dc_23_70 : am_dc 23 70 = some (.iastore, 71, 0) := by decide +kernel
theorem dc_23_71 : am_dc 23 71 = some (.aload_n 0, 72, 0) := by decide +kernel
theorem dc_23_72 : am_dc 23 72 = some (.dup, 73, 0) := by decide +kernel
theorem dc_23_73 : am_dc 23 73 = some (.getfield 28, 76, 0) := by decide +kernel
theorem dc_23_76 : am_dc 23 76 = some (.iconst 1, 77, 0) := by decide +kernel
theorem dc_23_77 : am_dc 23 77 = some (.iadd, 78, 0) := by decide +kernel
theorem dc_23_78 : am_dc 23 78 = some (.putfield 28, 81, 0) := by decide +kernel
theorem dc_23_81 : am_dc 23 81 = some (.return_, 82, 0) := by decide +kernel
theorem dc_24_0 : am_dc 24 0 = some (.iconst 0, 1, 0) := by decide +kernel
theorem dc_24_1 : am_dc 24 1 = some (.istore_n 2, 2, 0) := by decide +kernel
theorem dc_24_2 : am_dc 24 2 = some (.iload_n 2, 3, 0) := by decide +kernel
theorem dc_24_3 : am_dc 24 3 = some (.aload_n 0, 4, 0) := by decide +kernel
theorem dc_24_4 : am_dc 24 4 = some (.getfield 28, 7, 0) := by decide +kernel
theorem dc_24_7 : am_dc 24 7 = some (.if_icmp .ge 19, 10, 26) := by decide +kernel
theorem dc_24_10 : am_dc 24 10 = some (.aload_n 0, 11, 0) := by decide +kernel
theorem dc_24_11 : am_dc 24 11 = some (.getfield 25, 14, 0) := by decide +kernel
theorem dc_24_14 : am_dc 24 14 = some (.iload_n 2, 15, 0) := by decide +kernel
theorem dc_24_15 : am_dc 24 15 = some (.iaload, 16, 0) := by decide +kernel
theorem dc_24_16 : am_dc 24 16 = some (.iload_n 1, 17, 0) := by decide +kernel
theorem dc_24_17 : am_dc 24 17 = some (.if_icmp .ge 9, 20, 26) := by decide +kernel
theorem dc_24_20 : am_dc 24 20 = some (.iinc 2 1, 23, 0) := by decide +kernel
theorem dc_24_23 : am_dc 24 23 = some (.goto (-21), 26, 2) := by decide +kernel
theorem dc_24_26 : am_dc 24 26 = some (.iload_n 2, 27, 0) := by decide +kernel
theorem dc_24_27 : am_dc 24 27 = some (.ireturn, 28, 0) := by decide +kernel
theorem dc_25_0 : am_dc 25 0 = some (.ldc2_w 131, 3, 0) := by decide +kernel
theorem dc_25_3 : am_dc 25 3 = some (.aload_n 0, 4, 0) := by decide +kernel
theorem dc_25_4 : am_dc 25 4 = some (.getfield 11, 7, 0) := by decide +kernel
theorem dc_25_7 : am_dc 25 7 = some (.iload_n 1, 8, 0) := by decide +kernel
theorem dc_25_8 : am_dc 25 8 = some (.aaload, 9, 0) := by decide +kernel
theorem dc_25_9 : am_dc 25 9 = some (.getfield 133, 12, 0) := by decide +kernel
theorem dc_25_12 : am_dc 25 12 = some (.i2l, 13, 0) := by decide +kernel
theorem dc_25_13 : am_dc 25 13 = some (.lmul, 14, 0) := by decide +kernel
theorem dc_25_14 : am_dc 25 14 = some (.lstore_n 3, 15, 0) := by decide +kernel
theorem dc_25_15 : am_dc 25 15 = some (.lconst 0, 16, 0) := by decide +kernel
theorem dc_25_16 : am_dc 25 16 = some (.lstore 5, 18, 0) := by decide +kernel
theorem dc_25_18 : am_dc 25 18 = some (.lconst 0, 19, 0) := by decide +kernel
theorem dc_25_19 : am_dc 25 19 = some (.lstore 7, 21, 0) := by decide +kernel
theorem dc_25_21 : am_dc 25 21 = some (.lconst 0, 22, 0) := by decide +kernel
theorem dc_25_22 : am_dc 25 22 = some (.lstore 9, 24, 0) := by decide +kernel
theorem dc_25_24 : am_dc 25 24 = some (.iconst 0, 25, 0) := by decide +kernel
theorem dc_25_25 : am_dc 25 25 = some (.istore 11, 27, 0) := by decide +kernel
theorem dc_25_27 : am_dc 25 27 = some (.iload 11, 29, 0) := by decide +kernel
theorem dc_25_29 : am_dc 25 29 = some (.aload_n 0, 30, 0) := by decide +kernel
theorem dc_25_30 : am_dc 25 30 = some (.getfield 11, 33, 0) := by decide +kernel
theorem dc_25_33 : am_dc 25 33 = some (.iload_n 1, 34, 0) := by decide +kernel
theorem dc_25_34 : am_dc 25 34 = some (.aaload, 35, 0) := by decide +kernel
theorem dc_25_35 : am_dc 25 35 = some (.invokevirtual 74, 38, 0) := by decide +kernel
theorem dc_25_38 : am_dc 25 38 = some (.if_icmp .ge 103, 41, 141) := by decide +kernel
theorem dc_25_41 : am_dc 25 41 = some (.iload_n 2, 42, 0) := by decide +kernel
theorem dc_25_42 : am_dc 25 42 = some (.ifCond .eq 17, 45, 59) := by decide +kernel
theorem dc_25_45 : am_dc 25 45 = some (.aload_n 0, 46, 0) := by decide +kernel
theorem dc_25_46 : am_dc 25 46 = some (.getfield 34, 49, 0) := by decide +kernel
theorem dc_25_49 : am_dc 25 49 = some (.iload_n 1, 50, 0) := by decide +kernel
theorem dc_25_50 : am_dc 25 50 = some (.iconst 4, 51, 0) := by decide +kernel
theorem dc_25_51 : am_dc 25 51 = some (.imul, 52, 0) := by decide +kernel
theorem dc_25_52 : am_dc 25 52 = some (.iload 11, 54, 0) := by decide +kernel
theorem dc_25_54 : am_dc 25 54 = some (.iadd, 55, 0) := by decide +kernel
theorem dc_25_55 : am_dc 25 55 = some (.iaload, 56, 0) := by decide +kernel
theorem dc_25_56 : am_dc 25 56 = some (.goto 15, 59, 71) := by decide +kernel
theorem dc_25_59 : am_dc 25 59 = some (.aload_n 0, 60, 0) := by decide +kernel
theorem dc_25_60 : am_dc 25 60 = some (.getfield 11, 63, 0) := by decide +kernel
theorem dc_25_63 : am_dc 25 63 = some (.iload_n 1, 64, 0) := by decide +kernel
theorem dc_25_64 : am_dc 25 64 = some (.aaload, 65, 0) := by decide +kernel
theorem dc_25_65 : am_dc 25 65 = some (.getfield 122, 68, 0) := by decide +kernel
theorem dc_25_68 : am_dc 25 68 = some (.iload 11, 70, 0) := by decide +kernel
theorem dc_25_70 : am_dc 25 70 = some (.iaload, 71, 0) := by decide +kernel
theorem dc_25_71 : am_dc 25 71 = some (.istore 12, 73, 0) := by decide +kernel
theorem dc_25_73 : am_dc 25 73 = some (.lload_n 3, 74, 0) := by decide +kernel
theorem dc_25_74 : am_dc 25 74 = some (.iload 12, 76, 0) := by decide +kernel
theorem dc_25_76 : am_dc 25 76 = some (.i2l, 77, 0) := by decide +kernel
theorem dc_25_77 : am_dc 25 77 = some (.aload_n 0, 78, 0) := by decide +kernel
theorem dc_25_78 : am_dc 25 78 = some (.getfield 11, 81, 0) := by decide +kernel
theorem dc_25_81 : am_dc 25 81 = some (.iload_n 1, 82, 0) := by decide +kernel
theorem dc_25_82 : am_dc 25 82 = some (.aaload, 83, 0) := by decide +kernel
theorem dc_25_83 : am_dc 25 83 = some (.getfield 78, 86, 0) := by decide +kernel
theorem dc_25_86 : am_dc 25 86 = some (.iload 11, 88, 0) := by decide +kernel
theorem dc_25_88 : am_dc 25 88 = some (.iaload, 89, 0) := by decide +kernel
theorem dc_25_89 : am_dc 25 89 = some (.i2l, 90, 0) := by decide +kernel
theorem dc_25_90 : am_dc 25 90 = some (.lmul, 91, 0) := by decide +kernel
theorem dc_25_91 : am_dc 25 91 = some (.ladd, 92, 0) := by decide +kernel
theorem dc_25_92 : am_dc 25 92 = some (.lstore_n 3, 93, 0) := by decide +kernel
theorem dc_25_93 : am_dc 25 93 = some (.lload 5, 95, 0) := by decide +kernel
theorem dc_25_95 : am_dc 25 95 = some (.iload 12, 97, 0) := by decide +kernel
theorem dc_25_97 : am_dc 25 97 = some (.i2l, 98, 0) := by decide +kernel
theorem dc_25_98 : am_dc 25 98 = some (.ladd, 99, 0) := by decide +kernel
theorem dc_25_99 : am_dc 25 99 = some (.lstore 5, 101, 0) := by decide +kernel
theorem dc_25_101 : am_dc 25 101 = some (.lload 5, 103, 0) := by decide +kernel
theorem dc_25_103 : am_dc 25 103 = some (.lconst 0, 104, 0) := by decide +kernel
theorem dc_25_104 : am_dc 25 104 = some (.lcmp, 105, 0) := by decide +kernel
theorem dc_25_105 : am_dc 25 105 = some (.ifCond .le 30, 108, 135) := by decide +kernel
theorem dc_25_108 : am_dc 25 108 = some (.lload 9, 110, 0) := by decide +kernel
theorem dc_25_110 : am_dc 25 110 = some (.lconst 0, 111, 0) := by decide +kernel
theorem dc_25_111 : am_dc 25 111 = some (.lcmp, 112, 0) := by decide +kernel
theorem dc_25_112 : am_dc 25 112 = some (.ifCond .eq 16, 115, 128) := by decide +kernel
theorem dc_25_115 : am_dc 25 115 = some (.lload_n 3, 116, 0) := by decide +kernel
theorem dc_25_116 : am_dc 25 116 = some (.lload 9, 118, 0) := by decide +kernel
theorem dc_25_118 : am_dc 25 118 = some (.lmul, 119, 0) := by decide +kernel
theorem dc_25_119 : am_dc 25 119 = some (.lload 7, 121, 0) := by decide +kernel
theorem dc_25_121 : am_dc 25 121 = some (.lload 5, 123, 0) := by decide +kernel
theorem dc_25_123 : am_dc 25 123 = some (.lmul, 124, 0) := by decide +kernel
theorem dc_25_124 : am_dc 25 124 = some (.lcmp, 125, 0) := by decide +kernel
theorem dc_25_125 : am_dc 25 125 = some (.ifCond .le 10, 128, 135) := by decide +kernel
theorem dc_25_128 : am_dc 25 128 = some (.lload_n 3, 129, 0) := by decide +kernel
theorem dc_25_129 : am_dc 25 129 = some (.lstore 7, 131, 0) := by decide +kernel
theorem dc_25_131 : am_dc 25 131 = some (.lload 5, 133, 0) := by decide +kernel
theorem dc_25_133 : am_dc 25 133 = some (.lstore 9, 135, 0) := by decide +kernel
theorem dc_25_135 : am_dc 25 135 = some (.iinc 11 1, 138, 0) := by decide +kernel
theorem dc_25_138 : am_dc 25 138 = some (.goto (-111), 141, 27) := by decide +kernel
theorem dc_25_141 : am_dc 25 141 = some (.lconst 1, 142, 0) := by decide +kernel
theorem dc_25_142 : am_dc 25 142 = some (.lload 7, 144, 0) := by decide +kernel
theorem dc_25_144 : am_dc 25 144 = some (.invokestatic 136, 147, 0) := by decide +kernel
theorem dc_25_147 : am_dc 25 147 = some (.lload 9, 149, 0) := by decide +kernel
theorem dc_25_149 : am_dc 25 149 = some (.invokestatic 142, 152, 0) := by decide +kernel
theorem dc_25_152 : am_dc 25 152 = some (.invokestatic 146, 155, 0) := by decide +kernel
theorem dc_25_155 : am_dc 25 155 = some (.lstore 11, 157, 0) := by decide +kernel
theorem dc_25_157 : am_dc 25 157 = some (.aload_n 0, 158, 0) := by decide +kernel
theorem dc_25_158 : am_dc 25 158 = some (.getfield 37, 161, 0) := by decide +kernel
theorem dc_25_161 : am_dc 25 161 = some (.iload_n 2, 162, 0) := by decide +kernel
theorem dc_25_162 : am_dc 25 162 = some (.ifCond .eq 11, 165, 173) := by decide +kernel
theorem dc_25_165 : am_dc 25 165 = some (.iconst 2, 166, 0) := by decide +kernel
theorem dc_25_166 : am_dc 25 166 = some (.iload_n 1, 167, 0) := by decide +kernel
theorem dc_25_167 : am_dc 25 167 = some (.imul, 168, 0) := by decide +kernel
theorem dc_25_168 : am_dc 25 168 = some (.iconst 1, 169, 0) := by decide +kernel
theorem dc_25_169 : am_dc 25 169 = some (.iadd, 170, 0) := by decide +kernel
theorem dc_25_170 : am_dc 25 170 = some (.goto 6, 173, 176) := by decide +kernel
theorem dc_25_173 : am_dc 25 173 = some (.iconst 2, 174, 0) := by decide +kernel
theorem dc_25_174 : am_dc 25 174 = some (.iload_n 1, 175, 0) := by decide +kernel
theorem dc_25_175 : am_dc 25 175 = some (.imul, 176, 0) := by decide +kernel
theorem dc_25_176 : am_dc 25 176 = some (.lload 7, 178, 0) := by decide +kernel
theorem dc_25_178 : am_dc 25 178 = some (.lload 11, 180, 0) := by decide +kernel
theorem dc_25_180 : am_dc 25 180 = some (.ldiv, 181, 0) := by decide +kernel
theorem dc_25_181 : am_dc 25 181 = some (.lastore, 182, 0) := by decide +kernel
theorem dc_25_182 : am_dc 25 182 = some (.aload_n 0, 183, 0) := by decide +kernel
theorem dc_25_183 : am_dc 25 183 = some (.getfield 41, 186, 0) := by decide +kernel
theorem dc_25_186 : am_dc 25 186 = some (.iload_n 2, 187, 0) := by decide +kernel
theorem dc_25_187 : am_dc 25 187 = some (.ifCond .eq 11, 190, 198) := by decide +kernel
theorem dc_25_190 : am_dc 25 190 = some (.iconst 2, 191, 0) := by decide +kernel
theorem dc_25_191 : am_dc 25 191 = some (.iload_n 1, 192, 0) := by decide +kernel
theorem dc_25_192 : am_dc 25 192 = some (.imul, 193, 0) := by decide +kernel
theorem dc_25_193 : am_dc 25 193 = some (.iconst 1, 194, 0) := by decide +kernel
theorem dc_25_194 : am_dc 25 194 = some (.iadd, 195, 0) := by decide +kernel
theorem dc_25_195 : am_dc 25 195 = some (.goto 6, 198, 201) := by decide +kernel
theorem dc_25_198 : am_dc 25 198 = some (.iconst 2, 199, 0) := by decide +kernel
theorem dc_25_199 : am_dc 25 199 = some (.iload_n 1, 200, 0) := by decide +kernel
theorem dc_25_200 : am_dc 25 200 = some (.imul, 201, 0) := by decide +kernel
theorem dc_25_201 : am_dc 25 201 = some (.lload 9, 203, 0) := by decide +kernel
theorem dc_25_203 : am_dc 25 203 = some (.lload 11, 205, 0) := by decide +kernel
theorem dc_25_205 : am_dc 25 205 = some (.ldiv, 206, 0) := by decide +kernel
theorem dc_25_206 : am_dc 25 206 = some (.lastore, 207, 0) := by decide +kernel
theorem dc_25_207 : am_dc 25 207 = some (.return_, 208, 0) := by decide +kernel
theorem dc_26_0 : am_dc 26 0 = some (.lload_n 0, 1, 0) := by decide +kernel
theorem dc_26_1 : am_dc 26 1 = some (.lstore 4, 3, 0) := by decide +kernel
theorem dc_26_3 : am_dc 26 3 = some (.lload_n 2, 4, 0) := by decide +kernel
theorem dc_26_4 : am_dc 26 4 = some (.lstore 6, 6, 0) := by decide +kernel
theorem dc_26_6 : am_dc 26 6 = some (.iconst 0, 7, 0) := by decide +kernel
theorem dc_26_7 : am_dc 26 7 = some (.istore 8, 9, 0) := by decide +kernel
theorem dc_26_9 : am_dc 26 9 = some (.iload 8, 11, 0) := by decide +kernel
theorem dc_26_11 : am_dc 26 11 = some (.sipush 128, 14, 0) := by decide +kernel
theorem dc_26_14 : am_dc 26 14 = some (.if_icmp .ge 31, 17, 45) := by decide +kernel
theorem dc_26_17 : am_dc 26 17 = some (.lload 6, 19, 0) := by decide +kernel
theorem dc_26_19 : am_dc 26 19 = some (.lconst 0, 20, 0) := by decide +kernel
theorem dc_26_20 : am_dc 26 20 = some (.lcmp, 21, 0) := by decide +kernel
theorem dc_26_21 : am_dc 26 21 = some (.ifCond .eq 24, 24, 45) := by decide +kernel
theorem dc_26_24 : am_dc 26 24 = some (.lload 4, 26, 0) := by decide +kernel
theorem dc_26_26 : am_dc 26 26 = some (.lload 6, 28, 0) := by decide +kernel
theorem dc_26_28 : am_dc 26 28 = some (.lrem, 29, 0) := by decide +kernel
theorem dc_26_29 : am_dc 26 29 = some (.lstore 9, 31, 0) := by decide +kernel
theorem dc_26_31 : am_dc 26 31 = some (.lload 6, 33, 0) := by decide +kernel
theorem dc_26_33 : am_dc 26 33 = some (.lstore 4, 35, 0) := by decide +kernel
theorem dc_26_35 : am_dc 26 35 = some (.lload 9, 37, 0) := by decide +kernel
theorem dc_26_37 : am_dc 26 37 = some (.lstore 6, 39, 0) := by decide +kernel
theorem dc_26_39 : am_dc 26 39 = some (.iinc 8 1, 42, 0) := by decide +kernel
theorem dc_26_42 : am_dc 26 42 = some (.goto (-33), 45, 9) := by decide +kernel
theorem dc_26_45 : am_dc 26 45 = some (.lload 4, 47, 0) := by decide +kernel
theorem dc_26_47 : am_dc 26 47 = some (.lreturn, 48, 0) := by decide +kernel
theorem dc_27_0 : am_dc 27 0 = some (.iconst 0, 1, 0) := by decide +kernel
theorem dc_27_1 : am_dc 27 1 = some (.istore_n 1, 2, 0) := by decide +kernel
theorem dc_27_2 : am_dc 27 2 = some (.aload_n 0, 3, 0) := by decide +kernel
theorem dc_27_3 : am_dc 27 3 = some (.iconst 0, 4, 0) := by decide +kernel
theorem dc_27_4 : am_dc 27 4 = some (.putfield 46, 7, 0) := by decide +kernel
theorem dc_27_7 : am_dc 27 7 = some (.iconst 0, 8, 0) := by decide +kernel
theorem dc_27_8 : am_dc 27 8 = some (.istore_n 2, 9, 0) := by decide +kernel
theorem dc_27_9 : am_dc 27 9 = some (.iload_n 2, 10, 0) := by decide +kernel
theorem dc_27_10 : am_dc 27 10 = some (.aload_n 0, 11, 0) := by decide +kernel
theorem dc_27_11 : am_dc 27 11 = some (.getfield 31, 14, 0) := by decide +kernel
theorem dc_27_14 : am_dc 27 14 = some (.if_icmp .ge 45, 17, 59) := by decide +kernel
theorem dc_27_17 : am_dc 27 17 = some (.aload_n 0, 18, 0) := by decide +kernel
theorem dc_27_18 : am_dc 27 18 = some (.getfield 46, 21, 0) := by decide +kernel
