/-! the instructions of the methods -/
theorem dc_84_55 : am_dc 84 55 = some (.getfield 153, 58, 0) := by decide +kernel
theorem dc_84_58 : am_dc 84 58 = some (.iload_n 1, 59, 0) := by decide +kernel
theorem dc_84_59 : am_dc 84 59 = some (.iload_n 2, 60, 0) := by decide +kernel
theorem dc_84_60 : am_dc 84 60 = some (.iastore, 61, 0) := by decide +kernel
theorem dc_84_61 : am_dc 84 61 = some (.aload_n 0, 62, 0) := by decide +kernel
theorem dc_84_62 : am_dc 84 62 = some (.getfield 19, 65, 0) := by decide +kernel
theorem dc_84_65 : am_dc 84 65 = some (.iload_n 1, 66, 0) := by decide +kernel
theorem dc_84_66 : am_dc 84 66 = some (.iload_n 2, 67, 0) := by decide +kernel
theorem dc_84_67 : am_dc 84 67 = some (.ifCond .ne 7, 70, 74) := by decide +kernel
theorem dc_84_70 : am_dc 84 70 = some (.iconst 3, 71, 0) := by decide +kernel
theorem dc_84_71 : am_dc 84 71 = some (.goto 4, 74, 75) := by decide +kernel
theorem dc_84_74 : am_dc 84 74 = some (.iconst 4, 75, 0) := by decide +kernel
theorem dc_84_75 : am_dc 84 75 = some (.invokevirtual 156, 78, 0) := by decide +kernel
theorem dc_84_78 : am_dc 84 78 = some (.aload_n 0, 79, 0) := by decide +kernel
theorem dc_84_79 : am_dc 84 79 = some (.invokevirtual 159, 82, 0) := by decide +kernel
theorem dc_84_82 : am_dc 84 82 = some (.ireturn, 83, 0) := by decide +kernel
theorem dc_85_0 : am_dc 85 0 = some (.iload_n 1, 1, 0) := by decide +kernel
theorem dc_85_1 : am_dc 85 1 = some (.iload_n 2, 2, 0) := by decide +kernel
theorem dc_85_2 : am_dc 85 2 = some (.invokestatic 91, 5, 0) := by decide +kernel
theorem dc_85_5 : am_dc 85 5 = some (.lookupswitch 67 #[(1, 27), (2, 47)], 32, 0) := by decide +kernel
theorem dc_85_32 : am_dc 85 32 = some (.iload_n 3, 33, 0) := by decide +kernel
theorem dc_85_33 : am_dc 85 33 = some (.ifCond .ne 17, 36, 50) := by decide +kernel
theorem dc_85_36 : am_dc 85 36 = some (.aload_n 0, 37, 0) := by decide +kernel
theorem dc_85_37 : am_dc 85 37 = some (.getfield 11, 40, 0) := by decide +kernel
theorem dc_85_40 : am_dc 85 40 = some (.iload_n 2, 41, 0) := by decide +kernel
theorem dc_85_41 : am_dc 85 41 = some (.aaload, 42, 0) := by decide +kernel
theorem dc_85_42 : am_dc 85 42 = some (.getfield 122, 45, 0) := by decide +kernel
theorem dc_85_45 : am_dc 85 45 = some (.iload_n 3, 46, 0) := by decide +kernel
theorem dc_85_46 : am_dc 85 46 = some (.iaload, 47, 0) := by decide +kernel
theorem dc_85_47 : am_dc 85 47 = some (.goto 4, 50, 51) := by decide +kernel
theorem dc_85_50 : am_dc 85 50 = some (.iconst 0, 51, 0) := by decide +kernel
theorem dc_85_51 : am_dc 85 51 = some (.ireturn, 52, 0) := by decide +kernel
theorem dc_85_52 : am_dc 85 52 = some (.iload_n 3, 53, 0) := by decide +kernel
theorem dc_85_53 : am_dc 85 53 = some (.ifCond .ne 7, 56, 60) := by decide +kernel
theorem dc_85_56 : am_dc 85 56 = some (.iconst 0, 57, 0) := by decide +kernel
theorem dc_85_57 : am_dc 85 57 = some (.goto 14, 60, 71) := by decide +kernel
theorem dc_85_60 : am_dc 85 60 = some (.aload_n 0, 61, 0) := by decide +kernel
theorem dc_85_61 : am_dc 85 61 = some (.getfield 11, 64, 0) := by decide +kernel
theorem dc_85_64 : am_dc 85 64 = some (.iload_n 2, 65, 0) := by decide +kernel
theorem dc_85_65 : am_dc 85 65 = some (.aaload, 66, 0) := by decide +kernel
theorem dc_85_66 : am_dc 85 66 = some (.getfield 122, 69, 0) := by decide +kernel
theorem dc_85_69 : am_dc 85 69 = some (.iload_n 3, 70, 0) := by decide +kernel
theorem dc_85_70 : am_dc 85 70 = some (.iaload, 71, 0) := by decide +kernel
theorem dc_85_71 : am_dc 85 71 = some (.ireturn, 72, 0) := by decide +kernel
theorem dc_85_72 : am_dc 85 72 = some (.aload_n 0, 73, 0) := by decide +kernel
theorem dc_85_73 : am_dc 85 73 = some (.iload_n 1, 74, 0) := by decide +kernel
theorem dc_85_74 : am_dc 85 74 = some (.iload_n 2, 75, 0) := by decide +kernel
theorem dc_85_75 : am_dc 85 75 = some (.invokevirtual 125, 78, 0) := by decide +kernel
theorem dc_85_78 : am_dc 85 78 = some (.ifCond .eq 16, 81, 94) := by decide +kernel
theorem dc_85_81 : am_dc 85 81 = some (.aload_n 0, 82, 0) := by decide +kernel
theorem dc_85_82 : am_dc 85 82 = some (.getfield 34, 85, 0) := by decide +kernel
theorem dc_85_85 : am_dc 85 85 = some (.iload_n 2, 86, 0) := by decide +kernel
theorem dc_85_86 : am_dc 85 86 = some (.iconst 4, 87, 0) := by decide +kernel
theorem dc_85_87 : am_dc 85 87 = some (.imul, 88, 0) := by decide +kernel
theorem dc_85_88 : am_dc 85 88 = some (.iload_n 3, 89, 0) := by decide +kernel
theorem dc_85_89 : am_dc 85 89 = some (.iadd, 90, 0) := by decide +kernel
theorem dc_85_90 : am_dc 85 90 = some (.iaload, 91, 0) := by decide +kernel
theorem dc_85_91 : am_dc 85 91 = some (.goto 14, 94, 105) := by decide +kernel
theorem dc_85_94 : am_dc 85 94 = some (.aload_n 0, 95, 0) := by decide +kernel
theorem dc_85_95 : am_dc 85 95 = some (.getfield 11, 98, 0) := by decide +kernel
theorem dc_85_98 : am_dc 85 98 = some (.iload_n 2, 99, 0) := by decide +kernel
theorem dc_85_99 : am_dc 85 99 = some (.aaload, 100, 0) := by decide +kernel
theorem dc_85_100 : am_dc 85 100 = some (.getfield 122, 103, 0) := by decide +kernel
theorem dc_85_103 : am_dc 85 103 = some (.iload_n 3, 104, 0) := by decide +kernel
theorem dc_85_104 : am_dc 85 104 = some (.iaload, 105, 0) := by decide +kernel
theorem dc_85_105 : am_dc 85 105 = some (.ireturn, 106, 0) := by decide +kernel
theorem dc_86_0 : am_dc 86 0 = some (.iload_n 0, 1, 0) := by decide +kernel
theorem dc_86_1 : am_dc 86 1 = some (.iconst 2, 2, 0) := by decide +kernel
theorem dc_86_2 : am_dc 86 2 = some (.iload_n 1, 3, 0) := by decide +kernel
theorem dc_86_3 : am_dc 86 3 = some (.imul, 4, 0) := by decide +kernel
theorem dc_86_4 : am_dc 86 4 = some (.ishr, 5, 0) := by decide +kernel
theorem dc_86_5 : am_dc 86 5 = some (.iconst 3, 6, 0) := by decide +kernel
theorem dc_86_6 : am_dc 86 6 = some (.iand, 7, 0) := by decide +kernel
theorem dc_86_7 : am_dc 86 7 = some (.ireturn, 8, 0) := by decide +kernel
theorem dc_87_0 : am_dc 87 0 = some (.aload_n 0, 1, 0) := by decide +kernel
theorem dc_87_1 : am_dc 87 1 = some (.getfield 21, 4, 0) := by decide +kernel
theorem dc_87_4 : am_dc 87 4 = some (.iload_n 2, 5, 0) := by decide +kernel
theorem dc_87_5 : am_dc 87 5 = some (.iaload, 6, 0) := by decide +kernel
theorem dc_87_6 : am_dc 87 6 = some (.istore_n 3, 7, 0) := by decide +kernel
theorem dc_87_7 : am_dc 87 7 = some (.iload_n 3, 8, 0) := by decide +kernel
theorem dc_87_8 : am_dc 87 8 = some (.ifCond .lt 18, 11, 26) := by decide +kernel
theorem dc_87_11 : am_dc 87 11 = some (.iload_n 1, 12, 0) := by decide +kernel
theorem dc_87_12 : am_dc 87 12 = some (.iconst 2, 13, 0) := by decide +kernel
theorem dc_87_13 : am_dc 87 13 = some (.iload_n 3, 14, 0) := by decide +kernel
theorem dc_87_14 : am_dc 87 14 = some (.imul, 15, 0) := by decide +kernel
theorem dc_87_15 : am_dc 87 15 = some (.ishr, 16, 0) := by decide +kernel
theorem dc_87_16 : am_dc 87 16 = some (.iconst 3, 17, 0) := by decide +kernel
theorem dc_87_17 : am_dc 87 17 = some (.iand, 18, 0) := by decide +kernel
theorem dc_87_18 : am_dc 87 18 = some (.iconst 1, 19, 0) := by decide +kernel
theorem dc_87_19 : am_dc 87 19 = some (.if_icmp .ne 7, 22, 26) := by decide +kernel
theorem dc_87_22 : am_dc 87 22 = some (.iconst 1, 23, 0) := by decide +kernel
theorem dc_87_23 : am_dc 87 23 = some (.goto 4, 26, 27) := by decide +kernel
theorem dc_87_26 : am_dc 87 26 = some (.iconst 0, 27, 0) := by decide +kernel
theorem dc_87_27 : am_dc 87 27 = some (.ireturn, 28, 0) := by decide +kernel
theorem dc_88_0 : am_dc 88 0 = some (.aload_n 0, 1, 0) := by decide +kernel
theorem dc_88_1 : am_dc 88 1 = some (.getfield 30, 4, 0) := by decide +kernel
theorem dc_88_4 : am_dc 88 4 = some (.bipush 10, 6, 0) := by decide +kernel
theorem dc_88_6 : am_dc 88 6 = some (.if_icmp .ge 45, 9, 51) := by decide +kernel
theorem dc_88_9 : am_dc 88 9 = some (.aload_n 0, 10, 0) := by decide +kernel
theorem dc_88_10 : am_dc 88 10 = some (.getfield 18, 13, 0) := by decide +kernel
theorem dc_88_13 : am_dc 88 13 = some (.aload_n 0, 14, 0) := by decide +kernel
theorem dc_88_14 : am_dc 88 14 = some (.getfield 30, 17, 0) := by decide +kernel
theorem dc_88_17 : am_dc 88 17 = some (.iload_n 1, 18, 0) := by decide +kernel
theorem dc_88_18 : am_dc 88 18 = some (.iastore, 19, 0) := by decide +kernel
theorem dc_88_19 : am_dc 88 19 = some (.aload_n 0, 20, 0) := by decide +kernel
theorem dc_88_20 : am_dc 88 20 = some (.getfield 21, 23, 0) := by decide +kernel
theorem dc_88_23 : am_dc 88 23 = some (.aload_n 0, 24, 0) := by decide +kernel
theorem dc_88_24 : am_dc 88 24 = some (.getfield 30, 27, 0) := by decide +kernel
theorem dc_88_27 : am_dc 88 27 = some (.aload_n 0, 28, 0) := by decide +kernel
theorem dc_88_28 : am_dc 88 28 = some (.getfield 9, 31, 0) := by decide +kernel
theorem dc_88_31 : am_dc 88 31 = some (.iload_n 1, 32, 0) := by decide +kernel
theorem dc_88_32 : am_dc 88 32 = some (.iaload, 33, 0) := by decide +kernel
theorem dc_88_33 : am_dc 88 33 = some (.iastore, 34, 0) := by decide +kernel
theorem dc_88_34 : am_dc 88 34 = some (.aload_n 0, 35, 0) := by decide +kernel
theorem dc_88_35 : am_dc 88 35 = some (.dup, 36, 0) := by decide +kernel
theorem dc_88_36 : am_dc 88 36 = some (.getfield 30, 39, 0) := by decide +kernel
theorem dc_88_39 : am_dc 88 39 = some (.iconst 1, 40, 0) := by decide +kernel
theorem dc_88_40 : am_dc 88 40 = some (.iadd, 41, 0) := by decide +kernel
theorem dc_88_41 : am_dc 88 41 = some (.putfield 30, 44, 0) := by decide +kernel
theorem dc_88_44 : am_dc 88 44 = some (.aload_n 0, 45, 0) := by decide +kernel
theorem dc_88_45 : am_dc 88 45 = some (.getfield 9, 48, 0) := by decide +kernel
theorem dc_88_48 : am_dc 88 48 = some (.iload_n 1, 49, 0) := by decide +kernel
theorem dc_88_49 : am_dc 88 49 = some (.iload_n 2, 50, 0) := by decide +kernel
theorem dc_88_50 : am_dc 88 50 = some (.iastore, 51, 0) := by decide +kernel
theorem dc_88_51 : am_dc 88 51 = some (.return_, 52, 0) := by decide +kernel
theorem dc_89_0 : am_dc 89 0 = some (.aload_n 0, 1, 0) := by decide +kernel
theorem dc_89_1 : am_dc 89 1 = some (.getfield 12, 4, 0) := by decide +kernel
theorem dc_89_4 : am_dc 89 4 = some (.getfield 319, 7, 0) := by decide +kernel
theorem dc_89_7 : am_dc 89 7 = some (.aload_n 0, 8, 0) := by decide +kernel
theorem dc_89_8 : am_dc 89 8 = some (.getfield 19, 11, 0) := by decide +kernel
theorem dc_89_11 : am_dc 89 11 = some (.aload_n 0, 12, 0) := by decide +kernel
theorem dc_89_12 : am_dc 89 12 = some (.getfield 12, 15, 0) := by decide +kernel
theorem dc_89_15 : am_dc 89 15 = some (.invokevirtual 198, 18, 0) := by decide +kernel
theorem dc_89_18 : am_dc 89 18 = some (.iaload, 19, 0) := by decide +kernel
theorem dc_89_19 : am_dc 89 19 = some (.ireturn, 20, 0) := by decide +kernel
theorem dc_90_0 : am_dc 90 0 = some (.iconst 0, 1, 0) := by decide +kernel
theorem dc_90_1 : am_dc 90 1 = some (.istore_n 2, 2, 0) := by decide +kernel
theorem dc_90_2 : am_dc 90 2 = some (.iconst 0, 3, 0) := by decide +kernel
theorem dc_90_3 : am_dc 90 3 = some (.istore_n 3, 4, 0) := by decide +kernel
theorem dc_90_4 : am_dc 90 4 = some (.iload_n 3, 5, 0) := by decide +kernel
theorem dc_90_5 : am_dc 90 5 = some (.aload_n 1, 6, 0) := by decide +kernel
theorem dc_90_6 : am_dc 90 6 = some (.getfield 40, 9, 0) := by decide +kernel
theorem dc_90_9 : am_dc 90 9 = some (.if_icmp .ge 33, 12, 42) := by decide +kernel
theorem dc_90_12 : am_dc 90 12 = some (.aload_n 0, 13, 0) := by decide +kernel
theorem dc_90_13 : am_dc 90 13 = some (.iload_n 3, 14, 0) := by decide +kernel
theorem dc_90_14 : am_dc 90 14 = some (.invokevirtual 45, 17, 0) := by decide +kernel
theorem dc_90_17 : am_dc 90 17 = some (.ifCond .eq 19, 20, 36) := by decide +kernel
theorem dc_90_20 : am_dc 90 20 = some (.iload_n 2, 21, 0) := by decide +kernel
theorem dc_90_21 : am_dc 90 21 = some (.aload_n 1, 22, 0) := by decide +kernel
theorem dc_90_22 : am_dc 90 22 = some (.iload_n 3, 23, 0) := by decide +kernel
theorem dc_90_23 : am_dc 90 23 = some (.aload_n 0, 24, 0) := by decide +kernel
theorem dc_90_24 : am_dc 90 24 = some (.getfield 15, 27, 0) := by decide +kernel
theorem dc_90_27 : am_dc 90 27 = some (.iload_n 3, 28, 0) := by decide +kernel
theorem dc_90_28 : am_dc 90 28 = some (.iaload, 29, 0) := by decide +kernel
theorem dc_90_29 : am_dc 90 29 = some (.invokevirtual 57, 32, 0) := by decide +kernel
theorem dc_90_32 : am_dc 90 32 = some (.invokestatic 61, 35, 0) := by decide +kernel
theorem dc_90_35 : am_dc 90 35 = some (.istore_n 2, 36, 0) := by decide +kernel
theorem dc_90_36 : am_dc 90 36 = some (.iinc 3 1, 39, 0) := by decide +kernel
theorem dc_90_39 : am_dc 90 39 = some (.goto (-35), 42, 4) := by decide +kernel
theorem dc_90_42 : am_dc 90 42 = some (.iload_n 2, 43, 0) := by decide +kernel
theorem dc_90_43 : am_dc 90 43 = some (.ireturn, 44, 0) := by decide +kernel
theorem dc_91_0 : am_dc 91 0 = some (.aload_n 0, 1, 0) := by decide +kernel
theorem dc_91_1 : am_dc 91 1 = some (.getfield 31, 4, 0) := by decide +kernel
theorem dc_91_4 : am_dc 91 4 = some (.iload_n 1, 5, 0) := by decide +kernel
theorem dc_91_5 : am_dc 91 5 = some (.iconst 4, 6, 0) := by decide +kernel
theorem dc_91_6 : am_dc 91 6 = some (.imul, 7, 0) := by decide +kernel
theorem dc_91_7 : am_dc 91 7 = some (.iload_n 2, 8, 0) := by decide +kernel
theorem dc_91_8 : am_dc 91 8 = some (.iadd, 9, 0) := by decide +kernel
theorem dc_91_9 : am_dc 91 9 = some (.iaload, 10, 0) := by decide +kernel
theorem dc_91_10 : am_dc 91 10 = some (.ireturn, 11, 0) := by decide +kernel
theorem dc_92_0 : am_dc 92 0 = some (.aload_n 0, 1, 0) := by decide +kernel
theorem dc_92_1 : am_dc 92 1 = some (.getfield 12, 4, 0) := by decide +kernel
theorem dc_92_4 : am_dc 92 4 = some (.iload_n 1, 5, 0) := by decide +kernel
theorem dc_92_5 : am_dc 92 5 = some (.invokevirtual 94, 8, 0) := by decide +kernel
theorem dc_92_8 : am_dc 92 8 = some (.ifCond .ne 5, 11, 13) := by decide +kernel
theorem dc_92_11 : am_dc 92 11 = some (.iconst (-1), 12, 0) := by decide +kernel
theorem dc_92_12 : am_dc 92 12 = some (.ireturn, 13, 0) := by decide +kernel
theorem dc_92_13 : am_dc 92 13 = some (.aload_n 0, 14, 0) := by decide +kernel
theorem dc_92_14 : am_dc 92 14 = some (.getfield 12, 17, 0) := by decide +kernel
theorem dc_92_17 : am_dc 92 17 = some (.getfield 97, 20, 0) := by decide +kernel
theorem dc_92_20 : am_dc 92 20 = some (.iload_n 1, 21, 0) := by decide +kernel
theorem dc_92_21 : am_dc 92 21 = some (.aaload, 22, 0) := by decide +kernel
theorem dc_92_22 : am_dc 92 22 = some (.astore_n 3, 23, 0) := by decide +kernel
theorem dc_92_23 : am_dc 92 23 = some (.aload_n 3, 24, 0) := by decide +kernel
theorem dc_92_24 : am_dc 92 24 = some (.invokevirtual 161, 27, 0) := by decide +kernel
theorem dc_92_27 : am_dc 92 27 = some (.ifCond .eq 56, 30, 83) := by decide +kernel
theorem dc_92_30 : am_dc 92 30 = some (.aload_n 0, 31, 0) := by decide +kernel
theorem dc_92_31 : am_dc 92 31 = some (.getfield 19, 34, 0) := by decide +kernel
theorem dc_92_34 : am_dc 92 34 = some (.getfield 139, 37, 0) := by decide +kernel
theorem dc_92_37 : am_dc 92 37 = some (.iload_n 1, 38, 0) := by decide +kernel
theorem dc_92_38 : am_dc 92 38 = some (.iaload, 39, 0) := by decide +kernel
theorem dc_92_39 : am_dc 92 39 = some (.ifCond .ne 44, 42, 83) := by decide +kernel
theorem dc_92_42 : am_dc 92 42 = some (.aload_n 0, 43, 0) := by decide +kernel
theorem dc_92_43 : am_dc 92 43 = some (.getfield 12, 46, 0) := by decide +kernel
theorem dc_92_46 : am_dc 92 46 = some (.aload_n 0, 47, 0) := by decide +kernel
theorem dc_92_47 : am_dc 92 47 = some (.getfield 19, 50, 0) := by decide +kernel
theorem dc_92_50 : am_dc 92 50 = some (.aload_n 0, 51, 0) := by decide +kernel
theorem dc_92_51 : am_dc 92 51 = some (.getfield 12, 54, 0) := by decide +kernel
theorem dc_92_54 : am_dc 92 54 = some (.invokevirtual 142, 57, 0) := by decide +kernel
theorem dc_92_57 : am_dc 92 57 = some (.iload_n 1, 58, 0) := by decide +kernel
theorem dc_92_58 : am_dc 92 58 = some (.invokevirtual 146, 61, 0) := by decide +kernel
theorem dc_92_61 : am_dc 92 61 = some (.ifCond .eq 22, 64, 83) := by decide +kernel
theorem dc_92_64 : am_dc 92 64 = some (.iload_n 2, 65, 0) := by decide +kernel
theorem dc_92_65 : am_dc 92 65 = some (.ifCond .ne 14, 68, 79) := by decide +kernel
theorem dc_92_68 : am_dc 92 68 = some (.aload_n 3, 69, 0) := by decide +kernel
theorem dc_92_69 : am_dc 92 69 = some (.getfield 126, 72, 0) := by decide +kernel
theorem dc_92_72 : am_dc 92 72 = some (.iconst 0, 73, 0) := by decide +kernel
theorem dc_92_73 : am_dc 92 73 = some (.iaload, 74, 0) := by decide +kernel
theorem dc_92_74 : am_dc 92 74 = some (.bipush 100, 76, 0) := by decide +kernel
theorem dc_92_76 : am_dc 92 76 = some (.if_icmp .ge 7, 79, 83) := by decide +kernel
theorem dc_92_79 : am_dc 92 79 = some (.iconst 1, 80, 0) := by decide +kernel
theorem dc_92_80 : am_dc 92 80 = some (.goto 4, 83, 84) := by decide +kernel
theorem dc_92_83 : am_dc 92 83 = some (.iconst 0, 84, 0) := by decide +kernel
theorem dc_92_84 : am_dc 92 84 = some (.istore 4, 86, 0) := by decide +kernel
theorem dc_92_86 : am_dc 92 86 = some (.iload 4, 88, 0) := by decide +kernel
theorem dc_92_88 : am_dc 92 88 = some (.ifCond .ne 6, 91, 94) := by decide +kernel
theorem dc_92_91 : am_dc 92 91 = some (.bipush (-3), 93, 0) := by decide +kernel
theorem dc_92_93 : am_dc 92 93 = some (.ireturn, 94, 0) := by decide +kernel
theorem dc_92_94 : am_dc 92 94 = some (.aload_n 0, 95, 0) := by decide +kernel
theorem dc_92_95 : am_dc 92 95 = some (.getfield 19, 98, 0) := by decide +kernel
theorem dc_92_98 : am_dc 92 98 = some (.iload_n 1, 99, 0) := by decide +kernel
theorem dc_92_99 : am_dc 92 99 = some (.iload_n 2, 100, 0) := by decide +kernel
theorem dc_92_100 : am_dc 92 100 = some (.ifCond .eq 7, 103, 107) := by decide +kernel
theorem dc_92_103 : am_dc 92 103 = some (.iconst 1, 104, 0) := by decide +kernel
theorem dc_92_104 : am_dc 92 104 = some (.goto 4, 107, 108) := by decide +kernel
theorem dc_92_107 : am_dc 92 107 = some (.iconst 2, 108, 0) := by decide +kernel
theorem dc_92_108 : am_dc 92 108 = some (.invokevirtual 156, 111, 0) := by decide +kernel
theorem dc_92_111 : am_dc 92 111 = some (.iconst 1, 112, 0) := by decide +kernel
theorem dc_92_112 : am_dc 92 112 = some (.ireturn, 113, 0) := by decide +kernel
theorem dc_93_0 : am_dc 93 0 = some (.aload_n 0, 1, 0) := by decide +kernel
theorem dc_93_1 : am_dc 93 1 = some (.getfield 19, 4, 0) := by decide +kernel
theorem dc_93_4 : am_dc 93 4 = some (.getfield 165, 7, 0) := by decide +kernel
theorem dc_93_7 : am_dc 93 7 = some (.ifCond .ne 6, 10, 13) := by decide +kernel
theorem dc_93_10 : am_dc 93 10 = some (.bipush (-3), 12, 0) := by decide +kernel
theorem dc_93_12 : am_dc 93 12 = some (.ireturn, 13, 0) := by decide +kernel
theorem dc_93_13 : am_dc 93 13 = some (.aload_n 0, 14, 0) := by decide +kernel
theorem dc_93_14 : am_dc 93 14 = some (.getfield 19, 17, 0) := by decide +kernel
theorem dc_93_17 : am_dc 93 17 = some (.invokevirtual 168, 20, 0) := by decide +kernel
theorem dc_93_20 : am_dc 93 20 = some (.aload_n 0, 21, 0) := by decide +kernel
theorem dc_93_21 : am_dc 93 21 = some (.getfield 19, 24, 0) := by decide +kernel
theorem dc_93_24 : am_dc 93 24 = some (.getfield 165, 27, 0) := by decide +kernel
theorem dc_93_27 : am_dc 93 27 = some (.ireturn, 28, 0) := by decide +kernel
theorem dc_94_0 : am_dc 94 0 = some (.aload_n 0, 1, 0) := by decide +kernel
theorem dc_94_1 : am_dc 94 1 = some (.getfield 30, 4, 0) := by decide +kernel
theorem dc_94_4 : am_dc 94 4 = some (.ifCond .le 36, 7, 40) := by decide +kernel
theorem dc_94_7 : am_dc 94 7 = some (.aload_n 0, 8, 0) := by decide +kernel
theorem dc_94_8 : am_dc 94 8 = some (.dup, 9, 0) := by decide +kernel
theorem dc_94_9 : am_dc 94 9 = some (.getfield 30, 12, 0) := by decide +kernel
theorem dc_94_12 : am_dc 94 12 = some (.iconst 1, 13, 0) := by decide +kernel
theorem dc_94_13 : am_dc 94 13 = some (.isub, 14, 0) := by decide +kernel
theorem dc_94_14 : am_dc 94 14 = some (.putfield 30, 17, 0) := by decide +kernel
theorem dc_94_17 : am_dc 94 17 = some (.aload_n 0, 18, 0) := by decide +kernel
theorem dc_94_18 : am_dc 94 18 = some (.getfield 9, 21, 0) := by decide +kernel
theorem dc_94_21 : am_dc 94 21 = some (.aload_n 0, 22, 0) := by decide +kernel
theorem dc_94_22 : am_dc 94 22 = some (.getfield 18, 25, 0) := by decide +kernel
theorem dc_94_25 : am_dc 94 25 = some (.aload_n 0, 26, 0) := by decide +kernel
theorem dc_94_26 : am_dc 94 26 = some (.getfield 30, 29, 0) := by decide +kernel
theorem dc_94_29 : am_dc 94 29 = some (.iaload, 30, 0) := by decide +kernel
theorem dc_94_30 : am_dc 94 30 = some (.aload_n 0, 31, 0) := by decide +kernel
theorem dc_94_31 : am_dc 94 31 = some (.getfield 21, 34, 0) := by decide +kernel
theorem dc_94_34 : am_dc 94 34 = some (.aload_n 0, 35, 0) := by decide +kernel
theorem dc_94_35 : am_dc 94 35 = some (.getfield 30, 38, 0) := by decide +kernel
theorem dc_94_38 : am_dc 94 38 = some (.iaload, 39, 0) := by decide +kernel
theorem dc_94_39 : am_dc 94 39 = some (.iastore, 40, 0) := by decide +kernel
theorem dc_94_40 : am_dc 94 40 = some (.return_, 41, 0) := by decide +kernel
theorem dc_95_0 : am_dc 95 0 = some (.iload_n 1, 1, 0) := by decide +kernel
theorem dc_95_1 : am_dc 95 1 = some (.tableswitch 78 0 3 #[31, 39, 44, 70], 32, 0) := by decide +kernel
theorem dc_95_32 : am_dc 95 32 = some (.aload_n 0, 33, 0) := by decide +kernel
theorem dc_95_33 : am_dc 95 33 = some (.getfield 19, 36, 0) := by decide +kernel
theorem dc_95_36 : am_dc 95 36 = some (.invokevirtual 171, 39, 0) := by decide +kernel
theorem dc_95_39 : am_dc 95 39 = some (.ireturn, 40, 0) := by decide +kernel
theorem dc_95_40 : am_dc 95 40 = some (.aload_n 0, 41, 0) := by decide +kernel
theorem dc_95_41 : am_dc 95 41 = some (.invokevirtual 159, 44, 0) := by decide +kernel
theorem dc_95_44 : am_dc 95 44 = some (.ireturn, 45, 0) := by decide +kernel
theorem dc_95_45 : am_dc 95 45 = some (.aload_n 0, 46, 0) := by decide +kernel
theorem dc_95_46 : am_dc 95 46 = some (.getfield 12, 49, 0) := by decide +kernel
theorem dc_95_49 : am_dc 95 49 = some (.aload_n 0, 50, 0) := by decide +kernel
theorem dc_95_50 : am_dc 95 50 = some (.getfield 12, 53, 0) := by decide +kernel
theorem dc_95_53 : am_dc 95 53 = some (.aload_n 0, 54, 0) := by decide +kernel
theorem dc_95_54 : am_dc 95 54 = some (.getfield 19, 57, 0) := by decide +kernel
theorem dc_95_57 : am_dc 95 57 = some (.aload_n 0, 58, 0) := by decide +kernel
theorem dc_95_58 : am_dc 95 58 = some (.getfield 12, 61, 0) := by decide +kernel
theorem dc_95_61 : am_dc 95 61 = some (.invokevirtual 142, 64, 0) := by decide +kernel
theorem dc_95_64 : am_dc 95 64 = some (.invokevirtual 174, 67, 0) := by decide +kernel
theorem dc_95_67 : am_dc 95 67 = some (.invokevirtual 178, 70, 0) := by decide +kernel
theorem dc_95_70 : am_dc 95 70 = some (.ireturn, 71, 0) := by decide +kernel
theorem dc_95_71 : am_dc 95 71 = some (.aload_n 0, 72, 0) := by decide +kernel
theorem dc_95_72 : am_dc 95 72 = some (.getfield 19, 75, 0) := by decide +kernel
theorem dc_95_75 : am_dc 95 75 = some (.getfield 165, 78, 0) := by decide +kernel
theorem dc_95_78 : am_dc 95 78 = some (.ireturn, 79, 0) := by decide +kernel
theorem dc_95_79 : am_dc 95 79 = some (.iconst (-1), 80, 0) := by decide +kernel
theorem dc_95_80 : am_dc 95 80 = some (.ireturn, 81, 0) := by decide +kernel
theorem dc_96_0 : am_dc 96 0 = some (.iconst 0, 1, 0) := by decide +kernel
theorem dc_96_1 : am_dc 96 1 = some (.istore_n 1, 2, 0) := by decide +kernel
theorem dc_96_2 : am_dc 96 2 = some (.iconst 4, 3, 0) := by decide +kernel
theorem dc_96_3 : am_dc 96 3 = some (.istore_n 2, 4, 0) := by decide +kernel
theorem dc_96_4 : am_dc 96 4 = some (.iload_n 2, 5, 0) := by decide +kernel
theorem dc_96_5 : am_dc 96 5 = some (.ifCond .lt 20, 8, 25) := by decide +kernel
theorem dc_96_8 : am_dc 96 8 = some (.iload_n 1, 9, 0) := by decide +kernel
theorem dc_96_9 : am_dc 96 9 = some (.iconst 5, 10, 0) := by decide +kernel
theorem dc_96_10 : am_dc 96 10 = some (.imul, 11, 0) := by decide +kernel
theorem dc_96_11 : am_dc 96 11 = some (.aload_n 0, 12, 0) := by decide +kernel
theorem dc_96_12 : am_dc 96 12 = some (.getfield 9, 15, 0) := by decide +kernel
theorem dc_96_15 : am_dc 96 15 = some (.iload_n 2, 16, 0) := by decide +kernel
theorem dc_96_16 : am_dc 96 16 = some (.iaload, 17, 0) := by decide +kernel
theorem dc_96_17 : am_dc 96 17 = some (.iadd, 18, 0) := by decide +kernel
theorem dc_96_18 : am_dc 96 18 = some (.istore_n 1, 19, 0) := by decide +kernel
theorem dc_96_19 : am_dc 96 19 = some (.iinc 2 (-1), 22, 0) := by decide +kernel
theorem dc_96_22 : am_dc 96 22 = some (.goto (-18), 25, 4) := by decide +kernel
theorem dc_96_25 : am_dc 96 25 = some (.iload_n 1, 26, 0) := by decide +kernel
theorem dc_96_26 : am_dc 96 26 = some (.ireturn, 27, 0) := by decide +kernel
theorem dc_97_0 : am_dc 97 0 = some (.aload_n 0, 1, 0) := by decide +kernel
theorem dc_97_1 : am_dc 97 1 = some (.getfield 12, 4, 0) := by decide +kernel
theorem dc_97_4 : am_dc 97 4 = some (.aload_n 0, 5, 0) := by decide +kernel
theorem dc_97_5 : am_dc 97 5 = some (.getfield 19, 8, 0) := by decide +kernel
theorem dc_97_8 : am_dc 97 8 = some (.aload_n 0, 9, 0) := by decide +kernel
theorem dc_97_9 : am_dc 97 9 = some (.getfield 12, 12, 0) := by decide +kernel
theorem dc_97_12 : am_dc 97 12 = some (.invokevirtual 142, 15, 0) := by decide +kernel
theorem dc_97_15 : am_dc 97 15 = some (.invokevirtual 181, 18, 0) := by decide +kernel
theorem dc_97_18 : am_dc 97 18 = some (.lreturn, 19, 0) := by decide +kernel
theorem dc_98_0 : am_dc 98 0 = some (.lconst 1, 1, 0) := by decide +kernel
theorem dc_98_1 : am_dc 98 1 = some (.lstore_n 2, 2, 0) := by decide +kernel
theorem dc_98_2 : am_dc 98 2 = some (.iconst 0, 3, 0) := by decide +kernel
theorem dc_98_3 : am_dc 98 3 = some (.istore 4, 5, 0) := by decide +kernel
theorem dc_98_5 : am_dc 98 5 = some (.iload 4, 7, 0) := by decide +kernel
theorem dc_98_7 : am_dc 98 7 = some (.aload_n 0, 8, 0) := by decide +kernel
theorem dc_98_8 : am_dc 98 8 = some (.getfield 44, 11, 0) := by decide +kernel
theorem dc_98_11 : am_dc 98 11 = some (.if_icmp .ge 20, 14, 31) := by decide +kernel
theorem dc_98_14 : am_dc 98 14 = some (.lload_n 2, 15, 0) := by decide +kernel
theorem dc_98_15 : am_dc 98 15 = some (.aload_n 0, 16, 0) := by decide +kernel
theorem dc_98_16 : am_dc 98 16 = some (.iload_n 1, 17, 0) := by decide +kernel
theorem dc_98_17 : am_dc 98 17 = some (.iload 4, 19, 0) := by decide +kernel
theorem dc_98_19 : am_dc 98 19 = some (.invokevirtual 128, 22, 0) := by decide +kernel
theorem dc_98_22 : am_dc 98 22 = some (.i2l, 23, 0) := by decide +kernel
theorem dc_98_23 : am_dc 98 23 = some (.lmul, 24, 0) := by decide +kernel
theorem dc_98_24 : am_dc 98 24 = some (.lstore_n 2, 25, 0) := by decide +kernel
theorem dc_98_25 : am_dc 98 25 = some (.iinc 4 1, 28, 0) := by decide +kernel
theorem dc_98_28 : am_dc 98 28 = some (.goto (-23), 31, 5) := by decide +kernel
theorem dc_98_31 : am_dc 98 31 = some (.lload_n 2, 32, 0) := by decide +kernel
theorem dc_98_32 : am_dc 98 32 = some (.lreturn, 33, 0) := by decide +kernel
theorem dc_99_0 : am_dc 99 0 = some (.aload_n 0, 1, 0) := by decide +kernel
theorem dc_99_1 : am_dc 99 1 = some (.iload_n 1, 2, 0) := by decide +kernel
theorem dc_99_2 : am_dc 99 2 = some (.iload_n 2, 3, 0) := by decide +kernel
theorem dc_99_3 : am_dc 99 3 = some (.invokevirtual 95, 6, 0) := by decide +kernel
theorem dc_99_6 : am_dc 99 6 = some (.ifCond .eq 5, 9, 11) := by decide +kernel
theorem dc_99_9 : am_dc 99 9 = some (.iconst 1, 10, 0) := by decide +kernel
theorem dc_99_10 : am_dc 99 10 = some (.ireturn, 11, 0) := by decide +kernel
theorem dc_99_11 : am_dc 99 11 = some (.iload_n 1, 12, 0) := by decide +kernel
theorem dc_99_12 : am_dc 99 12 = some (.iload_n 2, 13, 0) := by decide +kernel
theorem dc_99_13 : am_dc 99 13 = some (.invokestatic 91, 16, 0) := by decide +kernel
theorem dc_99_16 : am_dc 99 16 = some (.lookupswitch 55 #[(1, 28), (2, 40)], 44, 0) := by decide +kernel
theorem dc_99_44 : am_dc 99 44 = some (.aload_n 0, 45, 0) := by decide +kernel
theorem dc_99_45 : am_dc 99 45 = some (.getfield 11, 48, 0) := by decide +kernel
theorem dc_99_48 : am_dc 99 48 = some (.iload_n 2, 49, 0) := by decide +kernel
theorem dc_99_49 : am_dc 99 49 = some (.aaload, 50, 0) := by decide +kernel
theorem dc_99_50 : am_dc 99 50 = some (.getfield 122, 53, 0) := by decide +kernel
theorem dc_99_53 : am_dc 99 53 = some (.iconst 0, 54, 0) := by decide +kernel
theorem dc_99_54 : am_dc 99 54 = some (.iaload, 55, 0) := by decide +kernel
theorem dc_99_55 : am_dc 99 55 = some (.ireturn, 56, 0) := by decide +kernel
theorem dc_99_56 : am_dc 99 56 = some (.bipush 100, 58, 0) := by decide +kernel
theorem dc_99_58 : am_dc 99 58 = some (.aload_n 0, 59, 0) := by decide +kernel
theorem dc_99_59 : am_dc 99 59 = some (.getfield 11, 62, 0) := by decide +kernel
theorem dc_99_62 : am_dc 99 62 = some (.iload_n 2, 63, 0) := by decide +kernel
theorem dc_99_63 : am_dc 99 63 = some (.aaload, 64, 0) := by decide +kernel
theorem dc_99_64 : am_dc 99 64 = some (.getfield 122, 67, 0) := by decide +kernel
theorem dc_99_67 : am_dc 99 67 = some (.iconst 0, 68, 0) := by decide +kernel
theorem dc_99_68 : am_dc 99 68 = some (.iaload, 69, 0) := by decide +kernel
theorem dc_99_69 : am_dc 99 69 = some (.isub, 70, 0) := by decide +kernel
theorem dc_99_70 : am_dc 99 70 = some (.ireturn, 71, 0) := by decide +kernel
theorem dc_99_71 : am_dc 99 71 = some (.bipush 100, 73, 0) := by decide +kernel
theorem dc_99_73 : am_dc 99 73 = some (.ireturn, 74, 0) := by decide +kernel
theorem dc_100_0 : am_dc 100 0 = some (.aload_n 0, 1, 0) := by decide +kernel
theorem dc_100_1 : am_dc 100 1 = some (.getfield 12, 4, 0) := by decide +kernel
theorem dc_100_4 : am_dc 100 4 = some (.iload_n 1, 5, 0) := by decide +kernel
theorem dc_100_5 : am_dc 100 5 = some (.invokevirtual 94, 8, 0) := by decide +kernel
theorem dc_100_8 : am_dc 100 8 = some (.ifCond .eq 12, 11, 20) := by decide +kernel
theorem dc_100_11 : am_dc 100 11 = some (.iload_n 2, 12, 0) := by decide +kernel
theorem dc_100_12 : am_dc 100 12 = some (.ifCond .lt 8, 15, 20) := by decide +kernel
theorem dc_100_15 : am_dc 100 15 = some (.iload_n 2, 16, 0) := by decide +kernel
theorem dc_100_16 : am_dc 100 16 = some (.iconst 1, 17, 0) := by decide +kernel
theorem dc_100_17 : am_dc 100 17 = some (.if_icmp .le 7, 20, 24) := by decide +kernel
theorem dc_100_20 : am_dc 100 20 = some (.ldc2_w 185, 23, 0) := by decide +kernel
theorem dc_100_23 : am_dc 100 23 = some (.lreturn, 24, 0) := by decide +kernel
theorem dc_100_24 : am_dc 100 24 = some (.aload_n 0, 25, 0) := by decide +kernel
theorem dc_100_25 : am_dc 100 25 = some (.getfield 12, 28, 0) := by decide +kernel
theorem dc_100_28 : am_dc 100 28 = some (.aload_n 0, 29, 0) := by decide +kernel
theorem dc_100_29 : am_dc 100 29 = some (.getfield 19, 32, 0) := by decide +kernel
theorem dc_100_32 : am_dc 100 32 = some (.aload_n 0, 33, 0) := by decide +kernel
theorem dc_100_33 : am_dc 100 33 = some (.getfield 12, 36, 0) := by decide +kernel
theorem dc_100_36 : am_dc 100 36 = some (.invokevirtual 142, 39, 0) := by decide +kernel
theorem dc_100_39 : am_dc 100 39 = some (.iload_n 1, 40, 0) := by decide +kernel
theorem dc_100_40 : am_dc 100 40 = some (.invokevirtual 187, 43, 0) := by decide +kernel
theorem dc_100_43 : am_dc 100 43 = some (.istore_n 3, 44, 0) := by decide +kernel
theorem dc_100_44 : am_dc 100 44 = some (.iload_n 2, 45, 0) := by decide +kernel
theorem dc_100_45 : am_dc 100 45 = some (.ifCond .ne 15, 48, 60) := by decide +kernel
theorem dc_100_48 : am_dc 100 48 = some (.aload_n 0, 49, 0) := by decide +kernel
theorem dc_100_49 : am_dc 100 49 = some (.getfield 12, 52, 0) := by decide +kernel
theorem dc_100_52 : am_dc 100 52 = some (.getfield 191, 55, 0) := by decide +kernel
theorem dc_100_55 : am_dc 100 55 = some (.iload_n 3, 56, 0) := by decide +kernel
theorem dc_100_56 : am_dc 100 56 = some (.laload, 57, 0) := by decide +kernel
theorem dc_100_57 : am_dc 100 57 = some (.goto 12, 60, 69) := by decide +kernel
theorem dc_100_60 : am_dc 100 60 = some (.aload_n 0, 61, 0) := by decide +kernel
theorem dc_100_61 : am_dc 100 61 = some (.getfield 12, 64, 0) := by decide +kernel
theorem dc_100_64 : am_dc 100 64 = some (.getfield 195, 67, 0) := by decide +kernel
theorem dc_100_67 : am_dc 100 67 = some (.iload_n 3, 68, 0) := by decide +kernel
theorem dc_100_68 : am_dc 100 68 = some (.laload, 69, 0) := by decide +kernel
theorem dc_100_69 : am_dc 100 69 = some (.lreturn, 70, 0) := by decide +kernel
theorem dc_101_0 : am_dc 101 0 = some (.aload_n 0, 1, 0) := by decide +kernel
theorem dc_101_1 : am_dc 101 1 = some (.iload_n 1, 2, 0) := by decide +kernel
theorem dc_101_2 : am_dc 101 2 = some (.iload_n 2, 3, 0) := by decide +kernel
theorem dc_101_3 : am_dc 101 3 = some (.invokevirtual 125, 6, 0) := by decide +kernel
theorem dc_101_6 : am_dc 101 6 = some (.ifCond .eq 11, 9, 17) := by decide +kernel
theorem dc_101_9 : am_dc 101 9 = some (.iconst 2, 10, 0) := by decide +kernel
theorem dc_101_10 : am_dc 101 10 = some (.iload_n 2, 11, 0) := by decide +kernel
theorem dc_101_11 : am_dc 101 11 = some (.imul, 12, 0) := by decide +kernel
theorem dc_101_12 : am_dc 101 12 = some (.iconst 1, 13, 0) := by decide +kernel
theorem dc_101_13 : am_dc 101 13 = some (.iadd, 14, 0) := by decide +kernel
theorem dc_101_14 : am_dc 101 14 = some (.goto 6, 17, 20) := by decide +kernel
theorem dc_101_17 : am_dc 101 17 = some (.iconst 2, 18, 0) := by decide +kernel
theorem dc_101_18 : am_dc 101 18 = some (.iload_n 2, 19, 0) := by decide +kernel
theorem dc_101_19 : am_dc 101 19 = some (.imul, 20, 0) := by decide +kernel
theorem dc_101_20 : am_dc 101 20 = some (.ireturn, 21, 0) := by decide +kernel
theorem dc_102_0 : am_dc 102 0 = some (.aload_n 0, 1, 0) := by decide +kernel
theorem dc_102_1 : am_dc 102 1 = some (.getfield 41, 4, 0) := by decide +kernel
theorem dc_102_4 : am_dc 102 4 = some (.aload_n 0, 5, 0) := by decide +kernel
theorem dc_102_5 : am_dc 102 5 = some (.getfield 19, 8, 0) := by decide +kernel
theorem dc_102_8 : am_dc 102 8 = some (.aload_n 0, 9, 0) := by decide +kernel
theorem dc_102_9 : am_dc 102 9 = some (.getfield 12, 12, 0) := by decide +kernel
theorem dc_102_12 : am_dc 102 12 = some (.invokevirtual 142, 15, 0) := by decide +kernel
theorem dc_102_15 : am_dc 102 15 = some (.aload_n 0, 16, 0) := by decide +kernel
theorem dc_102_16 : am_dc 102 16 = some (.getfield 19, 19, 0) := by decide +kernel
theorem dc_102_19 : am_dc 102 19 = some (.aload_n 0, 20, 0) := by decide +kernel
theorem dc_102_20 : am_dc 102 20 = some (.getfield 12, 23, 0) := by decide +kernel
theorem dc_102_23 : am_dc 102 23 = some (.invokevirtual 198, 26, 0) := by decide +kernel
theorem dc_102_26 : am_dc 102 26 = some (.invokevirtual 201, 29, 0) := by decide +kernel
theorem dc_102_29 : am_dc 102 29 = some (.istore_n 1, 30, 0) := by decide +kernel
theorem dc_102_30 : am_dc 102 30 = some (.iload_n 1, 31, 0) := by decide +kernel
theorem dc_102_31 : am_dc 102 31 = some (.ifCond .ge 8, 34, 39) := by decide +kernel
theorem dc_102_34 : am_dc 102 34 = some (.bipush (-4), 36, 0) := by decide +kernel
theorem dc_102_36 : am_dc 102 36 = some (.goto 4, 39, 40) := by decide +kernel
theorem dc_102_39 : am_dc 102 39 = some (.iload_n 1, 40, 0) := by decide +kernel
theorem dc_102_40 : am_dc 102 40 = some (.ireturn, 41, 0) := by decide +kernel
theorem dc_103_0 : am_dc 103 0 = some (.bipush (-4), 2, 0) := by decide +kernel
theorem dc_103_2 : am_dc 103 2 = some (.istore_n 3, 3, 0) := by decide +kernel
theorem dc_103_3 : am_dc 103 3 = some (.aload_n 0, 4, 0) := by decide +kernel
theorem dc_103_4 : am_dc 103 4 = some (.getfield 38, 7, 0) := by decide +kernel
theorem dc_103_7 : am_dc 103 7 = some (.getfield 157, 10, 0) := by decide +kernel
theorem dc_103_10 : am_dc 103 10 = some (.iload_n 2, 11, 0) := by decide +kernel
theorem dc_103_11 : am_dc 103 11 = some (.iaload, 12, 0) := by decide +kernel
theorem dc_103_12 : am_dc 103 12 = some (.i2l, 13, 0) := by decide +kernel
theorem dc_103_13 : am_dc 103 13 = some (.lstore 4, 15, 0) := by decide +kernel
theorem dc_103_15 : am_dc 103 15 = some (.lconst 1, 16, 0) := by decide +kernel
theorem dc_103_16 : am_dc 103 16 = some (.lstore 6, 18, 0) := by decide +kernel
theorem dc_103_18 : am_dc 103 18 = some (.iconst 0, 19, 0) := by decide +kernel
theorem dc_103_19 : am_dc 103 19 = some (.istore 8, 21, 0) := by decide +kernel
theorem dc_103_21 : am_dc 103 21 = some (.iload 8, 23, 0) := by decide +kernel
theorem dc_103_23 : am_dc 103 23 = some (.aload_n 0, 24, 0) := by decide +kernel
theorem dc_103_24 : am_dc 103 24 = some (.getfield 38, 27, 0) := by decide +kernel
theorem dc_103_27 : am_dc 103 27 = some (.getfield 52, 30, 0) := by decide +kernel
theorem dc_103_30 : am_dc 103 30 = some (.if_icmp .ge 103, 33, 133) := by decide +kernel
theorem dc_103_33 : am_dc 103 33 = some (.aload_n 0, 34, 0) := by decide +kernel
theorem dc_103_34 : am_dc 103 34 = some (.getfield 38, 37, 0) := by decide +kernel
theorem dc_103_37 : am_dc 103 37 = some (.iload_n 1, 38, 0) := by decide +kernel
theorem dc_103_38 : am_dc 103 38 = some (.iload 8, 40, 0) := by decide +kernel
theorem dc_103_40 : am_dc 103 40 = some (.invokevirtual 176, 43, 0) := by decide +kernel
theorem dc_103_43 : am_dc 103 43 = some (.istore 9, 45, 0) := by decide +kernel
theorem dc_103_45 : am_dc 103 45 = some (.aload_n 0, 46, 0) := by decide +kernel
theorem dc_103_46 : am_dc 103 46 = some (.getfield 38, 49, 0) := by decide +kernel
theorem dc_103_49 : am_dc 103 49 = some (.getfield 179, 52, 0) := by decide +kernel
theorem dc_103_52 : am_dc 103 52 = some (.iload 9, 54, 0) := by decide +kernel
theorem dc_103_54 : am_dc 103 54 = some (.laload, 55, 0) := by decide +kernel
theorem dc_103_55 : am_dc 103 55 = some (.lload 6, 57, 0) := by decide +kernel
theorem dc_103_57 : am_dc 103 57 = some (.lmul, 58, 0) := by decide +kernel
theorem dc_103_58 : am_dc 103 58 = some (.lload 4, 60, 0) := by decide +kernel
theorem dc_103_60 : am_dc 103 60 = some (.aload_n 0, 61, 0) := by decide +kernel
theorem dc_103_61 : am_dc 103 61 = some (.getfield 38, 64, 0) := by decide +kernel
theorem dc_103_64 : am_dc 103 64 = some (.getfield 182, 67, 0) := by decide +kernel
theorem dc_103_67 : am_dc 103 67 = some (.iload 9, 69, 0) := by decide +kernel
theorem dc_103_69 : am_dc 103 69 = some (.laload, 70, 0) := by decide +kernel
theorem dc_103_70 : am_dc 103 70 = some (.lmul, 71, 0) := by decide +kernel
theorem dc_103_71 : am_dc 103 71 = some (.lcmp, 72, 0) := by decide +kernel
theorem dc_103_72 : am_dc 103 72 = some (.ifCond .le 7, 75, 79) := by decide +kernel
theorem dc_103_75 : am_dc 103 75 = some (.iconst 1, 76, 0) := by decide +kernel
theorem dc_103_76 : am_dc 103 76 = some (.goto 4, 79, 80) := by decide +kernel
theorem dc_103_79 : am_dc 103 79 = some (.iconst 0, 80, 0) := by decide +kernel
theorem dc_103_80 : am_dc 103 80 = some (.istore 10, 82, 0) := by decide +kernel
theorem dc_103_82 : am_dc 103 82 = some (.iload 10, 84, 0) := by decide +kernel
theorem dc_103_84 : am_dc 103 84 = some (.ifCond .eq 43, 87, 127) := by decide +kernel
theorem dc_103_87 : am_dc 103 87 = some (.aload_n 0, 88, 0) := by decide +kernel
theorem dc_103_88 : am_dc 103 88 = some (.getfield 38, 91, 0) := by decide +kernel
theorem dc_103_91 : am_dc 103 91 = some (.iload_n 1, 92, 0) := by decide +kernel
theorem dc_103_92 : am_dc 103 92 = some (.iload 8, 94, 0) := by decide +kernel
theorem dc_103_94 : am_dc 103 94 = some (.invokevirtual 185, 97, 0) := by decide +kernel
theorem dc_103_97 : am_dc 103 97 = some (.ifCond .eq 30, 100, 127) := by decide +kernel
theorem dc_103_100 : am_dc 103 100 = some (.iload 8, 102, 0) := by decide +kernel
theorem dc_103_102 : am_dc 103 102 = some (.istore_n 3, 103, 0) := by decide +kernel
theorem dc_103_103 : am_dc 103 103 = some (.aload_n 0, 104, 0) := by decide +kernel
theorem dc_103_104 : am_dc 103 104 = some (.getfield 38, 107, 0) := by decide +kernel
theorem dc_103_107 : am_dc 103 107 = some (.getfield 179, 110, 0) := by decide +kernel
theorem dc_103_110 : am_dc 103 110 = some (.iload 9, 112, 0) := by decide +kernel
theorem dc_103_112 : am_dc 103 112 = some (.laload, 113, 0) := by decide +kernel
theorem dc_103_113 : am_dc 103 113 = some (.lstore 4, 115, 0) := by decide +kernel
theorem dc_103_115 : am_dc 103 115 = some (.aload_n 0, 116, 0) := by decide +kernel
theorem dc_103_116 : am_dc 103 116 = some (.getfield 38, 119, 0) := by decide +kernel
theorem dc_103_119 : am_dc 103 119 = some (.getfield 182, 122, 0) := by decide +kernel
theorem dc_103_122 : am_dc 103 122 = some (.iload 9, 124, 0) := by decide +kernel
theorem dc_103_124 : am_dc 103 124 = some (.laload, 125, 0) := by decide +kernel
theorem dc_103_125 : am_dc 103 125 = some (.lstore 6, 127, 0) := by decide +kernel
theorem dc_103_127 : am_dc 103 127 = some (.iinc 8 1, 130, 0) := by decide +kernel
theorem dc_103_130 : am_dc 103 130 = some (.goto (-109), 133, 21) := by decide +kernel
theorem dc_103_133 : am_dc 103 133 = some (.iload_n 3, 134, 0) := by decide +kernel
theorem dc_103_134 : am_dc 103 134 = some (.ireturn, 135, 0) := by decide +kernel
theorem dc_104_0 : am_dc 104 0 = some (.aload_n 0, 1, 0) := by decide +kernel
theorem dc_104_1 : am_dc 104 1 = some (.getfield 41, 4, 0) := by decide +kernel
theorem dc_104_4 : am_dc 104 4 = some (.aload_n 0, 5, 0) := by decide +kernel
theorem dc_104_5 : am_dc 104 5 = some (.getfield 19, 8, 0) := by decide +kernel
theorem dc_104_8 : am_dc 104 8 = some (.aload_n 0, 9, 0) := by decide +kernel
theorem dc_104_9 : am_dc 104 9 = some (.getfield 12, 12, 0) := by decide +kernel
theorem dc_104_12 : am_dc 104 12 = some (.invokevirtual 142, 15, 0) := by decide +kernel
theorem dc_104_15 : am_dc 104 15 = some (.aload_n 0, 16, 0) := by decide +kernel
theorem dc_104_16 : am_dc 104 16 = some (.getfield 19, 19, 0) := by decide +kernel
theorem dc_104_19 : am_dc 104 19 = some (.aload_n 0, 20, 0) := by decide +kernel
theorem dc_104_20 : am_dc 104 20 = some (.getfield 12, 23, 0) := by decide +kernel
theorem dc_104_23 : am_dc 104 23 = some (.invokevirtual 198, 26, 0) := by decide +kernel
theorem dc_104_26 : am_dc 104 26 = some (.invokevirtual 204, 29, 0) := by decide +kernel
theorem dc_104_29 : am_dc 104 29 = some (.lreturn, 30, 0) := by decide +kernel
theorem dc_105_0 : am_dc 105 0 = some (.aload_n 0, 1, 0) := by decide +kernel
theorem dc_105_1 : am_dc 105 1 = some (.iload_n 1, 2, 0) := by decide +kernel
theorem dc_105_2 : am_dc 105 2 = some (.iload_n 2, 3, 0) := by decide +kernel
theorem dc_105_3 : am_dc 105 3 = some (.iconst 0, 4, 0) := by decide +kernel
theorem dc_105_4 : am_dc 105 4 = some (.invokevirtual 188, 7, 0) := by decide +kernel
theorem dc_105_7 : am_dc 105 7 = some (.lreturn, 8, 0) := by decide +kernel
theorem dc_106_0 : am_dc 106 0 = some (.aload_n 0, 1, 0) := by decide +kernel
theorem dc_106_1 : am_dc 106 1 = some (.iload_n 1, 2, 0) := by decide +kernel
theorem dc_106_2 : am_dc 106 2 = some (.iload_n 2, 3, 0) := by decide +kernel
theorem dc_106_3 : am_dc 106 3 = some (.invokevirtual 192, 6, 0) := by decide +kernel
theorem dc_106_6 : am_dc 106 6 = some (.istore 4, 8, 0) := by decide +kernel
theorem dc_106_8 : am_dc 106 8 = some (.aload_n 0, 9, 0) := by decide +kernel
theorem dc_106_9 : am_dc 106 9 = some (.getfield 38, 12, 0) := by decide +kernel
theorem dc_106_12 : am_dc 106 12 = some (.iload_n 1, 13, 0) := by decide +kernel
theorem dc_106_13 : am_dc 106 13 = some (.invokevirtual 93, 16, 0) := by decide +kernel
theorem dc_106_16 : am_dc 106 16 = some (.lstore 5, 18, 0) := by decide +kernel
theorem dc_106_18 : am_dc 106 18 = some (.iload 4, 20, 0) := by decide +kernel
theorem dc_106_20 : am_dc 106 20 = some (.ifCond .lt 8, 23, 28) := by decide +kernel
theorem dc_106_23 : am_dc 106 23 = some (.iload_n 3, 24, 0) := by decide +kernel
theorem dc_106_24 : am_dc 106 24 = some (.iconst 5, 25, 0) := by decide +kernel
theorem dc_106_25 : am_dc 106 25 = some (.if_icmp .lt 17, 28, 42) := by decide +kernel
theorem dc_106_28 : am_dc 106 28 = some (.aload_n 0, 29, 0) := by decide +kernel
theorem dc_106_29 : am_dc 106 29 = some (.getfield 38, 32, 0) := by decide +kernel
theorem dc_106_32 : am_dc 106 32 = some (.getfield 157, 35, 0) := by decide +kernel
theorem dc_106_35 : am_dc 106 35 = some (.iload_n 2, 36, 0) := by decide +kernel
theorem dc_106_36 : am_dc 106 36 = some (.iaload, 37, 0) := by decide +kernel
theorem dc_106_37 : am_dc 106 37 = some (.i2l, 38, 0) := by decide +kernel
theorem dc_106_38 : am_dc 106 38 = some (.lload 5, 40, 0) := by decide +kernel
theorem dc_106_40 : am_dc 106 40 = some (.lmul, 41, 0) := by decide +kernel
theorem dc_106_41 : am_dc 106 41 = some (.lreturn, 42, 0) := by decide +kernel
theorem dc_106_42 : am_dc 106 42 = some (.aload_n 0, 43, 0) := by decide +kernel
theorem dc_106_43 : am_dc 106 43 = some (.getfield 38, 46, 0) := by decide +kernel
theorem dc_106_46 : am_dc 106 46 = some (.getfield 56, 49, 0) := by decide +kernel
theorem dc_106_49 : am_dc 106 49 = some (.iload 4, 51, 0) := by decide +kernel
theorem dc_106_51 : am_dc 106 51 = some (.aaload, 52, 0) := by decide +kernel
theorem dc_106_52 : am_dc 106 52 = some (.getfield 60, 55, 0) := by decide +kernel
theorem dc_106_55 : am_dc 106 55 = some (.ineg, 56, 0) := by decide +kernel
theorem dc_106_56 : am_dc 106 56 = some (.i2l, 57, 0) := by decide +kernel
theorem dc_106_57 : am_dc 106 57 = some (.lload 5, 59, 0) := by decide +kernel
theorem dc_106_59 : am_dc 106 59 = some (.lmul, 60, 0) := by decide +kernel
theorem dc_106_60 : am_dc 106 60 = some (.lstore 7, 62, 0) := by decide +kernel
theorem dc_106_62 : am_dc 106 62 = some (.iconst 0, 63, 0) := by decide +kernel
theorem dc_106_63 : am_dc 106 63 = some (.istore 9, 65, 0) := by decide +kernel
theorem dc_106_65 : am_dc 106 65 = some (.iload 9, 67, 0) := by decide +kernel
theorem dc_106_67 : am_dc 106 67 = some (.aload_n 0, 68, 0) := by decide +kernel
theorem dc_106_68 : am_dc 106 68 = some (.getfield 38, 71, 0) := by decide +kernel
theorem dc_106_71 : am_dc 106 71 = some (.getfield 56, 74, 0) := by decide +kernel
theorem dc_106_74 : am_dc 106 74 = some (.iload 4, 76, 0) := by decide +kernel
theorem dc_106_76 : am_dc 106 76 = some (.aaload, 77, 0) := by decide +kernel
theorem dc_106_77 : am_dc 106 77 = some (.invokevirtual 117, 80, 0) := by decide +kernel
theorem dc_106_80 : am_dc 106 80 = some (.if_icmp .ge 75, 83, 155) := by decide +kernel
theorem dc_106_83 : am_dc 106 83 = some (.aload_n 0, 84, 0) := by decide +kernel
theorem dc_106_84 : am_dc 106 84 = some (.getfield 38, 87, 0) := by decide +kernel
theorem dc_106_87 : am_dc 106 87 = some (.iload_n 1, 88, 0) := by decide +kernel
theorem dc_106_88 : am_dc 106 88 = some (.iload 4, 90, 0) := by decide +kernel
theorem dc_106_90 : am_dc 106 90 = some (.iload 9, 92, 0) := by decide +kernel
theorem dc_106_92 : am_dc 106 92 = some (.invokevirtual 120, 95, 0) := by decide +kernel
theorem dc_106_95 : am_dc 106 95 = some (.istore 10, 97, 0) := by decide +kernel
theorem dc_106_97 : am_dc 106 97 = some (.iload 10, 99, 0) := by decide +kernel
theorem dc_106_99 : am_dc 106 99 = some (.ifCond .le 50, 102, 149) := by decide +kernel
theorem dc_106_102 : am_dc 106 102 = some (.iload_n 2, 103, 0) := by decide +kernel
theorem dc_106_103 : am_dc 106 103 = some (.aload_n 0, 104, 0) := by decide +kernel
theorem dc_106_104 : am_dc 106 104 = some (.getfield 38, 107, 0) := by decide +kernel
theorem dc_106_107 : am_dc 106 107 = some (.iload 4, 109, 0) := by decide +kernel
theorem dc_106_109 : am_dc 106 109 = some (.iload 9, 111, 0) := by decide +kernel
theorem dc_106_111 : am_dc 106 111 = some (.invokevirtual 195, 114, 0) := by decide +kernel
theorem dc_106_114 : am_dc 106 114 = some (.invokestatic 198, 117, 0) := by decide +kernel
theorem dc_106_117 : am_dc 106 117 = some (.istore 11, 119, 0) := by decide +kernel
theorem dc_106_119 : am_dc 106 119 = some (.lload 7, 121, 0) := by decide +kernel
theorem dc_106_121 : am_dc 106 121 = some (.iload 10, 123, 0) := by decide +kernel
theorem dc_106_123 : am_dc 106 123 = some (.i2l, 124, 0) := by decide +kernel
theorem dc_106_124 : am_dc 106 124 = some (.aload_n 0, 125, 0) := by decide +kernel
theorem dc_106_125 : am_dc 106 125 = some (.aload_n 0, 126, 0) := by decide +kernel
theorem dc_106_126 : am_dc 106 126 = some (.getfield 38, 129, 0) := by decide +kernel
theorem dc_106_129 : am_dc 106 129 = some (.iload_n 1, 130, 0) := by decide +kernel
theorem dc_106_130 : am_dc 106 130 = some (.iload 4, 132, 0) := by decide +kernel
theorem dc_106_132 : am_dc 106 132 = some (.iload 9, 134, 0) := by decide +kernel
theorem dc_106_134 : am_dc 106 134 = some (.invokevirtual 124, 137, 0) := by decide +kernel
theorem dc_106_137 : am_dc 106 137 = some (.iload 11, 139, 0) := by decide +kernel
theorem dc_106_139 : am_dc 106 139 = some (.iload_n 3, 140, 0) := by decide +kernel
theorem dc_106_140 : am_dc 106 140 = some (.iconst 1, 141, 0) := by decide +kernel
theorem dc_106_141 : am_dc 106 141 = some (.iadd, 142, 0) := by decide +kernel
theorem dc_106_142 : am_dc 106 142 = some (.invokevirtual 188, 145, 0) := by decide +kernel
theorem dc_106_145 : am_dc 106 145 = some (.lmul, 146, 0) := by decide +kernel
theorem dc_106_146 : am_dc 106 146 = some (.ladd, 147, 0) := by decide +kernel
theorem dc_106_147 : am_dc 106 147 = some (.lstore 7, 149, 0) := by decide +kernel
theorem dc_106_149 : am_dc 106 149 = some (.iinc 9 1, 152, 0) := by decide +kernel
theorem dc_106_152 : am_dc 106 152 = some (.goto (-87), 155, 65) := by decide +kernel
theorem dc_106_155 : am_dc 106 155 = some (.lload 7, 157, 0) := by decide +kernel
theorem dc_106_157 : am_dc 106 157 = some (.lreturn, 158, 0) := by decide +kernel
theorem dc_107_0 : am_dc 107 0 = some (.aload_n 0, 1, 0) := by decide +kernel
theorem dc_107_1 : am_dc 107 1 = some (.getfield 41, 4, 0) := by decide +kernel
theorem dc_107_4 : am_dc 107 4 = some (.aload_n 0, 5, 0) := by decide +kernel
theorem dc_107_5 : am_dc 107 5 = some (.getfield 19, 8, 0) := by decide +kernel
theorem dc_107_8 : am_dc 107 8 = some (.aload_n 0, 9, 0) := by decide +kernel
theorem dc_107_9 : am_dc 107 9 = some (.getfield 12, 12, 0) := by decide +kernel
theorem dc_107_12 : am_dc 107 12 = some (.invokevirtual 142, 15, 0) := by decide +kernel
theorem dc_107_15 : am_dc 107 15 = some (.aload_n 0, 16, 0) := by decide +kernel
theorem dc_107_16 : am_dc 107 16 = some (.getfield 19, 19, 0) := by decide +kernel
theorem dc_107_19 : am_dc 107 19 = some (.aload_n 0, 20, 0) := by decide +kernel
theorem dc_107_20 : am_dc 107 20 = some (.getfield 12, 23, 0) := by decide +kernel
theorem dc_107_23 : am_dc 107 23 = some (.invokevirtual 198, 26, 0) := by decide +kernel
theorem dc_107_26 : am_dc 107 26 = some (.invokevirtual 208, 29, 0) := by decide +kernel
theorem dc_107_29 : am_dc 107 29 = some (.ireturn, 30, 0) := by decide +kernel
theorem dc_108_0 : am_dc 108 0 = some (.aload_n 0, 1, 0) := by decide +kernel
theorem dc_108_1 : am_dc 108 1 = some (.invokevirtual 173, 4, 0) := by decide +kernel
theorem dc_108_4 : am_dc 108 4 = some (.aload_n 0, 5, 0) := by decide +kernel
theorem dc_108_5 : am_dc 108 5 = some (.getfield 19, 8, 0) := by decide +kernel
theorem dc_108_8 : am_dc 108 8 = some (.aload_n 0, 9, 0) := by decide +kernel
theorem dc_108_9 : am_dc 108 9 = some (.getfield 38, 12, 0) := by decide +kernel
theorem dc_108_12 : am_dc 108 12 = some (.iload_n 1, 13, 0) := by decide +kernel
theorem dc_108_13 : am_dc 108 13 = some (.iload_n 2, 14, 0) := by decide +kernel
theorem dc_108_14 : am_dc 108 14 = some (.invokevirtual 150, 17, 0) := by decide +kernel
theorem dc_108_17 : am_dc 108 17 = some (.iaload, 18, 0) := by decide +kernel
theorem dc_108_18 : am_dc 108 18 = some (.ireturn, 19, 0) := by decide +kernel
theorem dc_109_0 : am_dc 109 0 = some (.aload_n 0, 1, 0) := by decide +kernel
theorem dc_109_1 : am_dc 109 1 = some (.getfield 42, 4, 0) := by decide +kernel
theorem dc_109_4 : am_dc 109 4 = some (.ifCond .eq 4, 7, 8) := by decide +kernel
theorem dc_109_7 : am_dc 109 7 = some (.return_, 8, 0) := by decide +kernel
theorem dc_109_8 : am_dc 109 8 = some (.bipush 21, 10, 0) := by decide +kernel
theorem dc_109_10 : am_dc 109 10 = some (.aload_n 0, 11, 0) := by decide +kernel
theorem dc_109_11 : am_dc 109 11 = some (.getfield 38, 14, 0) := by decide +kernel
theorem dc_109_14 : am_dc 109 14 = some (.invokevirtual 46, 17, 0) := by decide +kernel
theorem dc_109_17 : am_dc 109 17 = some (.imul, 18, 0) := by decide +kernel
theorem dc_109_18 : am_dc 109 18 = some (.istore_n 1, 19, 0) := by decide +kernel
theorem dc_109_19 : am_dc 109 19 = some (.aload_n 0, 20, 0) := by decide +kernel
theorem dc_109_20 : am_dc 109 20 = some (.getfield 15, 23, 0) := by decide +kernel
theorem dc_109_23 : am_dc 109 23 = some (.arraylength, 24, 0) := by decide +kernel
theorem dc_109_24 : am_dc 109 24 = some (.iload_n 1, 25, 0) := by decide +kernel
theorem dc_109_25 : am_dc 109 25 = some (.if_icmp .ge 17, 28, 42) := by decide +kernel
theorem dc_109_28 : am_dc 109 28 = some (.aload_n 0, 29, 0) := by decide +kernel
theorem dc_109_29 : am_dc 109 29 = some (.iload_n 1, 30, 0) := by decide +kernel
theorem dc_109_30 : am_dc 109 30 = some (.newarray .long, 32, 0) := by decide +kernel
theorem dc_109_32 : am_dc 109 32 = some (.putfield 15, 35, 0) := by decide +kernel
theorem dc_109_35 : am_dc 109 35 = some (.aload_n 0, 36, 0) := by decide +kernel
theorem dc_109_36 : am_dc 109 36 = some (.iload_n 1, 37, 0) := by decide +kernel
theorem dc_109_37 : am_dc 109 37 = some (.newarray .int, 39, 0) := by decide +kernel
theorem dc_109_39 : am_dc 109 39 = some (.putfield 19, 42, 0) := by decide +kernel
theorem dc_109_42 : am_dc 109 42 = some (.iconst 0, 43, 0) := by decide +kernel
theorem dc_109_43 : am_dc 109 43 = some (.istore_n 2, 44, 0) := by decide +kernel
theorem dc_109_44 : am_dc 109 44 = some (.iload_n 2, 45, 0) := by decide +kernel
theorem dc_109_45 : am_dc 109 45 = some (.aload_n 0, 46, 0) := by decide +kernel
theorem dc_109_46 : am_dc 109 46 = some (.getfield 38, 49, 0) := by decide +kernel
theorem dc_109_49 : am_dc 109 49 = some (.getfield 52, 52, 0) := by decide +kernel
theorem dc_109_52 : am_dc 109 52 = some (.if_icmp .ge 27, 55, 79) := by decide +kernel
theorem dc_109_55 : am_dc 109 55 = some (.aload_n 0, 56, 0) := by decide +kernel
theorem dc_109_56 : am_dc 109 56 = some (.getfield 9, 59, 0) := by decide +kernel
theorem dc_109_59 : am_dc 109 59 = some (.iload_n 2, 60, 0) := by decide +kernel
theorem dc_109_60 : am_dc 109 60 = some (.aload_n 0, 61, 0) := by decide +kernel
theorem dc_109_61 : am_dc 109 61 = some (.getfield 38, 64, 0) := by decide +kernel
theorem dc_109_64 : am_dc 109 64 = some (.getfield 56, 67, 0) := by decide +kernel
theorem dc_109_67 : am_dc 109 67 = some (.iload_n 2, 68, 0) := by decide +kernel
theorem dc_109_68 : am_dc 109 68 = some (.aaload, 69, 0) := by decide +kernel
theorem dc_109_69 : am_dc 109 69 = some (.getfield 60, 72, 0) := by decide +kernel
theorem dc_109_72 : am_dc 109 72 = some (.iastore, 73, 0) := by decide +kernel
theorem dc_109_73 : am_dc 109 73 = some (.iinc 2 1, 76, 0) := by decide +kernel
theorem dc_109_76 : am_dc 109 76 = some (.goto (-32), 79, 44) := by decide +kernel
theorem dc_109_79 : am_dc 109 79 = some (.aload_n 0, 80, 0) := by decide +kernel
theorem dc_109_80 : am_dc 109 80 = some (.bipush (-4), 82, 0) := by decide +kernel
theorem dc_109_82 : am_dc 109 82 = some (.invokevirtual 65, 85, 0) := by decide +kernel
theorem dc_109_85 : am_dc 109 85 = some (.aload_n 0, 86, 0) := by decide +kernel
theorem dc_109_86 : am_dc 109 86 = some (.iconst 1, 87, 0) := by decide +kernel
theorem dc_109_87 : am_dc 109 87 = some (.putfield 42, 90, 0) := by decide +kernel
theorem dc_109_90 : am_dc 109 90 = some (.return_, 91, 0) := by decide +kernel
theorem dc_110_0 : am_dc 110 0 = some (.iconst 1, 1, 0) := by decide +kernel
theorem dc_110_1 : am_dc 110 1 = some (.iconst 2, 2, 0) := by decide +kernel
theorem dc_110_2 : am_dc 110 2 = some (.aload_n 0, 3, 0) := by decide +kernel
theorem dc_110_3 : am_dc 110 3 = some (.getfield 44, 6, 0) := by decide +kernel
theorem dc_110_6 : am_dc 110 6 = some (.imul, 7, 0) := by decide +kernel
theorem dc_110_7 : am_dc 110 7 = some (.ishl, 8, 0) := by decide +kernel
theorem dc_110_8 : am_dc 110 8 = some (.ireturn, 9, 0) := by decide +kernel
theorem dc_111_0 : am_dc 111 0 = some (.aload_n 0, 1, 0) := by decide +kernel
theorem dc_111_1 : am_dc 111 1 = some (.getfield 38, 4, 0) := by decide +kernel
theorem dc_111_4 : am_dc 111 4 = some (.invokevirtual 46, 7, 0) := by decide +kernel
theorem dc_111_7 : am_dc 111 7 = some (.iconst 1, 8, 0) := by decide +kernel
theorem dc_111_8 : am_dc 111 8 = some (.isub, 9, 0) := by decide +kernel
theorem dc_111_9 : am_dc 111 9 = some (.istore_n 2, 10, 0) := by decide +kernel
theorem dc_111_10 : am_dc 111 10 = some (.iload_n 2, 11, 0) := by decide +kernel
theorem dc_111_11 : am_dc 111 11 = some (.ifCond .lt 98, 14, 109) := by decide +kernel
theorem dc_111_14 : am_dc 111 14 = some (.aload_n 0, 15, 0) := by decide +kernel
theorem dc_111_15 : am_dc 111 15 = some (.getfield 38, 18, 0) := by decide +kernel
theorem dc_111_18 : am_dc 111 18 = some (.iload_n 2, 19, 0) := by decide +kernel
theorem dc_111_19 : am_dc 111 19 = some (.invokevirtual 69, 22, 0) := by decide +kernel
theorem dc_111_22 : am_dc 111 22 = some (.ifCond .eq 23, 25, 45) := by decide +kernel
theorem dc_111_25 : am_dc 111 25 = some (.iload_n 1, 26, 0) := by decide +kernel
theorem dc_111_26 : am_dc 111 26 = some (.ifCond .lt 15, 29, 41) := by decide +kernel
theorem dc_111_29 : am_dc 111 29 = some (.aload_n 0, 30, 0) := by decide +kernel
theorem dc_111_30 : am_dc 111 30 = some (.getfield 38, 33, 0) := by decide +kernel
theorem dc_111_33 : am_dc 111 33 = some (.iload_n 2, 34, 0) := by decide +kernel
theorem dc_111_34 : am_dc 111 34 = some (.iload_n 1, 35, 0) := by decide +kernel
theorem dc_111_35 : am_dc 111 35 = some (.invokevirtual 73, 38, 0) := by decide +kernel
theorem dc_111_38 : am_dc 111 38 = some (.ifCond .ne 7, 41, 45) := by decide +kernel
theorem dc_111_41 : am_dc 111 41 = some (.iconst 1, 42, 0) := by decide +kernel
theorem dc_111_42 : am_dc 111 42 = some (.goto 4, 45, 46) := by decide +kernel
theorem dc_111_45 : am_dc 111 45 = some (.iconst 0, 46, 0) := by decide +kernel
theorem dc_111_46 : am_dc 111 46 = some (.istore_n 3, 47, 0) := by decide +kernel
theorem dc_111_47 : am_dc 111 47 = some (.iload_n 3, 48, 0) := by decide +kernel
theorem dc_111_48 : am_dc 111 48 = some (.ifCond .eq 55, 51, 103) := by decide +kernel
theorem dc_111_51 : am_dc 111 51 = some (.aload_n 0, 52, 0) := by decide +kernel
theorem dc_111_52 : am_dc 111 52 = some (.iload_n 2, 53, 0) := by decide +kernel
theorem dc_111_53 : am_dc 111 53 = some (.invokevirtual 77, 56, 0) := by decide +kernel
theorem dc_111_56 : am_dc 111 56 = some (.aload_n 0, 57, 0) := by decide +kernel
theorem dc_111_57 : am_dc 111 57 = some (.getfield 38, 60, 0) := by decide +kernel
theorem dc_111_60 : am_dc 111 60 = some (.iload_n 2, 61, 0) := by decide +kernel
theorem dc_111_61 : am_dc 111 61 = some (.invokevirtual 80, 64, 0) := by decide +kernel
theorem dc_111_64 : am_dc 111 64 = some (.istore 4, 66, 0) := by decide +kernel
theorem dc_111_66 : am_dc 111 66 = some (.iconst 0, 67, 0) := by decide +kernel
theorem dc_111_67 : am_dc 111 67 = some (.istore 5, 69, 0) := by decide +kernel
theorem dc_111_69 : am_dc 111 69 = some (.iload 5, 71, 0) := by decide +kernel
theorem dc_111_71 : am_dc 111 71 = some (.aload_n 0, 72, 0) := by decide +kernel
theorem dc_111_72 : am_dc 111 72 = some (.getfield 38, 75, 0) := by decide +kernel
theorem dc_111_75 : am_dc 111 75 = some (.getfield 84, 78, 0) := by decide +kernel
theorem dc_111_78 : am_dc 111 78 = some (.if_icmp .ge 25, 81, 103) := by decide +kernel
theorem dc_111_81 : am_dc 111 81 = some (.iload 4, 83, 0) := by decide +kernel
theorem dc_111_83 : am_dc 111 83 = some (.iconst 1, 84, 0) := by decide +kernel
theorem dc_111_84 : am_dc 111 84 = some (.iload 5, 86, 0) := by decide +kernel
theorem dc_111_86 : am_dc 111 86 = some (.ishl, 87, 0) := by decide +kernel
theorem dc_111_87 : am_dc 111 87 = some (.iand, 88, 0) := by decide +kernel
theorem dc_111_88 : am_dc 111 88 = some (.ifCond .eq 9, 91, 97) := by decide +kernel
theorem dc_111_91 : am_dc 111 91 = some (.aload_n 0, 92, 0) := by decide +kernel
theorem dc_111_92 : am_dc 111 92 = some (.iload 5, 94, 0) := by decide +kernel
theorem dc_111_94 : am_dc 111 94 = some (.invokevirtual 87, 97, 0) := by decide +kernel
theorem dc_111_97 : am_dc 111 97 = some (.iinc 5 1, 100, 0) := by decide +kernel
theorem dc_111_100 : am_dc 111 100 = some (.goto (-31), 103, 69) := by decide +kernel
theorem dc_111_103 : am_dc 111 103 = some (.iinc 2 (-1), 106, 0) := by decide +kernel
theorem dc_111_106 : am_dc 111 106 = some (.goto (-96), 109, 10) := by decide +kernel
theorem dc_111_109 : am_dc 111 109 = some (.return_, 110, 0) := by decide +kernel
theorem dc_112_0 : am_dc 112 0 = some (.iconst 0, 1, 0) := by decide +kernel
theorem dc_112_1 : am_dc 112 1 = some (.istore_n 2, 2, 0) := by decide +kernel
theorem dc_112_2 : am_dc 112 2 = some (.iload_n 2, 3, 0) := by decide +kernel
theorem dc_112_3 : am_dc 112 3 = some (.aload_n 0, 4, 0) := by decide +kernel
theorem dc_112_4 : am_dc 112 4 = some (.getfield 44, 7, 0) := by decide +kernel
theorem dc_112_7 : am_dc 112 7 = some (.if_icmp .ge 54, 10, 61) := by decide +kernel
theorem dc_112_10 : am_dc 112 10 = some (.iload_n 1, 11, 0) := by decide +kernel
theorem dc_112_11 : am_dc 112 11 = some (.iload_n 2, 12, 0) := by decide +kernel
theorem dc_112_12 : am_dc 112 12 = some (.invokestatic 91, 15, 0) := by decide +kernel
theorem dc_112_15 : am_dc 112 15 = some (.istore_n 3, 16, 0) := by decide +kernel
theorem dc_112_16 : am_dc 112 16 = some (.iload_n 3, 17, 0) := by decide +kernel
theorem dc_112_17 : am_dc 112 17 = some (.ifCond .eq 12, 20, 29) := by decide +kernel
theorem dc_112_20 : am_dc 112 20 = some (.aload_n 0, 21, 0) := by decide +kernel
theorem dc_112_21 : am_dc 112 21 = some (.iload_n 1, 22, 0) := by decide +kernel
theorem dc_112_22 : am_dc 112 22 = some (.iload_n 2, 23, 0) := by decide +kernel
theorem dc_112_23 : am_dc 112 23 = some (.invokevirtual 95, 26, 0) := by decide +kernel
theorem dc_112_26 : am_dc 112 26 = some (.ifCond .eq 7, 29, 33) := by decide +kernel
theorem dc_112_29 : am_dc 112 29 = some (.iconst 1, 30, 0) := by decide +kernel
theorem dc_112_30 : am_dc 112 30 = some (.goto 4, 33, 34) := by decide +kernel
theorem dc_112_33 : am_dc 112 33 = some (.iconst 0, 34, 0) := by decide +kernel
theorem dc_112_34 : am_dc 112 34 = some (.istore 4, 36, 0) := by decide +kernel
theorem dc_112_36 : am_dc 112 36 = some (.iload 4, 38, 0) := by decide +kernel
theorem dc_112_38 : am_dc 112 38 = some (.ifCond .ne 17, 41, 55) := by decide +kernel
theorem dc_112_41 : am_dc 112 41 = some (.aload_n 0, 42, 0) := by decide +kernel
theorem dc_112_42 : am_dc 112 42 = some (.getfield 11, 45, 0) := by decide +kernel
theorem dc_112_45 : am_dc 112 45 = some (.iload_n 2, 46, 0) := by decide +kernel
theorem dc_112_46 : am_dc 112 46 = some (.aaload, 47, 0) := by decide +kernel
theorem dc_112_47 : am_dc 112 47 = some (.invokevirtual 99, 50, 0) := by decide +kernel
theorem dc_112_50 : am_dc 112 50 = some (.ifCond .ne 5, 53, 55) := by decide +kernel
theorem dc_112_53 : am_dc 112 53 = some (.iconst 0, 54, 0) := by decide +kernel
theorem dc_112_54 : am_dc 112 54 = some (.ireturn, 55, 0) := by decide +kernel
theorem dc_112_55 : am_dc 112 55 = some (.iinc 2 1, 58, 0) := by decide +kernel
theorem dc_112_58 : am_dc 112 58 = some (.goto (-56), 61, 2) := by decide +kernel
theorem dc_112_61 : am_dc 112 61 = some (.iconst 1, 62, 0) := by decide +kernel
theorem dc_112_62 : am_dc 112 62 = some (.ireturn, 63, 0) := by decide +kernel
theorem dc_113_0 : am_dc 113 0 = some (.aload_n 0, 1, 0) := by decide +kernel
theorem dc_113_1 : am_dc 113 1 = some (.iload_n 1, 2, 0) := by decide +kernel
theorem dc_113_2 : am_dc 113 2 = some (.putfield 90, 5, 0) := by decide +kernel
theorem dc_113_5 : am_dc 113 5 = some (.aload_n 0, 6, 0) := by decide +kernel
theorem dc_113_6 : am_dc 113 6 = some (.aload_n 0, 7, 0) := by decide +kernel
theorem dc_113_7 : am_dc 113 7 = some (.getfield 38, 10, 0) := by decide +kernel
theorem dc_113_10 : am_dc 113 10 = some (.iload_n 1, 11, 0) := by decide +kernel
theorem dc_113_11 : am_dc 113 11 = some (.invokevirtual 93, 14, 0) := by decide +kernel
theorem dc_113_14 : am_dc 113 14 = some (.putfield 97, 17, 0) := by decide +kernel
theorem dc_113_17 : am_dc 113 17 = some (.aload_n 0, 18, 0) := by decide +kernel
theorem dc_113_18 : am_dc 113 18 = some (.bipush (-4), 20, 0) := by decide +kernel
theorem dc_113_20 : am_dc 113 20 = some (.putfield 101, 23, 0) := by decide +kernel
theorem dc_113_23 : am_dc 113 23 = some (.aload_n 0, 24, 0) := by decide +kernel
theorem dc_113_24 : am_dc 113 24 = some (.lconst 0, 25, 0) := by decide +kernel
theorem dc_113_25 : am_dc 113 25 = some (.putfield 104, 28, 0) := by decide +kernel
theorem dc_113_28 : am_dc 113 28 = some (.aload_n 0, 29, 0) := by decide +kernel
theorem dc_113_29 : am_dc 113 29 = some (.getfield 38, 32, 0) := by decide +kernel
theorem dc_113_32 : am_dc 113 32 = some (.iload_n 1, 33, 0) := by decide +kernel
theorem dc_113_33 : am_dc 113 33 = some (.invokevirtual 107, 36, 0) := by decide +kernel
theorem dc_113_36 : am_dc 113 36 = some (.istore_n 2, 37, 0) := by decide +kernel
theorem dc_113_37 : am_dc 113 37 = some (.aload_n 0, 38, 0) := by decide +kernel
theorem dc_113_38 : am_dc 113 38 = some (.getfield 38, 41, 0) := by decide +kernel
theorem dc_113_41 : am_dc 113 41 = some (.iload_n 2, 42, 0) := by decide +kernel
theorem dc_113_42 : am_dc 113 42 = some (.invokevirtual 110, 45, 0) := by decide +kernel
theorem dc_113_45 : am_dc 113 45 = some (.istore_n 3, 46, 0) := by decide +kernel
theorem dc_113_46 : am_dc 113 46 = some (.iconst 0, 47, 0) := by decide +kernel
theorem dc_113_47 : am_dc 113 47 = some (.istore 4, 49, 0) := by decide +kernel
theorem dc_113_49 : am_dc 113 49 = some (.iload 4, 51, 0) := by decide +kernel
theorem dc_113_51 : am_dc 113 51 = some (.aload_n 0, 52, 0) := by decide +kernel
theorem dc_113_52 : am_dc 113 52 = some (.getfield 38, 55, 0) := by decide +kernel
theorem dc_113_55 : am_dc 113 55 = some (.getfield 52, 58, 0) := by decide +kernel
theorem dc_113_58 : am_dc 113 58 = some (.if_icmp .ge 157, 61, 215) := by decide +kernel
theorem dc_113_61 : am_dc 113 61 = some (.aload_n 0, 62, 0) := by decide +kernel
theorem dc_113_62 : am_dc 113 62 = some (.getfield 22, 65, 0) := by decide +kernel
theorem dc_113_65 : am_dc 113 65 = some (.iload 4, 67, 0) := by decide +kernel
theorem dc_113_67 : am_dc 113 67 = some (.aload_n 0, 68, 0) := by decide +kernel
theorem dc_113_68 : am_dc 113 68 = some (.getfield 38, 71, 0) := by decide +kernel
theorem dc_113_71 : am_dc 113 71 = some (.iload_n 2, 72, 0) := by decide +kernel
theorem dc_113_72 : am_dc 113 72 = some (.iload_n 3, 73, 0) := by decide +kernel
theorem dc_113_73 : am_dc 113 73 = some (.iload 4, 75, 0) := by decide +kernel
theorem dc_113_75 : am_dc 113 75 = some (.invokevirtual 113, 78, 0) := by decide +kernel
theorem dc_113_78 : am_dc 113 78 = some (.bastore, 79, 0) := by decide +kernel
theorem dc_113_79 : am_dc 113 79 = some (.iconst 0, 80, 0) := by decide +kernel
theorem dc_113_80 : am_dc 113 80 = some (.istore 5, 82, 0) := by decide +kernel
theorem dc_113_82 : am_dc 113 82 = some (.iload 5, 84, 0) := by decide +kernel
theorem dc_113_84 : am_dc 113 84 = some (.aload_n 0, 85, 0) := by decide +kernel
theorem dc_113_85 : am_dc 113 85 = some (.getfield 38, 88, 0) := by decide +kernel
theorem dc_113_88 : am_dc 113 88 = some (.getfield 56, 91, 0) := by decide +kernel
theorem dc_113_91 : am_dc 113 91 = some (.iload 4, 93, 0) := by decide +kernel
theorem dc_113_93 : am_dc 113 93 = some (.aaload, 94, 0) := by decide +kernel
theorem dc_113_94 : am_dc 113 94 = some (.invokevirtual 117, 97, 0) := by decide +kernel
theorem dc_113_97 : am_dc 113 97 = some (.if_icmp .ge 57, 100, 154) := by decide +kernel
theorem dc_113_100 : am_dc 113 100 = some (.aload_n 0, 101, 0) := by decide +kernel
theorem dc_113_101 : am_dc 113 101 = some (.getfield 26, 104, 0) := by decide +kernel
theorem dc_113_104 : am_dc 113 104 = some (.iload 4, 106, 0) := by decide +kernel
theorem dc_113_106 : am_dc 113 106 = some (.iconst 4, 107, 0) := by decide +kernel
theorem dc_113_107 : am_dc 113 107 = some (.imul, 108, 0) := by decide +kernel
theorem dc_113_108 : am_dc 113 108 = some (.iload 5, 110, 0) := by decide +kernel
theorem dc_113_110 : am_dc 113 110 = some (.iadd, 111, 0) := by decide +kernel
theorem dc_113_111 : am_dc 113 111 = some (.aload_n 0, 112, 0) := by decide +kernel
theorem dc_113_112 : am_dc 113 112 = some (.getfield 38, 115, 0) := by decide +kernel
theorem dc_113_115 : am_dc 113 115 = some (.iload_n 1, 116, 0) := by decide +kernel
theorem dc_113_116 : am_dc 113 116 = some (.iload 4, 118, 0) := by decide +kernel
theorem dc_113_118 : am_dc 113 118 = some (.iload 5, 120, 0) := by decide +kernel
theorem dc_113_120 : am_dc 113 120 = some (.invokevirtual 120, 123, 0) := by decide +kernel
theorem dc_113_123 : am_dc 113 123 = some (.iastore, 124, 0) := by decide +kernel
theorem dc_113_124 : am_dc 113 124 = some (.aload_n 0, 125, 0) := by decide +kernel
theorem dc_113_125 : am_dc 113 125 = some (.getfield 29, 128, 0) := by decide +kernel
theorem dc_113_128 : am_dc 113 128 = some (.iload 4, 130, 0) := by decide +kernel
theorem dc_113_130 : am_dc 113 130 = some (.iconst 4, 131, 0) := by decide +kernel
theorem dc_113_131 : am_dc 113 131 = some (.imul, 132, 0) := by decide +kernel
theorem dc_113_132 : am_dc 113 132 = some (.iload 5, 134, 0) := by decide +kernel
theorem dc_113_134 : am_dc 113 134 = some (.iadd, 135, 0) := by decide +kernel
theorem dc_113_135 : am_dc 113 135 = some (.aload_n 0, 136, 0) := by decide +kernel
theorem dc_113_136 : am_dc 113 136 = some (.getfield 38, 139, 0) := by decide +kernel
theorem dc_113_139 : am_dc 113 139 = some (.iload_n 1, 140, 0) := by decide +kernel
theorem dc_113_140 : am_dc 113 140 = some (.iload 4, 142, 0) := by decide +kernel
theorem dc_113_142 : am_dc 113 142 = some (.iload 5, 144, 0) := by decide +kernel
theorem dc_113_144 : am_dc 113 144 = some (.invokevirtual 124, 147, 0) := by decide +kernel
theorem dc_113_147 : am_dc 113 147 = some (.iastore, 148, 0) := by decide +kernel
theorem dc_113_148 : am_dc 113 148 = some (.iinc 5 1, 151, 0) := by decide +kernel
theorem dc_113_151 : am_dc 113 151 = some (.goto (-69), 154, 82) := by decide +kernel
theorem dc_113_154 : am_dc 113 154 = some (.aload_n 0, 155, 0) := by decide +kernel
theorem dc_113_155 : am_dc 113 155 = some (.getfield 38, 158, 0) := by decide +kernel
theorem dc_113_158 : am_dc 113 158 = some (.getfield 56, 161, 0) := by decide +kernel
theorem dc_113_161 : am_dc 113 161 = some (.iload 4, 163, 0) := by decide +kernel
theorem dc_113_163 : am_dc 113 163 = some (.aaload, 164, 0) := by decide +kernel
theorem dc_113_164 : am_dc 113 164 = some (.invokevirtual 127, 167, 0) := by decide +kernel
theorem dc_113_167 : am_dc 113 167 = some (.ifCond .eq 42, 170, 209) := by decide +kernel
theorem dc_113_170 : am_dc 113 170 = some (.aload_n 0, 171, 0) := by decide +kernel
theorem dc_113_171 : am_dc 113 171 = some (.iload 4, 173, 0) := by decide +kernel
theorem dc_113_173 : am_dc 113 173 = some (.invokevirtual 131, 176, 0) := by decide +kernel
theorem dc_113_176 : am_dc 113 176 = some (.ifCond .eq 33, 179, 209) := by decide +kernel
theorem dc_113_179 : am_dc 113 179 = some (.aload_n 0, 180, 0) := by decide +kernel
theorem dc_113_180 : am_dc 113 180 = some (.iload 4, 182, 0) := by decide +kernel
theorem dc_113_182 : am_dc 113 182 = some (.invokevirtual 134, 185, 0) := by decide +kernel
theorem dc_113_185 : am_dc 113 185 = some (.aload_n 0, 186, 0) := by decide +kernel
theorem dc_113_186 : am_dc 113 186 = some (.getfield 104, 189, 0) := by decide +kernel
theorem dc_113_189 : am_dc 113 189 = some (.lcmp, 190, 0) := by decide +kernel
theorem dc_113_190 : am_dc 113 190 = some (.ifCond .le 19, 193, 209) := by decide +kernel
theorem dc_113_193 : am_dc 113 193 = some (.aload_n 0, 194, 0) := by decide +kernel
theorem dc_113_194 : am_dc 113 194 = some (.iload 4, 196, 0) := by decide +kernel
theorem dc_113_196 : am_dc 113 196 = some (.putfield 101, 199, 0) := by decide +kernel
theorem dc_113_199 : am_dc 113 199 = some (.aload_n 0, 200, 0) := by decide +kernel
theorem dc_113_200 : am_dc 113 200 = some (.aload_n 0, 201, 0) := by decide +kernel
theorem dc_113_201 : am_dc 113 201 = some (.iload 4, 203, 0) := by decide +kernel
theorem dc_113_203 : am_dc 113 203 = some (.invokevirtual 134, 206, 0) := by decide +kernel
theorem dc_113_206 : am_dc 113 206 = some (.putfield 104, 209, 0) := by decide +kernel
theorem dc_113_209 : am_dc 113 209 = some (.iinc 4 1, 212, 0) := by decide +kernel
theorem dc_113_212 : am_dc 113 212 = some (.goto (-163), 215, 49) := by decide +kernel
theorem dc_113_215 : am_dc 113 215 = some (.return_, 216, 0) := by decide +kernel
theorem dc_114_0 : am_dc 114 0 = some (.iconst 1, 1, 0) := by decide +kernel
theorem dc_114_1 : am_dc 114 1 = some (.ireturn, 2, 0) := by decide +kernel
theorem dc_115_0 : am_dc 115 0 = some (.iconst 0, 1, 0) := by decide +kernel
theorem dc_115_1 : am_dc 115 1 = some (.ireturn, 2, 0) := by decide +kernel
theorem dc_116_0 : am_dc 116 0 = some (.aload_n 0, 1, 0) := by decide +kernel
theorem dc_116_1 : am_dc 116 1 = some (.getfield 90, 4, 0) := by decide +kernel
theorem dc_116_4 : am_dc 116 4 = some (.iload_n 1, 5, 0) := by decide +kernel
theorem dc_116_5 : am_dc 116 5 = some (.invokestatic 154, 8, 0) := by decide +kernel
theorem dc_116_8 : am_dc 116 8 = some (.ifCond .ne 7, 11, 15) := by decide +kernel
theorem dc_116_11 : am_dc 116 11 = some (.iconst 1, 12, 0) := by decide +kernel
theorem dc_116_12 : am_dc 116 12 = some (.goto 4, 15, 16) := by decide +kernel
theorem dc_116_15 : am_dc 116 15 = some (.iconst 0, 16, 0) := by decide +kernel
theorem dc_116_16 : am_dc 116 16 = some (.ireturn, 17, 0) := by decide +kernel
theorem dc_117_0 : am_dc 117 0 = some (.lconst 0, 1, 0) := by decide +kernel
theorem dc_117_1 : am_dc 117 1 = some (.lstore_n 2, 2, 0) := by decide +kernel
theorem dc_117_2 : am_dc 117 2 = some (.iconst 0, 3, 0) := by decide +kernel
theorem dc_117_3 : am_dc 117 3 = some (.istore 4, 5, 0) := by decide +kernel
theorem dc_117_5 : am_dc 117 5 = some (.iload 4, 7, 0) := by decide +kernel
theorem dc_117_7 : am_dc 117 7 = some (.aload_n 0, 8, 0) := by decide +kernel
theorem dc_117_8 : am_dc 117 8 = some (.getfield 38, 11, 0) := by decide +kernel
theorem dc_117_11 : am_dc 117 11 = some (.getfield 56, 14, 0) := by decide +kernel
theorem dc_117_14 : am_dc 117 14 = some (.iload_n 1, 15, 0) := by decide +kernel
theorem dc_117_15 : am_dc 117 15 = some (.aaload, 16, 0) := by decide +kernel
theorem dc_117_16 : am_dc 117 16 = some (.invokevirtual 117, 19, 0) := by decide +kernel
theorem dc_117_19 : am_dc 117 19 = some (.if_icmp .ge 41, 22, 60) := by decide +kernel
theorem dc_117_22 : am_dc 117 22 = some (.lload_n 2, 23, 0) := by decide +kernel
theorem dc_117_23 : am_dc 117 23 = some (.aload_n 0, 24, 0) := by decide +kernel
theorem dc_117_24 : am_dc 117 24 = some (.getfield 26, 27, 0) := by decide +kernel
theorem dc_117_27 : am_dc 117 27 = some (.iload_n 1, 28, 0) := by decide +kernel
theorem dc_117_28 : am_dc 117 28 = some (.iconst 4, 29, 0) := by decide +kernel
theorem dc_117_29 : am_dc 117 29 = some (.imul, 30, 0) := by decide +kernel
theorem dc_117_30 : am_dc 117 30 = some (.iload 4, 32, 0) := by decide +kernel
theorem dc_117_32 : am_dc 117 32 = some (.iadd, 33, 0) := by decide +kernel
theorem dc_117_33 : am_dc 117 33 = some (.iaload, 34, 0) := by decide +kernel
theorem dc_117_34 : am_dc 117 34 = some (.i2l, 35, 0) := by decide +kernel
theorem dc_117_35 : am_dc 117 35 = some (.aload_n 0, 36, 0) := by decide +kernel
theorem dc_117_36 : am_dc 117 36 = some (.getfield 38, 39, 0) := by decide +kernel
theorem dc_117_39 : am_dc 117 39 = some (.getfield 56, 42, 0) := by decide +kernel
theorem dc_117_42 : am_dc 117 42 = some (.iload_n 1, 43, 0) := by decide +kernel
theorem dc_117_43 : am_dc 117 43 = some (.aaload, 44, 0) := by decide +kernel
theorem dc_117_44 : am_dc 117 44 = some (.getfield 160, 47, 0) := by decide +kernel
theorem dc_117_47 : am_dc 117 47 = some (.iload 4, 49, 0) := by decide +kernel
theorem dc_117_49 : am_dc 117 49 = some (.iaload, 50, 0) := by decide +kernel
theorem dc_117_50 : am_dc 117 50 = some (.i2l, 51, 0) := by decide +kernel
theorem dc_117_51 : am_dc 117 51 = some (.lmul, 52, 0) := by decide +kernel
theorem dc_117_52 : am_dc 117 52 = some (.ladd, 53, 0) := by decide +kernel
theorem dc_117_53 : am_dc 117 53 = some (.lstore_n 2, 54, 0) := by decide +kernel
theorem dc_117_54 : am_dc 117 54 = some (.iinc 4 1, 57, 0) := by decide +kernel
theorem dc_117_57 : am_dc 117 57 = some (.goto (-52), 60, 5) := by decide +kernel
theorem dc_117_60 : am_dc 117 60 = some (.aload_n 0, 61, 0) := by decide +kernel
theorem dc_117_61 : am_dc 117 61 = some (.getfield 97, 64, 0) := by decide +kernel
theorem dc_117_64 : am_dc 117 64 = some (.ldc2_w 161, 67, 0) := by decide +kernel
theorem dc_117_67 : am_dc 117 67 = some (.ldiv, 68, 0) := by decide +kernel
theorem dc_117_68 : am_dc 117 68 = some (.lload_n 2, 69, 0) := by decide +kernel
theorem dc_117_69 : am_dc 117 69 = some (.lmul, 70, 0) := by decide +kernel
theorem dc_117_70 : am_dc 117 70 = some (.lreturn, 71, 0) := by decide +kernel
theorem dc_118_0 : am_dc 118 0 = some (.iconst 0, 1, 0) := by decide +kernel
theorem dc_118_1 : am_dc 118 1 = some (.istore_n 2, 2, 0) := by decide +kernel
theorem dc_118_2 : am_dc 118 2 = some (.iconst 0, 3, 0) := by decide +kernel
theorem dc_118_3 : am_dc 118 3 = some (.istore_n 3, 4, 0) := by decide +kernel
theorem dc_118_4 : am_dc 118 4 = some (.iload_n 3, 5, 0) := by decide +kernel
theorem dc_118_5 : am_dc 118 5 = some (.aload_n 0, 6, 0) := by decide +kernel
theorem dc_118_6 : am_dc 118 6 = some (.getfield 44, 9, 0) := by decide +kernel
theorem dc_118_9 : am_dc 118 9 = some (.if_icmp .ge 53, 12, 62) := by decide +kernel
theorem dc_118_12 : am_dc 118 12 = some (.aload_n 0, 13, 0) := by decide +kernel
theorem dc_118_13 : am_dc 118 13 = some (.iload_n 1, 14, 0) := by decide +kernel
theorem dc_118_14 : am_dc 118 14 = some (.iload_n 3, 15, 0) := by decide +kernel
theorem dc_118_15 : am_dc 118 15 = some (.invokevirtual 95, 18, 0) := by decide +kernel
theorem dc_118_18 : am_dc 118 18 = some (.ifCond .eq 38, 21, 56) := by decide +kernel
theorem dc_118_21 : am_dc 118 21 = some (.iconst 0, 22, 0) := by decide +kernel
theorem dc_118_22 : am_dc 118 22 = some (.istore 4, 24, 0) := by decide +kernel
theorem dc_118_24 : am_dc 118 24 = some (.iload 4, 26, 0) := by decide +kernel
theorem dc_118_26 : am_dc 118 26 = some (.aload_n 0, 27, 0) := by decide +kernel
theorem dc_118_27 : am_dc 118 27 = some (.getfield 11, 30, 0) := by decide +kernel
theorem dc_118_30 : am_dc 118 30 = some (.iload_n 3, 31, 0) := by decide +kernel
theorem dc_118_31 : am_dc 118 31 = some (.aaload, 32, 0) := by decide +kernel
theorem dc_118_32 : am_dc 118 32 = some (.invokevirtual 74, 35, 0) := by decide +kernel
theorem dc_118_35 : am_dc 118 35 = some (.if_icmp .ge 21, 38, 56) := by decide +kernel
theorem dc_118_38 : am_dc 118 38 = some (.iload_n 2, 39, 0) := by decide +kernel
theorem dc_118_39 : am_dc 118 39 = some (.iconst 1, 40, 0) := by decide +kernel
theorem dc_118_40 : am_dc 118 40 = some (.aload_n 0, 41, 0) := by decide +kernel
theorem dc_118_41 : am_dc 118 41 = some (.iload_n 3, 42, 0) := by decide +kernel
theorem dc_118_42 : am_dc 118 42 = some (.iload 4, 44, 0) := by decide +kernel
theorem dc_118_44 : am_dc 118 44 = some (.invokevirtual 103, 47, 0) := by decide +kernel
theorem dc_118_47 : am_dc 118 47 = some (.ishl, 48, 0) := by decide +kernel
theorem dc_118_48 : am_dc 118 48 = some (.ior, 49, 0) := by decide +kernel
theorem dc_118_49 : am_dc 118 49 = some (.istore_n 2, 50, 0) := by decide +kernel
theorem dc_118_50 : am_dc 118 50 = some (.iinc 4 1, 53, 0) := by decide +kernel
theorem dc_118_53 : am_dc 118 53 = some (.goto (-29), 56, 24) := by decide +kernel
theorem dc_118_56 : am_dc 118 56 = some (.iinc 3 1, 59, 0) := by decide +kernel
theorem dc_118_59 : am_dc 118 59 = some (.goto (-55), 62, 4) := by decide +kernel
theorem dc_118_62 : am_dc 118 62 = some (.iload_n 2, 63, 0) := by decide +kernel
theorem dc_118_63 : am_dc 118 63 = some (.ifCond .ne 7, 66, 70) := by decide +kernel
theorem dc_118_66 : am_dc 118 66 = some (.iconst 1, 67, 0) := by decide +kernel
theorem dc_118_67 : am_dc 118 67 = some (.goto 4, 70, 71) := by decide +kernel
theorem dc_118_70 : am_dc 118 70 = some (.iload_n 2, 71, 0) := by decide +kernel
theorem dc_118_71 : am_dc 118 71 = some (.ireturn, 72, 0) := by decide +kernel
theorem dc_119_0 : am_dc 119 0 = some (.aload_n 0, 1, 0) := by decide +kernel
theorem dc_119_1 : am_dc 119 1 = some (.iload_n 1, 2, 0) := by decide +kernel
theorem dc_119_2 : am_dc 119 2 = some (.invokevirtual 137, 5, 0) := by decide +kernel
theorem dc_119_5 : am_dc 119 5 = some (.lstore_n 2, 6, 0) := by decide +kernel
