/-! the instructions of the methods -/
theorem dc_27_21 : am_dc 27 21 = some (.aload_n 0, 22, 0) := by decide +kernel
theorem dc_27_22 : am_dc 27 22 = some (.getfield 31, 25, 0) := by decide +kernel
theorem dc_27_25 : am_dc 27 25 = some (.if_icmp .ge 34, 28, 59) := by decide +kernel
theorem dc_27_28 : am_dc 27 28 = some (.aload_n 0, 29, 0) := by decide +kernel
theorem dc_27_29 : am_dc 27 29 = some (.getfield 46, 32, 0) := by decide +kernel
theorem dc_27_32 : am_dc 27 32 = some (.istore_n 3, 33, 0) := by decide +kernel
theorem dc_27_33 : am_dc 27 33 = some (.aload_n 0, 34, 0) := by decide +kernel
theorem dc_27_34 : am_dc 27 34 = some (.invokevirtual 53, 37, 0) := by decide +kernel
theorem dc_27_37 : am_dc 27 37 = some (.aload_n 0, 38, 0) := by decide +kernel
theorem dc_27_38 : am_dc 27 38 = some (.invokevirtual 56, 41, 0) := by decide +kernel
theorem dc_27_41 : am_dc 27 41 = some (.ifCond .ne 9, 44, 50) := by decide +kernel
theorem dc_27_44 : am_dc 27 44 = some (.sipush (-2000), 47, 0) := by decide +kernel
theorem dc_27_47 : am_dc 27 47 = some (.iload_n 3, 48, 0) := by decide +kernel
theorem dc_27_48 : am_dc 27 48 = some (.isub, 49, 0) := by decide +kernel
theorem dc_27_49 : am_dc 27 49 = some (.ireturn, 50, 0) := by decide +kernel
theorem dc_27_50 : am_dc 27 50 = some (.iinc 1 1, 53, 0) := by decide +kernel
theorem dc_27_53 : am_dc 27 53 = some (.iinc 2 1, 56, 0) := by decide +kernel
theorem dc_27_56 : am_dc 27 56 = some (.goto (-47), 59, 9) := by decide +kernel
theorem dc_27_59 : am_dc 27 59 = some (.iload_n 1, 60, 0) := by decide +kernel
theorem dc_27_60 : am_dc 27 60 = some (.ireturn, 61, 0) := by decide +kernel
theorem dc_28_0 : am_dc 28 0 = some (.aload_n 0, 1, 0) := by decide +kernel
theorem dc_28_1 : am_dc 28 1 = some (.getfield 67, 4, 0) := by decide +kernel
theorem dc_28_4 : am_dc 28 4 = some (.bipush 108, 6, 0) := by decide +kernel
theorem dc_28_6 : am_dc 28 6 = some (.if_icmp .ne 27, 9, 33) := by decide +kernel
theorem dc_28_9 : am_dc 28 9 = some (.aload_n 0, 10, 0) := by decide +kernel
theorem dc_28_10 : am_dc 28 10 = some (.getfield 73, 13, 0) := by decide +kernel
theorem dc_28_13 : am_dc 28 13 = some (.bipush 99, 15, 0) := by decide +kernel
theorem dc_28_15 : am_dc 28 15 = some (.if_icmp .le 5, 18, 20) := by decide +kernel
theorem dc_28_18 : am_dc 28 18 = some (.iconst 0, 19, 0) := by decide +kernel
theorem dc_28_19 : am_dc 28 19 = some (.ireturn, 20, 0) := by decide +kernel
theorem dc_28_20 : am_dc 28 20 = some (.aload_n 0, 21, 0) := by decide +kernel
theorem dc_28_21 : am_dc 28 21 = some (.getfield 18, 24, 0) := by decide +kernel
theorem dc_28_24 : am_dc 28 24 = some (.aload_n 0, 25, 0) := by decide +kernel
theorem dc_28_25 : am_dc 28 25 = some (.getfield 73, 28, 0) := by decide +kernel
theorem dc_28_28 : am_dc 28 28 = some (.putfield 104, 31, 0) := by decide +kernel
theorem dc_28_31 : am_dc 28 31 = some (.iconst 1, 32, 0) := by decide +kernel
theorem dc_28_32 : am_dc 28 32 = some (.ireturn, 33, 0) := by decide +kernel
theorem dc_28_33 : am_dc 28 33 = some (.aload_n 0, 34, 0) := by decide +kernel
theorem dc_28_34 : am_dc 28 34 = some (.getfield 18, 37, 0) := by decide +kernel
theorem dc_28_37 : am_dc 28 37 = some (.getfield 107, 40, 0) := by decide +kernel
theorem dc_28_40 : am_dc 28 40 = some (.iconst 5, 41, 0) := by decide +kernel
theorem dc_28_41 : am_dc 28 41 = some (.if_icmp .ge 26, 44, 67) := by decide +kernel
theorem dc_28_44 : am_dc 28 44 = some (.aload_n 0, 45, 0) := by decide +kernel
theorem dc_28_45 : am_dc 28 45 = some (.getfield 83, 48, 0) := by decide +kernel
theorem dc_28_48 : am_dc 28 48 = some (.bipush 9, 50, 0) := by decide +kernel
theorem dc_28_50 : am_dc 28 50 = some (.if_icmp .gt 17, 53, 67) := by decide +kernel
theorem dc_28_53 : am_dc 28 53 = some (.aload_n 0, 54, 0) := by decide +kernel
theorem dc_28_54 : am_dc 28 54 = some (.invokevirtual 110, 57, 0) := by decide +kernel
theorem dc_28_57 : am_dc 28 57 = some (.ifCond .eq 10, 60, 67) := by decide +kernel
theorem dc_28_60 : am_dc 28 60 = some (.aload_n 0, 61, 0) := by decide +kernel
theorem dc_28_61 : am_dc 28 61 = some (.invokevirtual 113, 64, 0) := by decide +kernel
theorem dc_28_64 : am_dc 28 64 = some (.ifCond .ne 5, 67, 69) := by decide +kernel
theorem dc_28_67 : am_dc 28 67 = some (.iconst 0, 68, 0) := by decide +kernel
theorem dc_28_68 : am_dc 28 68 = some (.ireturn, 69, 0) := by decide +kernel
theorem dc_28_69 : am_dc 28 69 = some (.aload_n 0, 70, 0) := by decide +kernel
theorem dc_28_70 : am_dc 28 70 = some (.getfield 18, 73, 0) := by decide +kernel
theorem dc_28_73 : am_dc 28 73 = some (.aload_n 0, 74, 0) := by decide +kernel
theorem dc_28_74 : am_dc 28 74 = some (.invokevirtual 116, 77, 0) := by decide +kernel
theorem dc_28_77 : am_dc 28 77 = some (.invokevirtual 120, 80, 0) := by decide +kernel
theorem dc_28_80 : am_dc 28 80 = some (.iconst 1, 81, 0) := by decide +kernel
theorem dc_28_81 : am_dc 28 81 = some (.ireturn, 82, 0) := by decide +kernel
theorem dc_29_0 : am_dc 29 0 = some (.aload_n 0, 1, 0) := by decide +kernel
theorem dc_29_1 : am_dc 29 1 = some (.getfield 95, 4, 0) := by decide +kernel
theorem dc_29_4 : am_dc 29 4 = some (.iconst 1, 5, 0) := by decide +kernel
theorem dc_29_5 : am_dc 29 5 = some (.if_icmp .lt 11, 8, 16) := by decide +kernel
theorem dc_29_8 : am_dc 29 8 = some (.aload_n 0, 9, 0) := by decide +kernel
theorem dc_29_9 : am_dc 29 9 = some (.getfield 95, 12, 0) := by decide +kernel
theorem dc_29_12 : am_dc 29 12 = some (.iconst 4, 13, 0) := by decide +kernel
theorem dc_29_13 : am_dc 29 13 = some (.if_icmp .le 5, 16, 18) := by decide +kernel
theorem dc_29_16 : am_dc 29 16 = some (.iconst 0, 17, 0) := by decide +kernel
theorem dc_29_17 : am_dc 29 17 = some (.ireturn, 18, 0) := by decide +kernel
theorem dc_29_18 : am_dc 29 18 = some (.iconst 0, 19, 0) := by decide +kernel
theorem dc_29_19 : am_dc 29 19 = some (.istore_n 1, 20, 0) := by decide +kernel
theorem dc_29_20 : am_dc 29 20 = some (.iload_n 1, 21, 0) := by decide +kernel
theorem dc_29_21 : am_dc 29 21 = some (.aload_n 0, 22, 0) := by decide +kernel
theorem dc_29_22 : am_dc 29 22 = some (.getfield 95, 25, 0) := by decide +kernel
theorem dc_29_25 : am_dc 29 25 = some (.if_icmp .ge 42, 28, 67) := by decide +kernel
theorem dc_29_28 : am_dc 29 28 = some (.aload_n 0, 29, 0) := by decide +kernel
theorem dc_29_29 : am_dc 29 29 = some (.getfield 25, 32, 0) := by decide +kernel
theorem dc_29_32 : am_dc 29 32 = some (.iload_n 1, 33, 0) := by decide +kernel
theorem dc_29_33 : am_dc 29 33 = some (.iaload, 34, 0) := by decide +kernel
theorem dc_29_34 : am_dc 29 34 = some (.iconst 1, 35, 0) := by decide +kernel
theorem dc_29_35 : am_dc 29 35 = some (.if_icmp .lt 24, 38, 59) := by decide +kernel
theorem dc_29_38 : am_dc 29 38 = some (.iload_n 1, 39, 0) := by decide +kernel
theorem dc_29_39 : am_dc 29 39 = some (.ifCond .le 22, 42, 61) := by decide +kernel
theorem dc_29_42 : am_dc 29 42 = some (.aload_n 0, 43, 0) := by decide +kernel
theorem dc_29_43 : am_dc 29 43 = some (.getfield 22, 46, 0) := by decide +kernel
theorem dc_29_46 : am_dc 29 46 = some (.iload_n 1, 47, 0) := by decide +kernel
theorem dc_29_47 : am_dc 29 47 = some (.iaload, 48, 0) := by decide +kernel
theorem dc_29_48 : am_dc 29 48 = some (.aload_n 0, 49, 0) := by decide +kernel
theorem dc_29_49 : am_dc 29 49 = some (.getfield 22, 52, 0) := by decide +kernel
theorem dc_29_52 : am_dc 29 52 = some (.iload_n 1, 53, 0) := by decide +kernel
theorem dc_29_53 : am_dc 29 53 = some (.iconst 1, 54, 0) := by decide +kernel
theorem dc_29_54 : am_dc 29 54 = some (.isub, 55, 0) := by decide +kernel
theorem dc_29_55 : am_dc 29 55 = some (.iaload, 56, 0) := by decide +kernel
theorem dc_29_56 : am_dc 29 56 = some (.if_icmp .lt 5, 59, 61) := by decide +kernel
theorem dc_29_59 : am_dc 29 59 = some (.iconst 0, 60, 0) := by decide +kernel
theorem dc_29_60 : am_dc 29 60 = some (.ireturn, 61, 0) := by decide +kernel
theorem dc_29_61 : am_dc 29 61 = some (.iinc 1 1, 64, 0) := by decide +kernel
theorem dc_29_64 : am_dc 29 64 = some (.goto (-44), 67, 20) := by decide +kernel
theorem dc_29_67 : am_dc 29 67 = some (.aload_n 0, 68, 0) := by decide +kernel
theorem dc_29_68 : am_dc 29 68 = some (.getfield 25, 71, 0) := by decide +kernel
theorem dc_29_71 : am_dc 29 71 = some (.aload_n 0, 72, 0) := by decide +kernel
theorem dc_29_72 : am_dc 29 72 = some (.getfield 95, 75, 0) := by decide +kernel
theorem dc_29_75 : am_dc 29 75 = some (.invokestatic 124, 78, 0) := by decide +kernel
theorem dc_29_78 : am_dc 29 78 = some (.ireturn, 79, 0) := by decide +kernel
theorem dc_30_0 : am_dc 30 0 = some (.iconst 0, 1, 0) := by decide +kernel
theorem dc_30_1 : am_dc 30 1 = some (.istore_n 2, 2, 0) := by decide +kernel
theorem dc_30_2 : am_dc 30 2 = some (.iconst 0, 3, 0) := by decide +kernel
theorem dc_30_3 : am_dc 30 3 = some (.istore_n 3, 4, 0) := by decide +kernel
theorem dc_30_4 : am_dc 30 4 = some (.iload_n 3, 5, 0) := by decide +kernel
theorem dc_30_5 : am_dc 30 5 = some (.iload_n 1, 6, 0) := by decide +kernel
theorem dc_30_6 : am_dc 30 6 = some (.if_icmp .ge 15, 9, 21) := by decide +kernel
theorem dc_30_9 : am_dc 30 9 = some (.iload_n 2, 10, 0) := by decide +kernel
theorem dc_30_10 : am_dc 30 10 = some (.aload_n 0, 11, 0) := by decide +kernel
theorem dc_30_11 : am_dc 30 11 = some (.iload_n 3, 12, 0) := by decide +kernel
theorem dc_30_12 : am_dc 30 12 = some (.iaload, 13, 0) := by decide +kernel
theorem dc_30_13 : am_dc 30 13 = some (.iadd, 14, 0) := by decide +kernel
theorem dc_30_14 : am_dc 30 14 = some (.istore_n 2, 15, 0) := by decide +kernel
theorem dc_30_15 : am_dc 30 15 = some (.iinc 3 1, 18, 0) := by decide +kernel
theorem dc_30_18 : am_dc 30 18 = some (.goto (-14), 21, 4) := by decide +kernel
theorem dc_30_21 : am_dc 30 21 = some (.iload_n 2, 22, 0) := by decide +kernel
theorem dc_30_22 : am_dc 30 22 = some (.bipush 100, 24, 0) := by decide +kernel
theorem dc_30_24 : am_dc 30 24 = some (.if_icmp .ne 7, 27, 31) := by decide +kernel
theorem dc_30_27 : am_dc 30 27 = some (.iconst 1, 28, 0) := by decide +kernel
theorem dc_30_28 : am_dc 30 28 = some (.goto 4, 31, 32) := by decide +kernel
theorem dc_30_31 : am_dc 30 31 = some (.iconst 0, 32, 0) := by decide +kernel
theorem dc_30_32 : am_dc 30 32 = some (.ireturn, 33, 0) := by decide +kernel
theorem dc_31_0 : am_dc 31 0 = some (.aload_n 0, 1, 0) := by decide +kernel
theorem dc_31_1 : am_dc 31 1 = some (.getfield 98, 4, 0) := by decide +kernel
theorem dc_31_4 : am_dc 31 4 = some (.tableswitch 98 60 64 #[36, 98, 48, 98, 75], 40, 0) := by decide +kernel
theorem dc_31_40 : am_dc 31 40 = some (.aload_n 0, 41, 0) := by decide +kernel
theorem dc_31_41 : am_dc 31 41 = some (.getfield 18, 44, 0) := by decide +kernel
theorem dc_31_44 : am_dc 31 44 = some (.aload_n 0, 45, 0) := by decide +kernel
theorem dc_31_45 : am_dc 31 45 = some (.getfield 73, 48, 0) := by decide +kernel
theorem dc_31_48 : am_dc 31 48 = some (.invokevirtual 128, 51, 0) := by decide +kernel
theorem dc_31_51 : am_dc 31 51 = some (.ireturn, 52, 0) := by decide +kernel
theorem dc_31_52 : am_dc 31 52 = some (.aload_n 0, 53, 0) := by decide +kernel
theorem dc_31_53 : am_dc 31 53 = some (.invokevirtual 131, 56, 0) := by decide +kernel
theorem dc_31_56 : am_dc 31 56 = some (.ifCond .eq 21, 59, 77) := by decide +kernel
theorem dc_31_59 : am_dc 31 59 = some (.aload_n 0, 60, 0) := by decide +kernel
theorem dc_31_60 : am_dc 31 60 = some (.getfield 28, 63, 0) := by decide +kernel
theorem dc_31_63 : am_dc 31 63 = some (.aload_n 0, 64, 0) := by decide +kernel
theorem dc_31_64 : am_dc 31 64 = some (.getfield 101, 67, 0) := by decide +kernel
theorem dc_31_67 : am_dc 31 67 = some (.invokestatic 124, 70, 0) := by decide +kernel
theorem dc_31_70 : am_dc 31 70 = some (.ifCond .eq 7, 73, 77) := by decide +kernel
theorem dc_31_73 : am_dc 31 73 = some (.iconst 1, 74, 0) := by decide +kernel
theorem dc_31_74 : am_dc 31 74 = some (.goto 4, 77, 78) := by decide +kernel
theorem dc_31_77 : am_dc 31 77 = some (.iconst 0, 78, 0) := by decide +kernel
theorem dc_31_78 : am_dc 31 78 = some (.ireturn, 79, 0) := by decide +kernel
theorem dc_31_79 : am_dc 31 79 = some (.aload_n 0, 80, 0) := by decide +kernel
theorem dc_31_80 : am_dc 31 80 = some (.getfield 73, 83, 0) := by decide +kernel
theorem dc_31_83 : am_dc 31 83 = some (.iconst 1, 84, 0) := by decide +kernel
theorem dc_31_84 : am_dc 31 84 = some (.if_icmp .lt 16, 87, 100) := by decide +kernel
theorem dc_31_87 : am_dc 31 87 = some (.aload_n 0, 88, 0) := by decide +kernel
theorem dc_31_88 : am_dc 31 88 = some (.getfield 73, 91, 0) := by decide +kernel
theorem dc_31_91 : am_dc 31 91 = some (.bipush 99, 93, 0) := by decide +kernel
theorem dc_31_93 : am_dc 31 93 = some (.if_icmp .gt 7, 96, 100) := by decide +kernel
theorem dc_31_96 : am_dc 31 96 = some (.iconst 1, 97, 0) := by decide +kernel
theorem dc_31_97 : am_dc 31 97 = some (.goto 4, 100, 101) := by decide +kernel
theorem dc_31_100 : am_dc 31 100 = some (.iconst 0, 101, 0) := by decide +kernel
theorem dc_31_101 : am_dc 31 101 = some (.ireturn, 102, 0) := by decide +kernel
theorem dc_31_102 : am_dc 31 102 = some (.iconst 1, 103, 0) := by decide +kernel
theorem dc_31_103 : am_dc 31 103 = some (.ireturn, 104, 0) := by decide +kernel
theorem dc_32_0 : am_dc 32 0 = some (.iload_n 1, 1, 0) := by decide +kernel
theorem dc_32_1 : am_dc 32 1 = some (.ifCond .lt 15, 4, 16) := by decide +kernel
theorem dc_32_4 : am_dc 32 4 = some (.iload_n 1, 5, 0) := by decide +kernel
theorem dc_32_5 : am_dc 32 5 = some (.aload_n 0, 6, 0) := by decide +kernel
theorem dc_32_6 : am_dc 32 6 = some (.getfield 44, 9, 0) := by decide +kernel
theorem dc_32_9 : am_dc 32 9 = some (.if_icmp .ge 7, 12, 16) := by decide +kernel
theorem dc_32_12 : am_dc 32 12 = some (.iconst 1, 13, 0) := by decide +kernel
theorem dc_32_13 : am_dc 32 13 = some (.goto 4, 16, 17) := by decide +kernel
theorem dc_32_16 : am_dc 32 16 = some (.iconst 0, 17, 0) := by decide +kernel
theorem dc_32_17 : am_dc 32 17 = some (.ireturn, 18, 0) := by decide +kernel
theorem dc_33_0 : am_dc 33 0 = some (.aload_n 0, 1, 0) := by decide +kernel
theorem dc_33_1 : am_dc 33 1 = some (.getfield 18, 4, 0) := by decide +kernel
theorem dc_33_4 : am_dc 33 4 = some (.aload_n 0, 5, 0) := by decide +kernel
theorem dc_33_5 : am_dc 33 5 = some (.getfield 73, 8, 0) := by decide +kernel
theorem dc_33_8 : am_dc 33 8 = some (.invokevirtual 128, 11, 0) := by decide +kernel
theorem dc_33_11 : am_dc 33 11 = some (.ifCond .eq 64, 14, 75) := by decide +kernel
theorem dc_33_14 : am_dc 33 14 = some (.aload_n 0, 15, 0) := by decide +kernel
theorem dc_33_15 : am_dc 33 15 = some (.getfield 18, 18, 0) := by decide +kernel
theorem dc_33_18 : am_dc 33 18 = some (.getfield 134, 21, 0) := by decide +kernel
theorem dc_33_21 : am_dc 33 21 = some (.aload_n 0, 22, 0) := by decide +kernel
theorem dc_33_22 : am_dc 33 22 = some (.getfield 73, 25, 0) := by decide +kernel
theorem dc_33_25 : am_dc 33 25 = some (.aaload, 26, 0) := by decide +kernel
theorem dc_33_26 : am_dc 33 26 = some (.invokevirtual 138, 29, 0) := by decide +kernel
theorem dc_33_29 : am_dc 33 29 = some (.ifCond .ne 46, 32, 75) := by decide +kernel
theorem dc_33_32 : am_dc 33 32 = some (.aload_n 0, 33, 0) := by decide +kernel
theorem dc_33_33 : am_dc 33 33 = some (.getfield 18, 36, 0) := by decide +kernel
theorem dc_33_36 : am_dc 33 36 = some (.getfield 143, 39, 0) := by decide +kernel
theorem dc_33_39 : am_dc 33 39 = some (.aload_n 0, 40, 0) := by decide +kernel
theorem dc_33_40 : am_dc 33 40 = some (.getfield 73, 43, 0) := by decide +kernel
theorem dc_33_43 : am_dc 33 43 = some (.iaload, 44, 0) := by decide +kernel
theorem dc_33_44 : am_dc 33 44 = some (.bipush (-4), 46, 0) := by decide +kernel
theorem dc_33_46 : am_dc 33 46 = some (.if_icmp .ne 29, 49, 75) := by decide +kernel
theorem dc_33_49 : am_dc 33 49 = some (.aload_n 0, 50, 0) := by decide +kernel
theorem dc_33_50 : am_dc 33 50 = some (.getfield 101, 53, 0) := by decide +kernel
theorem dc_33_53 : am_dc 33 53 = some (.aload_n 0, 54, 0) := by decide +kernel
theorem dc_33_54 : am_dc 33 54 = some (.getfield 18, 57, 0) := by decide +kernel
theorem dc_33_57 : am_dc 33 57 = some (.getfield 134, 60, 0) := by decide +kernel
theorem dc_33_60 : am_dc 33 60 = some (.aload_n 0, 61, 0) := by decide +kernel
theorem dc_33_61 : am_dc 33 61 = some (.getfield 73, 64, 0) := by decide +kernel
theorem dc_33_64 : am_dc 33 64 = some (.aaload, 65, 0) := by decide +kernel
theorem dc_33_65 : am_dc 33 65 = some (.invokevirtual 146, 68, 0) := by decide +kernel
theorem dc_33_68 : am_dc 33 68 = some (.if_icmp .ne 7, 71, 75) := by decide +kernel
theorem dc_33_71 : am_dc 33 71 = some (.iconst 1, 72, 0) := by decide +kernel
theorem dc_33_72 : am_dc 33 72 = some (.goto 4, 75, 76) := by decide +kernel
theorem dc_33_75 : am_dc 33 75 = some (.iconst 0, 76, 0) := by decide +kernel
theorem dc_33_76 : am_dc 33 76 = some (.ireturn, 77, 0) := by decide +kernel
theorem dc_34_0 : am_dc 34 0 = some (.iconst 1, 1, 0) := by decide +kernel
theorem dc_34_1 : am_dc 34 1 = some (.ireturn, 2, 0) := by decide +kernel
theorem dc_35_0 : am_dc 35 0 = some (.iconst 0, 1, 0) := by decide +kernel
theorem dc_35_1 : am_dc 35 1 = some (.ireturn, 2, 0) := by decide +kernel
theorem dc_36_0 : am_dc 36 0 = some (.aload_n 0, 1, 0) := by decide +kernel
theorem dc_36_1 : am_dc 36 1 = some (.getfield 18, 4, 0) := by decide +kernel
theorem dc_36_4 : am_dc 36 4 = some (.getfield 107, 7, 0) := by decide +kernel
theorem dc_36_7 : am_dc 36 7 = some (.istore_n 1, 8, 0) := by decide +kernel
theorem dc_36_8 : am_dc 36 8 = some (.aload_n 0, 9, 0) := by decide +kernel
theorem dc_36_9 : am_dc 36 9 = some (.getfield 22, 12, 0) := by decide +kernel
theorem dc_36_12 : am_dc 36 12 = some (.aload_n 0, 13, 0) := by decide +kernel
theorem dc_36_13 : am_dc 36 13 = some (.getfield 95, 16, 0) := by decide +kernel
theorem dc_36_16 : am_dc 36 16 = some (.invokestatic 148, 19, 0) := by decide +kernel
theorem dc_36_19 : am_dc 36 19 = some (.astore_n 2, 20, 0) := by decide +kernel
theorem dc_36_20 : am_dc 36 20 = some (.aload_n 0, 21, 0) := by decide +kernel
theorem dc_36_21 : am_dc 36 21 = some (.getfield 25, 24, 0) := by decide +kernel
theorem dc_36_24 : am_dc 36 24 = some (.aload_n 0, 25, 0) := by decide +kernel
theorem dc_36_25 : am_dc 36 25 = some (.getfield 95, 28, 0) := by decide +kernel
theorem dc_36_28 : am_dc 36 28 = some (.invokestatic 148, 31, 0) := by decide +kernel
theorem dc_36_31 : am_dc 36 31 = some (.astore_n 3, 32, 0) := by decide +kernel
theorem dc_36_32 : am_dc 36 32 = some (.aload_n 0, 33, 0) := by decide +kernel
theorem dc_36_33 : am_dc 36 33 = some (.getfield 98, 36, 0) := by decide +kernel
theorem dc_36_36 : am_dc 36 36 = some (.lookupswitch 174 #[(33, 75), (60, 94), (62, 117), (63, 52), (64, 151)], 88, 0) := by decide +kernel
theorem dc_36_88 : am_dc 36 88 = some (.new 154, 91, 0) := by decide +kernel
theorem dc_36_91 : am_dc 36 91 = some (.dup, 92, 0) := by decide +kernel
theorem dc_36_92 : am_dc 36 92 = some (.iload_n 1, 93, 0) := by decide +kernel
theorem dc_36_93 : am_dc 36 93 = some (.aload_n 0, 94, 0) := by decide +kernel
theorem dc_36_94 : am_dc 36 94 = some (.getfield 80, 97, 0) := by decide +kernel
theorem dc_36_97 : am_dc 36 97 = some (.aload_n 0, 98, 0) := by decide +kernel
theorem dc_36_98 : am_dc 36 98 = some (.getfield 83, 101, 0) := by decide +kernel
theorem dc_36_101 : am_dc 36 101 = some (.aload_n 2, 102, 0) := by decide +kernel
theorem dc_36_102 : am_dc 36 102 = some (.aload_n 3, 103, 0) := by decide +kernel
theorem dc_36_103 : am_dc 36 103 = some (.aload_n 0, 104, 0) := by decide +kernel
theorem dc_36_104 : am_dc 36 104 = some (.getfield 73, 107, 0) := by decide +kernel
theorem dc_36_107 : am_dc 36 107 = some (.invokespecial 156, 110, 0) := by decide +kernel
theorem dc_36_110 : am_dc 36 110 = some (.areturn, 111, 0) := by decide +kernel
theorem dc_36_111 : am_dc 36 111 = some (.new 159, 114, 0) := by decide +kernel
theorem dc_36_114 : am_dc 36 114 = some (.dup, 115, 0) := by decide +kernel
theorem dc_36_115 : am_dc 36 115 = some (.iload_n 1, 116, 0) := by decide +kernel
theorem dc_36_116 : am_dc 36 116 = some (.aload_n 0, 117, 0) := by decide +kernel
theorem dc_36_117 : am_dc 36 117 = some (.getfield 80, 120, 0) := by decide +kernel
theorem dc_36_120 : am_dc 36 120 = some (.aload_n 0, 121, 0) := by decide +kernel
theorem dc_36_121 : am_dc 36 121 = some (.getfield 83, 124, 0) := by decide +kernel
theorem dc_36_124 : am_dc 36 124 = some (.aload_n 2, 125, 0) := by decide +kernel
theorem dc_36_125 : am_dc 36 125 = some (.aload_n 3, 126, 0) := by decide +kernel
theorem dc_36_126 : am_dc 36 126 = some (.invokespecial 161, 129, 0) := by decide +kernel
theorem dc_36_129 : am_dc 36 129 = some (.areturn, 130, 0) := by decide +kernel
theorem dc_36_130 : am_dc 36 130 = some (.new 164, 133, 0) := by decide +kernel
theorem dc_36_133 : am_dc 36 133 = some (.dup, 134, 0) := by decide +kernel
theorem dc_36_134 : am_dc 36 134 = some (.iload_n 1, 135, 0) := by decide +kernel
theorem dc_36_135 : am_dc 36 135 = some (.aload_n 0, 136, 0) := by decide +kernel
theorem dc_36_136 : am_dc 36 136 = some (.getfield 80, 139, 0) := by decide +kernel
theorem dc_36_139 : am_dc 36 139 = some (.aload_n 0, 140, 0) := by decide +kernel
theorem dc_36_140 : am_dc 36 140 = some (.getfield 83, 143, 0) := by decide +kernel
theorem dc_36_143 : am_dc 36 143 = some (.aload_n 2, 144, 0) := by decide +kernel
theorem dc_36_144 : am_dc 36 144 = some (.aload_n 3, 145, 0) := by decide +kernel
theorem dc_36_145 : am_dc 36 145 = some (.aload_n 0, 146, 0) := by decide +kernel
theorem dc_36_146 : am_dc 36 146 = some (.getfield 73, 149, 0) := by decide +kernel
theorem dc_36_149 : am_dc 36 149 = some (.invokespecial 166, 152, 0) := by decide +kernel
theorem dc_36_152 : am_dc 36 152 = some (.areturn, 153, 0) := by decide +kernel
theorem dc_36_153 : am_dc 36 153 = some (.new 167, 156, 0) := by decide +kernel
theorem dc_36_156 : am_dc 36 156 = some (.dup, 157, 0) := by decide +kernel
theorem dc_36_157 : am_dc 36 157 = some (.iload_n 1, 158, 0) := by decide +kernel
theorem dc_36_158 : am_dc 36 158 = some (.aload_n 0, 159, 0) := by decide +kernel
theorem dc_36_159 : am_dc 36 159 = some (.getfield 80, 162, 0) := by decide +kernel
theorem dc_36_162 : am_dc 36 162 = some (.aload_n 0, 163, 0) := by decide +kernel
theorem dc_36_163 : am_dc 36 163 = some (.getfield 83, 166, 0) := by decide +kernel
theorem dc_36_166 : am_dc 36 166 = some (.aload_n 2, 167, 0) := by decide +kernel
theorem dc_36_167 : am_dc 36 167 = some (.aload_n 3, 168, 0) := by decide +kernel
theorem dc_36_168 : am_dc 36 168 = some (.aload_n 0, 169, 0) := by decide +kernel
theorem dc_36_169 : am_dc 36 169 = some (.getfield 73, 172, 0) := by decide +kernel
theorem dc_36_172 : am_dc 36 172 = some (.aload_n 0, 173, 0) := by decide +kernel
theorem dc_36_173 : am_dc 36 173 = some (.getfield 28, 176, 0) := by decide +kernel
theorem dc_36_176 : am_dc 36 176 = some (.aload_n 0, 177, 0) := by decide +kernel
theorem dc_36_177 : am_dc 36 177 = some (.getfield 101, 180, 0) := by decide +kernel
theorem dc_36_180 : am_dc 36 180 = some (.invokestatic 148, 183, 0) := by decide +kernel
theorem dc_36_183 : am_dc 36 183 = some (.invokespecial 169, 186, 0) := by decide +kernel
theorem dc_36_186 : am_dc 36 186 = some (.areturn, 187, 0) := by decide +kernel
theorem dc_36_187 : am_dc 36 187 = some (.new 172, 190, 0) := by decide +kernel
theorem dc_36_190 : am_dc 36 190 = some (.dup, 191, 0) := by decide +kernel
theorem dc_36_191 : am_dc 36 191 = some (.iload_n 1, 192, 0) := by decide +kernel
theorem dc_36_192 : am_dc 36 192 = some (.aload_n 0, 193, 0) := by decide +kernel
theorem dc_36_193 : am_dc 36 193 = some (.getfield 80, 196, 0) := by decide +kernel
theorem dc_36_196 : am_dc 36 196 = some (.aload_n 0, 197, 0) := by decide +kernel
theorem dc_36_197 : am_dc 36 197 = some (.getfield 83, 200, 0) := by decide +kernel
theorem dc_36_200 : am_dc 36 200 = some (.aload_n 2, 201, 0) := by decide +kernel
theorem dc_36_201 : am_dc 36 201 = some (.aload_n 3, 202, 0) := by decide +kernel
theorem dc_36_202 : am_dc 36 202 = some (.aload_n 0, 203, 0) := by decide +kernel
theorem dc_36_203 : am_dc 36 203 = some (.getfield 73, 206, 0) := by decide +kernel
theorem dc_36_206 : am_dc 36 206 = some (.invokespecial 174, 209, 0) := by decide +kernel
theorem dc_36_209 : am_dc 36 209 = some (.areturn, 210, 0) := by decide +kernel
theorem dc_36_210 : am_dc 36 210 = some (.new 139, 213, 0) := by decide +kernel
theorem dc_36_213 : am_dc 36 213 = some (.dup, 214, 0) := by decide +kernel
theorem dc_36_214 : am_dc 36 214 = some (.iload_n 1, 215, 0) := by decide +kernel
theorem dc_36_215 : am_dc 36 215 = some (.aload_n 0, 216, 0) := by decide +kernel
theorem dc_36_216 : am_dc 36 216 = some (.getfield 80, 219, 0) := by decide +kernel
theorem dc_36_219 : am_dc 36 219 = some (.aload_n 0, 220, 0) := by decide +kernel
theorem dc_36_220 : am_dc 36 220 = some (.getfield 83, 223, 0) := by decide +kernel
theorem dc_36_223 : am_dc 36 223 = some (.aload_n 2, 224, 0) := by decide +kernel
theorem dc_36_224 : am_dc 36 224 = some (.aload_n 3, 225, 0) := by decide +kernel
theorem dc_36_225 : am_dc 36 225 = some (.invokespecial 175, 228, 0) := by decide +kernel
theorem dc_36_228 : am_dc 36 228 = some (.areturn, 229, 0) := by decide +kernel
theorem dc_37_0 : am_dc 37 0 = some (.iload_n 1, 1, 0) := by decide +kernel
theorem dc_37_1 : am_dc 37 1 = some (.aload_n 0, 2, 0) := by decide +kernel
theorem dc_37_2 : am_dc 37 2 = some (.arraylength, 3, 0) := by decide +kernel
theorem dc_37_3 : am_dc 37 3 = some (.if_icmp .ne 11, 6, 14) := by decide +kernel
theorem dc_37_6 : am_dc 37 6 = some (.aload_n 0, 7, 0) := by decide +kernel
theorem dc_37_7 : am_dc 37 7 = some (.invokevirtual 316, 10, 0) := by decide +kernel
theorem dc_37_10 : am_dc 37 10 = some (.checkcast 317, 13, 0) := by decide +kernel
theorem dc_37_13 : am_dc 37 13 = some (.areturn, 14, 0) := by decide +kernel
theorem dc_37_14 : am_dc 37 14 = some (.iload_n 1, 15, 0) := by decide +kernel
theorem dc_37_15 : am_dc 37 15 = some (.newarray .int, 17, 0) := by decide +kernel
theorem dc_37_17 : am_dc 37 17 = some (.astore_n 2, 18, 0) := by decide +kernel
theorem dc_37_18 : am_dc 37 18 = some (.aload_n 0, 19, 0) := by decide +kernel
theorem dc_37_19 : am_dc 37 19 = some (.iconst 0, 20, 0) := by decide +kernel
theorem dc_37_20 : am_dc 37 20 = some (.aload_n 2, 21, 0) := by decide +kernel
theorem dc_37_21 : am_dc 37 21 = some (.iconst 0, 22, 0) := by decide +kernel
theorem dc_37_22 : am_dc 37 22 = some (.aload_n 0, 23, 0) := by decide +kernel
theorem dc_37_23 : am_dc 37 23 = some (.arraylength, 24, 0) := by decide +kernel
theorem dc_37_24 : am_dc 37 24 = some (.iload_n 1, 25, 0) := by decide +kernel
theorem dc_37_25 : am_dc 37 25 = some (.invokestatic 304, 28, 0) := by decide +kernel
theorem dc_37_28 : am_dc 37 28 = some (.invokestatic 150, 31, 0) := by decide +kernel
theorem dc_37_31 : am_dc 37 31 = some (.aload_n 2, 32, 0) := by decide +kernel
theorem dc_37_32 : am_dc 37 32 = some (.areturn, 33, 0) := by decide +kernel
theorem dc_38_0 : am_dc 38 0 = some (.aload_n 0, 1, 0) := by decide +kernel
theorem dc_38_1 : am_dc 38 1 = some (.iload_n 1, 2, 0) := by decide +kernel
theorem dc_38_2 : am_dc 38 2 = some (.iload_n 2, 3, 0) := by decide +kernel
theorem dc_38_3 : am_dc 38 3 = some (.iload_n 3, 4, 0) := by decide +kernel
theorem dc_38_4 : am_dc 38 4 = some (.aload 4, 6, 0) := by decide +kernel
theorem dc_38_6 : am_dc 38 6 = some (.aload 5, 8, 0) := by decide +kernel
theorem dc_38_8 : am_dc 38 8 = some (.invokespecial 1, 11, 0) := by decide +kernel
theorem dc_38_11 : am_dc 38 11 = some (.aload_n 0, 12, 0) := by decide +kernel
theorem dc_38_12 : am_dc 38 12 = some (.iload 6, 14, 0) := by decide +kernel
theorem dc_38_14 : am_dc 38 14 = some (.putfield 7, 17, 0) := by decide +kernel
theorem dc_38_17 : am_dc 38 17 = some (.return_, 18, 0) := by decide +kernel
theorem dc_39_0 : am_dc 39 0 = some (.aload_n 0, 1, 0) := by decide +kernel
theorem dc_39_1 : am_dc 39 1 = some (.invokespecial 3, 4, 0) := by decide +kernel
theorem dc_39_4 : am_dc 39 4 = some (.aload_n 0, 5, 0) := by decide +kernel
theorem dc_39_5 : am_dc 39 5 = some (.iload_n 1, 6, 0) := by decide +kernel
theorem dc_39_6 : am_dc 39 6 = some (.putfield 9, 9, 0) := by decide +kernel
theorem dc_39_9 : am_dc 39 9 = some (.aload_n 0, 10, 0) := by decide +kernel
theorem dc_39_10 : am_dc 39 10 = some (.iload_n 2, 11, 0) := by decide +kernel
theorem dc_39_11 : am_dc 39 11 = some (.putfield 15, 14, 0) := by decide +kernel
theorem dc_39_14 : am_dc 39 14 = some (.aload_n 0, 15, 0) := by decide +kernel
theorem dc_39_15 : am_dc 39 15 = some (.iload_n 3, 16, 0) := by decide +kernel
theorem dc_39_16 : am_dc 39 16 = some (.putfield 18, 19, 0) := by decide +kernel
theorem dc_39_19 : am_dc 39 19 = some (.aload_n 0, 20, 0) := by decide +kernel
theorem dc_39_20 : am_dc 39 20 = some (.aload 4, 22, 0) := by decide +kernel
theorem dc_39_22 : am_dc 39 22 = some (.putfield 21, 25, 0) := by decide +kernel
theorem dc_39_25 : am_dc 39 25 = some (.aload_n 0, 26, 0) := by decide +kernel
theorem dc_39_26 : am_dc 39 26 = some (.aload 5, 28, 0) := by decide +kernel
theorem dc_39_28 : am_dc 39 28 = some (.putfield 25, 31, 0) := by decide +kernel
theorem dc_39_31 : am_dc 39 31 = some (.return_, 32, 0) := by decide +kernel
theorem dc_40_0 : am_dc 40 0 = some (.aload_n 0, 1, 0) := by decide +kernel
theorem dc_40_1 : am_dc 40 1 = some (.iload_n 1, 2, 0) := by decide +kernel
theorem dc_40_2 : am_dc 40 2 = some (.iload_n 2, 3, 0) := by decide +kernel
theorem dc_40_3 : am_dc 40 3 = some (.iload_n 3, 4, 0) := by decide +kernel
theorem dc_40_4 : am_dc 40 4 = some (.aload 4, 6, 0) := by decide +kernel
theorem dc_40_6 : am_dc 40 6 = some (.aload 5, 8, 0) := by decide +kernel
theorem dc_40_8 : am_dc 40 8 = some (.invokespecial 1, 11, 0) := by decide +kernel
theorem dc_40_11 : am_dc 40 11 = some (.return_, 12, 0) := by decide +kernel
theorem dc_41_0 : am_dc 41 0 = some (.aload_n 0, 1, 0) := by decide +kernel
theorem dc_41_1 : am_dc 41 1 = some (.iload_n 1, 2, 0) := by decide +kernel
theorem dc_41_2 : am_dc 41 2 = some (.iload_n 2, 3, 0) := by decide +kernel
theorem dc_41_3 : am_dc 41 3 = some (.iload_n 3, 4, 0) := by decide +kernel
theorem dc_41_4 : am_dc 41 4 = some (.aload 4, 6, 0) := by decide +kernel
theorem dc_41_6 : am_dc 41 6 = some (.aload 5, 8, 0) := by decide +kernel
theorem dc_41_8 : am_dc 41 8 = some (.invokespecial 1, 11, 0) := by decide +kernel
theorem dc_41_11 : am_dc 41 11 = some (.aload_n 0, 12, 0) := by decide +kernel
theorem dc_41_12 : am_dc 41 12 = some (.iload 6, 14, 0) := by decide +kernel
theorem dc_41_14 : am_dc 41 14 = some (.putfield 7, 17, 0) := by decide +kernel
theorem dc_41_17 : am_dc 41 17 = some (.return_, 18, 0) := by decide +kernel
theorem dc_42_0 : am_dc 42 0 = some (.aload_n 0, 1, 0) := by decide +kernel
theorem dc_42_1 : am_dc 42 1 = some (.iload_n 1, 2, 0) := by decide +kernel
theorem dc_42_2 : am_dc 42 2 = some (.iload_n 2, 3, 0) := by decide +kernel
theorem dc_42_3 : am_dc 42 3 = some (.iload_n 3, 4, 0) := by decide +kernel
theorem dc_42_4 : am_dc 42 4 = some (.aload 4, 6, 0) := by decide +kernel
theorem dc_42_6 : am_dc 42 6 = some (.aload 5, 8, 0) := by decide +kernel
theorem dc_42_8 : am_dc 42 8 = some (.iload 6, 10, 0) := by decide +kernel
theorem dc_42_10 : am_dc 42 10 = some (.invokespecial 1, 13, 0) := by decide +kernel
theorem dc_42_13 : am_dc 42 13 = some (.aload_n 0, 14, 0) := by decide +kernel
theorem dc_42_14 : am_dc 42 14 = some (.aload 7, 16, 0) := by decide +kernel
theorem dc_42_16 : am_dc 42 16 = some (.putfield 7, 19, 0) := by decide +kernel
theorem dc_42_19 : am_dc 42 19 = some (.return_, 20, 0) := by decide +kernel
theorem dc_43_0 : am_dc 43 0 = some (.aload_n 0, 1, 0) := by decide +kernel
theorem dc_43_1 : am_dc 43 1 = some (.iload_n 1, 2, 0) := by decide +kernel
theorem dc_43_2 : am_dc 43 2 = some (.iload_n 2, 3, 0) := by decide +kernel
theorem dc_43_3 : am_dc 43 3 = some (.iload_n 3, 4, 0) := by decide +kernel
theorem dc_43_4 : am_dc 43 4 = some (.aload 4, 6, 0) := by decide +kernel
theorem dc_43_6 : am_dc 43 6 = some (.aload 5, 8, 0) := by decide +kernel
theorem dc_43_8 : am_dc 43 8 = some (.invokespecial 1, 11, 0) := by decide +kernel
theorem dc_43_11 : am_dc 43 11 = some (.aload_n 0, 12, 0) := by decide +kernel
theorem dc_43_12 : am_dc 43 12 = some (.iload 6, 14, 0) := by decide +kernel
theorem dc_43_14 : am_dc 43 14 = some (.putfield 7, 17, 0) := by decide +kernel
theorem dc_43_17 : am_dc 43 17 = some (.return_, 18, 0) := by decide +kernel
theorem dc_44_0 : am_dc 44 0 = some (.aload_n 0, 1, 0) := by decide +kernel
theorem dc_44_1 : am_dc 44 1 = some (.getfield 44, 4, 0) := by decide +kernel
theorem dc_44_4 : am_dc 44 4 = some (.iconst 5, 5, 0) := by decide +kernel
theorem dc_44_5 : am_dc 44 5 = some (.if_icmp .ge 27, 8, 32) := by decide +kernel
theorem dc_44_8 : am_dc 44 8 = some (.aload_n 0, 9, 0) := by decide +kernel
theorem dc_44_9 : am_dc 44 9 = some (.getfield 11, 12, 0) := by decide +kernel
theorem dc_44_12 : am_dc 44 12 = some (.aload_n 0, 13, 0) := by decide +kernel
theorem dc_44_13 : am_dc 44 13 = some (.getfield 44, 16, 0) := by decide +kernel
theorem dc_44_16 : am_dc 44 16 = some (.aload_n 1, 17, 0) := by decide +kernel
theorem dc_44_17 : am_dc 44 17 = some (.aastore, 18, 0) := by decide +kernel
theorem dc_44_18 : am_dc 44 18 = some (.aload_n 0, 19, 0) := by decide +kernel
theorem dc_44_19 : am_dc 44 19 = some (.dup, 20, 0) := by decide +kernel
theorem dc_44_20 : am_dc 44 20 = some (.getfield 44, 23, 0) := by decide +kernel
theorem dc_44_23 : am_dc 44 23 = some (.iconst 1, 24, 0) := by decide +kernel
theorem dc_44_24 : am_dc 44 24 = some (.iadd, 25, 0) := by decide +kernel
theorem dc_44_25 : am_dc 44 25 = some (.putfield 44, 28, 0) := by decide +kernel
theorem dc_44_28 : am_dc 44 28 = some (.aload_n 0, 29, 0) := by decide +kernel
theorem dc_44_29 : am_dc 44 29 = some (.invokevirtual 47, 32, 0) := by decide +kernel
theorem dc_44_32 : am_dc 44 32 = some (.return_, 33, 0) := by decide +kernel
theorem dc_45_0 : am_dc 45 0 = some (.aload_n 0, 1, 0) := by decide +kernel
theorem dc_45_1 : am_dc 45 1 = some (.iconst 0, 2, 0) := by decide +kernel
theorem dc_45_2 : am_dc 45 2 = some (.putfield 42, 5, 0) := by decide +kernel
theorem dc_45_5 : am_dc 45 5 = some (.return_, 6, 0) := by decide +kernel
theorem dc_46_0 : am_dc 46 0 = some (.aload_n 0, 1, 0) := by decide +kernel
theorem dc_46_1 : am_dc 46 1 = some (.getfield 9, 4, 0) := by decide +kernel
theorem dc_46_4 : am_dc 46 4 = some (.iconst 0, 5, 0) := by decide +kernel
theorem dc_46_5 : am_dc 46 5 = some (.invokestatic 24, 8, 0) := by decide +kernel
theorem dc_46_8 : am_dc 46 8 = some (.aload_n 0, 9, 0) := by decide +kernel
theorem dc_46_9 : am_dc 46 9 = some (.iconst 0, 10, 0) := by decide +kernel
theorem dc_46_10 : am_dc 46 10 = some (.putfield 30, 13, 0) := by decide +kernel
theorem dc_46_13 : am_dc 46 13 = some (.return_, 14, 0) := by decide +kernel
theorem dc_47_0 : am_dc 47 0 = some (.aload_n 0, 1, 0) := by decide +kernel
theorem dc_47_1 : am_dc 47 1 = some (.getfield 12, 4, 0) := by decide +kernel
theorem dc_47_4 : am_dc 47 4 = some (.iload_n 1, 5, 0) := by decide +kernel
theorem dc_47_5 : am_dc 47 5 = some (.invokevirtual 94, 8, 0) := by decide +kernel
theorem dc_47_8 : am_dc 47 8 = some (.ifCond .ne 5, 11, 13) := by decide +kernel
theorem dc_47_11 : am_dc 47 11 = some (.iconst (-1), 12, 0) := by decide +kernel
theorem dc_47_12 : am_dc 47 12 = some (.ireturn, 13, 0) := by decide +kernel
theorem dc_47_13 : am_dc 47 13 = some (.aload_n 0, 14, 0) := by decide +kernel
theorem dc_47_14 : am_dc 47 14 = some (.getfield 12, 17, 0) := by decide +kernel
theorem dc_47_17 : am_dc 47 17 = some (.getfield 97, 20, 0) := by decide +kernel
theorem dc_47_20 : am_dc 47 20 = some (.iload_n 1, 21, 0) := by decide +kernel
theorem dc_47_21 : am_dc 47 21 = some (.aaload, 22, 0) := by decide +kernel
theorem dc_47_22 : am_dc 47 22 = some (.astore_n 3, 23, 0) := by decide +kernel
theorem dc_47_23 : am_dc 47 23 = some (.iload_n 2, 24, 0) := by decide +kernel
theorem dc_47_24 : am_dc 47 24 = some (.tableswitch 92 0 5 #[40, 45, 50, 55, 60, 65], 64, 0) := by decide +kernel
theorem dc_47_64 : am_dc 47 64 = some (.aload_n 3, 65, 0) := by decide +kernel
theorem dc_47_65 : am_dc 47 65 = some (.invokevirtual 100, 68, 0) := by decide +kernel
theorem dc_47_68 : am_dc 47 68 = some (.ireturn, 69, 0) := by decide +kernel
theorem dc_47_69 : am_dc 47 69 = some (.aload_n 3, 70, 0) := by decide +kernel
theorem dc_47_70 : am_dc 47 70 = some (.getfield 104, 73, 0) := by decide +kernel
theorem dc_47_73 : am_dc 47 73 = some (.ireturn, 74, 0) := by decide +kernel
theorem dc_47_74 : am_dc 47 74 = some (.aload_n 3, 75, 0) := by decide +kernel
theorem dc_47_75 : am_dc 47 75 = some (.getfield 107, 78, 0) := by decide +kernel
theorem dc_47_78 : am_dc 47 78 = some (.ireturn, 79, 0) := by decide +kernel
theorem dc_47_79 : am_dc 47 79 = some (.aload_n 3, 80, 0) := by decide +kernel
theorem dc_47_80 : am_dc 47 80 = some (.invokevirtual 110, 83, 0) := by decide +kernel
theorem dc_47_83 : am_dc 47 83 = some (.ireturn, 84, 0) := by decide +kernel
theorem dc_47_84 : am_dc 47 84 = some (.aload_n 3, 85, 0) := by decide +kernel
theorem dc_47_85 : am_dc 47 85 = some (.invokevirtual 113, 88, 0) := by decide +kernel
theorem dc_47_88 : am_dc 47 88 = some (.ireturn, 89, 0) := by decide +kernel
theorem dc_47_89 : am_dc 47 89 = some (.aload_n 0, 90, 0) := by decide +kernel
theorem dc_47_90 : am_dc 47 90 = some (.getfield 12, 93, 0) := by decide +kernel
theorem dc_47_93 : am_dc 47 93 = some (.getfield 116, 96, 0) := by decide +kernel
theorem dc_47_96 : am_dc 47 96 = some (.iload_n 1, 97, 0) := by decide +kernel
theorem dc_47_97 : am_dc 47 97 = some (.iaload, 98, 0) := by decide +kernel
theorem dc_47_98 : am_dc 47 98 = some (.ifCond .ge 8, 101, 106) := by decide +kernel
theorem dc_47_101 : am_dc 47 101 = some (.bipush (-4), 103, 0) := by decide +kernel
theorem dc_47_103 : am_dc 47 103 = some (.goto 12, 106, 115) := by decide +kernel
theorem dc_47_106 : am_dc 47 106 = some (.aload_n 0, 107, 0) := by decide +kernel
theorem dc_47_107 : am_dc 47 107 = some (.getfield 12, 110, 0) := by decide +kernel
theorem dc_47_110 : am_dc 47 110 = some (.getfield 116, 113, 0) := by decide +kernel
theorem dc_47_113 : am_dc 47 113 = some (.iload_n 1, 114, 0) := by decide +kernel
theorem dc_47_114 : am_dc 47 114 = some (.iaload, 115, 0) := by decide +kernel
theorem dc_47_115 : am_dc 47 115 = some (.ireturn, 116, 0) := by decide +kernel
theorem dc_47_116 : am_dc 47 116 = some (.iconst (-1), 117, 0) := by decide +kernel
theorem dc_47_117 : am_dc 47 117 = some (.ireturn, 118, 0) := by decide +kernel
theorem dc_48_0 : am_dc 48 0 = some (.iconst 3, 1, 0) := by decide +kernel
theorem dc_48_1 : am_dc 48 1 = some (.ireturn, 2, 0) := by decide +kernel
theorem dc_49_0 : am_dc 49 0 = some (.iconst 2, 1, 0) := by decide +kernel
theorem dc_49_1 : am_dc 49 1 = some (.ireturn, 2, 0) := by decide +kernel
theorem dc_50_0 : am_dc 50 0 = some (.iconst 4, 1, 0) := by decide +kernel
theorem dc_50_1 : am_dc 50 1 = some (.ireturn, 2, 0) := by decide +kernel
theorem dc_51_0 : am_dc 51 0 = some (.iconst 1, 1, 0) := by decide +kernel
theorem dc_51_1 : am_dc 51 1 = some (.ireturn, 2, 0) := by decide +kernel
theorem dc_52_0 : am_dc 52 0 = some (.iconst 5, 1, 0) := by decide +kernel
theorem dc_52_1 : am_dc 52 1 = some (.ireturn, 2, 0) := by decide +kernel
theorem dc_53_0 : am_dc 53 0 = some (.iconst 0, 1, 0) := by decide +kernel
theorem dc_53_1 : am_dc 53 1 = some (.ireturn, 2, 0) := by decide +kernel
theorem dc_54_0 : am_dc 54 0 = some (.aload_n 0, 1, 0) := by decide +kernel
theorem dc_54_1 : am_dc 54 1 = some (.getfield 7, 4, 0) := by decide +kernel
theorem dc_54_4 : am_dc 54 4 = some (.ireturn, 5, 0) := by decide +kernel
theorem dc_55_0 : am_dc 55 0 = some (.aload_n 0, 1, 0) := by decide +kernel
theorem dc_55_1 : am_dc 55 1 = some (.getfield 7, 4, 0) := by decide +kernel
theorem dc_55_4 : am_dc 55 4 = some (.ireturn, 5, 0) := by decide +kernel
theorem dc_56_0 : am_dc 56 0 = some (.aload_n 0, 1, 0) := by decide +kernel
theorem dc_56_1 : am_dc 56 1 = some (.getfield 7, 4, 0) := by decide +kernel
theorem dc_56_4 : am_dc 56 4 = some (.ireturn, 5, 0) := by decide +kernel
theorem dc_57_0 : am_dc 57 0 = some (.bipush (-4), 2, 0) := by decide +kernel
theorem dc_57_2 : am_dc 57 2 = some (.ireturn, 3, 0) := by decide +kernel
theorem dc_58_0 : am_dc 58 0 = some (.aload_n 0, 1, 0) := by decide +kernel
theorem dc_58_1 : am_dc 58 1 = some (.iload_n 1, 2, 0) := by decide +kernel
theorem dc_58_2 : am_dc 58 2 = some (.iload_n 2, 3, 0) := by decide +kernel
theorem dc_58_3 : am_dc 58 3 = some (.invokevirtual 119, 6, 0) := by decide +kernel
theorem dc_58_6 : am_dc 58 6 = some (.ifCond .ne 5, 9, 11) := by decide +kernel
theorem dc_58_9 : am_dc 58 9 = some (.iconst (-1), 10, 0) := by decide +kernel
theorem dc_58_10 : am_dc 58 10 = some (.ireturn, 11, 0) := by decide +kernel
theorem dc_58_11 : am_dc 58 11 = some (.iload_n 3, 12, 0) := by decide +kernel
theorem dc_58_12 : am_dc 58 12 = some (.tableswitch 72 0 2 #[28, 43, 58], 40, 0) := by decide +kernel
theorem dc_58_40 : am_dc 58 40 = some (.aload_n 0, 41, 0) := by decide +kernel
theorem dc_58_41 : am_dc 58 41 = some (.getfield 12, 44, 0) := by decide +kernel
theorem dc_58_44 : am_dc 58 44 = some (.getfield 97, 47, 0) := by decide +kernel
theorem dc_58_47 : am_dc 58 47 = some (.iload_n 1, 48, 0) := by decide +kernel
theorem dc_58_48 : am_dc 58 48 = some (.aaload, 49, 0) := by decide +kernel
theorem dc_58_49 : am_dc 58 49 = some (.getfield 123, 52, 0) := by decide +kernel
theorem dc_58_52 : am_dc 58 52 = some (.iload_n 2, 53, 0) := by decide +kernel
theorem dc_58_53 : am_dc 58 53 = some (.iaload, 54, 0) := by decide +kernel
theorem dc_58_54 : am_dc 58 54 = some (.ireturn, 55, 0) := by decide +kernel
theorem dc_58_55 : am_dc 58 55 = some (.aload_n 0, 56, 0) := by decide +kernel
theorem dc_58_56 : am_dc 58 56 = some (.getfield 12, 59, 0) := by decide +kernel
theorem dc_58_59 : am_dc 58 59 = some (.getfield 97, 62, 0) := by decide +kernel
theorem dc_58_62 : am_dc 58 62 = some (.iload_n 1, 63, 0) := by decide +kernel
theorem dc_58_63 : am_dc 58 63 = some (.aaload, 64, 0) := by decide +kernel
theorem dc_58_64 : am_dc 58 64 = some (.getfield 126, 67, 0) := by decide +kernel
theorem dc_58_67 : am_dc 58 67 = some (.iload_n 2, 68, 0) := by decide +kernel
theorem dc_58_68 : am_dc 58 68 = some (.iaload, 69, 0) := by decide +kernel
theorem dc_58_69 : am_dc 58 69 = some (.ireturn, 70, 0) := by decide +kernel
theorem dc_58_70 : am_dc 58 70 = some (.aload_n 0, 71, 0) := by decide +kernel
theorem dc_58_71 : am_dc 58 71 = some (.getfield 12, 74, 0) := by decide +kernel
theorem dc_58_74 : am_dc 58 74 = some (.getfield 129, 77, 0) := by decide +kernel
theorem dc_58_77 : am_dc 58 77 = some (.iload_n 1, 78, 0) := by decide +kernel
theorem dc_58_78 : am_dc 58 78 = some (.iconst 4, 79, 0) := by decide +kernel
theorem dc_58_79 : am_dc 58 79 = some (.imul, 80, 0) := by decide +kernel
theorem dc_58_80 : am_dc 58 80 = some (.iload_n 2, 81, 0) := by decide +kernel
theorem dc_58_81 : am_dc 58 81 = some (.iadd, 82, 0) := by decide +kernel
theorem dc_58_82 : am_dc 58 82 = some (.iaload, 83, 0) := by decide +kernel
theorem dc_58_83 : am_dc 58 83 = some (.ireturn, 84, 0) := by decide +kernel
theorem dc_58_84 : am_dc 58 84 = some (.iconst (-1), 85, 0) := by decide +kernel
theorem dc_58_85 : am_dc 58 85 = some (.ireturn, 86, 0) := by decide +kernel
theorem dc_59_0 : am_dc 59 0 = some (.aload_n 0, 1, 0) := by decide +kernel
theorem dc_59_1 : am_dc 59 1 = some (.getfield 12, 4, 0) := by decide +kernel
theorem dc_59_4 : am_dc 59 4 = some (.iload_n 1, 5, 0) := by decide +kernel
theorem dc_59_5 : am_dc 59 5 = some (.invokevirtual 94, 8, 0) := by decide +kernel
theorem dc_59_8 : am_dc 59 8 = some (.ifCond .eq 27, 11, 35) := by decide +kernel
theorem dc_59_11 : am_dc 59 11 = some (.iload_n 2, 12, 0) := by decide +kernel
theorem dc_59_12 : am_dc 59 12 = some (.ifCond .lt 23, 15, 35) := by decide +kernel
theorem dc_59_15 : am_dc 59 15 = some (.iload_n 2, 16, 0) := by decide +kernel
theorem dc_59_16 : am_dc 59 16 = some (.aload_n 0, 17, 0) := by decide +kernel
theorem dc_59_17 : am_dc 59 17 = some (.getfield 12, 20, 0) := by decide +kernel
theorem dc_59_20 : am_dc 59 20 = some (.getfield 97, 23, 0) := by decide +kernel
theorem dc_59_23 : am_dc 59 23 = some (.iload_n 1, 24, 0) := by decide +kernel
theorem dc_59_24 : am_dc 59 24 = some (.aaload, 25, 0) := by decide +kernel
theorem dc_59_25 : am_dc 59 25 = some (.invokevirtual 110, 28, 0) := by decide +kernel
theorem dc_59_28 : am_dc 59 28 = some (.if_icmp .ge 7, 31, 35) := by decide +kernel
theorem dc_59_31 : am_dc 59 31 = some (.iconst 1, 32, 0) := by decide +kernel
theorem dc_59_32 : am_dc 59 32 = some (.goto 4, 35, 36) := by decide +kernel
theorem dc_59_35 : am_dc 59 35 = some (.iconst 0, 36, 0) := by decide +kernel
theorem dc_59_36 : am_dc 59 36 = some (.ireturn, 37, 0) := by decide +kernel
theorem dc_60_0 : am_dc 60 0 = some (.aload_n 0, 1, 0) := by decide +kernel
theorem dc_60_1 : am_dc 60 1 = some (.getfield 12, 4, 0) := by decide +kernel
theorem dc_60_4 : am_dc 60 4 = some (.iload_n 1, 5, 0) := by decide +kernel
theorem dc_60_5 : am_dc 60 5 = some (.invokevirtual 94, 8, 0) := by decide +kernel
theorem dc_60_8 : am_dc 60 8 = some (.ifCond .eq 14, 11, 22) := by decide +kernel
theorem dc_60_11 : am_dc 60 11 = some (.iload_n 2, 12, 0) := by decide +kernel
theorem dc_60_12 : am_dc 60 12 = some (.ifCond .lt 10, 15, 22) := by decide +kernel
theorem dc_60_15 : am_dc 60 15 = some (.iload_n 2, 16, 0) := by decide +kernel
theorem dc_60_16 : am_dc 60 16 = some (.sipush 999, 19, 0) := by decide +kernel
theorem dc_60_19 : am_dc 60 19 = some (.if_icmp .le 5, 22, 24) := by decide +kernel
theorem dc_60_22 : am_dc 60 22 = some (.iconst (-1), 23, 0) := by decide +kernel
theorem dc_60_23 : am_dc 60 23 = some (.ireturn, 24, 0) := by decide +kernel
theorem dc_60_24 : am_dc 60 24 = some (.aload_n 0, 25, 0) := by decide +kernel
theorem dc_60_25 : am_dc 60 25 = some (.getfield 12, 28, 0) := by decide +kernel
theorem dc_60_28 : am_dc 60 28 = some (.getfield 97, 31, 0) := by decide +kernel
theorem dc_60_31 : am_dc 60 31 = some (.iload_n 1, 32, 0) := by decide +kernel
theorem dc_60_32 : am_dc 60 32 = some (.aaload, 33, 0) := by decide +kernel
theorem dc_60_33 : am_dc 60 33 = some (.getfield 104, 36, 0) := by decide +kernel
theorem dc_60_36 : am_dc 60 36 = some (.istore_n 3, 37, 0) := by decide +kernel
theorem dc_60_37 : am_dc 60 37 = some (.aload_n 0, 38, 0) := by decide +kernel
theorem dc_60_38 : am_dc 60 38 = some (.getfield 12, 41, 0) := by decide +kernel
theorem dc_60_41 : am_dc 60 41 = some (.iload_n 1, 42, 0) := by decide +kernel
theorem dc_60_42 : am_dc 60 42 = some (.iload_n 2, 43, 0) := by decide +kernel
theorem dc_60_43 : am_dc 60 43 = some (.invokevirtual 132, 46, 0) := by decide +kernel
theorem dc_60_46 : am_dc 60 46 = some (.aload_n 0, 47, 0) := by decide +kernel
theorem dc_60_47 : am_dc 60 47 = some (.getfield 41, 50, 0) := by decide +kernel
theorem dc_60_50 : am_dc 60 50 = some (.invokevirtual 88, 53, 0) := by decide +kernel
theorem dc_60_53 : am_dc 60 53 = some (.iload_n 3, 54, 0) := by decide +kernel
theorem dc_60_54 : am_dc 60 54 = some (.ireturn, 55, 0) := by decide +kernel
theorem dc_61_0 : am_dc 61 0 = some (.aload_n 0, 1, 0) := by decide +kernel
theorem dc_61_1 : am_dc 61 1 = some (.getfield 11, 4, 0) := by decide +kernel
theorem dc_61_4 : am_dc 61 4 = some (.iload_n 1, 5, 0) := by decide +kernel
theorem dc_61_5 : am_dc 61 5 = some (.aload_n 0, 6, 0) := by decide +kernel
theorem dc_61_6 : am_dc 61 6 = some (.getfield 11, 9, 0) := by decide +kernel
theorem dc_61_9 : am_dc 61 9 = some (.iload_n 1, 10, 0) := by decide +kernel
theorem dc_61_10 : am_dc 61 10 = some (.aaload, 11, 0) := by decide +kernel
theorem dc_61_11 : am_dc 61 11 = some (.iload_n 2, 12, 0) := by decide +kernel
theorem dc_61_12 : am_dc 61 12 = some (.invokevirtual 50, 15, 0) := by decide +kernel
theorem dc_61_15 : am_dc 61 15 = some (.aastore, 16, 0) := by decide +kernel
theorem dc_61_16 : am_dc 61 16 = some (.aload_n 0, 17, 0) := by decide +kernel
theorem dc_61_17 : am_dc 61 17 = some (.invokevirtual 47, 20, 0) := by decide +kernel
theorem dc_61_20 : am_dc 61 20 = some (.return_, 21, 0) := by decide +kernel
theorem dc_62_0 : am_dc 62 0 = some (.new 8, 3, 0) := by decide +kernel
theorem dc_62_3 : am_dc 62 3 = some (.dup, 4, 0) := by decide +kernel
theorem dc_62_4 : am_dc 62 4 = some (.aload_n 0, 5, 0) := by decide +kernel
theorem dc_62_5 : am_dc 62 5 = some (.getfield 13, 8, 0) := by decide +kernel
theorem dc_62_8 : am_dc 62 8 = some (.iload_n 1, 9, 0) := by decide +kernel
theorem dc_62_9 : am_dc 62 9 = some (.aload_n 0, 10, 0) := by decide +kernel
theorem dc_62_10 : am_dc 62 10 = some (.getfield 16, 13, 0) := by decide +kernel
theorem dc_62_13 : am_dc 62 13 = some (.aload_n 0, 14, 0) := by decide +kernel
theorem dc_62_14 : am_dc 62 14 = some (.getfield 19, 17, 0) := by decide +kernel
theorem dc_62_17 : am_dc 62 17 = some (.aload_n 0, 18, 0) := by decide +kernel
theorem dc_62_18 : am_dc 62 18 = some (.getfield 23, 21, 0) := by decide +kernel
theorem dc_62_21 : am_dc 62 21 = some (.aload_n 0, 22, 0) := by decide +kernel
theorem dc_62_22 : am_dc 62 22 = some (.getfield 7, 25, 0) := by decide +kernel
theorem dc_62_25 : am_dc 62 25 = some (.invokespecial 26, 28, 0) := by decide +kernel
theorem dc_62_28 : am_dc 62 28 = some (.areturn, 29, 0) := by decide +kernel
theorem dc_63_0 : am_dc 63 0 = some (.new 7, 3, 0) := by decide +kernel
theorem dc_63_3 : am_dc 63 3 = some (.dup, 4, 0) := by decide +kernel
theorem dc_63_4 : am_dc 63 4 = some (.aload_n 0, 5, 0) := by decide +kernel
theorem dc_63_5 : am_dc 63 5 = some (.getfield 9, 8, 0) := by decide +kernel
theorem dc_63_8 : am_dc 63 8 = some (.iload_n 1, 9, 0) := by decide +kernel
theorem dc_63_9 : am_dc 63 9 = some (.aload_n 0, 10, 0) := by decide +kernel
theorem dc_63_10 : am_dc 63 10 = some (.getfield 13, 13, 0) := by decide +kernel
theorem dc_63_13 : am_dc 63 13 = some (.aload_n 0, 14, 0) := by decide +kernel
theorem dc_63_14 : am_dc 63 14 = some (.getfield 16, 17, 0) := by decide +kernel
theorem dc_63_17 : am_dc 63 17 = some (.aload_n 0, 18, 0) := by decide +kernel
theorem dc_63_18 : am_dc 63 18 = some (.getfield 20, 21, 0) := by decide +kernel
theorem dc_63_21 : am_dc 63 21 = some (.invokespecial 23, 24, 0) := by decide +kernel
theorem dc_63_24 : am_dc 63 24 = some (.areturn, 25, 0) := by decide +kernel
theorem dc_64_0 : am_dc 64 0 = some (.new 8, 3, 0) := by decide +kernel
theorem dc_64_3 : am_dc 64 3 = some (.dup, 4, 0) := by decide +kernel
theorem dc_64_4 : am_dc 64 4 = some (.aload_n 0, 5, 0) := by decide +kernel
theorem dc_64_5 : am_dc 64 5 = some (.getfield 13, 8, 0) := by decide +kernel
theorem dc_64_8 : am_dc 64 8 = some (.iload_n 1, 9, 0) := by decide +kernel
theorem dc_64_9 : am_dc 64 9 = some (.aload_n 0, 10, 0) := by decide +kernel
theorem dc_64_10 : am_dc 64 10 = some (.getfield 17, 13, 0) := by decide +kernel
theorem dc_64_13 : am_dc 64 13 = some (.aload_n 0, 14, 0) := by decide +kernel
theorem dc_64_14 : am_dc 64 14 = some (.getfield 20, 17, 0) := by decide +kernel
theorem dc_64_17 : am_dc 64 17 = some (.aload_n 0, 18, 0) := by decide +kernel
theorem dc_64_18 : am_dc 64 18 = some (.getfield 23, 21, 0) := by decide +kernel
theorem dc_64_21 : am_dc 64 21 = some (.aload_n 0, 22, 0) := by decide +kernel
theorem dc_64_22 : am_dc 64 22 = some (.getfield 26, 25, 0) := by decide +kernel
theorem dc_64_25 : am_dc 64 25 = some (.aload_n 0, 26, 0) := by decide +kernel
theorem dc_64_26 : am_dc 64 26 = some (.getfield 7, 29, 0) := by decide +kernel
theorem dc_64_29 : am_dc 64 29 = some (.invokespecial 29, 32, 0) := by decide +kernel
theorem dc_64_32 : am_dc 64 32 = some (.areturn, 33, 0) := by decide +kernel
theorem dc_65_0 : am_dc 65 0 = some (.new 8, 3, 0) := by decide +kernel
theorem dc_65_3 : am_dc 65 3 = some (.dup, 4, 0) := by decide +kernel
theorem dc_65_4 : am_dc 65 4 = some (.aload_n 0, 5, 0) := by decide +kernel
theorem dc_65_5 : am_dc 65 5 = some (.getfield 13, 8, 0) := by decide +kernel
theorem dc_65_8 : am_dc 65 8 = some (.iload_n 1, 9, 0) := by decide +kernel
theorem dc_65_9 : am_dc 65 9 = some (.aload_n 0, 10, 0) := by decide +kernel
theorem dc_65_10 : am_dc 65 10 = some (.getfield 16, 13, 0) := by decide +kernel
theorem dc_65_13 : am_dc 65 13 = some (.aload_n 0, 14, 0) := by decide +kernel
theorem dc_65_14 : am_dc 65 14 = some (.getfield 19, 17, 0) := by decide +kernel
theorem dc_65_17 : am_dc 65 17 = some (.aload_n 0, 18, 0) := by decide +kernel
theorem dc_65_18 : am_dc 65 18 = some (.getfield 23, 21, 0) := by decide +kernel
theorem dc_65_21 : am_dc 65 21 = some (.aload_n 0, 22, 0) := by decide +kernel
theorem dc_65_22 : am_dc 65 22 = some (.getfield 7, 25, 0) := by decide +kernel
theorem dc_65_25 : am_dc 65 25 = some (.invokespecial 26, 28, 0) := by decide +kernel
theorem dc_65_28 : am_dc 65 28 = some (.areturn, 29, 0) := by decide +kernel
theorem dc_66_0 : am_dc 66 0 = some (.new 8, 3, 0) := by decide +kernel
theorem dc_66_3 : am_dc 66 3 = some (.dup, 4, 0) := by decide +kernel
theorem dc_66_4 : am_dc 66 4 = some (.aload_n 0, 5, 0) := by decide +kernel
theorem dc_66_5 : am_dc 66 5 = some (.getfield 13, 8, 0) := by decide +kernel
theorem dc_66_8 : am_dc 66 8 = some (.iload_n 1, 9, 0) := by decide +kernel
theorem dc_66_9 : am_dc 66 9 = some (.aload_n 0, 10, 0) := by decide +kernel
theorem dc_66_10 : am_dc 66 10 = some (.getfield 16, 13, 0) := by decide +kernel
theorem dc_66_13 : am_dc 66 13 = some (.aload_n 0, 14, 0) := by decide +kernel
theorem dc_66_14 : am_dc 66 14 = some (.getfield 19, 17, 0) := by decide +kernel
theorem dc_66_17 : am_dc 66 17 = some (.aload_n 0, 18, 0) := by decide +kernel
theorem dc_66_18 : am_dc 66 18 = some (.getfield 23, 21, 0) := by decide +kernel
theorem dc_66_21 : am_dc 66 21 = some (.aload_n 0, 22, 0) := by decide +kernel
theorem dc_66_22 : am_dc 66 22 = some (.getfield 7, 25, 0) := by decide +kernel
theorem dc_66_25 : am_dc 66 25 = some (.invokespecial 26, 28, 0) := by decide +kernel
theorem dc_66_28 : am_dc 66 28 = some (.areturn, 29, 0) := by decide +kernel
theorem dc_67_0 : am_dc 67 0 = some (.new 10, 3, 0) := by decide +kernel
theorem dc_67_3 : am_dc 67 3 = some (.dup, 4, 0) := by decide +kernel
theorem dc_67_4 : am_dc 67 4 = some (.aload_n 0, 5, 0) := by decide +kernel
theorem dc_67_5 : am_dc 67 5 = some (.getfield 9, 8, 0) := by decide +kernel
theorem dc_67_8 : am_dc 67 8 = some (.iload_n 1, 9, 0) := by decide +kernel
theorem dc_67_9 : am_dc 67 9 = some (.aload_n 0, 10, 0) := by decide +kernel
theorem dc_67_10 : am_dc 67 10 = some (.getfield 18, 13, 0) := by decide +kernel
theorem dc_67_13 : am_dc 67 13 = some (.aload_n 0, 14, 0) := by decide +kernel
theorem dc_67_14 : am_dc 67 14 = some (.getfield 21, 17, 0) := by decide +kernel
theorem dc_67_17 : am_dc 67 17 = some (.aload_n 0, 18, 0) := by decide +kernel
theorem dc_67_18 : am_dc 67 18 = some (.getfield 25, 21, 0) := by decide +kernel
theorem dc_67_21 : am_dc 67 21 = some (.invokespecial 28, 24, 0) := by decide +kernel
theorem dc_67_24 : am_dc 67 24 = some (.areturn, 25, 0) := by decide +kernel
theorem dc_68_0 : am_dc 68 0 = some (.iload_n 1, 1, 0) := by decide +kernel
theorem dc_68_1 : am_dc 68 1 = some (.ifCond .lt 9, 4, 10) := by decide +kernel
theorem dc_68_4 : am_dc 68 4 = some (.iload_n 1, 5, 0) := by decide +kernel
theorem dc_68_5 : am_dc 68 5 = some (.bipush 99, 7, 0) := by decide +kernel
theorem dc_68_7 : am_dc 68 7 = some (.if_icmp .le 5, 10, 12) := by decide +kernel
theorem dc_68_10 : am_dc 68 10 = some (.iconst (-1), 11, 0) := by decide +kernel
theorem dc_68_11 : am_dc 68 11 = some (.ireturn, 12, 0) := by decide +kernel
theorem dc_68_12 : am_dc 68 12 = some (.aload_n 0, 13, 0) := by decide +kernel
theorem dc_68_13 : am_dc 68 13 = some (.getfield 12, 16, 0) := by decide +kernel
theorem dc_68_16 : am_dc 68 16 = some (.getfield 136, 19, 0) := by decide +kernel
theorem dc_68_19 : am_dc 68 19 = some (.istore_n 2, 20, 0) := by decide +kernel
theorem dc_68_20 : am_dc 68 20 = some (.aload_n 0, 21, 0) := by decide +kernel
theorem dc_68_21 : am_dc 68 21 = some (.getfield 12, 24, 0) := by decide +kernel
theorem dc_68_24 : am_dc 68 24 = some (.iload_n 1, 25, 0) := by decide +kernel
theorem dc_68_25 : am_dc 68 25 = some (.putfield 136, 28, 0) := by decide +kernel
theorem dc_68_28 : am_dc 68 28 = some (.aload_n 0, 29, 0) := by decide +kernel
theorem dc_68_29 : am_dc 68 29 = some (.getfield 41, 32, 0) := by decide +kernel
theorem dc_68_32 : am_dc 68 32 = some (.invokevirtual 88, 35, 0) := by decide +kernel
theorem dc_68_35 : am_dc 68 35 = some (.iload_n 2, 36, 0) := by decide +kernel
theorem dc_68_36 : am_dc 68 36 = some (.ireturn, 37, 0) := by decide +kernel
theorem dc_69_0 : am_dc 69 0 = some (.aload_n 0, 1, 0) := by decide +kernel
theorem dc_69_1 : am_dc 69 1 = some (.getfield 12, 4, 0) := by decide +kernel
theorem dc_69_4 : am_dc 69 4 = some (.iload_n 1, 5, 0) := by decide +kernel
theorem dc_69_5 : am_dc 69 5 = some (.invokevirtual 94, 8, 0) := by decide +kernel
theorem dc_69_8 : am_dc 69 8 = some (.ifCond .eq 15, 11, 23) := by decide +kernel
theorem dc_69_11 : am_dc 69 11 = some (.aload_n 0, 12, 0) := by decide +kernel
theorem dc_69_12 : am_dc 69 12 = some (.getfield 19, 15, 0) := by decide +kernel
theorem dc_69_15 : am_dc 69 15 = some (.getfield 139, 18, 0) := by decide +kernel
theorem dc_69_18 : am_dc 69 18 = some (.iload_n 1, 19, 0) := by decide +kernel
theorem dc_69_19 : am_dc 69 19 = some (.iaload, 20, 0) := by decide +kernel
theorem dc_69_20 : am_dc 69 20 = some (.goto 4, 23, 24) := by decide +kernel
theorem dc_69_23 : am_dc 69 23 = some (.iconst (-1), 24, 0) := by decide +kernel
theorem dc_69_24 : am_dc 69 24 = some (.ireturn, 25, 0) := by decide +kernel
theorem dc_70_0 : am_dc 70 0 = some (.aload_n 0, 1, 0) := by decide +kernel
theorem dc_70_1 : am_dc 70 1 = some (.getfield 12, 4, 0) := by decide +kernel
theorem dc_70_4 : am_dc 70 4 = some (.iload_n 1, 5, 0) := by decide +kernel
theorem dc_70_5 : am_dc 70 5 = some (.invokevirtual 94, 8, 0) := by decide +kernel
theorem dc_70_8 : am_dc 70 8 = some (.ifCond .ne 5, 11, 13) := by decide +kernel
theorem dc_70_11 : am_dc 70 11 = some (.iconst (-1), 12, 0) := by decide +kernel
theorem dc_70_12 : am_dc 70 12 = some (.ireturn, 13, 0) := by decide +kernel
theorem dc_70_13 : am_dc 70 13 = some (.aload_n 0, 14, 0) := by decide +kernel
theorem dc_70_14 : am_dc 70 14 = some (.getfield 12, 17, 0) := by decide +kernel
theorem dc_70_17 : am_dc 70 17 = some (.aload_n 0, 18, 0) := by decide +kernel
theorem dc_70_18 : am_dc 70 18 = some (.getfield 19, 21, 0) := by decide +kernel
theorem dc_70_21 : am_dc 70 21 = some (.aload_n 0, 22, 0) := by decide +kernel
theorem dc_70_22 : am_dc 70 22 = some (.getfield 12, 25, 0) := by decide +kernel
theorem dc_70_25 : am_dc 70 25 = some (.invokevirtual 142, 28, 0) := by decide +kernel
theorem dc_70_28 : am_dc 70 28 = some (.iload_n 1, 29, 0) := by decide +kernel
theorem dc_70_29 : am_dc 70 29 = some (.invokevirtual 146, 32, 0) := by decide +kernel
theorem dc_70_32 : am_dc 70 32 = some (.ifCond .eq 7, 35, 39) := by decide +kernel
theorem dc_70_35 : am_dc 70 35 = some (.iconst 1, 36, 0) := by decide +kernel
theorem dc_70_36 : am_dc 70 36 = some (.goto 4, 39, 40) := by decide +kernel
theorem dc_70_39 : am_dc 70 39 = some (.iconst 0, 40, 0) := by decide +kernel
theorem dc_70_40 : am_dc 70 40 = some (.ireturn, 41, 0) := by decide +kernel
theorem dc_71_0 : am_dc 71 0 = some (.iconst 0, 1, 0) := by decide +kernel
theorem dc_71_1 : am_dc 71 1 = some (.istore_n 2, 2, 0) := by decide +kernel
theorem dc_71_2 : am_dc 71 2 = some (.iconst 0, 3, 0) := by decide +kernel
theorem dc_71_3 : am_dc 71 3 = some (.istore_n 3, 4, 0) := by decide +kernel
theorem dc_71_4 : am_dc 71 4 = some (.iload_n 3, 5, 0) := by decide +kernel
theorem dc_71_5 : am_dc 71 5 = some (.aload_n 1, 6, 0) := by decide +kernel
theorem dc_71_6 : am_dc 71 6 = some (.getfield 40, 9, 0) := by decide +kernel
theorem dc_71_9 : am_dc 71 9 = some (.if_icmp .ge 64, 12, 73) := by decide +kernel
theorem dc_71_12 : am_dc 71 12 = some (.aload_n 0, 13, 0) := by decide +kernel
theorem dc_71_13 : am_dc 71 13 = some (.iload_n 3, 14, 0) := by decide +kernel
theorem dc_71_14 : am_dc 71 14 = some (.invokevirtual 45, 17, 0) := by decide +kernel
theorem dc_71_17 : am_dc 71 17 = some (.ifCond .eq 19, 20, 36) := by decide +kernel
theorem dc_71_20 : am_dc 71 20 = some (.aload_n 1, 21, 0) := by decide +kernel
theorem dc_71_21 : am_dc 71 21 = some (.iload_n 2, 22, 0) := by decide +kernel
theorem dc_71_22 : am_dc 71 22 = some (.iload_n 3, 23, 0) := by decide +kernel
theorem dc_71_23 : am_dc 71 23 = some (.aload_n 0, 24, 0) := by decide +kernel
theorem dc_71_24 : am_dc 71 24 = some (.getfield 15, 27, 0) := by decide +kernel
theorem dc_71_27 : am_dc 71 27 = some (.iload_n 3, 28, 0) := by decide +kernel
theorem dc_71_28 : am_dc 71 28 = some (.iaload, 29, 0) := by decide +kernel
theorem dc_71_29 : am_dc 71 29 = some (.invokevirtual 49, 32, 0) := by decide +kernel
theorem dc_71_32 : am_dc 71 32 = some (.istore_n 2, 33, 0) := by decide +kernel
theorem dc_71_33 : am_dc 71 33 = some (.goto 34, 36, 67) := by decide +kernel
theorem dc_71_36 : am_dc 71 36 = some (.aload_n 0, 37, 0) := by decide +kernel
theorem dc_71_37 : am_dc 71 37 = some (.getfield 9, 40, 0) := by decide +kernel
theorem dc_71_40 : am_dc 71 40 = some (.iload_n 3, 41, 0) := by decide +kernel
theorem dc_71_41 : am_dc 71 41 = some (.iaload, 42, 0) := by decide +kernel
theorem dc_71_42 : am_dc 71 42 = some (.ifCond .eq 25, 45, 67) := by decide +kernel
theorem dc_71_45 : am_dc 71 45 = some (.aload_n 1, 46, 0) := by decide +kernel
theorem dc_71_46 : am_dc 71 46 = some (.iload_n 2, 47, 0) := by decide +kernel
theorem dc_71_47 : am_dc 71 47 = some (.iload_n 3, 48, 0) := by decide +kernel
theorem dc_71_48 : am_dc 71 48 = some (.aload_n 0, 49, 0) := by decide +kernel
theorem dc_71_49 : am_dc 71 49 = some (.getfield 9, 52, 0) := by decide +kernel
theorem dc_71_52 : am_dc 71 52 = some (.iload_n 3, 53, 0) := by decide +kernel
theorem dc_71_53 : am_dc 71 53 = some (.iaload, 54, 0) := by decide +kernel
theorem dc_71_54 : am_dc 71 54 = some (.iconst 1, 55, 0) := by decide +kernel
theorem dc_71_55 : am_dc 71 55 = some (.if_icmp .ne 7, 58, 62) := by decide +kernel
theorem dc_71_58 : am_dc 71 58 = some (.iconst 1, 59, 0) := by decide +kernel
theorem dc_71_59 : am_dc 71 59 = some (.goto 4, 62, 63) := by decide +kernel
theorem dc_71_62 : am_dc 71 62 = some (.iconst 0, 63, 0) := by decide +kernel
theorem dc_71_63 : am_dc 71 63 = some (.invokevirtual 53, 66, 0) := by decide +kernel
theorem dc_71_66 : am_dc 71 66 = some (.istore_n 2, 67, 0) := by decide +kernel
theorem dc_71_67 : am_dc 71 67 = some (.iinc 3 1, 70, 0) := by decide +kernel
theorem dc_71_70 : am_dc 71 70 = some (.goto (-66), 73, 4) := by decide +kernel
theorem dc_71_73 : am_dc 71 73 = some (.iload_n 2, 74, 0) := by decide +kernel
theorem dc_71_74 : am_dc 71 74 = some (.ireturn, 75, 0) := by decide +kernel
theorem dc_72_0 : am_dc 72 0 = some (.aload_n 0, 1, 0) := by decide +kernel
theorem dc_72_1 : am_dc 72 1 = some (.getfield 9, 4, 0) := by decide +kernel
theorem dc_72_4 : am_dc 72 4 = some (.iload_n 1, 5, 0) := by decide +kernel
theorem dc_72_5 : am_dc 72 5 = some (.iaload, 6, 0) := by decide +kernel
theorem dc_72_6 : am_dc 72 6 = some (.iconst 3, 7, 0) := by decide +kernel
theorem dc_72_7 : am_dc 72 7 = some (.if_icmp .lt 7, 10, 14) := by decide +kernel
theorem dc_72_10 : am_dc 72 10 = some (.iconst 1, 11, 0) := by decide +kernel
theorem dc_72_11 : am_dc 72 11 = some (.goto 4, 14, 15) := by decide +kernel
theorem dc_72_14 : am_dc 72 14 = some (.iconst 0, 15, 0) := by decide +kernel
theorem dc_72_15 : am_dc 72 15 = some (.ireturn, 16, 0) := by decide +kernel
theorem dc_73_0 : am_dc 73 0 = some (.iload_n 3, 1, 0) := by decide +kernel
theorem dc_73_1 : am_dc 73 1 = some (.ifCond .ne 19, 4, 20) := by decide +kernel
theorem dc_73_4 : am_dc 73 4 = some (.aload_n 0, 5, 0) := by decide +kernel
theorem dc_73_5 : am_dc 73 5 = some (.getfield 11, 8, 0) := by decide +kernel
theorem dc_73_8 : am_dc 73 8 = some (.iload_n 2, 9, 0) := by decide +kernel
theorem dc_73_9 : am_dc 73 9 = some (.aaload, 10, 0) := by decide +kernel
theorem dc_73_10 : am_dc 73 10 = some (.instanceof 60, 13, 0) := by decide +kernel
theorem dc_73_13 : am_dc 73 13 = some (.ifCond .eq 7, 16, 20) := by decide +kernel
theorem dc_73_16 : am_dc 73 16 = some (.iconst 1, 17, 0) := by decide +kernel
theorem dc_73_17 : am_dc 73 17 = some (.goto 4, 20, 21) := by decide +kernel
theorem dc_73_20 : am_dc 73 20 = some (.iconst 3, 21, 0) := by decide +kernel
theorem dc_73_21 : am_dc 73 21 = some (.istore 4, 23, 0) := by decide +kernel
theorem dc_73_23 : am_dc 73 23 = some (.iload_n 1, 24, 0) := by decide +kernel
theorem dc_73_24 : am_dc 73 24 = some (.iload 4, 26, 0) := by decide +kernel
theorem dc_73_26 : am_dc 73 26 = some (.iconst 2, 27, 0) := by decide +kernel
theorem dc_73_27 : am_dc 73 27 = some (.iload_n 2, 28, 0) := by decide +kernel
theorem dc_73_28 : am_dc 73 28 = some (.imul, 29, 0) := by decide +kernel
theorem dc_73_29 : am_dc 73 29 = some (.ishl, 30, 0) := by decide +kernel
theorem dc_73_30 : am_dc 73 30 = some (.ior, 31, 0) := by decide +kernel
theorem dc_73_31 : am_dc 73 31 = some (.ireturn, 32, 0) := by decide +kernel
theorem dc_74_0 : am_dc 74 0 = some (.iload_n 1, 1, 0) := by decide +kernel
theorem dc_74_1 : am_dc 74 1 = some (.iload_n 3, 2, 0) := by decide +kernel
theorem dc_74_2 : am_dc 74 2 = some (.ifCond .eq 7, 5, 9) := by decide +kernel
theorem dc_74_5 : am_dc 74 5 = some (.iconst 1, 6, 0) := by decide +kernel
theorem dc_74_6 : am_dc 74 6 = some (.goto 4, 9, 10) := by decide +kernel
theorem dc_74_9 : am_dc 74 9 = some (.iconst 2, 10, 0) := by decide +kernel
theorem dc_74_10 : am_dc 74 10 = some (.iconst 2, 11, 0) := by decide +kernel
theorem dc_74_11 : am_dc 74 11 = some (.iload_n 2, 12, 0) := by decide +kernel
theorem dc_74_12 : am_dc 74 12 = some (.imul, 13, 0) := by decide +kernel
theorem dc_74_13 : am_dc 74 13 = some (.ishl, 14, 0) := by decide +kernel
theorem dc_74_14 : am_dc 74 14 = some (.ior, 15, 0) := by decide +kernel
theorem dc_74_15 : am_dc 74 15 = some (.ireturn, 16, 0) := by decide +kernel
theorem dc_75_0 : am_dc 75 0 = some (.aload_n 0, 1, 0) := by decide +kernel
theorem dc_75_1 : am_dc 75 1 = some (.iload_n 1, 2, 0) := by decide +kernel
theorem dc_75_2 : am_dc 75 2 = some (.invokevirtual 109, 5, 0) := by decide +kernel
theorem dc_75_5 : am_dc 75 5 = some (.istore_n 3, 6, 0) := by decide +kernel
theorem dc_75_6 : am_dc 75 6 = some (.aload_n 0, 7, 0) := by decide +kernel
theorem dc_75_7 : am_dc 75 7 = some (.iload_n 3, 8, 0) := by decide +kernel
theorem dc_75_8 : am_dc 75 8 = some (.aload_n 0, 9, 0) := by decide +kernel
theorem dc_75_9 : am_dc 75 9 = some (.iload_n 3, 10, 0) := by decide +kernel
theorem dc_75_10 : am_dc 75 10 = some (.invokevirtual 112, 13, 0) := by decide +kernel
theorem dc_75_13 : am_dc 75 13 = some (.iload_n 2, 14, 0) := by decide +kernel
theorem dc_75_14 : am_dc 75 14 = some (.invokevirtual 115, 17, 0) := by decide +kernel
theorem dc_75_17 : am_dc 75 17 = some (.ireturn, 18, 0) := by decide +kernel
theorem dc_76_0 : am_dc 76 0 = some (.iconst 0, 1, 0) := by decide +kernel
theorem dc_76_1 : am_dc 76 1 = some (.istore_n 2, 2, 0) := by decide +kernel
theorem dc_76_2 : am_dc 76 2 = some (.iconst 0, 3, 0) := by decide +kernel
theorem dc_76_3 : am_dc 76 3 = some (.istore_n 3, 4, 0) := by decide +kernel
theorem dc_76_4 : am_dc 76 4 = some (.iload_n 3, 5, 0) := by decide +kernel
theorem dc_76_5 : am_dc 76 5 = some (.aload_n 0, 6, 0) := by decide +kernel
theorem dc_76_6 : am_dc 76 6 = some (.getfield 44, 9, 0) := by decide +kernel
theorem dc_76_9 : am_dc 76 9 = some (.if_icmp .ge 24, 12, 33) := by decide +kernel
theorem dc_76_12 : am_dc 76 12 = some (.aload_n 0, 13, 0) := by decide +kernel
theorem dc_76_13 : am_dc 76 13 = some (.iload_n 1, 14, 0) := by decide +kernel
theorem dc_76_14 : am_dc 76 14 = some (.iload_n 3, 15, 0) := by decide +kernel
theorem dc_76_15 : am_dc 76 15 = some (.invokevirtual 95, 18, 0) := by decide +kernel
theorem dc_76_18 : am_dc 76 18 = some (.ifCond .eq 9, 21, 27) := by decide +kernel
theorem dc_76_21 : am_dc 76 21 = some (.iload_n 2, 22, 0) := by decide +kernel
theorem dc_76_22 : am_dc 76 22 = some (.iconst 1, 23, 0) := by decide +kernel
theorem dc_76_23 : am_dc 76 23 = some (.iload_n 3, 24, 0) := by decide +kernel
theorem dc_76_24 : am_dc 76 24 = some (.ishl, 25, 0) := by decide +kernel
theorem dc_76_25 : am_dc 76 25 = some (.ior, 26, 0) := by decide +kernel
theorem dc_76_26 : am_dc 76 26 = some (.istore_n 2, 27, 0) := by decide +kernel
theorem dc_76_27 : am_dc 76 27 = some (.iinc 3 1, 30, 0) := by decide +kernel
theorem dc_76_30 : am_dc 76 30 = some (.goto (-26), 33, 4) := by decide +kernel
theorem dc_76_33 : am_dc 76 33 = some (.iload_n 2, 34, 0) := by decide +kernel
theorem dc_76_34 : am_dc 76 34 = some (.ireturn, 35, 0) := by decide +kernel
theorem dc_77_0 : am_dc 77 0 = some (.iload_n 1, 1, 0) := by decide +kernel
theorem dc_77_1 : am_dc 77 1 = some (.iconst 2, 2, 0) := by decide +kernel
theorem dc_77_2 : am_dc 77 2 = some (.iload_n 2, 3, 0) := by decide +kernel
theorem dc_77_3 : am_dc 77 3 = some (.imul, 4, 0) := by decide +kernel
theorem dc_77_4 : am_dc 77 4 = some (.ishr, 5, 0) := by decide +kernel
theorem dc_77_5 : am_dc 77 5 = some (.iconst 3, 6, 0) := by decide +kernel
theorem dc_77_6 : am_dc 77 6 = some (.iand, 7, 0) := by decide +kernel
theorem dc_77_7 : am_dc 77 7 = some (.istore_n 3, 8, 0) := by decide +kernel
theorem dc_77_8 : am_dc 77 8 = some (.iload_n 3, 9, 0) := by decide +kernel
theorem dc_77_9 : am_dc 77 9 = some (.iconst 3, 10, 0) := by decide +kernel
theorem dc_77_10 : am_dc 77 10 = some (.if_icmp .eq 20, 13, 30) := by decide +kernel
theorem dc_77_13 : am_dc 77 13 = some (.iload_n 3, 14, 0) := by decide +kernel
theorem dc_77_14 : am_dc 77 14 = some (.iconst 1, 15, 0) := by decide +kernel
theorem dc_77_15 : am_dc 77 15 = some (.if_icmp .ne 19, 18, 34) := by decide +kernel
theorem dc_77_18 : am_dc 77 18 = some (.aload_n 0, 19, 0) := by decide +kernel
theorem dc_77_19 : am_dc 77 19 = some (.getfield 11, 22, 0) := by decide +kernel
theorem dc_77_22 : am_dc 77 22 = some (.iload_n 2, 23, 0) := by decide +kernel
theorem dc_77_23 : am_dc 77 23 = some (.aaload, 24, 0) := by decide +kernel
theorem dc_77_24 : am_dc 77 24 = some (.instanceof 60, 27, 0) := by decide +kernel
theorem dc_77_27 : am_dc 77 27 = some (.ifCond .eq 7, 30, 34) := by decide +kernel
theorem dc_77_30 : am_dc 77 30 = some (.iconst 1, 31, 0) := by decide +kernel
theorem dc_77_31 : am_dc 77 31 = some (.goto 4, 34, 35) := by decide +kernel
theorem dc_77_34 : am_dc 77 34 = some (.iconst 0, 35, 0) := by decide +kernel
theorem dc_77_35 : am_dc 77 35 = some (.ireturn, 36, 0) := by decide +kernel
theorem dc_78_0 : am_dc 78 0 = some (.iconst 0, 1, 0) := by decide +kernel
theorem dc_78_1 : am_dc 78 1 = some (.istore_n 2, 2, 0) := by decide +kernel
theorem dc_78_2 : am_dc 78 2 = some (.iconst 0, 3, 0) := by decide +kernel
theorem dc_78_3 : am_dc 78 3 = some (.istore_n 3, 4, 0) := by decide +kernel
theorem dc_78_4 : am_dc 78 4 = some (.iload_n 3, 5, 0) := by decide +kernel
theorem dc_78_5 : am_dc 78 5 = some (.aload_n 0, 6, 0) := by decide +kernel
theorem dc_78_6 : am_dc 78 6 = some (.getfield 44, 9, 0) := by decide +kernel
theorem dc_78_9 : am_dc 78 9 = some (.if_icmp .ge 29, 12, 38) := by decide +kernel
theorem dc_78_12 : am_dc 78 12 = some (.iload_n 1, 13, 0) := by decide +kernel
theorem dc_78_13 : am_dc 78 13 = some (.iconst 1, 14, 0) := by decide +kernel
theorem dc_78_14 : am_dc 78 14 = some (.iload_n 3, 15, 0) := by decide +kernel
theorem dc_78_15 : am_dc 78 15 = some (.ishl, 16, 0) := by decide +kernel
theorem dc_78_16 : am_dc 78 16 = some (.iand, 17, 0) := by decide +kernel
theorem dc_78_17 : am_dc 78 17 = some (.ifCond .eq 15, 20, 32) := by decide +kernel
theorem dc_78_20 : am_dc 78 20 = some (.iload_n 2, 21, 0) := by decide +kernel
theorem dc_78_21 : am_dc 78 21 = some (.aload_n 0, 22, 0) := by decide +kernel
theorem dc_78_22 : am_dc 78 22 = some (.getfield 11, 25, 0) := by decide +kernel
theorem dc_78_25 : am_dc 78 25 = some (.iload_n 3, 26, 0) := by decide +kernel
theorem dc_78_26 : am_dc 78 26 = some (.aaload, 27, 0) := by decide +kernel
theorem dc_78_27 : am_dc 78 27 = some (.getfield 106, 30, 0) := by decide +kernel
theorem dc_78_30 : am_dc 78 30 = some (.iadd, 31, 0) := by decide +kernel
theorem dc_78_31 : am_dc 78 31 = some (.istore_n 2, 32, 0) := by decide +kernel
theorem dc_78_32 : am_dc 78 32 = some (.iinc 3 1, 35, 0) := by decide +kernel
theorem dc_78_35 : am_dc 78 35 = some (.goto (-31), 38, 4) := by decide +kernel
theorem dc_78_38 : am_dc 78 38 = some (.iload_n 2, 39, 0) := by decide +kernel
theorem dc_78_39 : am_dc 78 39 = some (.ireturn, 40, 0) := by decide +kernel
theorem dc_79_0 : am_dc 79 0 = some (.iload_n 1, 1, 0) := by decide +kernel
theorem dc_79_1 : am_dc 79 1 = some (.iconst 1, 2, 0) := by decide +kernel
theorem dc_79_2 : am_dc 79 2 = some (.iload_n 3, 3, 0) := by decide +kernel
theorem dc_79_3 : am_dc 79 3 = some (.ishl, 4, 0) := by decide +kernel
theorem dc_79_4 : am_dc 79 4 = some (.iand, 5, 0) := by decide +kernel
theorem dc_79_5 : am_dc 79 5 = some (.ifCond .ne 39, 8, 44) := by decide +kernel
theorem dc_79_8 : am_dc 79 8 = some (.iload_n 2, 9, 0) := by decide +kernel
theorem dc_79_9 : am_dc 79 9 = some (.aload_n 0, 10, 0) := by decide +kernel
theorem dc_79_10 : am_dc 79 10 = some (.getfield 11, 13, 0) := by decide +kernel
theorem dc_79_13 : am_dc 79 13 = some (.iload_n 3, 14, 0) := by decide +kernel
theorem dc_79_14 : am_dc 79 14 = some (.aaload, 15, 0) := by decide +kernel
theorem dc_79_15 : am_dc 79 15 = some (.getfield 106, 18, 0) := by decide +kernel
theorem dc_79_18 : am_dc 79 18 = some (.iadd, 19, 0) := by decide +kernel
theorem dc_79_19 : am_dc 79 19 = some (.aload_n 0, 20, 0) := by decide +kernel
theorem dc_79_20 : am_dc 79 20 = some (.getfield 17, 23, 0) := by decide +kernel
theorem dc_79_23 : am_dc 79 23 = some (.if_icmp .gt 21, 26, 44) := by decide +kernel
theorem dc_79_26 : am_dc 79 26 = some (.aload_n 0, 27, 0) := by decide +kernel
theorem dc_79_27 : am_dc 79 27 = some (.getfield 11, 30, 0) := by decide +kernel
theorem dc_79_30 : am_dc 79 30 = some (.iload_n 3, 31, 0) := by decide +kernel
theorem dc_79_31 : am_dc 79 31 = some (.aaload, 32, 0) := by decide +kernel
theorem dc_79_32 : am_dc 79 32 = some (.iload_n 1, 33, 0) := by decide +kernel
theorem dc_79_33 : am_dc 79 33 = some (.iload_n 2, 34, 0) := by decide +kernel
theorem dc_79_34 : am_dc 79 34 = some (.invokevirtual 119, 37, 0) := by decide +kernel
theorem dc_79_37 : am_dc 79 37 = some (.ifCond .eq 7, 40, 44) := by decide +kernel
theorem dc_79_40 : am_dc 79 40 = some (.iconst 1, 41, 0) := by decide +kernel
theorem dc_79_41 : am_dc 79 41 = some (.goto 4, 44, 45) := by decide +kernel
theorem dc_79_44 : am_dc 79 44 = some (.iconst 0, 45, 0) := by decide +kernel
theorem dc_79_45 : am_dc 79 45 = some (.ireturn, 46, 0) := by decide +kernel
theorem dc_80_0 : am_dc 80 0 = some (.iload_n 1, 1, 0) := by decide +kernel
theorem dc_80_1 : am_dc 80 1 = some (.iconst 1, 2, 0) := by decide +kernel
theorem dc_80_2 : am_dc 80 2 = some (.aload_n 0, 3, 0) := by decide +kernel
theorem dc_80_3 : am_dc 80 3 = some (.getfield 7, 6, 0) := by decide +kernel
theorem dc_80_6 : am_dc 80 6 = some (.ishl, 7, 0) := by decide +kernel
theorem dc_80_7 : am_dc 80 7 = some (.iand, 8, 0) := by decide +kernel
theorem dc_80_8 : am_dc 80 8 = some (.ifCond .eq 7, 11, 15) := by decide +kernel
theorem dc_80_11 : am_dc 80 11 = some (.iconst 1, 12, 0) := by decide +kernel
theorem dc_80_12 : am_dc 80 12 = some (.goto 4, 15, 16) := by decide +kernel
theorem dc_80_15 : am_dc 80 15 = some (.iconst 0, 16, 0) := by decide +kernel
theorem dc_80_16 : am_dc 80 16 = some (.ireturn, 17, 0) := by decide +kernel
theorem dc_81_0 : am_dc 81 0 = some (.iconst 1, 1, 0) := by decide +kernel
theorem dc_81_1 : am_dc 81 1 = some (.ireturn, 2, 0) := by decide +kernel
theorem dc_82_0 : am_dc 82 0 = some (.iload_n 2, 1, 0) := by decide +kernel
theorem dc_82_1 : am_dc 82 1 = some (.aload_n 0, 2, 0) := by decide +kernel
theorem dc_82_2 : am_dc 82 2 = some (.getfield 7, 5, 0) := by decide +kernel
theorem dc_82_5 : am_dc 82 5 = some (.if_icmp .ge 7, 8, 12) := by decide +kernel
theorem dc_82_8 : am_dc 82 8 = some (.iconst 1, 9, 0) := by decide +kernel
theorem dc_82_9 : am_dc 82 9 = some (.goto 4, 12, 13) := by decide +kernel
theorem dc_82_12 : am_dc 82 12 = some (.iconst 0, 13, 0) := by decide +kernel
theorem dc_82_13 : am_dc 82 13 = some (.ireturn, 14, 0) := by decide +kernel
theorem dc_83_0 : am_dc 83 0 = some (.iconst 1, 1, 0) := by decide +kernel
theorem dc_83_1 : am_dc 83 1 = some (.ireturn, 2, 0) := by decide +kernel
theorem dc_84_0 : am_dc 84 0 = some (.aload_n 0, 1, 0) := by decide +kernel
theorem dc_84_1 : am_dc 84 1 = some (.iload_n 1, 2, 0) := by decide +kernel
theorem dc_84_2 : am_dc 84 2 = some (.iload_n 2, 3, 0) := by decide +kernel
theorem dc_84_3 : am_dc 84 3 = some (.invokevirtual 119, 6, 0) := by decide +kernel
theorem dc_84_6 : am_dc 84 6 = some (.ifCond .ne 5, 9, 11) := by decide +kernel
theorem dc_84_9 : am_dc 84 9 = some (.iconst (-1), 10, 0) := by decide +kernel
theorem dc_84_10 : am_dc 84 10 = some (.ireturn, 11, 0) := by decide +kernel
theorem dc_84_11 : am_dc 84 11 = some (.aload_n 0, 12, 0) := by decide +kernel
theorem dc_84_12 : am_dc 84 12 = some (.getfield 19, 15, 0) := by decide +kernel
theorem dc_84_15 : am_dc 84 15 = some (.aload_n 0, 16, 0) := by decide +kernel
theorem dc_84_16 : am_dc 84 16 = some (.getfield 12, 19, 0) := by decide +kernel
theorem dc_84_19 : am_dc 84 19 = some (.invokevirtual 142, 22, 0) := by decide +kernel
theorem dc_84_22 : am_dc 84 22 = some (.istore_n 3, 23, 0) := by decide +kernel
theorem dc_84_23 : am_dc 84 23 = some (.aload_n 0, 24, 0) := by decide +kernel
theorem dc_84_24 : am_dc 84 24 = some (.getfield 12, 27, 0) := by decide +kernel
theorem dc_84_27 : am_dc 84 27 = some (.iload_n 3, 28, 0) := by decide +kernel
theorem dc_84_28 : am_dc 84 28 = some (.iload_n 1, 29, 0) := by decide +kernel
theorem dc_84_29 : am_dc 84 29 = some (.invokevirtual 146, 32, 0) := by decide +kernel
theorem dc_84_32 : am_dc 84 32 = some (.ifCond .eq 16, 35, 48) := by decide +kernel
theorem dc_84_35 : am_dc 84 35 = some (.aload_n 0, 36, 0) := by decide +kernel
theorem dc_84_36 : am_dc 84 36 = some (.getfield 12, 39, 0) := by decide +kernel
theorem dc_84_39 : am_dc 84 39 = some (.iload_n 3, 40, 0) := by decide +kernel
theorem dc_84_40 : am_dc 84 40 = some (.iload_n 1, 41, 0) := by decide +kernel
theorem dc_84_41 : am_dc 84 41 = some (.iload_n 2, 42, 0) := by decide +kernel
theorem dc_84_42 : am_dc 84 42 = some (.invokevirtual 149, 45, 0) := by decide +kernel
theorem dc_84_45 : am_dc 84 45 = some (.ifCond .ne 6, 48, 51) := by decide +kernel
theorem dc_84_48 : am_dc 84 48 = some (.bipush (-3), 50, 0) := by decide +kernel
theorem dc_84_50 : am_dc 84 50 = some (.ireturn, 51, 0) := by decide +kernel
theorem dc_84_51 : am_dc 84 51 = some (.aload_n 0, 52, 0) := by decide +kernel
theorem dc_84_52 : am_dc 84 52 = some (.getfield 19, 55, 0) := by decide +kernel
