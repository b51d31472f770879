/-! the instructions of the methods -/
theorem dc_145_5 : am_dc 145 5 = some (.istore_n 3, 6, 0) := by decide +kernel
theorem dc_145_6 : am_dc 145 6 = some (.iconst 0, 7, 0) := by decide +kernel
theorem dc_145_7 : am_dc 145 7 = some (.istore 4, 9, 0) := by decide +kernel
theorem dc_145_9 : am_dc 145 9 = some (.iload 4, 11, 0) := by decide +kernel
theorem dc_145_11 : am_dc 145 11 = some (.iload_n 2, 12, 0) := by decide +kernel
theorem dc_145_12 : am_dc 145 12 = some (.if_icmp .ge 49, 15, 61) := by decide +kernel
theorem dc_145_15 : am_dc 145 15 = some (.iload 4, 17, 0) := by decide +kernel
theorem dc_145_17 : am_dc 145 17 = some (.aload_n 0, 18, 0) := by decide +kernel
theorem dc_145_18 : am_dc 145 18 = some (.getfield 22, 21, 0) := by decide +kernel
theorem dc_145_21 : am_dc 145 21 = some (.getfield 29, 24, 0) := by decide +kernel
theorem dc_145_24 : am_dc 145 24 = some (.if_icmp .ge 37, 27, 61) := by decide +kernel
theorem dc_145_27 : am_dc 145 27 = some (.aload_n 1, 28, 0) := by decide +kernel
theorem dc_145_28 : am_dc 145 28 = some (.iload_n 2, 29, 0) := by decide +kernel
theorem dc_145_29 : am_dc 145 29 = some (.iconst 1, 30, 0) := by decide +kernel
theorem dc_145_30 : am_dc 145 30 = some (.isub, 31, 0) := by decide +kernel
theorem dc_145_31 : am_dc 145 31 = some (.iload 4, 33, 0) := by decide +kernel
theorem dc_145_33 : am_dc 145 33 = some (.isub, 34, 0) := by decide +kernel
theorem dc_145_34 : am_dc 145 34 = some (.iaload, 35, 0) := by decide +kernel
theorem dc_145_35 : am_dc 145 35 = some (.istore 5, 37, 0) := by decide +kernel
theorem dc_145_37 : am_dc 145 37 = some (.iload_n 3, 38, 0) := by decide +kernel
theorem dc_145_38 : am_dc 145 38 = some (.iconst 3, 39, 0) := by decide +kernel
theorem dc_145_39 : am_dc 145 39 = some (.iconst 2, 40, 0) := by decide +kernel
theorem dc_145_40 : am_dc 145 40 = some (.iload 5, 42, 0) := by decide +kernel
theorem dc_145_42 : am_dc 145 42 = some (.imul, 43, 0) := by decide +kernel
theorem dc_145_43 : am_dc 145 43 = some (.ishl, 44, 0) := by decide +kernel
theorem dc_145_44 : am_dc 145 44 = some (.ior, 45, 0) := by decide +kernel
theorem dc_145_45 : am_dc 145 45 = some (.istore_n 3, 46, 0) := by decide +kernel
theorem dc_145_46 : am_dc 145 46 = some (.aload_n 0, 47, 0) := by decide +kernel
theorem dc_145_47 : am_dc 145 47 = some (.iload 5, 49, 0) := by decide +kernel
theorem dc_145_49 : am_dc 145 49 = some (.iload 4, 51, 0) := by decide +kernel
theorem dc_145_51 : am_dc 145 51 = some (.iload_n 3, 52, 0) := by decide +kernel
theorem dc_145_52 : am_dc 145 52 = some (.invokevirtual 35, 55, 0) := by decide +kernel
theorem dc_145_55 : am_dc 145 55 = some (.iinc 4 1, 58, 0) := by decide +kernel
theorem dc_145_58 : am_dc 145 58 = some (.goto (-49), 61, 9) := by decide +kernel
theorem dc_145_61 : am_dc 145 61 = some (.aload_n 0, 62, 0) := by decide +kernel
theorem dc_145_62 : am_dc 145 62 = some (.getfield 18, 65, 0) := by decide +kernel
theorem dc_145_65 : am_dc 145 65 = some (.iload_n 2, 66, 0) := by decide +kernel
theorem dc_145_66 : am_dc 145 66 = some (.aload_n 0, 67, 0) := by decide +kernel
theorem dc_145_67 : am_dc 145 67 = some (.getfield 22, 70, 0) := by decide +kernel
theorem dc_145_70 : am_dc 145 70 = some (.getfield 29, 73, 0) := by decide +kernel
theorem dc_145_73 : am_dc 145 73 = some (.invokestatic 39, 76, 0) := by decide +kernel
theorem dc_145_76 : am_dc 145 76 = some (.aload_n 0, 77, 0) := by decide +kernel
theorem dc_145_77 : am_dc 145 77 = some (.getfield 45, 80, 0) := by decide +kernel
theorem dc_145_80 : am_dc 145 80 = some (.imul, 81, 0) := by decide +kernel
theorem dc_145_81 : am_dc 145 81 = some (.laload, 82, 0) := by decide +kernel
theorem dc_145_82 : am_dc 145 82 = some (.lreturn, 83, 0) := by decide +kernel
theorem dc_146_0 : am_dc 146 0 = some (.aload_n 0, 1, 0) := by decide +kernel
theorem dc_146_1 : am_dc 146 1 = some (.invokevirtual 65, 4, 0) := by decide +kernel
theorem dc_146_4 : am_dc 146 4 = some (.aload_n 0, 5, 0) := by decide +kernel
theorem dc_146_5 : am_dc 146 5 = some (.bipush 21, 7, 0) := by decide +kernel
theorem dc_146_7 : am_dc 146 7 = some (.aload_n 0, 8, 0) := by decide +kernel
theorem dc_146_8 : am_dc 146 8 = some (.getfield 62, 11, 0) := by decide +kernel
theorem dc_146_11 : am_dc 146 11 = some (.imul, 12, 0) := by decide +kernel
theorem dc_146_12 : am_dc 146 12 = some (.putfield 45, 15, 0) := by decide +kernel
theorem dc_146_15 : am_dc 146 15 = some (.aload_n 0, 16, 0) := by decide +kernel
theorem dc_146_16 : am_dc 146 16 = some (.getfield 45, 19, 0) := by decide +kernel
theorem dc_146_19 : am_dc 146 19 = some (.aload_n 0, 20, 0) := by decide +kernel
theorem dc_146_20 : am_dc 146 20 = some (.getfield 22, 23, 0) := by decide +kernel
theorem dc_146_23 : am_dc 146 23 = some (.getfield 29, 26, 0) := by decide +kernel
theorem dc_146_26 : am_dc 146 26 = some (.iconst 1, 27, 0) := by decide +kernel
theorem dc_146_27 : am_dc 146 27 = some (.iadd, 28, 0) := by decide +kernel
theorem dc_146_28 : am_dc 146 28 = some (.imul, 29, 0) := by decide +kernel
theorem dc_146_29 : am_dc 146 29 = some (.istore_n 1, 30, 0) := by decide +kernel
theorem dc_146_30 : am_dc 146 30 = some (.aload_n 0, 31, 0) := by decide +kernel
theorem dc_146_31 : am_dc 146 31 = some (.getfield 18, 34, 0) := by decide +kernel
theorem dc_146_34 : am_dc 146 34 = some (.arraylength, 35, 0) := by decide +kernel
theorem dc_146_35 : am_dc 146 35 = some (.iload_n 1, 36, 0) := by decide +kernel
theorem dc_146_36 : am_dc 146 36 = some (.if_icmp .ge 10, 39, 46) := by decide +kernel
theorem dc_146_39 : am_dc 146 39 = some (.aload_n 0, 40, 0) := by decide +kernel
theorem dc_146_40 : am_dc 146 40 = some (.iload_n 1, 41, 0) := by decide +kernel
theorem dc_146_41 : am_dc 146 41 = some (.newarray .long, 43, 0) := by decide +kernel
theorem dc_146_43 : am_dc 146 43 = some (.putfield 18, 46, 0) := by decide +kernel
theorem dc_146_46 : am_dc 146 46 = some (.iconst 0, 47, 0) := by decide +kernel
theorem dc_146_47 : am_dc 146 47 = some (.istore_n 2, 48, 0) := by decide +kernel
theorem dc_146_48 : am_dc 146 48 = some (.iload_n 2, 49, 0) := by decide +kernel
theorem dc_146_49 : am_dc 146 49 = some (.aload_n 0, 50, 0) := by decide +kernel
theorem dc_146_50 : am_dc 146 50 = some (.getfield 62, 53, 0) := by decide +kernel
theorem dc_146_53 : am_dc 146 53 = some (.if_icmp .ge 19, 56, 72) := by decide +kernel
theorem dc_146_56 : am_dc 146 56 = some (.aload_n 0, 57, 0) := by decide +kernel
theorem dc_146_57 : am_dc 146 57 = some (.aload_n 0, 58, 0) := by decide +kernel
theorem dc_146_58 : am_dc 146 58 = some (.getfield 11, 61, 0) := by decide +kernel
theorem dc_146_61 : am_dc 146 61 = some (.iload_n 2, 62, 0) := by decide +kernel
theorem dc_146_62 : am_dc 146 62 = some (.iaload, 63, 0) := by decide +kernel
theorem dc_146_63 : am_dc 146 63 = some (.invokevirtual 68, 66, 0) := by decide +kernel
theorem dc_146_66 : am_dc 146 66 = some (.iinc 2 1, 69, 0) := by decide +kernel
theorem dc_146_69 : am_dc 146 69 = some (.goto (-21), 72, 48) := by decide +kernel
theorem dc_146_72 : am_dc 146 72 = some (.return_, 73, 0) := by decide +kernel
theorem dc_147_0 : am_dc 147 0 = some (.aload_n 0, 1, 0) := by decide +kernel
theorem dc_147_1 : am_dc 147 1 = some (.getfield 15, 4, 0) := by decide +kernel
theorem dc_147_4 : am_dc 147 4 = some (.arraylength, 5, 0) := by decide +kernel
theorem dc_147_5 : am_dc 147 5 = some (.aload_n 0, 6, 0) := by decide +kernel
theorem dc_147_6 : am_dc 147 6 = some (.getfield 22, 9, 0) := by decide +kernel
theorem dc_147_9 : am_dc 147 9 = some (.invokevirtual 72, 12, 0) := by decide +kernel
theorem dc_147_12 : am_dc 147 12 = some (.if_icmp .ge 16, 15, 28) := by decide +kernel
theorem dc_147_15 : am_dc 147 15 = some (.aload_n 0, 16, 0) := by decide +kernel
theorem dc_147_16 : am_dc 147 16 = some (.aload_n 0, 17, 0) := by decide +kernel
theorem dc_147_17 : am_dc 147 17 = some (.getfield 22, 20, 0) := by decide +kernel
theorem dc_147_20 : am_dc 147 20 = some (.invokevirtual 72, 23, 0) := by decide +kernel
theorem dc_147_23 : am_dc 147 23 = some (.newarray .int, 25, 0) := by decide +kernel
theorem dc_147_25 : am_dc 147 25 = some (.putfield 15, 28, 0) := by decide +kernel
theorem dc_147_28 : am_dc 147 28 = some (.aload_n 0, 29, 0) := by decide +kernel
theorem dc_147_29 : am_dc 147 29 = some (.iconst 0, 30, 0) := by decide +kernel
theorem dc_147_30 : am_dc 147 30 = some (.putfield 62, 33, 0) := by decide +kernel
theorem dc_147_33 : am_dc 147 33 = some (.iconst 0, 34, 0) := by decide +kernel
theorem dc_147_34 : am_dc 147 34 = some (.istore_n 1, 35, 0) := by decide +kernel
theorem dc_147_35 : am_dc 147 35 = some (.iload_n 1, 36, 0) := by decide +kernel
theorem dc_147_36 : am_dc 147 36 = some (.aload_n 0, 37, 0) := by decide +kernel
theorem dc_147_37 : am_dc 147 37 = some (.getfield 22, 40, 0) := by decide +kernel
theorem dc_147_40 : am_dc 147 40 = some (.invokevirtual 72, 43, 0) := by decide +kernel
theorem dc_147_43 : am_dc 147 43 = some (.if_icmp .ge 71, 46, 114) := by decide +kernel
theorem dc_147_46 : am_dc 147 46 = some (.aload_n 0, 47, 0) := by decide +kernel
theorem dc_147_47 : am_dc 147 47 = some (.getfield 62, 50, 0) := by decide +kernel
theorem dc_147_50 : am_dc 147 50 = some (.sipush 162, 53, 0) := by decide +kernel
theorem dc_147_53 : am_dc 147 53 = some (.if_icmp .ge 61, 56, 114) := by decide +kernel
theorem dc_147_56 : am_dc 147 56 = some (.aload_n 0, 57, 0) := by decide +kernel
theorem dc_147_57 : am_dc 147 57 = some (.getfield 22, 60, 0) := by decide +kernel
theorem dc_147_60 : am_dc 147 60 = some (.iload_n 1, 61, 0) := by decide +kernel
theorem dc_147_61 : am_dc 147 61 = some (.invokevirtual 75, 64, 0) := by decide +kernel
theorem dc_147_64 : am_dc 147 64 = some (.ifCond .eq 44, 67, 108) := by decide +kernel
theorem dc_147_67 : am_dc 147 67 = some (.aload_n 0, 68, 0) := by decide +kernel
theorem dc_147_68 : am_dc 147 68 = some (.getfield 22, 71, 0) := by decide +kernel
theorem dc_147_71 : am_dc 147 71 = some (.iload_n 1, 72, 0) := by decide +kernel
theorem dc_147_72 : am_dc 147 72 = some (.invokevirtual 79, 75, 0) := by decide +kernel
theorem dc_147_75 : am_dc 147 75 = some (.ifCond .ne 33, 78, 108) := by decide +kernel
theorem dc_147_78 : am_dc 147 78 = some (.aload_n 0, 79, 0) := by decide +kernel
theorem dc_147_79 : am_dc 147 79 = some (.getfield 11, 82, 0) := by decide +kernel
theorem dc_147_82 : am_dc 147 82 = some (.aload_n 0, 83, 0) := by decide +kernel
theorem dc_147_83 : am_dc 147 83 = some (.getfield 62, 86, 0) := by decide +kernel
theorem dc_147_86 : am_dc 147 86 = some (.iload_n 1, 87, 0) := by decide +kernel
theorem dc_147_87 : am_dc 147 87 = some (.iastore, 88, 0) := by decide +kernel
theorem dc_147_88 : am_dc 147 88 = some (.aload_n 0, 89, 0) := by decide +kernel
theorem dc_147_89 : am_dc 147 89 = some (.getfield 15, 92, 0) := by decide +kernel
theorem dc_147_92 : am_dc 147 92 = some (.iload_n 1, 93, 0) := by decide +kernel
theorem dc_147_93 : am_dc 147 93 = some (.aload_n 0, 94, 0) := by decide +kernel
theorem dc_147_94 : am_dc 147 94 = some (.getfield 62, 97, 0) := by decide +kernel
theorem dc_147_97 : am_dc 147 97 = some (.iastore, 98, 0) := by decide +kernel
theorem dc_147_98 : am_dc 147 98 = some (.aload_n 0, 99, 0) := by decide +kernel
theorem dc_147_99 : am_dc 147 99 = some (.dup, 100, 0) := by decide +kernel
theorem dc_147_100 : am_dc 147 100 = some (.getfield 62, 103, 0) := by decide +kernel
theorem dc_147_103 : am_dc 147 103 = some (.iconst 1, 104, 0) := by decide +kernel
theorem dc_147_104 : am_dc 147 104 = some (.iadd, 105, 0) := by decide +kernel
theorem dc_147_105 : am_dc 147 105 = some (.putfield 62, 108, 0) := by decide +kernel
theorem dc_147_108 : am_dc 147 108 = some (.iinc 1 1, 111, 0) := by decide +kernel
theorem dc_147_111 : am_dc 147 111 = some (.goto (-76), 114, 35) := by decide +kernel
theorem dc_147_114 : am_dc 147 114 = some (.return_, 115, 0) := by decide +kernel
theorem dc_148_0 : am_dc 148 0 = some (.iconst 0, 1, 0) := by decide +kernel
theorem dc_148_1 : am_dc 148 1 = some (.istore_n 2, 2, 0) := by decide +kernel
theorem dc_148_2 : am_dc 148 2 = some (.iload_n 2, 3, 0) := by decide +kernel
theorem dc_148_3 : am_dc 148 3 = some (.aload_n 0, 4, 0) := by decide +kernel
theorem dc_148_4 : am_dc 148 4 = some (.getfield 44, 7, 0) := by decide +kernel
theorem dc_148_7 : am_dc 148 7 = some (.if_icmp .ge 28, 10, 35) := by decide +kernel
theorem dc_148_10 : am_dc 148 10 = some (.iload_n 1, 11, 0) := by decide +kernel
theorem dc_148_11 : am_dc 148 11 = some (.iload_n 2, 12, 0) := by decide +kernel
theorem dc_148_12 : am_dc 148 12 = some (.invokestatic 91, 15, 0) := by decide +kernel
theorem dc_148_15 : am_dc 148 15 = some (.ifCond .eq 14, 18, 29) := by decide +kernel
theorem dc_148_18 : am_dc 148 18 = some (.aload_n 0, 19, 0) := by decide +kernel
theorem dc_148_19 : am_dc 148 19 = some (.iload_n 1, 20, 0) := by decide +kernel
theorem dc_148_20 : am_dc 148 20 = some (.iload_n 2, 21, 0) := by decide +kernel
theorem dc_148_21 : am_dc 148 21 = some (.invokevirtual 95, 24, 0) := by decide +kernel
theorem dc_148_24 : am_dc 148 24 = some (.ifCond .ne 5, 27, 29) := by decide +kernel
theorem dc_148_27 : am_dc 148 27 = some (.iconst 1, 28, 0) := by decide +kernel
theorem dc_148_28 : am_dc 148 28 = some (.ireturn, 29, 0) := by decide +kernel
theorem dc_148_29 : am_dc 148 29 = some (.iinc 2 1, 32, 0) := by decide +kernel
theorem dc_148_32 : am_dc 148 32 = some (.goto (-30), 35, 2) := by decide +kernel
theorem dc_148_35 : am_dc 148 35 = some (.iconst 0, 36, 0) := by decide +kernel
theorem dc_148_36 : am_dc 148 36 = some (.ireturn, 37, 0) := by decide +kernel
theorem dc_149_0 : am_dc 149 0 = some (.aload_n 0, 1, 0) := by decide +kernel
theorem dc_149_1 : am_dc 149 1 = some (.getfield 22, 4, 0) := by decide +kernel
theorem dc_149_4 : am_dc 149 4 = some (.iload_n 1, 5, 0) := by decide +kernel
theorem dc_149_5 : am_dc 149 5 = some (.invokevirtual 82, 8, 0) := by decide +kernel
theorem dc_149_8 : am_dc 149 8 = some (.lstore_n 2, 9, 0) := by decide +kernel
theorem dc_149_9 : am_dc 149 9 = some (.iconst 0, 10, 0) := by decide +kernel
theorem dc_149_10 : am_dc 149 10 = some (.istore 4, 12, 0) := by decide +kernel
theorem dc_149_12 : am_dc 149 12 = some (.iload 4, 14, 0) := by decide +kernel
theorem dc_149_14 : am_dc 149 14 = some (.aload_n 0, 15, 0) := by decide +kernel
theorem dc_149_15 : am_dc 149 15 = some (.getfield 22, 18, 0) := by decide +kernel
theorem dc_149_18 : am_dc 149 18 = some (.getfield 86, 21, 0) := by decide +kernel
theorem dc_149_21 : am_dc 149 21 = some (.if_icmp .ge 34, 24, 55) := by decide +kernel
theorem dc_149_24 : am_dc 149 24 = some (.aload_n 0, 25, 0) := by decide +kernel
theorem dc_149_25 : am_dc 149 25 = some (.getfield 18, 28, 0) := by decide +kernel
theorem dc_149_28 : am_dc 149 28 = some (.aload_n 0, 29, 0) := by decide +kernel
theorem dc_149_29 : am_dc 149 29 = some (.iload_n 1, 30, 0) := by decide +kernel
theorem dc_149_30 : am_dc 149 30 = some (.iload 4, 32, 0) := by decide +kernel
theorem dc_149_32 : am_dc 149 32 = some (.invokevirtual 89, 35, 0) := by decide +kernel
theorem dc_149_35 : am_dc 149 35 = some (.aload_n 0, 36, 0) := by decide +kernel
theorem dc_149_36 : am_dc 149 36 = some (.getfield 22, 39, 0) := by decide +kernel
theorem dc_149_39 : am_dc 149 39 = some (.getfield 92, 42, 0) := by decide +kernel
theorem dc_149_42 : am_dc 149 42 = some (.iload 4, 44, 0) := by decide +kernel
theorem dc_149_44 : am_dc 149 44 = some (.iaload, 45, 0) := by decide +kernel
theorem dc_149_45 : am_dc 149 45 = some (.i2l, 46, 0) := by decide +kernel
theorem dc_149_46 : am_dc 149 46 = some (.lload_n 2, 47, 0) := by decide +kernel
theorem dc_149_47 : am_dc 149 47 = some (.lmul, 48, 0) := by decide +kernel
theorem dc_149_48 : am_dc 149 48 = some (.lastore, 49, 0) := by decide +kernel
theorem dc_149_49 : am_dc 149 49 = some (.iinc 4 1, 52, 0) := by decide +kernel
theorem dc_149_52 : am_dc 149 52 = some (.goto (-40), 55, 12) := by decide +kernel
theorem dc_149_55 : am_dc 149 55 = some (.return_, 56, 0) := by decide +kernel
theorem dc_150_0 : am_dc 150 0 = some (.iload_n 2, 1, 0) := by decide +kernel
theorem dc_150_1 : am_dc 150 1 = some (.aload_n 0, 2, 0) := by decide +kernel
theorem dc_150_2 : am_dc 150 2 = some (.getfield 62, 5, 0) := by decide +kernel
theorem dc_150_5 : am_dc 150 5 = some (.imul, 6, 0) := by decide +kernel
theorem dc_150_6 : am_dc 150 6 = some (.aload_n 0, 7, 0) := by decide +kernel
theorem dc_150_7 : am_dc 150 7 = some (.getfield 15, 10, 0) := by decide +kernel
theorem dc_150_10 : am_dc 150 10 = some (.iload_n 1, 11, 0) := by decide +kernel
theorem dc_150_11 : am_dc 150 11 = some (.iaload, 12, 0) := by decide +kernel
theorem dc_150_12 : am_dc 150 12 = some (.iadd, 13, 0) := by decide +kernel
theorem dc_150_13 : am_dc 150 13 = some (.ireturn, 14, 0) := by decide +kernel
theorem dc_151_0 : am_dc 151 0 = some (.iconst 0, 1, 0) := by decide +kernel
theorem dc_151_1 : am_dc 151 1 = some (.istore 4, 3, 0) := by decide +kernel
theorem dc_151_3 : am_dc 151 3 = some (.iload 4, 5, 0) := by decide +kernel
theorem dc_151_5 : am_dc 151 5 = some (.aload_n 0, 6, 0) := by decide +kernel
theorem dc_151_6 : am_dc 151 6 = some (.getfield 62, 9, 0) := by decide +kernel
theorem dc_151_9 : am_dc 151 9 = some (.if_icmp .ge 39, 12, 48) := by decide +kernel
theorem dc_151_12 : am_dc 151 12 = some (.aload_n 0, 13, 0) := by decide +kernel
theorem dc_151_13 : am_dc 151 13 = some (.getfield 11, 16, 0) := by decide +kernel
theorem dc_151_16 : am_dc 151 16 = some (.iload 4, 18, 0) := by decide +kernel
theorem dc_151_18 : am_dc 151 18 = some (.iaload, 19, 0) := by decide +kernel
theorem dc_151_19 : am_dc 151 19 = some (.iload_n 3, 20, 0) := by decide +kernel
theorem dc_151_20 : am_dc 151 20 = some (.iand, 21, 0) := by decide +kernel
theorem dc_151_21 : am_dc 151 21 = some (.ifCond .ne 21, 24, 42) := by decide +kernel
theorem dc_151_24 : am_dc 151 24 = some (.aload_n 0, 25, 0) := by decide +kernel
theorem dc_151_25 : am_dc 151 25 = some (.iload_n 1, 26, 0) := by decide +kernel
theorem dc_151_26 : am_dc 151 26 = some (.iload_n 2, 27, 0) := by decide +kernel
theorem dc_151_27 : am_dc 151 27 = some (.aload_n 0, 28, 0) := by decide +kernel
theorem dc_151_28 : am_dc 151 28 = some (.getfield 45, 31, 0) := by decide +kernel
theorem dc_151_31 : am_dc 151 31 = some (.imul, 32, 0) := by decide +kernel
theorem dc_151_32 : am_dc 151 32 = some (.aload_n 0, 33, 0) := by decide +kernel
theorem dc_151_33 : am_dc 151 33 = some (.getfield 11, 36, 0) := by decide +kernel
theorem dc_151_36 : am_dc 151 36 = some (.iload 4, 38, 0) := by decide +kernel
theorem dc_151_38 : am_dc 151 38 = some (.iaload, 39, 0) := by decide +kernel
theorem dc_151_39 : am_dc 151 39 = some (.invokevirtual 95, 42, 0) := by decide +kernel
theorem dc_151_42 : am_dc 151 42 = some (.iinc 4 1, 45, 0) := by decide +kernel
theorem dc_151_45 : am_dc 151 45 = some (.goto (-42), 48, 3) := by decide +kernel
theorem dc_151_48 : am_dc 151 48 = some (.return_, 49, 0) := by decide +kernel
theorem dc_152_0 : am_dc 152 0 = some (.aload_n 0, 1, 0) := by decide +kernel
theorem dc_152_1 : am_dc 152 1 = some (.getfield 22, 4, 0) := by decide +kernel
theorem dc_152_4 : am_dc 152 4 = some (.iload_n 3, 5, 0) := by decide +kernel
theorem dc_152_5 : am_dc 152 5 = some (.iload_n 1, 6, 0) := by decide +kernel
theorem dc_152_6 : am_dc 152 6 = some (.invokevirtual 98, 9, 0) := by decide +kernel
theorem dc_152_9 : am_dc 152 9 = some (.istore 4, 11, 0) := by decide +kernel
theorem dc_152_11 : am_dc 152 11 = some (.aload_n 0, 12, 0) := by decide +kernel
theorem dc_152_12 : am_dc 152 12 = some (.getfield 22, 15, 0) := by decide +kernel
theorem dc_152_15 : am_dc 152 15 = some (.getfield 102, 18, 0) := by decide +kernel
theorem dc_152_18 : am_dc 152 18 = some (.iload_n 1, 19, 0) := by decide +kernel
theorem dc_152_19 : am_dc 152 19 = some (.aaload, 20, 0) := by decide +kernel
theorem dc_152_20 : am_dc 152 20 = some (.getfield 106, 23, 0) := by decide +kernel
theorem dc_152_23 : am_dc 152 23 = some (.i2l, 24, 0) := by decide +kernel
theorem dc_152_24 : am_dc 152 24 = some (.aload_n 0, 25, 0) := by decide +kernel
theorem dc_152_25 : am_dc 152 25 = some (.getfield 22, 28, 0) := by decide +kernel
theorem dc_152_28 : am_dc 152 28 = some (.iload_n 3, 29, 0) := by decide +kernel
theorem dc_152_29 : am_dc 152 29 = some (.invokevirtual 82, 32, 0) := by decide +kernel
theorem dc_152_32 : am_dc 152 32 = some (.lmul, 33, 0) := by decide +kernel
theorem dc_152_33 : am_dc 152 33 = some (.lstore 5, 35, 0) := by decide +kernel
theorem dc_152_35 : am_dc 152 35 = some (.aload_n 0, 36, 0) := by decide +kernel
theorem dc_152_36 : am_dc 152 36 = some (.getfield 22, 39, 0) := by decide +kernel
theorem dc_152_39 : am_dc 152 39 = some (.iload_n 3, 40, 0) := by decide +kernel
theorem dc_152_40 : am_dc 152 40 = some (.invokevirtual 111, 43, 0) := by decide +kernel
theorem dc_152_43 : am_dc 152 43 = some (.istore 7, 45, 0) := by decide +kernel
theorem dc_152_45 : am_dc 152 45 = some (.iconst 0, 46, 0) := by decide +kernel
theorem dc_152_46 : am_dc 152 46 = some (.istore 8, 48, 0) := by decide +kernel
theorem dc_152_48 : am_dc 152 48 = some (.iload 8, 50, 0) := by decide +kernel
theorem dc_152_50 : am_dc 152 50 = some (.aload_n 0, 51, 0) := by decide +kernel
theorem dc_152_51 : am_dc 152 51 = some (.getfield 22, 54, 0) := by decide +kernel
theorem dc_152_54 : am_dc 152 54 = some (.getfield 86, 57, 0) := by decide +kernel
theorem dc_152_57 : am_dc 152 57 = some (.if_icmp .ge 78, 60, 135) := by decide +kernel
theorem dc_152_60 : am_dc 152 60 = some (.iload 7, 62, 0) := by decide +kernel
theorem dc_152_62 : am_dc 152 62 = some (.iconst 1, 63, 0) := by decide +kernel
theorem dc_152_63 : am_dc 152 63 = some (.iload 8, 65, 0) := by decide +kernel
theorem dc_152_65 : am_dc 152 65 = some (.ishl, 66, 0) := by decide +kernel
theorem dc_152_66 : am_dc 152 66 = some (.iand, 67, 0) := by decide +kernel
theorem dc_152_67 : am_dc 152 67 = some (.ifCond .eq 62, 70, 129) := by decide +kernel
theorem dc_152_70 : am_dc 152 70 = some (.iload_n 2, 71, 0) := by decide +kernel
theorem dc_152_71 : am_dc 152 71 = some (.aload_n 0, 72, 0) := by decide +kernel
theorem dc_152_72 : am_dc 152 72 = some (.iload_n 3, 73, 0) := by decide +kernel
theorem dc_152_73 : am_dc 152 73 = some (.iload 8, 75, 0) := by decide +kernel
theorem dc_152_75 : am_dc 152 75 = some (.invokevirtual 89, 78, 0) := by decide +kernel
theorem dc_152_78 : am_dc 152 78 = some (.iadd, 79, 0) := by decide +kernel
theorem dc_152_79 : am_dc 152 79 = some (.istore 9, 81, 0) := by decide +kernel
theorem dc_152_81 : am_dc 152 81 = some (.aload_n 0, 82, 0) := by decide +kernel
theorem dc_152_82 : am_dc 152 82 = some (.getfield 18, 85, 0) := by decide +kernel
theorem dc_152_85 : am_dc 152 85 = some (.iload 9, 87, 0) := by decide +kernel
theorem dc_152_87 : am_dc 152 87 = some (.laload, 88, 0) := by decide +kernel
theorem dc_152_88 : am_dc 152 88 = some (.lstore 10, 90, 0) := by decide +kernel
theorem dc_152_90 : am_dc 152 90 = some (.aload_n 0, 91, 0) := by decide +kernel
theorem dc_152_91 : am_dc 152 91 = some (.getfield 18, 94, 0) := by decide +kernel
theorem dc_152_94 : am_dc 152 94 = some (.iload 9, 96, 0) := by decide +kernel
theorem dc_152_96 : am_dc 152 96 = some (.aload_n 0, 97, 0) := by decide +kernel
theorem dc_152_97 : am_dc 152 97 = some (.getfield 45, 100, 0) := by decide +kernel
theorem dc_152_100 : am_dc 152 100 = some (.iadd, 101, 0) := by decide +kernel
theorem dc_152_101 : am_dc 152 101 = some (.iload 4, 103, 0) := by decide +kernel
theorem dc_152_103 : am_dc 152 103 = some (.ifCond .eq 23, 106, 126) := by decide +kernel
theorem dc_152_106 : am_dc 152 106 = some (.lload 10, 108, 0) := by decide +kernel
theorem dc_152_108 : am_dc 152 108 = some (.aload_n 0, 109, 0) := by decide +kernel
theorem dc_152_109 : am_dc 152 109 = some (.iload_n 1, 110, 0) := by decide +kernel
theorem dc_152_110 : am_dc 152 110 = some (.iload_n 2, 111, 0) := by decide +kernel
theorem dc_152_111 : am_dc 152 111 = some (.iload_n 3, 112, 0) := by decide +kernel
theorem dc_152_112 : am_dc 152 112 = some (.iload 8, 114, 0) := by decide +kernel
theorem dc_152_114 : am_dc 152 114 = some (.invokevirtual 115, 117, 0) := by decide +kernel
theorem dc_152_117 : am_dc 152 117 = some (.lload 5, 119, 0) := by decide +kernel
theorem dc_152_119 : am_dc 152 119 = some (.lsub, 120, 0) := by decide +kernel
theorem dc_152_120 : am_dc 152 120 = some (.invokestatic 119, 123, 0) := by decide +kernel
theorem dc_152_123 : am_dc 152 123 = some (.goto 5, 126, 128) := by decide +kernel
theorem dc_152_126 : am_dc 152 126 = some (.lload 10, 128, 0) := by decide +kernel
theorem dc_152_128 : am_dc 152 128 = some (.lastore, 129, 0) := by decide +kernel
theorem dc_152_129 : am_dc 152 129 = some (.iinc 8 1, 132, 0) := by decide +kernel
theorem dc_152_132 : am_dc 152 132 = some (.goto (-84), 135, 48) := by decide +kernel
theorem dc_152_135 : am_dc 152 135 = some (.return_, 136, 0) := by decide +kernel
theorem dc_153_0 : am_dc 153 0 = some (.lconst 0, 1, 0) := by decide +kernel
theorem dc_153_1 : am_dc 153 1 = some (.lstore 5, 3, 0) := by decide +kernel
theorem dc_153_3 : am_dc 153 3 = some (.iconst 0, 4, 0) := by decide +kernel
theorem dc_153_4 : am_dc 153 4 = some (.istore 7, 6, 0) := by decide +kernel
theorem dc_153_6 : am_dc 153 6 = some (.iload 7, 8, 0) := by decide +kernel
theorem dc_153_8 : am_dc 153 8 = some (.aload_n 0, 9, 0) := by decide +kernel
theorem dc_153_9 : am_dc 153 9 = some (.getfield 22, 12, 0) := by decide +kernel
theorem dc_153_12 : am_dc 153 12 = some (.getfield 102, 15, 0) := by decide +kernel
theorem dc_153_15 : am_dc 153 15 = some (.iload_n 1, 16, 0) := by decide +kernel
theorem dc_153_16 : am_dc 153 16 = some (.aaload, 17, 0) := by decide +kernel
theorem dc_153_17 : am_dc 153 17 = some (.invokevirtual 123, 20, 0) := by decide +kernel
theorem dc_153_20 : am_dc 153 20 = some (.if_icmp .ge 68, 23, 88) := by decide +kernel
theorem dc_153_23 : am_dc 153 23 = some (.iload 4, 25, 0) := by decide +kernel
theorem dc_153_25 : am_dc 153 25 = some (.aload_n 0, 26, 0) := by decide +kernel
theorem dc_153_26 : am_dc 153 26 = some (.getfield 22, 29, 0) := by decide +kernel
theorem dc_153_29 : am_dc 153 29 = some (.iload_n 1, 30, 0) := by decide +kernel
theorem dc_153_30 : am_dc 153 30 = some (.iload 7, 32, 0) := by decide +kernel
theorem dc_153_32 : am_dc 153 32 = some (.invokevirtual 126, 35, 0) := by decide +kernel
theorem dc_153_35 : am_dc 153 35 = some (.invokestatic 129, 38, 0) := by decide +kernel
theorem dc_153_38 : am_dc 153 38 = some (.istore 8, 40, 0) := by decide +kernel
theorem dc_153_40 : am_dc 153 40 = some (.lload 5, 42, 0) := by decide +kernel
theorem dc_153_42 : am_dc 153 42 = some (.aload_n 0, 43, 0) := by decide +kernel
theorem dc_153_43 : am_dc 153 43 = some (.getfield 22, 46, 0) := by decide +kernel
theorem dc_153_46 : am_dc 153 46 = some (.iload_n 3, 47, 0) := by decide +kernel
theorem dc_153_47 : am_dc 153 47 = some (.iload_n 1, 48, 0) := by decide +kernel
theorem dc_153_48 : am_dc 153 48 = some (.iload 7, 50, 0) := by decide +kernel
theorem dc_153_50 : am_dc 153 50 = some (.invokevirtual 131, 53, 0) := by decide +kernel
theorem dc_153_53 : am_dc 153 53 = some (.i2l, 54, 0) := by decide +kernel
theorem dc_153_54 : am_dc 153 54 = some (.aload_n 0, 55, 0) := by decide +kernel
theorem dc_153_55 : am_dc 153 55 = some (.getfield 18, 58, 0) := by decide +kernel
theorem dc_153_58 : am_dc 153 58 = some (.iload_n 2, 59, 0) := by decide +kernel
theorem dc_153_59 : am_dc 153 59 = some (.aload_n 0, 60, 0) := by decide +kernel
theorem dc_153_60 : am_dc 153 60 = some (.aload_n 0, 61, 0) := by decide +kernel
theorem dc_153_61 : am_dc 153 61 = some (.getfield 22, 64, 0) := by decide +kernel
theorem dc_153_64 : am_dc 153 64 = some (.iload_n 3, 65, 0) := by decide +kernel
theorem dc_153_65 : am_dc 153 65 = some (.iload_n 1, 66, 0) := by decide +kernel
theorem dc_153_66 : am_dc 153 66 = some (.iload 7, 68, 0) := by decide +kernel
theorem dc_153_68 : am_dc 153 68 = some (.invokevirtual 135, 71, 0) := by decide +kernel
theorem dc_153_71 : am_dc 153 71 = some (.iload 8, 73, 0) := by decide +kernel
theorem dc_153_73 : am_dc 153 73 = some (.invokevirtual 89, 76, 0) := by decide +kernel
theorem dc_153_76 : am_dc 153 76 = some (.iadd, 77, 0) := by decide +kernel
theorem dc_153_77 : am_dc 153 77 = some (.laload, 78, 0) := by decide +kernel
theorem dc_153_78 : am_dc 153 78 = some (.lmul, 79, 0) := by decide +kernel
theorem dc_153_79 : am_dc 153 79 = some (.ladd, 80, 0) := by decide +kernel
theorem dc_153_80 : am_dc 153 80 = some (.lstore 5, 82, 0) := by decide +kernel
theorem dc_153_82 : am_dc 153 82 = some (.iinc 7 1, 85, 0) := by decide +kernel
theorem dc_153_85 : am_dc 153 85 = some (.goto (-79), 88, 6) := by decide +kernel
theorem dc_153_88 : am_dc 153 88 = some (.lload 5, 90, 0) := by decide +kernel
theorem dc_153_90 : am_dc 153 90 = some (.lreturn, 91, 0) := by decide +kernel
theorem dc_154_0 : am_dc 154 0 = some (.aload_n 0, 1, 0) := by decide +kernel
theorem dc_154_1 : am_dc 154 1 = some (.getfield 12, 4, 0) := by decide +kernel
theorem dc_154_4 : am_dc 154 4 = some (.getfield 80, 7, 0) := by decide +kernel
theorem dc_154_7 : am_dc 154 7 = some (.ifCond .ne 8, 10, 15) := by decide +kernel
theorem dc_154_10 : am_dc 154 10 = some (.bipush (-4), 12, 0) := by decide +kernel
theorem dc_154_12 : am_dc 154 12 = some (.goto 10, 15, 22) := by decide +kernel
theorem dc_154_15 : am_dc 154 15 = some (.aload_n 0, 16, 0) := by decide +kernel
theorem dc_154_16 : am_dc 154 16 = some (.getfield 48, 19, 0) := by decide +kernel
theorem dc_154_19 : am_dc 154 19 = some (.invokevirtual 248, 22, 0) := by decide +kernel
theorem dc_154_22 : am_dc 154 22 = some (.ireturn, 23, 0) := by decide +kernel
theorem dc_155_0 : am_dc 155 0 = some (.aload_n 0, 1, 0) := by decide +kernel
theorem dc_155_1 : am_dc 155 1 = some (.invokevirtual 26, 4, 0) := by decide +kernel
theorem dc_155_4 : am_dc 155 4 = some (.aload_n 0, 5, 0) := by decide +kernel
theorem dc_155_5 : am_dc 155 5 = some (.ldc2_w 50, 8, 0) := by decide +kernel
theorem dc_155_8 : am_dc 155 8 = some (.putfield 52, 11, 0) := by decide +kernel
theorem dc_155_11 : am_dc 155 11 = some (.aload_n 0, 12, 0) := by decide +kernel
theorem dc_155_12 : am_dc 155 12 = some (.iconst 0, 13, 0) := by decide +kernel
theorem dc_155_13 : am_dc 155 13 = some (.putfield 56, 16, 0) := by decide +kernel
theorem dc_155_16 : am_dc 155 16 = some (.aload_n 0, 17, 0) := by decide +kernel
theorem dc_155_17 : am_dc 155 17 = some (.iconst 0, 18, 0) := by decide +kernel
theorem dc_155_18 : am_dc 155 18 = some (.iconst 0, 19, 0) := by decide +kernel
theorem dc_155_19 : am_dc 155 19 = some (.iconst 0, 20, 0) := by decide +kernel
theorem dc_155_20 : am_dc 155 20 = some (.invokevirtual 59, 23, 0) := by decide +kernel
theorem dc_155_23 : am_dc 155 23 = some (.iconst 0, 24, 0) := by decide +kernel
theorem dc_155_24 : am_dc 155 24 = some (.istore_n 1, 25, 0) := by decide +kernel
theorem dc_155_25 : am_dc 155 25 = some (.iconst 0, 26, 0) := by decide +kernel
theorem dc_155_26 : am_dc 155 26 = some (.istore_n 2, 27, 0) := by decide +kernel
theorem dc_155_27 : am_dc 155 27 = some (.iload_n 2, 28, 0) := by decide +kernel
theorem dc_155_28 : am_dc 155 28 = some (.aload_n 0, 29, 0) := by decide +kernel
theorem dc_155_29 : am_dc 155 29 = some (.getfield 22, 32, 0) := by decide +kernel
theorem dc_155_32 : am_dc 155 32 = some (.getfield 29, 35, 0) := by decide +kernel
theorem dc_155_35 : am_dc 155 35 = some (.if_icmp .ge 25, 38, 60) := by decide +kernel
theorem dc_155_38 : am_dc 155 38 = some (.iload_n 1, 39, 0) := by decide +kernel
theorem dc_155_39 : am_dc 155 39 = some (.iconst 3, 40, 0) := by decide +kernel
theorem dc_155_40 : am_dc 155 40 = some (.ishl, 41, 0) := by decide +kernel
theorem dc_155_41 : am_dc 155 41 = some (.aload_n 0, 42, 0) := by decide +kernel
theorem dc_155_42 : am_dc 155 42 = some (.getfield 56, 45, 0) := by decide +kernel
theorem dc_155_45 : am_dc 155 45 = some (.iconst 3, 46, 0) := by decide +kernel
theorem dc_155_46 : am_dc 155 46 = some (.iload_n 2, 47, 0) := by decide +kernel
theorem dc_155_47 : am_dc 155 47 = some (.imul, 48, 0) := by decide +kernel
theorem dc_155_48 : am_dc 155 48 = some (.ishr, 49, 0) := by decide +kernel
theorem dc_155_49 : am_dc 155 49 = some (.bipush 7, 51, 0) := by decide +kernel
theorem dc_155_51 : am_dc 155 51 = some (.iand, 52, 0) := by decide +kernel
theorem dc_155_52 : am_dc 155 52 = some (.ior, 53, 0) := by decide +kernel
theorem dc_155_53 : am_dc 155 53 = some (.istore_n 1, 54, 0) := by decide +kernel
theorem dc_155_54 : am_dc 155 54 = some (.iinc 2 1, 57, 0) := by decide +kernel
theorem dc_155_57 : am_dc 155 57 = some (.goto (-30), 60, 27) := by decide +kernel
theorem dc_155_60 : am_dc 155 60 = some (.iload_n 1, 61, 0) := by decide +kernel
theorem dc_155_61 : am_dc 155 61 = some (.ireturn, 62, 0) := by decide +kernel
theorem dc_156_0 : am_dc 156 0 = some (.iload_n 1, 1, 0) := by decide +kernel
theorem dc_156_1 : am_dc 156 1 = some (.aload_n 0, 2, 0) := by decide +kernel
theorem dc_156_2 : am_dc 156 2 = some (.getfield 22, 5, 0) := by decide +kernel
theorem dc_156_5 : am_dc 156 5 = some (.getfield 29, 8, 0) := by decide +kernel
theorem dc_156_8 : am_dc 156 8 = some (.if_icmp .lt 56, 11, 64) := by decide +kernel
theorem dc_156_11 : am_dc 156 11 = some (.aload_n 0, 12, 0) := by decide +kernel
theorem dc_156_12 : am_dc 156 12 = some (.getfield 18, 15, 0) := by decide +kernel
theorem dc_156_15 : am_dc 156 15 = some (.iload_n 1, 16, 0) := by decide +kernel
theorem dc_156_16 : am_dc 156 16 = some (.aload_n 0, 17, 0) := by decide +kernel
theorem dc_156_17 : am_dc 156 17 = some (.getfield 45, 20, 0) := by decide +kernel
theorem dc_156_20 : am_dc 156 20 = some (.imul, 21, 0) := by decide +kernel
theorem dc_156_21 : am_dc 156 21 = some (.laload, 22, 0) := by decide +kernel
theorem dc_156_22 : am_dc 156 22 = some (.lstore 4, 24, 0) := by decide +kernel
theorem dc_156_24 : am_dc 156 24 = some (.lload 4, 26, 0) := by decide +kernel
theorem dc_156_26 : am_dc 156 26 = some (.aload_n 0, 27, 0) := by decide +kernel
theorem dc_156_27 : am_dc 156 27 = some (.getfield 52, 30, 0) := by decide +kernel
theorem dc_156_30 : am_dc 156 30 = some (.lcmp, 31, 0) := by decide +kernel
theorem dc_156_31 : am_dc 156 31 = some (.ifCond .gt 21, 34, 52) := by decide +kernel
theorem dc_156_34 : am_dc 156 34 = some (.lload 4, 36, 0) := by decide +kernel
theorem dc_156_36 : am_dc 156 36 = some (.aload_n 0, 37, 0) := by decide +kernel
theorem dc_156_37 : am_dc 156 37 = some (.getfield 52, 40, 0) := by decide +kernel
theorem dc_156_40 : am_dc 156 40 = some (.lcmp, 41, 0) := by decide +kernel
theorem dc_156_41 : am_dc 156 41 = some (.ifCond .ne 22, 44, 63) := by decide +kernel
theorem dc_156_44 : am_dc 156 44 = some (.iload_n 3, 45, 0) := by decide +kernel
theorem dc_156_45 : am_dc 156 45 = some (.aload_n 0, 46, 0) := by decide +kernel
theorem dc_156_46 : am_dc 156 46 = some (.getfield 56, 49, 0) := by decide +kernel
theorem dc_156_49 : am_dc 156 49 = some (.if_icmp .ge 14, 52, 63) := by decide +kernel
theorem dc_156_52 : am_dc 156 52 = some (.aload_n 0, 53, 0) := by decide +kernel
theorem dc_156_53 : am_dc 156 53 = some (.lload 4, 55, 0) := by decide +kernel
theorem dc_156_55 : am_dc 156 55 = some (.putfield 52, 58, 0) := by decide +kernel
theorem dc_156_58 : am_dc 156 58 = some (.aload_n 0, 59, 0) := by decide +kernel
theorem dc_156_59 : am_dc 156 59 = some (.iload_n 3, 60, 0) := by decide +kernel
theorem dc_156_60 : am_dc 156 60 = some (.putfield 56, 63, 0) := by decide +kernel
theorem dc_156_63 : am_dc 156 63 = some (.return_, 64, 0) := by decide +kernel
theorem dc_156_64 : am_dc 156 64 = some (.iconst 0, 65, 0) := by decide +kernel
theorem dc_156_65 : am_dc 156 65 = some (.istore 4, 67, 0) := by decide +kernel
theorem dc_156_67 : am_dc 156 67 = some (.iload 4, 69, 0) := by decide +kernel
theorem dc_156_69 : am_dc 156 69 = some (.aload_n 0, 70, 0) := by decide +kernel
theorem dc_156_70 : am_dc 156 70 = some (.getfield 22, 73, 0) := by decide +kernel
theorem dc_156_73 : am_dc 156 73 = some (.getfield 29, 76, 0) := by decide +kernel
theorem dc_156_76 : am_dc 156 76 = some (.if_icmp .ge 54, 79, 130) := by decide +kernel
theorem dc_156_79 : am_dc 156 79 = some (.iconst 3, 80, 0) := by decide +kernel
theorem dc_156_80 : am_dc 156 80 = some (.iconst 2, 81, 0) := by decide +kernel
theorem dc_156_81 : am_dc 156 81 = some (.iload 4, 83, 0) := by decide +kernel
theorem dc_156_83 : am_dc 156 83 = some (.imul, 84, 0) := by decide +kernel
theorem dc_156_84 : am_dc 156 84 = some (.ishl, 85, 0) := by decide +kernel
theorem dc_156_85 : am_dc 156 85 = some (.istore 5, 87, 0) := by decide +kernel
theorem dc_156_87 : am_dc 156 87 = some (.iload_n 2, 88, 0) := by decide +kernel
theorem dc_156_88 : am_dc 156 88 = some (.iload 5, 90, 0) := by decide +kernel
theorem dc_156_90 : am_dc 156 90 = some (.iand, 91, 0) := by decide +kernel
theorem dc_156_91 : am_dc 156 91 = some (.ifCond .ne 33, 94, 124) := by decide +kernel
theorem dc_156_94 : am_dc 156 94 = some (.aload_n 0, 95, 0) := by decide +kernel
theorem dc_156_95 : am_dc 156 95 = some (.iload 4, 97, 0) := by decide +kernel
theorem dc_156_97 : am_dc 156 97 = some (.iload_n 1, 98, 0) := by decide +kernel
theorem dc_156_98 : am_dc 156 98 = some (.iload_n 2, 99, 0) := by decide +kernel
theorem dc_156_99 : am_dc 156 99 = some (.iload 5, 101, 0) := by decide +kernel
theorem dc_156_101 : am_dc 156 101 = some (.ior, 102, 0) := by decide +kernel
theorem dc_156_102 : am_dc 156 102 = some (.invokevirtual 35, 105, 0) := by decide +kernel
theorem dc_156_105 : am_dc 156 105 = some (.aload_n 0, 106, 0) := by decide +kernel
theorem dc_156_106 : am_dc 156 106 = some (.iload_n 1, 107, 0) := by decide +kernel
theorem dc_156_107 : am_dc 156 107 = some (.iconst 1, 108, 0) := by decide +kernel
theorem dc_156_108 : am_dc 156 108 = some (.iadd, 109, 0) := by decide +kernel
theorem dc_156_109 : am_dc 156 109 = some (.iload_n 2, 110, 0) := by decide +kernel
theorem dc_156_110 : am_dc 156 110 = some (.iload 5, 112, 0) := by decide +kernel
theorem dc_156_112 : am_dc 156 112 = some (.ior, 113, 0) := by decide +kernel
theorem dc_156_113 : am_dc 156 113 = some (.iload_n 3, 114, 0) := by decide +kernel
theorem dc_156_114 : am_dc 156 114 = some (.iload 4, 116, 0) := by decide +kernel
theorem dc_156_116 : am_dc 156 116 = some (.iconst 3, 117, 0) := by decide +kernel
theorem dc_156_117 : am_dc 156 117 = some (.iload_n 1, 118, 0) := by decide +kernel
theorem dc_156_118 : am_dc 156 118 = some (.imul, 119, 0) := by decide +kernel
theorem dc_156_119 : am_dc 156 119 = some (.ishl, 120, 0) := by decide +kernel
theorem dc_156_120 : am_dc 156 120 = some (.ior, 121, 0) := by decide +kernel
theorem dc_156_121 : am_dc 156 121 = some (.invokevirtual 59, 124, 0) := by decide +kernel
theorem dc_156_124 : am_dc 156 124 = some (.iinc 4 1, 127, 0) := by decide +kernel
theorem dc_156_127 : am_dc 156 127 = some (.goto (-60), 130, 67) := by decide +kernel
theorem dc_156_130 : am_dc 156 130 = some (.return_, 131, 0) := by decide +kernel
theorem dc_157_0 : am_dc 157 0 = some (.aload_n 0, 1, 0) := by decide +kernel
theorem dc_157_1 : am_dc 157 1 = some (.getfield 23, 4, 0) := by decide +kernel
theorem dc_157_4 : am_dc 157 4 = some (.aload_n 0, 5, 0) := by decide +kernel
theorem dc_157_5 : am_dc 157 5 = some (.getfield 12, 8, 0) := by decide +kernel
theorem dc_157_8 : am_dc 157 8 = some (.invokevirtual 262, 11, 0) := by decide +kernel
theorem dc_157_11 : am_dc 157 11 = some (.aload_n 0, 12, 0) := by decide +kernel
theorem dc_157_12 : am_dc 157 12 = some (.getfield 26, 15, 0) := by decide +kernel
theorem dc_157_15 : am_dc 157 15 = some (.aload_n 0, 16, 0) := by decide +kernel
theorem dc_157_16 : am_dc 157 16 = some (.getfield 19, 19, 0) := by decide +kernel
theorem dc_157_19 : am_dc 157 19 = some (.invokevirtual 265, 22, 0) := by decide +kernel
theorem dc_157_22 : am_dc 157 22 = some (.aload_n 0, 23, 0) := by decide +kernel
theorem dc_157_23 : am_dc 157 23 = some (.iconst 1, 24, 0) := by decide +kernel
theorem dc_157_24 : am_dc 157 24 = some (.putfield 268, 27, 0) := by decide +kernel
theorem dc_157_27 : am_dc 157 27 = some (.aload_n 0, 28, 0) := by decide +kernel
theorem dc_157_28 : am_dc 157 28 = some (.getfield 12, 31, 0) := by decide +kernel
theorem dc_157_31 : am_dc 157 31 = some (.getfield 80, 34, 0) := by decide +kernel
theorem dc_157_34 : am_dc 157 34 = some (.ireturn, 35, 0) := by decide +kernel
theorem dc_158_0 : am_dc 158 0 = some (.aload_n 1, 1, 0) := by decide +kernel
theorem dc_158_1 : am_dc 158 1 = some (.getfield 9, 4, 0) := by decide +kernel
theorem dc_158_4 : am_dc 158 4 = some (.iconst 0, 5, 0) := by decide +kernel
theorem dc_158_5 : am_dc 158 5 = some (.aload_n 0, 6, 0) := by decide +kernel
theorem dc_158_6 : am_dc 158 6 = some (.getfield 9, 9, 0) := by decide +kernel
theorem dc_158_9 : am_dc 158 9 = some (.iconst 0, 10, 0) := by decide +kernel
theorem dc_158_10 : am_dc 158 10 = some (.iconst 5, 11, 0) := by decide +kernel
theorem dc_158_11 : am_dc 158 11 = some (.invokestatic 34, 14, 0) := by decide +kernel
theorem dc_158_14 : am_dc 158 14 = some (.aload_n 1, 15, 0) := by decide +kernel
theorem dc_158_15 : am_dc 158 15 = some (.getfield 15, 18, 0) := by decide +kernel
theorem dc_158_18 : am_dc 158 18 = some (.iconst 0, 19, 0) := by decide +kernel
theorem dc_158_19 : am_dc 158 19 = some (.aload_n 0, 20, 0) := by decide +kernel
theorem dc_158_20 : am_dc 158 20 = some (.getfield 15, 23, 0) := by decide +kernel
theorem dc_158_23 : am_dc 158 23 = some (.iconst 0, 24, 0) := by decide +kernel
theorem dc_158_24 : am_dc 158 24 = some (.iconst 5, 25, 0) := by decide +kernel
theorem dc_158_25 : am_dc 158 25 = some (.invokestatic 34, 28, 0) := by decide +kernel
theorem dc_158_28 : am_dc 158 28 = some (.aload_n 1, 29, 0) := by decide +kernel
theorem dc_158_29 : am_dc 158 29 = some (.getfield 18, 32, 0) := by decide +kernel
theorem dc_158_32 : am_dc 158 32 = some (.iconst 0, 33, 0) := by decide +kernel
theorem dc_158_33 : am_dc 158 33 = some (.aload_n 0, 34, 0) := by decide +kernel
theorem dc_158_34 : am_dc 158 34 = some (.getfield 18, 37, 0) := by decide +kernel
theorem dc_158_37 : am_dc 158 37 = some (.iconst 0, 38, 0) := by decide +kernel
theorem dc_158_38 : am_dc 158 38 = some (.bipush 10, 40, 0) := by decide +kernel
theorem dc_158_40 : am_dc 158 40 = some (.invokestatic 34, 43, 0) := by decide +kernel
theorem dc_158_43 : am_dc 158 43 = some (.aload_n 1, 44, 0) := by decide +kernel
theorem dc_158_44 : am_dc 158 44 = some (.getfield 21, 47, 0) := by decide +kernel
theorem dc_158_47 : am_dc 158 47 = some (.iconst 0, 48, 0) := by decide +kernel
theorem dc_158_48 : am_dc 158 48 = some (.aload_n 0, 49, 0) := by decide +kernel
theorem dc_158_49 : am_dc 158 49 = some (.getfield 21, 52, 0) := by decide +kernel
theorem dc_158_52 : am_dc 158 52 = some (.iconst 0, 53, 0) := by decide +kernel
theorem dc_158_53 : am_dc 158 53 = some (.bipush 10, 55, 0) := by decide +kernel
theorem dc_158_55 : am_dc 158 55 = some (.invokestatic 34, 58, 0) := by decide +kernel
theorem dc_158_58 : am_dc 158 58 = some (.aload_n 0, 59, 0) := by decide +kernel
theorem dc_158_59 : am_dc 158 59 = some (.aload_n 1, 60, 0) := by decide +kernel
theorem dc_158_60 : am_dc 158 60 = some (.getfield 30, 63, 0) := by decide +kernel
theorem dc_158_63 : am_dc 158 63 = some (.putfield 30, 66, 0) := by decide +kernel
theorem dc_158_66 : am_dc 158 66 = some (.return_, 67, 0) := by decide +kernel
theorem dc_159_0 : am_dc 159 0 = some (.aload_n 0, 1, 0) := by decide +kernel
theorem dc_159_1 : am_dc 159 1 = some (.getfield 268, 4, 0) := by decide +kernel
theorem dc_159_4 : am_dc 159 4 = some (.ifCond .ne 6, 7, 10) := by decide +kernel
theorem dc_159_7 : am_dc 159 7 = some (.bipush (-3), 9, 0) := by decide +kernel
theorem dc_159_9 : am_dc 159 9 = some (.ireturn, 10, 0) := by decide +kernel
theorem dc_159_10 : am_dc 159 10 = some (.aload_n 0, 11, 0) := by decide +kernel
theorem dc_159_11 : am_dc 159 11 = some (.getfield 12, 14, 0) := by decide +kernel
theorem dc_159_14 : am_dc 159 14 = some (.aload_n 0, 15, 0) := by decide +kernel
theorem dc_159_15 : am_dc 159 15 = some (.getfield 23, 18, 0) := by decide +kernel
theorem dc_159_18 : am_dc 159 18 = some (.invokevirtual 262, 21, 0) := by decide +kernel
theorem dc_159_21 : am_dc 159 21 = some (.aload_n 0, 22, 0) := by decide +kernel
theorem dc_159_22 : am_dc 159 22 = some (.getfield 19, 25, 0) := by decide +kernel
theorem dc_159_25 : am_dc 159 25 = some (.aload_n 0, 26, 0) := by decide +kernel
theorem dc_159_26 : am_dc 159 26 = some (.getfield 26, 29, 0) := by decide +kernel
theorem dc_159_29 : am_dc 159 29 = some (.invokevirtual 265, 32, 0) := by decide +kernel
theorem dc_159_32 : am_dc 159 32 = some (.aload_n 0, 33, 0) := by decide +kernel
theorem dc_159_33 : am_dc 159 33 = some (.getfield 41, 36, 0) := by decide +kernel
theorem dc_159_36 : am_dc 159 36 = some (.invokevirtual 88, 39, 0) := by decide +kernel
theorem dc_159_39 : am_dc 159 39 = some (.aload_n 0, 40, 0) := by decide +kernel
theorem dc_159_40 : am_dc 159 40 = some (.getfield 12, 43, 0) := by decide +kernel
theorem dc_159_43 : am_dc 159 43 = some (.getfield 80, 46, 0) := by decide +kernel
theorem dc_159_46 : am_dc 159 46 = some (.ireturn, 47, 0) := by decide +kernel
theorem dc_160_0 : am_dc 160 0 = some (.iload_n 1, 1, 0) := by decide +kernel
theorem dc_160_1 : am_dc 160 1 = some (.tableswitch 88 0 5 #[39, 47, 55, 63, 73, 83], 40, 0) := by decide +kernel
theorem dc_160_40 : am_dc 160 40 = some (.aload_n 0, 41, 0) := by decide +kernel
theorem dc_160_41 : am_dc 160 41 = some (.getfield 12, 44, 0) := by decide +kernel
theorem dc_160_44 : am_dc 160 44 = some (.getfield 80, 47, 0) := by decide +kernel
theorem dc_160_47 : am_dc 160 47 = some (.ireturn, 48, 0) := by decide +kernel
theorem dc_160_48 : am_dc 160 48 = some (.aload_n 0, 49, 0) := by decide +kernel
theorem dc_160_49 : am_dc 160 49 = some (.getfield 12, 52, 0) := by decide +kernel
theorem dc_160_52 : am_dc 160 52 = some (.getfield 136, 55, 0) := by decide +kernel
theorem dc_160_55 : am_dc 160 55 = some (.ireturn, 56, 0) := by decide +kernel
theorem dc_160_56 : am_dc 160 56 = some (.aload_n 0, 57, 0) := by decide +kernel
theorem dc_160_57 : am_dc 160 57 = some (.getfield 12, 60, 0) := by decide +kernel
theorem dc_160_60 : am_dc 160 60 = some (.invokevirtual 272, 63, 0) := by decide +kernel
theorem dc_160_63 : am_dc 160 63 = some (.ireturn, 64, 0) := by decide +kernel
theorem dc_160_64 : am_dc 160 64 = some (.aload_n 0, 65, 0) := by decide +kernel
theorem dc_160_65 : am_dc 160 65 = some (.getfield 19, 68, 0) := by decide +kernel
theorem dc_160_68 : am_dc 160 68 = some (.iconst 3, 69, 0) := by decide +kernel
theorem dc_160_69 : am_dc 160 69 = some (.iconst 4, 70, 0) := by decide +kernel
theorem dc_160_70 : am_dc 160 70 = some (.invokevirtual 275, 73, 0) := by decide +kernel
theorem dc_160_73 : am_dc 160 73 = some (.ireturn, 74, 0) := by decide +kernel
theorem dc_160_74 : am_dc 160 74 = some (.aload_n 0, 75, 0) := by decide +kernel
theorem dc_160_75 : am_dc 160 75 = some (.getfield 19, 78, 0) := by decide +kernel
theorem dc_160_78 : am_dc 160 78 = some (.iconst 1, 79, 0) := by decide +kernel
theorem dc_160_79 : am_dc 160 79 = some (.iconst 2, 80, 0) := by decide +kernel
theorem dc_160_80 : am_dc 160 80 = some (.invokevirtual 275, 83, 0) := by decide +kernel
theorem dc_160_83 : am_dc 160 83 = some (.ireturn, 84, 0) := by decide +kernel
theorem dc_160_84 : am_dc 160 84 = some (.aload_n 0, 85, 0) := by decide +kernel
theorem dc_160_85 : am_dc 160 85 = some (.invokevirtual 278, 88, 0) := by decide +kernel
theorem dc_160_88 : am_dc 160 88 = some (.ireturn, 89, 0) := by decide +kernel
theorem dc_160_89 : am_dc 160 89 = some (.iconst (-1), 90, 0) := by decide +kernel
theorem dc_160_90 : am_dc 160 90 = some (.ireturn, 91, 0) := by decide +kernel
theorem dc_161_0 : am_dc 161 0 = some (.iconst 0, 1, 0) := by decide +kernel
theorem dc_161_1 : am_dc 161 1 = some (.istore_n 1, 2, 0) := by decide +kernel
theorem dc_161_2 : am_dc 161 2 = some (.iconst 0, 3, 0) := by decide +kernel
theorem dc_161_3 : am_dc 161 3 = some (.istore_n 2, 4, 0) := by decide +kernel
theorem dc_161_4 : am_dc 161 4 = some (.iload_n 2, 5, 0) := by decide +kernel
theorem dc_161_5 : am_dc 161 5 = some (.aload_n 0, 6, 0) := by decide +kernel
theorem dc_161_6 : am_dc 161 6 = some (.getfield 44, 9, 0) := by decide +kernel
theorem dc_161_9 : am_dc 161 9 = some (.if_icmp .ge 21, 12, 30) := by decide +kernel
theorem dc_161_12 : am_dc 161 12 = some (.iload_n 1, 13, 0) := by decide +kernel
theorem dc_161_13 : am_dc 161 13 = some (.aload_n 0, 14, 0) := by decide +kernel
theorem dc_161_14 : am_dc 161 14 = some (.getfield 11, 17, 0) := by decide +kernel
theorem dc_161_17 : am_dc 161 17 = some (.iload_n 2, 18, 0) := by decide +kernel
theorem dc_161_18 : am_dc 161 18 = some (.aaload, 19, 0) := by decide +kernel
theorem dc_161_19 : am_dc 161 19 = some (.invokevirtual 74, 22, 0) := by decide +kernel
theorem dc_161_22 : am_dc 161 22 = some (.iadd, 23, 0) := by decide +kernel
theorem dc_161_23 : am_dc 161 23 = some (.istore_n 1, 24, 0) := by decide +kernel
theorem dc_161_24 : am_dc 161 24 = some (.iinc 2 1, 27, 0) := by decide +kernel
theorem dc_161_27 : am_dc 161 27 = some (.goto (-23), 30, 4) := by decide +kernel
theorem dc_161_30 : am_dc 161 30 = some (.iload_n 1, 31, 0) := by decide +kernel
theorem dc_161_31 : am_dc 161 31 = some (.ireturn, 32, 0) := by decide +kernel
theorem dc_162_0 : am_dc 162 0 = some (.iconst 0, 1, 0) := by decide +kernel
theorem dc_162_1 : am_dc 162 1 = some (.istore_n 3, 2, 0) := by decide +kernel
theorem dc_162_2 : am_dc 162 2 = some (.iconst 0, 3, 0) := by decide +kernel
theorem dc_162_3 : am_dc 162 3 = some (.istore 4, 5, 0) := by decide +kernel
theorem dc_162_5 : am_dc 162 5 = some (.iload 4, 7, 0) := by decide +kernel
theorem dc_162_7 : am_dc 162 7 = some (.iconst 5, 8, 0) := by decide +kernel
theorem dc_162_8 : am_dc 162 8 = some (.if_icmp .ge 34, 11, 42) := by decide +kernel
theorem dc_162_11 : am_dc 162 11 = some (.aload_n 0, 12, 0) := by decide +kernel
theorem dc_162_12 : am_dc 162 12 = some (.getfield 9, 15, 0) := by decide +kernel
theorem dc_162_15 : am_dc 162 15 = some (.iload 4, 17, 0) := by decide +kernel
theorem dc_162_17 : am_dc 162 17 = some (.iaload, 18, 0) := by decide +kernel
theorem dc_162_18 : am_dc 162 18 = some (.iload_n 1, 19, 0) := by decide +kernel
theorem dc_162_19 : am_dc 162 19 = some (.if_icmp .lt 17, 22, 36) := by decide +kernel
theorem dc_162_22 : am_dc 162 22 = some (.aload_n 0, 23, 0) := by decide +kernel
theorem dc_162_23 : am_dc 162 23 = some (.getfield 9, 26, 0) := by decide +kernel
theorem dc_162_26 : am_dc 162 26 = some (.iload 4, 28, 0) := by decide +kernel
theorem dc_162_28 : am_dc 162 28 = some (.iaload, 29, 0) := by decide +kernel
theorem dc_162_29 : am_dc 162 29 = some (.iload_n 2, 30, 0) := by decide +kernel
theorem dc_162_30 : am_dc 162 30 = some (.if_icmp .gt 6, 33, 36) := by decide +kernel
theorem dc_162_33 : am_dc 162 33 = some (.iinc 3 1, 36, 0) := by decide +kernel
theorem dc_162_36 : am_dc 162 36 = some (.iinc 4 1, 39, 0) := by decide +kernel
theorem dc_162_39 : am_dc 162 39 = some (.goto (-34), 42, 5) := by decide +kernel
theorem dc_162_42 : am_dc 162 42 = some (.iload_n 3, 43, 0) := by decide +kernel
theorem dc_162_43 : am_dc 162 43 = some (.ireturn, 44, 0) := by decide +kernel
theorem dc_163_0 : am_dc 163 0 = some (.aload_n 0, 1, 0) := by decide +kernel
theorem dc_163_1 : am_dc 163 1 = some (.getfield 19, 4, 0) := by decide +kernel
theorem dc_163_4 : am_dc 163 4 = some (.aload_n 0, 5, 0) := by decide +kernel
theorem dc_163_5 : am_dc 163 5 = some (.getfield 12, 8, 0) := by decide +kernel
theorem dc_163_8 : am_dc 163 8 = some (.invokevirtual 142, 11, 0) := by decide +kernel
theorem dc_163_11 : am_dc 163 11 = some (.istore_n 1, 12, 0) := by decide +kernel
theorem dc_163_12 : am_dc 163 12 = some (.iconst 0, 13, 0) := by decide +kernel
theorem dc_163_13 : am_dc 163 13 = some (.istore_n 2, 14, 0) := by decide +kernel
theorem dc_163_14 : am_dc 163 14 = some (.iconst 0, 15, 0) := by decide +kernel
theorem dc_163_15 : am_dc 163 15 = some (.istore_n 3, 16, 0) := by decide +kernel
theorem dc_163_16 : am_dc 163 16 = some (.iload_n 3, 17, 0) := by decide +kernel
theorem dc_163_17 : am_dc 163 17 = some (.aload_n 0, 18, 0) := by decide +kernel
theorem dc_163_18 : am_dc 163 18 = some (.getfield 12, 21, 0) := by decide +kernel
theorem dc_163_21 : am_dc 163 21 = some (.getfield 80, 24, 0) := by decide +kernel
theorem dc_163_24 : am_dc 163 24 = some (.if_icmp .ge 24, 27, 48) := by decide +kernel
theorem dc_163_27 : am_dc 163 27 = some (.aload_n 0, 28, 0) := by decide +kernel
theorem dc_163_28 : am_dc 163 28 = some (.getfield 12, 31, 0) := by decide +kernel
theorem dc_163_31 : am_dc 163 31 = some (.iload_n 1, 32, 0) := by decide +kernel
theorem dc_163_32 : am_dc 163 32 = some (.iload_n 3, 33, 0) := by decide +kernel
theorem dc_163_33 : am_dc 163 33 = some (.invokevirtual 146, 36, 0) := by decide +kernel
theorem dc_163_36 : am_dc 163 36 = some (.ifCond .eq 6, 39, 42) := by decide +kernel
theorem dc_163_39 : am_dc 163 39 = some (.iinc 2 1, 42, 0) := by decide +kernel
theorem dc_163_42 : am_dc 163 42 = some (.iinc 3 1, 45, 0) := by decide +kernel
theorem dc_163_45 : am_dc 163 45 = some (.goto (-29), 48, 16) := by decide +kernel
theorem dc_163_48 : am_dc 163 48 = some (.iload_n 2, 49, 0) := by decide +kernel
theorem dc_163_49 : am_dc 163 49 = some (.ireturn, 50, 0) := by decide +kernel
theorem dc_164_0 : am_dc 164 0 = some (.iload_n 1, 1, 0) := by decide +kernel
theorem dc_164_1 : am_dc 164 1 = some (.invokestatic 73, 4, 0) := by decide +kernel
theorem dc_164_4 : am_dc 164 4 = some (.ifCond .eq 28, 7, 32) := by decide +kernel
theorem dc_164_7 : am_dc 164 7 = some (.iload_n 2, 8, 0) := by decide +kernel
theorem dc_164_8 : am_dc 164 8 = some (.ifCond .lt 24, 11, 32) := by decide +kernel
theorem dc_164_11 : am_dc 164 11 = some (.iload_n 2, 12, 0) := by decide +kernel
theorem dc_164_12 : am_dc 164 12 = some (.iconst 1, 13, 0) := by decide +kernel
theorem dc_164_13 : am_dc 164 13 = some (.if_icmp .gt 19, 16, 32) := by decide +kernel
theorem dc_164_16 : am_dc 164 16 = some (.iload_n 2, 17, 0) := by decide +kernel
theorem dc_164_17 : am_dc 164 17 = some (.iconst 1, 18, 0) := by decide +kernel
theorem dc_164_18 : am_dc 164 18 = some (.if_icmp .ne 16, 21, 34) := by decide +kernel
theorem dc_164_21 : am_dc 164 21 = some (.aload_n 0, 22, 0) := by decide +kernel
theorem dc_164_22 : am_dc 164 22 = some (.getfield 12, 25, 0) := by decide +kernel
theorem dc_164_25 : am_dc 164 25 = some (.iload_n 3, 26, 0) := by decide +kernel
theorem dc_164_26 : am_dc 164 26 = some (.invokevirtual 94, 29, 0) := by decide +kernel
theorem dc_164_29 : am_dc 164 29 = some (.ifCond .ne 5, 32, 34) := by decide +kernel
theorem dc_164_32 : am_dc 164 32 = some (.iconst (-1), 33, 0) := by decide +kernel
theorem dc_164_33 : am_dc 164 33 = some (.ireturn, 34, 0) := by decide +kernel
theorem dc_164_34 : am_dc 164 34 = some (.aload_n 0, 35, 0) := by decide +kernel
theorem dc_164_35 : am_dc 164 35 = some (.getfield 52, 38, 0) := by decide +kernel
theorem dc_164_38 : am_dc 164 38 = some (.iload_n 1, 39, 0) := by decide +kernel
theorem dc_164_39 : am_dc 164 39 = some (.iload_n 2, 40, 0) := by decide +kernel
theorem dc_164_40 : am_dc 164 40 = some (.ifCond .ne 7, 43, 47) := by decide +kernel
theorem dc_164_43 : am_dc 164 43 = some (.iconst 0, 44, 0) := by decide +kernel
theorem dc_164_44 : am_dc 164 44 = some (.goto 4, 47, 48) := by decide +kernel
theorem dc_164_47 : am_dc 164 47 = some (.iconst 1, 48, 0) := by decide +kernel
theorem dc_164_48 : am_dc 164 48 = some (.iastore, 49, 0) := by decide +kernel
theorem dc_164_49 : am_dc 164 49 = some (.aload_n 0, 50, 0) := by decide +kernel
theorem dc_164_50 : am_dc 164 50 = some (.getfield 58, 53, 0) := by decide +kernel
theorem dc_164_53 : am_dc 164 53 = some (.iload_n 1, 54, 0) := by decide +kernel
theorem dc_164_54 : am_dc 164 54 = some (.iload_n 2, 55, 0) := by decide +kernel
theorem dc_164_55 : am_dc 164 55 = some (.ifCond .ne 7, 58, 62) := by decide +kernel
theorem dc_164_58 : am_dc 164 58 = some (.aconst_null, 59, 0) := by decide +kernel
theorem dc_164_59 : am_dc 164 59 = some (.goto 12, 62, 71) := by decide +kernel
theorem dc_164_62 : am_dc 164 62 = some (.aload_n 0, 63, 0) := by decide +kernel
theorem dc_164_63 : am_dc 164 63 = some (.getfield 12, 66, 0) := by decide +kernel
theorem dc_164_66 : am_dc 164 66 = some (.getfield 97, 69, 0) := by decide +kernel
theorem dc_164_69 : am_dc 164 69 = some (.iload_n 3, 70, 0) := by decide +kernel
theorem dc_164_70 : am_dc 164 70 = some (.aaload, 71, 0) := by decide +kernel
theorem dc_164_71 : am_dc 164 71 = some (.aastore, 72, 0) := by decide +kernel
theorem dc_164_72 : am_dc 164 72 = some (.iconst 0, 73, 0) := by decide +kernel
theorem dc_164_73 : am_dc 164 73 = some (.ireturn, 74, 0) := by decide +kernel
theorem dc_165_0 : am_dc 165 0 = some (.iload_n 1, 1, 0) := by decide +kernel
theorem dc_165_1 : am_dc 165 1 = some (.invokestatic 73, 4, 0) := by decide +kernel
theorem dc_165_4 : am_dc 165 4 = some (.ifCond .eq 18, 7, 22) := by decide +kernel
theorem dc_165_7 : am_dc 165 7 = some (.iload_n 2, 8, 0) := by decide +kernel
theorem dc_165_8 : am_dc 165 8 = some (.ifCond .lt 14, 11, 22) := by decide +kernel
theorem dc_165_11 : am_dc 165 11 = some (.iload_n 2, 12, 0) := by decide +kernel
theorem dc_165_12 : am_dc 165 12 = some (.iconst 2, 13, 0) := by decide +kernel
theorem dc_165_13 : am_dc 165 13 = some (.if_icmp .gt 9, 16, 22) := by decide +kernel
theorem dc_165_16 : am_dc 165 16 = some (.iload_n 3, 17, 0) := by decide +kernel
theorem dc_165_17 : am_dc 165 17 = some (.bipush 120, 19, 0) := by decide +kernel
theorem dc_165_19 : am_dc 165 19 = some (.if_icmp .le 5, 22, 24) := by decide +kernel
theorem dc_165_22 : am_dc 165 22 = some (.iconst (-1), 23, 0) := by decide +kernel
theorem dc_165_23 : am_dc 165 23 = some (.ireturn, 24, 0) := by decide +kernel
theorem dc_165_24 : am_dc 165 24 = some (.iload_n 3, 25, 0) := by decide +kernel
theorem dc_165_25 : am_dc 165 25 = some (.ifCond .ge 6, 28, 31) := by decide +kernel
theorem dc_165_28 : am_dc 165 28 = some (.bipush (-14), 30, 0) := by decide +kernel
theorem dc_165_30 : am_dc 165 30 = some (.ireturn, 31, 0) := by decide +kernel
theorem dc_165_31 : am_dc 165 31 = some (.aload_n 0, 32, 0) := by decide +kernel
theorem dc_165_32 : am_dc 165 32 = some (.getfield 52, 35, 0) := by decide +kernel
theorem dc_165_35 : am_dc 165 35 = some (.iload_n 1, 36, 0) := by decide +kernel
theorem dc_165_36 : am_dc 165 36 = some (.iconst 2, 37, 0) := by decide +kernel
theorem dc_165_37 : am_dc 165 37 = some (.iastore, 38, 0) := by decide +kernel
theorem dc_165_38 : am_dc 165 38 = some (.aload_n 0, 39, 0) := by decide +kernel
theorem dc_165_39 : am_dc 165 39 = some (.getfield 58, 42, 0) := by decide +kernel
theorem dc_165_42 : am_dc 165 42 = some (.iload_n 1, 43, 0) := by decide +kernel
theorem dc_165_43 : am_dc 165 43 = some (.aconst_null, 44, 0) := by decide +kernel
theorem dc_165_44 : am_dc 165 44 = some (.aastore, 45, 0) := by decide +kernel
theorem dc_165_45 : am_dc 165 45 = some (.aload_n 0, 46, 0) := by decide +kernel
theorem dc_165_46 : am_dc 165 46 = some (.getfield 67, 49, 0) := by decide +kernel
theorem dc_165_49 : am_dc 165 49 = some (.iload_n 1, 50, 0) := by decide +kernel
theorem dc_165_50 : am_dc 165 50 = some (.iload_n 2, 51, 0) := by decide +kernel
theorem dc_165_51 : am_dc 165 51 = some (.iastore, 52, 0) := by decide +kernel
theorem dc_165_52 : am_dc 165 52 = some (.aload_n 0, 53, 0) := by decide +kernel
theorem dc_165_53 : am_dc 165 53 = some (.getfield 70, 56, 0) := by decide +kernel
theorem dc_165_56 : am_dc 165 56 = some (.iload_n 1, 57, 0) := by decide +kernel
theorem dc_165_57 : am_dc 165 57 = some (.iload_n 3, 58, 0) := by decide +kernel
theorem dc_165_58 : am_dc 165 58 = some (.iastore, 59, 0) := by decide +kernel
theorem dc_165_59 : am_dc 165 59 = some (.aload_n 0, 60, 0) := by decide +kernel
theorem dc_165_60 : am_dc 165 60 = some (.getfield 64, 63, 0) := by decide +kernel
theorem dc_165_63 : am_dc 165 63 = some (.iload_n 1, 64, 0) := by decide +kernel
theorem dc_165_64 : am_dc 165 64 = some (.aaload, 65, 0) := by decide +kernel
theorem dc_165_65 : am_dc 165 65 = some (.iconst 0, 66, 0) := by decide +kernel
theorem dc_165_66 : am_dc 165 66 = some (.invokestatic 281, 69, 0) := by decide +kernel
theorem dc_165_69 : am_dc 165 69 = some (.iconst 0, 70, 0) := by decide +kernel
theorem dc_165_70 : am_dc 165 70 = some (.ireturn, 71, 0) := by decide +kernel
theorem dc_166_0 : am_dc 166 0 = some (.iload_n 1, 1, 0) := by decide +kernel
theorem dc_166_1 : am_dc 166 1 = some (.invokestatic 73, 4, 0) := by decide +kernel
theorem dc_166_4 : am_dc 166 4 = some (.ifCond .ne 5, 7, 9) := by decide +kernel
theorem dc_166_7 : am_dc 166 7 = some (.iconst (-1), 8, 0) := by decide +kernel
theorem dc_166_8 : am_dc 166 8 = some (.ireturn, 9, 0) := by decide +kernel
theorem dc_166_9 : am_dc 166 9 = some (.aload_n 0, 10, 0) := by decide +kernel
theorem dc_166_10 : am_dc 166 10 = some (.getfield 52, 13, 0) := by decide +kernel
theorem dc_166_13 : am_dc 166 13 = some (.iload_n 1, 14, 0) := by decide +kernel
theorem dc_166_14 : am_dc 166 14 = some (.iaload, 15, 0) := by decide +kernel
theorem dc_166_15 : am_dc 166 15 = some (.ifCond .ne 6, 18, 21) := by decide +kernel
theorem dc_166_18 : am_dc 166 18 = some (.bipush (-11), 20, 0) := by decide +kernel
theorem dc_166_20 : am_dc 166 20 = some (.ireturn, 21, 0) := by decide +kernel
theorem dc_166_21 : am_dc 166 21 = some (.aload_n 0, 22, 0) := by decide +kernel
theorem dc_166_22 : am_dc 166 22 = some (.getfield 52, 25, 0) := by decide +kernel
theorem dc_166_25 : am_dc 166 25 = some (.iload_n 1, 26, 0) := by decide +kernel
theorem dc_166_26 : am_dc 166 26 = some (.iaload, 27, 0) := by decide +kernel
theorem dc_166_27 : am_dc 166 27 = some (.iconst 2, 28, 0) := by decide +kernel
theorem dc_166_28 : am_dc 166 28 = some (.if_icmp .eq 6, 31, 34) := by decide +kernel
theorem dc_166_31 : am_dc 166 31 = some (.bipush (-12), 33, 0) := by decide +kernel
theorem dc_166_33 : am_dc 166 33 = some (.ireturn, 34, 0) := by decide +kernel
theorem dc_166_34 : am_dc 166 34 = some (.iload_n 2, 35, 0) := by decide +kernel
theorem dc_166_35 : am_dc 166 35 = some (.ifCond .lt 13, 38, 48) := by decide +kernel
theorem dc_166_38 : am_dc 166 38 = some (.iload_n 2, 39, 0) := by decide +kernel
theorem dc_166_39 : am_dc 166 39 = some (.aload_n 0, 40, 0) := by decide +kernel
theorem dc_166_40 : am_dc 166 40 = some (.getfield 70, 43, 0) := by decide +kernel
theorem dc_166_43 : am_dc 166 43 = some (.iload_n 1, 44, 0) := by decide +kernel
theorem dc_166_44 : am_dc 166 44 = some (.iaload, 45, 0) := by decide +kernel
theorem dc_166_45 : am_dc 166 45 = some (.if_icmp .lt 6, 48, 51) := by decide +kernel
theorem dc_166_48 : am_dc 166 48 = some (.bipush (-13), 50, 0) := by decide +kernel
theorem dc_166_50 : am_dc 166 50 = some (.ireturn, 51, 0) := by decide +kernel
theorem dc_166_51 : am_dc 166 51 = some (.aload_n 0, 52, 0) := by decide +kernel
theorem dc_166_52 : am_dc 166 52 = some (.getfield 64, 55, 0) := by decide +kernel
theorem dc_166_55 : am_dc 166 55 = some (.iload_n 1, 56, 0) := by decide +kernel
theorem dc_166_56 : am_dc 166 56 = some (.aaload, 57, 0) := by decide +kernel
theorem dc_166_57 : am_dc 166 57 = some (.iload_n 2, 58, 0) := by decide +kernel
theorem dc_166_58 : am_dc 166 58 = some (.aload_n 0, 59, 0) := by decide +kernel
theorem dc_166_59 : am_dc 166 59 = some (.getfield 67, 62, 0) := by decide +kernel
theorem dc_166_62 : am_dc 166 62 = some (.iload_n 1, 63, 0) := by decide +kernel
theorem dc_166_63 : am_dc 166 63 = some (.iaload, 64, 0) := by decide +kernel
theorem dc_166_64 : am_dc 166 64 = some (.iload_n 3, 65, 0) := by decide +kernel
theorem dc_166_65 : am_dc 166 65 = some (.invokestatic 287, 68, 0) := by decide +kernel
theorem dc_166_68 : am_dc 166 68 = some (.iastore, 69, 0) := by decide +kernel
theorem dc_166_69 : am_dc 166 69 = some (.iconst 0, 70, 0) := by decide +kernel
theorem dc_166_70 : am_dc 166 70 = some (.ireturn, 71, 0) := by decide +kernel
theorem dc_167_0 : am_dc 167 0 = some (.iload_n 0, 1, 0) := by decide +kernel
theorem dc_167_1 : am_dc 167 1 = some (.ifCond .ne 6, 4, 7) := by decide +kernel
theorem dc_167_4 : am_dc 167 4 = some (.iload_n 1, 5, 0) := by decide +kernel
theorem dc_167_5 : am_dc 167 5 = some (.i2b, 6, 0) := by decide +kernel
theorem dc_167_6 : am_dc 167 6 = some (.ireturn, 7, 0) := by decide +kernel
theorem dc_167_7 : am_dc 167 7 = some (.iload_n 0, 8, 0) := by decide +kernel
theorem dc_167_8 : am_dc 167 8 = some (.iconst 1, 9, 0) := by decide +kernel
theorem dc_167_9 : am_dc 167 9 = some (.if_icmp .ne 8, 12, 17) := by decide +kernel
theorem dc_167_12 : am_dc 167 12 = some (.iload_n 1, 13, 0) := by decide +kernel
theorem dc_167_13 : am_dc 167 13 = some (.i2s, 14, 0) := by decide +kernel
theorem dc_167_14 : am_dc 167 14 = some (.goto 4, 17, 18) := by decide +kernel
theorem dc_167_17 : am_dc 167 17 = some (.iload_n 1, 18, 0) := by decide +kernel
theorem dc_167_18 : am_dc 167 18 = some (.ireturn, 19, 0) := by decide +kernel
theorem dc_168_0 : am_dc 168 0 = some (.iload_n 1, 1, 0) := by decide +kernel
theorem dc_168_1 : am_dc 168 1 = some (.invokestatic 73, 4, 0) := by decide +kernel
theorem dc_168_4 : am_dc 168 4 = some (.ifCond .eq 10, 7, 14) := by decide +kernel
theorem dc_168_7 : am_dc 168 7 = some (.iload_n 3, 8, 0) := by decide +kernel
theorem dc_168_8 : am_dc 168 8 = some (.invokestatic 73, 11, 0) := by decide +kernel
theorem dc_168_11 : am_dc 168 11 = some (.ifCond .ne 5, 14, 16) := by decide +kernel
theorem dc_168_14 : am_dc 168 14 = some (.iconst (-1), 15, 0) := by decide +kernel
theorem dc_168_15 : am_dc 168 15 = some (.ireturn, 16, 0) := by decide +kernel
theorem dc_168_16 : am_dc 168 16 = some (.aload_n 0, 17, 0) := by decide +kernel
theorem dc_168_17 : am_dc 168 17 = some (.getfield 52, 20, 0) := by decide +kernel
theorem dc_168_20 : am_dc 168 20 = some (.iload_n 1, 21, 0) := by decide +kernel
theorem dc_168_21 : am_dc 168 21 = some (.iaload, 22, 0) := by decide +kernel
theorem dc_168_22 : am_dc 168 22 = some (.ifCond .eq 12, 25, 34) := by decide +kernel
theorem dc_168_25 : am_dc 168 25 = some (.aload_n 0, 26, 0) := by decide +kernel
theorem dc_168_26 : am_dc 168 26 = some (.getfield 52, 29, 0) := by decide +kernel
theorem dc_168_29 : am_dc 168 29 = some (.iload_n 3, 30, 0) := by decide +kernel
theorem dc_168_30 : am_dc 168 30 = some (.iaload, 31, 0) := by decide +kernel
theorem dc_168_31 : am_dc 168 31 = some (.ifCond .ne 6, 34, 37) := by decide +kernel
theorem dc_168_34 : am_dc 168 34 = some (.bipush (-11), 36, 0) := by decide +kernel
theorem dc_168_36 : am_dc 168 36 = some (.ireturn, 37, 0) := by decide +kernel
theorem dc_168_37 : am_dc 168 37 = some (.aload_n 0, 38, 0) := by decide +kernel
theorem dc_168_38 : am_dc 168 38 = some (.getfield 52, 41, 0) := by decide +kernel
theorem dc_168_41 : am_dc 168 41 = some (.iload_n 1, 42, 0) := by decide +kernel
theorem dc_168_42 : am_dc 168 42 = some (.iaload, 43, 0) := by decide +kernel
theorem dc_168_43 : am_dc 168 43 = some (.iconst 2, 44, 0) := by decide +kernel
theorem dc_168_44 : am_dc 168 44 = some (.if_icmp .ne 28, 47, 72) := by decide +kernel
theorem dc_168_47 : am_dc 168 47 = some (.aload_n 0, 48, 0) := by decide +kernel
theorem dc_168_48 : am_dc 168 48 = some (.getfield 52, 51, 0) := by decide +kernel
theorem dc_168_51 : am_dc 168 51 = some (.iload_n 3, 52, 0) := by decide +kernel
theorem dc_168_52 : am_dc 168 52 = some (.iaload, 53, 0) := by decide +kernel
theorem dc_168_53 : am_dc 168 53 = some (.iconst 2, 54, 0) := by decide +kernel
theorem dc_168_54 : am_dc 168 54 = some (.if_icmp .ne 18, 57, 72) := by decide +kernel
theorem dc_168_57 : am_dc 168 57 = some (.aload_n 0, 58, 0) := by decide +kernel
theorem dc_168_58 : am_dc 168 58 = some (.getfield 67, 61, 0) := by decide +kernel
theorem dc_168_61 : am_dc 168 61 = some (.iload_n 1, 62, 0) := by decide +kernel
theorem dc_168_62 : am_dc 168 62 = some (.iaload, 63, 0) := by decide +kernel
theorem dc_168_63 : am_dc 168 63 = some (.aload_n 0, 64, 0) := by decide +kernel
theorem dc_168_64 : am_dc 168 64 = some (.getfield 67, 67, 0) := by decide +kernel
theorem dc_168_67 : am_dc 168 67 = some (.iload_n 3, 68, 0) := by decide +kernel
theorem dc_168_68 : am_dc 168 68 = some (.iaload, 69, 0) := by decide +kernel
theorem dc_168_69 : am_dc 168 69 = some (.if_icmp .eq 6, 72, 75) := by decide +kernel
theorem dc_168_72 : am_dc 168 72 = some (.bipush (-12), 74, 0) := by decide +kernel
theorem dc_168_74 : am_dc 168 74 = some (.ireturn, 75, 0) := by decide +kernel
theorem dc_168_75 : am_dc 168 75 = some (.aload_n 0, 76, 0) := by decide +kernel
theorem dc_168_76 : am_dc 168 76 = some (.iload_n 1, 77, 0) := by decide +kernel
theorem dc_168_77 : am_dc 168 77 = some (.iload_n 2, 78, 0) := by decide +kernel
theorem dc_168_78 : am_dc 168 78 = some (.iload 5, 80, 0) := by decide +kernel
theorem dc_168_80 : am_dc 168 80 = some (.invokevirtual 297, 83, 0) := by decide +kernel
theorem dc_168_83 : am_dc 168 83 = some (.ifCond .eq 15, 86, 98) := by decide +kernel
theorem dc_168_86 : am_dc 168 86 = some (.aload_n 0, 87, 0) := by decide +kernel
theorem dc_168_87 : am_dc 168 87 = some (.iload_n 3, 88, 0) := by decide +kernel
theorem dc_168_88 : am_dc 168 88 = some (.iload 4, 90, 0) := by decide +kernel
theorem dc_168_90 : am_dc 168 90 = some (.iload 5, 92, 0) := by decide +kernel
theorem dc_168_92 : am_dc 168 92 = some (.invokevirtual 297, 95, 0) := by decide +kernel
theorem dc_168_95 : am_dc 168 95 = some (.ifCond .ne 6, 98, 101) := by decide +kernel
theorem dc_168_98 : am_dc 168 98 = some (.bipush (-13), 100, 0) := by decide +kernel
theorem dc_168_100 : am_dc 168 100 = some (.ireturn, 101, 0) := by decide +kernel
theorem dc_168_101 : am_dc 168 101 = some (.aload_n 0, 102, 0) := by decide +kernel
theorem dc_168_102 : am_dc 168 102 = some (.getfield 64, 105, 0) := by decide +kernel
theorem dc_168_105 : am_dc 168 105 = some (.iload_n 1, 106, 0) := by decide +kernel
theorem dc_168_106 : am_dc 168 106 = some (.aaload, 107, 0) := by decide +kernel
theorem dc_168_107 : am_dc 168 107 = some (.iload_n 2, 108, 0) := by decide +kernel
theorem dc_168_108 : am_dc 168 108 = some (.aload_n 0, 109, 0) := by decide +kernel
theorem dc_168_109 : am_dc 168 109 = some (.getfield 64, 112, 0) := by decide +kernel
theorem dc_168_112 : am_dc 168 112 = some (.iload_n 3, 113, 0) := by decide +kernel
theorem dc_168_113 : am_dc 168 113 = some (.aaload, 114, 0) := by decide +kernel
theorem dc_168_114 : am_dc 168 114 = some (.iload 4, 116, 0) := by decide +kernel
theorem dc_168_116 : am_dc 168 116 = some (.iload 5, 118, 0) := by decide +kernel
theorem dc_168_118 : am_dc 168 118 = some (.invokestatic 301, 121, 0) := by decide +kernel
theorem dc_168_121 : am_dc 168 121 = some (.iload 5, 123, 0) := by decide +kernel
theorem dc_168_123 : am_dc 168 123 = some (.ireturn, 124, 0) := by decide +kernel
theorem dc_169_0 : am_dc 169 0 = some (.iload_n 2, 1, 0) := by decide +kernel
theorem dc_169_1 : am_dc 169 1 = some (.ifCond .lt 33, 4, 34) := by decide +kernel
theorem dc_169_4 : am_dc 169 4 = some (.iload_n 3, 5, 0) := by decide +kernel
theorem dc_169_5 : am_dc 169 5 = some (.ifCond .lt 29, 8, 34) := by decide +kernel
theorem dc_169_8 : am_dc 169 8 = some (.iload_n 2, 9, 0) := by decide +kernel
theorem dc_169_9 : am_dc 169 9 = some (.aload_n 0, 10, 0) := by decide +kernel
theorem dc_169_10 : am_dc 169 10 = some (.getfield 70, 13, 0) := by decide +kernel
theorem dc_169_13 : am_dc 169 13 = some (.iload_n 1, 14, 0) := by decide +kernel
theorem dc_169_14 : am_dc 169 14 = some (.iaload, 15, 0) := by decide +kernel
theorem dc_169_15 : am_dc 169 15 = some (.if_icmp .gt 19, 18, 34) := by decide +kernel
theorem dc_169_18 : am_dc 169 18 = some (.iload_n 3, 19, 0) := by decide +kernel
theorem dc_169_19 : am_dc 169 19 = some (.aload_n 0, 20, 0) := by decide +kernel
theorem dc_169_20 : am_dc 169 20 = some (.getfield 70, 23, 0) := by decide +kernel
theorem dc_169_23 : am_dc 169 23 = some (.iload_n 1, 24, 0) := by decide +kernel
theorem dc_169_24 : am_dc 169 24 = some (.iaload, 25, 0) := by decide +kernel
theorem dc_169_25 : am_dc 169 25 = some (.iload_n 2, 26, 0) := by decide +kernel
theorem dc_169_26 : am_dc 169 26 = some (.isub, 27, 0) := by decide +kernel
theorem dc_169_27 : am_dc 169 27 = some (.if_icmp .gt 7, 30, 34) := by decide +kernel
theorem dc_169_30 : am_dc 169 30 = some (.iconst 1, 31, 0) := by decide +kernel
theorem dc_169_31 : am_dc 169 31 = some (.goto 4, 34, 35) := by decide +kernel
theorem dc_169_34 : am_dc 169 34 = some (.iconst 0, 35, 0) := by decide +kernel
theorem dc_169_35 : am_dc 169 35 = some (.ireturn, 36, 0) := by decide +kernel
theorem dc_170_0 : am_dc 170 0 = some (.aload_n 0, 1, 0) := by decide +kernel
theorem dc_170_1 : am_dc 170 1 = some (.iload_n 1, 2, 0) := by decide +kernel
theorem dc_170_2 : am_dc 170 2 = some (.invokevirtual 307, 5, 0) := by decide +kernel
theorem dc_170_5 : am_dc 170 5 = some (.istore_n 2, 6, 0) := by decide +kernel
theorem dc_170_6 : am_dc 170 6 = some (.iload_n 2, 7, 0) := by decide +kernel
theorem dc_170_7 : am_dc 170 7 = some (.ifCond .ge 7, 10, 14) := by decide +kernel
theorem dc_170_10 : am_dc 170 10 = some (.iload_n 2, 11, 0) := by decide +kernel
theorem dc_170_11 : am_dc 170 11 = some (.goto 12, 14, 23) := by decide +kernel
theorem dc_170_14 : am_dc 170 14 = some (.aload_n 0, 15, 0) := by decide +kernel
theorem dc_170_15 : am_dc 170 15 = some (.getfield 58, 18, 0) := by decide +kernel
theorem dc_170_18 : am_dc 170 18 = some (.iload_n 1, 19, 0) := by decide +kernel
theorem dc_170_19 : am_dc 170 19 = some (.aaload, 20, 0) := by decide +kernel
theorem dc_170_20 : am_dc 170 20 = some (.invokevirtual 310, 23, 0) := by decide +kernel
theorem dc_170_23 : am_dc 170 23 = some (.ireturn, 24, 0) := by decide +kernel
theorem dc_171_0 : am_dc 171 0 = some (.iload_n 1, 1, 0) := by decide +kernel
theorem dc_171_1 : am_dc 171 1 = some (.invokestatic 73, 4, 0) := by decide +kernel
theorem dc_171_4 : am_dc 171 4 = some (.ifCond .ne 5, 7, 9) := by decide +kernel
theorem dc_171_7 : am_dc 171 7 = some (.iconst (-1), 8, 0) := by decide +kernel
theorem dc_171_8 : am_dc 171 8 = some (.ireturn, 9, 0) := by decide +kernel
theorem dc_171_9 : am_dc 171 9 = some (.aload_n 0, 10, 0) := by decide +kernel
theorem dc_171_10 : am_dc 171 10 = some (.getfield 52, 13, 0) := by decide +kernel
theorem dc_171_13 : am_dc 171 13 = some (.iload_n 1, 14, 0) := by decide +kernel
theorem dc_171_14 : am_dc 171 14 = some (.iaload, 15, 0) := by decide +kernel
theorem dc_171_15 : am_dc 171 15 = some (.ifCond .ne 6, 18, 21) := by decide +kernel
theorem dc_171_18 : am_dc 171 18 = some (.bipush (-11), 20, 0) := by decide +kernel
theorem dc_171_20 : am_dc 171 20 = some (.ireturn, 21, 0) := by decide +kernel
theorem dc_171_21 : am_dc 171 21 = some (.aload_n 0, 22, 0) := by decide +kernel
theorem dc_171_22 : am_dc 171 22 = some (.getfield 52, 25, 0) := by decide +kernel
theorem dc_171_25 : am_dc 171 25 = some (.iload_n 1, 26, 0) := by decide +kernel
theorem dc_171_26 : am_dc 171 26 = some (.iaload, 27, 0) := by decide +kernel
theorem dc_171_27 : am_dc 171 27 = some (.iconst 1, 28, 0) := by decide +kernel
theorem dc_171_28 : am_dc 171 28 = some (.if_icmp .ne 16, 31, 44) := by decide +kernel
theorem dc_171_31 : am_dc 171 31 = some (.aload_n 0, 32, 0) := by decide +kernel
theorem dc_171_32 : am_dc 171 32 = some (.getfield 58, 35, 0) := by decide +kernel
theorem dc_171_35 : am_dc 171 35 = some (.iload_n 1, 36, 0) := by decide +kernel
theorem dc_171_36 : am_dc 171 36 = some (.aaload, 37, 0) := by decide +kernel
theorem dc_171_37 : am_dc 171 37 = some (.ifnull 7, 40, 44) := by decide +kernel
theorem dc_171_40 : am_dc 171 40 = some (.iconst 0, 41, 0) := by decide +kernel
theorem dc_171_41 : am_dc 171 41 = some (.goto 5, 44, 46) := by decide +kernel
theorem dc_171_44 : am_dc 171 44 = some (.bipush (-12), 46, 0) := by decide +kernel
theorem dc_171_46 : am_dc 171 46 = some (.ireturn, 47, 0) := by decide +kernel
theorem dc_172_0 : am_dc 172 0 = some (.aload_n 0, 1, 0) := by decide +kernel
theorem dc_172_1 : am_dc 172 1 = some (.invokespecial 29, 4, 0) := by decide +kernel
theorem dc_172_4 : am_dc 172 4 = some (.bipush 10, 6, 0) := by decide +kernel
theorem dc_172_6 : am_dc 172 6 = some (.iadd, 7, 0) := by decide +kernel
theorem dc_172_7 : am_dc 172 7 = some (.ireturn, 8, 0) := by decide +kernel
theorem dc_173_0 : am_dc 173 0 = some (.iconst 2, 1, 0) := by decide +kernel
theorem dc_173_1 : am_dc 173 1 = some (.aload_n 0, 2, 0) := by decide +kernel
theorem dc_173_2 : am_dc 173 2 = some (.invokespecial 24, 5, 0) := by decide +kernel
theorem dc_173_5 : am_dc 173 5 = some (.imul, 6, 0) := by decide +kernel
theorem dc_173_6 : am_dc 173 6 = some (.ireturn, 7, 0) := by decide +kernel
theorem dc_174_0 : am_dc 174 0 = some (.aload_n 0, 1, 0) := by decide +kernel
theorem dc_174_1 : am_dc 174 1 = some (.invokespecial 32, 4, 0) := by decide +kernel
theorem dc_174_4 : am_dc 174 4 = some (.iconst 5, 5, 0) := by decide +kernel
theorem dc_174_5 : am_dc 174 5 = some (.iadd, 6, 0) := by decide +kernel
theorem dc_174_6 : am_dc 174 6 = some (.ireturn, 7, 0) := by decide +kernel
theorem dc_175_0 : am_dc 175 0 = some (.aload_n 0, 1, 0) := by decide +kernel
theorem dc_175_1 : am_dc 175 1 = some (.invokespecial 29, 4, 0) := by decide +kernel
theorem dc_175_4 : am_dc 175 4 = some (.aload_n 0, 5, 0) := by decide +kernel
theorem dc_175_5 : am_dc 175 5 = some (.getfield 7, 8, 0) := by decide +kernel
theorem dc_175_8 : am_dc 175 8 = some (.iadd, 9, 0) := by decide +kernel
theorem dc_175_9 : am_dc 175 9 = some (.ireturn, 10, 0) := by decide +kernel
theorem dc_176_0 : am_dc 176 0 = some (.aload_n 0, 1, 0) := by decide +kernel
theorem dc_176_1 : am_dc 176 1 = some (.invokespecial 29, 4, 0) := by decide +kernel
theorem dc_176_4 : am_dc 176 4 = some (.aload_n 0, 5, 0) := by decide +kernel
theorem dc_176_5 : am_dc 176 5 = some (.getfield 16, 8, 0) := by decide +kernel
theorem dc_176_8 : am_dc 176 8 = some (.isub, 9, 0) := by decide +kernel
theorem dc_176_9 : am_dc 176 9 = some (.aload_n 0, 10, 0) := by decide +kernel
theorem dc_176_10 : am_dc 176 10 = some (.getfield 7, 13, 0) := by decide +kernel
theorem dc_176_13 : am_dc 176 13 = some (.iadd, 14, 0) := by decide +kernel
theorem dc_176_14 : am_dc 176 14 = some (.ireturn, 15, 0) := by decide +kernel
theorem dc_177_0 : am_dc 177 0 = some (.aload_n 0, 1, 0) := by decide +kernel
theorem dc_177_1 : am_dc 177 1 = some (.getfield 15, 4, 0) := by decide +kernel
theorem dc_177_4 : am_dc 177 4 = some (.aload_n 0, 5, 0) := by decide +kernel
theorem dc_177_5 : am_dc 177 5 = some (.getfield 18, 8, 0) := by decide +kernel
theorem dc_177_8 : am_dc 177 8 = some (.iadd, 9, 0) := by decide +kernel
theorem dc_177_9 : am_dc 177 9 = some (.ireturn, 10, 0) := by decide +kernel
theorem dc_178_0 : am_dc 178 0 = some (.aload_n 0, 1, 0) := by decide +kernel
theorem dc_178_1 : am_dc 178 1 = some (.iload_n 1, 2, 0) := by decide +kernel
theorem dc_178_2 : am_dc 178 2 = some (.invokevirtual 307, 5, 0) := by decide +kernel
theorem dc_178_5 : am_dc 178 5 = some (.istore_n 2, 6, 0) := by decide +kernel
theorem dc_178_6 : am_dc 178 6 = some (.iload_n 2, 7, 0) := by decide +kernel
theorem dc_178_7 : am_dc 178 7 = some (.ifCond .ge 5, 10, 12) := by decide +kernel
theorem dc_178_10 : am_dc 178 10 = some (.iload_n 2, 11, 0) := by decide +kernel
theorem dc_178_11 : am_dc 178 11 = some (.ireturn, 12, 0) := by decide +kernel
theorem dc_178_12 : am_dc 178 12 = some (.aload_n 0, 13, 0) := by decide +kernel
theorem dc_178_13 : am_dc 178 13 = some (.getfield 58, 16, 0) := by decide +kernel
theorem dc_178_16 : am_dc 178 16 = some (.iload_n 1, 17, 0) := by decide +kernel
theorem dc_178_17 : am_dc 178 17 = some (.aaload, 18, 0) := by decide +kernel
theorem dc_178_18 : am_dc 178 18 = some (.invokevirtual 313, 21, 0) := by decide +kernel
theorem dc_178_21 : am_dc 178 21 = some (.goto 14, 24, 35) := by decide +kernel
theorem dc_178_24 : am_dc 178 24 = some (.astore_n 3, 25, 0) := by decide +kernel
theorem dc_178_25 : am_dc 178 25 = some (.aload_n 0, 26, 0) := by decide +kernel
theorem dc_178_26 : am_dc 178 26 = some (.getfield 58, 29, 0) := by decide +kernel
theorem dc_178_29 : am_dc 178 29 = some (.iload_n 1, 30, 0) := by decide +kernel
theorem dc_178_30 : am_dc 178 30 = some (.aaload, 31, 0) := by decide +kernel
theorem dc_178_31 : am_dc 178 31 = some (.invokevirtual 316, 34, 0) := by decide +kernel
theorem dc_178_34 : am_dc 178 34 = some (.ireturn, 35, 0) := by decide +kernel
theorem dc_178_35 : am_dc 178 35 = some (.bipush (-15), 37, 0) := by decide +kernel
theorem dc_178_37 : am_dc 178 37 = some (.ireturn, 38, 0) := by decide +kernel
theorem dc_179_0 : am_dc 179 0 = some (.aload_n 0, 1, 0) := by decide +kernel
theorem dc_179_1 : am_dc 179 1 = some (.invokevirtual 35, 4, 0) := by decide +kernel
theorem dc_179_4 : am_dc 179 4 = some (.ifCond .eq 13, 7, 17) := by decide +kernel
theorem dc_179_7 : am_dc 179 7 = some (.new 39, 10, 0) := by decide +kernel
theorem dc_179_10 : am_dc 179 10 = some (.dup, 11, 0) := by decide +kernel
theorem dc_179_11 : am_dc 179 11 = some (.ldc 41, 13, 0) := by decide +kernel
