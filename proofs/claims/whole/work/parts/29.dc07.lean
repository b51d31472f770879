/-! the instructions of the methods -/
theorem dc_238_74 : am_dc 238 74 = some (.getfield 223, 77, 0) := by decide +kernel
theorem dc_238_77 : am_dc 238 77 = some (.lstore 4, 79, 0) := by decide +kernel
theorem dc_238_79 : am_dc 238 79 = some (.iinc 6 1, 82, 0) := by decide +kernel
theorem dc_238_82 : am_dc 238 82 = some (.goto (-71), 85, 11) := by decide +kernel
theorem dc_238_85 : am_dc 238 85 = some (.iload_n 1, 86, 0) := by decide +kernel
theorem dc_238_86 : am_dc 238 86 = some (.ifCond .lt 20, 89, 106) := by decide +kernel
theorem dc_238_89 : am_dc 238 89 = some (.lload_n 2, 90, 0) := by decide +kernel
theorem dc_238_90 : am_dc 238 90 = some (.aload_n 0, 91, 0) := by decide +kernel
theorem dc_238_91 : am_dc 238 91 = some (.invokevirtual 204, 94, 0) := by decide +kernel
theorem dc_238_94 : am_dc 238 94 = some (.i2l, 95, 0) := by decide +kernel
theorem dc_238_95 : am_dc 238 95 = some (.lload 4, 97, 0) := by decide +kernel
theorem dc_238_97 : am_dc 238 97 = some (.lmul, 98, 0) := by decide +kernel
theorem dc_238_98 : am_dc 238 98 = some (.lcmp, 99, 0) := by decide +kernel
theorem dc_238_99 : am_dc 238 99 = some (.ifCond .le 7, 102, 106) := by decide +kernel
theorem dc_238_102 : am_dc 238 102 = some (.iload_n 1, 103, 0) := by decide +kernel
theorem dc_238_103 : am_dc 238 103 = some (.goto 5, 106, 108) := by decide +kernel
theorem dc_238_106 : am_dc 238 106 = some (.bipush (-4), 108, 0) := by decide +kernel
theorem dc_238_108 : am_dc 238 108 = some (.ireturn, 109, 0) := by decide +kernel
theorem dc_239_0 : am_dc 239 0 = some (.aload_n 0, 1, 0) := by decide +kernel
theorem dc_239_1 : am_dc 239 1 = some (.invokevirtual 256, 4, 0) := by decide +kernel
theorem dc_239_4 : am_dc 239 4 = some (.aload_n 0, 5, 0) := by decide +kernel
theorem dc_239_5 : am_dc 239 5 = some (.invokevirtual 239, 8, 0) := by decide +kernel
theorem dc_239_8 : am_dc 239 8 = some (.lreturn, 9, 0) := by decide +kernel
theorem dc_240_0 : am_dc 240 0 = some (.aload_n 0, 1, 0) := by decide +kernel
theorem dc_240_1 : am_dc 240 1 = some (.getfield 170, 4, 0) := by decide +kernel
theorem dc_240_4 : am_dc 240 4 = some (.ifCond .eq 4, 7, 8) := by decide +kernel
theorem dc_240_7 : am_dc 240 7 = some (.return_, 8, 0) := by decide +kernel
theorem dc_240_8 : am_dc 240 8 = some (.aload_n 0, 9, 0) := by decide +kernel
theorem dc_240_9 : am_dc 240 9 = some (.iconst 1, 10, 0) := by decide +kernel
theorem dc_240_10 : am_dc 240 10 = some (.putfield 170, 13, 0) := by decide +kernel
theorem dc_240_13 : am_dc 240 13 = some (.iconst 0, 14, 0) := by decide +kernel
theorem dc_240_14 : am_dc 240 14 = some (.istore_n 1, 15, 0) := by decide +kernel
theorem dc_240_15 : am_dc 240 15 = some (.iload_n 1, 16, 0) := by decide +kernel
theorem dc_240_16 : am_dc 240 16 = some (.sipush 16807, 19, 0) := by decide +kernel
theorem dc_240_19 : am_dc 240 19 = some (.if_icmp .ge 23, 22, 42) := by decide +kernel
theorem dc_240_22 : am_dc 240 22 = some (.aload_n 0, 23, 0) := by decide +kernel
theorem dc_240_23 : am_dc 240 23 = some (.getfield 59, 26, 0) := by decide +kernel
theorem dc_240_26 : am_dc 240 26 = some (.iload_n 1, 27, 0) := by decide +kernel
theorem dc_240_27 : am_dc 240 27 = some (.iconst 0, 28, 0) := by decide +kernel
theorem dc_240_28 : am_dc 240 28 = some (.bastore, 29, 0) := by decide +kernel
theorem dc_240_29 : am_dc 240 29 = some (.aload_n 0, 30, 0) := by decide +kernel
theorem dc_240_30 : am_dc 240 30 = some (.getfield 63, 33, 0) := by decide +kernel
theorem dc_240_33 : am_dc 240 33 = some (.iload_n 1, 34, 0) := by decide +kernel
theorem dc_240_34 : am_dc 240 34 = some (.iconst 0, 35, 0) := by decide +kernel
theorem dc_240_35 : am_dc 240 35 = some (.bastore, 36, 0) := by decide +kernel
theorem dc_240_36 : am_dc 240 36 = some (.iinc 1 1, 39, 0) := by decide +kernel
theorem dc_240_39 : am_dc 240 39 = some (.goto (-24), 42, 15) := by decide +kernel
theorem dc_240_42 : am_dc 240 42 = some (.return_, 43, 0) := by decide +kernel
theorem dc_241_0 : am_dc 241 0 = some (.aload_n 0, 1, 0) := by decide +kernel
theorem dc_241_1 : am_dc 241 1 = some (.bipush 7, 3, 0) := by decide +kernel
theorem dc_241_3 : am_dc 241 3 = some (.invokevirtual 210, 6, 0) := by decide +kernel
theorem dc_241_6 : am_dc 241 6 = some (.istore_n 1, 7, 0) := by decide +kernel
theorem dc_241_7 : am_dc 241 7 = some (.aload_n 0, 8, 0) := by decide +kernel
theorem dc_241_8 : am_dc 241 8 = some (.getfield 63, 11, 0) := by decide +kernel
theorem dc_241_11 : am_dc 241 11 = some (.iload_n 1, 12, 0) := by decide +kernel
theorem dc_241_12 : am_dc 241 12 = some (.baload, 13, 0) := by decide +kernel
theorem dc_241_13 : am_dc 241 13 = some (.ifCond .eq 10, 16, 23) := by decide +kernel
theorem dc_241_16 : am_dc 241 16 = some (.aload_n 0, 17, 0) := by decide +kernel
theorem dc_241_17 : am_dc 241 17 = some (.getfield 53, 20, 0) := by decide +kernel
theorem dc_241_20 : am_dc 241 20 = some (.iload_n 1, 21, 0) := by decide +kernel
theorem dc_241_21 : am_dc 241 21 = some (.laload, 22, 0) := by decide +kernel
theorem dc_241_22 : am_dc 241 22 = some (.lreturn, 23, 0) := by decide +kernel
theorem dc_241_23 : am_dc 241 23 = some (.aload_n 0, 24, 0) := by decide +kernel
theorem dc_241_24 : am_dc 241 24 = some (.invokevirtual 236, 27, 0) := by decide +kernel
theorem dc_241_27 : am_dc 241 27 = some (.istore_n 2, 28, 0) := by decide +kernel
theorem dc_241_28 : am_dc 241 28 = some (.iload_n 2, 29, 0) := by decide +kernel
theorem dc_241_29 : am_dc 241 29 = some (.ifCond .ge 16, 32, 45) := by decide +kernel
theorem dc_241_32 : am_dc 241 32 = some (.aload_n 0, 33, 0) := by decide +kernel
theorem dc_241_33 : am_dc 241 33 = some (.invokevirtual 204, 36, 0) := by decide +kernel
theorem dc_241_36 : am_dc 241 36 = some (.i2l, 37, 0) := by decide +kernel
theorem dc_241_37 : am_dc 241 37 = some (.aload_n 0, 38, 0) := by decide +kernel
theorem dc_241_38 : am_dc 241 38 = some (.invokevirtual 213, 41, 0) := by decide +kernel
theorem dc_241_41 : am_dc 241 41 = some (.lmul, 42, 0) := by decide +kernel
theorem dc_241_42 : am_dc 241 42 = some (.goto 9, 45, 51) := by decide +kernel
theorem dc_241_45 : am_dc 241 45 = some (.aload_n 0, 46, 0) := by decide +kernel
theorem dc_241_46 : am_dc 241 46 = some (.iload_n 2, 47, 0) := by decide +kernel
theorem dc_241_47 : am_dc 241 47 = some (.iconst 1, 48, 0) := by decide +kernel
theorem dc_241_48 : am_dc 241 48 = some (.invokevirtual 249, 51, 0) := by decide +kernel
theorem dc_241_51 : am_dc 241 51 = some (.lstore_n 3, 52, 0) := by decide +kernel
theorem dc_241_52 : am_dc 241 52 = some (.aload_n 0, 53, 0) := by decide +kernel
theorem dc_241_53 : am_dc 241 53 = some (.getfield 63, 56, 0) := by decide +kernel
theorem dc_241_56 : am_dc 241 56 = some (.iload_n 1, 57, 0) := by decide +kernel
theorem dc_241_57 : am_dc 241 57 = some (.iconst 1, 58, 0) := by decide +kernel
theorem dc_241_58 : am_dc 241 58 = some (.bastore, 59, 0) := by decide +kernel
theorem dc_241_59 : am_dc 241 59 = some (.aload_n 0, 60, 0) := by decide +kernel
theorem dc_241_60 : am_dc 241 60 = some (.getfield 53, 63, 0) := by decide +kernel
theorem dc_241_63 : am_dc 241 63 = some (.iload_n 1, 64, 0) := by decide +kernel
theorem dc_241_64 : am_dc 241 64 = some (.lload_n 3, 65, 0) := by decide +kernel
theorem dc_241_65 : am_dc 241 65 = some (.lastore, 66, 0) := by decide +kernel
theorem dc_241_66 : am_dc 241 66 = some (.lload_n 3, 67, 0) := by decide +kernel
theorem dc_241_67 : am_dc 241 67 = some (.lreturn, 68, 0) := by decide +kernel
theorem dc_242_0 : am_dc 242 0 = some (.aload_n 0, 1, 0) := by decide +kernel
theorem dc_242_1 : am_dc 242 1 = some (.iload_n 1, 2, 0) := by decide +kernel
theorem dc_242_2 : am_dc 242 2 = some (.invokevirtual 183, 5, 0) := by decide +kernel
theorem dc_242_5 : am_dc 242 5 = some (.istore_n 3, 6, 0) := by decide +kernel
theorem dc_242_6 : am_dc 242 6 = some (.aload_n 0, 7, 0) := by decide +kernel
theorem dc_242_7 : am_dc 242 7 = some (.iload_n 1, 8, 0) := by decide +kernel
theorem dc_242_8 : am_dc 242 8 = some (.iconst 1, 9, 0) := by decide +kernel
theorem dc_242_9 : am_dc 242 9 = some (.invokevirtual 79, 12, 0) := by decide +kernel
theorem dc_242_12 : am_dc 242 12 = some (.ineg, 13, 0) := by decide +kernel
theorem dc_242_13 : am_dc 242 13 = some (.i2l, 14, 0) := by decide +kernel
theorem dc_242_14 : am_dc 242 14 = some (.aload_n 0, 15, 0) := by decide +kernel
theorem dc_242_15 : am_dc 242 15 = some (.invokevirtual 213, 18, 0) := by decide +kernel
theorem dc_242_18 : am_dc 242 18 = some (.lmul, 19, 0) := by decide +kernel
theorem dc_242_19 : am_dc 242 19 = some (.lstore 4, 21, 0) := by decide +kernel
theorem dc_242_21 : am_dc 242 21 = some (.iconst 0, 22, 0) := by decide +kernel
theorem dc_242_22 : am_dc 242 22 = some (.istore 6, 24, 0) := by decide +kernel
theorem dc_242_24 : am_dc 242 24 = some (.iload 6, 26, 0) := by decide +kernel
theorem dc_242_26 : am_dc 242 26 = some (.aload_n 0, 27, 0) := by decide +kernel
theorem dc_242_27 : am_dc 242 27 = some (.iload_n 1, 28, 0) := by decide +kernel
theorem dc_242_28 : am_dc 242 28 = some (.invokevirtual 143, 31, 0) := by decide +kernel
theorem dc_242_31 : am_dc 242 31 = some (.if_icmp .ge 65, 34, 96) := by decide +kernel
theorem dc_242_34 : am_dc 242 34 = some (.aload_n 0, 35, 0) := by decide +kernel
theorem dc_242_35 : am_dc 242 35 = some (.iload_n 1, 36, 0) := by decide +kernel
theorem dc_242_36 : am_dc 242 36 = some (.iload 6, 38, 0) := by decide +kernel
theorem dc_242_38 : am_dc 242 38 = some (.invokevirtual 198, 41, 0) := by decide +kernel
theorem dc_242_41 : am_dc 242 41 = some (.istore 7, 43, 0) := by decide +kernel
theorem dc_242_43 : am_dc 242 43 = some (.iload 7, 45, 0) := by decide +kernel
theorem dc_242_45 : am_dc 242 45 = some (.ifCond .ne 6, 48, 51) := by decide +kernel
theorem dc_242_48 : am_dc 242 48 = some (.goto 42, 51, 90) := by decide +kernel
theorem dc_242_51 : am_dc 242 51 = some (.aload_n 0, 52, 0) := by decide +kernel
theorem dc_242_52 : am_dc 242 52 = some (.iload_n 1, 53, 0) := by decide +kernel
theorem dc_242_53 : am_dc 242 53 = some (.iconst 3, 54, 0) := by decide +kernel
theorem dc_242_54 : am_dc 242 54 = some (.iload 6, 56, 0) := by decide +kernel
theorem dc_242_56 : am_dc 242 56 = some (.iadd, 57, 0) := by decide +kernel
theorem dc_242_57 : am_dc 242 57 = some (.invokevirtual 154, 60, 0) := by decide +kernel
theorem dc_242_60 : am_dc 242 60 = some (.lload 4, 62, 0) := by decide +kernel
theorem dc_242_62 : am_dc 242 62 = some (.iload 7, 64, 0) := by decide +kernel
theorem dc_242_64 : am_dc 242 64 = some (.i2l, 65, 0) := by decide +kernel
theorem dc_242_65 : am_dc 242 65 = some (.iload_n 2, 66, 0) := by decide +kernel
theorem dc_242_66 : am_dc 242 66 = some (.ifCond .eq 10, 69, 76) := by decide +kernel
theorem dc_242_69 : am_dc 242 69 = some (.aload_n 0, 70, 0) := by decide +kernel
theorem dc_242_70 : am_dc 242 70 = some (.invokevirtual 239, 73, 0) := by decide +kernel
theorem dc_242_73 : am_dc 242 73 = some (.goto 7, 76, 80) := by decide +kernel
theorem dc_242_76 : am_dc 242 76 = some (.aload_n 0, 77, 0) := by decide +kernel
theorem dc_242_77 : am_dc 242 77 = some (.invokevirtual 242, 80, 0) := by decide +kernel
theorem dc_242_80 : am_dc 242 80 = some (.lmul, 81, 0) := by decide +kernel
theorem dc_242_81 : am_dc 242 81 = some (.ladd, 82, 0) := by decide +kernel
theorem dc_242_82 : am_dc 242 82 = some (.lstore 4, 84, 0) := by decide +kernel
theorem dc_242_84 : am_dc 242 84 = some (.aload_n 0, 85, 0) := by decide +kernel
theorem dc_242_85 : am_dc 242 85 = some (.iload_n 1, 86, 0) := by decide +kernel
theorem dc_242_86 : am_dc 242 86 = some (.iload_n 3, 87, 0) := by decide +kernel
theorem dc_242_87 : am_dc 242 87 = some (.invokevirtual 154, 90, 0) := by decide +kernel
theorem dc_242_90 : am_dc 242 90 = some (.iinc 6 1, 93, 0) := by decide +kernel
theorem dc_242_93 : am_dc 242 93 = some (.goto (-69), 96, 24) := by decide +kernel
theorem dc_242_96 : am_dc 242 96 = some (.lload 4, 98, 0) := by decide +kernel
theorem dc_242_98 : am_dc 242 98 = some (.lreturn, 99, 0) := by decide +kernel
theorem dc_243_0 : am_dc 243 0 = some (.aload_n 0, 1, 0) := by decide +kernel
theorem dc_243_1 : am_dc 243 1 = some (.bipush 7, 3, 0) := by decide +kernel
theorem dc_243_3 : am_dc 243 3 = some (.invokevirtual 210, 6, 0) := by decide +kernel
theorem dc_243_6 : am_dc 243 6 = some (.istore_n 1, 7, 0) := by decide +kernel
theorem dc_243_7 : am_dc 243 7 = some (.aload_n 0, 8, 0) := by decide +kernel
theorem dc_243_8 : am_dc 243 8 = some (.getfield 59, 11, 0) := by decide +kernel
theorem dc_243_11 : am_dc 243 11 = some (.iload_n 1, 12, 0) := by decide +kernel
theorem dc_243_12 : am_dc 243 12 = some (.baload, 13, 0) := by decide +kernel
theorem dc_243_13 : am_dc 243 13 = some (.ifCond .eq 10, 16, 23) := by decide +kernel
theorem dc_243_16 : am_dc 243 16 = some (.aload_n 0, 17, 0) := by decide +kernel
theorem dc_243_17 : am_dc 243 17 = some (.getfield 49, 20, 0) := by decide +kernel
theorem dc_243_20 : am_dc 243 20 = some (.iload_n 1, 21, 0) := by decide +kernel
theorem dc_243_21 : am_dc 243 21 = some (.laload, 22, 0) := by decide +kernel
theorem dc_243_22 : am_dc 243 22 = some (.lreturn, 23, 0) := by decide +kernel
theorem dc_243_23 : am_dc 243 23 = some (.aload_n 0, 24, 0) := by decide +kernel
theorem dc_243_24 : am_dc 243 24 = some (.invokevirtual 204, 27, 0) := by decide +kernel
theorem dc_243_27 : am_dc 243 27 = some (.i2l, 28, 0) := by decide +kernel
theorem dc_243_28 : am_dc 243 28 = some (.aload_n 0, 29, 0) := by decide +kernel
theorem dc_243_29 : am_dc 243 29 = some (.invokevirtual 213, 32, 0) := by decide +kernel
theorem dc_243_32 : am_dc 243 32 = some (.lmul, 33, 0) := by decide +kernel
theorem dc_243_33 : am_dc 243 33 = some (.lstore_n 2, 34, 0) := by decide +kernel
theorem dc_243_34 : am_dc 243 34 = some (.iconst 0, 35, 0) := by decide +kernel
theorem dc_243_35 : am_dc 243 35 = some (.istore 4, 37, 0) := by decide +kernel
theorem dc_243_37 : am_dc 243 37 = some (.iconst 0, 38, 0) := by decide +kernel
theorem dc_243_38 : am_dc 243 38 = some (.istore 5, 40, 0) := by decide +kernel
theorem dc_243_40 : am_dc 243 40 = some (.iload 5, 42, 0) := by decide +kernel
theorem dc_243_42 : am_dc 243 42 = some (.aload_n 0, 43, 0) := by decide +kernel
theorem dc_243_43 : am_dc 243 43 = some (.getfield 9, 46, 0) := by decide +kernel
theorem dc_243_46 : am_dc 243 46 = some (.bipush 116, 48, 0) := by decide +kernel
theorem dc_243_48 : am_dc 243 48 = some (.iaload, 49, 0) := by decide +kernel
theorem dc_243_49 : am_dc 243 49 = some (.if_icmp .ge 56, 52, 105) := by decide +kernel
theorem dc_243_52 : am_dc 243 52 = some (.aload_n 0, 53, 0) := by decide +kernel
theorem dc_243_53 : am_dc 243 53 = some (.iload 5, 55, 0) := by decide +kernel
theorem dc_243_55 : am_dc 243 55 = some (.invokevirtual 139, 58, 0) := by decide +kernel
theorem dc_243_58 : am_dc 243 58 = some (.iconst 2, 59, 0) := by decide +kernel
theorem dc_243_59 : am_dc 243 59 = some (.if_icmp .ne 40, 62, 99) := by decide +kernel
theorem dc_243_62 : am_dc 243 62 = some (.aload_n 0, 63, 0) := by decide +kernel
theorem dc_243_63 : am_dc 243 63 = some (.iload 5, 65, 0) := by decide +kernel
theorem dc_243_65 : am_dc 243 65 = some (.invokevirtual 183, 68, 0) := by decide +kernel
theorem dc_243_68 : am_dc 243 68 = some (.ifCond .ne 31, 71, 99) := by decide +kernel
theorem dc_243_71 : am_dc 243 71 = some (.aload_n 0, 72, 0) := by decide +kernel
theorem dc_243_72 : am_dc 243 72 = some (.iload 5, 74, 0) := by decide +kernel
theorem dc_243_74 : am_dc 243 74 = some (.invokevirtual 245, 77, 0) := by decide +kernel
theorem dc_243_77 : am_dc 243 77 = some (.lload_n 2, 78, 0) := by decide +kernel
theorem dc_243_78 : am_dc 243 78 = some (.lcmp, 79, 0) := by decide +kernel
theorem dc_243_79 : am_dc 243 79 = some (.ifCond .gt 6, 82, 85) := by decide +kernel
theorem dc_243_82 : am_dc 243 82 = some (.goto 17, 85, 99) := by decide +kernel
theorem dc_243_85 : am_dc 243 85 = some (.aload_n 0, 86, 0) := by decide +kernel
theorem dc_243_86 : am_dc 243 86 = some (.iload 5, 88, 0) := by decide +kernel
theorem dc_243_88 : am_dc 243 88 = some (.invokevirtual 245, 91, 0) := by decide +kernel
theorem dc_243_91 : am_dc 243 91 = some (.lstore_n 2, 92, 0) := by decide +kernel
theorem dc_243_92 : am_dc 243 92 = some (.bipush 30, 94, 0) := by decide +kernel
theorem dc_243_94 : am_dc 243 94 = some (.iload 5, 96, 0) := by decide +kernel
theorem dc_243_96 : am_dc 243 96 = some (.iadd, 97, 0) := by decide +kernel
theorem dc_243_97 : am_dc 243 97 = some (.istore 4, 99, 0) := by decide +kernel
theorem dc_243_99 : am_dc 243 99 = some (.iinc 5 1, 102, 0) := by decide +kernel
theorem dc_243_102 : am_dc 243 102 = some (.goto (-62), 105, 40) := by decide +kernel
theorem dc_243_105 : am_dc 243 105 = some (.iconst 0, 106, 0) := by decide +kernel
theorem dc_243_106 : am_dc 243 106 = some (.istore 5, 108, 0) := by decide +kernel
theorem dc_243_108 : am_dc 243 108 = some (.iload 5, 110, 0) := by decide +kernel
theorem dc_243_110 : am_dc 243 110 = some (.aload_n 0, 111, 0) := by decide +kernel
theorem dc_243_111 : am_dc 243 111 = some (.getfield 9, 114, 0) := by decide +kernel
theorem dc_243_114 : am_dc 243 114 = some (.bipush 116, 116, 0) := by decide +kernel
theorem dc_243_116 : am_dc 243 116 = some (.iaload, 117, 0) := by decide +kernel
theorem dc_243_117 : am_dc 243 117 = some (.if_icmp .ge 50, 120, 167) := by decide +kernel
theorem dc_243_120 : am_dc 243 120 = some (.aload_n 0, 121, 0) := by decide +kernel
theorem dc_243_121 : am_dc 243 121 = some (.iload 5, 123, 0) := by decide +kernel
theorem dc_243_123 : am_dc 243 123 = some (.invokevirtual 192, 126, 0) := by decide +kernel
theorem dc_243_126 : am_dc 243 126 = some (.ifCond .ne 6, 129, 132) := by decide +kernel
theorem dc_243_129 : am_dc 243 129 = some (.goto 32, 132, 161) := by decide +kernel
theorem dc_243_132 : am_dc 243 132 = some (.aload_n 0, 133, 0) := by decide +kernel
theorem dc_243_133 : am_dc 243 133 = some (.iload 5, 135, 0) := by decide +kernel
theorem dc_243_135 : am_dc 243 135 = some (.iconst 0, 136, 0) := by decide +kernel
theorem dc_243_136 : am_dc 243 136 = some (.invokevirtual 249, 139, 0) := by decide +kernel
theorem dc_243_139 : am_dc 243 139 = some (.lstore 6, 141, 0) := by decide +kernel
theorem dc_243_141 : am_dc 243 141 = some (.lload 6, 143, 0) := by decide +kernel
theorem dc_243_143 : am_dc 243 143 = some (.lload_n 2, 144, 0) := by decide +kernel
theorem dc_243_144 : am_dc 243 144 = some (.lcmp, 145, 0) := by decide +kernel
theorem dc_243_145 : am_dc 243 145 = some (.ifCond .gt 6, 148, 151) := by decide +kernel
theorem dc_243_148 : am_dc 243 148 = some (.goto 13, 151, 161) := by decide +kernel
theorem dc_243_151 : am_dc 243 151 = some (.lload 6, 153, 0) := by decide +kernel
theorem dc_243_153 : am_dc 243 153 = some (.lstore_n 2, 154, 0) := by decide +kernel
theorem dc_243_154 : am_dc 243 154 = some (.bipush 10, 156, 0) := by decide +kernel
theorem dc_243_156 : am_dc 243 156 = some (.iload 5, 158, 0) := by decide +kernel
theorem dc_243_158 : am_dc 243 158 = some (.iadd, 159, 0) := by decide +kernel
theorem dc_243_159 : am_dc 243 159 = some (.istore 4, 161, 0) := by decide +kernel
theorem dc_243_161 : am_dc 243 161 = some (.iinc 5 1, 164, 0) := by decide +kernel
theorem dc_243_164 : am_dc 243 164 = some (.goto (-56), 167, 108) := by decide +kernel
theorem dc_243_167 : am_dc 243 167 = some (.iconst 0, 168, 0) := by decide +kernel
theorem dc_243_168 : am_dc 243 168 = some (.istore 5, 170, 0) := by decide +kernel
theorem dc_243_170 : am_dc 243 170 = some (.iload 5, 172, 0) := by decide +kernel
theorem dc_243_172 : am_dc 243 172 = some (.aload_n 0, 173, 0) := by decide +kernel
theorem dc_243_173 : am_dc 243 173 = some (.getfield 9, 176, 0) := by decide +kernel
theorem dc_243_176 : am_dc 243 176 = some (.bipush 116, 178, 0) := by decide +kernel
theorem dc_243_178 : am_dc 243 178 = some (.iaload, 179, 0) := by decide +kernel
theorem dc_243_179 : am_dc 243 179 = some (.if_icmp .ge 49, 182, 228) := by decide +kernel
theorem dc_243_182 : am_dc 243 182 = some (.aload_n 0, 183, 0) := by decide +kernel
theorem dc_243_183 : am_dc 243 183 = some (.iload 5, 185, 0) := by decide +kernel
theorem dc_243_185 : am_dc 243 185 = some (.invokevirtual 207, 188, 0) := by decide +kernel
theorem dc_243_188 : am_dc 243 188 = some (.ifCond .ne 6, 191, 194) := by decide +kernel
theorem dc_243_191 : am_dc 243 191 = some (.goto 31, 194, 222) := by decide +kernel
theorem dc_243_194 : am_dc 243 194 = some (.aload_n 0, 195, 0) := by decide +kernel
theorem dc_243_195 : am_dc 243 195 = some (.iload 5, 197, 0) := by decide +kernel
theorem dc_243_197 : am_dc 243 197 = some (.invokevirtual 253, 200, 0) := by decide +kernel
theorem dc_243_200 : am_dc 243 200 = some (.lstore 6, 202, 0) := by decide +kernel
theorem dc_243_202 : am_dc 243 202 = some (.lload 6, 204, 0) := by decide +kernel
theorem dc_243_204 : am_dc 243 204 = some (.lload_n 2, 205, 0) := by decide +kernel
theorem dc_243_205 : am_dc 243 205 = some (.lcmp, 206, 0) := by decide +kernel
theorem dc_243_206 : am_dc 243 206 = some (.ifCond .gt 6, 209, 212) := by decide +kernel
theorem dc_243_209 : am_dc 243 209 = some (.goto 13, 212, 222) := by decide +kernel
theorem dc_243_212 : am_dc 243 212 = some (.lload 6, 214, 0) := by decide +kernel
theorem dc_243_214 : am_dc 243 214 = some (.lstore_n 2, 215, 0) := by decide +kernel
theorem dc_243_215 : am_dc 243 215 = some (.bipush 20, 217, 0) := by decide +kernel
theorem dc_243_217 : am_dc 243 217 = some (.iload 5, 219, 0) := by decide +kernel
theorem dc_243_219 : am_dc 243 219 = some (.iadd, 220, 0) := by decide +kernel
theorem dc_243_220 : am_dc 243 220 = some (.istore 4, 222, 0) := by decide +kernel
theorem dc_243_222 : am_dc 243 222 = some (.iinc 5 1, 225, 0) := by decide +kernel
theorem dc_243_225 : am_dc 243 225 = some (.goto (-55), 228, 170) := by decide +kernel
theorem dc_243_228 : am_dc 243 228 = some (.aload_n 0, 229, 0) := by decide +kernel
theorem dc_243_229 : am_dc 243 229 = some (.getfield 59, 232, 0) := by decide +kernel
theorem dc_243_232 : am_dc 243 232 = some (.iload_n 1, 233, 0) := by decide +kernel
theorem dc_243_233 : am_dc 243 233 = some (.iconst 1, 234, 0) := by decide +kernel
theorem dc_243_234 : am_dc 243 234 = some (.bastore, 235, 0) := by decide +kernel
theorem dc_243_235 : am_dc 243 235 = some (.aload_n 0, 236, 0) := by decide +kernel
theorem dc_243_236 : am_dc 243 236 = some (.getfield 49, 239, 0) := by decide +kernel
theorem dc_243_239 : am_dc 243 239 = some (.iload_n 1, 240, 0) := by decide +kernel
theorem dc_243_240 : am_dc 243 240 = some (.lload_n 2, 241, 0) := by decide +kernel
theorem dc_243_241 : am_dc 243 241 = some (.lastore, 242, 0) := by decide +kernel
theorem dc_243_242 : am_dc 243 242 = some (.aload_n 0, 243, 0) := by decide +kernel
theorem dc_243_243 : am_dc 243 243 = some (.getfield 56, 246, 0) := by decide +kernel
theorem dc_243_246 : am_dc 243 246 = some (.iload_n 1, 247, 0) := by decide +kernel
theorem dc_243_247 : am_dc 243 247 = some (.iload 4, 249, 0) := by decide +kernel
theorem dc_243_249 : am_dc 243 249 = some (.iastore, 250, 0) := by decide +kernel
theorem dc_243_250 : am_dc 243 250 = some (.lload_n 2, 251, 0) := by decide +kernel
theorem dc_243_251 : am_dc 243 251 = some (.lreturn, 252, 0) := by decide +kernel
theorem dc_244_0 : am_dc 244 0 = some (.lconst 0, 1, 0) := by decide +kernel
theorem dc_244_1 : am_dc 244 1 = some (.lstore_n 2, 2, 0) := by decide +kernel
theorem dc_244_2 : am_dc 244 2 = some (.iconst 0, 3, 0) := by decide +kernel
theorem dc_244_3 : am_dc 244 3 = some (.istore 4, 5, 0) := by decide +kernel
theorem dc_244_5 : am_dc 244 5 = some (.iload 4, 7, 0) := by decide +kernel
theorem dc_244_7 : am_dc 244 7 = some (.aload_n 0, 8, 0) := by decide +kernel
theorem dc_244_8 : am_dc 244 8 = some (.iload_n 1, 9, 0) := by decide +kernel
theorem dc_244_9 : am_dc 244 9 = some (.invokevirtual 143, 12, 0) := by decide +kernel
theorem dc_244_12 : am_dc 244 12 = some (.if_icmp .ge 28, 15, 40) := by decide +kernel
theorem dc_244_15 : am_dc 244 15 = some (.lload_n 2, 16, 0) := by decide +kernel
theorem dc_244_16 : am_dc 244 16 = some (.aload_n 0, 17, 0) := by decide +kernel
theorem dc_244_17 : am_dc 244 17 = some (.iload_n 1, 18, 0) := by decide +kernel
theorem dc_244_18 : am_dc 244 18 = some (.iload 4, 20, 0) := by decide +kernel
theorem dc_244_20 : am_dc 244 20 = some (.invokevirtual 195, 23, 0) := by decide +kernel
theorem dc_244_23 : am_dc 244 23 = some (.aload_n 0, 24, 0) := by decide +kernel
theorem dc_244_24 : am_dc 244 24 = some (.iload_n 1, 25, 0) := by decide +kernel
theorem dc_244_25 : am_dc 244 25 = some (.iload 4, 27, 0) := by decide +kernel
theorem dc_244_27 : am_dc 244 27 = some (.invokevirtual 186, 30, 0) := by decide +kernel
theorem dc_244_30 : am_dc 244 30 = some (.imul, 31, 0) := by decide +kernel
theorem dc_244_31 : am_dc 244 31 = some (.i2l, 32, 0) := by decide +kernel
theorem dc_244_32 : am_dc 244 32 = some (.ladd, 33, 0) := by decide +kernel
theorem dc_244_33 : am_dc 244 33 = some (.lstore_n 2, 34, 0) := by decide +kernel
theorem dc_244_34 : am_dc 244 34 = some (.iinc 4 1, 37, 0) := by decide +kernel
theorem dc_244_37 : am_dc 244 37 = some (.goto (-32), 40, 5) := by decide +kernel
theorem dc_244_40 : am_dc 244 40 = some (.lload_n 2, 41, 0) := by decide +kernel
theorem dc_244_41 : am_dc 244 41 = some (.aload_n 0, 42, 0) := by decide +kernel
theorem dc_244_42 : am_dc 244 42 = some (.invokevirtual 213, 45, 0) := by decide +kernel
theorem dc_244_45 : am_dc 244 45 = some (.ldc2_w 134, 48, 0) := by decide +kernel
theorem dc_244_48 : am_dc 244 48 = some (.ldiv, 49, 0) := by decide +kernel
theorem dc_244_49 : am_dc 244 49 = some (.lmul, 50, 0) := by decide +kernel
theorem dc_244_50 : am_dc 244 50 = some (.lreturn, 51, 0) := by decide +kernel
theorem dc_245_0 : am_dc 245 0 = some (.aload_n 0, 1, 0) := by decide +kernel
theorem dc_245_1 : am_dc 245 1 = some (.iload_n 1, 2, 0) := by decide +kernel
theorem dc_245_2 : am_dc 245 2 = some (.iconst 4, 3, 0) := by decide +kernel
theorem dc_245_3 : am_dc 245 3 = some (.invokevirtual 79, 6, 0) := by decide +kernel
theorem dc_245_6 : am_dc 245 6 = some (.ineg, 7, 0) := by decide +kernel
theorem dc_245_7 : am_dc 245 7 = some (.i2l, 8, 0) := by decide +kernel
theorem dc_245_8 : am_dc 245 8 = some (.aload_n 0, 9, 0) := by decide +kernel
theorem dc_245_9 : am_dc 245 9 = some (.invokevirtual 213, 12, 0) := by decide +kernel
theorem dc_245_12 : am_dc 245 12 = some (.lmul, 13, 0) := by decide +kernel
theorem dc_245_13 : am_dc 245 13 = some (.lstore_n 2, 14, 0) := by decide +kernel
theorem dc_245_14 : am_dc 245 14 = some (.iconst 1, 15, 0) := by decide +kernel
theorem dc_245_15 : am_dc 245 15 = some (.istore 4, 17, 0) := by decide +kernel
theorem dc_245_17 : am_dc 245 17 = some (.iload 4, 19, 0) := by decide +kernel
theorem dc_245_19 : am_dc 245 19 = some (.iconst 3, 20, 0) := by decide +kernel
theorem dc_245_20 : am_dc 245 20 = some (.if_icmp .ge 42, 23, 62) := by decide +kernel
theorem dc_245_23 : am_dc 245 23 = some (.aload_n 0, 24, 0) := by decide +kernel
theorem dc_245_24 : am_dc 245 24 = some (.iload_n 1, 25, 0) := by decide +kernel
theorem dc_245_25 : am_dc 245 25 = some (.iload 4, 27, 0) := by decide +kernel
theorem dc_245_27 : am_dc 245 27 = some (.invokevirtual 154, 30, 0) := by decide +kernel
theorem dc_245_30 : am_dc 245 30 = some (.lload_n 2, 31, 0) := by decide +kernel
theorem dc_245_31 : am_dc 245 31 = some (.aload_n 0, 32, 0) := by decide +kernel
theorem dc_245_32 : am_dc 245 32 = some (.invokevirtual 213, 35, 0) := by decide +kernel
theorem dc_245_35 : am_dc 245 35 = some (.lconst 0, 36, 0) := by decide +kernel
theorem dc_245_36 : am_dc 245 36 = some (.lcmp, 37, 0) := by decide +kernel
theorem dc_245_37 : am_dc 245 37 = some (.ifCond .ne 7, 40, 44) := by decide +kernel
theorem dc_245_40 : am_dc 245 40 = some (.lconst 0, 41, 0) := by decide +kernel
theorem dc_245_41 : am_dc 245 41 = some (.goto 7, 44, 48) := by decide +kernel
theorem dc_245_44 : am_dc 245 44 = some (.aload_n 0, 45, 0) := by decide +kernel
theorem dc_245_45 : am_dc 245 45 = some (.invokevirtual 242, 48, 0) := by decide +kernel
theorem dc_245_48 : am_dc 245 48 = some (.ladd, 49, 0) := by decide +kernel
theorem dc_245_49 : am_dc 245 49 = some (.lstore_n 2, 50, 0) := by decide +kernel
theorem dc_245_50 : am_dc 245 50 = some (.aload_n 0, 51, 0) := by decide +kernel
theorem dc_245_51 : am_dc 245 51 = some (.iload_n 1, 52, 0) := by decide +kernel
theorem dc_245_52 : am_dc 245 52 = some (.iconst 0, 53, 0) := by decide +kernel
theorem dc_245_53 : am_dc 245 53 = some (.invokevirtual 154, 56, 0) := by decide +kernel
theorem dc_245_56 : am_dc 245 56 = some (.iinc 4 1, 59, 0) := by decide +kernel
theorem dc_245_59 : am_dc 245 59 = some (.goto (-42), 62, 17) := by decide +kernel
theorem dc_245_62 : am_dc 245 62 = some (.lload_n 2, 63, 0) := by decide +kernel
theorem dc_245_63 : am_dc 245 63 = some (.lreturn, 64, 0) := by decide +kernel
theorem dc_246_0 : am_dc 246 0 = some (.aload_n 0, 1, 0) := by decide +kernel
theorem dc_246_1 : am_dc 246 1 = some (.invokevirtual 262, 4, 0) := by decide +kernel
theorem dc_246_4 : am_dc 246 4 = some (.ireturn, 5, 0) := by decide +kernel
theorem dc_247_0 : am_dc 247 0 = some (.aload_n 0, 1, 0) := by decide +kernel
theorem dc_247_1 : am_dc 247 1 = some (.invokevirtual 259, 4, 0) := by decide +kernel
theorem dc_247_4 : am_dc 247 4 = some (.lstore_n 1, 5, 0) := by decide +kernel
theorem dc_247_5 : am_dc 247 5 = some (.aload_n 0, 6, 0) := by decide +kernel
theorem dc_247_6 : am_dc 247 6 = some (.getfield 56, 9, 0) := by decide +kernel
theorem dc_247_9 : am_dc 247 9 = some (.aload_n 0, 10, 0) := by decide +kernel
theorem dc_247_10 : am_dc 247 10 = some (.bipush 7, 12, 0) := by decide +kernel
theorem dc_247_12 : am_dc 247 12 = some (.invokevirtual 210, 15, 0) := by decide +kernel
theorem dc_247_15 : am_dc 247 15 = some (.iaload, 16, 0) := by decide +kernel
theorem dc_247_16 : am_dc 247 16 = some (.ireturn, 17, 0) := by decide +kernel
theorem dc_248_0 : am_dc 248 0 = some (.aload_n 0, 1, 0) := by decide +kernel
theorem dc_248_1 : am_dc 248 1 = some (.invokevirtual 256, 4, 0) := by decide +kernel
theorem dc_248_4 : am_dc 248 4 = some (.aload_n 0, 5, 0) := by decide +kernel
theorem dc_248_5 : am_dc 248 5 = some (.invokevirtual 242, 8, 0) := by decide +kernel
theorem dc_248_8 : am_dc 248 8 = some (.lreturn, 9, 0) := by decide +kernel
theorem dc_249_0 : am_dc 249 0 = some (.aload_n 0, 1, 0) := by decide +kernel
theorem dc_249_1 : am_dc 249 1 = some (.invokevirtual 259, 4, 0) := by decide +kernel
theorem dc_249_4 : am_dc 249 4 = some (.lreturn, 5, 0) := by decide +kernel
theorem dc_250_0 : am_dc 250 0 = some (.aload_n 0, 1, 0) := by decide +kernel
theorem dc_250_1 : am_dc 250 1 = some (.invokevirtual 259, 4, 0) := by decide +kernel
theorem dc_250_4 : am_dc 250 4 = some (.aload_n 0, 5, 0) := by decide +kernel
theorem dc_250_5 : am_dc 250 5 = some (.invokevirtual 239, 8, 0) := by decide +kernel
theorem dc_250_8 : am_dc 250 8 = some (.lsub, 9, 0) := by decide +kernel
theorem dc_250_9 : am_dc 250 9 = some (.lreturn, 10, 0) := by decide +kernel
theorem dc_251_0 : am_dc 251 0 = some (.aload_n 0, 1, 0) := by decide +kernel
theorem dc_251_1 : am_dc 251 1 = some (.invokevirtual 256, 4, 0) := by decide +kernel
theorem dc_251_4 : am_dc 251 4 = some (.aload_n 0, 5, 0) := by decide +kernel
theorem dc_251_5 : am_dc 251 5 = some (.invokevirtual 265, 8, 0) := by decide +kernel
theorem dc_251_8 : am_dc 251 8 = some (.ireturn, 9, 0) := by decide +kernel
theorem dc_252_0 : am_dc 252 0 = some (.aload_n 0, 1, 0) := by decide +kernel
theorem dc_252_1 : am_dc 252 1 = some (.invokevirtual 236, 4, 0) := by decide +kernel
theorem dc_252_4 : am_dc 252 4 = some (.istore_n 1, 5, 0) := by decide +kernel
theorem dc_252_5 : am_dc 252 5 = some (.iload_n 1, 6, 0) := by decide +kernel
theorem dc_252_6 : am_dc 252 6 = some (.ifCond .ge 16, 9, 22) := by decide +kernel
theorem dc_252_9 : am_dc 252 9 = some (.aload_n 0, 10, 0) := by decide +kernel
theorem dc_252_10 : am_dc 252 10 = some (.invokevirtual 204, 13, 0) := by decide +kernel
theorem dc_252_13 : am_dc 252 13 = some (.i2l, 14, 0) := by decide +kernel
theorem dc_252_14 : am_dc 252 14 = some (.aload_n 0, 15, 0) := by decide +kernel
theorem dc_252_15 : am_dc 252 15 = some (.invokevirtual 213, 18, 0) := by decide +kernel
theorem dc_252_18 : am_dc 252 18 = some (.lmul, 19, 0) := by decide +kernel
theorem dc_252_19 : am_dc 252 19 = some (.goto 9, 22, 28) := by decide +kernel
theorem dc_252_22 : am_dc 252 22 = some (.aload_n 0, 23, 0) := by decide +kernel
theorem dc_252_23 : am_dc 252 23 = some (.iload_n 1, 24, 0) := by decide +kernel
theorem dc_252_24 : am_dc 252 24 = some (.iconst 0, 25, 0) := by decide +kernel
theorem dc_252_25 : am_dc 252 25 = some (.invokevirtual 249, 28, 0) := by decide +kernel
theorem dc_252_28 : am_dc 252 28 = some (.lstore_n 2, 29, 0) := by decide +kernel
theorem dc_252_29 : am_dc 252 29 = some (.lload_n 2, 30, 0) := by decide +kernel
theorem dc_252_30 : am_dc 252 30 = some (.aload_n 0, 31, 0) := by decide +kernel
theorem dc_252_31 : am_dc 252 31 = some (.invokevirtual 242, 34, 0) := by decide +kernel
theorem dc_252_34 : am_dc 252 34 = some (.lcmp, 35, 0) := by decide +kernel
theorem dc_252_35 : am_dc 252 35 = some (.ifCond .ge 9, 38, 44) := by decide +kernel
theorem dc_252_38 : am_dc 252 38 = some (.aload_n 0, 39, 0) := by decide +kernel
theorem dc_252_39 : am_dc 252 39 = some (.iconst 5, 40, 0) := by decide +kernel
theorem dc_252_40 : am_dc 252 40 = some (.invokevirtual 210, 43, 0) := by decide +kernel
theorem dc_252_43 : am_dc 252 43 = some (.ireturn, 44, 0) := by decide +kernel
theorem dc_252_44 : am_dc 252 44 = some (.iload_n 1, 45, 0) := by decide +kernel
theorem dc_252_45 : am_dc 252 45 = some (.ifCond .ge 7, 48, 52) := by decide +kernel
theorem dc_252_48 : am_dc 252 48 = some (.iconst 0, 49, 0) := by decide +kernel
theorem dc_252_49 : am_dc 252 49 = some (.goto 8, 52, 57) := by decide +kernel
theorem dc_252_52 : am_dc 252 52 = some (.aload_n 0, 53, 0) := by decide +kernel
theorem dc_252_53 : am_dc 252 53 = some (.iload_n 1, 54, 0) := by decide +kernel
theorem dc_252_54 : am_dc 252 54 = some (.invokevirtual 183, 57, 0) := by decide +kernel
theorem dc_252_57 : am_dc 252 57 = some (.istore 4, 59, 0) := by decide +kernel
theorem dc_252_59 : am_dc 252 59 = some (.bipush (-4), 61, 0) := by decide +kernel
theorem dc_252_61 : am_dc 252 61 = some (.istore 5, 63, 0) := by decide +kernel
theorem dc_252_63 : am_dc 252 63 = some (.iconst 0, 64, 0) := by decide +kernel
theorem dc_252_64 : am_dc 252 64 = some (.istore 6, 66, 0) := by decide +kernel
theorem dc_252_66 : am_dc 252 66 = some (.iload_n 1, 67, 0) := by decide +kernel
theorem dc_252_67 : am_dc 252 67 = some (.ifCond .lt 59, 70, 126) := by decide +kernel
theorem dc_252_70 : am_dc 252 70 = some (.iload 6, 72, 0) := by decide +kernel
theorem dc_252_72 : am_dc 252 72 = some (.aload_n 0, 73, 0) := by decide +kernel
theorem dc_252_73 : am_dc 252 73 = some (.iload_n 1, 74, 0) := by decide +kernel
theorem dc_252_74 : am_dc 252 74 = some (.invokevirtual 143, 77, 0) := by decide +kernel
theorem dc_252_77 : am_dc 252 77 = some (.if_icmp .ge 49, 80, 126) := by decide +kernel
theorem dc_252_80 : am_dc 252 80 = some (.iload 5, 82, 0) := by decide +kernel
theorem dc_252_82 : am_dc 252 82 = some (.ifCond .ge 44, 85, 126) := by decide +kernel
theorem dc_252_85 : am_dc 252 85 = some (.aload_n 0, 86, 0) := by decide +kernel
theorem dc_252_86 : am_dc 252 86 = some (.iload_n 1, 87, 0) := by decide +kernel
theorem dc_252_87 : am_dc 252 87 = some (.iload 6, 89, 0) := by decide +kernel
theorem dc_252_89 : am_dc 252 89 = some (.invokevirtual 198, 92, 0) := by decide +kernel
theorem dc_252_92 : am_dc 252 92 = some (.ifCond .ne 6, 95, 98) := by decide +kernel
theorem dc_252_95 : am_dc 252 95 = some (.goto 25, 98, 120) := by decide +kernel
theorem dc_252_98 : am_dc 252 98 = some (.aload_n 0, 99, 0) := by decide +kernel
theorem dc_252_99 : am_dc 252 99 = some (.iload_n 1, 100, 0) := by decide +kernel
theorem dc_252_100 : am_dc 252 100 = some (.iconst 3, 101, 0) := by decide +kernel
theorem dc_252_101 : am_dc 252 101 = some (.iload 6, 103, 0) := by decide +kernel
theorem dc_252_103 : am_dc 252 103 = some (.iadd, 104, 0) := by decide +kernel
theorem dc_252_104 : am_dc 252 104 = some (.invokevirtual 154, 107, 0) := by decide +kernel
theorem dc_252_107 : am_dc 252 107 = some (.aload_n 0, 108, 0) := by decide +kernel
theorem dc_252_108 : am_dc 252 108 = some (.invokevirtual 265, 111, 0) := by decide +kernel
theorem dc_252_111 : am_dc 252 111 = some (.istore 5, 113, 0) := by decide +kernel
theorem dc_252_113 : am_dc 252 113 = some (.aload_n 0, 114, 0) := by decide +kernel
theorem dc_252_114 : am_dc 252 114 = some (.iload_n 1, 115, 0) := by decide +kernel
theorem dc_252_115 : am_dc 252 115 = some (.iload 4, 117, 0) := by decide +kernel
theorem dc_252_117 : am_dc 252 117 = some (.invokevirtual 154, 120, 0) := by decide +kernel
theorem dc_252_120 : am_dc 252 120 = some (.iinc 6 1, 123, 0) := by decide +kernel
theorem dc_252_123 : am_dc 252 123 = some (.goto (-57), 126, 66) := by decide +kernel
theorem dc_252_126 : am_dc 252 126 = some (.iload 5, 128, 0) := by decide +kernel
theorem dc_252_128 : am_dc 252 128 = some (.ireturn, 129, 0) := by decide +kernel
theorem dc_253_0 : am_dc 253 0 = some (.aload_n 0, 1, 0) := by decide +kernel
theorem dc_253_1 : am_dc 253 1 = some (.iload_n 1, 2, 0) := by decide +kernel
theorem dc_253_2 : am_dc 253 2 = some (.invokevirtual 136, 5, 0) := by decide +kernel
theorem dc_253_5 : am_dc 253 5 = some (.ifCond .eq 13, 8, 18) := by decide +kernel
theorem dc_253_8 : am_dc 253 8 = some (.iload_n 2, 9, 0) := by decide +kernel
theorem dc_253_9 : am_dc 253 9 = some (.i2l, 10, 0) := by decide +kernel
theorem dc_253_10 : am_dc 253 10 = some (.lconst 0, 11, 0) := by decide +kernel
theorem dc_253_11 : am_dc 253 11 = some (.lconst 1, 12, 0) := by decide +kernel
theorem dc_253_12 : am_dc 253 12 = some (.invokestatic 73, 15, 0) := by decide +kernel
theorem dc_253_15 : am_dc 253 15 = some (.ifCond .ne 7, 18, 22) := by decide +kernel
theorem dc_253_18 : am_dc 253 18 = some (.ldc2_w 274, 21, 0) := by decide +kernel
theorem dc_253_21 : am_dc 253 21 = some (.lreturn, 22, 0) := by decide +kernel
theorem dc_253_22 : am_dc 253 22 = some (.aload_n 0, 23, 0) := by decide +kernel
theorem dc_253_23 : am_dc 253 23 = some (.invokevirtual 256, 26, 0) := by decide +kernel
theorem dc_253_26 : am_dc 253 26 = some (.aload_n 0, 27, 0) := by decide +kernel
theorem dc_253_27 : am_dc 253 27 = some (.iload_n 1, 28, 0) := by decide +kernel
theorem dc_253_28 : am_dc 253 28 = some (.iload_n 2, 29, 0) := by decide +kernel
theorem dc_253_29 : am_dc 253 29 = some (.iconst 1, 30, 0) := by decide +kernel
theorem dc_253_30 : am_dc 253 30 = some (.if_icmp .ne 7, 33, 37) := by decide +kernel
theorem dc_253_33 : am_dc 253 33 = some (.iconst 1, 34, 0) := by decide +kernel
theorem dc_253_34 : am_dc 253 34 = some (.goto 4, 37, 38) := by decide +kernel
theorem dc_253_37 : am_dc 253 37 = some (.iconst 0, 38, 0) := by decide +kernel
theorem dc_253_38 : am_dc 253 38 = some (.invokevirtual 271, 41, 0) := by decide +kernel
theorem dc_253_41 : am_dc 253 41 = some (.lreturn, 42, 0) := by decide +kernel
theorem dc_254_0 : am_dc 254 0 = some (.aload_n 0, 1, 0) := by decide +kernel
theorem dc_254_1 : am_dc 254 1 = some (.invokevirtual 242, 4, 0) := by decide +kernel
theorem dc_254_4 : am_dc 254 4 = some (.lstore_n 3, 5, 0) := by decide +kernel
theorem dc_254_5 : am_dc 254 5 = some (.aload_n 0, 6, 0) := by decide +kernel
theorem dc_254_6 : am_dc 254 6 = some (.getfield 56, 9, 0) := by decide +kernel
theorem dc_254_9 : am_dc 254 9 = some (.aload_n 0, 10, 0) := by decide +kernel
theorem dc_254_10 : am_dc 254 10 = some (.bipush 7, 12, 0) := by decide +kernel
theorem dc_254_12 : am_dc 254 12 = some (.invokevirtual 210, 15, 0) := by decide +kernel
theorem dc_254_15 : am_dc 254 15 = some (.iaload, 16, 0) := by decide +kernel
theorem dc_254_16 : am_dc 254 16 = some (.istore 5, 18, 0) := by decide +kernel
theorem dc_254_18 : am_dc 254 18 = some (.iload 5, 20, 0) := by decide +kernel
theorem dc_254_20 : am_dc 254 20 = some (.ifCond .ne 24, 23, 44) := by decide +kernel
theorem dc_254_23 : am_dc 254 23 = some (.iload_n 2, 24, 0) := by decide +kernel
theorem dc_254_24 : am_dc 254 24 = some (.ifCond .eq 18, 27, 42) := by decide +kernel
theorem dc_254_27 : am_dc 254 27 = some (.aload_n 0, 28, 0) := by decide +kernel
theorem dc_254_28 : am_dc 254 28 = some (.iload_n 1, 29, 0) := by decide +kernel
theorem dc_254_29 : am_dc 254 29 = some (.invokevirtual 268, 32, 0) := by decide +kernel
theorem dc_254_32 : am_dc 254 32 = some (.ifCond .eq 10, 35, 42) := by decide +kernel
theorem dc_254_35 : am_dc 254 35 = some (.aload_n 0, 36, 0) := by decide +kernel
theorem dc_254_36 : am_dc 254 36 = some (.invokevirtual 213, 39, 0) := by decide +kernel
theorem dc_254_39 : am_dc 254 39 = some (.goto 4, 42, 43) := by decide +kernel
theorem dc_254_42 : am_dc 254 42 = some (.lconst 0, 43, 0) := by decide +kernel
theorem dc_254_43 : am_dc 254 43 = some (.lreturn, 44, 0) := by decide +kernel
theorem dc_254_44 : am_dc 254 44 = some (.iload 5, 46, 0) := by decide +kernel
theorem dc_254_46 : am_dc 254 46 = some (.bipush 10, 48, 0) := by decide +kernel
theorem dc_254_48 : am_dc 254 48 = some (.irem, 49, 0) := by decide +kernel
theorem dc_254_49 : am_dc 254 49 = some (.istore 6, 51, 0) := by decide +kernel
theorem dc_254_51 : am_dc 254 51 = some (.iload 5, 53, 0) := by decide +kernel
theorem dc_254_53 : am_dc 254 53 = some (.bipush 30, 55, 0) := by decide +kernel
theorem dc_254_55 : am_dc 254 55 = some (.if_icmp .lt 22, 58, 77) := by decide +kernel
theorem dc_254_58 : am_dc 254 58 = some (.iload_n 2, 59, 0) := by decide +kernel
theorem dc_254_59 : am_dc 254 59 = some (.ifCond .eq 16, 62, 75) := by decide +kernel
theorem dc_254_62 : am_dc 254 62 = some (.iload 6, 64, 0) := by decide +kernel
theorem dc_254_64 : am_dc 254 64 = some (.iload_n 1, 65, 0) := by decide +kernel
theorem dc_254_65 : am_dc 254 65 = some (.if_icmp .ne 10, 68, 75) := by decide +kernel
theorem dc_254_68 : am_dc 254 68 = some (.aload_n 0, 69, 0) := by decide +kernel
theorem dc_254_69 : am_dc 254 69 = some (.invokevirtual 213, 72, 0) := by decide +kernel
theorem dc_254_72 : am_dc 254 72 = some (.goto 4, 75, 76) := by decide +kernel
theorem dc_254_75 : am_dc 254 75 = some (.lconst 0, 76, 0) := by decide +kernel
theorem dc_254_76 : am_dc 254 76 = some (.lreturn, 77, 0) := by decide +kernel
theorem dc_254_77 : am_dc 254 77 = some (.iload 5, 79, 0) := by decide +kernel
theorem dc_254_79 : am_dc 254 79 = some (.bipush 20, 81, 0) := by decide +kernel
theorem dc_254_81 : am_dc 254 81 = some (.if_icmp .ge 18, 84, 99) := by decide +kernel
theorem dc_254_84 : am_dc 254 84 = some (.iload_n 2, 85, 0) := by decide +kernel
theorem dc_254_85 : am_dc 254 85 = some (.ifCond .ne 14, 88, 99) := by decide +kernel
theorem dc_254_88 : am_dc 254 88 = some (.iload 6, 90, 0) := by decide +kernel
theorem dc_254_90 : am_dc 254 90 = some (.iload_n 1, 91, 0) := by decide +kernel
theorem dc_254_91 : am_dc 254 91 = some (.if_icmp .ne 8, 94, 99) := by decide +kernel
theorem dc_254_94 : am_dc 254 94 = some (.aload_n 0, 95, 0) := by decide +kernel
theorem dc_254_95 : am_dc 254 95 = some (.invokevirtual 213, 98, 0) := by decide +kernel
theorem dc_254_98 : am_dc 254 98 = some (.lreturn, 99, 0) := by decide +kernel
theorem dc_254_99 : am_dc 254 99 = some (.aload_n 0, 100, 0) := by decide +kernel
theorem dc_254_100 : am_dc 254 100 = some (.iload 6, 102, 0) := by decide +kernel
theorem dc_254_102 : am_dc 254 102 = some (.invokevirtual 183, 105, 0) := by decide +kernel
theorem dc_254_105 : am_dc 254 105 = some (.istore 7, 107, 0) := by decide +kernel
theorem dc_254_107 : am_dc 254 107 = some (.lconst 0, 108, 0) := by decide +kernel
theorem dc_254_108 : am_dc 254 108 = some (.lstore 8, 110, 0) := by decide +kernel
theorem dc_254_110 : am_dc 254 110 = some (.iconst 0, 111, 0) := by decide +kernel
theorem dc_254_111 : am_dc 254 111 = some (.istore 10, 113, 0) := by decide +kernel
theorem dc_254_113 : am_dc 254 113 = some (.iload 10, 115, 0) := by decide +kernel
theorem dc_254_115 : am_dc 254 115 = some (.iload 5, 117, 0) := by decide +kernel
theorem dc_254_117 : am_dc 254 117 = some (.bipush 20, 119, 0) := by decide +kernel
theorem dc_254_119 : am_dc 254 119 = some (.if_icmp .ge 12, 122, 131) := by decide +kernel
theorem dc_254_122 : am_dc 254 122 = some (.aload_n 0, 123, 0) := by decide +kernel
theorem dc_254_123 : am_dc 254 123 = some (.iload 6, 125, 0) := by decide +kernel
theorem dc_254_125 : am_dc 254 125 = some (.invokevirtual 143, 128, 0) := by decide +kernel
theorem dc_254_128 : am_dc 254 128 = some (.goto 4, 131, 132) := by decide +kernel
theorem dc_254_131 : am_dc 254 131 = some (.iconst 2, 132, 0) := by decide +kernel
theorem dc_254_132 : am_dc 254 132 = some (.if_icmp .ge 98, 135, 230) := by decide +kernel
theorem dc_254_135 : am_dc 254 135 = some (.iload 5, 137, 0) := by decide +kernel
theorem dc_254_137 : am_dc 254 137 = some (.bipush 20, 139, 0) := by decide +kernel
theorem dc_254_139 : am_dc 254 139 = some (.if_icmp .ge 14, 142, 153) := by decide +kernel
theorem dc_254_142 : am_dc 254 142 = some (.aload_n 0, 143, 0) := by decide +kernel
theorem dc_254_143 : am_dc 254 143 = some (.iload 6, 145, 0) := by decide +kernel
theorem dc_254_145 : am_dc 254 145 = some (.iload 10, 147, 0) := by decide +kernel
theorem dc_254_147 : am_dc 254 147 = some (.invokevirtual 198, 150, 0) := by decide +kernel
theorem dc_254_150 : am_dc 254 150 = some (.goto 4, 153, 154) := by decide +kernel
theorem dc_254_153 : am_dc 254 153 = some (.iconst 1, 154, 0) := by decide +kernel
theorem dc_254_154 : am_dc 254 154 = some (.istore 11, 156, 0) := by decide +kernel
theorem dc_254_156 : am_dc 254 156 = some (.iload 11, 158, 0) := by decide +kernel
theorem dc_254_158 : am_dc 254 158 = some (.ifCond .ne 6, 161, 164) := by decide +kernel
theorem dc_254_161 : am_dc 254 161 = some (.goto 63, 164, 224) := by decide +kernel
theorem dc_254_164 : am_dc 254 164 = some (.aload_n 0, 165, 0) := by decide +kernel
theorem dc_254_165 : am_dc 254 165 = some (.iload 6, 167, 0) := by decide +kernel
theorem dc_254_167 : am_dc 254 167 = some (.iload 5, 169, 0) := by decide +kernel
theorem dc_254_169 : am_dc 254 169 = some (.bipush 20, 171, 0) := by decide +kernel
theorem dc_254_171 : am_dc 254 171 = some (.if_icmp .ge 10, 174, 181) := by decide +kernel
theorem dc_254_174 : am_dc 254 174 = some (.iconst 3, 175, 0) := by decide +kernel
theorem dc_254_175 : am_dc 254 175 = some (.iload 10, 177, 0) := by decide +kernel
theorem dc_254_177 : am_dc 254 177 = some (.iadd, 178, 0) := by decide +kernel
theorem dc_254_178 : am_dc 254 178 = some (.goto 7, 181, 185) := by decide +kernel
theorem dc_254_181 : am_dc 254 181 = some (.iconst 1, 182, 0) := by decide +kernel
theorem dc_254_182 : am_dc 254 182 = some (.iload 10, 184, 0) := by decide +kernel
theorem dc_254_184 : am_dc 254 184 = some (.iadd, 185, 0) := by decide +kernel
theorem dc_254_185 : am_dc 254 185 = some (.invokevirtual 154, 188, 0) := by decide +kernel
theorem dc_254_188 : am_dc 254 188 = some (.lload 8, 190, 0) := by decide +kernel
theorem dc_254_190 : am_dc 254 190 = some (.aload_n 0, 191, 0) := by decide +kernel
theorem dc_254_191 : am_dc 254 191 = some (.invokevirtual 213, 194, 0) := by decide +kernel
theorem dc_254_194 : am_dc 254 194 = some (.lconst 0, 195, 0) := by decide +kernel
theorem dc_254_195 : am_dc 254 195 = some (.lcmp, 196, 0) := by decide +kernel
theorem dc_254_196 : am_dc 254 196 = some (.ifCond .ne 7, 199, 203) := by decide +kernel
theorem dc_254_199 : am_dc 254 199 = some (.lconst 0, 200, 0) := by decide +kernel
theorem dc_254_200 : am_dc 254 200 = some (.goto 13, 203, 213) := by decide +kernel
theorem dc_254_203 : am_dc 254 203 = some (.iload 11, 205, 0) := by decide +kernel
theorem dc_254_205 : am_dc 254 205 = some (.i2l, 206, 0) := by decide +kernel
theorem dc_254_206 : am_dc 254 206 = some (.aload_n 0, 207, 0) := by decide +kernel
theorem dc_254_207 : am_dc 254 207 = some (.iload_n 1, 208, 0) := by decide +kernel
theorem dc_254_208 : am_dc 254 208 = some (.iload_n 2, 209, 0) := by decide +kernel
theorem dc_254_209 : am_dc 254 209 = some (.invokevirtual 271, 212, 0) := by decide +kernel
theorem dc_254_212 : am_dc 254 212 = some (.lmul, 213, 0) := by decide +kernel
theorem dc_254_213 : am_dc 254 213 = some (.ladd, 214, 0) := by decide +kernel
theorem dc_254_214 : am_dc 254 214 = some (.lstore 8, 216, 0) := by decide +kernel
theorem dc_254_216 : am_dc 254 216 = some (.aload_n 0, 217, 0) := by decide +kernel
theorem dc_254_217 : am_dc 254 217 = some (.iload 6, 219, 0) := by decide +kernel
theorem dc_254_219 : am_dc 254 219 = some (.iload 7, 221, 0) := by decide +kernel
theorem dc_254_221 : am_dc 254 221 = some (.invokevirtual 154, 224, 0) := by decide +kernel
theorem dc_254_224 : am_dc 254 224 = some (.iinc 10 1, 227, 0) := by decide +kernel
theorem dc_254_227 : am_dc 254 227 = some (.goto (-114), 230, 113) := by decide +kernel
theorem dc_254_230 : am_dc 254 230 = some (.lload 8, 232, 0) := by decide +kernel
theorem dc_254_232 : am_dc 254 232 = some (.lreturn, 233, 0) := by decide +kernel
theorem dc_255_0 : am_dc 255 0 = some (.aload_n 0, 1, 0) := by decide +kernel
theorem dc_255_1 : am_dc 255 1 = some (.iload_n 1, 2, 0) := by decide +kernel
theorem dc_255_2 : am_dc 255 2 = some (.invokevirtual 183, 5, 0) := by decide +kernel
theorem dc_255_5 : am_dc 255 5 = some (.iconst 3, 6, 0) := by decide +kernel
theorem dc_255_6 : am_dc 255 6 = some (.if_icmp .lt 22, 9, 28) := by decide +kernel
theorem dc_255_9 : am_dc 255 9 = some (.aload_n 0, 10, 0) := by decide +kernel
theorem dc_255_10 : am_dc 255 10 = some (.iload_n 1, 11, 0) := by decide +kernel
theorem dc_255_11 : am_dc 255 11 = some (.aload_n 0, 12, 0) := by decide +kernel
theorem dc_255_12 : am_dc 255 12 = some (.iload_n 1, 13, 0) := by decide +kernel
theorem dc_255_13 : am_dc 255 13 = some (.invokevirtual 183, 16, 0) := by decide +kernel
theorem dc_255_16 : am_dc 255 16 = some (.iconst 3, 17, 0) := by decide +kernel
theorem dc_255_17 : am_dc 255 17 = some (.isub, 18, 0) := by decide +kernel
theorem dc_255_18 : am_dc 255 18 = some (.invokevirtual 186, 21, 0) := by decide +kernel
theorem dc_255_21 : am_dc 255 21 = some (.aload_n 0, 22, 0) := by decide +kernel
theorem dc_255_22 : am_dc 255 22 = some (.invokevirtual 204, 25, 0) := by decide +kernel
theorem dc_255_25 : am_dc 255 25 = some (.if_icmp .eq 5, 28, 30) := by decide +kernel
theorem dc_255_28 : am_dc 255 28 = some (.iconst 0, 29, 0) := by decide +kernel
theorem dc_255_29 : am_dc 255 29 = some (.ireturn, 30, 0) := by decide +kernel
theorem dc_255_30 : am_dc 255 30 = some (.iconst 0, 31, 0) := by decide +kernel
theorem dc_255_31 : am_dc 255 31 = some (.istore_n 2, 32, 0) := by decide +kernel
theorem dc_255_32 : am_dc 255 32 = some (.iload_n 2, 33, 0) := by decide +kernel
theorem dc_255_33 : am_dc 255 33 = some (.iload_n 1, 34, 0) := by decide +kernel
theorem dc_255_34 : am_dc 255 34 = some (.if_icmp .ge 39, 37, 73) := by decide +kernel
theorem dc_255_37 : am_dc 255 37 = some (.aload_n 0, 38, 0) := by decide +kernel
theorem dc_255_38 : am_dc 255 38 = some (.iload_n 2, 39, 0) := by decide +kernel
theorem dc_255_39 : am_dc 255 39 = some (.invokevirtual 183, 42, 0) := by decide +kernel
theorem dc_255_42 : am_dc 255 42 = some (.iconst 2, 43, 0) := by decide +kernel
theorem dc_255_43 : am_dc 255 43 = some (.if_icmp .le 24, 46, 67) := by decide +kernel
theorem dc_255_46 : am_dc 255 46 = some (.aload_n 0, 47, 0) := by decide +kernel
theorem dc_255_47 : am_dc 255 47 = some (.iload_n 2, 48, 0) := by decide +kernel
theorem dc_255_48 : am_dc 255 48 = some (.aload_n 0, 49, 0) := by decide +kernel
theorem dc_255_49 : am_dc 255 49 = some (.iload_n 2, 50, 0) := by decide +kernel
theorem dc_255_50 : am_dc 255 50 = some (.invokevirtual 183, 53, 0) := by decide +kernel
theorem dc_255_53 : am_dc 255 53 = some (.iconst 3, 54, 0) := by decide +kernel
theorem dc_255_54 : am_dc 255 54 = some (.isub, 55, 0) := by decide +kernel
theorem dc_255_55 : am_dc 255 55 = some (.invokevirtual 186, 58, 0) := by decide +kernel
theorem dc_255_58 : am_dc 255 58 = some (.aload_n 0, 59, 0) := by decide +kernel
theorem dc_255_59 : am_dc 255 59 = some (.invokevirtual 204, 62, 0) := by decide +kernel
theorem dc_255_62 : am_dc 255 62 = some (.if_icmp .ne 5, 65, 67) := by decide +kernel
theorem dc_255_65 : am_dc 255 65 = some (.iconst 0, 66, 0) := by decide +kernel
theorem dc_255_66 : am_dc 255 66 = some (.ireturn, 67, 0) := by decide +kernel
theorem dc_255_67 : am_dc 255 67 = some (.iinc 2 1, 70, 0) := by decide +kernel
theorem dc_255_70 : am_dc 255 70 = some (.goto (-38), 73, 32) := by decide +kernel
theorem dc_255_73 : am_dc 255 73 = some (.iconst 1, 74, 0) := by decide +kernel
theorem dc_255_74 : am_dc 255 74 = some (.ireturn, 75, 0) := by decide +kernel
theorem dc_256_0 : am_dc 256 0 = some (.aload_n 0, 1, 0) := by decide +kernel
theorem dc_256_1 : am_dc 256 1 = some (.iload_n 1, 2, 0) := by decide +kernel
theorem dc_256_2 : am_dc 256 2 = some (.invokevirtual 136, 5, 0) := by decide +kernel
theorem dc_256_5 : am_dc 256 5 = some (.ifCond .ne 5, 8, 10) := by decide +kernel
theorem dc_256_8 : am_dc 256 8 = some (.iconst (-1), 9, 0) := by decide +kernel
theorem dc_256_9 : am_dc 256 9 = some (.ireturn, 10, 0) := by decide +kernel
theorem dc_256_10 : am_dc 256 10 = some (.aload_n 0, 11, 0) := by decide +kernel
theorem dc_256_11 : am_dc 256 11 = some (.iload_n 1, 12, 0) := by decide +kernel
theorem dc_256_12 : am_dc 256 12 = some (.invokevirtual 183, 15, 0) := by decide +kernel
theorem dc_256_15 : am_dc 256 15 = some (.iconst 2, 16, 0) := by decide +kernel
theorem dc_256_16 : am_dc 256 16 = some (.if_icmp .le 6, 19, 22) := by decide +kernel
theorem dc_256_19 : am_dc 256 19 = some (.bipush (-3), 21, 0) := by decide +kernel
theorem dc_256_21 : am_dc 256 21 = some (.ireturn, 22, 0) := by decide +kernel
theorem dc_256_22 : am_dc 256 22 = some (.aload_n 0, 23, 0) := by decide +kernel
theorem dc_256_23 : am_dc 256 23 = some (.iload_n 1, 24, 0) := by decide +kernel
theorem dc_256_24 : am_dc 256 24 = some (.iconst 0, 25, 0) := by decide +kernel
theorem dc_256_25 : am_dc 256 25 = some (.invokevirtual 276, 28, 0) := by decide +kernel
theorem dc_256_28 : am_dc 256 28 = some (.ifCond .ne 5, 31, 33) := by decide +kernel
theorem dc_256_31 : am_dc 256 31 = some (.iconst 0, 32, 0) := by decide +kernel
theorem dc_256_32 : am_dc 256 32 = some (.ireturn, 33, 0) := by decide +kernel
theorem dc_256_33 : am_dc 256 33 = some (.aload_n 0, 34, 0) := by decide +kernel
theorem dc_256_34 : am_dc 256 34 = some (.iload_n 1, 35, 0) := by decide +kernel
theorem dc_256_35 : am_dc 256 35 = some (.sipush 999, 38, 0) := by decide +kernel
theorem dc_256_38 : am_dc 256 38 = some (.invokevirtual 276, 41, 0) := by decide +kernel
theorem dc_256_41 : am_dc 256 41 = some (.ifCond .eq 6, 44, 47) := by decide +kernel
theorem dc_256_44 : am_dc 256 44 = some (.bipush (-4), 46, 0) := by decide +kernel
theorem dc_256_46 : am_dc 256 46 = some (.ireturn, 47, 0) := by decide +kernel
theorem dc_256_47 : am_dc 256 47 = some (.iconst 0, 48, 0) := by decide +kernel
theorem dc_256_48 : am_dc 256 48 = some (.istore_n 2, 49, 0) := by decide +kernel
theorem dc_256_49 : am_dc 256 49 = some (.sipush 999, 52, 0) := by decide +kernel
theorem dc_256_52 : am_dc 256 52 = some (.istore_n 3, 53, 0) := by decide +kernel
theorem dc_256_53 : am_dc 256 53 = some (.iload_n 3, 54, 0) := by decide +kernel
theorem dc_256_54 : am_dc 256 54 = some (.iload_n 2, 55, 0) := by decide +kernel
theorem dc_256_55 : am_dc 256 55 = some (.isub, 56, 0) := by decide +kernel
theorem dc_256_56 : am_dc 256 56 = some (.iconst 1, 57, 0) := by decide +kernel
theorem dc_256_57 : am_dc 256 57 = some (.if_icmp .le 32, 60, 89) := by decide +kernel
theorem dc_256_60 : am_dc 256 60 = some (.iload_n 2, 61, 0) := by decide +kernel
theorem dc_256_61 : am_dc 256 61 = some (.iload_n 3, 62, 0) := by decide +kernel
theorem dc_256_62 : am_dc 256 62 = some (.iadd, 63, 0) := by decide +kernel
theorem dc_256_63 : am_dc 256 63 = some (.iconst 2, 64, 0) := by decide +kernel
theorem dc_256_64 : am_dc 256 64 = some (.idiv, 65, 0) := by decide +kernel
theorem dc_256_65 : am_dc 256 65 = some (.istore 4, 67, 0) := by decide +kernel
theorem dc_256_67 : am_dc 256 67 = some (.aload_n 0, 68, 0) := by decide +kernel
theorem dc_256_68 : am_dc 256 68 = some (.iload_n 1, 69, 0) := by decide +kernel
theorem dc_256_69 : am_dc 256 69 = some (.iload 4, 71, 0) := by decide +kernel
theorem dc_256_71 : am_dc 256 71 = some (.invokevirtual 276, 74, 0) := by decide +kernel
theorem dc_256_74 : am_dc 256 74 = some (.ifCond .eq 9, 77, 83) := by decide +kernel
theorem dc_256_77 : am_dc 256 77 = some (.iload 4, 79, 0) := by decide +kernel
theorem dc_256_79 : am_dc 256 79 = some (.istore_n 2, 80, 0) := by decide +kernel
theorem dc_256_80 : am_dc 256 80 = some (.goto 6, 83, 86) := by decide +kernel
theorem dc_256_83 : am_dc 256 83 = some (.iload 4, 85, 0) := by decide +kernel
theorem dc_256_85 : am_dc 256 85 = some (.istore_n 3, 86, 0) := by decide +kernel
theorem dc_256_86 : am_dc 256 86 = some (.goto (-33), 89, 53) := by decide +kernel
theorem dc_256_89 : am_dc 256 89 = some (.iload_n 3, 90, 0) := by decide +kernel
theorem dc_256_90 : am_dc 256 90 = some (.ireturn, 91, 0) := by decide +kernel
theorem dc_257_0 : am_dc 257 0 = some (.aload_n 0, 1, 0) := by decide +kernel
theorem dc_257_1 : am_dc 257 1 = some (.bipush 18, 3, 0) := by decide +kernel
theorem dc_257_3 : am_dc 257 3 = some (.iload_n 1, 4, 0) := by decide +kernel
theorem dc_257_4 : am_dc 257 4 = some (.imul, 5, 0) := by decide +kernel
theorem dc_257_5 : am_dc 257 5 = some (.iconst 1, 6, 0) := by decide +kernel
theorem dc_257_6 : am_dc 257 6 = some (.iadd, 7, 0) := by decide +kernel
theorem dc_257_7 : am_dc 257 7 = some (.iload_n 2, 8, 0) := by decide +kernel
theorem dc_257_8 : am_dc 257 8 = some (.invokevirtual 180, 11, 0) := by decide +kernel
theorem dc_257_11 : am_dc 257 11 = some (.istore_n 3, 12, 0) := by decide +kernel
theorem dc_257_12 : am_dc 257 12 = some (.aload_n 0, 13, 0) := by decide +kernel
theorem dc_257_13 : am_dc 257 13 = some (.invokevirtual 262, 16, 0) := by decide +kernel
theorem dc_257_16 : am_dc 257 16 = some (.bipush 10, 18, 0) := by decide +kernel
theorem dc_257_18 : am_dc 257 18 = some (.iload_n 1, 19, 0) := by decide +kernel
theorem dc_257_19 : am_dc 257 19 = some (.iadd, 20, 0) := by decide +kernel
theorem dc_257_20 : am_dc 257 20 = some (.if_icmp .ne 7, 23, 27) := by decide +kernel
theorem dc_257_23 : am_dc 257 23 = some (.iconst 1, 24, 0) := by decide +kernel
theorem dc_257_24 : am_dc 257 24 = some (.goto 4, 27, 28) := by decide +kernel
theorem dc_257_27 : am_dc 257 27 = some (.iconst 0, 28, 0) := by decide +kernel
theorem dc_257_28 : am_dc 257 28 = some (.istore 4, 30, 0) := by decide +kernel
theorem dc_257_30 : am_dc 257 30 = some (.aload_n 0, 31, 0) := by decide +kernel
theorem dc_257_31 : am_dc 257 31 = some (.bipush 18, 33, 0) := by decide +kernel
theorem dc_257_33 : am_dc 257 33 = some (.iload_n 1, 34, 0) := by decide +kernel
theorem dc_257_34 : am_dc 257 34 = some (.imul, 35, 0) := by decide +kernel
theorem dc_257_35 : am_dc 257 35 = some (.iconst 1, 36, 0) := by decide +kernel
theorem dc_257_36 : am_dc 257 36 = some (.iadd, 37, 0) := by decide +kernel
theorem dc_257_37 : am_dc 257 37 = some (.iload_n 3, 38, 0) := by decide +kernel
theorem dc_257_38 : am_dc 257 38 = some (.invokevirtual 180, 41, 0) := by decide +kernel
theorem dc_257_41 : am_dc 257 41 = some (.istore_n 3, 42, 0) := by decide +kernel
theorem dc_257_42 : am_dc 257 42 = some (.iload 4, 44, 0) := by decide +kernel
theorem dc_257_44 : am_dc 257 44 = some (.ireturn, 45, 0) := by decide +kernel
theorem dc_258_0 : am_dc 258 0 = some (.aload_n 0, 1, 0) := by decide +kernel
theorem dc_258_1 : am_dc 258 1 = some (.iload_n 1, 2, 0) := by decide +kernel
theorem dc_258_2 : am_dc 258 2 = some (.invokevirtual 136, 5, 0) := by decide +kernel
theorem dc_258_5 : am_dc 258 5 = some (.ifCond .ne 5, 8, 10) := by decide +kernel
theorem dc_258_8 : am_dc 258 8 = some (.iconst (-1), 9, 0) := by decide +kernel
theorem dc_258_9 : am_dc 258 9 = some (.ireturn, 10, 0) := by decide +kernel
theorem dc_258_10 : am_dc 258 10 = some (.aload_n 0, 11, 0) := by decide +kernel
theorem dc_258_11 : am_dc 258 11 = some (.invokevirtual 280, 14, 0) := by decide +kernel
theorem dc_258_14 : am_dc 258 14 = some (.aload_n 0, 15, 0) := by decide +kernel
theorem dc_258_15 : am_dc 258 15 = some (.iload_n 1, 16, 0) := by decide +kernel
theorem dc_258_16 : am_dc 258 16 = some (.iconst 1, 17, 0) := by decide +kernel
theorem dc_258_17 : am_dc 258 17 = some (.invokevirtual 79, 20, 0) := by decide +kernel
theorem dc_258_20 : am_dc 258 20 = some (.istore_n 2, 21, 0) := by decide +kernel
theorem dc_258_21 : am_dc 258 21 = some (.iconst 0, 22, 0) := by decide +kernel
theorem dc_258_22 : am_dc 258 22 = some (.istore_n 3, 23, 0) := by decide +kernel
theorem dc_258_23 : am_dc 258 23 = some (.lconst 0, 24, 0) := by decide +kernel
theorem dc_258_24 : am_dc 258 24 = some (.lstore 4, 26, 0) := by decide +kernel
theorem dc_258_26 : am_dc 258 26 = some (.bipush 100, 28, 0) := by decide +kernel
theorem dc_258_28 : am_dc 258 28 = some (.istore 6, 30, 0) := by decide +kernel
theorem dc_258_30 : am_dc 258 30 = some (.iload 6, 32, 0) := by decide +kernel
theorem dc_258_32 : am_dc 258 32 = some (.sipush 1000, 35, 0) := by decide +kernel
theorem dc_258_35 : am_dc 258 35 = some (.if_icmp .ge 57, 38, 92) := by decide +kernel
theorem dc_258_38 : am_dc 258 38 = some (.aload_n 0, 39, 0) := by decide +kernel
theorem dc_258_39 : am_dc 258 39 = some (.bipush 18, 41, 0) := by decide +kernel
theorem dc_258_41 : am_dc 258 41 = some (.iload_n 1, 42, 0) := by decide +kernel
theorem dc_258_42 : am_dc 258 42 = some (.imul, 43, 0) := by decide +kernel
theorem dc_258_43 : am_dc 258 43 = some (.iconst 1, 44, 0) := by decide +kernel
theorem dc_258_44 : am_dc 258 44 = some (.iadd, 45, 0) := by decide +kernel
theorem dc_258_45 : am_dc 258 45 = some (.iload 6, 47, 0) := by decide +kernel
theorem dc_258_47 : am_dc 258 47 = some (.invokevirtual 180, 50, 0) := by decide +kernel
theorem dc_258_50 : am_dc 258 50 = some (.istore 7, 52, 0) := by decide +kernel
theorem dc_258_52 : am_dc 258 52 = some (.aload_n 0, 53, 0) := by decide +kernel
theorem dc_258_53 : am_dc 258 53 = some (.invokevirtual 256, 56, 0) := by decide +kernel
theorem dc_258_56 : am_dc 258 56 = some (.iload 6, 58, 0) := by decide +kernel
theorem dc_258_58 : am_dc 258 58 = some (.i2l, 59, 0) := by decide +kernel
theorem dc_258_59 : am_dc 258 59 = some (.aload_n 0, 60, 0) := by decide +kernel
theorem dc_258_60 : am_dc 258 60 = some (.iload_n 1, 61, 0) := by decide +kernel
theorem dc_258_61 : am_dc 258 61 = some (.iconst 0, 62, 0) := by decide +kernel
theorem dc_258_62 : am_dc 258 62 = some (.invokevirtual 271, 65, 0) := by decide +kernel
theorem dc_258_65 : am_dc 258 65 = some (.lmul, 66, 0) := by decide +kernel
theorem dc_258_66 : am_dc 258 66 = some (.lstore 8, 68, 0) := by decide +kernel
theorem dc_258_68 : am_dc 258 68 = some (.lload 8, 70, 0) := by decide +kernel
theorem dc_258_70 : am_dc 258 70 = some (.lload 4, 72, 0) := by decide +kernel
theorem dc_258_72 : am_dc 258 72 = some (.lcmp, 73, 0) := by decide +kernel
theorem dc_258_73 : am_dc 258 73 = some (.ifCond .gt 6, 76, 79) := by decide +kernel
theorem dc_258_76 : am_dc 258 76 = some (.goto 10, 79, 86) := by decide +kernel
theorem dc_258_79 : am_dc 258 79 = some (.lload 8, 81, 0) := by decide +kernel
theorem dc_258_81 : am_dc 258 81 = some (.lstore 4, 83, 0) := by decide +kernel
theorem dc_258_83 : am_dc 258 83 = some (.iload 6, 85, 0) := by decide +kernel
theorem dc_258_85 : am_dc 258 85 = some (.istore_n 3, 86, 0) := by decide +kernel
theorem dc_258_86 : am_dc 258 86 = some (.iinc 6 100, 89, 0) := by decide +kernel
theorem dc_258_89 : am_dc 258 89 = some (.goto (-59), 92, 30) := by decide +kernel
theorem dc_258_92 : am_dc 258 92 = some (.aload_n 0, 93, 0) := by decide +kernel
theorem dc_258_93 : am_dc 258 93 = some (.bipush 18, 95, 0) := by decide +kernel
theorem dc_258_95 : am_dc 258 95 = some (.iload_n 1, 96, 0) := by decide +kernel
theorem dc_258_96 : am_dc 258 96 = some (.imul, 97, 0) := by decide +kernel
theorem dc_258_97 : am_dc 258 97 = some (.iconst 1, 98, 0) := by decide +kernel
theorem dc_258_98 : am_dc 258 98 = some (.iadd, 99, 0) := by decide +kernel
theorem dc_258_99 : am_dc 258 99 = some (.iload_n 2, 100, 0) := by decide +kernel
theorem dc_258_100 : am_dc 258 100 = some (.invokevirtual 180, 103, 0) := by decide +kernel
theorem dc_258_103 : am_dc 258 103 = some (.istore_n 2, 104, 0) := by decide +kernel
theorem dc_258_104 : am_dc 258 104 = some (.aload_n 0, 105, 0) := by decide +kernel
theorem dc_258_105 : am_dc 258 105 = some (.invokevirtual 283, 108, 0) := by decide +kernel
theorem dc_258_108 : am_dc 258 108 = some (.iload_n 3, 109, 0) := by decide +kernel
theorem dc_258_109 : am_dc 258 109 = some (.ireturn, 110, 0) := by decide +kernel
theorem dc_259_0 : am_dc 259 0 = some (.iconst 0, 1, 0) := by decide +kernel
theorem dc_259_1 : am_dc 259 1 = some (.istore_n 1, 2, 0) := by decide +kernel
theorem dc_259_2 : am_dc 259 2 = some (.iload_n 1, 3, 0) := by decide +kernel
theorem dc_259_3 : am_dc 259 3 = some (.iconst 5, 4, 0) := by decide +kernel
theorem dc_259_4 : am_dc 259 4 = some (.if_icmp .ge 26, 7, 30) := by decide +kernel
theorem dc_259_7 : am_dc 259 7 = some (.aload_n 0, 8, 0) := by decide +kernel
theorem dc_259_8 : am_dc 259 8 = some (.getfield 19, 11, 0) := by decide +kernel
theorem dc_259_11 : am_dc 259 11 = some (.iload_n 1, 12, 0) := by decide +kernel
theorem dc_259_12 : am_dc 259 12 = some (.aload_n 0, 13, 0) := by decide +kernel
theorem dc_259_13 : am_dc 259 13 = some (.iload_n 1, 14, 0) := by decide +kernel
theorem dc_259_14 : am_dc 259 14 = some (.invokevirtual 183, 17, 0) := by decide +kernel
theorem dc_259_17 : am_dc 259 17 = some (.iastore, 18, 0) := by decide +kernel
theorem dc_259_18 : am_dc 259 18 = some (.aload_n 0, 19, 0) := by decide +kernel
theorem dc_259_19 : am_dc 259 19 = some (.iload_n 1, 20, 0) := by decide +kernel
theorem dc_259_20 : am_dc 259 20 = some (.iconst 0, 21, 0) := by decide +kernel
theorem dc_259_21 : am_dc 259 21 = some (.invokevirtual 154, 24, 0) := by decide +kernel
theorem dc_259_24 : am_dc 259 24 = some (.iinc 1 1, 27, 0) := by decide +kernel
theorem dc_259_27 : am_dc 259 27 = some (.goto (-25), 30, 2) := by decide +kernel
theorem dc_259_30 : am_dc 259 30 = some (.return_, 31, 0) := by decide +kernel
theorem dc_260_0 : am_dc 260 0 = some (.iconst 0, 1, 0) := by decide +kernel
theorem dc_260_1 : am_dc 260 1 = some (.istore_n 1, 2, 0) := by decide +kernel
theorem dc_260_2 : am_dc 260 2 = some (.iload_n 1, 3, 0) := by decide +kernel
theorem dc_260_3 : am_dc 260 3 = some (.iconst 5, 4, 0) := by decide +kernel
theorem dc_260_4 : am_dc 260 4 = some (.if_icmp .ge 20, 7, 24) := by decide +kernel
theorem dc_260_7 : am_dc 260 7 = some (.aload_n 0, 8, 0) := by decide +kernel
theorem dc_260_8 : am_dc 260 8 = some (.iload_n 1, 9, 0) := by decide +kernel
theorem dc_260_9 : am_dc 260 9 = some (.aload_n 0, 10, 0) := by decide +kernel
theorem dc_260_10 : am_dc 260 10 = some (.getfield 19, 13, 0) := by decide +kernel
theorem dc_260_13 : am_dc 260 13 = some (.iload_n 1, 14, 0) := by decide +kernel
theorem dc_260_14 : am_dc 260 14 = some (.iaload, 15, 0) := by decide +kernel
theorem dc_260_15 : am_dc 260 15 = some (.invokevirtual 154, 18, 0) := by decide +kernel
theorem dc_260_18 : am_dc 260 18 = some (.iinc 1 1, 21, 0) := by decide +kernel
theorem dc_260_21 : am_dc 260 21 = some (.goto (-19), 24, 2) := by decide +kernel
theorem dc_260_24 : am_dc 260 24 = some (.return_, 25, 0) := by decide +kernel
theorem dc_261_0 : am_dc 261 0 = some (.aload_n 0, 1, 0) := by decide +kernel
theorem dc_261_1 : am_dc 261 1 = some (.iload_n 1, 2, 0) := by decide +kernel
theorem dc_261_2 : am_dc 261 2 = some (.iconst 0, 3, 0) := by decide +kernel
theorem dc_261_3 : am_dc 261 3 = some (.invokevirtual 161, 6, 0) := by decide +kernel
theorem dc_261_6 : am_dc 261 6 = some (.ifCond .ne 19, 9, 25) := by decide +kernel
theorem dc_261_9 : am_dc 261 9 = some (.aload_n 0, 10, 0) := by decide +kernel
theorem dc_261_10 : am_dc 261 10 = some (.getfield 28, 13, 0) := by decide +kernel
theorem dc_261_13 : am_dc 261 13 = some (.iload_n 1, 14, 0) := by decide +kernel
theorem dc_261_14 : am_dc 261 14 = some (.iaload, 15, 0) := by decide +kernel
theorem dc_261_15 : am_dc 261 15 = some (.aload_n 0, 16, 0) := by decide +kernel
theorem dc_261_16 : am_dc 261 16 = some (.getfield 9, 19, 0) := by decide +kernel
theorem dc_261_19 : am_dc 261 19 = some (.bipush 116, 21, 0) := by decide +kernel
theorem dc_261_21 : am_dc 261 21 = some (.iaload, 22, 0) := by decide +kernel
theorem dc_261_22 : am_dc 261 22 = some (.if_icmp .le 7, 25, 29) := by decide +kernel
theorem dc_261_25 : am_dc 261 25 = some (.ldc2_w 230, 28, 0) := by decide +kernel
theorem dc_261_28 : am_dc 261 28 = some (.lreturn, 29, 0) := by decide +kernel
theorem dc_261_29 : am_dc 261 29 = some (.iconst 0, 30, 0) := by decide +kernel
theorem dc_261_30 : am_dc 261 30 = some (.istore_n 2, 31, 0) := by decide +kernel
theorem dc_261_31 : am_dc 261 31 = some (.iconst 0, 32, 0) := by decide +kernel
theorem dc_261_32 : am_dc 261 32 = some (.istore_n 3, 33, 0) := by decide +kernel
theorem dc_261_33 : am_dc 261 33 = some (.iload_n 3, 34, 0) := by decide +kernel
theorem dc_261_34 : am_dc 261 34 = some (.aload_n 0, 35, 0) := by decide +kernel
theorem dc_261_35 : am_dc 261 35 = some (.getfield 28, 38, 0) := by decide +kernel
theorem dc_261_38 : am_dc 261 38 = some (.iload_n 1, 39, 0) := by decide +kernel
theorem dc_261_39 : am_dc 261 39 = some (.iaload, 40, 0) := by decide +kernel
theorem dc_261_40 : am_dc 261 40 = some (.if_icmp .ge 60, 43, 100) := by decide +kernel
theorem dc_261_43 : am_dc 261 43 = some (.aload_n 0, 44, 0) := by decide +kernel
theorem dc_261_44 : am_dc 261 44 = some (.getfield 31, 47, 0) := by decide +kernel
theorem dc_261_47 : am_dc 261 47 = some (.bipush 120, 49, 0) := by decide +kernel
theorem dc_261_49 : am_dc 261 49 = some (.iload_n 1, 50, 0) := by decide +kernel
theorem dc_261_50 : am_dc 261 50 = some (.imul, 51, 0) := by decide +kernel
theorem dc_261_51 : am_dc 261 51 = some (.iload_n 3, 52, 0) := by decide +kernel
theorem dc_261_52 : am_dc 261 52 = some (.iadd, 53, 0) := by decide +kernel
theorem dc_261_53 : am_dc 261 53 = some (.iaload, 54, 0) := by decide +kernel
theorem dc_261_54 : am_dc 261 54 = some (.istore 4, 56, 0) := by decide +kernel
theorem dc_261_56 : am_dc 261 56 = some (.aload_n 0, 57, 0) := by decide +kernel
theorem dc_261_57 : am_dc 261 57 = some (.iload 4, 59, 0) := by decide +kernel
theorem dc_261_59 : am_dc 261 59 = some (.invokevirtual 136, 62, 0) := by decide +kernel
theorem dc_261_62 : am_dc 261 62 = some (.ifCond .eq 13, 65, 75) := by decide +kernel
theorem dc_261_65 : am_dc 261 65 = some (.iload_n 2, 66, 0) := by decide +kernel
theorem dc_261_66 : am_dc 261 66 = some (.iload 4, 68, 0) := by decide +kernel
theorem dc_261_68 : am_dc 261 68 = some (.ishr, 69, 0) := by decide +kernel
theorem dc_261_69 : am_dc 261 69 = some (.iconst 1, 70, 0) := by decide +kernel
theorem dc_261_70 : am_dc 261 70 = some (.iand, 71, 0) := by decide +kernel
theorem dc_261_71 : am_dc 261 71 = some (.iconst 1, 72, 0) := by decide +kernel
theorem dc_261_72 : am_dc 261 72 = some (.if_icmp .ne 7, 75, 79) := by decide +kernel
theorem dc_261_75 : am_dc 261 75 = some (.ldc2_w 230, 78, 0) := by decide +kernel
theorem dc_261_78 : am_dc 261 78 = some (.lreturn, 79, 0) := by decide +kernel
theorem dc_261_79 : am_dc 261 79 = some (.iload_n 2, 80, 0) := by decide +kernel
theorem dc_261_80 : am_dc 261 80 = some (.iconst 1, 81, 0) := by decide +kernel
theorem dc_261_81 : am_dc 261 81 = some (.iload 4, 83, 0) := by decide +kernel
theorem dc_261_83 : am_dc 261 83 = some (.ishl, 84, 0) := by decide +kernel
theorem dc_261_84 : am_dc 261 84 = some (.ior, 85, 0) := by decide +kernel
theorem dc_261_85 : am_dc 261 85 = some (.istore_n 2, 86, 0) := by decide +kernel
theorem dc_261_86 : am_dc 261 86 = some (.aload_n 0, 87, 0) := by decide +kernel
theorem dc_261_87 : am_dc 261 87 = some (.getfield 66, 90, 0) := by decide +kernel
theorem dc_261_90 : am_dc 261 90 = some (.iload_n 3, 91, 0) := by decide +kernel
theorem dc_261_91 : am_dc 261 91 = some (.iload 4, 93, 0) := by decide +kernel
theorem dc_261_93 : am_dc 261 93 = some (.iastore, 94, 0) := by decide +kernel
theorem dc_261_94 : am_dc 261 94 = some (.iinc 3 1, 97, 0) := by decide +kernel
theorem dc_261_97 : am_dc 261 97 = some (.goto (-64), 100, 33) := by decide +kernel
theorem dc_261_100 : am_dc 261 100 = some (.aload_n 0, 101, 0) := by decide +kernel
theorem dc_261_101 : am_dc 261 101 = some (.invokevirtual 280, 104, 0) := by decide +kernel
theorem dc_261_104 : am_dc 261 104 = some (.aload_n 0, 105, 0) := by decide +kernel
theorem dc_261_105 : am_dc 261 105 = some (.iconst 0, 106, 0) := by decide +kernel
theorem dc_261_106 : am_dc 261 106 = some (.aload_n 0, 107, 0) := by decide +kernel
theorem dc_261_107 : am_dc 261 107 = some (.getfield 28, 110, 0) := by decide +kernel
theorem dc_261_110 : am_dc 261 110 = some (.iload_n 1, 111, 0) := by decide +kernel
theorem dc_261_111 : am_dc 261 111 = some (.iaload, 112, 0) := by decide +kernel
theorem dc_261_112 : am_dc 261 112 = some (.invokevirtual 286, 115, 0) := by decide +kernel
theorem dc_261_115 : am_dc 261 115 = some (.lstore_n 3, 116, 0) := by decide +kernel
theorem dc_261_116 : am_dc 261 116 = some (.aload_n 0, 117, 0) := by decide +kernel
theorem dc_261_117 : am_dc 261 117 = some (.invokevirtual 283, 120, 0) := by decide +kernel
theorem dc_261_120 : am_dc 261 120 = some (.lload_n 3, 121, 0) := by decide +kernel
theorem dc_261_121 : am_dc 261 121 = some (.lreturn, 122, 0) := by decide +kernel
theorem dc_262_0 : am_dc 262 0 = some (.aload_n 0, 1, 0) := by decide +kernel
theorem dc_262_1 : am_dc 262 1 = some (.invokevirtual 204, 4, 0) := by decide +kernel
theorem dc_262_4 : am_dc 262 4 = some (.i2l, 5, 0) := by decide +kernel
theorem dc_262_5 : am_dc 262 5 = some (.aload_n 0, 6, 0) := by decide +kernel
theorem dc_262_6 : am_dc 262 6 = some (.invokevirtual 213, 9, 0) := by decide +kernel
theorem dc_262_9 : am_dc 262 9 = some (.lmul, 10, 0) := by decide +kernel
theorem dc_262_10 : am_dc 262 10 = some (.lstore_n 3, 11, 0) := by decide +kernel
theorem dc_262_11 : am_dc 262 11 = some (.iload_n 1, 12, 0) := by decide +kernel
theorem dc_262_12 : am_dc 262 12 = some (.iload_n 2, 13, 0) := by decide +kernel
theorem dc_262_13 : am_dc 262 13 = some (.if_icmp .ne 5, 16, 18) := by decide +kernel
theorem dc_262_16 : am_dc 262 16 = some (.lload_n 3, 17, 0) := by decide +kernel
theorem dc_262_17 : am_dc 262 17 = some (.lreturn, 18, 0) := by decide +kernel
theorem dc_262_18 : am_dc 262 18 = some (.aload_n 0, 19, 0) := by decide +kernel
theorem dc_262_19 : am_dc 262 19 = some (.iload_n 1, 20, 0) := by decide +kernel
theorem dc_262_20 : am_dc 262 20 = some (.iconst 1, 21, 0) := by decide +kernel
theorem dc_262_21 : am_dc 262 21 = some (.iadd, 22, 0) := by decide +kernel
theorem dc_262_22 : am_dc 262 22 = some (.iload_n 2, 23, 0) := by decide +kernel
theorem dc_262_23 : am_dc 262 23 = some (.invokevirtual 286, 26, 0) := by decide +kernel
theorem dc_262_26 : am_dc 262 26 = some (.lstore 5, 28, 0) := by decide +kernel
theorem dc_262_28 : am_dc 262 28 = some (.lload 5, 30, 0) := by decide +kernel
theorem dc_262_30 : am_dc 262 30 = some (.lload_n 3, 31, 0) := by decide +kernel
theorem dc_262_31 : am_dc 262 31 = some (.lcmp, 32, 0) := by decide +kernel
theorem dc_262_32 : am_dc 262 32 = some (.ifCond .le 8, 35, 40) := by decide +kernel
theorem dc_262_35 : am_dc 262 35 = some (.lload 5, 37, 0) := by decide +kernel
theorem dc_262_37 : am_dc 262 37 = some (.goto 4, 40, 41) := by decide +kernel
theorem dc_262_40 : am_dc 262 40 = some (.lload_n 3, 41, 0) := by decide +kernel
theorem dc_262_41 : am_dc 262 41 = some (.lstore_n 3, 42, 0) := by decide +kernel
theorem dc_262_42 : am_dc 262 42 = some (.aload_n 0, 43, 0) := by decide +kernel
theorem dc_262_43 : am_dc 262 43 = some (.getfield 66, 46, 0) := by decide +kernel
theorem dc_262_46 : am_dc 262 46 = some (.iload_n 1, 47, 0) := by decide +kernel
theorem dc_262_47 : am_dc 262 47 = some (.iaload, 48, 0) := by decide +kernel
theorem dc_262_48 : am_dc 262 48 = some (.istore 7, 50, 0) := by decide +kernel
theorem dc_262_50 : am_dc 262 50 = some (.aload_n 0, 51, 0) := by decide +kernel
theorem dc_262_51 : am_dc 262 51 = some (.iload 7, 53, 0) := by decide +kernel
theorem dc_262_53 : am_dc 262 53 = some (.invokevirtual 192, 56, 0) := by decide +kernel
theorem dc_262_56 : am_dc 262 56 = some (.ifCond .ne 5, 59, 61) := by decide +kernel
theorem dc_262_59 : am_dc 262 59 = some (.lload_n 3, 60, 0) := by decide +kernel
theorem dc_262_60 : am_dc 262 60 = some (.lreturn, 61, 0) := by decide +kernel
theorem dc_262_61 : am_dc 262 61 = some (.aload_n 0, 62, 0) := by decide +kernel
theorem dc_262_62 : am_dc 262 62 = some (.iload 7, 64, 0) := by decide +kernel
theorem dc_262_64 : am_dc 262 64 = some (.iconst 1, 65, 0) := by decide +kernel
theorem dc_262_65 : am_dc 262 65 = some (.invokevirtual 79, 68, 0) := by decide +kernel
theorem dc_262_68 : am_dc 262 68 = some (.ineg, 69, 0) := by decide +kernel
theorem dc_262_69 : am_dc 262 69 = some (.i2l, 70, 0) := by decide +kernel
theorem dc_262_70 : am_dc 262 70 = some (.aload_n 0, 71, 0) := by decide +kernel
theorem dc_262_71 : am_dc 262 71 = some (.invokevirtual 213, 74, 0) := by decide +kernel
theorem dc_262_74 : am_dc 262 74 = some (.lmul, 75, 0) := by decide +kernel
theorem dc_262_75 : am_dc 262 75 = some (.lstore 5, 77, 0) := by decide +kernel
theorem dc_262_77 : am_dc 262 77 = some (.iconst 0, 78, 0) := by decide +kernel
theorem dc_262_78 : am_dc 262 78 = some (.istore 8, 80, 0) := by decide +kernel
theorem dc_262_80 : am_dc 262 80 = some (.iload 8, 82, 0) := by decide +kernel
theorem dc_262_82 : am_dc 262 82 = some (.aload_n 0, 83, 0) := by decide +kernel
theorem dc_262_83 : am_dc 262 83 = some (.iload 7, 85, 0) := by decide +kernel
theorem dc_262_85 : am_dc 262 85 = some (.invokevirtual 143, 88, 0) := by decide +kernel
theorem dc_262_88 : am_dc 262 88 = some (.if_icmp .ge 61, 91, 149) := by decide +kernel
theorem dc_262_91 : am_dc 262 91 = some (.aload_n 0, 92, 0) := by decide +kernel
theorem dc_262_92 : am_dc 262 92 = some (.iload 7, 94, 0) := by decide +kernel
theorem dc_262_94 : am_dc 262 94 = some (.iload 8, 96, 0) := by decide +kernel
theorem dc_262_96 : am_dc 262 96 = some (.invokevirtual 198, 99, 0) := by decide +kernel
theorem dc_262_99 : am_dc 262 99 = some (.istore 9, 101, 0) := by decide +kernel
theorem dc_262_101 : am_dc 262 101 = some (.iload 9, 103, 0) := by decide +kernel
theorem dc_262_103 : am_dc 262 103 = some (.ifCond .ne 6, 106, 109) := by decide +kernel
theorem dc_262_106 : am_dc 262 106 = some (.goto 37, 109, 143) := by decide +kernel
theorem dc_262_109 : am_dc 262 109 = some (.aload_n 0, 110, 0) := by decide +kernel
theorem dc_262_110 : am_dc 262 110 = some (.iload 7, 112, 0) := by decide +kernel
theorem dc_262_112 : am_dc 262 112 = some (.iconst 3, 113, 0) := by decide +kernel
theorem dc_262_113 : am_dc 262 113 = some (.iload 8, 115, 0) := by decide +kernel
theorem dc_262_115 : am_dc 262 115 = some (.iadd, 116, 0) := by decide +kernel
theorem dc_262_116 : am_dc 262 116 = some (.invokevirtual 154, 119, 0) := by decide +kernel
theorem dc_262_119 : am_dc 262 119 = some (.lload 5, 121, 0) := by decide +kernel
theorem dc_262_121 : am_dc 262 121 = some (.iload 9, 123, 0) := by decide +kernel
theorem dc_262_123 : am_dc 262 123 = some (.i2l, 124, 0) := by decide +kernel
theorem dc_262_124 : am_dc 262 124 = some (.aload_n 0, 125, 0) := by decide +kernel
theorem dc_262_125 : am_dc 262 125 = some (.iload_n 1, 126, 0) := by decide +kernel
theorem dc_262_126 : am_dc 262 126 = some (.iconst 1, 127, 0) := by decide +kernel
theorem dc_262_127 : am_dc 262 127 = some (.iadd, 128, 0) := by decide +kernel
theorem dc_262_128 : am_dc 262 128 = some (.iload_n 2, 129, 0) := by decide +kernel
theorem dc_262_129 : am_dc 262 129 = some (.invokevirtual 286, 132, 0) := by decide +kernel
theorem dc_262_132 : am_dc 262 132 = some (.lmul, 133, 0) := by decide +kernel
theorem dc_262_133 : am_dc 262 133 = some (.ladd, 134, 0) := by decide +kernel
theorem dc_262_134 : am_dc 262 134 = some (.lstore 5, 136, 0) := by decide +kernel
theorem dc_262_136 : am_dc 262 136 = some (.aload_n 0, 137, 0) := by decide +kernel
theorem dc_262_137 : am_dc 262 137 = some (.iload 7, 139, 0) := by decide +kernel
theorem dc_262_139 : am_dc 262 139 = some (.iconst 0, 140, 0) := by decide +kernel
theorem dc_262_140 : am_dc 262 140 = some (.invokevirtual 154, 143, 0) := by decide +kernel
theorem dc_262_143 : am_dc 262 143 = some (.iinc 8 1, 146, 0) := by decide +kernel
theorem dc_262_146 : am_dc 262 146 = some (.goto (-66), 149, 80) := by decide +kernel
theorem dc_262_149 : am_dc 262 149 = some (.lload 5, 151, 0) := by decide +kernel
theorem dc_262_151 : am_dc 262 151 = some (.lload_n 3, 152, 0) := by decide +kernel
theorem dc_262_152 : am_dc 262 152 = some (.lcmp, 153, 0) := by decide +kernel
theorem dc_262_153 : am_dc 262 153 = some (.ifCond .le 8, 156, 161) := by decide +kernel
theorem dc_262_156 : am_dc 262 156 = some (.lload 5, 158, 0) := by decide +kernel
theorem dc_262_158 : am_dc 262 158 = some (.goto 4, 161, 162) := by decide +kernel
theorem dc_262_161 : am_dc 262 161 = some (.lload_n 3, 162, 0) := by decide +kernel
theorem dc_262_162 : am_dc 262 162 = some (.lreturn, 163, 0) := by decide +kernel
theorem dc_263_0 : am_dc 263 0 = some (.aload_n 0, 1, 0) := by decide +kernel
theorem dc_263_1 : am_dc 263 1 = some (.getfield 9, 4, 0) := by decide +kernel
theorem dc_263_4 : am_dc 263 4 = some (.bipush 116, 6, 0) := by decide +kernel
