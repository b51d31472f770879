/-! the instructions of the methods -/
theorem dc_263_6 : am_dc 263 6 = some (.iaload, 7, 0) := by decide +kernel
theorem dc_263_7 : am_dc 263 7 = some (.ifCond .ne 6, 10, 13) := by decide +kernel
theorem dc_263_10 : am_dc 263 10 = some (.bipush (-4), 12, 0) := by decide +kernel
theorem dc_263_12 : am_dc 263 12 = some (.ireturn, 13, 0) := by decide +kernel
theorem dc_263_13 : am_dc 263 13 = some (.aload_n 0, 14, 0) := by decide +kernel
theorem dc_263_14 : am_dc 263 14 = some (.invokevirtual 280, 17, 0) := by decide +kernel
theorem dc_263_17 : am_dc 263 17 = some (.aload_n 0, 18, 0) := by decide +kernel
theorem dc_263_18 : am_dc 263 18 = some (.bipush (-4), 20, 0) := by decide +kernel
theorem dc_263_20 : am_dc 263 20 = some (.putfield 290, 23, 0) := by decide +kernel
theorem dc_263_23 : am_dc 263 23 = some (.aload_n 0, 24, 0) := by decide +kernel
theorem dc_263_24 : am_dc 263 24 = some (.iconst 0, 25, 0) := by decide +kernel
theorem dc_263_25 : am_dc 263 25 = some (.iconst 0, 26, 0) := by decide +kernel
theorem dc_263_26 : am_dc 263 26 = some (.iconst 0, 27, 0) := by decide +kernel
theorem dc_263_27 : am_dc 263 27 = some (.invokevirtual 296, 30, 0) := by decide +kernel
theorem dc_263_30 : am_dc 263 30 = some (.aload_n 0, 31, 0) := by decide +kernel
theorem dc_263_31 : am_dc 263 31 = some (.invokevirtual 283, 34, 0) := by decide +kernel
theorem dc_263_34 : am_dc 263 34 = some (.aload_n 0, 35, 0) := by decide +kernel
theorem dc_263_35 : am_dc 263 35 = some (.getfield 290, 38, 0) := by decide +kernel
theorem dc_263_38 : am_dc 263 38 = some (.ireturn, 39, 0) := by decide +kernel
theorem dc_264_0 : am_dc 264 0 = some (.iload_n 1, 1, 0) := by decide +kernel
theorem dc_264_1 : am_dc 264 1 = some (.aload_n 0, 2, 0) := by decide +kernel
theorem dc_264_2 : am_dc 264 2 = some (.getfield 9, 5, 0) := by decide +kernel
theorem dc_264_5 : am_dc 264 5 = some (.bipush 116, 7, 0) := by decide +kernel
theorem dc_264_7 : am_dc 264 7 = some (.iaload, 8, 0) := by decide +kernel
theorem dc_264_8 : am_dc 264 8 = some (.if_icmp .ne 41, 11, 49) := by decide +kernel
theorem dc_264_11 : am_dc 264 11 = some (.aload_n 0, 12, 0) := by decide +kernel
theorem dc_264_12 : am_dc 264 12 = some (.iconst 0, 13, 0) := by decide +kernel
theorem dc_264_13 : am_dc 264 13 = some (.iload_n 1, 14, 0) := by decide +kernel
theorem dc_264_14 : am_dc 264 14 = some (.invokevirtual 286, 17, 0) := by decide +kernel
theorem dc_264_17 : am_dc 264 17 = some (.lstore 4, 19, 0) := by decide +kernel
theorem dc_264_19 : am_dc 264 19 = some (.aload_n 0, 20, 0) := by decide +kernel
theorem dc_264_20 : am_dc 264 20 = some (.getfield 290, 23, 0) := by decide +kernel
theorem dc_264_23 : am_dc 264 23 = some (.ifCond .lt 14, 26, 37) := by decide +kernel
theorem dc_264_26 : am_dc 264 26 = some (.lload 4, 28, 0) := by decide +kernel
theorem dc_264_28 : am_dc 264 28 = some (.aload_n 0, 29, 0) := by decide +kernel
theorem dc_264_29 : am_dc 264 29 = some (.getfield 293, 32, 0) := by decide +kernel
theorem dc_264_32 : am_dc 264 32 = some (.lcmp, 33, 0) := by decide +kernel
theorem dc_264_33 : am_dc 264 33 = some (.ifCond .gt 4, 36, 37) := by decide +kernel
theorem dc_264_36 : am_dc 264 36 = some (.return_, 37, 0) := by decide +kernel
theorem dc_264_37 : am_dc 264 37 = some (.aload_n 0, 38, 0) := by decide +kernel
theorem dc_264_38 : am_dc 264 38 = some (.lload 4, 40, 0) := by decide +kernel
theorem dc_264_40 : am_dc 264 40 = some (.putfield 293, 43, 0) := by decide +kernel
theorem dc_264_43 : am_dc 264 43 = some (.aload_n 0, 44, 0) := by decide +kernel
theorem dc_264_44 : am_dc 264 44 = some (.iload_n 3, 45, 0) := by decide +kernel
theorem dc_264_45 : am_dc 264 45 = some (.putfield 290, 48, 0) := by decide +kernel
theorem dc_264_48 : am_dc 264 48 = some (.return_, 49, 0) := by decide +kernel
theorem dc_264_49 : am_dc 264 49 = some (.iconst 0, 50, 0) := by decide +kernel
theorem dc_264_50 : am_dc 264 50 = some (.istore 4, 52, 0) := by decide +kernel
theorem dc_264_52 : am_dc 264 52 = some (.iload 4, 54, 0) := by decide +kernel
theorem dc_264_54 : am_dc 264 54 = some (.aload_n 0, 55, 0) := by decide +kernel
theorem dc_264_55 : am_dc 264 55 = some (.getfield 9, 58, 0) := by decide +kernel
theorem dc_264_58 : am_dc 264 58 = some (.bipush 116, 60, 0) := by decide +kernel
theorem dc_264_60 : am_dc 264 60 = some (.iaload, 61, 0) := by decide +kernel
theorem dc_264_61 : am_dc 264 61 = some (.if_icmp .ge 51, 64, 112) := by decide +kernel
theorem dc_264_64 : am_dc 264 64 = some (.iload_n 2, 65, 0) := by decide +kernel
theorem dc_264_65 : am_dc 264 65 = some (.iload 4, 67, 0) := by decide +kernel
theorem dc_264_67 : am_dc 264 67 = some (.ishr, 68, 0) := by decide +kernel
theorem dc_264_68 : am_dc 264 68 = some (.iconst 1, 69, 0) := by decide +kernel
theorem dc_264_69 : am_dc 264 69 = some (.iand, 70, 0) := by decide +kernel
theorem dc_264_70 : am_dc 264 70 = some (.iconst 1, 71, 0) := by decide +kernel
theorem dc_264_71 : am_dc 264 71 = some (.if_icmp .ne 6, 74, 77) := by decide +kernel
theorem dc_264_74 : am_dc 264 74 = some (.goto 32, 77, 106) := by decide +kernel
theorem dc_264_77 : am_dc 264 77 = some (.aload_n 0, 78, 0) := by decide +kernel
theorem dc_264_78 : am_dc 264 78 = some (.getfield 66, 81, 0) := by decide +kernel
theorem dc_264_81 : am_dc 264 81 = some (.iload_n 1, 82, 0) := by decide +kernel
theorem dc_264_82 : am_dc 264 82 = some (.iload 4, 84, 0) := by decide +kernel
theorem dc_264_84 : am_dc 264 84 = some (.iastore, 85, 0) := by decide +kernel
theorem dc_264_85 : am_dc 264 85 = some (.aload_n 0, 86, 0) := by decide +kernel
theorem dc_264_86 : am_dc 264 86 = some (.iload_n 1, 87, 0) := by decide +kernel
theorem dc_264_87 : am_dc 264 87 = some (.iconst 1, 88, 0) := by decide +kernel
theorem dc_264_88 : am_dc 264 88 = some (.iadd, 89, 0) := by decide +kernel
theorem dc_264_89 : am_dc 264 89 = some (.iload_n 2, 90, 0) := by decide +kernel
theorem dc_264_90 : am_dc 264 90 = some (.iconst 1, 91, 0) := by decide +kernel
theorem dc_264_91 : am_dc 264 91 = some (.iload 4, 93, 0) := by decide +kernel
theorem dc_264_93 : am_dc 264 93 = some (.ishl, 94, 0) := by decide +kernel
theorem dc_264_94 : am_dc 264 94 = some (.ior, 95, 0) := by decide +kernel
theorem dc_264_95 : am_dc 264 95 = some (.iload_n 3, 96, 0) := by decide +kernel
theorem dc_264_96 : am_dc 264 96 = some (.iload 4, 98, 0) := by decide +kernel
theorem dc_264_98 : am_dc 264 98 = some (.iconst 3, 99, 0) := by decide +kernel
theorem dc_264_99 : am_dc 264 99 = some (.iload_n 1, 100, 0) := by decide +kernel
theorem dc_264_100 : am_dc 264 100 = some (.imul, 101, 0) := by decide +kernel
theorem dc_264_101 : am_dc 264 101 = some (.ishl, 102, 0) := by decide +kernel
theorem dc_264_102 : am_dc 264 102 = some (.ior, 103, 0) := by decide +kernel
theorem dc_264_103 : am_dc 264 103 = some (.invokevirtual 296, 106, 0) := by decide +kernel
theorem dc_264_106 : am_dc 264 106 = some (.iinc 4 1, 109, 0) := by decide +kernel
theorem dc_264_109 : am_dc 264 109 = some (.goto (-57), 112, 52) := by decide +kernel
theorem dc_264_112 : am_dc 264 112 = some (.return_, 113, 0) := by decide +kernel
theorem dc_265_0 : am_dc 265 0 = some (.aload_n 0, 1, 0) := by decide +kernel
theorem dc_265_1 : am_dc 265 1 = some (.iload_n 1, 2, 0) := by decide +kernel
theorem dc_265_2 : am_dc 265 2 = some (.i2l, 3, 0) := by decide +kernel
theorem dc_265_3 : am_dc 265 3 = some (.lconst 0, 4, 0) := by decide +kernel
theorem dc_265_4 : am_dc 265 4 = some (.lconst 1, 5, 0) := by decide +kernel
theorem dc_265_5 : am_dc 265 5 = some (.invokestatic 73, 8, 0) := by decide +kernel
theorem dc_265_8 : am_dc 265 8 = some (.ifCond .eq 7, 11, 15) := by decide +kernel
theorem dc_265_11 : am_dc 265 11 = some (.iconst 0, 12, 0) := by decide +kernel
theorem dc_265_12 : am_dc 265 12 = some (.goto 4, 15, 16) := by decide +kernel
theorem dc_265_15 : am_dc 265 15 = some (.iconst 1, 16, 0) := by decide +kernel
theorem dc_265_16 : am_dc 265 16 = some (.putfield 69, 19, 0) := by decide +kernel
theorem dc_265_19 : am_dc 265 19 = some (.aload_n 0, 20, 0) := by decide +kernel
theorem dc_265_20 : am_dc 265 20 = some (.getfield 69, 23, 0) := by decide +kernel
theorem dc_265_23 : am_dc 265 23 = some (.iconst 1, 24, 0) := by decide +kernel
theorem dc_265_24 : am_dc 265 24 = some (.if_icmp .ne 5, 27, 29) := by decide +kernel
theorem dc_265_27 : am_dc 265 27 = some (.lconst 0, 28, 0) := by decide +kernel
theorem dc_265_28 : am_dc 265 28 = some (.lreturn, 29, 0) := by decide +kernel
theorem dc_265_29 : am_dc 265 29 = some (.aload_n 0, 30, 0) := by decide +kernel
theorem dc_265_30 : am_dc 265 30 = some (.invokevirtual 280, 33, 0) := by decide +kernel
theorem dc_265_33 : am_dc 265 33 = some (.aload_n 0, 34, 0) := by decide +kernel
theorem dc_265_34 : am_dc 265 34 = some (.iload_n 2, 35, 0) := by decide +kernel
theorem dc_265_35 : am_dc 265 35 = some (.putfield 300, 38, 0) := by decide +kernel
theorem dc_265_38 : am_dc 265 38 = some (.aload_n 0, 39, 0) := by decide +kernel
theorem dc_265_39 : am_dc 265 39 = some (.iload_n 1, 40, 0) := by decide +kernel
theorem dc_265_40 : am_dc 265 40 = some (.iconst 1, 41, 0) := by decide +kernel
theorem dc_265_41 : am_dc 265 41 = some (.if_icmp .ne 7, 44, 48) := by decide +kernel
theorem dc_265_44 : am_dc 265 44 = some (.iconst 1, 45, 0) := by decide +kernel
theorem dc_265_45 : am_dc 265 45 = some (.goto 4, 48, 49) := by decide +kernel
theorem dc_265_48 : am_dc 265 48 = some (.iconst 0, 49, 0) := by decide +kernel
theorem dc_265_49 : am_dc 265 49 = some (.invokevirtual 312, 52, 0) := by decide +kernel
theorem dc_265_52 : am_dc 265 52 = some (.lstore_n 3, 53, 0) := by decide +kernel
theorem dc_265_53 : am_dc 265 53 = some (.aload_n 0, 54, 0) := by decide +kernel
theorem dc_265_54 : am_dc 265 54 = some (.invokevirtual 283, 57, 0) := by decide +kernel
theorem dc_265_57 : am_dc 265 57 = some (.lload_n 3, 58, 0) := by decide +kernel
theorem dc_265_58 : am_dc 265 58 = some (.lreturn, 59, 0) := by decide +kernel
theorem dc_266_0 : am_dc 266 0 = some (.lconst 0, 1, 0) := by decide +kernel
theorem dc_266_1 : am_dc 266 1 = some (.lstore_n 2, 2, 0) := by decide +kernel
theorem dc_266_2 : am_dc 266 2 = some (.iload_n 1, 3, 0) := by decide +kernel
theorem dc_266_3 : am_dc 266 3 = some (.ifCond .eq 10, 6, 13) := by decide +kernel
theorem dc_266_6 : am_dc 266 6 = some (.aload_n 0, 7, 0) := by decide +kernel
theorem dc_266_7 : am_dc 266 7 = some (.invokevirtual 236, 10, 0) := by decide +kernel
theorem dc_266_10 : am_dc 266 10 = some (.goto 4, 13, 14) := by decide +kernel
theorem dc_266_13 : am_dc 266 13 = some (.iconst 0, 14, 0) := by decide +kernel
theorem dc_266_14 : am_dc 266 14 = some (.istore 4, 16, 0) := by decide +kernel
theorem dc_266_16 : am_dc 266 16 = some (.iload_n 1, 17, 0) := by decide +kernel
theorem dc_266_17 : am_dc 266 17 = some (.ifCond .eq 20, 20, 37) := by decide +kernel
theorem dc_266_20 : am_dc 266 20 = some (.iload 4, 22, 0) := by decide +kernel
theorem dc_266_22 : am_dc 266 22 = some (.ifCond .ge 7, 25, 29) := by decide +kernel
theorem dc_266_25 : am_dc 266 25 = some (.iconst 0, 26, 0) := by decide +kernel
theorem dc_266_26 : am_dc 266 26 = some (.goto 15, 29, 41) := by decide +kernel
theorem dc_266_29 : am_dc 266 29 = some (.bipush 10, 31, 0) := by decide +kernel
theorem dc_266_31 : am_dc 266 31 = some (.iload 4, 33, 0) := by decide +kernel
theorem dc_266_33 : am_dc 266 33 = some (.iadd, 34, 0) := by decide +kernel
theorem dc_266_34 : am_dc 266 34 = some (.goto 7, 37, 41) := by decide +kernel
theorem dc_266_37 : am_dc 266 37 = some (.aload_n 0, 38, 0) := by decide +kernel
theorem dc_266_38 : am_dc 266 38 = some (.invokevirtual 262, 41, 0) := by decide +kernel
theorem dc_266_41 : am_dc 266 41 = some (.istore 5, 43, 0) := by decide +kernel
theorem dc_266_43 : am_dc 266 43 = some (.iload 5, 45, 0) := by decide +kernel
theorem dc_266_45 : am_dc 266 45 = some (.ifCond .ne 11, 48, 56) := by decide +kernel
theorem dc_266_48 : am_dc 266 48 = some (.aload_n 0, 49, 0) := by decide +kernel
theorem dc_266_49 : am_dc 266 49 = some (.invokevirtual 204, 52, 0) := by decide +kernel
theorem dc_266_52 : am_dc 266 52 = some (.i2l, 53, 0) := by decide +kernel
theorem dc_266_53 : am_dc 266 53 = some (.lload_n 2, 54, 0) := by decide +kernel
theorem dc_266_54 : am_dc 266 54 = some (.lsub, 55, 0) := by decide +kernel
theorem dc_266_55 : am_dc 266 55 = some (.lreturn, 56, 0) := by decide +kernel
theorem dc_266_56 : am_dc 266 56 = some (.iload 5, 58, 0) := by decide +kernel
theorem dc_266_58 : am_dc 266 58 = some (.bipush 10, 60, 0) := by decide +kernel
theorem dc_266_60 : am_dc 266 60 = some (.irem, 61, 0) := by decide +kernel
theorem dc_266_61 : am_dc 266 61 = some (.istore 4, 63, 0) := by decide +kernel
theorem dc_266_63 : am_dc 266 63 = some (.iload 5, 65, 0) := by decide +kernel
theorem dc_266_65 : am_dc 266 65 = some (.bipush 30, 67, 0) := by decide +kernel
theorem dc_266_67 : am_dc 266 67 = some (.if_icmp .lt 19, 70, 86) := by decide +kernel
theorem dc_266_70 : am_dc 266 70 = some (.aload_n 0, 71, 0) := by decide +kernel
theorem dc_266_71 : am_dc 266 71 = some (.iload 4, 73, 0) := by decide +kernel
theorem dc_266_73 : am_dc 266 73 = some (.aload_n 0, 74, 0) := by decide +kernel
theorem dc_266_74 : am_dc 266 74 = some (.iload 4, 76, 0) := by decide +kernel
theorem dc_266_76 : am_dc 266 76 = some (.invokevirtual 309, 79, 0) := by decide +kernel
theorem dc_266_79 : am_dc 266 79 = some (.invokevirtual 186, 82, 0) := by decide +kernel
theorem dc_266_82 : am_dc 266 82 = some (.i2l, 83, 0) := by decide +kernel
theorem dc_266_83 : am_dc 266 83 = some (.lload_n 2, 84, 0) := by decide +kernel
theorem dc_266_84 : am_dc 266 84 = some (.lsub, 85, 0) := by decide +kernel
theorem dc_266_85 : am_dc 266 85 = some (.lreturn, 86, 0) := by decide +kernel
theorem dc_266_86 : am_dc 266 86 = some (.iload 5, 88, 0) := by decide +kernel
theorem dc_266_88 : am_dc 266 88 = some (.bipush 20, 90, 0) := by decide +kernel
theorem dc_266_90 : am_dc 266 90 = some (.if_icmp .ge 31, 93, 121) := by decide +kernel
theorem dc_266_93 : am_dc 266 93 = some (.lload_n 2, 94, 0) := by decide +kernel
theorem dc_266_94 : am_dc 266 94 = some (.aload_n 0, 95, 0) := by decide +kernel
theorem dc_266_95 : am_dc 266 95 = some (.iload 4, 97, 0) := by decide +kernel
theorem dc_266_97 : am_dc 266 97 = some (.iconst 1, 98, 0) := by decide +kernel
theorem dc_266_98 : am_dc 266 98 = some (.invokevirtual 79, 101, 0) := by decide +kernel
theorem dc_266_101 : am_dc 266 101 = some (.i2l, 102, 0) := by decide +kernel
theorem dc_266_102 : am_dc 266 102 = some (.ladd, 103, 0) := by decide +kernel
theorem dc_266_103 : am_dc 266 103 = some (.lstore_n 2, 104, 0) := by decide +kernel
theorem dc_266_104 : am_dc 266 104 = some (.aload_n 0, 105, 0) := by decide +kernel
theorem dc_266_105 : am_dc 266 105 = some (.iload 4, 107, 0) := by decide +kernel
theorem dc_266_107 : am_dc 266 107 = some (.iconst 3, 108, 0) := by decide +kernel
theorem dc_266_108 : am_dc 266 108 = some (.aload_n 0, 109, 0) := by decide +kernel
theorem dc_266_109 : am_dc 266 109 = some (.iload 4, 111, 0) := by decide +kernel
theorem dc_266_111 : am_dc 266 111 = some (.invokevirtual 309, 114, 0) := by decide +kernel
theorem dc_266_114 : am_dc 266 114 = some (.iadd, 115, 0) := by decide +kernel
theorem dc_266_115 : am_dc 266 115 = some (.invokevirtual 154, 118, 0) := by decide +kernel
theorem dc_266_118 : am_dc 266 118 = some (.goto 41, 121, 159) := by decide +kernel
theorem dc_266_121 : am_dc 266 121 = some (.lload_n 2, 122, 0) := by decide +kernel
theorem dc_266_122 : am_dc 266 122 = some (.aload_n 0, 123, 0) := by decide +kernel
theorem dc_266_123 : am_dc 266 123 = some (.iload 4, 125, 0) := by decide +kernel
theorem dc_266_125 : am_dc 266 125 = some (.iconst 4, 126, 0) := by decide +kernel
theorem dc_266_126 : am_dc 266 126 = some (.invokevirtual 79, 129, 0) := by decide +kernel
theorem dc_266_129 : am_dc 266 129 = some (.i2l, 130, 0) := by decide +kernel
theorem dc_266_130 : am_dc 266 130 = some (.ladd, 131, 0) := by decide +kernel
theorem dc_266_131 : am_dc 266 131 = some (.lstore_n 2, 132, 0) := by decide +kernel
theorem dc_266_132 : am_dc 266 132 = some (.aload_n 0, 133, 0) := by decide +kernel
theorem dc_266_133 : am_dc 266 133 = some (.iload 4, 135, 0) := by decide +kernel
theorem dc_266_135 : am_dc 266 135 = some (.aload_n 0, 136, 0) := by decide +kernel
theorem dc_266_136 : am_dc 266 136 = some (.bipush 100, 138, 0) := by decide +kernel
theorem dc_266_138 : am_dc 266 138 = some (.invokevirtual 306, 141, 0) := by decide +kernel
theorem dc_266_141 : am_dc 266 141 = some (.aload_n 0, 142, 0) := by decide +kernel
theorem dc_266_142 : am_dc 266 142 = some (.iload 4, 144, 0) := by decide +kernel
theorem dc_266_144 : am_dc 266 144 = some (.iconst 0, 145, 0) := by decide +kernel
theorem dc_266_145 : am_dc 266 145 = some (.invokevirtual 195, 148, 0) := by decide +kernel
theorem dc_266_148 : am_dc 266 148 = some (.if_icmp .ge 7, 151, 155) := by decide +kernel
theorem dc_266_151 : am_dc 266 151 = some (.iconst 1, 152, 0) := by decide +kernel
theorem dc_266_152 : am_dc 266 152 = some (.goto 4, 155, 156) := by decide +kernel
theorem dc_266_155 : am_dc 266 155 = some (.iconst 2, 156, 0) := by decide +kernel
theorem dc_266_156 : am_dc 266 156 = some (.invokevirtual 154, 159, 0) := by decide +kernel
theorem dc_266_159 : am_dc 266 159 = some (.goto (-157), 162, 2) := by decide +kernel
theorem dc_267_0 : am_dc 267 0 = some (.iconst 0, 1, 0) := by decide +kernel
theorem dc_267_1 : am_dc 267 1 = some (.istore_n 2, 2, 0) := by decide +kernel
theorem dc_267_2 : am_dc 267 2 = some (.iconst 0, 3, 0) := by decide +kernel
theorem dc_267_3 : am_dc 267 3 = some (.istore_n 3, 4, 0) := by decide +kernel
theorem dc_267_4 : am_dc 267 4 = some (.iload_n 3, 5, 0) := by decide +kernel
theorem dc_267_5 : am_dc 267 5 = some (.aload_n 0, 6, 0) := by decide +kernel
theorem dc_267_6 : am_dc 267 6 = some (.iload_n 1, 7, 0) := by decide +kernel
theorem dc_267_7 : am_dc 267 7 = some (.invokevirtual 143, 10, 0) := by decide +kernel
theorem dc_267_10 : am_dc 267 10 = some (.if_icmp .ge 18, 13, 28) := by decide +kernel
theorem dc_267_13 : am_dc 267 13 = some (.iload_n 2, 14, 0) := by decide +kernel
theorem dc_267_14 : am_dc 267 14 = some (.aload_n 0, 15, 0) := by decide +kernel
theorem dc_267_15 : am_dc 267 15 = some (.iload_n 1, 16, 0) := by decide +kernel
theorem dc_267_16 : am_dc 267 16 = some (.iload_n 3, 17, 0) := by decide +kernel
theorem dc_267_17 : am_dc 267 17 = some (.invokevirtual 198, 20, 0) := by decide +kernel
theorem dc_267_20 : am_dc 267 20 = some (.iadd, 21, 0) := by decide +kernel
theorem dc_267_21 : am_dc 267 21 = some (.istore_n 2, 22, 0) := by decide +kernel
theorem dc_267_22 : am_dc 267 22 = some (.iinc 3 1, 25, 0) := by decide +kernel
theorem dc_267_25 : am_dc 267 25 = some (.goto (-21), 28, 4) := by decide +kernel
theorem dc_267_28 : am_dc 267 28 = some (.aload_n 0, 29, 0) := by decide +kernel
theorem dc_267_29 : am_dc 267 29 = some (.iload_n 2, 30, 0) := by decide +kernel
theorem dc_267_30 : am_dc 267 30 = some (.invokevirtual 306, 33, 0) := by decide +kernel
theorem dc_267_33 : am_dc 267 33 = some (.istore_n 3, 34, 0) := by decide +kernel
theorem dc_267_34 : am_dc 267 34 = some (.iconst 0, 35, 0) := by decide +kernel
theorem dc_267_35 : am_dc 267 35 = some (.istore 4, 37, 0) := by decide +kernel
theorem dc_267_37 : am_dc 267 37 = some (.iload_n 3, 38, 0) := by decide +kernel
theorem dc_267_38 : am_dc 267 38 = some (.aload_n 0, 39, 0) := by decide +kernel
theorem dc_267_39 : am_dc 267 39 = some (.iload_n 1, 40, 0) := by decide +kernel
theorem dc_267_40 : am_dc 267 40 = some (.iload 4, 42, 0) := by decide +kernel
theorem dc_267_42 : am_dc 267 42 = some (.invokevirtual 198, 45, 0) := by decide +kernel
theorem dc_267_45 : am_dc 267 45 = some (.if_icmp .lt 19, 48, 64) := by decide +kernel
theorem dc_267_48 : am_dc 267 48 = some (.iload_n 3, 49, 0) := by decide +kernel
theorem dc_267_49 : am_dc 267 49 = some (.aload_n 0, 50, 0) := by decide +kernel
theorem dc_267_50 : am_dc 267 50 = some (.iload_n 1, 51, 0) := by decide +kernel
theorem dc_267_51 : am_dc 267 51 = some (.iload 4, 53, 0) := by decide +kernel
theorem dc_267_53 : am_dc 267 53 = some (.invokevirtual 198, 56, 0) := by decide +kernel
theorem dc_267_56 : am_dc 267 56 = some (.isub, 57, 0) := by decide +kernel
theorem dc_267_57 : am_dc 267 57 = some (.istore_n 3, 58, 0) := by decide +kernel
theorem dc_267_58 : am_dc 267 58 = some (.iinc 4 1, 61, 0) := by decide +kernel
theorem dc_267_61 : am_dc 267 61 = some (.goto (-24), 64, 37) := by decide +kernel
theorem dc_267_64 : am_dc 267 64 = some (.iload 4, 66, 0) := by decide +kernel
theorem dc_267_66 : am_dc 267 66 = some (.ireturn, 67, 0) := by decide +kernel
theorem dc_268_0 : am_dc 268 0 = some (.aload_n 0, 1, 0) := by decide +kernel
theorem dc_268_1 : am_dc 268 1 = some (.aload_n 0, 2, 0) := by decide +kernel
theorem dc_268_2 : am_dc 268 2 = some (.getfield 300, 5, 0) := by decide +kernel
theorem dc_268_5 : am_dc 268 5 = some (.ldc_w 303, 8, 0) := by decide +kernel
theorem dc_268_8 : am_dc 268 8 = some (.imul, 9, 0) := by decide +kernel
theorem dc_268_9 : am_dc 268 9 = some (.sipush 12345, 12, 0) := by decide +kernel
theorem dc_268_12 : am_dc 268 12 = some (.iadd, 13, 0) := by decide +kernel
theorem dc_268_13 : am_dc 268 13 = some (.putfield 300, 16, 0) := by decide +kernel
theorem dc_268_16 : am_dc 268 16 = some (.aload_n 0, 17, 0) := by decide +kernel
theorem dc_268_17 : am_dc 268 17 = some (.getfield 300, 20, 0) := by decide +kernel
theorem dc_268_20 : am_dc 268 20 = some (.ldc_w 304, 23, 0) := by decide +kernel
theorem dc_268_23 : am_dc 268 23 = some (.iand, 24, 0) := by decide +kernel
theorem dc_268_24 : am_dc 268 24 = some (.ldc_w 305, 27, 0) := by decide +kernel
theorem dc_268_27 : am_dc 268 27 = some (.idiv, 28, 0) := by decide +kernel
theorem dc_268_28 : am_dc 268 28 = some (.iload_n 1, 29, 0) := by decide +kernel
theorem dc_268_29 : am_dc 268 29 = some (.irem, 30, 0) := by decide +kernel
theorem dc_268_30 : am_dc 268 30 = some (.ireturn, 31, 0) := by decide +kernel
theorem dc_269_0 : am_dc 269 0 = some (.iconst 0, 1, 0) := by decide +kernel
theorem dc_269_1 : am_dc 269 1 = some (.istore_n 1, 2, 0) := by decide +kernel
theorem dc_269_2 : am_dc 269 2 = some (.iload_n 1, 3, 0) := by decide +kernel
theorem dc_269_3 : am_dc 269 3 = some (.bipush 118, 5, 0) := by decide +kernel
theorem dc_269_5 : am_dc 269 5 = some (.if_icmp .ge 21, 8, 26) := by decide +kernel
theorem dc_269_8 : am_dc 269 8 = some (.aload_n 0, 9, 0) := by decide +kernel
theorem dc_269_9 : am_dc 269 9 = some (.getfield 13, 12, 0) := by decide +kernel
theorem dc_269_12 : am_dc 269 12 = some (.iload_n 1, 13, 0) := by decide +kernel
theorem dc_269_13 : am_dc 269 13 = some (.aload_n 0, 14, 0) := by decide +kernel
theorem dc_269_14 : am_dc 269 14 = some (.getfield 9, 17, 0) := by decide +kernel
theorem dc_269_17 : am_dc 269 17 = some (.iload_n 1, 18, 0) := by decide +kernel
theorem dc_269_18 : am_dc 269 18 = some (.iaload, 19, 0) := by decide +kernel
theorem dc_269_19 : am_dc 269 19 = some (.iastore, 20, 0) := by decide +kernel
theorem dc_269_20 : am_dc 269 20 = some (.iinc 1 1, 23, 0) := by decide +kernel
theorem dc_269_23 : am_dc 269 23 = some (.goto (-21), 26, 2) := by decide +kernel
theorem dc_269_26 : am_dc 269 26 = some (.aload_n 0, 27, 0) := by decide +kernel
theorem dc_269_27 : am_dc 269 27 = some (.iconst 1, 28, 0) := by decide +kernel
theorem dc_269_28 : am_dc 269 28 = some (.putfield 316, 31, 0) := by decide +kernel
theorem dc_269_31 : am_dc 269 31 = some (.aload_n 0, 32, 0) := by decide +kernel
theorem dc_269_32 : am_dc 269 32 = some (.getfield 9, 35, 0) := by decide +kernel
theorem dc_269_35 : am_dc 269 35 = some (.bipush 116, 37, 0) := by decide +kernel
theorem dc_269_37 : am_dc 269 37 = some (.iaload, 38, 0) := by decide +kernel
theorem dc_269_38 : am_dc 269 38 = some (.ireturn, 39, 0) := by decide +kernel
theorem dc_270_0 : am_dc 270 0 = some (.aload_n 0, 1, 0) := by decide +kernel
theorem dc_270_1 : am_dc 270 1 = some (.getfield 316, 4, 0) := by decide +kernel
theorem dc_270_4 : am_dc 270 4 = some (.ifCond .ne 6, 7, 10) := by decide +kernel
theorem dc_270_7 : am_dc 270 7 = some (.bipush (-3), 9, 0) := by decide +kernel
theorem dc_270_9 : am_dc 270 9 = some (.ireturn, 10, 0) := by decide +kernel
theorem dc_270_10 : am_dc 270 10 = some (.iconst 0, 11, 0) := by decide +kernel
theorem dc_270_11 : am_dc 270 11 = some (.istore_n 1, 12, 0) := by decide +kernel
theorem dc_270_12 : am_dc 270 12 = some (.iload_n 1, 13, 0) := by decide +kernel
theorem dc_270_13 : am_dc 270 13 = some (.bipush 118, 15, 0) := by decide +kernel
theorem dc_270_15 : am_dc 270 15 = some (.if_icmp .ge 21, 18, 36) := by decide +kernel
theorem dc_270_18 : am_dc 270 18 = some (.aload_n 0, 19, 0) := by decide +kernel
theorem dc_270_19 : am_dc 270 19 = some (.getfield 9, 22, 0) := by decide +kernel
theorem dc_270_22 : am_dc 270 22 = some (.iload_n 1, 23, 0) := by decide +kernel
theorem dc_270_23 : am_dc 270 23 = some (.aload_n 0, 24, 0) := by decide +kernel
theorem dc_270_24 : am_dc 270 24 = some (.getfield 13, 27, 0) := by decide +kernel
theorem dc_270_27 : am_dc 270 27 = some (.iload_n 1, 28, 0) := by decide +kernel
theorem dc_270_28 : am_dc 270 28 = some (.iaload, 29, 0) := by decide +kernel
theorem dc_270_29 : am_dc 270 29 = some (.iastore, 30, 0) := by decide +kernel
theorem dc_270_30 : am_dc 270 30 = some (.iinc 1 1, 33, 0) := by decide +kernel
theorem dc_270_33 : am_dc 270 33 = some (.goto (-21), 36, 12) := by decide +kernel
theorem dc_270_36 : am_dc 270 36 = some (.aload_n 0, 37, 0) := by decide +kernel
theorem dc_270_37 : am_dc 270 37 = some (.iconst 0, 38, 0) := by decide +kernel
theorem dc_270_38 : am_dc 270 38 = some (.putfield 170, 41, 0) := by decide +kernel
theorem dc_270_41 : am_dc 270 41 = some (.aload_n 0, 42, 0) := by decide +kernel
theorem dc_270_42 : am_dc 270 42 = some (.getfield 9, 45, 0) := by decide +kernel
theorem dc_270_45 : am_dc 270 45 = some (.bipush 116, 47, 0) := by decide +kernel
theorem dc_270_47 : am_dc 270 47 = some (.iaload, 48, 0) := by decide +kernel
theorem dc_270_48 : am_dc 270 48 = some (.ireturn, 49, 0) := by decide +kernel
theorem dc_271_0 : am_dc 271 0 = some (.iload_n 1, 1, 0) := by decide +kernel
theorem dc_271_1 : am_dc 271 1 = some (.ifCond .eq 8, 4, 9) := by decide +kernel
theorem dc_271_4 : am_dc 271 4 = some (.iload_n 1, 5, 0) := by decide +kernel
theorem dc_271_5 : am_dc 271 5 = some (.iconst 1, 6, 0) := by decide +kernel
theorem dc_271_6 : am_dc 271 6 = some (.if_icmp .ne 20, 9, 26) := by decide +kernel
theorem dc_271_9 : am_dc 271 9 = some (.aload_n 0, 10, 0) := by decide +kernel
theorem dc_271_10 : am_dc 271 10 = some (.getfield 9, 13, 0) := by decide +kernel
theorem dc_271_13 : am_dc 271 13 = some (.iload_n 1, 14, 0) := by decide +kernel
theorem dc_271_14 : am_dc 271 14 = some (.ifCond .ne 8, 17, 22) := by decide +kernel
theorem dc_271_17 : am_dc 271 17 = some (.bipush 116, 19, 0) := by decide +kernel
theorem dc_271_19 : am_dc 271 19 = some (.goto 5, 22, 24) := by decide +kernel
theorem dc_271_22 : am_dc 271 22 = some (.bipush 117, 24, 0) := by decide +kernel
theorem dc_271_24 : am_dc 271 24 = some (.iaload, 25, 0) := by decide +kernel
theorem dc_271_25 : am_dc 271 25 = some (.ireturn, 26, 0) := by decide +kernel
theorem dc_271_26 : am_dc 271 26 = some (.iload_n 1, 27, 0) := by decide +kernel
theorem dc_271_27 : am_dc 271 27 = some (.i2l, 28, 0) := by decide +kernel
theorem dc_271_28 : am_dc 271 28 = some (.ldc2_w 176, 31, 0) := by decide +kernel
theorem dc_271_31 : am_dc 271 31 = some (.ldc2_w 174, 34, 0) := by decide +kernel
theorem dc_271_34 : am_dc 271 34 = some (.invokestatic 73, 37, 0) := by decide +kernel
theorem dc_271_37 : am_dc 271 37 = some (.ifCond .ne 5, 40, 42) := by decide +kernel
theorem dc_271_40 : am_dc 271 40 = some (.iconst (-1), 41, 0) := by decide +kernel
theorem dc_271_41 : am_dc 271 41 = some (.ireturn, 42, 0) := by decide +kernel
theorem dc_271_42 : am_dc 271 42 = some (.iconst 0, 43, 0) := by decide +kernel
theorem dc_271_43 : am_dc 271 43 = some (.istore_n 2, 44, 0) := by decide +kernel
theorem dc_271_44 : am_dc 271 44 = some (.iconst 0, 45, 0) := by decide +kernel
theorem dc_271_45 : am_dc 271 45 = some (.istore_n 3, 46, 0) := by decide +kernel
theorem dc_271_46 : am_dc 271 46 = some (.iload_n 3, 47, 0) := by decide +kernel
theorem dc_271_47 : am_dc 271 47 = some (.aload_n 0, 48, 0) := by decide +kernel
theorem dc_271_48 : am_dc 271 48 = some (.getfield 9, 51, 0) := by decide +kernel
theorem dc_271_51 : am_dc 271 51 = some (.bipush 116, 53, 0) := by decide +kernel
theorem dc_271_53 : am_dc 271 53 = some (.iaload, 54, 0) := by decide +kernel
theorem dc_271_54 : am_dc 271 54 = some (.if_icmp .ge 91, 57, 145) := by decide +kernel
theorem dc_271_57 : am_dc 271 57 = some (.iload_n 2, 58, 0) := by decide +kernel
theorem dc_271_58 : am_dc 271 58 = some (.iload_n 1, 59, 0) := by decide +kernel
theorem dc_271_59 : am_dc 271 59 = some (.iconst 2, 60, 0) := by decide +kernel
theorem dc_271_60 : am_dc 271 60 = some (.if_icmp .ne 11, 63, 71) := by decide +kernel
theorem dc_271_63 : am_dc 271 63 = some (.aload_n 0, 64, 0) := by decide +kernel
theorem dc_271_64 : am_dc 271 64 = some (.iload_n 3, 65, 0) := by decide +kernel
theorem dc_271_65 : am_dc 271 65 = some (.invokevirtual 143, 68, 0) := by decide +kernel
theorem dc_271_68 : am_dc 271 68 = some (.goto 69, 71, 137) := by decide +kernel
theorem dc_271_71 : am_dc 271 71 = some (.iload_n 1, 72, 0) := by decide +kernel
theorem dc_271_72 : am_dc 271 72 = some (.iconst 3, 73, 0) := by decide +kernel
theorem dc_271_73 : am_dc 271 73 = some (.if_icmp .ne 20, 76, 93) := by decide +kernel
theorem dc_271_76 : am_dc 271 76 = some (.aload_n 0, 77, 0) := by decide +kernel
theorem dc_271_77 : am_dc 271 77 = some (.iload_n 3, 78, 0) := by decide +kernel
theorem dc_271_78 : am_dc 271 78 = some (.invokevirtual 183, 81, 0) := by decide +kernel
theorem dc_271_81 : am_dc 271 81 = some (.iconst 2, 82, 0) := by decide +kernel
theorem dc_271_82 : am_dc 271 82 = some (.if_icmp .le 7, 85, 89) := by decide +kernel
theorem dc_271_85 : am_dc 271 85 = some (.iconst 1, 86, 0) := by decide +kernel
theorem dc_271_86 : am_dc 271 86 = some (.goto 51, 89, 137) := by decide +kernel
theorem dc_271_89 : am_dc 271 89 = some (.iconst 0, 90, 0) := by decide +kernel
theorem dc_271_90 : am_dc 271 90 = some (.goto 47, 93, 137) := by decide +kernel
theorem dc_271_93 : am_dc 271 93 = some (.iload_n 1, 94, 0) := by decide +kernel
theorem dc_271_94 : am_dc 271 94 = some (.iconst 4, 95, 0) := by decide +kernel
theorem dc_271_95 : am_dc 271 95 = some (.if_icmp .ne 29, 98, 124) := by decide +kernel
theorem dc_271_98 : am_dc 271 98 = some (.aload_n 0, 99, 0) := by decide +kernel
theorem dc_271_99 : am_dc 271 99 = some (.iload_n 3, 100, 0) := by decide +kernel
theorem dc_271_100 : am_dc 271 100 = some (.invokevirtual 183, 103, 0) := by decide +kernel
theorem dc_271_103 : am_dc 271 103 = some (.iconst 1, 104, 0) := by decide +kernel
theorem dc_271_104 : am_dc 271 104 = some (.if_icmp .eq 12, 107, 116) := by decide +kernel
theorem dc_271_107 : am_dc 271 107 = some (.aload_n 0, 108, 0) := by decide +kernel
theorem dc_271_108 : am_dc 271 108 = some (.iload_n 3, 109, 0) := by decide +kernel
theorem dc_271_109 : am_dc 271 109 = some (.invokevirtual 183, 112, 0) := by decide +kernel
theorem dc_271_112 : am_dc 271 112 = some (.iconst 2, 113, 0) := by decide +kernel
theorem dc_271_113 : am_dc 271 113 = some (.if_icmp .ne 7, 116, 120) := by decide +kernel
theorem dc_271_116 : am_dc 271 116 = some (.iconst 1, 117, 0) := by decide +kernel
theorem dc_271_117 : am_dc 271 117 = some (.goto 20, 120, 137) := by decide +kernel
theorem dc_271_120 : am_dc 271 120 = some (.iconst 0, 121, 0) := by decide +kernel
theorem dc_271_121 : am_dc 271 121 = some (.goto 16, 124, 137) := by decide +kernel
theorem dc_271_124 : am_dc 271 124 = some (.aload_n 0, 125, 0) := by decide +kernel
theorem dc_271_125 : am_dc 271 125 = some (.iload_n 3, 126, 0) := by decide +kernel
theorem dc_271_126 : am_dc 271 126 = some (.invokevirtual 192, 129, 0) := by decide +kernel
theorem dc_271_129 : am_dc 271 129 = some (.ifCond .eq 7, 132, 136) := by decide +kernel
theorem dc_271_132 : am_dc 271 132 = some (.iconst 1, 133, 0) := by decide +kernel
theorem dc_271_133 : am_dc 271 133 = some (.goto 4, 136, 137) := by decide +kernel
theorem dc_271_136 : am_dc 271 136 = some (.iconst 0, 137, 0) := by decide +kernel
theorem dc_271_137 : am_dc 271 137 = some (.iadd, 138, 0) := by decide +kernel
theorem dc_271_138 : am_dc 271 138 = some (.istore_n 2, 139, 0) := by decide +kernel
theorem dc_271_139 : am_dc 271 139 = some (.iinc 3 1, 142, 0) := by decide +kernel
theorem dc_271_142 : am_dc 271 142 = some (.goto (-96), 145, 46) := by decide +kernel
theorem dc_271_145 : am_dc 271 145 = some (.iload_n 2, 146, 0) := by decide +kernel
theorem dc_271_146 : am_dc 271 146 = some (.ireturn, 147, 0) := by decide +kernel
theorem dc_272_0 : am_dc 272 0 = some (.iload_n 1, 1, 0) := by decide +kernel
theorem dc_272_1 : am_dc 272 1 = some (.invokestatic 158, 4, 0) := by decide +kernel
theorem dc_272_4 : am_dc 272 4 = some (.ifCond .eq 26, 7, 30) := by decide +kernel
theorem dc_272_7 : am_dc 272 7 = some (.iload_n 2, 8, 0) := by decide +kernel
theorem dc_272_8 : am_dc 272 8 = some (.i2l, 9, 0) := by decide +kernel
theorem dc_272_9 : am_dc 272 9 = some (.lconst 0, 10, 0) := by decide +kernel
theorem dc_272_10 : am_dc 272 10 = some (.lconst 1, 11, 0) := by decide +kernel
theorem dc_272_11 : am_dc 272 11 = some (.invokestatic 73, 14, 0) := by decide +kernel
theorem dc_272_14 : am_dc 272 14 = some (.ifCond .eq 16, 17, 30) := by decide +kernel
theorem dc_272_17 : am_dc 272 17 = some (.iload_n 2, 18, 0) := by decide +kernel
theorem dc_272_18 : am_dc 272 18 = some (.iconst 1, 19, 0) := by decide +kernel
theorem dc_272_19 : am_dc 272 19 = some (.if_icmp .ne 13, 22, 32) := by decide +kernel
theorem dc_272_22 : am_dc 272 22 = some (.aload_n 0, 23, 0) := by decide +kernel
theorem dc_272_23 : am_dc 272 23 = some (.iload_n 3, 24, 0) := by decide +kernel
theorem dc_272_24 : am_dc 272 24 = some (.invokevirtual 136, 27, 0) := by decide +kernel
theorem dc_272_27 : am_dc 272 27 = some (.ifCond .ne 5, 30, 32) := by decide +kernel
theorem dc_272_30 : am_dc 272 30 = some (.iconst (-1), 31, 0) := by decide +kernel
theorem dc_272_31 : am_dc 272 31 = some (.ireturn, 32, 0) := by decide +kernel
theorem dc_272_32 : am_dc 272 32 = some (.aload_n 0, 33, 0) := by decide +kernel
theorem dc_272_33 : am_dc 272 33 = some (.getfield 22, 36, 0) := by decide +kernel
theorem dc_272_36 : am_dc 272 36 = some (.iload_n 1, 37, 0) := by decide +kernel
theorem dc_272_37 : am_dc 272 37 = some (.iload_n 2, 38, 0) := by decide +kernel
theorem dc_272_38 : am_dc 272 38 = some (.iastore, 39, 0) := by decide +kernel
theorem dc_272_39 : am_dc 272 39 = some (.iload_n 2, 40, 0) := by decide +kernel
theorem dc_272_40 : am_dc 272 40 = some (.ifCond .ne 5, 43, 45) := by decide +kernel
theorem dc_272_43 : am_dc 272 43 = some (.iconst 0, 44, 0) := by decide +kernel
theorem dc_272_44 : am_dc 272 44 = some (.ireturn, 45, 0) := by decide +kernel
theorem dc_272_45 : am_dc 272 45 = some (.aload_n 0, 46, 0) := by decide +kernel
theorem dc_272_46 : am_dc 272 46 = some (.getfield 34, 49, 0) := by decide +kernel
theorem dc_272_49 : am_dc 272 49 = some (.iload_n 1, 50, 0) := by decide +kernel
theorem dc_272_50 : am_dc 272 50 = some (.aload_n 0, 51, 0) := by decide +kernel
theorem dc_272_51 : am_dc 272 51 = some (.iload_n 3, 52, 0) := by decide +kernel
theorem dc_272_52 : am_dc 272 52 = some (.invokevirtual 319, 55, 0) := by decide +kernel
theorem dc_272_55 : am_dc 272 55 = some (.iastore, 56, 0) := by decide +kernel
theorem dc_272_56 : am_dc 272 56 = some (.aload_n 0, 57, 0) := by decide +kernel
theorem dc_272_57 : am_dc 272 57 = some (.getfield 37, 60, 0) := by decide +kernel
theorem dc_272_60 : am_dc 272 60 = some (.iload_n 1, 61, 0) := by decide +kernel
theorem dc_272_61 : am_dc 272 61 = some (.aload_n 0, 62, 0) := by decide +kernel
theorem dc_272_62 : am_dc 272 62 = some (.iload_n 3, 63, 0) := by decide +kernel
theorem dc_272_63 : am_dc 272 63 = some (.invokevirtual 139, 66, 0) := by decide +kernel
theorem dc_272_66 : am_dc 272 66 = some (.iconst 2, 67, 0) := by decide +kernel
theorem dc_272_67 : am_dc 272 67 = some (.if_icmp .eq 12, 70, 79) := by decide +kernel
theorem dc_272_70 : am_dc 272 70 = some (.aload_n 0, 71, 0) := by decide +kernel
theorem dc_272_71 : am_dc 272 71 = some (.iload_n 3, 72, 0) := by decide +kernel
theorem dc_272_72 : am_dc 272 72 = some (.invokevirtual 143, 75, 0) := by decide +kernel
theorem dc_272_75 : am_dc 272 75 = some (.iconst 1, 76, 0) := by decide +kernel
theorem dc_272_76 : am_dc 272 76 = some (.if_icmp .ne 8, 79, 84) := by decide +kernel
theorem dc_272_79 : am_dc 272 79 = some (.bipush (-15), 81, 0) := by decide +kernel
theorem dc_272_81 : am_dc 272 81 = some (.goto 38, 84, 119) := by decide +kernel
theorem dc_272_84 : am_dc 272 84 = some (.aload_n 0, 85, 0) := by decide +kernel
theorem dc_272_85 : am_dc 272 85 = some (.iload_n 3, 86, 0) := by decide +kernel
theorem dc_272_86 : am_dc 272 86 = some (.invokevirtual 139, 89, 0) := by decide +kernel
theorem dc_272_89 : am_dc 272 89 = some (.iconst 4, 90, 0) := by decide +kernel
theorem dc_272_90 : am_dc 272 90 = some (.if_icmp .ne 10, 93, 100) := by decide +kernel
theorem dc_272_93 : am_dc 272 93 = some (.iload_n 3, 94, 0) := by decide +kernel
theorem dc_272_94 : am_dc 272 94 = some (.bipush 100, 96, 0) := by decide +kernel
theorem dc_272_96 : am_dc 272 96 = some (.iadd, 97, 0) := by decide +kernel
theorem dc_272_97 : am_dc 272 97 = some (.goto 22, 100, 119) := by decide +kernel
theorem dc_272_100 : am_dc 272 100 = some (.aload_n 0, 101, 0) := by decide +kernel
theorem dc_272_101 : am_dc 272 101 = some (.iload_n 3, 102, 0) := by decide +kernel
theorem dc_272_102 : am_dc 272 102 = some (.invokevirtual 139, 105, 0) := by decide +kernel
theorem dc_272_105 : am_dc 272 105 = some (.iconst 5, 106, 0) := by decide +kernel
theorem dc_272_106 : am_dc 272 106 = some (.if_icmp .ne 12, 109, 118) := by decide +kernel
theorem dc_272_109 : am_dc 272 109 = some (.aload_n 0, 110, 0) := by decide +kernel
theorem dc_272_110 : am_dc 272 110 = some (.iload_n 3, 111, 0) := by decide +kernel
theorem dc_272_111 : am_dc 272 111 = some (.iconst 4, 112, 0) := by decide +kernel
theorem dc_272_112 : am_dc 272 112 = some (.invokevirtual 79, 115, 0) := by decide +kernel
theorem dc_272_115 : am_dc 272 115 = some (.goto 4, 118, 119) := by decide +kernel
theorem dc_272_118 : am_dc 272 118 = some (.iload_n 3, 119, 0) := by decide +kernel
theorem dc_272_119 : am_dc 272 119 = some (.iastore, 120, 0) := by decide +kernel
theorem dc_272_120 : am_dc 272 120 = some (.iconst 0, 121, 0) := by decide +kernel
theorem dc_272_121 : am_dc 272 121 = some (.ireturn, 122, 0) := by decide +kernel
theorem dc_273_0 : am_dc 273 0 = some (.aload_n 0, 1, 0) := by decide +kernel
theorem dc_273_1 : am_dc 273 1 = some (.iload_n 1, 2, 0) := by decide +kernel
theorem dc_273_2 : am_dc 273 2 = some (.iconst 1, 3, 0) := by decide +kernel
theorem dc_273_3 : am_dc 273 3 = some (.invokevirtual 79, 6, 0) := by decide +kernel
theorem dc_273_6 : am_dc 273 6 = some (.aload_n 0, 7, 0) := by decide +kernel
theorem dc_273_7 : am_dc 273 7 = some (.iload_n 1, 8, 0) := by decide +kernel
theorem dc_273_8 : am_dc 273 8 = some (.iconst 2, 9, 0) := by decide +kernel
theorem dc_273_9 : am_dc 273 9 = some (.invokevirtual 79, 12, 0) := by decide +kernel
theorem dc_273_12 : am_dc 273 12 = some (.iadd, 13, 0) := by decide +kernel
theorem dc_273_13 : am_dc 273 13 = some (.istore_n 2, 14, 0) := by decide +kernel
theorem dc_273_14 : am_dc 273 14 = some (.aload_n 0, 15, 0) := by decide +kernel
theorem dc_273_15 : am_dc 273 15 = some (.iload_n 1, 16, 0) := by decide +kernel
theorem dc_273_16 : am_dc 273 16 = some (.invokevirtual 139, 19, 0) := by decide +kernel
theorem dc_273_19 : am_dc 273 19 = some (.tableswitch 70 1 5 #[33, 42, 46, 51, 56], 52, 0) := by decide +kernel
theorem dc_273_52 : am_dc 273 52 = some (.iload_n 2, 53, 0) := by decide +kernel
theorem dc_273_53 : am_dc 273 53 = some (.aload_n 0, 54, 0) := by decide +kernel
theorem dc_273_54 : am_dc 273 54 = some (.iload_n 1, 55, 0) := by decide +kernel
theorem dc_273_55 : am_dc 273 55 = some (.iconst 4, 56, 0) := by decide +kernel
theorem dc_273_56 : am_dc 273 56 = some (.invokevirtual 79, 59, 0) := by decide +kernel
theorem dc_273_59 : am_dc 273 59 = some (.iadd, 60, 0) := by decide +kernel
theorem dc_273_60 : am_dc 273 60 = some (.ireturn, 61, 0) := by decide +kernel
theorem dc_273_61 : am_dc 273 61 = some (.iconst 2, 62, 0) := by decide +kernel
theorem dc_273_62 : am_dc 273 62 = some (.iload_n 2, 63, 0) := by decide +kernel
theorem dc_273_63 : am_dc 273 63 = some (.imul, 64, 0) := by decide +kernel
theorem dc_273_64 : am_dc 273 64 = some (.ireturn, 65, 0) := by decide +kernel
theorem dc_273_65 : am_dc 273 65 = some (.iload_n 2, 66, 0) := by decide +kernel
theorem dc_273_66 : am_dc 273 66 = some (.bipush 10, 68, 0) := by decide +kernel
theorem dc_273_68 : am_dc 273 68 = some (.iadd, 69, 0) := by decide +kernel
theorem dc_273_69 : am_dc 273 69 = some (.ireturn, 70, 0) := by decide +kernel
theorem dc_273_70 : am_dc 273 70 = some (.iload_n 2, 71, 0) := by decide +kernel
theorem dc_273_71 : am_dc 273 71 = some (.bipush 15, 73, 0) := by decide +kernel
theorem dc_273_73 : am_dc 273 73 = some (.iadd, 74, 0) := by decide +kernel
theorem dc_273_74 : am_dc 273 74 = some (.ireturn, 75, 0) := by decide +kernel
theorem dc_273_75 : am_dc 273 75 = some (.aload_n 0, 76, 0) := by decide +kernel
theorem dc_273_76 : am_dc 273 76 = some (.iload_n 1, 77, 0) := by decide +kernel
theorem dc_273_77 : am_dc 273 77 = some (.iconst 1, 78, 0) := by decide +kernel
theorem dc_273_78 : am_dc 273 78 = some (.invokevirtual 79, 81, 0) := by decide +kernel
theorem dc_273_81 : am_dc 273 81 = some (.aload_n 0, 82, 0) := by decide +kernel
theorem dc_273_82 : am_dc 273 82 = some (.iload_n 1, 83, 0) := by decide +kernel
theorem dc_273_83 : am_dc 273 83 = some (.iconst 4, 84, 0) := by decide +kernel
theorem dc_273_84 : am_dc 273 84 = some (.invokevirtual 79, 87, 0) := by decide +kernel
theorem dc_273_87 : am_dc 273 87 = some (.iadd, 88, 0) := by decide +kernel
theorem dc_273_88 : am_dc 273 88 = some (.ireturn, 89, 0) := by decide +kernel
theorem dc_273_89 : am_dc 273 89 = some (.iload_n 2, 90, 0) := by decide +kernel
theorem dc_273_90 : am_dc 273 90 = some (.ireturn, 91, 0) := by decide +kernel
theorem dc_274_0 : am_dc 274 0 = some (.iload_n 1, 1, 0) := by decide +kernel
theorem dc_274_1 : am_dc 274 1 = some (.invokestatic 158, 4, 0) := by decide +kernel
theorem dc_274_4 : am_dc 274 4 = some (.ifCond .eq 21, 7, 25) := by decide +kernel
theorem dc_274_7 : am_dc 274 7 = some (.iload_n 2, 8, 0) := by decide +kernel
theorem dc_274_8 : am_dc 274 8 = some (.i2l, 9, 0) := by decide +kernel
theorem dc_274_9 : am_dc 274 9 = some (.lconst 0, 10, 0) := by decide +kernel
theorem dc_274_10 : am_dc 274 10 = some (.ldc2_w 176, 13, 0) := by decide +kernel
theorem dc_274_13 : am_dc 274 13 = some (.invokestatic 73, 16, 0) := by decide +kernel
theorem dc_274_16 : am_dc 274 16 = some (.ifCond .eq 9, 19, 25) := by decide +kernel
theorem dc_274_19 : am_dc 274 19 = some (.iload_n 3, 20, 0) := by decide +kernel
theorem dc_274_20 : am_dc 274 20 = some (.bipush 120, 22, 0) := by decide +kernel
theorem dc_274_22 : am_dc 274 22 = some (.if_icmp .le 5, 25, 27) := by decide +kernel
theorem dc_274_25 : am_dc 274 25 = some (.iconst (-1), 26, 0) := by decide +kernel
theorem dc_274_26 : am_dc 274 26 = some (.ireturn, 27, 0) := by decide +kernel
theorem dc_274_27 : am_dc 274 27 = some (.iload_n 3, 28, 0) := by decide +kernel
theorem dc_274_28 : am_dc 274 28 = some (.ifCond .ge 6, 31, 34) := by decide +kernel
theorem dc_274_31 : am_dc 274 31 = some (.bipush (-14), 33, 0) := by decide +kernel
theorem dc_274_33 : am_dc 274 33 = some (.ireturn, 34, 0) := by decide +kernel
theorem dc_274_34 : am_dc 274 34 = some (.aload_n 0, 35, 0) := by decide +kernel
theorem dc_274_35 : am_dc 274 35 = some (.getfield 22, 38, 0) := by decide +kernel
theorem dc_274_38 : am_dc 274 38 = some (.iload_n 1, 39, 0) := by decide +kernel
theorem dc_274_39 : am_dc 274 39 = some (.iconst 2, 40, 0) := by decide +kernel
theorem dc_274_40 : am_dc 274 40 = some (.iastore, 41, 0) := by decide +kernel
theorem dc_274_41 : am_dc 274 41 = some (.aload_n 0, 42, 0) := by decide +kernel
theorem dc_274_42 : am_dc 274 42 = some (.getfield 25, 45, 0) := by decide +kernel
theorem dc_274_45 : am_dc 274 45 = some (.iload_n 1, 46, 0) := by decide +kernel
theorem dc_274_46 : am_dc 274 46 = some (.iload_n 2, 47, 0) := by decide +kernel
theorem dc_274_47 : am_dc 274 47 = some (.iastore, 48, 0) := by decide +kernel
theorem dc_274_48 : am_dc 274 48 = some (.aload_n 0, 49, 0) := by decide +kernel
theorem dc_274_49 : am_dc 274 49 = some (.getfield 28, 52, 0) := by decide +kernel
theorem dc_274_52 : am_dc 274 52 = some (.iload_n 1, 53, 0) := by decide +kernel
theorem dc_274_53 : am_dc 274 53 = some (.iload_n 3, 54, 0) := by decide +kernel
theorem dc_274_54 : am_dc 274 54 = some (.iastore, 55, 0) := by decide +kernel
theorem dc_274_55 : am_dc 274 55 = some (.iconst 0, 56, 0) := by decide +kernel
theorem dc_274_56 : am_dc 274 56 = some (.istore 4, 58, 0) := by decide +kernel
theorem dc_274_58 : am_dc 274 58 = some (.iload 4, 60, 0) := by decide +kernel
theorem dc_274_60 : am_dc 274 60 = some (.bipush 120, 62, 0) := by decide +kernel
theorem dc_274_62 : am_dc 274 62 = some (.if_icmp .ge 22, 65, 84) := by decide +kernel
theorem dc_274_65 : am_dc 274 65 = some (.aload_n 0, 66, 0) := by decide +kernel
theorem dc_274_66 : am_dc 274 66 = some (.getfield 31, 69, 0) := by decide +kernel
theorem dc_274_69 : am_dc 274 69 = some (.bipush 120, 71, 0) := by decide +kernel
theorem dc_274_71 : am_dc 274 71 = some (.iload_n 1, 72, 0) := by decide +kernel
theorem dc_274_72 : am_dc 274 72 = some (.imul, 73, 0) := by decide +kernel
theorem dc_274_73 : am_dc 274 73 = some (.iload 4, 75, 0) := by decide +kernel
theorem dc_274_75 : am_dc 274 75 = some (.iadd, 76, 0) := by decide +kernel
theorem dc_274_76 : am_dc 274 76 = some (.iconst 0, 77, 0) := by decide +kernel
theorem dc_274_77 : am_dc 274 77 = some (.iastore, 78, 0) := by decide +kernel
theorem dc_274_78 : am_dc 274 78 = some (.iinc 4 1, 81, 0) := by decide +kernel
theorem dc_274_81 : am_dc 274 81 = some (.goto (-23), 84, 58) := by decide +kernel
theorem dc_274_84 : am_dc 274 84 = some (.iconst 0, 85, 0) := by decide +kernel
theorem dc_274_85 : am_dc 274 85 = some (.ireturn, 86, 0) := by decide +kernel
theorem dc_275_0 : am_dc 275 0 = some (.aload_n 0, 1, 0) := by decide +kernel
theorem dc_275_1 : am_dc 275 1 = some (.iload_n 1, 2, 0) := by decide +kernel
theorem dc_275_2 : am_dc 275 2 = some (.iconst (-1), 3, 0) := by decide +kernel
theorem dc_275_3 : am_dc 275 3 = some (.invokevirtual 161, 6, 0) := by decide +kernel
theorem dc_275_6 : am_dc 275 6 = some (.istore 4, 8, 0) := by decide +kernel
theorem dc_275_8 : am_dc 275 8 = some (.iload 4, 10, 0) := by decide +kernel
theorem dc_275_10 : am_dc 275 10 = some (.ifCond .eq 6, 13, 16) := by decide +kernel
theorem dc_275_13 : am_dc 275 13 = some (.iload 4, 15, 0) := by decide +kernel
theorem dc_275_15 : am_dc 275 15 = some (.ireturn, 16, 0) := by decide +kernel
theorem dc_275_16 : am_dc 275 16 = some (.iload_n 2, 17, 0) := by decide +kernel
theorem dc_275_17 : am_dc 275 17 = some (.i2l, 18, 0) := by decide +kernel
theorem dc_275_18 : am_dc 275 18 = some (.lconst 0, 19, 0) := by decide +kernel
theorem dc_275_19 : am_dc 275 19 = some (.aload_n 0, 20, 0) := by decide +kernel
theorem dc_275_20 : am_dc 275 20 = some (.getfield 28, 23, 0) := by decide +kernel
theorem dc_275_23 : am_dc 275 23 = some (.iload_n 1, 24, 0) := by decide +kernel
theorem dc_275_24 : am_dc 275 24 = some (.iaload, 25, 0) := by decide +kernel
theorem dc_275_25 : am_dc 275 25 = some (.iconst 1, 26, 0) := by decide +kernel
theorem dc_275_26 : am_dc 275 26 = some (.isub, 27, 0) := by decide +kernel
theorem dc_275_27 : am_dc 275 27 = some (.i2l, 28, 0) := by decide +kernel
theorem dc_275_28 : am_dc 275 28 = some (.invokestatic 73, 31, 0) := by decide +kernel
theorem dc_275_31 : am_dc 275 31 = some (.ifCond .ne 6, 34, 37) := by decide +kernel
theorem dc_275_34 : am_dc 275 34 = some (.bipush (-13), 36, 0) := by decide +kernel
theorem dc_275_36 : am_dc 275 36 = some (.ireturn, 37, 0) := by decide +kernel
theorem dc_275_37 : am_dc 275 37 = some (.aload_n 0, 38, 0) := by decide +kernel
theorem dc_275_38 : am_dc 275 38 = some (.getfield 31, 41, 0) := by decide +kernel
theorem dc_275_41 : am_dc 275 41 = some (.bipush 120, 43, 0) := by decide +kernel
theorem dc_275_43 : am_dc 275 43 = some (.iload_n 1, 44, 0) := by decide +kernel
theorem dc_275_44 : am_dc 275 44 = some (.imul, 45, 0) := by decide +kernel
theorem dc_275_45 : am_dc 275 45 = some (.iload_n 2, 46, 0) := by decide +kernel
theorem dc_275_46 : am_dc 275 46 = some (.iadd, 47, 0) := by decide +kernel
theorem dc_275_47 : am_dc 275 47 = some (.aload_n 0, 48, 0) := by decide +kernel
theorem dc_275_48 : am_dc 275 48 = some (.getfield 25, 51, 0) := by decide +kernel
theorem dc_275_51 : am_dc 275 51 = some (.iload_n 1, 52, 0) := by decide +kernel
theorem dc_275_52 : am_dc 275 52 = some (.iaload, 53, 0) := by decide +kernel
theorem dc_275_53 : am_dc 275 53 = some (.ifCond .ne 8, 56, 61) := by decide +kernel
theorem dc_275_56 : am_dc 275 56 = some (.iload_n 3, 57, 0) := by decide +kernel
theorem dc_275_57 : am_dc 275 57 = some (.i2b, 58, 0) := by decide +kernel
theorem dc_275_58 : am_dc 275 58 = some (.goto 19, 61, 77) := by decide +kernel
theorem dc_275_61 : am_dc 275 61 = some (.aload_n 0, 62, 0) := by decide +kernel
theorem dc_275_62 : am_dc 275 62 = some (.getfield 25, 65, 0) := by decide +kernel
theorem dc_275_65 : am_dc 275 65 = some (.iload_n 1, 66, 0) := by decide +kernel
theorem dc_275_66 : am_dc 275 66 = some (.iaload, 67, 0) := by decide +kernel
theorem dc_275_67 : am_dc 275 67 = some (.iconst 1, 68, 0) := by decide +kernel
theorem dc_275_68 : am_dc 275 68 = some (.if_icmp .ne 8, 71, 76) := by decide +kernel
theorem dc_275_71 : am_dc 275 71 = some (.iload_n 3, 72, 0) := by decide +kernel
theorem dc_275_72 : am_dc 275 72 = some (.i2s, 73, 0) := by decide +kernel
theorem dc_275_73 : am_dc 275 73 = some (.goto 4, 76, 77) := by decide +kernel
theorem dc_275_76 : am_dc 275 76 = some (.iload_n 3, 77, 0) := by decide +kernel
theorem dc_275_77 : am_dc 275 77 = some (.iastore, 78, 0) := by decide +kernel
theorem dc_275_78 : am_dc 275 78 = some (.iconst 0, 79, 0) := by decide +kernel
theorem dc_275_79 : am_dc 275 79 = some (.ireturn, 80, 0) := by decide +kernel
theorem dc_276_0 : am_dc 276 0 = some (.aload_n 0, 1, 0) := by decide +kernel
theorem dc_276_1 : am_dc 276 1 = some (.iload_n 1, 2, 0) := by decide +kernel
theorem dc_276_2 : am_dc 276 2 = some (.invokestatic 158, 5, 0) := by decide +kernel
theorem dc_276_5 : am_dc 276 5 = some (.ifCond .ne 7, 8, 12) := by decide +kernel
theorem dc_276_8 : am_dc 276 8 = some (.iconst 1, 9, 0) := by decide +kernel
theorem dc_276_9 : am_dc 276 9 = some (.goto 36, 12, 45) := by decide +kernel
theorem dc_276_12 : am_dc 276 12 = some (.aload_n 0, 13, 0) := by decide +kernel
theorem dc_276_13 : am_dc 276 13 = some (.getfield 22, 16, 0) := by decide +kernel
theorem dc_276_16 : am_dc 276 16 = some (.iload_n 1, 17, 0) := by decide +kernel
theorem dc_276_17 : am_dc 276 17 = some (.iaload, 18, 0) := by decide +kernel
theorem dc_276_18 : am_dc 276 18 = some (.iconst 2, 19, 0) := by decide +kernel
theorem dc_276_19 : am_dc 276 19 = some (.if_icmp .ne 21, 22, 40) := by decide +kernel
theorem dc_276_22 : am_dc 276 22 = some (.iload_n 2, 23, 0) := by decide +kernel
theorem dc_276_23 : am_dc 276 23 = some (.i2l, 24, 0) := by decide +kernel
theorem dc_276_24 : am_dc 276 24 = some (.lconst 0, 25, 0) := by decide +kernel
theorem dc_276_25 : am_dc 276 25 = some (.aload_n 0, 26, 0) := by decide +kernel
theorem dc_276_26 : am_dc 276 26 = some (.getfield 28, 29, 0) := by decide +kernel
theorem dc_276_29 : am_dc 276 29 = some (.iload_n 1, 30, 0) := by decide +kernel
theorem dc_276_30 : am_dc 276 30 = some (.iaload, 31, 0) := by decide +kernel
theorem dc_276_31 : am_dc 276 31 = some (.iconst 1, 32, 0) := by decide +kernel
theorem dc_276_32 : am_dc 276 32 = some (.isub, 33, 0) := by decide +kernel
theorem dc_276_33 : am_dc 276 33 = some (.i2l, 34, 0) := by decide +kernel
theorem dc_276_34 : am_dc 276 34 = some (.invokestatic 73, 37, 0) := by decide +kernel
theorem dc_276_37 : am_dc 276 37 = some (.ifCond .ne 7, 40, 44) := by decide +kernel
theorem dc_276_40 : am_dc 276 40 = some (.iconst 2, 41, 0) := by decide +kernel
theorem dc_276_41 : am_dc 276 41 = some (.goto 4, 44, 45) := by decide +kernel
theorem dc_276_44 : am_dc 276 44 = some (.iconst 0, 45, 0) := by decide +kernel
theorem dc_276_45 : am_dc 276 45 = some (.putfield 69, 48, 0) := by decide +kernel
theorem dc_276_48 : am_dc 276 48 = some (.aload_n 0, 49, 0) := by decide +kernel
theorem dc_276_49 : am_dc 276 49 = some (.getfield 69, 52, 0) := by decide +kernel
theorem dc_276_52 : am_dc 276 52 = some (.ifCond .ne 18, 55, 70) := by decide +kernel
theorem dc_276_55 : am_dc 276 55 = some (.aload_n 0, 56, 0) := by decide +kernel
theorem dc_276_56 : am_dc 276 56 = some (.getfield 31, 59, 0) := by decide +kernel
theorem dc_276_59 : am_dc 276 59 = some (.bipush 120, 61, 0) := by decide +kernel
theorem dc_276_61 : am_dc 276 61 = some (.iload_n 1, 62, 0) := by decide +kernel
theorem dc_276_62 : am_dc 276 62 = some (.imul, 63, 0) := by decide +kernel
theorem dc_276_63 : am_dc 276 63 = some (.iload_n 2, 64, 0) := by decide +kernel
theorem dc_276_64 : am_dc 276 64 = some (.iadd, 65, 0) := by decide +kernel
theorem dc_276_65 : am_dc 276 65 = some (.iaload, 66, 0) := by decide +kernel
theorem dc_276_66 : am_dc 276 66 = some (.i2l, 67, 0) := by decide +kernel
theorem dc_276_67 : am_dc 276 67 = some (.goto 4, 70, 71) := by decide +kernel
theorem dc_276_70 : am_dc 276 70 = some (.lconst 0, 71, 0) := by decide +kernel
theorem dc_276_71 : am_dc 276 71 = some (.lreturn, 72, 0) := by decide +kernel
theorem dc_277_0 : am_dc 277 0 = some (.iload_n 1, 1, 0) := by decide +kernel
theorem dc_277_1 : am_dc 277 1 = some (.invokestatic 158, 4, 0) := by decide +kernel
theorem dc_277_4 : am_dc 277 4 = some (.ifCond .eq 10, 7, 14) := by decide +kernel
theorem dc_277_7 : am_dc 277 7 = some (.iload_n 3, 8, 0) := by decide +kernel
theorem dc_277_8 : am_dc 277 8 = some (.invokestatic 158, 11, 0) := by decide +kernel
theorem dc_277_11 : am_dc 277 11 = some (.ifCond .ne 5, 14, 16) := by decide +kernel
theorem dc_277_14 : am_dc 277 14 = some (.iconst (-1), 15, 0) := by decide +kernel
theorem dc_277_15 : am_dc 277 15 = some (.ireturn, 16, 0) := by decide +kernel
theorem dc_277_16 : am_dc 277 16 = some (.aload_n 0, 17, 0) := by decide +kernel
theorem dc_277_17 : am_dc 277 17 = some (.getfield 22, 20, 0) := by decide +kernel
theorem dc_277_20 : am_dc 277 20 = some (.iload_n 1, 21, 0) := by decide +kernel
theorem dc_277_21 : am_dc 277 21 = some (.iaload, 22, 0) := by decide +kernel
theorem dc_277_22 : am_dc 277 22 = some (.ifCond .eq 12, 25, 34) := by decide +kernel
theorem dc_277_25 : am_dc 277 25 = some (.aload_n 0, 26, 0) := by decide +kernel
theorem dc_277_26 : am_dc 277 26 = some (.getfield 22, 29, 0) := by decide +kernel
theorem dc_277_29 : am_dc 277 29 = some (.iload_n 3, 30, 0) := by decide +kernel
theorem dc_277_30 : am_dc 277 30 = some (.iaload, 31, 0) := by decide +kernel
theorem dc_277_31 : am_dc 277 31 = some (.ifCond .ne 6, 34, 37) := by decide +kernel
theorem dc_277_34 : am_dc 277 34 = some (.bipush (-11), 36, 0) := by decide +kernel
theorem dc_277_36 : am_dc 277 36 = some (.ireturn, 37, 0) := by decide +kernel
theorem dc_277_37 : am_dc 277 37 = some (.aload_n 0, 38, 0) := by decide +kernel
theorem dc_277_38 : am_dc 277 38 = some (.getfield 22, 41, 0) := by decide +kernel
theorem dc_277_41 : am_dc 277 41 = some (.iload_n 1, 42, 0) := by decide +kernel
theorem dc_277_42 : am_dc 277 42 = some (.iaload, 43, 0) := by decide +kernel
theorem dc_277_43 : am_dc 277 43 = some (.iconst 2, 44, 0) := by decide +kernel
theorem dc_277_44 : am_dc 277 44 = some (.if_icmp .ne 28, 47, 72) := by decide +kernel
theorem dc_277_47 : am_dc 277 47 = some (.aload_n 0, 48, 0) := by decide +kernel
theorem dc_277_48 : am_dc 277 48 = some (.getfield 22, 51, 0) := by decide +kernel
theorem dc_277_51 : am_dc 277 51 = some (.iload_n 3, 52, 0) := by decide +kernel
theorem dc_277_52 : am_dc 277 52 = some (.iaload, 53, 0) := by decide +kernel
theorem dc_277_53 : am_dc 277 53 = some (.iconst 2, 54, 0) := by decide +kernel
theorem dc_277_54 : am_dc 277 54 = some (.if_icmp .ne 18, 57, 72) := by decide +kernel
theorem dc_277_57 : am_dc 277 57 = some (.aload_n 0, 58, 0) := by decide +kernel
theorem dc_277_58 : am_dc 277 58 = some (.getfield 25, 61, 0) := by decide +kernel
theorem dc_277_61 : am_dc 277 61 = some (.iload_n 1, 62, 0) := by decide +kernel
theorem dc_277_62 : am_dc 277 62 = some (.iaload, 63, 0) := by decide +kernel
theorem dc_277_63 : am_dc 277 63 = some (.aload_n 0, 64, 0) := by decide +kernel
theorem dc_277_64 : am_dc 277 64 = some (.getfield 25, 67, 0) := by decide +kernel
theorem dc_277_67 : am_dc 277 67 = some (.iload_n 3, 68, 0) := by decide +kernel
theorem dc_277_68 : am_dc 277 68 = some (.iaload, 69, 0) := by decide +kernel
theorem dc_277_69 : am_dc 277 69 = some (.if_icmp .eq 6, 72, 75) := by decide +kernel
theorem dc_277_72 : am_dc 277 72 = some (.bipush (-12), 74, 0) := by decide +kernel
theorem dc_277_74 : am_dc 277 74 = some (.ireturn, 75, 0) := by decide +kernel
theorem dc_277_75 : am_dc 277 75 = some (.iload 5, 77, 0) := by decide +kernel
theorem dc_277_77 : am_dc 277 77 = some (.ifCond .lt 39, 80, 116) := by decide +kernel
theorem dc_277_80 : am_dc 277 80 = some (.iload_n 2, 81, 0) := by decide +kernel
theorem dc_277_81 : am_dc 277 81 = some (.ifCond .lt 35, 84, 116) := by decide +kernel
theorem dc_277_84 : am_dc 277 84 = some (.iload 4, 86, 0) := by decide +kernel
theorem dc_277_86 : am_dc 277 86 = some (.ifCond .lt 30, 89, 116) := by decide +kernel
theorem dc_277_89 : am_dc 277 89 = some (.iload 5, 91, 0) := by decide +kernel
theorem dc_277_91 : am_dc 277 91 = some (.aload_n 0, 92, 0) := by decide +kernel
theorem dc_277_92 : am_dc 277 92 = some (.getfield 28, 95, 0) := by decide +kernel
theorem dc_277_95 : am_dc 277 95 = some (.iload_n 1, 96, 0) := by decide +kernel
theorem dc_277_96 : am_dc 277 96 = some (.iaload, 97, 0) := by decide +kernel
theorem dc_277_97 : am_dc 277 97 = some (.iload_n 2, 98, 0) := by decide +kernel
theorem dc_277_98 : am_dc 277 98 = some (.isub, 99, 0) := by decide +kernel
theorem dc_277_99 : am_dc 277 99 = some (.if_icmp .gt 17, 102, 116) := by decide +kernel
theorem dc_277_102 : am_dc 277 102 = some (.iload 5, 104, 0) := by decide +kernel
theorem dc_277_104 : am_dc 277 104 = some (.aload_n 0, 105, 0) := by decide +kernel
theorem dc_277_105 : am_dc 277 105 = some (.getfield 28, 108, 0) := by decide +kernel
theorem dc_277_108 : am_dc 277 108 = some (.iload_n 3, 109, 0) := by decide +kernel
theorem dc_277_109 : am_dc 277 109 = some (.iaload, 110, 0) := by decide +kernel
theorem dc_277_110 : am_dc 277 110 = some (.iload 4, 112, 0) := by decide +kernel
theorem dc_277_112 : am_dc 277 112 = some (.isub, 113, 0) := by decide +kernel
theorem dc_277_113 : am_dc 277 113 = some (.if_icmp .le 6, 116, 119) := by decide +kernel
theorem dc_277_116 : am_dc 277 116 = some (.bipush (-13), 118, 0) := by decide +kernel
theorem dc_277_118 : am_dc 277 118 = some (.ireturn, 119, 0) := by decide +kernel
theorem dc_277_119 : am_dc 277 119 = some (.iconst 0, 120, 0) := by decide +kernel
theorem dc_277_120 : am_dc 277 120 = some (.istore 6, 122, 0) := by decide +kernel
theorem dc_277_122 : am_dc 277 122 = some (.iload 6, 124, 0) := by decide +kernel
theorem dc_277_124 : am_dc 277 124 = some (.iload 5, 126, 0) := by decide +kernel
theorem dc_277_126 : am_dc 277 126 = some (.if_icmp .ge 58, 129, 184) := by decide +kernel
theorem dc_277_129 : am_dc 277 129 = some (.iload_n 2, 130, 0) := by decide +kernel
theorem dc_277_130 : am_dc 277 130 = some (.iload 4, 132, 0) := by decide +kernel
theorem dc_277_132 : am_dc 277 132 = some (.if_icmp .le 8, 135, 140) := by decide +kernel
theorem dc_277_135 : am_dc 277 135 = some (.iload 6, 137, 0) := by decide +kernel
theorem dc_277_137 : am_dc 277 137 = some (.goto 10, 140, 147) := by decide +kernel
theorem dc_277_140 : am_dc 277 140 = some (.iload 5, 142, 0) := by decide +kernel
theorem dc_277_142 : am_dc 277 142 = some (.iconst 1, 143, 0) := by decide +kernel
theorem dc_277_143 : am_dc 277 143 = some (.isub, 144, 0) := by decide +kernel
theorem dc_277_144 : am_dc 277 144 = some (.iload 6, 146, 0) := by decide +kernel
theorem dc_277_146 : am_dc 277 146 = some (.isub, 147, 0) := by decide +kernel
theorem dc_277_147 : am_dc 277 147 = some (.istore 7, 149, 0) := by decide +kernel
theorem dc_277_149 : am_dc 277 149 = some (.aload_n 0, 150, 0) := by decide +kernel
theorem dc_277_150 : am_dc 277 150 = some (.getfield 31, 153, 0) := by decide +kernel
theorem dc_277_153 : am_dc 277 153 = some (.bipush 120, 155, 0) := by decide +kernel
theorem dc_277_155 : am_dc 277 155 = some (.iload_n 3, 156, 0) := by decide +kernel
theorem dc_277_156 : am_dc 277 156 = some (.imul, 157, 0) := by decide +kernel
theorem dc_277_157 : am_dc 277 157 = some (.iload 4, 159, 0) := by decide +kernel
theorem dc_277_159 : am_dc 277 159 = some (.iadd, 160, 0) := by decide +kernel
theorem dc_277_160 : am_dc 277 160 = some (.iload 7, 162, 0) := by decide +kernel
theorem dc_277_162 : am_dc 277 162 = some (.iadd, 163, 0) := by decide +kernel
theorem dc_277_163 : am_dc 277 163 = some (.aload_n 0, 164, 0) := by decide +kernel
theorem dc_277_164 : am_dc 277 164 = some (.getfield 31, 167, 0) := by decide +kernel
theorem dc_277_167 : am_dc 277 167 = some (.bipush 120, 169, 0) := by decide +kernel
theorem dc_277_169 : am_dc 277 169 = some (.iload_n 1, 170, 0) := by decide +kernel
theorem dc_277_170 : am_dc 277 170 = some (.imul, 171, 0) := by decide +kernel
theorem dc_277_171 : am_dc 277 171 = some (.iload_n 2, 172, 0) := by decide +kernel
theorem dc_277_172 : am_dc 277 172 = some (.iadd, 173, 0) := by decide +kernel
theorem dc_277_173 : am_dc 277 173 = some (.iload 7, 175, 0) := by decide +kernel
theorem dc_277_175 : am_dc 277 175 = some (.iadd, 176, 0) := by decide +kernel
theorem dc_277_176 : am_dc 277 176 = some (.iaload, 177, 0) := by decide +kernel
theorem dc_277_177 : am_dc 277 177 = some (.iastore, 178, 0) := by decide +kernel
theorem dc_277_178 : am_dc 277 178 = some (.iinc 6 1, 181, 0) := by decide +kernel
theorem dc_277_181 : am_dc 277 181 = some (.goto (-59), 184, 122) := by decide +kernel
theorem dc_277_184 : am_dc 277 184 = some (.iload 5, 186, 0) := by decide +kernel
theorem dc_277_186 : am_dc 277 186 = some (.ireturn, 187, 0) := by decide +kernel
theorem dc_278_0 : am_dc 278 0 = some (.aload_n 0, 1, 0) := by decide +kernel
theorem dc_278_1 : am_dc 278 1 = some (.iload_n 1, 2, 0) := by decide +kernel
theorem dc_278_2 : am_dc 278 2 = some (.invokevirtual 322, 5, 0) := by decide +kernel
theorem dc_278_5 : am_dc 278 5 = some (.istore_n 2, 6, 0) := by decide +kernel
theorem dc_278_6 : am_dc 278 6 = some (.iload_n 2, 7, 0) := by decide +kernel
theorem dc_278_7 : am_dc 278 7 = some (.ifCond .eq 7, 10, 14) := by decide +kernel
theorem dc_278_10 : am_dc 278 10 = some (.iload_n 2, 11, 0) := by decide +kernel
theorem dc_278_11 : am_dc 278 11 = some (.goto 9, 14, 20) := by decide +kernel
theorem dc_278_14 : am_dc 278 14 = some (.aload_n 0, 15, 0) := by decide +kernel
theorem dc_278_15 : am_dc 278 15 = some (.getfield 34, 18, 0) := by decide +kernel
theorem dc_278_18 : am_dc 278 18 = some (.iload_n 1, 19, 0) := by decide +kernel
theorem dc_278_19 : am_dc 278 19 = some (.iaload, 20, 0) := by decide +kernel
theorem dc_278_20 : am_dc 278 20 = some (.ireturn, 21, 0) := by decide +kernel
theorem dc_279_0 : am_dc 279 0 = some (.iload_n 1, 1, 0) := by decide +kernel
theorem dc_279_1 : am_dc 279 1 = some (.invokestatic 158, 4, 0) := by decide +kernel
theorem dc_279_4 : am_dc 279 4 = some (.ifCond .ne 7, 7, 11) := by decide +kernel
theorem dc_279_7 : am_dc 279 7 = some (.iconst (-1), 8, 0) := by decide +kernel
theorem dc_279_8 : am_dc 279 8 = some (.goto 33, 11, 41) := by decide +kernel
theorem dc_279_11 : am_dc 279 11 = some (.aload_n 0, 12, 0) := by decide +kernel
theorem dc_279_12 : am_dc 279 12 = some (.getfield 22, 15, 0) := by decide +kernel
theorem dc_279_15 : am_dc 279 15 = some (.iload_n 1, 16, 0) := by decide +kernel
theorem dc_279_16 : am_dc 279 16 = some (.iaload, 17, 0) := by decide +kernel
theorem dc_279_17 : am_dc 279 17 = some (.ifCond .ne 8, 20, 25) := by decide +kernel
theorem dc_279_20 : am_dc 279 20 = some (.bipush (-11), 22, 0) := by decide +kernel
theorem dc_279_22 : am_dc 279 22 = some (.goto 19, 25, 41) := by decide +kernel
theorem dc_279_25 : am_dc 279 25 = some (.aload_n 0, 26, 0) := by decide +kernel
theorem dc_279_26 : am_dc 279 26 = some (.getfield 22, 29, 0) := by decide +kernel
theorem dc_279_29 : am_dc 279 29 = some (.iload_n 1, 30, 0) := by decide +kernel
theorem dc_279_30 : am_dc 279 30 = some (.iaload, 31, 0) := by decide +kernel
theorem dc_279_31 : am_dc 279 31 = some (.iconst 1, 32, 0) := by decide +kernel
theorem dc_279_32 : am_dc 279 32 = some (.if_icmp .ne 7, 35, 39) := by decide +kernel
theorem dc_279_35 : am_dc 279 35 = some (.iconst 0, 36, 0) := by decide +kernel
theorem dc_279_36 : am_dc 279 36 = some (.goto 5, 39, 41) := by decide +kernel
theorem dc_279_39 : am_dc 279 39 = some (.bipush (-12), 41, 0) := by decide +kernel
theorem dc_279_41 : am_dc 279 41 = some (.ireturn, 42, 0) := by decide +kernel
theorem dc_280_0 : am_dc 280 0 = some (.aload_n 0, 1, 0) := by decide +kernel
theorem dc_280_1 : am_dc 280 1 = some (.iload_n 1, 2, 0) := by decide +kernel
theorem dc_280_2 : am_dc 280 2 = some (.invokevirtual 322, 5, 0) := by decide +kernel
theorem dc_280_5 : am_dc 280 5 = some (.istore_n 2, 6, 0) := by decide +kernel
theorem dc_280_6 : am_dc 280 6 = some (.iload_n 2, 7, 0) := by decide +kernel
theorem dc_280_7 : am_dc 280 7 = some (.ifCond .eq 7, 10, 14) := by decide +kernel
theorem dc_280_10 : am_dc 280 10 = some (.iload_n 2, 11, 0) := by decide +kernel
theorem dc_280_11 : am_dc 280 11 = some (.goto 9, 14, 20) := by decide +kernel
theorem dc_280_14 : am_dc 280 14 = some (.aload_n 0, 15, 0) := by decide +kernel
theorem dc_280_15 : am_dc 280 15 = some (.getfield 37, 18, 0) := by decide +kernel
theorem dc_280_18 : am_dc 280 18 = some (.iload_n 1, 19, 0) := by decide +kernel
theorem dc_280_19 : am_dc 280 19 = some (.iaload, 20, 0) := by decide +kernel
theorem dc_280_20 : am_dc 280 20 = some (.ireturn, 21, 0) := by decide +kernel
theorem dc_281_0 : am_dc 281 0 = some (.new 8, 3, 0) := by decide +kernel
theorem dc_281_3 : am_dc 281 3 = some (.dup, 4, 0) := by decide +kernel
theorem dc_281_4 : am_dc 281 4 = some (.invokespecial 20, 7, 0) := by decide +kernel
theorem dc_281_7 : am_dc 281 7 = some (.astore_n 1, 8, 0) := by decide +kernel
theorem dc_281_8 : am_dc 281 8 = some (.new 21, 11, 0) := by decide +kernel
theorem dc_281_11 : am_dc 281 11 = some (.dup, 12, 0) := by decide +kernel
theorem dc_281_12 : am_dc 281 12 = some (.invokespecial 23, 15, 0) := by decide +kernel
theorem dc_281_15 : am_dc 281 15 = some (.astore_n 2, 16, 0) := by decide +kernel
theorem dc_281_16 : am_dc 281 16 = some (.iconst 1, 17, 0) := by decide +kernel
theorem dc_281_17 : am_dc 281 17 = some (.newarray .long, 19, 0) := by decide +kernel
theorem dc_281_19 : am_dc 281 19 = some (.astore_n 3, 20, 0) := by decide +kernel
theorem dc_281_20 : am_dc 281 20 = some (.iconst 0, 21, 0) := by decide +kernel
theorem dc_281_21 : am_dc 281 21 = some (.istore 4, 23, 0) := by decide +kernel
theorem dc_281_23 : am_dc 281 23 = some (.iload 4, 25, 0) := by decide +kernel
theorem dc_281_25 : am_dc 281 25 = some (.aload_n 0, 26, 0) := by decide +kernel
theorem dc_281_26 : am_dc 281 26 = some (.arraylength, 27, 0) := by decide +kernel
theorem dc_281_27 : am_dc 281 27 = some (.bipush 6, 29, 0) := by decide +kernel
theorem dc_281_29 : am_dc 281 29 = some (.isub, 30, 0) := by decide +kernel
theorem dc_281_30 : am_dc 281 30 = some (.if_icmp .gt 1238, 33, 1268) := by decide +kernel
theorem dc_281_33 : am_dc 281 33 = some (.aload_n 0, 34, 0) := by decide +kernel
theorem dc_281_34 : am_dc 281 34 = some (.iload 4, 36, 0) := by decide +kernel
theorem dc_281_36 : am_dc 281 36 = some (.iaload, 37, 0) := by decide +kernel
theorem dc_281_37 : am_dc 281 37 = some (.bipush 63, 39, 0) := by decide +kernel
theorem dc_281_39 : am_dc 281 39 = some (.iand, 40, 0) := by decide +kernel
theorem dc_281_40 : am_dc 281 40 = some (.tableswitch 1222 0 34 #[156, 181, 218, 267, 304, 329, 354, 379, 416, 469, 482, 507, 521, 559, 572, 586, 599, 613, 627, 640, 678, 703, 728, 754, 767, 834, 847, 860, 885, 934, 983, 1032, 1099, 1172, 1197], 196, 0) := by decide +kernel
theorem dc_281_196 : am_dc 281 196 = some (.aload_n 1, 197, 0) := by decide +kernel
theorem dc_281_197 : am_dc 281 197 = some (.aload_n 0, 198, 0) := by decide +kernel
theorem dc_281_198 : am_dc 281 198 = some (.iload 4, 200, 0) := by decide +kernel
theorem dc_281_200 : am_dc 281 200 = some (.iconst 1, 201, 0) := by decide +kernel
theorem dc_281_201 : am_dc 281 201 = some (.iadd, 202, 0) := by decide +kernel
theorem dc_281_202 : am_dc 281 202 = some (.iaload, 203, 0) := by decide +kernel
theorem dc_281_203 : am_dc 281 203 = some (.invokevirtual 24, 206, 0) := by decide +kernel
theorem dc_281_206 : am_dc 281 206 = some (.aload_n 2, 207, 0) := by decide +kernel
theorem dc_281_207 : am_dc 281 207 = some (.aload_n 0, 208, 0) := by decide +kernel
theorem dc_281_208 : am_dc 281 208 = some (.iload 4, 210, 0) := by decide +kernel
theorem dc_281_210 : am_dc 281 210 = some (.iconst 1, 211, 0) := by decide +kernel
theorem dc_281_211 : am_dc 281 211 = some (.iadd, 212, 0) := by decide +kernel
theorem dc_281_212 : am_dc 281 212 = some (.iaload, 213, 0) := by decide +kernel
theorem dc_281_213 : am_dc 281 213 = some (.invokevirtual 28, 216, 0) := by decide +kernel
theorem dc_281_216 : am_dc 281 216 = some (.if_icmp .eq 1046, 219, 1262) := by decide +kernel
theorem dc_281_219 : am_dc 281 219 = some (.iconst 0, 220, 0) := by decide +kernel
theorem dc_281_220 : am_dc 281 220 = some (.ireturn, 221, 0) := by decide +kernel
theorem dc_281_221 : am_dc 281 221 = some (.aload_n 1, 222, 0) := by decide +kernel
theorem dc_281_222 : am_dc 281 222 = some (.aload_n 0, 223, 0) := by decide +kernel
theorem dc_281_223 : am_dc 281 223 = some (.iload 4, 225, 0) := by decide +kernel
theorem dc_281_225 : am_dc 281 225 = some (.iconst 1, 226, 0) := by decide +kernel
theorem dc_281_226 : am_dc 281 226 = some (.iadd, 227, 0) := by decide +kernel
theorem dc_281_227 : am_dc 281 227 = some (.iaload, 228, 0) := by decide +kernel
theorem dc_281_228 : am_dc 281 228 = some (.aload_n 0, 229, 0) := by decide +kernel
theorem dc_281_229 : am_dc 281 229 = some (.iload 4, 231, 0) := by decide +kernel
theorem dc_281_231 : am_dc 281 231 = some (.iconst 2, 232, 0) := by decide +kernel
theorem dc_281_232 : am_dc 281 232 = some (.iadd, 233, 0) := by decide +kernel
theorem dc_281_233 : am_dc 281 233 = some (.iaload, 234, 0) := by decide +kernel
theorem dc_281_234 : am_dc 281 234 = some (.invokevirtual 29, 237, 0) := by decide +kernel
theorem dc_281_237 : am_dc 281 237 = some (.aload_n 2, 238, 0) := by decide +kernel
theorem dc_281_238 : am_dc 281 238 = some (.aload_n 0, 239, 0) := by decide +kernel
theorem dc_281_239 : am_dc 281 239 = some (.iload 4, 241, 0) := by decide +kernel
theorem dc_281_241 : am_dc 281 241 = some (.iconst 1, 242, 0) := by decide +kernel
theorem dc_281_242 : am_dc 281 242 = some (.iadd, 243, 0) := by decide +kernel
theorem dc_281_243 : am_dc 281 243 = some (.iaload, 244, 0) := by decide +kernel
theorem dc_281_244 : am_dc 281 244 = some (.aload_n 0, 245, 0) := by decide +kernel
theorem dc_281_245 : am_dc 281 245 = some (.iload 4, 247, 0) := by decide +kernel
theorem dc_281_247 : am_dc 281 247 = some (.iconst 2, 248, 0) := by decide +kernel
theorem dc_281_248 : am_dc 281 248 = some (.iadd, 249, 0) := by decide +kernel
theorem dc_281_249 : am_dc 281 249 = some (.iaload, 250, 0) := by decide +kernel
theorem dc_281_250 : am_dc 281 250 = some (.invokevirtual 33, 253, 0) := by decide +kernel
theorem dc_281_253 : am_dc 281 253 = some (.if_icmp .eq 1009, 256, 1262) := by decide +kernel
theorem dc_281_256 : am_dc 281 256 = some (.iconst 0, 257, 0) := by decide +kernel
theorem dc_281_257 : am_dc 281 257 = some (.ireturn, 258, 0) := by decide +kernel
theorem dc_281_258 : am_dc 281 258 = some (.aload_n 1, 259, 0) := by decide +kernel
theorem dc_281_259 : am_dc 281 259 = some (.aload_n 0, 260, 0) := by decide +kernel
theorem dc_281_260 : am_dc 281 260 = some (.iload 4, 262, 0) := by decide +kernel
theorem dc_281_262 : am_dc 281 262 = some (.iconst 1, 263, 0) := by decide +kernel
theorem dc_281_263 : am_dc 281 263 = some (.iadd, 264, 0) := by decide +kernel
theorem dc_281_264 : am_dc 281 264 = some (.iaload, 265, 0) := by decide +kernel
theorem dc_281_265 : am_dc 281 265 = some (.aload_n 0, 266, 0) := by decide +kernel
theorem dc_281_266 : am_dc 281 266 = some (.iload 4, 268, 0) := by decide +kernel
theorem dc_281_268 : am_dc 281 268 = some (.iconst 2, 269, 0) := by decide +kernel
theorem dc_281_269 : am_dc 281 269 = some (.iadd, 270, 0) := by decide +kernel
theorem dc_281_270 : am_dc 281 270 = some (.iaload, 271, 0) := by decide +kernel
theorem dc_281_271 : am_dc 281 271 = some (.aload_n 0, 272, 0) := by decide +kernel
theorem dc_281_272 : am_dc 281 272 = some (.iload 4, 274, 0) := by decide +kernel
theorem dc_281_274 : am_dc 281 274 = some (.iconst 3, 275, 0) := by decide +kernel
theorem dc_281_275 : am_dc 281 275 = some (.iadd, 276, 0) := by decide +kernel
theorem dc_281_276 : am_dc 281 276 = some (.iaload, 277, 0) := by decide +kernel
theorem dc_281_277 : am_dc 281 277 = some (.invokevirtual 34, 280, 0) := by decide +kernel
theorem dc_281_280 : am_dc 281 280 = some (.aload_n 2, 281, 0) := by decide +kernel
theorem dc_281_281 : am_dc 281 281 = some (.aload_n 0, 282, 0) := by decide +kernel
theorem dc_281_282 : am_dc 281 282 = some (.iload 4, 284, 0) := by decide +kernel
theorem dc_281_284 : am_dc 281 284 = some (.iconst 1, 285, 0) := by decide +kernel
theorem dc_281_285 : am_dc 281 285 = some (.iadd, 286, 0) := by decide +kernel
theorem dc_281_286 : am_dc 281 286 = some (.iaload, 287, 0) := by decide +kernel
theorem dc_281_287 : am_dc 281 287 = some (.aload_n 0, 288, 0) := by decide +kernel
theorem dc_281_288 : am_dc 281 288 = some (.iload 4, 290, 0) := by decide +kernel
theorem dc_281_290 : am_dc 281 290 = some (.iconst 2, 291, 0) := by decide +kernel
theorem dc_281_291 : am_dc 281 291 = some (.iadd, 292, 0) := by decide +kernel
theorem dc_281_292 : am_dc 281 292 = some (.iaload, 293, 0) := by decide +kernel
theorem dc_281_293 : am_dc 281 293 = some (.aload_n 0, 294, 0) := by decide +kernel
theorem dc_281_294 : am_dc 281 294 = some (.iload 4, 296, 0) := by decide +kernel
theorem dc_281_296 : am_dc 281 296 = some (.iconst 3, 297, 0) := by decide +kernel
theorem dc_281_297 : am_dc 281 297 = some (.iadd, 298, 0) := by decide +kernel
theorem dc_281_298 : am_dc 281 298 = some (.iaload, 299, 0) := by decide +kernel
theorem dc_281_299 : am_dc 281 299 = some (.invokevirtual 38, 302, 0) := by decide +kernel
theorem dc_281_302 : am_dc 281 302 = some (.if_icmp .eq 960, 305, 1262) := by decide +kernel
theorem dc_281_305 : am_dc 281 305 = some (.iconst 0, 306, 0) := by decide +kernel
theorem dc_281_306 : am_dc 281 306 = some (.ireturn, 307, 0) := by decide +kernel
theorem dc_281_307 : am_dc 281 307 = some (.aload_n 1, 308, 0) := by decide +kernel
theorem dc_281_308 : am_dc 281 308 = some (.aload_n 0, 309, 0) := by decide +kernel
theorem dc_281_309 : am_dc 281 309 = some (.iload 4, 311, 0) := by decide +kernel
theorem dc_281_311 : am_dc 281 311 = some (.iconst 1, 312, 0) := by decide +kernel
theorem dc_281_312 : am_dc 281 312 = some (.iadd, 313, 0) := by decide +kernel
theorem dc_281_313 : am_dc 281 313 = some (.iaload, 314, 0) := by decide +kernel
theorem dc_281_314 : am_dc 281 314 = some (.aload_n 0, 315, 0) := by decide +kernel
theorem dc_281_315 : am_dc 281 315 = some (.iload 4, 317, 0) := by decide +kernel
theorem dc_281_317 : am_dc 281 317 = some (.iconst 2, 318, 0) := by decide +kernel
theorem dc_281_318 : am_dc 281 318 = some (.iadd, 319, 0) := by decide +kernel
theorem dc_281_319 : am_dc 281 319 = some (.iaload, 320, 0) := by decide +kernel
theorem dc_281_320 : am_dc 281 320 = some (.invokevirtual 39, 323, 0) := by decide +kernel
theorem dc_281_323 : am_dc 281 323 = some (.aload_n 2, 324, 0) := by decide +kernel
theorem dc_281_324 : am_dc 281 324 = some (.aload_n 0, 325, 0) := by decide +kernel
theorem dc_281_325 : am_dc 281 325 = some (.iload 4, 327, 0) := by decide +kernel
theorem dc_281_327 : am_dc 281 327 = some (.iconst 1, 328, 0) := by decide +kernel
theorem dc_281_328 : am_dc 281 328 = some (.iadd, 329, 0) := by decide +kernel
theorem dc_281_329 : am_dc 281 329 = some (.iaload, 330, 0) := by decide +kernel
theorem dc_281_330 : am_dc 281 330 = some (.aload_n 0, 331, 0) := by decide +kernel
theorem dc_281_331 : am_dc 281 331 = some (.iload 4, 333, 0) := by decide +kernel
theorem dc_281_333 : am_dc 281 333 = some (.iconst 2, 334, 0) := by decide +kernel
theorem dc_281_334 : am_dc 281 334 = some (.iadd, 335, 0) := by decide +kernel
theorem dc_281_335 : am_dc 281 335 = some (.iaload, 336, 0) := by decide +kernel
theorem dc_281_336 : am_dc 281 336 = some (.invokevirtual 42, 339, 0) := by decide +kernel
theorem dc_281_339 : am_dc 281 339 = some (.if_icmp .eq 923, 342, 1262) := by decide +kernel
theorem dc_281_342 : am_dc 281 342 = some (.iconst 0, 343, 0) := by decide +kernel
theorem dc_281_343 : am_dc 281 343 = some (.ireturn, 344, 0) := by decide +kernel
theorem dc_281_344 : am_dc 281 344 = some (.aload_n 1, 345, 0) := by decide +kernel
theorem dc_281_345 : am_dc 281 345 = some (.aload_n 0, 346, 0) := by decide +kernel
theorem dc_281_346 : am_dc 281 346 = some (.iload 4, 348, 0) := by decide +kernel
theorem dc_281_348 : am_dc 281 348 = some (.iconst 1, 349, 0) := by decide +kernel
theorem dc_281_349 : am_dc 281 349 = some (.iadd, 350, 0) := by decide +kernel
theorem dc_281_350 : am_dc 281 350 = some (.iaload, 351, 0) := by decide +kernel
theorem dc_281_351 : am_dc 281 351 = some (.invokevirtual 43, 354, 0) := by decide +kernel
theorem dc_281_354 : am_dc 281 354 = some (.aload_n 2, 355, 0) := by decide +kernel
theorem dc_281_355 : am_dc 281 355 = some (.aload_n 0, 356, 0) := by decide +kernel
theorem dc_281_356 : am_dc 281 356 = some (.iload 4, 358, 0) := by decide +kernel
theorem dc_281_358 : am_dc 281 358 = some (.iconst 1, 359, 0) := by decide +kernel
theorem dc_281_359 : am_dc 281 359 = some (.iadd, 360, 0) := by decide +kernel
theorem dc_281_360 : am_dc 281 360 = some (.iaload, 361, 0) := by decide +kernel
theorem dc_281_361 : am_dc 281 361 = some (.invokevirtual 46, 364, 0) := by decide +kernel
theorem dc_281_364 : am_dc 281 364 = some (.if_icmp .eq 898, 367, 1262) := by decide +kernel
theorem dc_281_367 : am_dc 281 367 = some (.iconst 0, 368, 0) := by decide +kernel
theorem dc_281_368 : am_dc 281 368 = some (.ireturn, 369, 0) := by decide +kernel
theorem dc_281_369 : am_dc 281 369 = some (.aload_n 1, 370, 0) := by decide +kernel
theorem dc_281_370 : am_dc 281 370 = some (.aload_n 0, 371, 0) := by decide +kernel
theorem dc_281_371 : am_dc 281 371 = some (.iload 4, 373, 0) := by decide +kernel
theorem dc_281_373 : am_dc 281 373 = some (.iconst 1, 374, 0) := by decide +kernel
theorem dc_281_374 : am_dc 281 374 = some (.iadd, 375, 0) := by decide +kernel
theorem dc_281_375 : am_dc 281 375 = some (.iaload, 376, 0) := by decide +kernel
theorem dc_281_376 : am_dc 281 376 = some (.invokevirtual 47, 379, 0) := by decide +kernel
theorem dc_281_379 : am_dc 281 379 = some (.aload_n 2, 380, 0) := by decide +kernel
theorem dc_281_380 : am_dc 281 380 = some (.aload_n 0, 381, 0) := by decide +kernel
theorem dc_281_381 : am_dc 281 381 = some (.iload 4, 383, 0) := by decide +kernel
theorem dc_281_383 : am_dc 281 383 = some (.iconst 1, 384, 0) := by decide +kernel
theorem dc_281_384 : am_dc 281 384 = some (.iadd, 385, 0) := by decide +kernel
theorem dc_281_385 : am_dc 281 385 = some (.iaload, 386, 0) := by decide +kernel
theorem dc_281_386 : am_dc 281 386 = some (.invokevirtual 50, 389, 0) := by decide +kernel
theorem dc_281_389 : am_dc 281 389 = some (.if_icmp .eq 873, 392, 1262) := by decide +kernel
theorem dc_281_392 : am_dc 281 392 = some (.iconst 0, 393, 0) := by decide +kernel
theorem dc_281_393 : am_dc 281 393 = some (.ireturn, 394, 0) := by decide +kernel
theorem dc_281_394 : am_dc 281 394 = some (.aload_n 1, 395, 0) := by decide +kernel
theorem dc_281_395 : am_dc 281 395 = some (.aload_n 0, 396, 0) := by decide +kernel
theorem dc_281_396 : am_dc 281 396 = some (.iload 4, 398, 0) := by decide +kernel
theorem dc_281_398 : am_dc 281 398 = some (.iconst 1, 399, 0) := by decide +kernel
theorem dc_281_399 : am_dc 281 399 = some (.iadd, 400, 0) := by decide +kernel
theorem dc_281_400 : am_dc 281 400 = some (.iaload, 401, 0) := by decide +kernel
theorem dc_281_401 : am_dc 281 401 = some (.invokevirtual 51, 404, 0) := by decide +kernel
theorem dc_281_404 : am_dc 281 404 = some (.aload_n 2, 405, 0) := by decide +kernel
theorem dc_281_405 : am_dc 281 405 = some (.aload_n 0, 406, 0) := by decide +kernel
theorem dc_281_406 : am_dc 281 406 = some (.iload 4, 408, 0) := by decide +kernel
theorem dc_281_408 : am_dc 281 408 = some (.iconst 1, 409, 0) := by decide +kernel
theorem dc_281_409 : am_dc 281 409 = some (.iadd, 410, 0) := by decide +kernel
theorem dc_281_410 : am_dc 281 410 = some (.iaload, 411, 0) := by decide +kernel
