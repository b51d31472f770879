/-! the instructions of the methods -/
theorem dc_119_6 : am_dc 119 6 = some (.iconst 0, 7, 0) := by decide +kernel
theorem dc_119_7 : am_dc 119 7 = some (.istore 4, 9, 0) := by decide +kernel
theorem dc_119_9 : am_dc 119 9 = some (.aload_n 0, 10, 0) := by decide +kernel
theorem dc_119_10 : am_dc 119 10 = some (.getfield 104, 13, 0) := by decide +kernel
theorem dc_119_13 : am_dc 119 13 = some (.lload_n 2, 14, 0) := by decide +kernel
theorem dc_119_14 : am_dc 119 14 = some (.lcmp, 15, 0) := by decide +kernel
theorem dc_119_15 : am_dc 119 15 = some (.ifCond .le 17, 18, 32) := by decide +kernel
theorem dc_119_18 : am_dc 119 18 = some (.aload_n 0, 19, 0) := by decide +kernel
theorem dc_119_19 : am_dc 119 19 = some (.getfield 104, 22, 0) := by decide +kernel
theorem dc_119_22 : am_dc 119 22 = some (.lstore_n 2, 23, 0) := by decide +kernel
theorem dc_119_23 : am_dc 119 23 = some (.bipush 30, 25, 0) := by decide +kernel
theorem dc_119_25 : am_dc 119 25 = some (.aload_n 0, 26, 0) := by decide +kernel
theorem dc_119_26 : am_dc 119 26 = some (.getfield 101, 29, 0) := by decide +kernel
theorem dc_119_29 : am_dc 119 29 = some (.iadd, 30, 0) := by decide +kernel
theorem dc_119_30 : am_dc 119 30 = some (.istore 4, 32, 0) := by decide +kernel
theorem dc_119_32 : am_dc 119 32 = some (.iconst 0, 33, 0) := by decide +kernel
theorem dc_119_33 : am_dc 119 33 = some (.istore 5, 35, 0) := by decide +kernel
theorem dc_119_35 : am_dc 119 35 = some (.iload 5, 37, 0) := by decide +kernel
theorem dc_119_37 : am_dc 119 37 = some (.aload_n 0, 38, 0) := by decide +kernel
theorem dc_119_38 : am_dc 119 38 = some (.getfield 38, 41, 0) := by decide +kernel
theorem dc_119_41 : am_dc 119 41 = some (.getfield 52, 44, 0) := by decide +kernel
theorem dc_119_44 : am_dc 119 44 = some (.if_icmp .ge 49, 47, 93) := by decide +kernel
theorem dc_119_47 : am_dc 119 47 = some (.aload_n 0, 48, 0) := by decide +kernel
theorem dc_119_48 : am_dc 119 48 = some (.getfield 22, 51, 0) := by decide +kernel
theorem dc_119_51 : am_dc 119 51 = some (.iload 5, 53, 0) := by decide +kernel
theorem dc_119_53 : am_dc 119 53 = some (.baload, 54, 0) := by decide +kernel
theorem dc_119_54 : am_dc 119 54 = some (.ifCond .eq 13, 57, 67) := by decide +kernel
theorem dc_119_57 : am_dc 119 57 = some (.aload_n 0, 58, 0) := by decide +kernel
theorem dc_119_58 : am_dc 119 58 = some (.iload 5, 60, 0) := by decide +kernel
theorem dc_119_60 : am_dc 119 60 = some (.iload_n 1, 61, 0) := by decide +kernel
theorem dc_119_61 : am_dc 119 61 = some (.invokevirtual 140, 64, 0) := by decide +kernel
theorem dc_119_64 : am_dc 119 64 = some (.goto 4, 67, 68) := by decide +kernel
theorem dc_119_67 : am_dc 119 67 = some (.lload_n 2, 68, 0) := by decide +kernel
theorem dc_119_68 : am_dc 119 68 = some (.lstore 6, 70, 0) := by decide +kernel
theorem dc_119_70 : am_dc 119 70 = some (.lload 6, 72, 0) := by decide +kernel
theorem dc_119_72 : am_dc 119 72 = some (.lload_n 2, 73, 0) := by decide +kernel
theorem dc_119_73 : am_dc 119 73 = some (.lcmp, 74, 0) := by decide +kernel
theorem dc_119_74 : am_dc 119 74 = some (.ifCond .le 13, 77, 87) := by decide +kernel
theorem dc_119_77 : am_dc 119 77 = some (.lload 6, 79, 0) := by decide +kernel
theorem dc_119_79 : am_dc 119 79 = some (.lstore_n 2, 80, 0) := by decide +kernel
theorem dc_119_80 : am_dc 119 80 = some (.bipush 10, 82, 0) := by decide +kernel
theorem dc_119_82 : am_dc 119 82 = some (.iload 5, 84, 0) := by decide +kernel
theorem dc_119_84 : am_dc 119 84 = some (.iadd, 85, 0) := by decide +kernel
theorem dc_119_85 : am_dc 119 85 = some (.istore 4, 87, 0) := by decide +kernel
theorem dc_119_87 : am_dc 119 87 = some (.iinc 5 1, 90, 0) := by decide +kernel
theorem dc_119_90 : am_dc 119 90 = some (.goto (-55), 93, 35) := by decide +kernel
theorem dc_119_93 : am_dc 119 93 = some (.iconst 0, 94, 0) := by decide +kernel
theorem dc_119_94 : am_dc 119 94 = some (.istore 5, 96, 0) := by decide +kernel
theorem dc_119_96 : am_dc 119 96 = some (.iload 5, 98, 0) := by decide +kernel
theorem dc_119_98 : am_dc 119 98 = some (.aload_n 0, 99, 0) := by decide +kernel
theorem dc_119_99 : am_dc 119 99 = some (.getfield 38, 102, 0) := by decide +kernel
theorem dc_119_102 : am_dc 119 102 = some (.getfield 52, 105, 0) := by decide +kernel
theorem dc_119_105 : am_dc 119 105 = some (.if_icmp .ge 86, 108, 191) := by decide +kernel
theorem dc_119_108 : am_dc 119 108 = some (.aload_n 0, 109, 0) := by decide +kernel
theorem dc_119_109 : am_dc 119 109 = some (.getfield 22, 112, 0) := by decide +kernel
theorem dc_119_112 : am_dc 119 112 = some (.iload 5, 114, 0) := by decide +kernel
theorem dc_119_114 : am_dc 119 114 = some (.baload, 115, 0) := by decide +kernel
theorem dc_119_115 : am_dc 119 115 = some (.ifCond .eq 32, 118, 147) := by decide +kernel
theorem dc_119_118 : am_dc 119 118 = some (.aload_n 0, 119, 0) := by decide +kernel
theorem dc_119_119 : am_dc 119 119 = some (.iload 5, 121, 0) := by decide +kernel
theorem dc_119_121 : am_dc 119 121 = some (.invokevirtual 131, 124, 0) := by decide +kernel
theorem dc_119_124 : am_dc 119 124 = some (.ifCond .eq 23, 127, 147) := by decide +kernel
theorem dc_119_127 : am_dc 119 127 = some (.aload_n 0, 128, 0) := by decide +kernel
theorem dc_119_128 : am_dc 119 128 = some (.getfield 38, 131, 0) := by decide +kernel
theorem dc_119_131 : am_dc 119 131 = some (.getfield 56, 134, 0) := by decide +kernel
theorem dc_119_134 : am_dc 119 134 = some (.iload 5, 136, 0) := by decide +kernel
theorem dc_119_136 : am_dc 119 136 = some (.aaload, 137, 0) := by decide +kernel
theorem dc_119_137 : am_dc 119 137 = some (.invokevirtual 144, 140, 0) := by decide +kernel
theorem dc_119_140 : am_dc 119 140 = some (.ifCond .eq 7, 143, 147) := by decide +kernel
theorem dc_119_143 : am_dc 119 143 = some (.iconst 1, 144, 0) := by decide +kernel
theorem dc_119_144 : am_dc 119 144 = some (.goto 4, 147, 148) := by decide +kernel
theorem dc_119_147 : am_dc 119 147 = some (.iconst 0, 148, 0) := by decide +kernel
theorem dc_119_148 : am_dc 119 148 = some (.istore 6, 150, 0) := by decide +kernel
theorem dc_119_150 : am_dc 119 150 = some (.iload 6, 152, 0) := by decide +kernel
theorem dc_119_152 : am_dc 119 152 = some (.ifCond .eq 13, 155, 165) := by decide +kernel
theorem dc_119_155 : am_dc 119 155 = some (.aload_n 0, 156, 0) := by decide +kernel
theorem dc_119_156 : am_dc 119 156 = some (.iload 5, 158, 0) := by decide +kernel
theorem dc_119_158 : am_dc 119 158 = some (.iload_n 1, 159, 0) := by decide +kernel
theorem dc_119_159 : am_dc 119 159 = some (.invokevirtual 147, 162, 0) := by decide +kernel
theorem dc_119_162 : am_dc 119 162 = some (.goto 4, 165, 166) := by decide +kernel
theorem dc_119_165 : am_dc 119 165 = some (.lload_n 2, 166, 0) := by decide +kernel
theorem dc_119_166 : am_dc 119 166 = some (.lstore 7, 168, 0) := by decide +kernel
theorem dc_119_168 : am_dc 119 168 = some (.lload 7, 170, 0) := by decide +kernel
theorem dc_119_170 : am_dc 119 170 = some (.lload_n 2, 171, 0) := by decide +kernel
theorem dc_119_171 : am_dc 119 171 = some (.lcmp, 172, 0) := by decide +kernel
theorem dc_119_172 : am_dc 119 172 = some (.ifCond .le 13, 175, 185) := by decide +kernel
theorem dc_119_175 : am_dc 119 175 = some (.lload 7, 177, 0) := by decide +kernel
theorem dc_119_177 : am_dc 119 177 = some (.lstore_n 2, 178, 0) := by decide +kernel
theorem dc_119_178 : am_dc 119 178 = some (.bipush 20, 180, 0) := by decide +kernel
theorem dc_119_180 : am_dc 119 180 = some (.iload 5, 182, 0) := by decide +kernel
theorem dc_119_182 : am_dc 119 182 = some (.iadd, 183, 0) := by decide +kernel
theorem dc_119_183 : am_dc 119 183 = some (.istore 4, 185, 0) := by decide +kernel
theorem dc_119_185 : am_dc 119 185 = some (.iinc 5 1, 188, 0) := by decide +kernel
theorem dc_119_188 : am_dc 119 188 = some (.goto (-92), 191, 96) := by decide +kernel
theorem dc_119_191 : am_dc 119 191 = some (.aload_n 0, 192, 0) := by decide +kernel
theorem dc_119_192 : am_dc 119 192 = some (.getfield 15, 195, 0) := by decide +kernel
theorem dc_119_195 : am_dc 119 195 = some (.aload_n 0, 196, 0) := by decide +kernel
theorem dc_119_196 : am_dc 119 196 = some (.getfield 38, 199, 0) := by decide +kernel
theorem dc_119_199 : am_dc 119 199 = some (.aload_n 0, 200, 0) := by decide +kernel
theorem dc_119_200 : am_dc 119 200 = some (.getfield 90, 203, 0) := by decide +kernel
theorem dc_119_203 : am_dc 119 203 = some (.iload_n 1, 204, 0) := by decide +kernel
theorem dc_119_204 : am_dc 119 204 = some (.invokevirtual 150, 207, 0) := by decide +kernel
theorem dc_119_207 : am_dc 119 207 = some (.lload_n 2, 208, 0) := by decide +kernel
theorem dc_119_208 : am_dc 119 208 = some (.lastore, 209, 0) := by decide +kernel
theorem dc_119_209 : am_dc 119 209 = some (.aload_n 0, 210, 0) := by decide +kernel
theorem dc_119_210 : am_dc 119 210 = some (.getfield 19, 213, 0) := by decide +kernel
theorem dc_119_213 : am_dc 119 213 = some (.aload_n 0, 214, 0) := by decide +kernel
theorem dc_119_214 : am_dc 119 214 = some (.getfield 38, 217, 0) := by decide +kernel
theorem dc_119_217 : am_dc 119 217 = some (.aload_n 0, 218, 0) := by decide +kernel
theorem dc_119_218 : am_dc 119 218 = some (.getfield 90, 221, 0) := by decide +kernel
theorem dc_119_221 : am_dc 119 221 = some (.iload_n 1, 222, 0) := by decide +kernel
theorem dc_119_222 : am_dc 119 222 = some (.invokevirtual 150, 225, 0) := by decide +kernel
theorem dc_119_225 : am_dc 119 225 = some (.iload 4, 227, 0) := by decide +kernel
theorem dc_119_227 : am_dc 119 227 = some (.iastore, 228, 0) := by decide +kernel
theorem dc_119_228 : am_dc 119 228 = some (.return_, 229, 0) := by decide +kernel
theorem dc_120_0 : am_dc 120 0 = some (.aload_n 0, 1, 0) := by decide +kernel
theorem dc_120_1 : am_dc 120 1 = some (.getfield 38, 4, 0) := by decide +kernel
theorem dc_120_4 : am_dc 120 4 = some (.getfield 157, 7, 0) := by decide +kernel
theorem dc_120_7 : am_dc 120 7 = some (.iload_n 1, 8, 0) := by decide +kernel
theorem dc_120_8 : am_dc 120 8 = some (.iaload, 9, 0) := by decide +kernel
theorem dc_120_9 : am_dc 120 9 = some (.i2l, 10, 0) := by decide +kernel
theorem dc_120_10 : am_dc 120 10 = some (.aload_n 0, 11, 0) := by decide +kernel
theorem dc_120_11 : am_dc 120 11 = some (.getfield 97, 14, 0) := by decide +kernel
theorem dc_120_14 : am_dc 120 14 = some (.lmul, 15, 0) := by decide +kernel
theorem dc_120_15 : am_dc 120 15 = some (.lreturn, 16, 0) := by decide +kernel
theorem dc_121_0 : am_dc 121 0 = some (.aload_n 0, 1, 0) := by decide +kernel
theorem dc_121_1 : am_dc 121 1 = some (.getfield 9, 4, 0) := by decide +kernel
theorem dc_121_4 : am_dc 121 4 = some (.iload_n 1, 5, 0) := by decide +kernel
theorem dc_121_5 : am_dc 121 5 = some (.iaload, 6, 0) := by decide +kernel
theorem dc_121_6 : am_dc 121 6 = some (.ineg, 7, 0) := by decide +kernel
theorem dc_121_7 : am_dc 121 7 = some (.i2l, 8, 0) := by decide +kernel
theorem dc_121_8 : am_dc 121 8 = some (.aload_n 0, 9, 0) := by decide +kernel
theorem dc_121_9 : am_dc 121 9 = some (.getfield 97, 12, 0) := by decide +kernel
theorem dc_121_12 : am_dc 121 12 = some (.lmul, 13, 0) := by decide +kernel
theorem dc_121_13 : am_dc 121 13 = some (.lstore_n 3, 14, 0) := by decide +kernel
theorem dc_121_14 : am_dc 121 14 = some (.iload_n 1, 15, 0) := by decide +kernel
theorem dc_121_15 : am_dc 121 15 = some (.iconst 4, 16, 0) := by decide +kernel
theorem dc_121_16 : am_dc 121 16 = some (.imul, 17, 0) := by decide +kernel
theorem dc_121_17 : am_dc 121 17 = some (.aload_n 0, 18, 0) := by decide +kernel
theorem dc_121_18 : am_dc 121 18 = some (.getfield 38, 21, 0) := by decide +kernel
theorem dc_121_21 : am_dc 121 21 = some (.getfield 56, 24, 0) := by decide +kernel
theorem dc_121_24 : am_dc 121 24 = some (.iload_n 1, 25, 0) := by decide +kernel
theorem dc_121_25 : am_dc 121 25 = some (.aaload, 26, 0) := by decide +kernel
theorem dc_121_26 : am_dc 121 26 = some (.invokevirtual 117, 29, 0) := by decide +kernel
theorem dc_121_29 : am_dc 121 29 = some (.iadd, 30, 0) := by decide +kernel
theorem dc_121_30 : am_dc 121 30 = some (.istore 5, 32, 0) := by decide +kernel
theorem dc_121_32 : am_dc 121 32 = some (.iload_n 1, 33, 0) := by decide +kernel
theorem dc_121_33 : am_dc 121 33 = some (.iconst 4, 34, 0) := by decide +kernel
theorem dc_121_34 : am_dc 121 34 = some (.imul, 35, 0) := by decide +kernel
theorem dc_121_35 : am_dc 121 35 = some (.istore 6, 37, 0) := by decide +kernel
theorem dc_121_37 : am_dc 121 37 = some (.iload 6, 39, 0) := by decide +kernel
theorem dc_121_39 : am_dc 121 39 = some (.iload 5, 41, 0) := by decide +kernel
theorem dc_121_41 : am_dc 121 41 = some (.if_icmp .ge 72, 44, 113) := by decide +kernel
theorem dc_121_44 : am_dc 121 44 = some (.aload_n 0, 45, 0) := by decide +kernel
theorem dc_121_45 : am_dc 121 45 = some (.getfield 38, 48, 0) := by decide +kernel
theorem dc_121_48 : am_dc 121 48 = some (.getfield 163, 51, 0) := by decide +kernel
theorem dc_121_51 : am_dc 121 51 = some (.iload 6, 53, 0) := by decide +kernel
theorem dc_121_53 : am_dc 121 53 = some (.iaload, 54, 0) := by decide +kernel
theorem dc_121_54 : am_dc 121 54 = some (.iload_n 2, 55, 0) := by decide +kernel
theorem dc_121_55 : am_dc 121 55 = some (.if_icmp .le 16, 58, 71) := by decide +kernel
theorem dc_121_58 : am_dc 121 58 = some (.aload_n 0, 59, 0) := by decide +kernel
theorem dc_121_59 : am_dc 121 59 = some (.getfield 38, 62, 0) := by decide +kernel
theorem dc_121_62 : am_dc 121 62 = some (.getfield 163, 65, 0) := by decide +kernel
theorem dc_121_65 : am_dc 121 65 = some (.iload 6, 67, 0) := by decide +kernel
theorem dc_121_67 : am_dc 121 67 = some (.iaload, 68, 0) := by decide +kernel
theorem dc_121_68 : am_dc 121 68 = some (.goto 4, 71, 72) := by decide +kernel
theorem dc_121_71 : am_dc 121 71 = some (.iload_n 2, 72, 0) := by decide +kernel
theorem dc_121_72 : am_dc 121 72 = some (.istore 7, 74, 0) := by decide +kernel
theorem dc_121_74 : am_dc 121 74 = some (.lload_n 3, 75, 0) := by decide +kernel
theorem dc_121_75 : am_dc 121 75 = some (.aload_n 0, 76, 0) := by decide +kernel
theorem dc_121_76 : am_dc 121 76 = some (.getfield 26, 79, 0) := by decide +kernel
theorem dc_121_79 : am_dc 121 79 = some (.iload 6, 81, 0) := by decide +kernel
theorem dc_121_81 : am_dc 121 81 = some (.iaload, 82, 0) := by decide +kernel
theorem dc_121_82 : am_dc 121 82 = some (.i2l, 83, 0) := by decide +kernel
theorem dc_121_83 : am_dc 121 83 = some (.aload_n 0, 84, 0) := by decide +kernel
theorem dc_121_84 : am_dc 121 84 = some (.getfield 15, 87, 0) := by decide +kernel
theorem dc_121_87 : am_dc 121 87 = some (.aload_n 0, 88, 0) := by decide +kernel
theorem dc_121_88 : am_dc 121 88 = some (.getfield 38, 91, 0) := by decide +kernel
theorem dc_121_91 : am_dc 121 91 = some (.aload_n 0, 92, 0) := by decide +kernel
theorem dc_121_92 : am_dc 121 92 = some (.getfield 29, 95, 0) := by decide +kernel
theorem dc_121_95 : am_dc 121 95 = some (.iload 6, 97, 0) := by decide +kernel
theorem dc_121_97 : am_dc 121 97 = some (.iaload, 98, 0) := by decide +kernel
theorem dc_121_98 : am_dc 121 98 = some (.iload 7, 100, 0) := by decide +kernel
theorem dc_121_100 : am_dc 121 100 = some (.invokevirtual 150, 103, 0) := by decide +kernel
theorem dc_121_103 : am_dc 121 103 = some (.laload, 104, 0) := by decide +kernel
theorem dc_121_104 : am_dc 121 104 = some (.lmul, 105, 0) := by decide +kernel
theorem dc_121_105 : am_dc 121 105 = some (.ladd, 106, 0) := by decide +kernel
theorem dc_121_106 : am_dc 121 106 = some (.lstore_n 3, 107, 0) := by decide +kernel
theorem dc_121_107 : am_dc 121 107 = some (.iinc 6 1, 110, 0) := by decide +kernel
theorem dc_121_110 : am_dc 121 110 = some (.goto (-73), 113, 37) := by decide +kernel
theorem dc_121_113 : am_dc 121 113 = some (.lload_n 3, 114, 0) := by decide +kernel
theorem dc_121_114 : am_dc 121 114 = some (.lreturn, 115, 0) := by decide +kernel
theorem dc_122_0 : am_dc 122 0 = some (.iload_n 2, 1, 0) := by decide +kernel
theorem dc_122_1 : am_dc 122 1 = some (.iconst 2, 2, 0) := by decide +kernel
theorem dc_122_2 : am_dc 122 2 = some (.aload_n 0, 3, 0) := by decide +kernel
theorem dc_122_3 : am_dc 122 3 = some (.getfield 44, 6, 0) := by decide +kernel
theorem dc_122_6 : am_dc 122 6 = some (.imul, 7, 0) := by decide +kernel
theorem dc_122_7 : am_dc 122 7 = some (.ishl, 8, 0) := by decide +kernel
theorem dc_122_8 : am_dc 122 8 = some (.iload_n 1, 9, 0) := by decide +kernel
theorem dc_122_9 : am_dc 122 9 = some (.iadd, 10, 0) := by decide +kernel
theorem dc_122_10 : am_dc 122 10 = some (.ireturn, 11, 0) := by decide +kernel
theorem dc_123_0 : am_dc 123 0 = some (.aload_n 0, 1, 0) := by decide +kernel
theorem dc_123_1 : am_dc 123 1 = some (.getfield 15, 4, 0) := by decide +kernel
theorem dc_123_4 : am_dc 123 4 = some (.aload_n 0, 5, 0) := by decide +kernel
theorem dc_123_5 : am_dc 123 5 = some (.getfield 38, 8, 0) := by decide +kernel
theorem dc_123_8 : am_dc 123 8 = some (.aload_n 0, 9, 0) := by decide +kernel
theorem dc_123_9 : am_dc 123 9 = some (.getfield 38, 12, 0) := by decide +kernel
theorem dc_123_12 : am_dc 123 12 = some (.aload_n 0, 13, 0) := by decide +kernel
theorem dc_123_13 : am_dc 123 13 = some (.getfield 90, 16, 0) := by decide +kernel
theorem dc_123_16 : am_dc 123 16 = some (.iload_n 1, 17, 0) := by decide +kernel
theorem dc_123_17 : am_dc 123 17 = some (.iconst 1, 18, 0) := by decide +kernel
theorem dc_123_18 : am_dc 123 18 = some (.invokevirtual 166, 21, 0) := by decide +kernel
theorem dc_123_21 : am_dc 123 21 = some (.iload_n 2, 22, 0) := by decide +kernel
theorem dc_123_22 : am_dc 123 22 = some (.invokevirtual 150, 25, 0) := by decide +kernel
theorem dc_123_25 : am_dc 123 25 = some (.laload, 26, 0) := by decide +kernel
theorem dc_123_26 : am_dc 123 26 = some (.aload_n 0, 27, 0) := by decide +kernel
theorem dc_123_27 : am_dc 123 27 = some (.getfield 15, 30, 0) := by decide +kernel
theorem dc_123_30 : am_dc 123 30 = some (.aload_n 0, 31, 0) := by decide +kernel
theorem dc_123_31 : am_dc 123 31 = some (.getfield 38, 34, 0) := by decide +kernel
theorem dc_123_34 : am_dc 123 34 = some (.aload_n 0, 35, 0) := by decide +kernel
theorem dc_123_35 : am_dc 123 35 = some (.getfield 38, 38, 0) := by decide +kernel
theorem dc_123_38 : am_dc 123 38 = some (.aload_n 0, 39, 0) := by decide +kernel
theorem dc_123_39 : am_dc 123 39 = some (.getfield 90, 42, 0) := by decide +kernel
theorem dc_123_42 : am_dc 123 42 = some (.iload_n 1, 43, 0) := by decide +kernel
theorem dc_123_43 : am_dc 123 43 = some (.iconst 0, 44, 0) := by decide +kernel
theorem dc_123_44 : am_dc 123 44 = some (.invokevirtual 166, 47, 0) := by decide +kernel
theorem dc_123_47 : am_dc 123 47 = some (.iload_n 2, 48, 0) := by decide +kernel
theorem dc_123_48 : am_dc 123 48 = some (.invokevirtual 150, 51, 0) := by decide +kernel
theorem dc_123_51 : am_dc 123 51 = some (.laload, 52, 0) := by decide +kernel
theorem dc_123_52 : am_dc 123 52 = some (.ladd, 53, 0) := by decide +kernel
theorem dc_123_53 : am_dc 123 53 = some (.aload_n 0, 54, 0) := by decide +kernel
theorem dc_123_54 : am_dc 123 54 = some (.getfield 38, 57, 0) := by decide +kernel
theorem dc_123_57 : am_dc 123 57 = some (.getfield 56, 60, 0) := by decide +kernel
theorem dc_123_60 : am_dc 123 60 = some (.iload_n 1, 61, 0) := by decide +kernel
theorem dc_123_61 : am_dc 123 61 = some (.aaload, 62, 0) := by decide +kernel
theorem dc_123_62 : am_dc 123 62 = some (.invokevirtual 170, 65, 0) := by decide +kernel
theorem dc_123_65 : am_dc 123 65 = some (.i2l, 66, 0) := by decide +kernel
theorem dc_123_66 : am_dc 123 66 = some (.aload_n 0, 67, 0) := by decide +kernel
theorem dc_123_67 : am_dc 123 67 = some (.getfield 97, 70, 0) := by decide +kernel
theorem dc_123_70 : am_dc 123 70 = some (.lmul, 71, 0) := by decide +kernel
theorem dc_123_71 : am_dc 123 71 = some (.lsub, 72, 0) := by decide +kernel
theorem dc_123_72 : am_dc 123 72 = some (.lreturn, 73, 0) := by decide +kernel
theorem dc_124_0 : am_dc 124 0 = some (.aload_n 0, 1, 0) := by decide +kernel
theorem dc_124_1 : am_dc 124 1 = some (.getfield 41, 4, 0) := by decide +kernel
theorem dc_124_4 : am_dc 124 4 = some (.aload_n 0, 5, 0) := by decide +kernel
theorem dc_124_5 : am_dc 124 5 = some (.getfield 19, 8, 0) := by decide +kernel
theorem dc_124_8 : am_dc 124 8 = some (.aload_n 0, 9, 0) := by decide +kernel
theorem dc_124_9 : am_dc 124 9 = some (.getfield 12, 12, 0) := by decide +kernel
theorem dc_124_12 : am_dc 124 12 = some (.invokevirtual 142, 15, 0) := by decide +kernel
theorem dc_124_15 : am_dc 124 15 = some (.aload_n 0, 16, 0) := by decide +kernel
theorem dc_124_16 : am_dc 124 16 = some (.getfield 19, 19, 0) := by decide +kernel
theorem dc_124_19 : am_dc 124 19 = some (.aload_n 0, 20, 0) := by decide +kernel
theorem dc_124_20 : am_dc 124 20 = some (.getfield 12, 23, 0) := by decide +kernel
theorem dc_124_23 : am_dc 124 23 = some (.invokevirtual 198, 26, 0) := by decide +kernel
theorem dc_124_26 : am_dc 124 26 = some (.invokevirtual 211, 29, 0) := by decide +kernel
theorem dc_124_29 : am_dc 124 29 = some (.lreturn, 30, 0) := by decide +kernel
theorem dc_125_0 : am_dc 125 0 = some (.aload_n 0, 1, 0) := by decide +kernel
theorem dc_125_1 : am_dc 125 1 = some (.invokevirtual 173, 4, 0) := by decide +kernel
theorem dc_125_4 : am_dc 125 4 = some (.aload_n 0, 5, 0) := by decide +kernel
theorem dc_125_5 : am_dc 125 5 = some (.getfield 15, 8, 0) := by decide +kernel
theorem dc_125_8 : am_dc 125 8 = some (.aload_n 0, 9, 0) := by decide +kernel
theorem dc_125_9 : am_dc 125 9 = some (.getfield 38, 12, 0) := by decide +kernel
theorem dc_125_12 : am_dc 125 12 = some (.iload_n 1, 13, 0) := by decide +kernel
theorem dc_125_13 : am_dc 125 13 = some (.iload_n 2, 14, 0) := by decide +kernel
theorem dc_125_14 : am_dc 125 14 = some (.invokevirtual 150, 17, 0) := by decide +kernel
theorem dc_125_17 : am_dc 125 17 = some (.laload, 18, 0) := by decide +kernel
theorem dc_125_18 : am_dc 125 18 = some (.lreturn, 19, 0) := by decide +kernel
theorem dc_126_0 : am_dc 126 0 = some (.aload_n 0, 1, 0) := by decide +kernel
theorem dc_126_1 : am_dc 126 1 = some (.getfield 19, 4, 0) := by decide +kernel
theorem dc_126_4 : am_dc 126 4 = some (.aload_n 0, 5, 0) := by decide +kernel
theorem dc_126_5 : am_dc 126 5 = some (.getfield 12, 8, 0) := by decide +kernel
theorem dc_126_8 : am_dc 126 8 = some (.invokevirtual 142, 11, 0) := by decide +kernel
theorem dc_126_11 : am_dc 126 11 = some (.istore_n 1, 12, 0) := by decide +kernel
theorem dc_126_12 : am_dc 126 12 = some (.aload_n 0, 13, 0) := by decide +kernel
theorem dc_126_13 : am_dc 126 13 = some (.getfield 19, 16, 0) := by decide +kernel
theorem dc_126_16 : am_dc 126 16 = some (.aload_n 0, 17, 0) := by decide +kernel
theorem dc_126_17 : am_dc 126 17 = some (.getfield 12, 20, 0) := by decide +kernel
theorem dc_126_20 : am_dc 126 20 = some (.invokevirtual 198, 23, 0) := by decide +kernel
theorem dc_126_23 : am_dc 126 23 = some (.istore_n 2, 24, 0) := by decide +kernel
theorem dc_126_24 : am_dc 126 24 = some (.aload_n 0, 25, 0) := by decide +kernel
theorem dc_126_25 : am_dc 126 25 = some (.getfield 41, 28, 0) := by decide +kernel
theorem dc_126_28 : am_dc 126 28 = some (.iload_n 1, 29, 0) := by decide +kernel
theorem dc_126_29 : am_dc 126 29 = some (.iload_n 2, 30, 0) := by decide +kernel
theorem dc_126_30 : am_dc 126 30 = some (.invokevirtual 211, 33, 0) := by decide +kernel
theorem dc_126_33 : am_dc 126 33 = some (.aload_n 0, 34, 0) := by decide +kernel
theorem dc_126_34 : am_dc 126 34 = some (.getfield 41, 37, 0) := by decide +kernel
theorem dc_126_37 : am_dc 126 37 = some (.iload_n 1, 38, 0) := by decide +kernel
theorem dc_126_38 : am_dc 126 38 = some (.iload_n 2, 39, 0) := by decide +kernel
theorem dc_126_39 : am_dc 126 39 = some (.invokevirtual 204, 42, 0) := by decide +kernel
theorem dc_126_42 : am_dc 126 42 = some (.lsub, 43, 0) := by decide +kernel
theorem dc_126_43 : am_dc 126 43 = some (.lreturn, 44, 0) := by decide +kernel
theorem dc_127_0 : am_dc 127 0 = some (.aload_n 0, 1, 0) := by decide +kernel
theorem dc_127_1 : am_dc 127 1 = some (.getfield 41, 4, 0) := by decide +kernel
theorem dc_127_4 : am_dc 127 4 = some (.aload_n 0, 5, 0) := by decide +kernel
theorem dc_127_5 : am_dc 127 5 = some (.getfield 19, 8, 0) := by decide +kernel
theorem dc_127_8 : am_dc 127 8 = some (.aload_n 0, 9, 0) := by decide +kernel
theorem dc_127_9 : am_dc 127 9 = some (.getfield 12, 12, 0) := by decide +kernel
theorem dc_127_12 : am_dc 127 12 = some (.invokevirtual 142, 15, 0) := by decide +kernel
theorem dc_127_15 : am_dc 127 15 = some (.aload_n 0, 16, 0) := by decide +kernel
theorem dc_127_16 : am_dc 127 16 = some (.getfield 19, 19, 0) := by decide +kernel
theorem dc_127_19 : am_dc 127 19 = some (.aload_n 0, 20, 0) := by decide +kernel
theorem dc_127_20 : am_dc 127 20 = some (.getfield 12, 23, 0) := by decide +kernel
theorem dc_127_23 : am_dc 127 23 = some (.invokevirtual 198, 26, 0) := by decide +kernel
theorem dc_127_26 : am_dc 127 26 = some (.aload_n 0, 27, 0) := by decide +kernel
theorem dc_127_27 : am_dc 127 27 = some (.getfield 19, 30, 0) := by decide +kernel
theorem dc_127_30 : am_dc 127 30 = some (.invokevirtual 171, 33, 0) := by decide +kernel
theorem dc_127_33 : am_dc 127 33 = some (.invokevirtual 214, 36, 0) := by decide +kernel
theorem dc_127_36 : am_dc 127 36 = some (.ireturn, 37, 0) := by decide +kernel
theorem dc_128_0 : am_dc 128 0 = some (.aload_n 0, 1, 0) := by decide +kernel
theorem dc_128_1 : am_dc 128 1 = some (.invokevirtual 173, 4, 0) := by decide +kernel
theorem dc_128_4 : am_dc 128 4 = some (.aload_n 0, 5, 0) := by decide +kernel
theorem dc_128_5 : am_dc 128 5 = some (.iload_n 1, 6, 0) := by decide +kernel
theorem dc_128_6 : am_dc 128 6 = some (.iload_n 2, 7, 0) := by decide +kernel
theorem dc_128_7 : am_dc 128 7 = some (.iload_n 3, 8, 0) := by decide +kernel
theorem dc_128_8 : am_dc 128 8 = some (.iconst 0, 9, 0) := by decide +kernel
theorem dc_128_9 : am_dc 128 9 = some (.invokevirtual 203, 12, 0) := by decide +kernel
theorem dc_128_12 : am_dc 128 12 = some (.ireturn, 13, 0) := by decide +kernel
theorem dc_129_0 : am_dc 129 0 = some (.aload_n 0, 1, 0) := by decide +kernel
theorem dc_129_1 : am_dc 129 1 = some (.iload_n 1, 2, 0) := by decide +kernel
theorem dc_129_2 : am_dc 129 2 = some (.iload_n 2, 3, 0) := by decide +kernel
theorem dc_129_3 : am_dc 129 3 = some (.invokevirtual 192, 6, 0) := by decide +kernel
theorem dc_129_6 : am_dc 129 6 = some (.istore 5, 8, 0) := by decide +kernel
theorem dc_129_8 : am_dc 129 8 = some (.aload_n 0, 9, 0) := by decide +kernel
theorem dc_129_9 : am_dc 129 9 = some (.iload_n 1, 10, 0) := by decide +kernel
theorem dc_129_10 : am_dc 129 10 = some (.invokevirtual 77, 13, 0) := by decide +kernel
theorem dc_129_13 : am_dc 129 13 = some (.iload 5, 15, 0) := by decide +kernel
theorem dc_129_15 : am_dc 129 15 = some (.ifCond .ge 11, 18, 26) := by decide +kernel
theorem dc_129_18 : am_dc 129 18 = some (.aload_n 0, 19, 0) := by decide +kernel
theorem dc_129_19 : am_dc 129 19 = some (.iload_n 2, 20, 0) := by decide +kernel
theorem dc_129_20 : am_dc 129 20 = some (.invokevirtual 137, 23, 0) := by decide +kernel
theorem dc_129_23 : am_dc 129 23 = some (.goto 10, 26, 33) := by decide +kernel
theorem dc_129_26 : am_dc 129 26 = some (.aload_n 0, 27, 0) := by decide +kernel
theorem dc_129_27 : am_dc 129 27 = some (.iload 5, 29, 0) := by decide +kernel
theorem dc_129_29 : am_dc 129 29 = some (.iload_n 2, 30, 0) := by decide +kernel
theorem dc_129_30 : am_dc 129 30 = some (.invokevirtual 140, 33, 0) := by decide +kernel
theorem dc_129_33 : am_dc 129 33 = some (.lstore 6, 35, 0) := by decide +kernel
theorem dc_129_35 : am_dc 129 35 = some (.lload 6, 37, 0) := by decide +kernel
theorem dc_129_37 : am_dc 129 37 = some (.aload_n 0, 38, 0) := by decide +kernel
theorem dc_129_38 : am_dc 129 38 = some (.getfield 15, 41, 0) := by decide +kernel
theorem dc_129_41 : am_dc 129 41 = some (.aload_n 0, 42, 0) := by decide +kernel
theorem dc_129_42 : am_dc 129 42 = some (.getfield 38, 45, 0) := by decide +kernel
theorem dc_129_45 : am_dc 129 45 = some (.iload_n 1, 46, 0) := by decide +kernel
theorem dc_129_46 : am_dc 129 46 = some (.iload_n 2, 47, 0) := by decide +kernel
theorem dc_129_47 : am_dc 129 47 = some (.invokevirtual 150, 50, 0) := by decide +kernel
theorem dc_129_50 : am_dc 129 50 = some (.laload, 51, 0) := by decide +kernel
theorem dc_129_51 : am_dc 129 51 = some (.lcmp, 52, 0) := by decide +kernel
theorem dc_129_52 : am_dc 129 52 = some (.ifCond .ge 5, 55, 57) := by decide +kernel
theorem dc_129_55 : am_dc 129 55 = some (.iload_n 3, 56, 0) := by decide +kernel
theorem dc_129_56 : am_dc 129 56 = some (.ireturn, 57, 0) := by decide +kernel
theorem dc_129_57 : am_dc 129 57 = some (.iload 5, 59, 0) := by decide +kernel
theorem dc_129_59 : am_dc 129 59 = some (.ifCond .lt 9, 62, 68) := by decide +kernel
theorem dc_129_62 : am_dc 129 62 = some (.iload 4, 64, 0) := by decide +kernel
theorem dc_129_64 : am_dc 129 64 = some (.iconst 5, 65, 0) := by decide +kernel
theorem dc_129_65 : am_dc 129 65 = some (.if_icmp .lt 6, 68, 71) := by decide +kernel
theorem dc_129_68 : am_dc 129 68 = some (.bipush (-4), 70, 0) := by decide +kernel
theorem dc_129_70 : am_dc 129 70 = some (.ireturn, 71, 0) := by decide +kernel
theorem dc_129_71 : am_dc 129 71 = some (.iconst 0, 72, 0) := by decide +kernel
theorem dc_129_72 : am_dc 129 72 = some (.istore 8, 74, 0) := by decide +kernel
theorem dc_129_74 : am_dc 129 74 = some (.iload 8, 76, 0) := by decide +kernel
theorem dc_129_76 : am_dc 129 76 = some (.aload_n 0, 77, 0) := by decide +kernel
theorem dc_129_77 : am_dc 129 77 = some (.getfield 38, 80, 0) := by decide +kernel
theorem dc_129_80 : am_dc 129 80 = some (.getfield 56, 83, 0) := by decide +kernel
theorem dc_129_83 : am_dc 129 83 = some (.iload 5, 85, 0) := by decide +kernel
theorem dc_129_85 : am_dc 129 85 = some (.aaload, 86, 0) := by decide +kernel
theorem dc_129_86 : am_dc 129 86 = some (.invokevirtual 117, 89, 0) := by decide +kernel
theorem dc_129_89 : am_dc 129 89 = some (.if_icmp .ge 101, 92, 190) := by decide +kernel
theorem dc_129_92 : am_dc 129 92 = some (.aload_n 0, 93, 0) := by decide +kernel
theorem dc_129_93 : am_dc 129 93 = some (.getfield 38, 96, 0) := by decide +kernel
theorem dc_129_96 : am_dc 129 96 = some (.iload_n 1, 97, 0) := by decide +kernel
theorem dc_129_97 : am_dc 129 97 = some (.iload 5, 99, 0) := by decide +kernel
theorem dc_129_99 : am_dc 129 99 = some (.iload 8, 101, 0) := by decide +kernel
theorem dc_129_101 : am_dc 129 101 = some (.invokevirtual 120, 104, 0) := by decide +kernel
theorem dc_129_104 : am_dc 129 104 = some (.ifCond .le 80, 107, 184) := by decide +kernel
theorem dc_129_107 : am_dc 129 107 = some (.iload 8, 109, 0) := by decide +kernel
theorem dc_129_109 : am_dc 129 109 = some (.ifCond .ne 7, 112, 116) := by decide +kernel
theorem dc_129_112 : am_dc 129 112 = some (.iconst 3, 113, 0) := by decide +kernel
theorem dc_129_113 : am_dc 129 113 = some (.goto 4, 116, 117) := by decide +kernel
theorem dc_129_116 : am_dc 129 116 = some (.iconst 4, 117, 0) := by decide +kernel
theorem dc_129_117 : am_dc 129 117 = some (.istore 9, 119, 0) := by decide +kernel
theorem dc_129_119 : am_dc 129 119 = some (.aload_n 0, 120, 0) := by decide +kernel
theorem dc_129_120 : am_dc 129 120 = some (.aload_n 0, 121, 0) := by decide +kernel
theorem dc_129_121 : am_dc 129 121 = some (.getfield 38, 124, 0) := by decide +kernel
theorem dc_129_124 : am_dc 129 124 = some (.iload_n 1, 125, 0) := by decide +kernel
theorem dc_129_125 : am_dc 129 125 = some (.iload 5, 127, 0) := by decide +kernel
theorem dc_129_127 : am_dc 129 127 = some (.iload 8, 129, 0) := by decide +kernel
theorem dc_129_129 : am_dc 129 129 = some (.invokevirtual 124, 132, 0) := by decide +kernel
theorem dc_129_132 : am_dc 129 132 = some (.iload_n 2, 133, 0) := by decide +kernel
theorem dc_129_133 : am_dc 129 133 = some (.aload_n 0, 134, 0) := by decide +kernel
theorem dc_129_134 : am_dc 129 134 = some (.getfield 38, 137, 0) := by decide +kernel
theorem dc_129_137 : am_dc 129 137 = some (.iload 5, 139, 0) := by decide +kernel
theorem dc_129_139 : am_dc 129 139 = some (.iload 8, 141, 0) := by decide +kernel
theorem dc_129_141 : am_dc 129 141 = some (.invokevirtual 195, 144, 0) := by decide +kernel
theorem dc_129_144 : am_dc 129 144 = some (.invokestatic 198, 147, 0) := by decide +kernel
theorem dc_129_147 : am_dc 129 147 = some (.iload_n 3, 148, 0) := by decide +kernel
theorem dc_129_148 : am_dc 129 148 = some (.iload 9, 150, 0) := by decide +kernel
theorem dc_129_150 : am_dc 129 150 = some (.iload_n 1, 151, 0) := by decide +kernel
theorem dc_129_151 : am_dc 129 151 = some (.iload 5, 153, 0) := by decide +kernel
theorem dc_129_153 : am_dc 129 153 = some (.invokestatic 154, 156, 0) := by decide +kernel
theorem dc_129_156 : am_dc 129 156 = some (.isub, 157, 0) := by decide +kernel
theorem dc_129_157 : am_dc 129 157 = some (.getstatic 209, 160, 0) := by decide +kernel
theorem dc_129_160 : am_dc 129 160 = some (.iload 5, 162, 0) := by decide +kernel
theorem dc_129_162 : am_dc 129 162 = some (.iaload, 163, 0) := by decide +kernel
theorem dc_129_163 : am_dc 129 163 = some (.imul, 164, 0) := by decide +kernel
theorem dc_129_164 : am_dc 129 164 = some (.iadd, 165, 0) := by decide +kernel
theorem dc_129_165 : am_dc 129 165 = some (.iload 4, 167, 0) := by decide +kernel
theorem dc_129_167 : am_dc 129 167 = some (.iconst 1, 168, 0) := by decide +kernel
theorem dc_129_168 : am_dc 129 168 = some (.iadd, 169, 0) := by decide +kernel
theorem dc_129_169 : am_dc 129 169 = some (.invokevirtual 203, 172, 0) := by decide +kernel
theorem dc_129_172 : am_dc 129 172 = some (.istore 10, 174, 0) := by decide +kernel
theorem dc_129_174 : am_dc 129 174 = some (.iload 10, 176, 0) := by decide +kernel
theorem dc_129_176 : am_dc 129 176 = some (.bipush (-4), 178, 0) := by decide +kernel
theorem dc_129_178 : am_dc 129 178 = some (.if_icmp .eq 6, 181, 184) := by decide +kernel
theorem dc_129_181 : am_dc 129 181 = some (.iload 10, 183, 0) := by decide +kernel
theorem dc_129_183 : am_dc 129 183 = some (.ireturn, 184, 0) := by decide +kernel
theorem dc_129_184 : am_dc 129 184 = some (.iinc 8 1, 187, 0) := by decide +kernel
theorem dc_129_187 : am_dc 129 187 = some (.goto (-113), 190, 74) := by decide +kernel
theorem dc_129_190 : am_dc 129 190 = some (.bipush (-4), 192, 0) := by decide +kernel
theorem dc_129_192 : am_dc 129 192 = some (.ireturn, 193, 0) := by decide +kernel
theorem dc_130_0 : am_dc 130 0 = some (.aload_n 0, 1, 0) := by decide +kernel
theorem dc_130_1 : am_dc 130 1 = some (.getfield 12, 4, 0) := by decide +kernel
theorem dc_130_4 : am_dc 130 4 = some (.iload_n 1, 5, 0) := by decide +kernel
theorem dc_130_5 : am_dc 130 5 = some (.invokevirtual 94, 8, 0) := by decide +kernel
theorem dc_130_8 : am_dc 130 8 = some (.ifCond .eq 12, 11, 20) := by decide +kernel
theorem dc_130_11 : am_dc 130 11 = some (.iload_n 2, 12, 0) := by decide +kernel
theorem dc_130_12 : am_dc 130 12 = some (.ifCond .lt 8, 15, 20) := by decide +kernel
theorem dc_130_15 : am_dc 130 15 = some (.iload_n 2, 16, 0) := by decide +kernel
theorem dc_130_16 : am_dc 130 16 = some (.iconst 1, 17, 0) := by decide +kernel
theorem dc_130_17 : am_dc 130 17 = some (.if_icmp .le 7, 20, 24) := by decide +kernel
theorem dc_130_20 : am_dc 130 20 = some (.ldc2_w 217, 23, 0) := by decide +kernel
theorem dc_130_23 : am_dc 130 23 = some (.lreturn, 24, 0) := by decide +kernel
theorem dc_130_24 : am_dc 130 24 = some (.aload_n 0, 25, 0) := by decide +kernel
theorem dc_130_25 : am_dc 130 25 = some (.getfield 41, 28, 0) := by decide +kernel
theorem dc_130_28 : am_dc 130 28 = some (.aload_n 0, 29, 0) := by decide +kernel
theorem dc_130_29 : am_dc 130 29 = some (.getfield 19, 32, 0) := by decide +kernel
theorem dc_130_32 : am_dc 130 32 = some (.aload_n 0, 33, 0) := by decide +kernel
theorem dc_130_33 : am_dc 130 33 = some (.getfield 12, 36, 0) := by decide +kernel
theorem dc_130_36 : am_dc 130 36 = some (.invokevirtual 142, 39, 0) := by decide +kernel
theorem dc_130_39 : am_dc 130 39 = some (.aload_n 0, 40, 0) := by decide +kernel
theorem dc_130_40 : am_dc 130 40 = some (.getfield 19, 43, 0) := by decide +kernel
theorem dc_130_43 : am_dc 130 43 = some (.aload_n 0, 44, 0) := by decide +kernel
theorem dc_130_44 : am_dc 130 44 = some (.getfield 12, 47, 0) := by decide +kernel
theorem dc_130_47 : am_dc 130 47 = some (.invokevirtual 198, 50, 0) := by decide +kernel
theorem dc_130_50 : am_dc 130 50 = some (.aload_n 0, 51, 0) := by decide +kernel
theorem dc_130_51 : am_dc 130 51 = some (.getfield 19, 54, 0) := by decide +kernel
theorem dc_130_54 : am_dc 130 54 = some (.aload_n 0, 55, 0) := by decide +kernel
theorem dc_130_55 : am_dc 130 55 = some (.getfield 12, 58, 0) := by decide +kernel
theorem dc_130_58 : am_dc 130 58 = some (.invokevirtual 219, 61, 0) := by decide +kernel
theorem dc_130_61 : am_dc 130 61 = some (.invokevirtual 222, 64, 0) := by decide +kernel
theorem dc_130_64 : am_dc 130 64 = some (.iload_n 2, 65, 0) := by decide +kernel
theorem dc_130_65 : am_dc 130 65 = some (.ifCond .ne 15, 68, 80) := by decide +kernel
theorem dc_130_68 : am_dc 130 68 = some (.aload_n 0, 69, 0) := by decide +kernel
theorem dc_130_69 : am_dc 130 69 = some (.getfield 41, 72, 0) := by decide +kernel
theorem dc_130_72 : am_dc 130 72 = some (.getfield 226, 75, 0) := by decide +kernel
theorem dc_130_75 : am_dc 130 75 = some (.iload_n 1, 76, 0) := by decide +kernel
theorem dc_130_76 : am_dc 130 76 = some (.laload, 77, 0) := by decide +kernel
theorem dc_130_77 : am_dc 130 77 = some (.goto 12, 80, 89) := by decide +kernel
theorem dc_130_80 : am_dc 130 80 = some (.aload_n 0, 81, 0) := by decide +kernel
theorem dc_130_81 : am_dc 130 81 = some (.getfield 41, 84, 0) := by decide +kernel
theorem dc_130_84 : am_dc 130 84 = some (.getfield 229, 87, 0) := by decide +kernel
theorem dc_130_87 : am_dc 130 87 = some (.iload_n 1, 88, 0) := by decide +kernel
theorem dc_130_88 : am_dc 130 88 = some (.laload, 89, 0) := by decide +kernel
theorem dc_130_89 : am_dc 130 89 = some (.lreturn, 90, 0) := by decide +kernel
theorem dc_131_0 : am_dc 131 0 = some (.aload_n 0, 1, 0) := by decide +kernel
theorem dc_131_1 : am_dc 131 1 = some (.aload_n 1, 2, 0) := by decide +kernel
theorem dc_131_2 : am_dc 131 2 = some (.invokevirtual 66, 5, 0) := by decide +kernel
theorem dc_131_5 : am_dc 131 5 = some (.istore_n 2, 6, 0) := by decide +kernel
theorem dc_131_6 : am_dc 131 6 = some (.iconst 0, 7, 0) := by decide +kernel
theorem dc_131_7 : am_dc 131 7 = some (.istore_n 3, 8, 0) := by decide +kernel
theorem dc_131_8 : am_dc 131 8 = some (.iload_n 3, 9, 0) := by decide +kernel
theorem dc_131_9 : am_dc 131 9 = some (.aload_n 1, 10, 0) := by decide +kernel
theorem dc_131_10 : am_dc 131 10 = some (.getfield 40, 13, 0) := by decide +kernel
theorem dc_131_13 : am_dc 131 13 = some (.if_icmp .ge 34, 16, 47) := by decide +kernel
theorem dc_131_16 : am_dc 131 16 = some (.aload_n 0, 17, 0) := by decide +kernel
theorem dc_131_17 : am_dc 131 17 = some (.iload_n 3, 18, 0) := by decide +kernel
theorem dc_131_18 : am_dc 131 18 = some (.invokevirtual 45, 21, 0) := by decide +kernel
theorem dc_131_21 : am_dc 131 21 = some (.ifCond .eq 20, 24, 41) := by decide +kernel
theorem dc_131_24 : am_dc 131 24 = some (.aload_n 1, 25, 0) := by decide +kernel
theorem dc_131_25 : am_dc 131 25 = some (.iload_n 3, 26, 0) := by decide +kernel
theorem dc_131_26 : am_dc 131 26 = some (.aload_n 0, 27, 0) := by decide +kernel
theorem dc_131_27 : am_dc 131 27 = some (.getfield 15, 30, 0) := by decide +kernel
theorem dc_131_30 : am_dc 131 30 = some (.iload_n 3, 31, 0) := by decide +kernel
theorem dc_131_31 : am_dc 131 31 = some (.iaload, 32, 0) := by decide +kernel
theorem dc_131_32 : am_dc 131 32 = some (.invokevirtual 57, 35, 0) := by decide +kernel
theorem dc_131_35 : am_dc 131 35 = some (.iload_n 2, 36, 0) := by decide +kernel
theorem dc_131_36 : am_dc 131 36 = some (.if_icmp .ne 5, 39, 41) := by decide +kernel
theorem dc_131_39 : am_dc 131 39 = some (.iload_n 3, 40, 0) := by decide +kernel
theorem dc_131_40 : am_dc 131 40 = some (.ireturn, 41, 0) := by decide +kernel
theorem dc_131_41 : am_dc 131 41 = some (.iinc 3 1, 44, 0) := by decide +kernel
theorem dc_131_44 : am_dc 131 44 = some (.goto (-36), 47, 8) := by decide +kernel
theorem dc_131_47 : am_dc 131 47 = some (.bipush (-4), 49, 0) := by decide +kernel
theorem dc_131_49 : am_dc 131 49 = some (.ireturn, 50, 0) := by decide +kernel
theorem dc_132_0 : am_dc 132 0 = some (.aload_n 0, 1, 0) := by decide +kernel
theorem dc_132_1 : am_dc 132 1 = some (.invokevirtual 173, 4, 0) := by decide +kernel
theorem dc_132_4 : am_dc 132 4 = some (.aload_n 0, 5, 0) := by decide +kernel
theorem dc_132_5 : am_dc 132 5 = some (.iload_n 1, 6, 0) := by decide +kernel
theorem dc_132_6 : am_dc 132 6 = some (.iload_n 2, 7, 0) := by decide +kernel
theorem dc_132_7 : am_dc 132 7 = some (.iload_n 3, 8, 0) := by decide +kernel
theorem dc_132_8 : am_dc 132 8 = some (.invokevirtual 212, 11, 0) := by decide +kernel
theorem dc_132_11 : am_dc 132 11 = some (.return_, 12, 0) := by decide +kernel
theorem dc_133_0 : am_dc 133 0 = some (.aload_n 0, 1, 0) := by decide +kernel
theorem dc_133_1 : am_dc 133 1 = some (.getfield 32, 4, 0) := by decide +kernel
theorem dc_133_4 : am_dc 133 4 = some (.lconst 0, 5, 0) := by decide +kernel
theorem dc_133_5 : am_dc 133 5 = some (.invokestatic 216, 8, 0) := by decide +kernel
theorem dc_133_8 : am_dc 133 8 = some (.aload_n 0, 9, 0) := by decide +kernel
theorem dc_133_9 : am_dc 133 9 = some (.getfield 35, 12, 0) := by decide +kernel
theorem dc_133_12 : am_dc 133 12 = some (.lconst 0, 13, 0) := by decide +kernel
theorem dc_133_13 : am_dc 133 13 = some (.invokestatic 216, 16, 0) := by decide +kernel
theorem dc_133_16 : am_dc 133 16 = some (.aload_n 0, 17, 0) := by decide +kernel
theorem dc_133_17 : am_dc 133 17 = some (.iload_n 1, 18, 0) := by decide +kernel
theorem dc_133_18 : am_dc 133 18 = some (.iload_n 2, 19, 0) := by decide +kernel
theorem dc_133_19 : am_dc 133 19 = some (.iload_n 3, 20, 0) := by decide +kernel
theorem dc_133_20 : am_dc 133 20 = some (.lconst 1, 21, 0) := by decide +kernel
theorem dc_133_21 : am_dc 133 21 = some (.iconst 0, 22, 0) := by decide +kernel
theorem dc_133_22 : am_dc 133 22 = some (.invokevirtual 221, 25, 0) := by decide +kernel
theorem dc_133_25 : am_dc 133 25 = some (.return_, 26, 0) := by decide +kernel
theorem dc_134_0 : am_dc 134 0 = some (.iconst 0, 1, 0) := by decide +kernel
theorem dc_134_1 : am_dc 134 1 = some (.istore_n 3, 2, 0) := by decide +kernel
theorem dc_134_2 : am_dc 134 2 = some (.aload_n 0, 3, 0) := by decide +kernel
theorem dc_134_3 : am_dc 134 3 = some (.arraylength, 4, 0) := by decide +kernel
theorem dc_134_4 : am_dc 134 4 = some (.istore 4, 6, 0) := by decide +kernel
theorem dc_134_6 : am_dc 134 6 = some (.iload_n 3, 7, 0) := by decide +kernel
theorem dc_134_7 : am_dc 134 7 = some (.iload 4, 9, 0) := by decide +kernel
theorem dc_134_9 : am_dc 134 9 = some (.if_icmp .ge 13, 12, 22) := by decide +kernel
theorem dc_134_12 : am_dc 134 12 = some (.aload_n 0, 13, 0) := by decide +kernel
theorem dc_134_13 : am_dc 134 13 = some (.iload_n 3, 14, 0) := by decide +kernel
theorem dc_134_14 : am_dc 134 14 = some (.lload_n 1, 15, 0) := by decide +kernel
theorem dc_134_15 : am_dc 134 15 = some (.lastore, 16, 0) := by decide +kernel
theorem dc_134_16 : am_dc 134 16 = some (.iinc 3 1, 19, 0) := by decide +kernel
theorem dc_134_19 : am_dc 134 19 = some (.goto (-13), 22, 6) := by decide +kernel
theorem dc_134_22 : am_dc 134 22 = some (.return_, 23, 0) := by decide +kernel
theorem dc_135_0 : am_dc 135 0 = some (.aload_n 0, 1, 0) := by decide +kernel
theorem dc_135_1 : am_dc 135 1 = some (.getfield 19, 4, 0) := by decide +kernel
theorem dc_135_4 : am_dc 135 4 = some (.aload_n 0, 5, 0) := by decide +kernel
theorem dc_135_5 : am_dc 135 5 = some (.getfield 38, 8, 0) := by decide +kernel
theorem dc_135_8 : am_dc 135 8 = some (.iload_n 1, 9, 0) := by decide +kernel
theorem dc_135_9 : am_dc 135 9 = some (.iload_n 2, 10, 0) := by decide +kernel
theorem dc_135_10 : am_dc 135 10 = some (.invokevirtual 150, 13, 0) := by decide +kernel
theorem dc_135_13 : am_dc 135 13 = some (.iaload, 14, 0) := by decide +kernel
theorem dc_135_14 : am_dc 135 14 = some (.istore 7, 16, 0) := by decide +kernel
theorem dc_135_16 : am_dc 135 16 = some (.lload 4, 18, 0) := by decide +kernel
theorem dc_135_18 : am_dc 135 18 = some (.aload_n 0, 19, 0) := by decide +kernel
theorem dc_135_19 : am_dc 135 19 = some (.getfield 38, 22, 0) := by decide +kernel
theorem dc_135_22 : am_dc 135 22 = some (.iload_n 1, 23, 0) := by decide +kernel
theorem dc_135_23 : am_dc 135 23 = some (.invokevirtual 93, 26, 0) := by decide +kernel
theorem dc_135_26 : am_dc 135 26 = some (.lmul, 27, 0) := by decide +kernel
theorem dc_135_27 : am_dc 135 27 = some (.lstore 8, 29, 0) := by decide +kernel
theorem dc_135_29 : am_dc 135 29 = some (.lload 8, 31, 0) := by decide +kernel
theorem dc_135_31 : am_dc 135 31 = some (.lconst 0, 32, 0) := by decide +kernel
theorem dc_135_32 : am_dc 135 32 = some (.lcmp, 33, 0) := by decide +kernel
theorem dc_135_33 : am_dc 135 33 = some (.ifCond .eq 10, 36, 43) := by decide +kernel
theorem dc_135_36 : am_dc 135 36 = some (.iload 6, 38, 0) := by decide +kernel
theorem dc_135_38 : am_dc 135 38 = some (.bipush 10, 40, 0) := by decide +kernel
theorem dc_135_40 : am_dc 135 40 = some (.if_icmp .le 4, 43, 44) := by decide +kernel
theorem dc_135_43 : am_dc 135 43 = some (.return_, 44, 0) := by decide +kernel
theorem dc_135_44 : am_dc 135 44 = some (.iload 7, 46, 0) := by decide +kernel
theorem dc_135_46 : am_dc 135 46 = some (.ifCond .ne 21, 49, 67) := by decide +kernel
theorem dc_135_49 : am_dc 135 49 = some (.iload_n 3, 50, 0) := by decide +kernel
theorem dc_135_50 : am_dc 135 50 = some (.ifCond .lt 215, 53, 265) := by decide +kernel
theorem dc_135_53 : am_dc 135 53 = some (.aload_n 0, 54, 0) := by decide +kernel
theorem dc_135_54 : am_dc 135 54 = some (.getfield 35, 57, 0) := by decide +kernel
theorem dc_135_57 : am_dc 135 57 = some (.iload_n 3, 58, 0) := by decide +kernel
theorem dc_135_58 : am_dc 135 58 = some (.dup2, 59, 0) := by decide +kernel
theorem dc_135_59 : am_dc 135 59 = some (.laload, 60, 0) := by decide +kernel
theorem dc_135_60 : am_dc 135 60 = some (.lload 8, 62, 0) := by decide +kernel
theorem dc_135_62 : am_dc 135 62 = some (.ladd, 63, 0) := by decide +kernel
theorem dc_135_63 : am_dc 135 63 = some (.lastore, 64, 0) := by decide +kernel
theorem dc_135_64 : am_dc 135 64 = some (.goto 201, 67, 265) := by decide +kernel
theorem dc_135_67 : am_dc 135 67 = some (.iload 7, 69, 0) := by decide +kernel
theorem dc_135_69 : am_dc 135 69 = some (.bipush 30, 71, 0) := by decide +kernel
theorem dc_135_71 : am_dc 135 71 = some (.if_icmp .lt 21, 74, 92) := by decide +kernel
theorem dc_135_74 : am_dc 135 74 = some (.aload_n 0, 75, 0) := by decide +kernel
theorem dc_135_75 : am_dc 135 75 = some (.getfield 35, 78, 0) := by decide +kernel
theorem dc_135_78 : am_dc 135 78 = some (.iload 7, 80, 0) := by decide +kernel
theorem dc_135_80 : am_dc 135 80 = some (.bipush 30, 82, 0) := by decide +kernel
theorem dc_135_82 : am_dc 135 82 = some (.isub, 83, 0) := by decide +kernel
theorem dc_135_83 : am_dc 135 83 = some (.dup2, 84, 0) := by decide +kernel
theorem dc_135_84 : am_dc 135 84 = some (.laload, 85, 0) := by decide +kernel
theorem dc_135_85 : am_dc 135 85 = some (.lload 8, 87, 0) := by decide +kernel
theorem dc_135_87 : am_dc 135 87 = some (.ladd, 88, 0) := by decide +kernel
theorem dc_135_88 : am_dc 135 88 = some (.lastore, 89, 0) := by decide +kernel
theorem dc_135_89 : am_dc 135 89 = some (.goto 176, 92, 265) := by decide +kernel
theorem dc_135_92 : am_dc 135 92 = some (.iload 7, 94, 0) := by decide +kernel
theorem dc_135_94 : am_dc 135 94 = some (.bipush 20, 96, 0) := by decide +kernel
theorem dc_135_96 : am_dc 135 96 = some (.if_icmp .lt 59, 99, 155) := by decide +kernel
theorem dc_135_99 : am_dc 135 99 = some (.iload 7, 101, 0) := by decide +kernel
theorem dc_135_101 : am_dc 135 101 = some (.bipush 20, 103, 0) := by decide +kernel
theorem dc_135_103 : am_dc 135 103 = some (.isub, 104, 0) := by decide +kernel
theorem dc_135_104 : am_dc 135 104 = some (.istore 10, 106, 0) := by decide +kernel
theorem dc_135_106 : am_dc 135 106 = some (.aload_n 0, 107, 0) := by decide +kernel
theorem dc_135_107 : am_dc 135 107 = some (.aload_n 0, 108, 0) := by decide +kernel
theorem dc_135_108 : am_dc 135 108 = some (.getfield 38, 111, 0) := by decide +kernel
theorem dc_135_111 : am_dc 135 111 = some (.iload_n 1, 112, 0) := by decide +kernel
theorem dc_135_112 : am_dc 135 112 = some (.iload 10, 114, 0) := by decide +kernel
theorem dc_135_114 : am_dc 135 114 = some (.iconst 1, 115, 0) := by decide +kernel
theorem dc_135_115 : am_dc 135 115 = some (.invokevirtual 166, 118, 0) := by decide +kernel
theorem dc_135_118 : am_dc 135 118 = some (.iload_n 2, 119, 0) := by decide +kernel
theorem dc_135_119 : am_dc 135 119 = some (.iload_n 3, 120, 0) := by decide +kernel
theorem dc_135_120 : am_dc 135 120 = some (.lload 4, 122, 0) := by decide +kernel
theorem dc_135_122 : am_dc 135 122 = some (.iload 6, 124, 0) := by decide +kernel
theorem dc_135_124 : am_dc 135 124 = some (.iconst 1, 125, 0) := by decide +kernel
theorem dc_135_125 : am_dc 135 125 = some (.iadd, 126, 0) := by decide +kernel
theorem dc_135_126 : am_dc 135 126 = some (.invokevirtual 221, 129, 0) := by decide +kernel
theorem dc_135_129 : am_dc 135 129 = some (.aload_n 0, 130, 0) := by decide +kernel
theorem dc_135_130 : am_dc 135 130 = some (.aload_n 0, 131, 0) := by decide +kernel
theorem dc_135_131 : am_dc 135 131 = some (.getfield 38, 134, 0) := by decide +kernel
theorem dc_135_134 : am_dc 135 134 = some (.iload_n 1, 135, 0) := by decide +kernel
theorem dc_135_135 : am_dc 135 135 = some (.iload 10, 137, 0) := by decide +kernel
theorem dc_135_137 : am_dc 135 137 = some (.iconst 0, 138, 0) := by decide +kernel
theorem dc_135_138 : am_dc 135 138 = some (.invokevirtual 166, 141, 0) := by decide +kernel
theorem dc_135_141 : am_dc 135 141 = some (.iload_n 2, 142, 0) := by decide +kernel
theorem dc_135_142 : am_dc 135 142 = some (.iload_n 3, 143, 0) := by decide +kernel
theorem dc_135_143 : am_dc 135 143 = some (.lload 4, 145, 0) := by decide +kernel
theorem dc_135_145 : am_dc 135 145 = some (.iload 6, 147, 0) := by decide +kernel
theorem dc_135_147 : am_dc 135 147 = some (.iconst 1, 148, 0) := by decide +kernel
theorem dc_135_148 : am_dc 135 148 = some (.iadd, 149, 0) := by decide +kernel
theorem dc_135_149 : am_dc 135 149 = some (.invokevirtual 221, 152, 0) := by decide +kernel
theorem dc_135_152 : am_dc 135 152 = some (.goto 113, 155, 265) := by decide +kernel
theorem dc_135_155 : am_dc 135 155 = some (.iload 7, 157, 0) := by decide +kernel
theorem dc_135_157 : am_dc 135 157 = some (.bipush 10, 159, 0) := by decide +kernel
theorem dc_135_159 : am_dc 135 159 = some (.isub, 160, 0) := by decide +kernel
theorem dc_135_160 : am_dc 135 160 = some (.istore 10, 162, 0) := by decide +kernel
theorem dc_135_162 : am_dc 135 162 = some (.aload_n 0, 163, 0) := by decide +kernel
theorem dc_135_163 : am_dc 135 163 = some (.getfield 32, 166, 0) := by decide +kernel
theorem dc_135_166 : am_dc 135 166 = some (.iload 10, 168, 0) := by decide +kernel
theorem dc_135_168 : am_dc 135 168 = some (.dup2, 169, 0) := by decide +kernel
theorem dc_135_169 : am_dc 135 169 = some (.laload, 170, 0) := by decide +kernel
theorem dc_135_170 : am_dc 135 170 = some (.lload 8, 172, 0) := by decide +kernel
theorem dc_135_172 : am_dc 135 172 = some (.ladd, 173, 0) := by decide +kernel
theorem dc_135_173 : am_dc 135 173 = some (.lastore, 174, 0) := by decide +kernel
theorem dc_135_174 : am_dc 135 174 = some (.iconst 0, 175, 0) := by decide +kernel
theorem dc_135_175 : am_dc 135 175 = some (.istore 11, 177, 0) := by decide +kernel
theorem dc_135_177 : am_dc 135 177 = some (.iload 11, 179, 0) := by decide +kernel
theorem dc_135_179 : am_dc 135 179 = some (.aload_n 0, 180, 0) := by decide +kernel
theorem dc_135_180 : am_dc 135 180 = some (.getfield 38, 183, 0) := by decide +kernel
theorem dc_135_183 : am_dc 135 183 = some (.getfield 56, 186, 0) := by decide +kernel
theorem dc_135_186 : am_dc 135 186 = some (.iload 10, 188, 0) := by decide +kernel
theorem dc_135_188 : am_dc 135 188 = some (.aaload, 189, 0) := by decide +kernel
theorem dc_135_189 : am_dc 135 189 = some (.invokevirtual 117, 192, 0) := by decide +kernel
theorem dc_135_192 : am_dc 135 192 = some (.if_icmp .ge 73, 195, 265) := by decide +kernel
theorem dc_135_195 : am_dc 135 195 = some (.aload_n 0, 196, 0) := by decide +kernel
theorem dc_135_196 : am_dc 135 196 = some (.getfield 38, 199, 0) := by decide +kernel
theorem dc_135_199 : am_dc 135 199 = some (.iload 10, 201, 0) := by decide +kernel
theorem dc_135_201 : am_dc 135 201 = some (.iload 11, 203, 0) := by decide +kernel
theorem dc_135_203 : am_dc 135 203 = some (.invokevirtual 195, 206, 0) := by decide +kernel
theorem dc_135_206 : am_dc 135 206 = some (.istore 12, 208, 0) := by decide +kernel
theorem dc_135_208 : am_dc 135 208 = some (.aload_n 0, 209, 0) := by decide +kernel
theorem dc_135_209 : am_dc 135 209 = some (.aload_n 0, 210, 0) := by decide +kernel
theorem dc_135_210 : am_dc 135 210 = some (.getfield 38, 213, 0) := by decide +kernel
theorem dc_135_213 : am_dc 135 213 = some (.iload_n 1, 214, 0) := by decide +kernel
theorem dc_135_214 : am_dc 135 214 = some (.iload 10, 216, 0) := by decide +kernel
theorem dc_135_216 : am_dc 135 216 = some (.iload 11, 218, 0) := by decide +kernel
theorem dc_135_218 : am_dc 135 218 = some (.invokevirtual 124, 221, 0) := by decide +kernel
theorem dc_135_221 : am_dc 135 221 = some (.iload_n 2, 222, 0) := by decide +kernel
theorem dc_135_222 : am_dc 135 222 = some (.iload 12, 224, 0) := by decide +kernel
theorem dc_135_224 : am_dc 135 224 = some (.invokestatic 198, 227, 0) := by decide +kernel
theorem dc_135_227 : am_dc 135 227 = some (.iload_n 3, 228, 0) := by decide +kernel
theorem dc_135_228 : am_dc 135 228 = some (.iload_n 2, 229, 0) := by decide +kernel
theorem dc_135_229 : am_dc 135 229 = some (.iload 10, 231, 0) := by decide +kernel
theorem dc_135_231 : am_dc 135 231 = some (.iload 12, 233, 0) := by decide +kernel
theorem dc_135_233 : am_dc 135 233 = some (.invokestatic 225, 236, 0) := by decide +kernel
theorem dc_135_236 : am_dc 135 236 = some (.lload 4, 238, 0) := by decide +kernel
theorem dc_135_238 : am_dc 135 238 = some (.aload_n 0, 239, 0) := by decide +kernel
theorem dc_135_239 : am_dc 135 239 = some (.getfield 38, 242, 0) := by decide +kernel
theorem dc_135_242 : am_dc 135 242 = some (.iload_n 1, 243, 0) := by decide +kernel
theorem dc_135_243 : am_dc 135 243 = some (.iload 10, 245, 0) := by decide +kernel
theorem dc_135_245 : am_dc 135 245 = some (.iload 11, 247, 0) := by decide +kernel
theorem dc_135_247 : am_dc 135 247 = some (.invokevirtual 120, 250, 0) := by decide +kernel
theorem dc_135_250 : am_dc 135 250 = some (.i2l, 251, 0) := by decide +kernel
theorem dc_135_251 : am_dc 135 251 = some (.lmul, 252, 0) := by decide +kernel
theorem dc_135_252 : am_dc 135 252 = some (.iload 6, 254, 0) := by decide +kernel
theorem dc_135_254 : am_dc 135 254 = some (.iconst 1, 255, 0) := by decide +kernel
theorem dc_135_255 : am_dc 135 255 = some (.iadd, 256, 0) := by decide +kernel
theorem dc_135_256 : am_dc 135 256 = some (.invokevirtual 221, 259, 0) := by decide +kernel
theorem dc_135_259 : am_dc 135 259 = some (.iinc 11 1, 262, 0) := by decide +kernel
theorem dc_135_262 : am_dc 135 262 = some (.goto (-85), 265, 177) := by decide +kernel
theorem dc_135_265 : am_dc 135 265 = some (.return_, 266, 0) := by decide +kernel
theorem dc_136_0 : am_dc 136 0 = some (.iload_n 3, 1, 0) := by decide +kernel
theorem dc_136_1 : am_dc 136 1 = some (.iload_n 1, 2, 0) := by decide +kernel
theorem dc_136_2 : am_dc 136 2 = some (.if_icmp .ge 5, 5, 7) := by decide +kernel
theorem dc_136_5 : am_dc 136 5 = some (.iload_n 0, 6, 0) := by decide +kernel
theorem dc_136_6 : am_dc 136 6 = some (.ireturn, 7, 0) := by decide +kernel
theorem dc_136_7 : am_dc 136 7 = some (.iload_n 3, 8, 0) := by decide +kernel
theorem dc_136_8 : am_dc 136 8 = some (.iload_n 1, 9, 0) := by decide +kernel
theorem dc_136_9 : am_dc 136 9 = some (.if_icmp .gt 7, 12, 16) := by decide +kernel
theorem dc_136_12 : am_dc 136 12 = some (.iload_n 0, 13, 0) := by decide +kernel
theorem dc_136_13 : am_dc 136 13 = some (.ifCond .ge 7, 16, 20) := by decide +kernel
theorem dc_136_16 : am_dc 136 16 = some (.iload_n 2, 17, 0) := by decide +kernel
theorem dc_136_17 : am_dc 136 17 = some (.goto 8, 20, 25) := by decide +kernel
theorem dc_136_20 : am_dc 136 20 = some (.iload_n 0, 21, 0) := by decide +kernel
theorem dc_136_21 : am_dc 136 21 = some (.iload_n 2, 22, 0) := by decide +kernel
theorem dc_136_22 : am_dc 136 22 = some (.invokestatic 228, 25, 0) := by decide +kernel
theorem dc_136_25 : am_dc 136 25 = some (.ireturn, 26, 0) := by decide +kernel
theorem dc_137_0 : am_dc 137 0 = some (.aload_n 0, 1, 0) := by decide +kernel
theorem dc_137_1 : am_dc 137 1 = some (.getfield 12, 4, 0) := by decide +kernel
theorem dc_137_4 : am_dc 137 4 = some (.iload_n 1, 5, 0) := by decide +kernel
theorem dc_137_5 : am_dc 137 5 = some (.invokevirtual 94, 8, 0) := by decide +kernel
theorem dc_137_8 : am_dc 137 8 = some (.ifCond .ne 5, 11, 13) := by decide +kernel
theorem dc_137_11 : am_dc 137 11 = some (.iconst (-1), 12, 0) := by decide +kernel
theorem dc_137_12 : am_dc 137 12 = some (.ireturn, 13, 0) := by decide +kernel
theorem dc_137_13 : am_dc 137 13 = some (.aload_n 0, 14, 0) := by decide +kernel
theorem dc_137_14 : am_dc 137 14 = some (.getfield 19, 17, 0) := by decide +kernel
theorem dc_137_17 : am_dc 137 17 = some (.iload_n 1, 18, 0) := by decide +kernel
theorem dc_137_18 : am_dc 137 18 = some (.invokevirtual 232, 21, 0) := by decide +kernel
theorem dc_137_21 : am_dc 137 21 = some (.ifCond .eq 6, 24, 27) := by decide +kernel
theorem dc_137_24 : am_dc 137 24 = some (.bipush (-3), 26, 0) := by decide +kernel
theorem dc_137_26 : am_dc 137 26 = some (.ireturn, 27, 0) := by decide +kernel
theorem dc_137_27 : am_dc 137 27 = some (.aload_n 0, 28, 0) := by decide +kernel
theorem dc_137_28 : am_dc 137 28 = some (.getfield 41, 31, 0) := by decide +kernel
theorem dc_137_31 : am_dc 137 31 = some (.aload_n 0, 32, 0) := by decide +kernel
theorem dc_137_32 : am_dc 137 32 = some (.getfield 19, 35, 0) := by decide +kernel
theorem dc_137_35 : am_dc 137 35 = some (.aload_n 0, 36, 0) := by decide +kernel
theorem dc_137_36 : am_dc 137 36 = some (.getfield 12, 39, 0) := by decide +kernel
theorem dc_137_39 : am_dc 137 39 = some (.invokevirtual 142, 42, 0) := by decide +kernel
theorem dc_137_42 : am_dc 137 42 = some (.aload_n 0, 43, 0) := by decide +kernel
theorem dc_137_43 : am_dc 137 43 = some (.getfield 19, 46, 0) := by decide +kernel
theorem dc_137_46 : am_dc 137 46 = some (.aload_n 0, 47, 0) := by decide +kernel
theorem dc_137_47 : am_dc 137 47 = some (.getfield 12, 50, 0) := by decide +kernel
theorem dc_137_50 : am_dc 137 50 = some (.invokevirtual 198, 53, 0) := by decide +kernel
theorem dc_137_53 : am_dc 137 53 = some (.iload_n 1, 54, 0) := by decide +kernel
theorem dc_137_54 : am_dc 137 54 = some (.invokevirtual 235, 57, 0) := by decide +kernel
theorem dc_137_57 : am_dc 137 57 = some (.istore_n 2, 58, 0) := by decide +kernel
theorem dc_137_58 : am_dc 137 58 = some (.iload_n 2, 59, 0) := by decide +kernel
theorem dc_137_59 : am_dc 137 59 = some (.sipush 999, 62, 0) := by decide +kernel
theorem dc_137_62 : am_dc 137 62 = some (.if_icmp .le 8, 65, 70) := by decide +kernel
theorem dc_137_65 : am_dc 137 65 = some (.bipush (-4), 67, 0) := by decide +kernel
theorem dc_137_67 : am_dc 137 67 = some (.goto 4, 70, 71) := by decide +kernel
theorem dc_137_70 : am_dc 137 70 = some (.iload_n 2, 71, 0) := by decide +kernel
theorem dc_137_71 : am_dc 137 71 = some (.ireturn, 72, 0) := by decide +kernel
theorem dc_138_0 : am_dc 138 0 = some (.aload_n 0, 1, 0) := by decide +kernel
theorem dc_138_1 : am_dc 138 1 = some (.invokevirtual 173, 4, 0) := by decide +kernel
theorem dc_138_4 : am_dc 138 4 = some (.iconst 0, 5, 0) := by decide +kernel
theorem dc_138_5 : am_dc 138 5 = some (.istore 4, 7, 0) := by decide +kernel
theorem dc_138_7 : am_dc 138 7 = some (.aload_n 0, 8, 0) := by decide +kernel
theorem dc_138_8 : am_dc 138 8 = some (.getfield 38, 11, 0) := by decide +kernel
theorem dc_138_11 : am_dc 138 11 = some (.iload_n 1, 12, 0) := by decide +kernel
theorem dc_138_12 : am_dc 138 12 = some (.iload_n 3, 13, 0) := by decide +kernel
theorem dc_138_13 : am_dc 138 13 = some (.invokevirtual 185, 16, 0) := by decide +kernel
theorem dc_138_16 : am_dc 138 16 = some (.ifCond .eq 13, 19, 29) := by decide +kernel
theorem dc_138_19 : am_dc 138 19 = some (.aload_n 0, 20, 0) := by decide +kernel
theorem dc_138_20 : am_dc 138 20 = some (.iload_n 1, 21, 0) := by decide +kernel
theorem dc_138_21 : am_dc 138 21 = some (.iload_n 2, 22, 0) := by decide +kernel
theorem dc_138_22 : am_dc 138 22 = some (.iload_n 3, 23, 0) := by decide +kernel
theorem dc_138_23 : am_dc 138 23 = some (.invokevirtual 231, 26, 0) := by decide +kernel
theorem dc_138_26 : am_dc 138 26 = some (.goto 4, 29, 30) := by decide +kernel
theorem dc_138_29 : am_dc 138 29 = some (.iconst 0, 30, 0) := by decide +kernel
theorem dc_138_30 : am_dc 138 30 = some (.istore 5, 32, 0) := by decide +kernel
theorem dc_138_32 : am_dc 138 32 = some (.iconst 0, 33, 0) := by decide +kernel
theorem dc_138_33 : am_dc 138 33 = some (.istore 6, 35, 0) := by decide +kernel
theorem dc_138_35 : am_dc 138 35 = some (.iload 6, 37, 0) := by decide +kernel
theorem dc_138_37 : am_dc 138 37 = some (.bipush 11, 39, 0) := by decide +kernel
theorem dc_138_39 : am_dc 138 39 = some (.if_icmp .ge 66, 42, 105) := by decide +kernel
theorem dc_138_42 : am_dc 138 42 = some (.iload 4, 44, 0) := by decide +kernel
theorem dc_138_44 : am_dc 138 44 = some (.iload 5, 46, 0) := by decide +kernel
theorem dc_138_46 : am_dc 138 46 = some (.if_icmp .ge 59, 49, 105) := by decide +kernel
theorem dc_138_49 : am_dc 138 49 = some (.iload 4, 51, 0) := by decide +kernel
theorem dc_138_51 : am_dc 138 51 = some (.iload 5, 53, 0) := by decide +kernel
theorem dc_138_53 : am_dc 138 53 = some (.iadd, 54, 0) := by decide +kernel
theorem dc_138_54 : am_dc 138 54 = some (.iconst 2, 55, 0) := by decide +kernel
theorem dc_138_55 : am_dc 138 55 = some (.idiv, 56, 0) := by decide +kernel
theorem dc_138_56 : am_dc 138 56 = some (.istore 7, 58, 0) := by decide +kernel
theorem dc_138_58 : am_dc 138 58 = some (.aload_n 0, 59, 0) := by decide +kernel
theorem dc_138_59 : am_dc 138 59 = some (.iload_n 3, 60, 0) := by decide +kernel
theorem dc_138_60 : am_dc 138 60 = some (.iload 7, 62, 0) := by decide +kernel
theorem dc_138_62 : am_dc 138 62 = some (.invokevirtual 234, 65, 0) := by decide +kernel
theorem dc_138_65 : am_dc 138 65 = some (.aload_n 0, 66, 0) := by decide +kernel
theorem dc_138_66 : am_dc 138 66 = some (.getfield 19, 69, 0) := by decide +kernel
theorem dc_138_69 : am_dc 138 69 = some (.aload_n 0, 70, 0) := by decide +kernel
theorem dc_138_70 : am_dc 138 70 = some (.getfield 38, 73, 0) := by decide +kernel
theorem dc_138_73 : am_dc 138 73 = some (.iload_n 1, 74, 0) := by decide +kernel
theorem dc_138_74 : am_dc 138 74 = some (.iload_n 2, 75, 0) := by decide +kernel
theorem dc_138_75 : am_dc 138 75 = some (.invokevirtual 150, 78, 0) := by decide +kernel
theorem dc_138_78 : am_dc 138 78 = some (.iaload, 79, 0) := by decide +kernel
theorem dc_138_79 : am_dc 138 79 = some (.bipush 10, 81, 0) := by decide +kernel
theorem dc_138_81 : am_dc 138 81 = some (.iload_n 3, 82, 0) := by decide +kernel
theorem dc_138_82 : am_dc 138 82 = some (.iadd, 83, 0) := by decide +kernel
theorem dc_138_83 : am_dc 138 83 = some (.if_icmp .ne 12, 86, 95) := by decide +kernel
theorem dc_138_86 : am_dc 138 86 = some (.iload 7, 88, 0) := by decide +kernel
theorem dc_138_88 : am_dc 138 88 = some (.iconst 1, 89, 0) := by decide +kernel
theorem dc_138_89 : am_dc 138 89 = some (.iadd, 90, 0) := by decide +kernel
theorem dc_138_90 : am_dc 138 90 = some (.istore 4, 92, 0) := by decide +kernel
theorem dc_138_92 : am_dc 138 92 = some (.goto 7, 95, 99) := by decide +kernel
theorem dc_138_95 : am_dc 138 95 = some (.iload 7, 97, 0) := by decide +kernel
theorem dc_138_97 : am_dc 138 97 = some (.istore 5, 99, 0) := by decide +kernel
theorem dc_138_99 : am_dc 138 99 = some (.iinc 6 1, 102, 0) := by decide +kernel
theorem dc_138_102 : am_dc 138 102 = some (.goto (-67), 105, 35) := by decide +kernel
theorem dc_138_105 : am_dc 138 105 = some (.aload_n 0, 106, 0) := by decide +kernel
theorem dc_138_106 : am_dc 138 106 = some (.iload_n 3, 107, 0) := by decide +kernel
theorem dc_138_107 : am_dc 138 107 = some (.aload_n 0, 108, 0) := by decide +kernel
theorem dc_138_108 : am_dc 138 108 = some (.getfield 38, 111, 0) := by decide +kernel
theorem dc_138_111 : am_dc 138 111 = some (.getfield 56, 114, 0) := by decide +kernel
theorem dc_138_114 : am_dc 138 114 = some (.iload_n 3, 115, 0) := by decide +kernel
theorem dc_138_115 : am_dc 138 115 = some (.aaload, 116, 0) := by decide +kernel
theorem dc_138_116 : am_dc 138 116 = some (.getfield 60, 119, 0) := by decide +kernel
theorem dc_138_119 : am_dc 138 119 = some (.invokevirtual 234, 122, 0) := by decide +kernel
theorem dc_138_122 : am_dc 138 122 = some (.iload 4, 124, 0) := by decide +kernel
theorem dc_138_124 : am_dc 138 124 = some (.ireturn, 125, 0) := by decide +kernel
theorem dc_139_0 : am_dc 139 0 = some (.aload_n 0, 1, 0) := by decide +kernel
theorem dc_139_1 : am_dc 139 1 = some (.iload_n 1, 2, 0) := by decide +kernel
theorem dc_139_2 : am_dc 139 2 = some (.invokevirtual 77, 5, 0) := by decide +kernel
theorem dc_139_5 : am_dc 139 5 = some (.aload_n 0, 6, 0) := by decide +kernel
theorem dc_139_6 : am_dc 139 6 = some (.iload_n 3, 7, 0) := by decide +kernel
theorem dc_139_7 : am_dc 139 7 = some (.iload_n 2, 8, 0) := by decide +kernel
theorem dc_139_8 : am_dc 139 8 = some (.invokevirtual 140, 11, 0) := by decide +kernel
theorem dc_139_11 : am_dc 139 11 = some (.aload_n 0, 12, 0) := by decide +kernel
theorem dc_139_12 : am_dc 139 12 = some (.getfield 9, 15, 0) := by decide +kernel
theorem dc_139_15 : am_dc 139 15 = some (.iload_n 3, 16, 0) := by decide +kernel
theorem dc_139_16 : am_dc 139 16 = some (.iaload, 17, 0) := by decide +kernel
theorem dc_139_17 : am_dc 139 17 = some (.i2l, 18, 0) := by decide +kernel
theorem dc_139_18 : am_dc 139 18 = some (.aload_n 0, 19, 0) := by decide +kernel
theorem dc_139_19 : am_dc 139 19 = some (.getfield 97, 22, 0) := by decide +kernel
theorem dc_139_22 : am_dc 139 22 = some (.lmul, 23, 0) := by decide +kernel
theorem dc_139_23 : am_dc 139 23 = some (.ladd, 24, 0) := by decide +kernel
theorem dc_139_24 : am_dc 139 24 = some (.aload_n 0, 25, 0) := by decide +kernel
theorem dc_139_25 : am_dc 139 25 = some (.iload_n 2, 26, 0) := by decide +kernel
theorem dc_139_26 : am_dc 139 26 = some (.invokevirtual 137, 29, 0) := by decide +kernel
theorem dc_139_29 : am_dc 139 29 = some (.aload_n 0, 30, 0) := by decide +kernel
theorem dc_139_30 : am_dc 139 30 = some (.getfield 104, 33, 0) := by decide +kernel
theorem dc_139_33 : am_dc 139 33 = some (.invokestatic 238, 36, 0) := by decide +kernel
theorem dc_139_36 : am_dc 139 36 = some (.lsub, 37, 0) := by decide +kernel
theorem dc_139_37 : am_dc 139 37 = some (.lstore 4, 39, 0) := by decide +kernel
theorem dc_139_39 : am_dc 139 39 = some (.lload 4, 41, 0) := by decide +kernel
theorem dc_139_41 : am_dc 139 41 = some (.lconst 0, 42, 0) := by decide +kernel
theorem dc_139_42 : am_dc 139 42 = some (.lcmp, 43, 0) := by decide +kernel
theorem dc_139_43 : am_dc 139 43 = some (.ifCond .le 12, 46, 55) := by decide +kernel
theorem dc_139_46 : am_dc 139 46 = some (.aload_n 0, 47, 0) := by decide +kernel
theorem dc_139_47 : am_dc 139 47 = some (.getfield 97, 50, 0) := by decide +kernel
theorem dc_139_50 : am_dc 139 50 = some (.lconst 0, 51, 0) := by decide +kernel
theorem dc_139_51 : am_dc 139 51 = some (.lcmp, 52, 0) := by decide +kernel
theorem dc_139_52 : am_dc 139 52 = some (.ifCond .gt 5, 55, 57) := by decide +kernel
theorem dc_139_55 : am_dc 139 55 = some (.iconst 0, 56, 0) := by decide +kernel
theorem dc_139_56 : am_dc 139 56 = some (.ireturn, 57, 0) := by decide +kernel
theorem dc_139_57 : am_dc 139 57 = some (.ldc2_w 241, 60, 0) := by decide +kernel
theorem dc_139_60 : am_dc 139 60 = some (.lload 4, 62, 0) := by decide +kernel
theorem dc_139_62 : am_dc 139 62 = some (.aload_n 0, 63, 0) := by decide +kernel
theorem dc_139_63 : am_dc 139 63 = some (.getfield 97, 66, 0) := by decide +kernel
theorem dc_139_66 : am_dc 139 66 = some (.ladd, 67, 0) := by decide +kernel
theorem dc_139_67 : am_dc 139 67 = some (.lconst 1, 68, 0) := by decide +kernel
theorem dc_139_68 : am_dc 139 68 = some (.lsub, 69, 0) := by decide +kernel
theorem dc_139_69 : am_dc 139 69 = some (.aload_n 0, 70, 0) := by decide +kernel
theorem dc_139_70 : am_dc 139 70 = some (.getfield 97, 73, 0) := by decide +kernel
theorem dc_139_73 : am_dc 139 73 = some (.ldiv, 74, 0) := by decide +kernel
theorem dc_139_74 : am_dc 139 74 = some (.invokestatic 243, 77, 0) := by decide +kernel
theorem dc_139_77 : am_dc 139 77 = some (.l2i, 78, 0) := by decide +kernel
theorem dc_139_78 : am_dc 139 78 = some (.ireturn, 79, 0) := by decide +kernel
theorem dc_140_0 : am_dc 140 0 = some (.aload_n 0, 1, 0) := by decide +kernel
theorem dc_140_1 : am_dc 140 1 = some (.getfield 9, 4, 0) := by decide +kernel
theorem dc_140_4 : am_dc 140 4 = some (.iload_n 1, 5, 0) := by decide +kernel
theorem dc_140_5 : am_dc 140 5 = some (.iaload, 6, 0) := by decide +kernel
theorem dc_140_6 : am_dc 140 6 = some (.iload_n 2, 7, 0) := by decide +kernel
theorem dc_140_7 : am_dc 140 7 = some (.if_icmp .eq 15, 10, 22) := by decide +kernel
theorem dc_140_10 : am_dc 140 10 = some (.aload_n 0, 11, 0) := by decide +kernel
theorem dc_140_11 : am_dc 140 11 = some (.getfield 9, 14, 0) := by decide +kernel
theorem dc_140_14 : am_dc 140 14 = some (.iload_n 1, 15, 0) := by decide +kernel
theorem dc_140_15 : am_dc 140 15 = some (.iload_n 2, 16, 0) := by decide +kernel
theorem dc_140_16 : am_dc 140 16 = some (.iastore, 17, 0) := by decide +kernel
theorem dc_140_17 : am_dc 140 17 = some (.aload_n 0, 18, 0) := by decide +kernel
theorem dc_140_18 : am_dc 140 18 = some (.iload_n 1, 19, 0) := by decide +kernel
theorem dc_140_19 : am_dc 140 19 = some (.invokevirtual 65, 22, 0) := by decide +kernel
theorem dc_140_22 : am_dc 140 22 = some (.return_, 23, 0) := by decide +kernel
theorem dc_141_0 : am_dc 141 0 = some (.aload_n 0, 1, 0) := by decide +kernel
theorem dc_141_1 : am_dc 141 1 = some (.getfield 12, 4, 0) := by decide +kernel
theorem dc_141_4 : am_dc 141 4 = some (.iload_n 1, 5, 0) := by decide +kernel
theorem dc_141_5 : am_dc 141 5 = some (.invokevirtual 94, 8, 0) := by decide +kernel
theorem dc_141_8 : am_dc 141 8 = some (.ifCond .eq 14, 11, 22) := by decide +kernel
theorem dc_141_11 : am_dc 141 11 = some (.aload_n 0, 12, 0) := by decide +kernel
theorem dc_141_12 : am_dc 141 12 = some (.getfield 41, 15, 0) := by decide +kernel
theorem dc_141_15 : am_dc 141 15 = some (.iload_n 1, 16, 0) := by decide +kernel
theorem dc_141_16 : am_dc 141 16 = some (.invokevirtual 238, 19, 0) := by decide +kernel
theorem dc_141_19 : am_dc 141 19 = some (.goto 4, 22, 23) := by decide +kernel
theorem dc_141_22 : am_dc 141 22 = some (.iconst (-1), 23, 0) := by decide +kernel
theorem dc_141_23 : am_dc 141 23 = some (.ireturn, 24, 0) := by decide +kernel
theorem dc_142_0 : am_dc 142 0 = some (.aload_n 0, 1, 0) := by decide +kernel
theorem dc_142_1 : am_dc 142 1 = some (.invokevirtual 173, 4, 0) := by decide +kernel
theorem dc_142_4 : am_dc 142 4 = some (.iconst 0, 5, 0) := by decide +kernel
theorem dc_142_5 : am_dc 142 5 = some (.istore_n 2, 6, 0) := by decide +kernel
theorem dc_142_6 : am_dc 142 6 = some (.lconst 0, 7, 0) := by decide +kernel
theorem dc_142_7 : am_dc 142 7 = some (.lstore_n 3, 8, 0) := by decide +kernel
theorem dc_142_8 : am_dc 142 8 = some (.aload_n 0, 9, 0) := by decide +kernel
theorem dc_142_9 : am_dc 142 9 = some (.getfield 32, 12, 0) := by decide +kernel
theorem dc_142_12 : am_dc 142 12 = some (.iload_n 1, 13, 0) := by decide +kernel
theorem dc_142_13 : am_dc 142 13 = some (.lconst 1, 14, 0) := by decide +kernel
theorem dc_142_14 : am_dc 142 14 = some (.lastore, 15, 0) := by decide +kernel
theorem dc_142_15 : am_dc 142 15 = some (.bipush 100, 17, 0) := by decide +kernel
theorem dc_142_17 : am_dc 142 17 = some (.istore 5, 19, 0) := by decide +kernel
theorem dc_142_19 : am_dc 142 19 = some (.iload 5, 21, 0) := by decide +kernel
theorem dc_142_21 : am_dc 142 21 = some (.sipush 900, 24, 0) := by decide +kernel
theorem dc_142_24 : am_dc 142 24 = some (.if_icmp .gt 60, 27, 84) := by decide +kernel
theorem dc_142_27 : am_dc 142 27 = some (.aload_n 0, 28, 0) := by decide +kernel
theorem dc_142_28 : am_dc 142 28 = some (.getfield 32, 31, 0) := by decide +kernel
theorem dc_142_31 : am_dc 142 31 = some (.iload_n 1, 32, 0) := by decide +kernel
theorem dc_142_32 : am_dc 142 32 = some (.laload, 33, 0) := by decide +kernel
theorem dc_142_33 : am_dc 142 33 = some (.lconst 0, 34, 0) := by decide +kernel
theorem dc_142_34 : am_dc 142 34 = some (.lcmp, 35, 0) := by decide +kernel
theorem dc_142_35 : am_dc 142 35 = some (.ifCond .le 49, 38, 84) := by decide +kernel
theorem dc_142_38 : am_dc 142 38 = some (.aload_n 0, 39, 0) := by decide +kernel
theorem dc_142_39 : am_dc 142 39 = some (.iload_n 1, 40, 0) := by decide +kernel
theorem dc_142_40 : am_dc 142 40 = some (.iload 5, 42, 0) := by decide +kernel
theorem dc_142_42 : am_dc 142 42 = some (.invokevirtual 234, 45, 0) := by decide +kernel
theorem dc_142_45 : am_dc 142 45 = some (.aload_n 0, 46, 0) := by decide +kernel
theorem dc_142_46 : am_dc 142 46 = some (.iconst 0, 47, 0) := by decide +kernel
theorem dc_142_47 : am_dc 142 47 = some (.iconst 0, 48, 0) := by decide +kernel
theorem dc_142_48 : am_dc 142 48 = some (.bipush (-4), 50, 0) := by decide +kernel
theorem dc_142_50 : am_dc 142 50 = some (.invokevirtual 212, 53, 0) := by decide +kernel
theorem dc_142_53 : am_dc 142 53 = some (.iload 5, 55, 0) := by decide +kernel
theorem dc_142_55 : am_dc 142 55 = some (.i2l, 56, 0) := by decide +kernel
theorem dc_142_56 : am_dc 142 56 = some (.aload_n 0, 57, 0) := by decide +kernel
theorem dc_142_57 : am_dc 142 57 = some (.getfield 32, 60, 0) := by decide +kernel
theorem dc_142_60 : am_dc 142 60 = some (.iload_n 1, 61, 0) := by decide +kernel
theorem dc_142_61 : am_dc 142 61 = some (.laload, 62, 0) := by decide +kernel
theorem dc_142_62 : am_dc 142 62 = some (.lmul, 63, 0) := by decide +kernel
theorem dc_142_63 : am_dc 142 63 = some (.lstore 6, 65, 0) := by decide +kernel
theorem dc_142_65 : am_dc 142 65 = some (.lload 6, 67, 0) := by decide +kernel
theorem dc_142_67 : am_dc 142 67 = some (.lload_n 3, 68, 0) := by decide +kernel
theorem dc_142_68 : am_dc 142 68 = some (.lcmp, 69, 0) := by decide +kernel
theorem dc_142_69 : am_dc 142 69 = some (.ifCond .le 9, 72, 78) := by decide +kernel
theorem dc_142_72 : am_dc 142 72 = some (.lload 6, 74, 0) := by decide +kernel
theorem dc_142_74 : am_dc 142 74 = some (.lstore_n 3, 75, 0) := by decide +kernel
theorem dc_142_75 : am_dc 142 75 = some (.iload 5, 77, 0) := by decide +kernel
theorem dc_142_77 : am_dc 142 77 = some (.istore_n 2, 78, 0) := by decide +kernel
theorem dc_142_78 : am_dc 142 78 = some (.iinc 5 100, 81, 0) := by decide +kernel
theorem dc_142_81 : am_dc 142 81 = some (.goto (-62), 84, 19) := by decide +kernel
theorem dc_142_84 : am_dc 142 84 = some (.aload_n 0, 85, 0) := by decide +kernel
theorem dc_142_85 : am_dc 142 85 = some (.iload_n 1, 86, 0) := by decide +kernel
theorem dc_142_86 : am_dc 142 86 = some (.aload_n 0, 87, 0) := by decide +kernel
theorem dc_142_87 : am_dc 142 87 = some (.getfield 38, 90, 0) := by decide +kernel
theorem dc_142_90 : am_dc 142 90 = some (.getfield 56, 93, 0) := by decide +kernel
theorem dc_142_93 : am_dc 142 93 = some (.iload_n 1, 94, 0) := by decide +kernel
theorem dc_142_94 : am_dc 142 94 = some (.aaload, 95, 0) := by decide +kernel
theorem dc_142_95 : am_dc 142 95 = some (.getfield 60, 98, 0) := by decide +kernel
theorem dc_142_98 : am_dc 142 98 = some (.invokevirtual 234, 101, 0) := by decide +kernel
theorem dc_142_101 : am_dc 142 101 = some (.iload_n 2, 102, 0) := by decide +kernel
theorem dc_142_102 : am_dc 142 102 = some (.ireturn, 103, 0) := by decide +kernel
theorem dc_143_0 : am_dc 143 0 = some (.iload_n 1, 1, 0) := by decide +kernel
theorem dc_143_1 : am_dc 143 1 = some (.invokestatic 73, 4, 0) := by decide +kernel
theorem dc_143_4 : am_dc 143 4 = some (.ifCond .eq 19, 7, 23) := by decide +kernel
theorem dc_143_7 : am_dc 143 7 = some (.aload_n 0, 8, 0) := by decide +kernel
theorem dc_143_8 : am_dc 143 8 = some (.iload_n 1, 9, 0) := by decide +kernel
theorem dc_143_9 : am_dc 143 9 = some (.invokevirtual 77, 12, 0) := by decide +kernel
theorem dc_143_12 : am_dc 143 12 = some (.ifCond .eq 11, 15, 23) := by decide +kernel
theorem dc_143_15 : am_dc 143 15 = some (.aload_n 0, 16, 0) := by decide +kernel
theorem dc_143_16 : am_dc 143 16 = some (.iload_n 1, 17, 0) := by decide +kernel
theorem dc_143_17 : am_dc 143 17 = some (.invokevirtual 241, 20, 0) := by decide +kernel
theorem dc_143_20 : am_dc 143 20 = some (.ifCond .ne 7, 23, 27) := by decide +kernel
theorem dc_143_23 : am_dc 143 23 = some (.ldc2_w 185, 26, 0) := by decide +kernel
theorem dc_143_26 : am_dc 143 26 = some (.lreturn, 27, 0) := by decide +kernel
theorem dc_143_27 : am_dc 143 27 = some (.aload_n 0, 28, 0) := by decide +kernel
theorem dc_143_28 : am_dc 143 28 = some (.getfield 48, 31, 0) := by decide +kernel
theorem dc_143_31 : am_dc 143 31 = some (.aload_n 0, 32, 0) := by decide +kernel
theorem dc_143_32 : am_dc 143 32 = some (.getfield 64, 35, 0) := by decide +kernel
theorem dc_143_35 : am_dc 143 35 = some (.iload_n 1, 36, 0) := by decide +kernel
theorem dc_143_36 : am_dc 143 36 = some (.aaload, 37, 0) := by decide +kernel
theorem dc_143_37 : am_dc 143 37 = some (.aload_n 0, 38, 0) := by decide +kernel
theorem dc_143_38 : am_dc 143 38 = some (.getfield 70, 41, 0) := by decide +kernel
theorem dc_143_41 : am_dc 143 41 = some (.iload_n 1, 42, 0) := by decide +kernel
theorem dc_143_42 : am_dc 143 42 = some (.iaload, 43, 0) := by decide +kernel
theorem dc_143_43 : am_dc 143 43 = some (.invokevirtual 244, 46, 0) := by decide +kernel
theorem dc_143_46 : am_dc 143 46 = some (.lreturn, 47, 0) := by decide +kernel
theorem dc_144_0 : am_dc 144 0 = some (.iconst 0, 1, 0) := by decide +kernel
theorem dc_144_1 : am_dc 144 1 = some (.istore_n 2, 2, 0) := by decide +kernel
theorem dc_144_2 : am_dc 144 2 = some (.iconst 0, 3, 0) := by decide +kernel
theorem dc_144_3 : am_dc 144 3 = some (.istore_n 3, 4, 0) := by decide +kernel
theorem dc_144_4 : am_dc 144 4 = some (.iload_n 3, 5, 0) := by decide +kernel
theorem dc_144_5 : am_dc 144 5 = some (.aload_n 0, 6, 0) := by decide +kernel
theorem dc_144_6 : am_dc 144 6 = some (.getfield 70, 9, 0) := by decide +kernel
theorem dc_144_9 : am_dc 144 9 = some (.iload_n 1, 10, 0) := by decide +kernel
theorem dc_144_10 : am_dc 144 10 = some (.iaload, 11, 0) := by decide +kernel
theorem dc_144_11 : am_dc 144 11 = some (.if_icmp .ge 49, 14, 60) := by decide +kernel
theorem dc_144_14 : am_dc 144 14 = some (.aload_n 0, 15, 0) := by decide +kernel
theorem dc_144_15 : am_dc 144 15 = some (.getfield 64, 18, 0) := by decide +kernel
theorem dc_144_18 : am_dc 144 18 = some (.iload_n 1, 19, 0) := by decide +kernel
theorem dc_144_19 : am_dc 144 19 = some (.aaload, 20, 0) := by decide +kernel
theorem dc_144_20 : am_dc 144 20 = some (.iload_n 3, 21, 0) := by decide +kernel
theorem dc_144_21 : am_dc 144 21 = some (.iaload, 22, 0) := by decide +kernel
theorem dc_144_22 : am_dc 144 22 = some (.istore 4, 24, 0) := by decide +kernel
theorem dc_144_24 : am_dc 144 24 = some (.aload_n 0, 25, 0) := by decide +kernel
theorem dc_144_25 : am_dc 144 25 = some (.getfield 12, 28, 0) := by decide +kernel
theorem dc_144_28 : am_dc 144 28 = some (.iload 4, 30, 0) := by decide +kernel
theorem dc_144_30 : am_dc 144 30 = some (.invokevirtual 94, 33, 0) := by decide +kernel
theorem dc_144_33 : am_dc 144 33 = some (.ifCond .eq 12, 36, 45) := by decide +kernel
theorem dc_144_36 : am_dc 144 36 = some (.iload_n 2, 37, 0) := by decide +kernel
theorem dc_144_37 : am_dc 144 37 = some (.iconst 1, 38, 0) := by decide +kernel
theorem dc_144_38 : am_dc 144 38 = some (.iload 4, 40, 0) := by decide +kernel
theorem dc_144_40 : am_dc 144 40 = some (.ishl, 41, 0) := by decide +kernel
theorem dc_144_41 : am_dc 144 41 = some (.iand, 42, 0) := by decide +kernel
theorem dc_144_42 : am_dc 144 42 = some (.ifCond .eq 5, 45, 47) := by decide +kernel
theorem dc_144_45 : am_dc 144 45 = some (.iconst 0, 46, 0) := by decide +kernel
theorem dc_144_46 : am_dc 144 46 = some (.ireturn, 47, 0) := by decide +kernel
theorem dc_144_47 : am_dc 144 47 = some (.iload_n 2, 48, 0) := by decide +kernel
theorem dc_144_48 : am_dc 144 48 = some (.iconst 1, 49, 0) := by decide +kernel
theorem dc_144_49 : am_dc 144 49 = some (.iload 4, 51, 0) := by decide +kernel
theorem dc_144_51 : am_dc 144 51 = some (.ishl, 52, 0) := by decide +kernel
theorem dc_144_52 : am_dc 144 52 = some (.ior, 53, 0) := by decide +kernel
theorem dc_144_53 : am_dc 144 53 = some (.istore_n 2, 54, 0) := by decide +kernel
theorem dc_144_54 : am_dc 144 54 = some (.iinc 3 1, 57, 0) := by decide +kernel
theorem dc_144_57 : am_dc 144 57 = some (.goto (-53), 60, 4) := by decide +kernel
theorem dc_144_60 : am_dc 144 60 = some (.iconst 1, 61, 0) := by decide +kernel
theorem dc_144_61 : am_dc 144 61 = some (.ireturn, 62, 0) := by decide +kernel
theorem dc_145_0 : am_dc 145 0 = some (.aload_n 0, 1, 0) := by decide +kernel
theorem dc_145_1 : am_dc 145 1 = some (.invokevirtual 26, 4, 0) := by decide +kernel
theorem dc_145_4 : am_dc 145 4 = some (.iconst 0, 5, 0) := by decide +kernel
