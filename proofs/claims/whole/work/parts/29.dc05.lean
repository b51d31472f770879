/-! the instructions of the methods -/
theorem dc_179_13 : am_dc 179 13 = some (.invokespecial 43, 16, 0) := by decide +kernel
theorem dc_179_16 : am_dc 179 16 = some (.athrow, 17, 0) := by decide +kernel
theorem dc_179_17 : am_dc 179 17 = some (.return_, 18, 0) := by decide +kernel
theorem dc_180_0 : am_dc 180 0 = some (.iconst 0, 1, 0) := by decide +kernel
theorem dc_180_1 : am_dc 180 1 = some (.ireturn, 2, 0) := by decide +kernel
theorem dc_181_0 : am_dc 181 0 = some (.aload_n 0, 1, 0) := by decide +kernel
theorem dc_181_1 : am_dc 181 1 = some (.invokevirtual 31, 4, 0) := by decide +kernel
theorem dc_181_4 : am_dc 181 4 = some (.iconst 1, 5, 0) := by decide +kernel
theorem dc_181_5 : am_dc 181 5 = some (.if_icmp .le 7, 8, 12) := by decide +kernel
theorem dc_181_8 : am_dc 181 8 = some (.iconst 1, 9, 0) := by decide +kernel
theorem dc_181_9 : am_dc 181 9 = some (.goto 4, 12, 13) := by decide +kernel
theorem dc_181_12 : am_dc 181 12 = some (.iconst 0, 13, 0) := by decide +kernel
theorem dc_181_13 : am_dc 181 13 = some (.ireturn, 14, 0) := by decide +kernel
theorem dc_182_0 : am_dc 182 0 = some (.aload_n 0, 1, 0) := by decide +kernel
theorem dc_182_1 : am_dc 182 1 = some (.invokespecial 36, 4, 0) := by decide +kernel
theorem dc_182_4 : am_dc 182 4 = some (.bipush 100, 6, 0) := by decide +kernel
theorem dc_182_6 : am_dc 182 6 = some (.iadd, 7, 0) := by decide +kernel
theorem dc_182_7 : am_dc 182 7 = some (.ireturn, 8, 0) := by decide +kernel
theorem dc_183_0 : am_dc 183 0 = some (.aload_n 0, 1, 0) := by decide +kernel
theorem dc_183_1 : am_dc 183 1 = some (.getfield 7, 4, 0) := by decide +kernel
theorem dc_183_4 : am_dc 183 4 = some (.ireturn, 5, 0) := by decide +kernel
theorem dc_184_0 : am_dc 184 0 = some (.aload_n 0, 1, 0) := by decide +kernel
theorem dc_184_1 : am_dc 184 1 = some (.getfield 9, 4, 0) := by decide +kernel
theorem dc_184_4 : am_dc 184 4 = some (.ireturn, 5, 0) := by decide +kernel
theorem dc_185_0 : am_dc 185 0 = some (.aload_n 3, 1, 0) := by decide +kernel
theorem dc_185_1 : am_dc 185 1 = some (.iconst 0, 2, 0) := by decide +kernel
theorem dc_185_2 : am_dc 185 2 = some (.aload_n 0, 3, 0) := by decide +kernel
theorem dc_185_3 : am_dc 185 3 = some (.iload_n 1, 4, 0) := by decide +kernel
theorem dc_185_4 : am_dc 185 4 = some (.iload_n 2, 5, 0) := by decide +kernel
theorem dc_185_5 : am_dc 185 5 = some (.invokevirtual 7, 8, 0) := by decide +kernel
theorem dc_185_8 : am_dc 185 8 = some (.lastore, 9, 0) := by decide +kernel
theorem dc_185_9 : am_dc 185 9 = some (.goto 7, 12, 16) := by decide +kernel
theorem dc_185_12 : am_dc 185 12 = some (.astore 4, 14, 0) := by decide +kernel
theorem dc_185_14 : am_dc 185 14 = some (.iconst 1, 15, 0) := by decide +kernel
theorem dc_185_15 : am_dc 185 15 = some (.ireturn, 16, 0) := by decide +kernel
theorem dc_185_16 : am_dc 185 16 = some (.iconst 0, 17, 0) := by decide +kernel
theorem dc_185_17 : am_dc 185 17 = some (.ireturn, 18, 0) := by decide +kernel
theorem dc_186_0 : am_dc 186 0 = some (.iload_n 1, 1, 0) := by decide +kernel
theorem dc_186_1 : am_dc 186 1 = some (.ifCond .lt 8, 4, 9) := by decide +kernel
theorem dc_186_4 : am_dc 186 4 = some (.iload_n 1, 5, 0) := by decide +kernel
theorem dc_186_5 : am_dc 186 5 = some (.iconst 1, 6, 0) := by decide +kernel
theorem dc_186_6 : am_dc 186 6 = some (.if_icmp .le 13, 9, 19) := by decide +kernel
theorem dc_186_9 : am_dc 186 9 = some (.new 251, 12, 0) := by decide +kernel
theorem dc_186_12 : am_dc 186 12 = some (.dup, 13, 0) := by decide +kernel
theorem dc_186_13 : am_dc 186 13 = some (.ldc 253, 15, 0) := by decide +kernel
theorem dc_186_15 : am_dc 186 15 = some (.invokespecial 255, 18, 0) := by decide +kernel
theorem dc_186_18 : am_dc 186 18 = some (.athrow, 19, 0) := by decide +kernel
theorem dc_186_19 : am_dc 186 19 = some (.aload_n 0, 20, 0) := by decide +kernel
theorem dc_186_20 : am_dc 186 20 = some (.getfield 41, 23, 0) := by decide +kernel
theorem dc_186_23 : am_dc 186 23 = some (.iload_n 1, 24, 0) := by decide +kernel
theorem dc_186_24 : am_dc 186 24 = some (.iconst 1, 25, 0) := by decide +kernel
theorem dc_186_25 : am_dc 186 25 = some (.if_icmp .ne 7, 28, 32) := by decide +kernel
theorem dc_186_28 : am_dc 186 28 = some (.iconst 1, 29, 0) := by decide +kernel
theorem dc_186_29 : am_dc 186 29 = some (.goto 4, 32, 33) := by decide +kernel
theorem dc_186_32 : am_dc 186 32 = some (.iconst 0, 33, 0) := by decide +kernel
theorem dc_186_33 : am_dc 186 33 = some (.iload_n 2, 34, 0) := by decide +kernel
theorem dc_186_34 : am_dc 186 34 = some (.invokevirtual 258, 37, 0) := by decide +kernel
theorem dc_186_37 : am_dc 186 37 = some (.lreturn, 38, 0) := by decide +kernel
theorem dc_187_0 : am_dc 187 0 = some (.iload_n 1, 1, 0) := by decide +kernel
theorem dc_187_1 : am_dc 187 1 = some (.ifCond .ne 7, 4, 8) := by decide +kernel
theorem dc_187_4 : am_dc 187 4 = some (.aload_n 0, 5, 0) := by decide +kernel
theorem dc_187_5 : am_dc 187 5 = some (.invokevirtual 173, 8, 0) := by decide +kernel
theorem dc_187_8 : am_dc 187 8 = some (.iload_n 2, 9, 0) := by decide +kernel
theorem dc_187_9 : am_dc 187 9 = some (.istore_n 3, 10, 0) := by decide +kernel
theorem dc_187_10 : am_dc 187 10 = some (.iconst 0, 11, 0) := by decide +kernel
theorem dc_187_11 : am_dc 187 11 = some (.istore 4, 13, 0) := by decide +kernel
theorem dc_187_13 : am_dc 187 13 = some (.iconst 0, 14, 0) := by decide +kernel
theorem dc_187_14 : am_dc 187 14 = some (.istore 5, 16, 0) := by decide +kernel
theorem dc_187_16 : am_dc 187 16 = some (.lconst 0, 17, 0) := by decide +kernel
theorem dc_187_17 : am_dc 187 17 = some (.lstore 6, 19, 0) := by decide +kernel
theorem dc_187_19 : am_dc 187 19 = some (.iconst 0, 20, 0) := by decide +kernel
theorem dc_187_20 : am_dc 187 20 = some (.istore 8, 22, 0) := by decide +kernel
theorem dc_187_22 : am_dc 187 22 = some (.iload 8, 24, 0) := by decide +kernel
theorem dc_187_24 : am_dc 187 24 = some (.bipush 10, 26, 0) := by decide +kernel
theorem dc_187_26 : am_dc 187 26 = some (.if_icmp .gt 221, 29, 247) := by decide +kernel
theorem dc_187_29 : am_dc 187 29 = some (.iload_n 1, 30, 0) := by decide +kernel
theorem dc_187_30 : am_dc 187 30 = some (.ifCond .eq 14, 33, 44) := by decide +kernel
theorem dc_187_33 : am_dc 187 33 = some (.aload_n 0, 34, 0) := by decide +kernel
theorem dc_187_34 : am_dc 187 34 = some (.iload 4, 36, 0) := by decide +kernel
theorem dc_187_36 : am_dc 187 36 = some (.iload 5, 38, 0) := by decide +kernel
theorem dc_187_38 : am_dc 187 38 = some (.invokevirtual 245, 41, 0) := by decide +kernel
theorem dc_187_41 : am_dc 187 41 = some (.goto 19, 44, 60) := by decide +kernel
theorem dc_187_44 : am_dc 187 44 = some (.aload_n 0, 45, 0) := by decide +kernel
theorem dc_187_45 : am_dc 187 45 = some (.getfield 19, 48, 0) := by decide +kernel
theorem dc_187_48 : am_dc 187 48 = some (.aload_n 0, 49, 0) := by decide +kernel
theorem dc_187_49 : am_dc 187 49 = some (.getfield 38, 52, 0) := by decide +kernel
theorem dc_187_52 : am_dc 187 52 = some (.iload 4, 54, 0) := by decide +kernel
theorem dc_187_54 : am_dc 187 54 = some (.iload 5, 56, 0) := by decide +kernel
theorem dc_187_56 : am_dc 187 56 = some (.invokevirtual 150, 59, 0) := by decide +kernel
theorem dc_187_59 : am_dc 187 59 = some (.iaload, 60, 0) := by decide +kernel
theorem dc_187_60 : am_dc 187 60 = some (.istore 9, 62, 0) := by decide +kernel
theorem dc_187_62 : am_dc 187 62 = some (.iload 9, 64, 0) := by decide +kernel
theorem dc_187_64 : am_dc 187 64 = some (.ifCond .ne 18, 67, 82) := by decide +kernel
theorem dc_187_67 : am_dc 187 67 = some (.aload_n 0, 68, 0) := by decide +kernel
theorem dc_187_68 : am_dc 187 68 = some (.getfield 38, 71, 0) := by decide +kernel
theorem dc_187_71 : am_dc 187 71 = some (.getfield 157, 74, 0) := by decide +kernel
theorem dc_187_74 : am_dc 187 74 = some (.iload 5, 76, 0) := by decide +kernel
theorem dc_187_76 : am_dc 187 76 = some (.iaload, 77, 0) := by decide +kernel
theorem dc_187_77 : am_dc 187 77 = some (.i2l, 78, 0) := by decide +kernel
theorem dc_187_78 : am_dc 187 78 = some (.lload 6, 80, 0) := by decide +kernel
theorem dc_187_80 : am_dc 187 80 = some (.lsub, 81, 0) := by decide +kernel
theorem dc_187_81 : am_dc 187 81 = some (.lreturn, 82, 0) := by decide +kernel
theorem dc_187_82 : am_dc 187 82 = some (.iload_n 3, 83, 0) := by decide +kernel
theorem dc_187_83 : am_dc 187 83 = some (.ldc 248, 85, 0) := by decide +kernel
theorem dc_187_85 : am_dc 187 85 = some (.imul, 86, 0) := by decide +kernel
theorem dc_187_86 : am_dc 187 86 = some (.sipush 12345, 89, 0) := by decide +kernel
theorem dc_187_89 : am_dc 187 89 = some (.iadd, 90, 0) := by decide +kernel
theorem dc_187_90 : am_dc 187 90 = some (.istore_n 3, 91, 0) := by decide +kernel
theorem dc_187_91 : am_dc 187 91 = some (.iload 9, 93, 0) := by decide +kernel
theorem dc_187_93 : am_dc 187 93 = some (.bipush 10, 95, 0) := by decide +kernel
theorem dc_187_95 : am_dc 187 95 = some (.irem, 96, 0) := by decide +kernel
theorem dc_187_96 : am_dc 187 96 = some (.istore 10, 98, 0) := by decide +kernel
theorem dc_187_98 : am_dc 187 98 = some (.aload_n 0, 99, 0) := by decide +kernel
theorem dc_187_99 : am_dc 187 99 = some (.iload 4, 101, 0) := by decide +kernel
theorem dc_187_101 : am_dc 187 101 = some (.iload 10, 103, 0) := by decide +kernel
theorem dc_187_103 : am_dc 187 103 = some (.iload_n 3, 104, 0) := by decide +kernel
theorem dc_187_104 : am_dc 187 104 = some (.invokevirtual 249, 107, 0) := by decide +kernel
theorem dc_187_107 : am_dc 187 107 = some (.istore 11, 109, 0) := by decide +kernel
theorem dc_187_109 : am_dc 187 109 = some (.iload 9, 111, 0) := by decide +kernel
theorem dc_187_111 : am_dc 187 111 = some (.bipush 30, 113, 0) := by decide +kernel
theorem dc_187_113 : am_dc 187 113 = some (.if_icmp .lt 24, 116, 137) := by decide +kernel
theorem dc_187_116 : am_dc 187 116 = some (.aload_n 0, 117, 0) := by decide +kernel
theorem dc_187_117 : am_dc 187 117 = some (.getfield 38, 120, 0) := by decide +kernel
theorem dc_187_120 : am_dc 187 120 = some (.getfield 56, 123, 0) := by decide +kernel
theorem dc_187_123 : am_dc 187 123 = some (.iload 10, 125, 0) := by decide +kernel
theorem dc_187_125 : am_dc 187 125 = some (.aaload, 126, 0) := by decide +kernel
theorem dc_187_126 : am_dc 187 126 = some (.getfield 160, 129, 0) := by decide +kernel
theorem dc_187_129 : am_dc 187 129 = some (.iload 11, 131, 0) := by decide +kernel
theorem dc_187_131 : am_dc 187 131 = some (.iaload, 132, 0) := by decide +kernel
theorem dc_187_132 : am_dc 187 132 = some (.i2l, 133, 0) := by decide +kernel
theorem dc_187_133 : am_dc 187 133 = some (.lload 6, 135, 0) := by decide +kernel
theorem dc_187_135 : am_dc 187 135 = some (.lsub, 136, 0) := by decide +kernel
theorem dc_187_136 : am_dc 187 136 = some (.lreturn, 137, 0) := by decide +kernel
theorem dc_187_137 : am_dc 187 137 = some (.iload 9, 139, 0) := by decide +kernel
theorem dc_187_139 : am_dc 187 139 = some (.bipush 20, 141, 0) := by decide +kernel
theorem dc_187_141 : am_dc 187 141 = some (.if_icmp .lt 48, 144, 189) := by decide +kernel
theorem dc_187_144 : am_dc 187 144 = some (.lload 6, 146, 0) := by decide +kernel
theorem dc_187_146 : am_dc 187 146 = some (.aload_n 0, 147, 0) := by decide +kernel
theorem dc_187_147 : am_dc 187 147 = some (.getfield 38, 150, 0) := by decide +kernel
theorem dc_187_150 : am_dc 187 150 = some (.getfield 56, 153, 0) := by decide +kernel
theorem dc_187_153 : am_dc 187 153 = some (.iload 10, 155, 0) := by decide +kernel
theorem dc_187_155 : am_dc 187 155 = some (.aaload, 156, 0) := by decide +kernel
theorem dc_187_156 : am_dc 187 156 = some (.invokevirtual 170, 159, 0) := by decide +kernel
theorem dc_187_159 : am_dc 187 159 = some (.i2l, 160, 0) := by decide +kernel
theorem dc_187_160 : am_dc 187 160 = some (.ladd, 161, 0) := by decide +kernel
theorem dc_187_161 : am_dc 187 161 = some (.lstore 6, 163, 0) := by decide +kernel
theorem dc_187_163 : am_dc 187 163 = some (.aload_n 0, 164, 0) := by decide +kernel
theorem dc_187_164 : am_dc 187 164 = some (.getfield 38, 167, 0) := by decide +kernel
theorem dc_187_167 : am_dc 187 167 = some (.iload 4, 169, 0) := by decide +kernel
theorem dc_187_169 : am_dc 187 169 = some (.iload 10, 171, 0) := by decide +kernel
theorem dc_187_171 : am_dc 187 171 = some (.iload 11, 173, 0) := by decide +kernel
theorem dc_187_173 : am_dc 187 173 = some (.ifCond .ne 7, 176, 180) := by decide +kernel
theorem dc_187_176 : am_dc 187 176 = some (.iconst 1, 177, 0) := by decide +kernel
theorem dc_187_177 : am_dc 187 177 = some (.goto 4, 180, 181) := by decide +kernel
theorem dc_187_180 : am_dc 187 180 = some (.iconst 0, 181, 0) := by decide +kernel
theorem dc_187_181 : am_dc 187 181 = some (.invokevirtual 166, 184, 0) := by decide +kernel
theorem dc_187_184 : am_dc 187 184 = some (.istore 4, 186, 0) := by decide +kernel
theorem dc_187_186 : am_dc 187 186 = some (.goto 55, 189, 241) := by decide +kernel
theorem dc_187_189 : am_dc 187 189 = some (.lload 6, 191, 0) := by decide +kernel
theorem dc_187_191 : am_dc 187 191 = some (.aload_n 0, 192, 0) := by decide +kernel
theorem dc_187_192 : am_dc 187 192 = some (.getfield 38, 195, 0) := by decide +kernel
theorem dc_187_195 : am_dc 187 195 = some (.getfield 56, 198, 0) := by decide +kernel
theorem dc_187_198 : am_dc 187 198 = some (.iload 10, 200, 0) := by decide +kernel
theorem dc_187_200 : am_dc 187 200 = some (.aaload, 201, 0) := by decide +kernel
theorem dc_187_201 : am_dc 187 201 = some (.getfield 60, 204, 0) := by decide +kernel
theorem dc_187_204 : am_dc 187 204 = some (.i2l, 205, 0) := by decide +kernel
theorem dc_187_205 : am_dc 187 205 = some (.ladd, 206, 0) := by decide +kernel
theorem dc_187_206 : am_dc 187 206 = some (.lstore 6, 208, 0) := by decide +kernel
theorem dc_187_208 : am_dc 187 208 = some (.iload 5, 210, 0) := by decide +kernel
theorem dc_187_210 : am_dc 187 210 = some (.aload_n 0, 211, 0) := by decide +kernel
theorem dc_187_211 : am_dc 187 211 = some (.getfield 38, 214, 0) := by decide +kernel
theorem dc_187_214 : am_dc 187 214 = some (.iload 10, 216, 0) := by decide +kernel
theorem dc_187_216 : am_dc 187 216 = some (.iload 11, 218, 0) := by decide +kernel
theorem dc_187_218 : am_dc 187 218 = some (.invokevirtual 195, 221, 0) := by decide +kernel
theorem dc_187_221 : am_dc 187 221 = some (.invokestatic 198, 224, 0) := by decide +kernel
theorem dc_187_224 : am_dc 187 224 = some (.istore 5, 226, 0) := by decide +kernel
theorem dc_187_226 : am_dc 187 226 = some (.aload_n 0, 227, 0) := by decide +kernel
theorem dc_187_227 : am_dc 187 227 = some (.getfield 38, 230, 0) := by decide +kernel
theorem dc_187_230 : am_dc 187 230 = some (.iload 4, 232, 0) := by decide +kernel
theorem dc_187_232 : am_dc 187 232 = some (.iload 10, 234, 0) := by decide +kernel
theorem dc_187_234 : am_dc 187 234 = some (.iload 11, 236, 0) := by decide +kernel
theorem dc_187_236 : am_dc 187 236 = some (.invokevirtual 124, 239, 0) := by decide +kernel
theorem dc_187_239 : am_dc 187 239 = some (.istore 4, 241, 0) := by decide +kernel
theorem dc_187_241 : am_dc 187 241 = some (.iinc 8 1, 244, 0) := by decide +kernel
theorem dc_187_244 : am_dc 187 244 = some (.goto (-222), 247, 22) := by decide +kernel
theorem dc_187_247 : am_dc 187 247 = some (.aload_n 0, 248, 0) := by decide +kernel
theorem dc_187_248 : am_dc 187 248 = some (.getfield 38, 251, 0) := by decide +kernel
theorem dc_187_251 : am_dc 187 251 = some (.getfield 157, 254, 0) := by decide +kernel
theorem dc_187_254 : am_dc 187 254 = some (.iload 5, 256, 0) := by decide +kernel
theorem dc_187_256 : am_dc 187 256 = some (.iaload, 257, 0) := by decide +kernel
theorem dc_187_257 : am_dc 187 257 = some (.i2l, 258, 0) := by decide +kernel
theorem dc_187_258 : am_dc 187 258 = some (.lload 6, 260, 0) := by decide +kernel
theorem dc_187_260 : am_dc 187 260 = some (.lsub, 261, 0) := by decide +kernel
theorem dc_187_261 : am_dc 187 261 = some (.lreturn, 262, 0) := by decide +kernel
theorem dc_188_0 : am_dc 188 0 = some (.aload_n 0, 1, 0) := by decide +kernel
theorem dc_188_1 : am_dc 188 1 = some (.iload_n 1, 2, 0) := by decide +kernel
theorem dc_188_2 : am_dc 188 2 = some (.iload_n 2, 3, 0) := by decide +kernel
theorem dc_188_3 : am_dc 188 3 = some (.invokevirtual 192, 6, 0) := by decide +kernel
theorem dc_188_6 : am_dc 188 6 = some (.istore_n 3, 7, 0) := by decide +kernel
theorem dc_188_7 : am_dc 188 7 = some (.iload_n 3, 8, 0) := by decide +kernel
theorem dc_188_8 : am_dc 188 8 = some (.ifCond .ge 7, 11, 15) := by decide +kernel
theorem dc_188_11 : am_dc 188 11 = some (.iconst 0, 12, 0) := by decide +kernel
theorem dc_188_12 : am_dc 188 12 = some (.goto 7, 15, 19) := by decide +kernel
theorem dc_188_15 : am_dc 188 15 = some (.bipush 10, 17, 0) := by decide +kernel
theorem dc_188_17 : am_dc 188 17 = some (.iload_n 3, 18, 0) := by decide +kernel
theorem dc_188_18 : am_dc 188 18 = some (.iadd, 19, 0) := by decide +kernel
theorem dc_188_19 : am_dc 188 19 = some (.ireturn, 20, 0) := by decide +kernel
theorem dc_189_0 : am_dc 189 0 = some (.aload_n 0, 1, 0) := by decide +kernel
theorem dc_189_1 : am_dc 189 1 = some (.getfield 38, 4, 0) := by decide +kernel
theorem dc_189_4 : am_dc 189 4 = some (.getfield 56, 7, 0) := by decide +kernel
theorem dc_189_7 : am_dc 189 7 = some (.iload_n 2, 8, 0) := by decide +kernel
theorem dc_189_8 : am_dc 189 8 = some (.aaload, 9, 0) := by decide +kernel
theorem dc_189_9 : am_dc 189 9 = some (.invokevirtual 117, 12, 0) := by decide +kernel
theorem dc_189_12 : am_dc 189 12 = some (.iconst 1, 13, 0) := by decide +kernel
theorem dc_189_13 : am_dc 189 13 = some (.isub, 14, 0) := by decide +kernel
theorem dc_189_14 : am_dc 189 14 = some (.istore 4, 16, 0) := by decide +kernel
theorem dc_189_16 : am_dc 189 16 = some (.aload_n 0, 17, 0) := by decide +kernel
theorem dc_189_17 : am_dc 189 17 = some (.getfield 38, 20, 0) := by decide +kernel
theorem dc_189_20 : am_dc 189 20 = some (.iload_n 1, 21, 0) := by decide +kernel
theorem dc_189_21 : am_dc 189 21 = some (.iload_n 2, 22, 0) := by decide +kernel
theorem dc_189_22 : am_dc 189 22 = some (.invokevirtual 252, 25, 0) := by decide +kernel
theorem dc_189_25 : am_dc 189 25 = some (.istore 5, 27, 0) := by decide +kernel
theorem dc_189_27 : am_dc 189 27 = some (.iload 5, 29, 0) := by decide +kernel
theorem dc_189_29 : am_dc 189 29 = some (.ifCond .le 17, 32, 46) := by decide +kernel
theorem dc_189_32 : am_dc 189 32 = some (.iload_n 3, 33, 0) := by decide +kernel
theorem dc_189_33 : am_dc 189 33 = some (.ldc 255, 35, 0) := by decide +kernel
theorem dc_189_35 : am_dc 189 35 = some (.iand, 36, 0) := by decide +kernel
theorem dc_189_36 : am_dc 189 36 = some (.ldc_w 256, 39, 0) := by decide +kernel
theorem dc_189_39 : am_dc 189 39 = some (.idiv, 40, 0) := by decide +kernel
theorem dc_189_40 : am_dc 189 40 = some (.iload 5, 42, 0) := by decide +kernel
theorem dc_189_42 : am_dc 189 42 = some (.irem, 43, 0) := by decide +kernel
theorem dc_189_43 : am_dc 189 43 = some (.goto 4, 46, 47) := by decide +kernel
theorem dc_189_46 : am_dc 189 46 = some (.iconst 0, 47, 0) := by decide +kernel
theorem dc_189_47 : am_dc 189 47 = some (.istore 6, 49, 0) := by decide +kernel
theorem dc_189_49 : am_dc 189 49 = some (.iconst 0, 50, 0) := by decide +kernel
theorem dc_189_50 : am_dc 189 50 = some (.istore 7, 52, 0) := by decide +kernel
theorem dc_189_52 : am_dc 189 52 = some (.iconst 0, 53, 0) := by decide +kernel
theorem dc_189_53 : am_dc 189 53 = some (.istore 8, 55, 0) := by decide +kernel
theorem dc_189_55 : am_dc 189 55 = some (.iload 8, 57, 0) := by decide +kernel
theorem dc_189_57 : am_dc 189 57 = some (.iload 4, 59, 0) := by decide +kernel
theorem dc_189_59 : am_dc 189 59 = some (.if_icmp .ge 35, 62, 94) := by decide +kernel
theorem dc_189_62 : am_dc 189 62 = some (.iload 7, 64, 0) := by decide +kernel
theorem dc_189_64 : am_dc 189 64 = some (.aload_n 0, 65, 0) := by decide +kernel
theorem dc_189_65 : am_dc 189 65 = some (.getfield 38, 68, 0) := by decide +kernel
theorem dc_189_68 : am_dc 189 68 = some (.iload_n 1, 69, 0) := by decide +kernel
theorem dc_189_69 : am_dc 189 69 = some (.iload_n 2, 70, 0) := by decide +kernel
theorem dc_189_70 : am_dc 189 70 = some (.iload 8, 72, 0) := by decide +kernel
theorem dc_189_72 : am_dc 189 72 = some (.invokevirtual 120, 75, 0) := by decide +kernel
theorem dc_189_75 : am_dc 189 75 = some (.iadd, 76, 0) := by decide +kernel
theorem dc_189_76 : am_dc 189 76 = some (.istore 7, 78, 0) := by decide +kernel
theorem dc_189_78 : am_dc 189 78 = some (.iload 6, 80, 0) := by decide +kernel
theorem dc_189_80 : am_dc 189 80 = some (.iload 7, 82, 0) := by decide +kernel
theorem dc_189_82 : am_dc 189 82 = some (.if_icmp .ge 6, 85, 88) := by decide +kernel
theorem dc_189_85 : am_dc 189 85 = some (.iload 8, 87, 0) := by decide +kernel
theorem dc_189_87 : am_dc 189 87 = some (.ireturn, 88, 0) := by decide +kernel
theorem dc_189_88 : am_dc 189 88 = some (.iinc 8 1, 91, 0) := by decide +kernel
theorem dc_189_91 : am_dc 189 91 = some (.goto (-36), 94, 55) := by decide +kernel
theorem dc_189_94 : am_dc 189 94 = some (.iload 4, 96, 0) := by decide +kernel
theorem dc_189_96 : am_dc 189 96 = some (.ireturn, 97, 0) := by decide +kernel
theorem dc_190_0 : am_dc 190 0 = some (.aload_n 3, 1, 0) := by decide +kernel
theorem dc_190_1 : am_dc 190 1 = some (.iconst 0, 2, 0) := by decide +kernel
theorem dc_190_2 : am_dc 190 2 = some (.aload_n 0, 3, 0) := by decide +kernel
theorem dc_190_3 : am_dc 190 3 = some (.iload_n 1, 4, 0) := by decide +kernel
theorem dc_190_4 : am_dc 190 4 = some (.iload_n 2, 5, 0) := by decide +kernel
theorem dc_190_5 : am_dc 190 5 = some (.invokevirtual 15, 8, 0) := by decide +kernel
theorem dc_190_8 : am_dc 190 8 = some (.lastore, 9, 0) := by decide +kernel
theorem dc_190_9 : am_dc 190 9 = some (.goto 11, 12, 20) := by decide +kernel
theorem dc_190_12 : am_dc 190 12 = some (.astore 4, 14, 0) := by decide +kernel
theorem dc_190_14 : am_dc 190 14 = some (.iconst 1, 15, 0) := by decide +kernel
theorem dc_190_15 : am_dc 190 15 = some (.ireturn, 16, 0) := by decide +kernel
theorem dc_190_16 : am_dc 190 16 = some (.astore 4, 18, 0) := by decide +kernel
theorem dc_190_18 : am_dc 190 18 = some (.iconst 2, 19, 0) := by decide +kernel
theorem dc_190_19 : am_dc 190 19 = some (.ireturn, 20, 0) := by decide +kernel
theorem dc_190_20 : am_dc 190 20 = some (.iconst 0, 21, 0) := by decide +kernel
theorem dc_190_21 : am_dc 190 21 = some (.ireturn, 22, 0) := by decide +kernel
theorem dc_191_0 : am_dc 191 0 = some (.iload_n 1, 1, 0) := by decide +kernel
theorem dc_191_1 : am_dc 191 1 = some (.invokestatic 73, 4, 0) := by decide +kernel
theorem dc_191_4 : am_dc 191 4 = some (.ifCond .ne 14, 7, 18) := by decide +kernel
theorem dc_191_7 : am_dc 191 7 = some (.new 251, 10, 0) := by decide +kernel
theorem dc_191_10 : am_dc 191 10 = some (.dup, 11, 0) := by decide +kernel
theorem dc_191_11 : am_dc 191 11 = some (.ldc_w 290, 14, 0) := by decide +kernel
theorem dc_191_14 : am_dc 191 14 = some (.invokespecial 255, 17, 0) := by decide +kernel
theorem dc_191_17 : am_dc 191 17 = some (.athrow, 18, 0) := by decide +kernel
theorem dc_191_18 : am_dc 191 18 = some (.aload_n 0, 19, 0) := by decide +kernel
theorem dc_191_19 : am_dc 191 19 = some (.getfield 52, 22, 0) := by decide +kernel
theorem dc_191_22 : am_dc 191 22 = some (.iload_n 1, 23, 0) := by decide +kernel
theorem dc_191_23 : am_dc 191 23 = some (.iaload, 24, 0) := by decide +kernel
theorem dc_191_24 : am_dc 191 24 = some (.iconst 2, 25, 0) := by decide +kernel
theorem dc_191_25 : am_dc 191 25 = some (.if_icmp .ne 17, 28, 42) := by decide +kernel
theorem dc_191_28 : am_dc 191 28 = some (.iload_n 2, 29, 0) := by decide +kernel
theorem dc_191_29 : am_dc 191 29 = some (.ifCond .lt 13, 32, 42) := by decide +kernel
theorem dc_191_32 : am_dc 191 32 = some (.iload_n 2, 33, 0) := by decide +kernel
theorem dc_191_33 : am_dc 191 33 = some (.aload_n 0, 34, 0) := by decide +kernel
theorem dc_191_34 : am_dc 191 34 = some (.getfield 70, 37, 0) := by decide +kernel
theorem dc_191_37 : am_dc 191 37 = some (.iload_n 1, 38, 0) := by decide +kernel
theorem dc_191_38 : am_dc 191 38 = some (.iaload, 39, 0) := by decide +kernel
theorem dc_191_39 : am_dc 191 39 = some (.if_icmp .lt 14, 42, 53) := by decide +kernel
theorem dc_191_42 : am_dc 191 42 = some (.new 292, 45, 0) := by decide +kernel
theorem dc_191_45 : am_dc 191 45 = some (.dup, 46, 0) := by decide +kernel
theorem dc_191_46 : am_dc 191 46 = some (.ldc_w 294, 49, 0) := by decide +kernel
theorem dc_191_49 : am_dc 191 49 = some (.invokespecial 296, 52, 0) := by decide +kernel
theorem dc_191_52 : am_dc 191 52 = some (.athrow, 53, 0) := by decide +kernel
theorem dc_191_53 : am_dc 191 53 = some (.aload_n 0, 54, 0) := by decide +kernel
theorem dc_191_54 : am_dc 191 54 = some (.getfield 64, 57, 0) := by decide +kernel
theorem dc_191_57 : am_dc 191 57 = some (.iload_n 1, 58, 0) := by decide +kernel
theorem dc_191_58 : am_dc 191 58 = some (.aaload, 59, 0) := by decide +kernel
theorem dc_191_59 : am_dc 191 59 = some (.iload_n 2, 60, 0) := by decide +kernel
theorem dc_191_60 : am_dc 191 60 = some (.iaload, 61, 0) := by decide +kernel
theorem dc_191_61 : am_dc 191 61 = some (.i2l, 62, 0) := by decide +kernel
theorem dc_191_62 : am_dc 191 62 = some (.lreturn, 63, 0) := by decide +kernel
theorem dc_192_0 : am_dc 192 0 = some (.aload_n 0, 1, 0) := by decide +kernel
theorem dc_192_1 : am_dc 192 1 = some (.invokespecial 1, 4, 0) := by decide +kernel
theorem dc_192_4 : am_dc 192 4 = some (.aload_n 0, 5, 0) := by decide +kernel
theorem dc_192_5 : am_dc 192 5 = some (.bipush 118, 7, 0) := by decide +kernel
theorem dc_192_7 : am_dc 192 7 = some (.newarray .int, 9, 0) := by decide +kernel
theorem dc_192_9 : am_dc 192 9 = some (.putfield 9, 12, 0) := by decide +kernel
theorem dc_192_12 : am_dc 192 12 = some (.aload_n 0, 13, 0) := by decide +kernel
theorem dc_192_13 : am_dc 192 13 = some (.bipush 118, 15, 0) := by decide +kernel
theorem dc_192_15 : am_dc 192 15 = some (.newarray .int, 17, 0) := by decide +kernel
theorem dc_192_17 : am_dc 192 17 = some (.putfield 13, 20, 0) := by decide +kernel
theorem dc_192_20 : am_dc 192 20 = some (.aload_n 0, 21, 0) := by decide +kernel
theorem dc_192_21 : am_dc 192 21 = some (.bipush 118, 23, 0) := by decide +kernel
theorem dc_192_23 : am_dc 192 23 = some (.newarray .int, 25, 0) := by decide +kernel
theorem dc_192_25 : am_dc 192 25 = some (.putfield 16, 28, 0) := by decide +kernel
theorem dc_192_28 : am_dc 192 28 = some (.aload_n 0, 29, 0) := by decide +kernel
theorem dc_192_29 : am_dc 192 29 = some (.iconst 5, 30, 0) := by decide +kernel
theorem dc_192_30 : am_dc 192 30 = some (.newarray .int, 32, 0) := by decide +kernel
theorem dc_192_32 : am_dc 192 32 = some (.putfield 19, 35, 0) := by decide +kernel
theorem dc_192_35 : am_dc 192 35 = some (.aload_n 0, 36, 0) := by decide +kernel
theorem dc_192_36 : am_dc 192 36 = some (.bipush 8, 38, 0) := by decide +kernel
theorem dc_192_38 : am_dc 192 38 = some (.newarray .int, 40, 0) := by decide +kernel
theorem dc_192_40 : am_dc 192 40 = some (.putfield 22, 43, 0) := by decide +kernel
theorem dc_192_43 : am_dc 192 43 = some (.aload_n 0, 44, 0) := by decide +kernel
theorem dc_192_44 : am_dc 192 44 = some (.bipush 8, 46, 0) := by decide +kernel
theorem dc_192_46 : am_dc 192 46 = some (.newarray .int, 48, 0) := by decide +kernel
theorem dc_192_48 : am_dc 192 48 = some (.putfield 25, 51, 0) := by decide +kernel
theorem dc_192_51 : am_dc 192 51 = some (.aload_n 0, 52, 0) := by decide +kernel
theorem dc_192_52 : am_dc 192 52 = some (.bipush 8, 54, 0) := by decide +kernel
theorem dc_192_54 : am_dc 192 54 = some (.newarray .int, 56, 0) := by decide +kernel
theorem dc_192_56 : am_dc 192 56 = some (.putfield 28, 59, 0) := by decide +kernel
theorem dc_192_59 : am_dc 192 59 = some (.aload_n 0, 60, 0) := by decide +kernel
theorem dc_192_60 : am_dc 192 60 = some (.sipush 960, 63, 0) := by decide +kernel
theorem dc_192_63 : am_dc 192 63 = some (.newarray .int, 65, 0) := by decide +kernel
theorem dc_192_65 : am_dc 192 65 = some (.putfield 31, 68, 0) := by decide +kernel
theorem dc_192_68 : am_dc 192 68 = some (.aload_n 0, 69, 0) := by decide +kernel
theorem dc_192_69 : am_dc 192 69 = some (.bipush 8, 71, 0) := by decide +kernel
theorem dc_192_71 : am_dc 192 71 = some (.newarray .int, 73, 0) := by decide +kernel
theorem dc_192_73 : am_dc 192 73 = some (.putfield 34, 76, 0) := by decide +kernel
theorem dc_192_76 : am_dc 192 76 = some (.aload_n 0, 77, 0) := by decide +kernel
theorem dc_192_77 : am_dc 192 77 = some (.bipush 8, 79, 0) := by decide +kernel
theorem dc_192_79 : am_dc 192 79 = some (.newarray .int, 81, 0) := by decide +kernel
theorem dc_192_81 : am_dc 192 81 = some (.putfield 37, 84, 0) := by decide +kernel
theorem dc_192_84 : am_dc 192 84 = some (.aload_n 0, 85, 0) := by decide +kernel
theorem dc_192_85 : am_dc 192 85 = some (.bipush 120, 87, 0) := by decide +kernel
theorem dc_192_87 : am_dc 192 87 = some (.newarray .int, 89, 0) := by decide +kernel
theorem dc_192_89 : am_dc 192 89 = some (.putfield 40, 92, 0) := by decide +kernel
theorem dc_192_92 : am_dc 192 92 = some (.aload_n 0, 93, 0) := by decide +kernel
theorem dc_192_93 : am_dc 192 93 = some (.bipush 120, 95, 0) := by decide +kernel
theorem dc_192_95 : am_dc 192 95 = some (.newarray .int, 97, 0) := by decide +kernel
theorem dc_192_97 : am_dc 192 97 = some (.putfield 43, 100, 0) := by decide +kernel
theorem dc_192_100 : am_dc 192 100 = some (.aload_n 0, 101, 0) := by decide +kernel
theorem dc_192_101 : am_dc 192 101 = some (.bipush 120, 103, 0) := by decide +kernel
theorem dc_192_103 : am_dc 192 103 = some (.newarray .int, 105, 0) := by decide +kernel
theorem dc_192_105 : am_dc 192 105 = some (.putfield 46, 108, 0) := by decide +kernel
theorem dc_192_108 : am_dc 192 108 = some (.aload_n 0, 109, 0) := by decide +kernel
theorem dc_192_109 : am_dc 192 109 = some (.sipush 16807, 112, 0) := by decide +kernel
theorem dc_192_112 : am_dc 192 112 = some (.newarray .long, 114, 0) := by decide +kernel
theorem dc_192_114 : am_dc 192 114 = some (.putfield 49, 117, 0) := by decide +kernel
theorem dc_192_117 : am_dc 192 117 = some (.aload_n 0, 118, 0) := by decide +kernel
theorem dc_192_118 : am_dc 192 118 = some (.sipush 16807, 121, 0) := by decide +kernel
theorem dc_192_121 : am_dc 192 121 = some (.newarray .long, 123, 0) := by decide +kernel
theorem dc_192_123 : am_dc 192 123 = some (.putfield 53, 126, 0) := by decide +kernel
theorem dc_192_126 : am_dc 192 126 = some (.aload_n 0, 127, 0) := by decide +kernel
theorem dc_192_127 : am_dc 192 127 = some (.sipush 16807, 130, 0) := by decide +kernel
theorem dc_192_130 : am_dc 192 130 = some (.newarray .int, 132, 0) := by decide +kernel
theorem dc_192_132 : am_dc 192 132 = some (.putfield 56, 135, 0) := by decide +kernel
theorem dc_192_135 : am_dc 192 135 = some (.aload_n 0, 136, 0) := by decide +kernel
theorem dc_192_136 : am_dc 192 136 = some (.sipush 16807, 139, 0) := by decide +kernel
theorem dc_192_139 : am_dc 192 139 = some (.newarray .boolean, 141, 0) := by decide +kernel
theorem dc_192_141 : am_dc 192 141 = some (.putfield 59, 144, 0) := by decide +kernel
theorem dc_192_144 : am_dc 192 144 = some (.aload_n 0, 145, 0) := by decide +kernel
theorem dc_192_145 : am_dc 192 145 = some (.sipush 16807, 148, 0) := by decide +kernel
theorem dc_192_148 : am_dc 192 148 = some (.newarray .boolean, 150, 0) := by decide +kernel
theorem dc_192_150 : am_dc 192 150 = some (.putfield 63, 153, 0) := by decide +kernel
theorem dc_192_153 : am_dc 192 153 = some (.aload_n 0, 154, 0) := by decide +kernel
theorem dc_192_154 : am_dc 192 154 = some (.iconst 5, 155, 0) := by decide +kernel
theorem dc_192_155 : am_dc 192 155 = some (.newarray .int, 157, 0) := by decide +kernel
theorem dc_192_157 : am_dc 192 157 = some (.putfield 66, 160, 0) := by decide +kernel
theorem dc_192_160 : am_dc 192 160 = some (.aload_n 0, 161, 0) := by decide +kernel
theorem dc_192_161 : am_dc 192 161 = some (.getfield 9, 164, 0) := by decide +kernel
theorem dc_192_164 : am_dc 192 164 = some (.bipush 117, 166, 0) := by decide +kernel
theorem dc_192_166 : am_dc 192 166 = some (.bipush 99, 168, 0) := by decide +kernel
theorem dc_192_168 : am_dc 192 168 = some (.iastore, 169, 0) := by decide +kernel
theorem dc_192_169 : am_dc 192 169 = some (.return_, 170, 0) := by decide +kernel
theorem dc_193_0 : am_dc 193 0 = some (.aload_n 0, 1, 0) := by decide +kernel
theorem dc_193_1 : am_dc 193 1 = some (.getfield 69, 4, 0) := by decide +kernel
theorem dc_193_4 : am_dc 193 4 = some (.ireturn, 5, 0) := by decide +kernel
theorem dc_194_0 : am_dc 194 0 = some (.aload_n 0, 1, 0) := by decide +kernel
theorem dc_194_1 : am_dc 194 1 = some (.iload_n 1, 2, 0) := by decide +kernel
theorem dc_194_2 : am_dc 194 2 = some (.iconst 0, 3, 0) := by decide +kernel
theorem dc_194_3 : am_dc 194 3 = some (.invokevirtual 161, 6, 0) := by decide +kernel
theorem dc_194_6 : am_dc 194 6 = some (.istore_n 2, 7, 0) := by decide +kernel
theorem dc_194_7 : am_dc 194 7 = some (.iload_n 2, 8, 0) := by decide +kernel
theorem dc_194_8 : am_dc 194 8 = some (.ifCond .eq 5, 11, 13) := by decide +kernel
theorem dc_194_11 : am_dc 194 11 = some (.iload_n 2, 12, 0) := by decide +kernel
theorem dc_194_12 : am_dc 194 12 = some (.ireturn, 13, 0) := by decide +kernel
theorem dc_194_13 : am_dc 194 13 = some (.aload_n 0, 14, 0) := by decide +kernel
theorem dc_194_14 : am_dc 194 14 = some (.bipush 120, 16, 0) := by decide +kernel
theorem dc_194_16 : am_dc 194 16 = some (.iload_n 1, 17, 0) := by decide +kernel
theorem dc_194_17 : am_dc 194 17 = some (.imul, 18, 0) := by decide +kernel
theorem dc_194_18 : am_dc 194 18 = some (.putfield 89, 21, 0) := by decide +kernel
theorem dc_194_21 : am_dc 194 21 = some (.aload_n 0, 22, 0) := by decide +kernel
theorem dc_194_22 : am_dc 194 22 = some (.aload_n 0, 23, 0) := by decide +kernel
theorem dc_194_23 : am_dc 194 23 = some (.getfield 28, 26, 0) := by decide +kernel
theorem dc_194_26 : am_dc 194 26 = some (.iload_n 1, 27, 0) := by decide +kernel
theorem dc_194_27 : am_dc 194 27 = some (.iaload, 28, 0) := by decide +kernel
theorem dc_194_28 : am_dc 194 28 = some (.putfield 86, 31, 0) := by decide +kernel
theorem dc_194_31 : am_dc 194 31 = some (.aload_n 0, 32, 0) := by decide +kernel
theorem dc_194_32 : am_dc 194 32 = some (.iconst 0, 33, 0) := by decide +kernel
theorem dc_194_33 : am_dc 194 33 = some (.putfield 83, 36, 0) := by decide +kernel
theorem dc_194_36 : am_dc 194 36 = some (.aload_n 0, 37, 0) := by decide +kernel
theorem dc_194_37 : am_dc 194 37 = some (.invokevirtual 164, 40, 0) := by decide +kernel
theorem dc_194_40 : am_dc 194 40 = some (.ifCond .ne 12, 43, 52) := by decide +kernel
theorem dc_194_43 : am_dc 194 43 = some (.sipush (-1000), 46, 0) := by decide +kernel
theorem dc_194_46 : am_dc 194 46 = some (.aload_n 0, 47, 0) := by decide +kernel
theorem dc_194_47 : am_dc 194 47 = some (.getfield 83, 50, 0) := by decide +kernel
theorem dc_194_50 : am_dc 194 50 = some (.isub, 51, 0) := by decide +kernel
theorem dc_194_51 : am_dc 194 51 = some (.ireturn, 52, 0) := by decide +kernel
theorem dc_194_52 : am_dc 194 52 = some (.aload_n 0, 53, 0) := by decide +kernel
theorem dc_194_53 : am_dc 194 53 = some (.getfield 83, 56, 0) := by decide +kernel
theorem dc_194_56 : am_dc 194 56 = some (.aload_n 0, 57, 0) := by decide +kernel
theorem dc_194_57 : am_dc 194 57 = some (.getfield 86, 60, 0) := by decide +kernel
theorem dc_194_60 : am_dc 194 60 = some (.if_icmp .lt (-24), 63, 36) := by decide +kernel
theorem dc_194_63 : am_dc 194 63 = some (.iconst 0, 64, 0) := by decide +kernel
theorem dc_194_64 : am_dc 194 64 = some (.istore_n 3, 65, 0) := by decide +kernel
theorem dc_194_65 : am_dc 194 65 = some (.iload_n 3, 66, 0) := by decide +kernel
theorem dc_194_66 : am_dc 194 66 = some (.bipush 118, 68, 0) := by decide +kernel
theorem dc_194_68 : am_dc 194 68 = some (.if_icmp .ge 21, 71, 89) := by decide +kernel
theorem dc_194_71 : am_dc 194 71 = some (.aload_n 0, 72, 0) := by decide +kernel
theorem dc_194_72 : am_dc 194 72 = some (.getfield 16, 75, 0) := by decide +kernel
theorem dc_194_75 : am_dc 194 75 = some (.iload_n 3, 76, 0) := by decide +kernel
theorem dc_194_76 : am_dc 194 76 = some (.aload_n 0, 77, 0) := by decide +kernel
theorem dc_194_77 : am_dc 194 77 = some (.getfield 9, 80, 0) := by decide +kernel
theorem dc_194_80 : am_dc 194 80 = some (.iload_n 3, 81, 0) := by decide +kernel
theorem dc_194_81 : am_dc 194 81 = some (.iaload, 82, 0) := by decide +kernel
theorem dc_194_82 : am_dc 194 82 = some (.iastore, 83, 0) := by decide +kernel
theorem dc_194_83 : am_dc 194 83 = some (.iinc 3 1, 86, 0) := by decide +kernel
theorem dc_194_86 : am_dc 194 86 = some (.goto (-21), 89, 65) := by decide +kernel
theorem dc_194_89 : am_dc 194 89 = some (.aload_n 0, 90, 0) := by decide +kernel
theorem dc_194_90 : am_dc 194 90 = some (.iconst 0, 91, 0) := by decide +kernel
theorem dc_194_91 : am_dc 194 91 = some (.putfield 83, 94, 0) := by decide +kernel
theorem dc_194_94 : am_dc 194 94 = some (.iconst 0, 95, 0) := by decide +kernel
theorem dc_194_95 : am_dc 194 95 = some (.istore_n 3, 96, 0) := by decide +kernel
theorem dc_194_96 : am_dc 194 96 = some (.aload_n 0, 97, 0) := by decide +kernel
theorem dc_194_97 : am_dc 194 97 = some (.getfield 83, 100, 0) := by decide +kernel
theorem dc_194_100 : am_dc 194 100 = some (.aload_n 0, 101, 0) := by decide +kernel
theorem dc_194_101 : am_dc 194 101 = some (.getfield 86, 104, 0) := by decide +kernel
theorem dc_194_104 : am_dc 194 104 = some (.if_icmp .ge 117, 107, 221) := by decide +kernel
theorem dc_194_107 : am_dc 194 107 = some (.aload_n 0, 108, 0) := by decide +kernel
theorem dc_194_108 : am_dc 194 108 = some (.getfield 83, 111, 0) := by decide +kernel
theorem dc_194_111 : am_dc 194 111 = some (.istore 4, 113, 0) := by decide +kernel
theorem dc_194_113 : am_dc 194 113 = some (.aload_n 0, 114, 0) := by decide +kernel
theorem dc_194_114 : am_dc 194 114 = some (.invokevirtual 92, 117, 0) := by decide +kernel
theorem dc_194_117 : am_dc 194 117 = some (.istore 5, 119, 0) := by decide +kernel
theorem dc_194_119 : am_dc 194 119 = some (.aload_n 0, 120, 0) := by decide +kernel
theorem dc_194_120 : am_dc 194 120 = some (.invokevirtual 164, 123, 0) := by decide +kernel
theorem dc_194_123 : am_dc 194 123 = some (.istore 6, 125, 0) := by decide +kernel
theorem dc_194_125 : am_dc 194 125 = some (.iload 5, 127, 0) := by decide +kernel
theorem dc_194_127 : am_dc 194 127 = some (.bipush 98, 129, 0) := by decide +kernel
theorem dc_194_129 : am_dc 194 129 = some (.if_icmp .ne 10, 132, 139) := by decide +kernel
theorem dc_194_132 : am_dc 194 132 = some (.aload_n 0, 133, 0) := by decide +kernel
theorem dc_194_133 : am_dc 194 133 = some (.invokevirtual 167, 136, 0) := by decide +kernel
theorem dc_194_136 : am_dc 194 136 = some (.goto 17, 139, 153) := by decide +kernel
theorem dc_194_139 : am_dc 194 139 = some (.aload_n 0, 140, 0) := by decide +kernel
theorem dc_194_140 : am_dc 194 140 = some (.getfield 100, 143, 0) := by decide +kernel
theorem dc_194_143 : am_dc 194 143 = some (.bipush 99, 145, 0) := by decide +kernel
theorem dc_194_145 : am_dc 194 145 = some (.if_icmp .gt 7, 148, 152) := by decide +kernel
theorem dc_194_148 : am_dc 194 148 = some (.iconst 1, 149, 0) := by decide +kernel
theorem dc_194_149 : am_dc 194 149 = some (.goto 4, 152, 153) := by decide +kernel
theorem dc_194_152 : am_dc 194 152 = some (.iconst 0, 153, 0) := by decide +kernel
theorem dc_194_153 : am_dc 194 153 = some (.istore 6, 155, 0) := by decide +kernel
theorem dc_194_155 : am_dc 194 155 = some (.iload 5, 157, 0) := by decide +kernel
theorem dc_194_157 : am_dc 194 157 = some (.bipush 108, 159, 0) := by decide +kernel
theorem dc_194_159 : am_dc 194 159 = some (.if_icmp .ne 14, 162, 173) := by decide +kernel
theorem dc_194_162 : am_dc 194 162 = some (.aload_n 0, 163, 0) := by decide +kernel
theorem dc_194_163 : am_dc 194 163 = some (.getfield 9, 166, 0) := by decide +kernel
theorem dc_194_166 : am_dc 194 166 = some (.bipush 117, 168, 0) := by decide +kernel
theorem dc_194_168 : am_dc 194 168 = some (.aload_n 0, 169, 0) := by decide +kernel
theorem dc_194_169 : am_dc 194 169 = some (.getfield 100, 172, 0) := by decide +kernel
theorem dc_194_172 : am_dc 194 172 = some (.iastore, 173, 0) := by decide +kernel
theorem dc_194_173 : am_dc 194 173 = some (.iinc 3 1, 176, 0) := by decide +kernel
theorem dc_194_176 : am_dc 194 176 = some (.iload 6, 178, 0) := by decide +kernel
theorem dc_194_178 : am_dc 194 178 = some (.ifCond .eq 6, 181, 184) := by decide +kernel
theorem dc_194_181 : am_dc 194 181 = some (.goto (-85), 184, 96) := by decide +kernel
theorem dc_194_184 : am_dc 194 184 = some (.iconst 0, 185, 0) := by decide +kernel
theorem dc_194_185 : am_dc 194 185 = some (.istore 7, 187, 0) := by decide +kernel
theorem dc_194_187 : am_dc 194 187 = some (.iload 7, 189, 0) := by decide +kernel
theorem dc_194_189 : am_dc 194 189 = some (.bipush 118, 191, 0) := by decide +kernel
theorem dc_194_191 : am_dc 194 191 = some (.if_icmp .ge 23, 194, 214) := by decide +kernel
theorem dc_194_194 : am_dc 194 194 = some (.aload_n 0, 195, 0) := by decide +kernel
theorem dc_194_195 : am_dc 194 195 = some (.getfield 9, 198, 0) := by decide +kernel
theorem dc_194_198 : am_dc 194 198 = some (.iload 7, 200, 0) := by decide +kernel
theorem dc_194_200 : am_dc 194 200 = some (.aload_n 0, 201, 0) := by decide +kernel
theorem dc_194_201 : am_dc 194 201 = some (.getfield 16, 204, 0) := by decide +kernel
theorem dc_194_204 : am_dc 194 204 = some (.iload 7, 206, 0) := by decide +kernel
theorem dc_194_206 : am_dc 194 206 = some (.iaload, 207, 0) := by decide +kernel
theorem dc_194_207 : am_dc 194 207 = some (.iastore, 208, 0) := by decide +kernel
theorem dc_194_208 : am_dc 194 208 = some (.iinc 7 1, 211, 0) := by decide +kernel
theorem dc_194_211 : am_dc 194 211 = some (.goto (-24), 214, 187) := by decide +kernel
theorem dc_194_214 : am_dc 194 214 = some (.sipush (-2000), 217, 0) := by decide +kernel
theorem dc_194_217 : am_dc 194 217 = some (.iload 4, 219, 0) := by decide +kernel
theorem dc_194_219 : am_dc 194 219 = some (.isub, 220, 0) := by decide +kernel
theorem dc_194_220 : am_dc 194 220 = some (.ireturn, 221, 0) := by decide +kernel
theorem dc_194_221 : am_dc 194 221 = some (.aload_n 0, 222, 0) := by decide +kernel
theorem dc_194_222 : am_dc 194 222 = some (.iconst 0, 223, 0) := by decide +kernel
theorem dc_194_223 : am_dc 194 223 = some (.putfield 170, 226, 0) := by decide +kernel
theorem dc_194_226 : am_dc 194 226 = some (.iload_n 3, 227, 0) := by decide +kernel
theorem dc_194_227 : am_dc 194 227 = some (.ireturn, 228, 0) := by decide +kernel
theorem dc_195_0 : am_dc 195 0 = some (.iload_n 1, 1, 0) := by decide +kernel
theorem dc_195_1 : am_dc 195 1 = some (.invokestatic 158, 4, 0) := by decide +kernel
theorem dc_195_4 : am_dc 195 4 = some (.ifCond .ne 7, 7, 11) := by decide +kernel
theorem dc_195_7 : am_dc 195 7 = some (.iconst (-1), 8, 0) := by decide +kernel
theorem dc_195_8 : am_dc 195 8 = some (.goto 47, 11, 55) := by decide +kernel
theorem dc_195_11 : am_dc 195 11 = some (.aload_n 0, 12, 0) := by decide +kernel
theorem dc_195_12 : am_dc 195 12 = some (.getfield 22, 15, 0) := by decide +kernel
theorem dc_195_15 : am_dc 195 15 = some (.iload_n 1, 16, 0) := by decide +kernel
theorem dc_195_16 : am_dc 195 16 = some (.iaload, 17, 0) := by decide +kernel
theorem dc_195_17 : am_dc 195 17 = some (.ifCond .ne 8, 20, 25) := by decide +kernel
theorem dc_195_20 : am_dc 195 20 = some (.bipush (-11), 22, 0) := by decide +kernel
theorem dc_195_22 : am_dc 195 22 = some (.goto 33, 25, 55) := by decide +kernel
theorem dc_195_25 : am_dc 195 25 = some (.aload_n 0, 26, 0) := by decide +kernel
theorem dc_195_26 : am_dc 195 26 = some (.getfield 22, 29, 0) := by decide +kernel
theorem dc_195_29 : am_dc 195 29 = some (.iload_n 1, 30, 0) := by decide +kernel
theorem dc_195_30 : am_dc 195 30 = some (.iaload, 31, 0) := by decide +kernel
theorem dc_195_31 : am_dc 195 31 = some (.iconst 2, 32, 0) := by decide +kernel
theorem dc_195_32 : am_dc 195 32 = some (.if_icmp .ne 17, 35, 49) := by decide +kernel
theorem dc_195_35 : am_dc 195 35 = some (.iload_n 2, 36, 0) := by decide +kernel
theorem dc_195_36 : am_dc 195 36 = some (.ifCond .lt 18, 39, 54) := by decide +kernel
theorem dc_195_39 : am_dc 195 39 = some (.aload_n 0, 40, 0) := by decide +kernel
theorem dc_195_40 : am_dc 195 40 = some (.getfield 25, 43, 0) := by decide +kernel
theorem dc_195_43 : am_dc 195 43 = some (.iload_n 1, 44, 0) := by decide +kernel
theorem dc_195_44 : am_dc 195 44 = some (.iaload, 45, 0) := by decide +kernel
theorem dc_195_45 : am_dc 195 45 = some (.iload_n 2, 46, 0) := by decide +kernel
theorem dc_195_46 : am_dc 195 46 = some (.if_icmp .eq 8, 49, 54) := by decide +kernel
theorem dc_195_49 : am_dc 195 49 = some (.bipush (-12), 51, 0) := by decide +kernel
theorem dc_195_51 : am_dc 195 51 = some (.goto 4, 54, 55) := by decide +kernel
theorem dc_195_54 : am_dc 195 54 = some (.iconst 0, 55, 0) := by decide +kernel
theorem dc_195_55 : am_dc 195 55 = some (.ireturn, 56, 0) := by decide +kernel
theorem dc_196_0 : am_dc 196 0 = some (.iload_n 0, 1, 0) := by decide +kernel
theorem dc_196_1 : am_dc 196 1 = some (.i2l, 2, 0) := by decide +kernel
theorem dc_196_2 : am_dc 196 2 = some (.lconst 0, 3, 0) := by decide +kernel
theorem dc_196_3 : am_dc 196 3 = some (.ldc2_w 77, 6, 0) := by decide +kernel
theorem dc_196_6 : am_dc 196 6 = some (.invokestatic 73, 9, 0) := by decide +kernel
theorem dc_196_9 : am_dc 196 9 = some (.ireturn, 10, 0) := by decide +kernel
theorem dc_197_0 : am_dc 197 0 = some (.lload_n 0, 1, 0) := by decide +kernel
theorem dc_197_1 : am_dc 197 1 = some (.lload_n 2, 2, 0) := by decide +kernel
theorem dc_197_2 : am_dc 197 2 = some (.lcmp, 3, 0) := by decide +kernel
theorem dc_197_3 : am_dc 197 3 = some (.ifCond .lt 14, 6, 17) := by decide +kernel
theorem dc_197_6 : am_dc 197 6 = some (.lload_n 0, 7, 0) := by decide +kernel
theorem dc_197_7 : am_dc 197 7 = some (.lload 4, 9, 0) := by decide +kernel
theorem dc_197_9 : am_dc 197 9 = some (.lcmp, 10, 0) := by decide +kernel
theorem dc_197_10 : am_dc 197 10 = some (.ifCond .gt 7, 13, 17) := by decide +kernel
theorem dc_197_13 : am_dc 197 13 = some (.iconst 1, 14, 0) := by decide +kernel
theorem dc_197_14 : am_dc 197 14 = some (.goto 4, 17, 18) := by decide +kernel
theorem dc_197_17 : am_dc 197 17 = some (.iconst 0, 18, 0) := by decide +kernel
theorem dc_197_18 : am_dc 197 18 = some (.ireturn, 19, 0) := by decide +kernel
theorem dc_198_0 : am_dc 198 0 = some (.aload_n 0, 1, 0) := by decide +kernel
theorem dc_198_1 : am_dc 198 1 = some (.bipush 108, 3, 0) := by decide +kernel
theorem dc_198_3 : am_dc 198 3 = some (.invokevirtual 119, 6, 0) := by decide +kernel
theorem dc_198_6 : am_dc 198 6 = some (.ifCond .eq 25, 9, 31) := by decide +kernel
theorem dc_198_9 : am_dc 198 9 = some (.aload_n 0, 10, 0) := by decide +kernel
theorem dc_198_10 : am_dc 198 10 = some (.invokevirtual 112, 13, 0) := by decide +kernel
theorem dc_198_13 : am_dc 198 13 = some (.ifCond .eq 16, 16, 29) := by decide +kernel
theorem dc_198_16 : am_dc 198 16 = some (.aload_n 0, 17, 0) := by decide +kernel
theorem dc_198_17 : am_dc 198 17 = some (.bipush 59, 19, 0) := by decide +kernel
theorem dc_198_19 : am_dc 198 19 = some (.invokevirtual 119, 22, 0) := by decide +kernel
theorem dc_198_22 : am_dc 198 22 = some (.ifCond .eq 7, 25, 29) := by decide +kernel
theorem dc_198_25 : am_dc 198 25 = some (.iconst 1, 26, 0) := by decide +kernel
theorem dc_198_26 : am_dc 198 26 = some (.goto 4, 29, 30) := by decide +kernel
theorem dc_198_29 : am_dc 198 29 = some (.iconst 0, 30, 0) := by decide +kernel
theorem dc_198_30 : am_dc 198 30 = some (.ireturn, 31, 0) := by decide +kernel
theorem dc_198_31 : am_dc 198 31 = some (.aload_n 0, 32, 0) := by decide +kernel
theorem dc_198_32 : am_dc 198 32 = some (.bipush 98, 34, 0) := by decide +kernel
theorem dc_198_34 : am_dc 198 34 = some (.invokevirtual 119, 37, 0) := by decide +kernel
theorem dc_198_37 : am_dc 198 37 = some (.ifCond .eq 23, 40, 60) := by decide +kernel
theorem dc_198_40 : am_dc 198 40 = some (.aload_n 0, 41, 0) := by decide +kernel
theorem dc_198_41 : am_dc 198 41 = some (.invokevirtual 129, 44, 0) := by decide +kernel
theorem dc_198_44 : am_dc 198 44 = some (.ifCond .eq 16, 47, 60) := by decide +kernel
theorem dc_198_47 : am_dc 198 47 = some (.aload_n 0, 48, 0) := by decide +kernel
theorem dc_198_48 : am_dc 198 48 = some (.bipush 59, 50, 0) := by decide +kernel
theorem dc_198_50 : am_dc 198 50 = some (.invokevirtual 119, 53, 0) := by decide +kernel
theorem dc_198_53 : am_dc 198 53 = some (.ifCond .eq 7, 56, 60) := by decide +kernel
theorem dc_198_56 : am_dc 198 56 = some (.iconst 1, 57, 0) := by decide +kernel
theorem dc_198_57 : am_dc 198 57 = some (.goto 4, 60, 61) := by decide +kernel
theorem dc_198_60 : am_dc 198 60 = some (.iconst 0, 61, 0) := by decide +kernel
theorem dc_198_61 : am_dc 198 61 = some (.ireturn, 62, 0) := by decide +kernel
theorem dc_199_0 : am_dc 199 0 = some (.aload_n 0, 1, 0) := by decide +kernel
theorem dc_199_1 : am_dc 199 1 = some (.invokevirtual 92, 4, 0) := by decide +kernel
theorem dc_199_4 : am_dc 199 4 = some (.iload_n 1, 5, 0) := by decide +kernel
theorem dc_199_5 : am_dc 199 5 = some (.if_icmp .eq 5, 8, 10) := by decide +kernel
theorem dc_199_8 : am_dc 199 8 = some (.iconst 0, 9, 0) := by decide +kernel
theorem dc_199_9 : am_dc 199 9 = some (.ireturn, 10, 0) := by decide +kernel
theorem dc_199_10 : am_dc 199 10 = some (.aload_n 0, 11, 0) := by decide +kernel
theorem dc_199_11 : am_dc 199 11 = some (.dup, 12, 0) := by decide +kernel
theorem dc_199_12 : am_dc 199 12 = some (.getfield 83, 15, 0) := by decide +kernel
theorem dc_199_15 : am_dc 199 15 = some (.iconst 1, 16, 0) := by decide +kernel
theorem dc_199_16 : am_dc 199 16 = some (.iadd, 17, 0) := by decide +kernel
theorem dc_199_17 : am_dc 199 17 = some (.putfield 83, 20, 0) := by decide +kernel
theorem dc_199_20 : am_dc 199 20 = some (.iconst 1, 21, 0) := by decide +kernel
theorem dc_199_21 : am_dc 199 21 = some (.ireturn, 22, 0) := by decide +kernel
theorem dc_200_0 : am_dc 200 0 = some (.aload_n 0, 1, 0) := by decide +kernel
theorem dc_200_1 : am_dc 200 1 = some (.getfield 83, 4, 0) := by decide +kernel
theorem dc_200_4 : am_dc 200 4 = some (.aload_n 0, 5, 0) := by decide +kernel
theorem dc_200_5 : am_dc 200 5 = some (.getfield 86, 8, 0) := by decide +kernel
theorem dc_200_8 : am_dc 200 8 = some (.if_icmp .ge 20, 11, 28) := by decide +kernel
theorem dc_200_11 : am_dc 200 11 = some (.aload_n 0, 12, 0) := by decide +kernel
theorem dc_200_12 : am_dc 200 12 = some (.getfield 31, 15, 0) := by decide +kernel
theorem dc_200_15 : am_dc 200 15 = some (.aload_n 0, 16, 0) := by decide +kernel
theorem dc_200_16 : am_dc 200 16 = some (.getfield 89, 19, 0) := by decide +kernel
theorem dc_200_19 : am_dc 200 19 = some (.aload_n 0, 20, 0) := by decide +kernel
theorem dc_200_20 : am_dc 200 20 = some (.getfield 83, 23, 0) := by decide +kernel
theorem dc_200_23 : am_dc 200 23 = some (.iadd, 24, 0) := by decide +kernel
theorem dc_200_24 : am_dc 200 24 = some (.iaload, 25, 0) := by decide +kernel
theorem dc_200_25 : am_dc 200 25 = some (.goto 6, 28, 31) := by decide +kernel
theorem dc_200_28 : am_dc 200 28 = some (.sipush (-1000), 31, 0) := by decide +kernel
theorem dc_200_31 : am_dc 200 31 = some (.ireturn, 32, 0) := by decide +kernel
theorem dc_201_0 : am_dc 201 0 = some (.aload_n 0, 1, 0) := by decide +kernel
theorem dc_201_1 : am_dc 201 1 = some (.invokevirtual 92, 4, 0) := by decide +kernel
theorem dc_201_4 : am_dc 201 4 = some (.i2l, 5, 0) := by decide +kernel
theorem dc_201_5 : am_dc 201 5 = some (.ldc2_w 96, 8, 0) := by decide +kernel
theorem dc_201_8 : am_dc 201 8 = some (.ldc2_w 98, 11, 0) := by decide +kernel
theorem dc_201_11 : am_dc 201 11 = some (.invokestatic 73, 14, 0) := by decide +kernel
theorem dc_201_14 : am_dc 201 14 = some (.ifCond .ne 5, 17, 19) := by decide +kernel
theorem dc_201_17 : am_dc 201 17 = some (.iconst 0, 18, 0) := by decide +kernel
theorem dc_201_18 : am_dc 201 18 = some (.ireturn, 19, 0) := by decide +kernel
theorem dc_201_19 : am_dc 201 19 = some (.aload_n 0, 20, 0) := by decide +kernel
theorem dc_201_20 : am_dc 201 20 = some (.aload_n 0, 21, 0) := by decide +kernel
theorem dc_201_21 : am_dc 201 21 = some (.invokevirtual 92, 24, 0) := by decide +kernel
theorem dc_201_24 : am_dc 201 24 = some (.bipush 48, 26, 0) := by decide +kernel
theorem dc_201_26 : am_dc 201 26 = some (.isub, 27, 0) := by decide +kernel
theorem dc_201_27 : am_dc 201 27 = some (.putfield 100, 30, 0) := by decide +kernel
theorem dc_201_30 : am_dc 201 30 = some (.aload_n 0, 31, 0) := by decide +kernel
theorem dc_201_31 : am_dc 201 31 = some (.dup, 32, 0) := by decide +kernel
theorem dc_201_32 : am_dc 201 32 = some (.getfield 83, 35, 0) := by decide +kernel
theorem dc_201_35 : am_dc 201 35 = some (.iconst 1, 36, 0) := by decide +kernel
theorem dc_201_36 : am_dc 201 36 = some (.iadd, 37, 0) := by decide +kernel
theorem dc_201_37 : am_dc 201 37 = some (.putfield 83, 40, 0) := by decide +kernel
theorem dc_201_40 : am_dc 201 40 = some (.iconst 1, 41, 0) := by decide +kernel
theorem dc_201_41 : am_dc 201 41 = some (.istore_n 1, 42, 0) := by decide +kernel
theorem dc_201_42 : am_dc 201 42 = some (.iload_n 1, 43, 0) := by decide +kernel
theorem dc_201_43 : am_dc 201 43 = some (.iconst 3, 44, 0) := by decide +kernel
theorem dc_201_44 : am_dc 201 44 = some (.if_icmp .ge 62, 47, 106) := by decide +kernel
theorem dc_201_47 : am_dc 201 47 = some (.aload_n 0, 48, 0) := by decide +kernel
theorem dc_201_48 : am_dc 201 48 = some (.getfield 100, 51, 0) := by decide +kernel
theorem dc_201_51 : am_dc 201 51 = some (.ifCond .le 55, 54, 106) := by decide +kernel
theorem dc_201_54 : am_dc 201 54 = some (.aload_n 0, 55, 0) := by decide +kernel
theorem dc_201_55 : am_dc 201 55 = some (.invokevirtual 92, 58, 0) := by decide +kernel
theorem dc_201_58 : am_dc 201 58 = some (.i2l, 59, 0) := by decide +kernel
theorem dc_201_59 : am_dc 201 59 = some (.ldc2_w 96, 62, 0) := by decide +kernel
theorem dc_201_62 : am_dc 201 62 = some (.ldc2_w 98, 65, 0) := by decide +kernel
theorem dc_201_65 : am_dc 201 65 = some (.invokestatic 73, 68, 0) := by decide +kernel
theorem dc_201_68 : am_dc 201 68 = some (.ifCond .eq 38, 71, 106) := by decide +kernel
theorem dc_201_71 : am_dc 201 71 = some (.aload_n 0, 72, 0) := by decide +kernel
theorem dc_201_72 : am_dc 201 72 = some (.bipush 10, 74, 0) := by decide +kernel
theorem dc_201_74 : am_dc 201 74 = some (.aload_n 0, 75, 0) := by decide +kernel
theorem dc_201_75 : am_dc 201 75 = some (.getfield 100, 78, 0) := by decide +kernel
theorem dc_201_78 : am_dc 201 78 = some (.imul, 79, 0) := by decide +kernel
theorem dc_201_79 : am_dc 201 79 = some (.aload_n 0, 80, 0) := by decide +kernel
theorem dc_201_80 : am_dc 201 80 = some (.invokevirtual 92, 83, 0) := by decide +kernel
theorem dc_201_83 : am_dc 201 83 = some (.iadd, 84, 0) := by decide +kernel
theorem dc_201_84 : am_dc 201 84 = some (.bipush 48, 86, 0) := by decide +kernel
theorem dc_201_86 : am_dc 201 86 = some (.isub, 87, 0) := by decide +kernel
theorem dc_201_87 : am_dc 201 87 = some (.putfield 100, 90, 0) := by decide +kernel
theorem dc_201_90 : am_dc 201 90 = some (.aload_n 0, 91, 0) := by decide +kernel
theorem dc_201_91 : am_dc 201 91 = some (.dup, 92, 0) := by decide +kernel
theorem dc_201_92 : am_dc 201 92 = some (.getfield 83, 95, 0) := by decide +kernel
theorem dc_201_95 : am_dc 201 95 = some (.iconst 1, 96, 0) := by decide +kernel
theorem dc_201_96 : am_dc 201 96 = some (.iadd, 97, 0) := by decide +kernel
theorem dc_201_97 : am_dc 201 97 = some (.putfield 83, 100, 0) := by decide +kernel
theorem dc_201_100 : am_dc 201 100 = some (.iinc 1 1, 103, 0) := by decide +kernel
theorem dc_201_103 : am_dc 201 103 = some (.goto (-61), 106, 42) := by decide +kernel
theorem dc_201_106 : am_dc 201 106 = some (.iconst 1, 107, 0) := by decide +kernel
theorem dc_201_107 : am_dc 201 107 = some (.ireturn, 108, 0) := by decide +kernel
theorem dc_202_0 : am_dc 202 0 = some (.aload_n 0, 1, 0) := by decide +kernel
theorem dc_202_1 : am_dc 202 1 = some (.iconst 0, 2, 0) := by decide +kernel
theorem dc_202_2 : am_dc 202 2 = some (.putfield 103, 5, 0) := by decide +kernel
theorem dc_202_5 : am_dc 202 5 = some (.aload_n 0, 6, 0) := by decide +kernel
theorem dc_202_6 : am_dc 202 6 = some (.iconst 0, 7, 0) := by decide +kernel
theorem dc_202_7 : am_dc 202 7 = some (.putfield 106, 10, 0) := by decide +kernel
theorem dc_202_10 : am_dc 202 10 = some (.aload_n 0, 11, 0) := by decide +kernel
theorem dc_202_11 : am_dc 202 11 = some (.iconst 0, 12, 0) := by decide +kernel
theorem dc_202_12 : am_dc 202 12 = some (.putfield 109, 15, 0) := by decide +kernel
theorem dc_202_15 : am_dc 202 15 = some (.aload_n 0, 16, 0) := by decide +kernel
theorem dc_202_16 : am_dc 202 16 = some (.invokevirtual 112, 19, 0) := by decide +kernel
theorem dc_202_19 : am_dc 202 19 = some (.ifCond .ne 5, 22, 24) := by decide +kernel
theorem dc_202_22 : am_dc 202 22 = some (.iconst 0, 23, 0) := by decide +kernel
theorem dc_202_23 : am_dc 202 23 = some (.ireturn, 24, 0) := by decide +kernel
theorem dc_202_24 : am_dc 202 24 = some (.aload_n 0, 25, 0) := by decide +kernel
theorem dc_202_25 : am_dc 202 25 = some (.aload_n 0, 26, 0) := by decide +kernel
theorem dc_202_26 : am_dc 202 26 = some (.getfield 100, 29, 0) := by decide +kernel
theorem dc_202_29 : am_dc 202 29 = some (.putfield 116, 32, 0) := by decide +kernel
theorem dc_202_32 : am_dc 202 32 = some (.aload_n 0, 33, 0) := by decide +kernel
theorem dc_202_33 : am_dc 202 33 = some (.bipush 32, 35, 0) := by decide +kernel
theorem dc_202_35 : am_dc 202 35 = some (.invokevirtual 119, 38, 0) := by decide +kernel
theorem dc_202_38 : am_dc 202 38 = some (.ifCond .eq 10, 41, 48) := by decide +kernel
theorem dc_202_41 : am_dc 202 41 = some (.aload_n 0, 42, 0) := by decide +kernel
theorem dc_202_42 : am_dc 202 42 = some (.invokevirtual 112, 45, 0) := by decide +kernel
theorem dc_202_45 : am_dc 202 45 = some (.ifCond .ne 5, 48, 50) := by decide +kernel
theorem dc_202_48 : am_dc 202 48 = some (.iconst 0, 49, 0) := by decide +kernel
theorem dc_202_49 : am_dc 202 49 = some (.ireturn, 50, 0) := by decide +kernel
theorem dc_202_50 : am_dc 202 50 = some (.aload_n 0, 51, 0) := by decide +kernel
theorem dc_202_51 : am_dc 202 51 = some (.aload_n 0, 52, 0) := by decide +kernel
theorem dc_202_52 : am_dc 202 52 = some (.getfield 100, 55, 0) := by decide +kernel
theorem dc_202_55 : am_dc 202 55 = some (.putfield 123, 58, 0) := by decide +kernel
theorem dc_202_58 : am_dc 202 58 = some (.aload_n 0, 59, 0) := by decide +kernel
theorem dc_202_59 : am_dc 202 59 = some (.bipush 32, 61, 0) := by decide +kernel
theorem dc_202_61 : am_dc 202 61 = some (.invokevirtual 119, 64, 0) := by decide +kernel
theorem dc_202_64 : am_dc 202 64 = some (.ifCond .eq 69, 67, 133) := by decide +kernel
theorem dc_202_67 : am_dc 202 67 = some (.aload_n 0, 68, 0) := by decide +kernel
theorem dc_202_68 : am_dc 202 68 = some (.invokevirtual 112, 71, 0) := by decide +kernel
theorem dc_202_71 : am_dc 202 71 = some (.ifCond .ne 5, 74, 76) := by decide +kernel
theorem dc_202_74 : am_dc 202 74 = some (.iconst 0, 75, 0) := by decide +kernel
theorem dc_202_75 : am_dc 202 75 = some (.ireturn, 76, 0) := by decide +kernel
theorem dc_202_76 : am_dc 202 76 = some (.aload_n 0, 77, 0) := by decide +kernel
theorem dc_202_77 : am_dc 202 77 = some (.getfield 40, 80, 0) := by decide +kernel
theorem dc_202_80 : am_dc 202 80 = some (.aload_n 0, 81, 0) := by decide +kernel
theorem dc_202_81 : am_dc 202 81 = some (.getfield 103, 84, 0) := by decide +kernel
theorem dc_202_84 : am_dc 202 84 = some (.aload_n 0, 85, 0) := by decide +kernel
theorem dc_202_85 : am_dc 202 85 = some (.getfield 100, 88, 0) := by decide +kernel
theorem dc_202_88 : am_dc 202 88 = some (.iastore, 89, 0) := by decide +kernel
theorem dc_202_89 : am_dc 202 89 = some (.aload_n 0, 90, 0) := by decide +kernel
theorem dc_202_90 : am_dc 202 90 = some (.bipush 47, 92, 0) := by decide +kernel
theorem dc_202_92 : am_dc 202 92 = some (.invokevirtual 119, 95, 0) := by decide +kernel
theorem dc_202_95 : am_dc 202 95 = some (.ifCond .eq 10, 98, 105) := by decide +kernel
theorem dc_202_98 : am_dc 202 98 = some (.aload_n 0, 99, 0) := by decide +kernel
theorem dc_202_99 : am_dc 202 99 = some (.invokevirtual 112, 102, 0) := by decide +kernel
theorem dc_202_102 : am_dc 202 102 = some (.ifCond .ne 5, 105, 107) := by decide +kernel
theorem dc_202_105 : am_dc 202 105 = some (.iconst 0, 106, 0) := by decide +kernel
theorem dc_202_106 : am_dc 202 106 = some (.ireturn, 107, 0) := by decide +kernel
theorem dc_202_107 : am_dc 202 107 = some (.aload_n 0, 108, 0) := by decide +kernel
theorem dc_202_108 : am_dc 202 108 = some (.getfield 43, 111, 0) := by decide +kernel
theorem dc_202_111 : am_dc 202 111 = some (.aload_n 0, 112, 0) := by decide +kernel
theorem dc_202_112 : am_dc 202 112 = some (.getfield 103, 115, 0) := by decide +kernel
theorem dc_202_115 : am_dc 202 115 = some (.aload_n 0, 116, 0) := by decide +kernel
theorem dc_202_116 : am_dc 202 116 = some (.getfield 100, 119, 0) := by decide +kernel
theorem dc_202_119 : am_dc 202 119 = some (.iastore, 120, 0) := by decide +kernel
theorem dc_202_120 : am_dc 202 120 = some (.aload_n 0, 121, 0) := by decide +kernel
theorem dc_202_121 : am_dc 202 121 = some (.dup, 122, 0) := by decide +kernel
theorem dc_202_122 : am_dc 202 122 = some (.getfield 103, 125, 0) := by decide +kernel
theorem dc_202_125 : am_dc 202 125 = some (.iconst 1, 126, 0) := by decide +kernel
theorem dc_202_126 : am_dc 202 126 = some (.iadd, 127, 0) := by decide +kernel
theorem dc_202_127 : am_dc 202 127 = some (.putfield 103, 130, 0) := by decide +kernel
theorem dc_202_130 : am_dc 202 130 = some (.goto (-72), 133, 58) := by decide +kernel
theorem dc_202_133 : am_dc 202 133 = some (.aload_n 0, 134, 0) := by decide +kernel
theorem dc_202_134 : am_dc 202 134 = some (.invokevirtual 92, 137, 0) := by decide +kernel
theorem dc_202_137 : am_dc 202 137 = some (.istore_n 1, 138, 0) := by decide +kernel
theorem dc_202_138 : am_dc 202 138 = some (.iload_n 1, 139, 0) := by decide +kernel
theorem dc_202_139 : am_dc 202 139 = some (.bipush 59, 141, 0) := by decide +kernel
theorem dc_202_141 : am_dc 202 141 = some (.if_icmp .ne 5, 144, 146) := by decide +kernel
theorem dc_202_144 : am_dc 202 144 = some (.iconst 1, 145, 0) := by decide +kernel
theorem dc_202_145 : am_dc 202 145 = some (.ireturn, 146, 0) := by decide +kernel
theorem dc_202_146 : am_dc 202 146 = some (.iload_n 1, 147, 0) := by decide +kernel
theorem dc_202_147 : am_dc 202 147 = some (.bipush 63, 149, 0) := by decide +kernel
theorem dc_202_149 : am_dc 202 149 = some (.if_icmp .eq 29, 152, 178) := by decide +kernel
theorem dc_202_152 : am_dc 202 152 = some (.iload_n 1, 153, 0) := by decide +kernel
theorem dc_202_153 : am_dc 202 153 = some (.bipush 33, 155, 0) := by decide +kernel
theorem dc_202_155 : am_dc 202 155 = some (.if_icmp .eq 23, 158, 178) := by decide +kernel
theorem dc_202_158 : am_dc 202 158 = some (.iload_n 1, 159, 0) := by decide +kernel
theorem dc_202_159 : am_dc 202 159 = some (.bipush 60, 161, 0) := by decide +kernel
theorem dc_202_161 : am_dc 202 161 = some (.if_icmp .eq 17, 164, 178) := by decide +kernel
theorem dc_202_164 : am_dc 202 164 = some (.iload_n 1, 165, 0) := by decide +kernel
theorem dc_202_165 : am_dc 202 165 = some (.bipush 62, 167, 0) := by decide +kernel
theorem dc_202_167 : am_dc 202 167 = some (.if_icmp .eq 11, 170, 178) := by decide +kernel
theorem dc_202_170 : am_dc 202 170 = some (.iload_n 1, 171, 0) := by decide +kernel
theorem dc_202_171 : am_dc 202 171 = some (.bipush 64, 173, 0) := by decide +kernel
theorem dc_202_173 : am_dc 202 173 = some (.if_icmp .eq 5, 176, 178) := by decide +kernel
theorem dc_202_176 : am_dc 202 176 = some (.iconst 0, 177, 0) := by decide +kernel
theorem dc_202_177 : am_dc 202 177 = some (.ireturn, 178, 0) := by decide +kernel
theorem dc_202_178 : am_dc 202 178 = some (.aload_n 0, 179, 0) := by decide +kernel
theorem dc_202_179 : am_dc 202 179 = some (.dup, 180, 0) := by decide +kernel
theorem dc_202_180 : am_dc 202 180 = some (.getfield 83, 183, 0) := by decide +kernel
theorem dc_202_183 : am_dc 202 183 = some (.iconst 1, 184, 0) := by decide +kernel
theorem dc_202_184 : am_dc 202 184 = some (.iadd, 185, 0) := by decide +kernel
theorem dc_202_185 : am_dc 202 185 = some (.putfield 83, 188, 0) := by decide +kernel
theorem dc_202_188 : am_dc 202 188 = some (.aload_n 0, 189, 0) := by decide +kernel
theorem dc_202_189 : am_dc 202 189 = some (.iload_n 1, 190, 0) := by decide +kernel
theorem dc_202_190 : am_dc 202 190 = some (.putfield 109, 193, 0) := by decide +kernel
theorem dc_202_193 : am_dc 202 193 = some (.iload_n 1, 194, 0) := by decide +kernel
theorem dc_202_194 : am_dc 202 194 = some (.bipush 33, 196, 0) := by decide +kernel
theorem dc_202_196 : am_dc 202 196 = some (.if_icmp .ne 5, 199, 201) := by decide +kernel
theorem dc_202_199 : am_dc 202 199 = some (.iconst 1, 200, 0) := by decide +kernel
theorem dc_202_200 : am_dc 202 200 = some (.ireturn, 201, 0) := by decide +kernel
theorem dc_202_201 : am_dc 202 201 = some (.aload_n 0, 202, 0) := by decide +kernel
theorem dc_202_202 : am_dc 202 202 = some (.invokevirtual 112, 205, 0) := by decide +kernel
theorem dc_202_205 : am_dc 202 205 = some (.ifCond .ne 5, 208, 210) := by decide +kernel
theorem dc_202_208 : am_dc 202 208 = some (.iconst 0, 209, 0) := by decide +kernel
theorem dc_202_209 : am_dc 202 209 = some (.ireturn, 210, 0) := by decide +kernel
theorem dc_202_210 : am_dc 202 210 = some (.aload_n 0, 211, 0) := by decide +kernel
theorem dc_202_211 : am_dc 202 211 = some (.aload_n 0, 212, 0) := by decide +kernel
theorem dc_202_212 : am_dc 202 212 = some (.getfield 100, 215, 0) := by decide +kernel
theorem dc_202_215 : am_dc 202 215 = some (.putfield 126, 218, 0) := by decide +kernel
theorem dc_202_218 : am_dc 202 218 = some (.iload_n 1, 219, 0) := by decide +kernel
theorem dc_202_219 : am_dc 202 219 = some (.bipush 62, 221, 0) := by decide +kernel
theorem dc_202_221 : am_dc 202 221 = some (.if_icmp .ne 47, 224, 268) := by decide +kernel
theorem dc_202_224 : am_dc 202 224 = some (.aload_n 0, 225, 0) := by decide +kernel
theorem dc_202_225 : am_dc 202 225 = some (.bipush 32, 227, 0) := by decide +kernel
theorem dc_202_227 : am_dc 202 227 = some (.invokevirtual 119, 230, 0) := by decide +kernel
theorem dc_202_230 : am_dc 202 230 = some (.ifCond .eq 38, 233, 268) := by decide +kernel
theorem dc_202_233 : am_dc 202 233 = some (.aload_n 0, 234, 0) := by decide +kernel
theorem dc_202_234 : am_dc 202 234 = some (.invokevirtual 112, 237, 0) := by decide +kernel
theorem dc_202_237 : am_dc 202 237 = some (.ifCond .ne 5, 240, 242) := by decide +kernel
theorem dc_202_240 : am_dc 202 240 = some (.iconst 0, 241, 0) := by decide +kernel
theorem dc_202_241 : am_dc 202 241 = some (.ireturn, 242, 0) := by decide +kernel
theorem dc_202_242 : am_dc 202 242 = some (.aload_n 0, 243, 0) := by decide +kernel
theorem dc_202_243 : am_dc 202 243 = some (.getfield 46, 246, 0) := by decide +kernel
theorem dc_202_246 : am_dc 202 246 = some (.aload_n 0, 247, 0) := by decide +kernel
theorem dc_202_247 : am_dc 202 247 = some (.getfield 106, 250, 0) := by decide +kernel
theorem dc_202_250 : am_dc 202 250 = some (.aload_n 0, 251, 0) := by decide +kernel
theorem dc_202_251 : am_dc 202 251 = some (.getfield 100, 254, 0) := by decide +kernel
theorem dc_202_254 : am_dc 202 254 = some (.iastore, 255, 0) := by decide +kernel
theorem dc_202_255 : am_dc 202 255 = some (.aload_n 0, 256, 0) := by decide +kernel
theorem dc_202_256 : am_dc 202 256 = some (.dup, 257, 0) := by decide +kernel
theorem dc_202_257 : am_dc 202 257 = some (.getfield 106, 260, 0) := by decide +kernel
theorem dc_202_260 : am_dc 202 260 = some (.iconst 1, 261, 0) := by decide +kernel
theorem dc_202_261 : am_dc 202 261 = some (.iadd, 262, 0) := by decide +kernel
theorem dc_202_262 : am_dc 202 262 = some (.putfield 106, 265, 0) := by decide +kernel
theorem dc_202_265 : am_dc 202 265 = some (.goto (-47), 268, 218) := by decide +kernel
theorem dc_202_268 : am_dc 202 268 = some (.iconst 1, 269, 0) := by decide +kernel
theorem dc_202_269 : am_dc 202 269 = some (.ireturn, 270, 0) := by decide +kernel
theorem dc_203_0 : am_dc 203 0 = some (.aload_n 0, 1, 0) := by decide +kernel
theorem dc_203_1 : am_dc 203 1 = some (.getfield 9, 4, 0) := by decide +kernel
theorem dc_203_4 : am_dc 203 4 = some (.bipush 116, 6, 0) := by decide +kernel
theorem dc_203_6 : am_dc 203 6 = some (.iaload, 7, 0) := by decide +kernel
theorem dc_203_7 : am_dc 203 7 = some (.istore_n 1, 8, 0) := by decide +kernel
theorem dc_203_8 : am_dc 203 8 = some (.aload_n 0, 9, 0) := by decide +kernel
theorem dc_203_9 : am_dc 203 9 = some (.getfield 109, 12, 0) := by decide +kernel
theorem dc_203_12 : am_dc 203 12 = some (.bipush 63, 14, 0) := by decide +kernel
theorem dc_203_14 : am_dc 203 14 = some (.if_icmp .ne 7, 17, 21) := by decide +kernel
theorem dc_203_17 : am_dc 203 17 = some (.iconst 1, 18, 0) := by decide +kernel
theorem dc_203_18 : am_dc 203 18 = some (.goto 56, 21, 74) := by decide +kernel
theorem dc_203_21 : am_dc 203 21 = some (.aload_n 0, 22, 0) := by decide +kernel
theorem dc_203_22 : am_dc 203 22 = some (.getfield 109, 25, 0) := by decide +kernel
theorem dc_203_25 : am_dc 203 25 = some (.bipush 33, 27, 0) := by decide +kernel
theorem dc_203_27 : am_dc 203 27 = some (.if_icmp .ne 7, 30, 34) := by decide +kernel
theorem dc_203_30 : am_dc 203 30 = some (.iconst 2, 31, 0) := by decide +kernel
theorem dc_203_31 : am_dc 203 31 = some (.goto 43, 34, 74) := by decide +kernel
theorem dc_203_34 : am_dc 203 34 = some (.aload_n 0, 35, 0) := by decide +kernel
theorem dc_203_35 : am_dc 203 35 = some (.getfield 109, 38, 0) := by decide +kernel
theorem dc_203_38 : am_dc 203 38 = some (.bipush 60, 40, 0) := by decide +kernel
theorem dc_203_40 : am_dc 203 40 = some (.if_icmp .ne 7, 43, 47) := by decide +kernel
theorem dc_203_43 : am_dc 203 43 = some (.iconst 3, 44, 0) := by decide +kernel
theorem dc_203_44 : am_dc 203 44 = some (.goto 30, 47, 74) := by decide +kernel
theorem dc_203_47 : am_dc 203 47 = some (.aload_n 0, 48, 0) := by decide +kernel
theorem dc_203_48 : am_dc 203 48 = some (.getfield 109, 51, 0) := by decide +kernel
theorem dc_203_51 : am_dc 203 51 = some (.bipush 62, 53, 0) := by decide +kernel
theorem dc_203_53 : am_dc 203 53 = some (.if_icmp .ne 7, 56, 60) := by decide +kernel
theorem dc_203_56 : am_dc 203 56 = some (.iconst 4, 57, 0) := by decide +kernel
theorem dc_203_57 : am_dc 203 57 = some (.goto 17, 60, 74) := by decide +kernel
theorem dc_203_60 : am_dc 203 60 = some (.aload_n 0, 61, 0) := by decide +kernel
theorem dc_203_61 : am_dc 203 61 = some (.getfield 109, 64, 0) := by decide +kernel
theorem dc_203_64 : am_dc 203 64 = some (.bipush 64, 66, 0) := by decide +kernel
theorem dc_203_66 : am_dc 203 66 = some (.if_icmp .ne 7, 69, 73) := by decide +kernel
theorem dc_203_69 : am_dc 203 69 = some (.iconst 5, 70, 0) := by decide +kernel
theorem dc_203_70 : am_dc 203 70 = some (.goto 4, 73, 74) := by decide +kernel
theorem dc_203_73 : am_dc 203 73 = some (.iconst 0, 74, 0) := by decide +kernel
theorem dc_203_74 : am_dc 203 74 = some (.istore_n 2, 75, 0) := by decide +kernel
theorem dc_203_75 : am_dc 203 75 = some (.iload_n 1, 76, 0) := by decide +kernel
theorem dc_203_76 : am_dc 203 76 = some (.iconst 5, 77, 0) := by decide +kernel
theorem dc_203_77 : am_dc 203 77 = some (.if_icmp .eq 67, 80, 144) := by decide +kernel
theorem dc_203_80 : am_dc 203 80 = some (.aload_n 0, 81, 0) := by decide +kernel
theorem dc_203_81 : am_dc 203 81 = some (.getfield 123, 84, 0) := by decide +kernel
theorem dc_203_84 : am_dc 203 84 = some (.bipush 9, 86, 0) := by decide +kernel
theorem dc_203_86 : am_dc 203 86 = some (.if_icmp .gt 58, 89, 144) := by decide +kernel
theorem dc_203_89 : am_dc 203 89 = some (.aload_n 0, 90, 0) := by decide +kernel
theorem dc_203_90 : am_dc 203 90 = some (.invokevirtual 146, 93, 0) := by decide +kernel
theorem dc_203_93 : am_dc 203 93 = some (.ifCond .eq 51, 96, 144) := by decide +kernel
theorem dc_203_96 : am_dc 203 96 = some (.iload_n 2, 97, 0) := by decide +kernel
theorem dc_203_97 : am_dc 203 97 = some (.iconst 3, 98, 0) := by decide +kernel
theorem dc_203_98 : am_dc 203 98 = some (.if_icmp .ne 14, 101, 112) := by decide +kernel
theorem dc_203_101 : am_dc 203 101 = some (.aload_n 0, 102, 0) := by decide +kernel
theorem dc_203_102 : am_dc 203 102 = some (.aload_n 0, 103, 0) := by decide +kernel
theorem dc_203_103 : am_dc 203 103 = some (.getfield 126, 106, 0) := by decide +kernel
theorem dc_203_106 : am_dc 203 106 = some (.invokevirtual 136, 109, 0) := by decide +kernel
theorem dc_203_109 : am_dc 203 109 = some (.ifCond .eq 35, 112, 144) := by decide +kernel
theorem dc_203_112 : am_dc 203 112 = some (.iload_n 2, 113, 0) := by decide +kernel
theorem dc_203_113 : am_dc 203 113 = some (.iconst 4, 114, 0) := by decide +kernel
theorem dc_203_114 : am_dc 203 114 = some (.if_icmp .ne 10, 117, 124) := by decide +kernel
theorem dc_203_117 : am_dc 203 117 = some (.aload_n 0, 118, 0) := by decide +kernel
theorem dc_203_118 : am_dc 203 118 = some (.invokevirtual 149, 121, 0) := by decide +kernel
theorem dc_203_121 : am_dc 203 121 = some (.ifCond .eq 23, 124, 144) := by decide +kernel
theorem dc_203_124 : am_dc 203 124 = some (.iload_n 2, 125, 0) := by decide +kernel
theorem dc_203_125 : am_dc 203 125 = some (.iconst 5, 126, 0) := by decide +kernel
theorem dc_203_126 : am_dc 203 126 = some (.if_icmp .ne 20, 129, 146) := by decide +kernel
theorem dc_203_129 : am_dc 203 129 = some (.aload_n 0, 130, 0) := by decide +kernel
theorem dc_203_130 : am_dc 203 130 = some (.getfield 126, 133, 0) := by decide +kernel
theorem dc_203_133 : am_dc 203 133 = some (.i2l, 134, 0) := by decide +kernel
theorem dc_203_134 : am_dc 203 134 = some (.lconst 1, 135, 0) := by decide +kernel
theorem dc_203_135 : am_dc 203 135 = some (.ldc2_w 152, 138, 0) := by decide +kernel
theorem dc_203_138 : am_dc 203 138 = some (.invokestatic 73, 141, 0) := by decide +kernel
theorem dc_203_141 : am_dc 203 141 = some (.ifCond .ne 5, 144, 146) := by decide +kernel
theorem dc_203_144 : am_dc 203 144 = some (.iconst 0, 145, 0) := by decide +kernel
theorem dc_203_145 : am_dc 203 145 = some (.ireturn, 146, 0) := by decide +kernel
theorem dc_203_146 : am_dc 203 146 = some (.bipush 18, 148, 0) := by decide +kernel
theorem dc_203_148 : am_dc 203 148 = some (.iload_n 1, 149, 0) := by decide +kernel
theorem dc_203_149 : am_dc 203 149 = some (.imul, 150, 0) := by decide +kernel
theorem dc_203_150 : am_dc 203 150 = some (.istore_n 3, 151, 0) := by decide +kernel
theorem dc_203_151 : am_dc 203 151 = some (.iconst 0, 152, 0) := by decide +kernel
theorem dc_203_152 : am_dc 203 152 = some (.istore 4, 154, 0) := by decide +kernel
theorem dc_203_154 : am_dc 203 154 = some (.iload 4, 156, 0) := by decide +kernel
theorem dc_203_156 : am_dc 203 156 = some (.bipush 18, 158, 0) := by decide +kernel
theorem dc_203_158 : am_dc 203 158 = some (.if_icmp .ge 19, 161, 177) := by decide +kernel
theorem dc_203_161 : am_dc 203 161 = some (.aload_n 0, 162, 0) := by decide +kernel
theorem dc_203_162 : am_dc 203 162 = some (.getfield 9, 165, 0) := by decide +kernel
theorem dc_203_165 : am_dc 203 165 = some (.iload_n 3, 166, 0) := by decide +kernel
theorem dc_203_166 : am_dc 203 166 = some (.iload 4, 168, 0) := by decide +kernel
theorem dc_203_168 : am_dc 203 168 = some (.iadd, 169, 0) := by decide +kernel
theorem dc_203_169 : am_dc 203 169 = some (.iconst 0, 170, 0) := by decide +kernel
theorem dc_203_170 : am_dc 203 170 = some (.iastore, 171, 0) := by decide +kernel
theorem dc_203_171 : am_dc 203 171 = some (.iinc 4 1, 174, 0) := by decide +kernel
theorem dc_203_174 : am_dc 203 174 = some (.goto (-20), 177, 154) := by decide +kernel
theorem dc_203_177 : am_dc 203 177 = some (.aload_n 0, 178, 0) := by decide +kernel
theorem dc_203_178 : am_dc 203 178 = some (.getfield 9, 181, 0) := by decide +kernel
theorem dc_203_181 : am_dc 203 181 = some (.iload_n 3, 182, 0) := by decide +kernel
theorem dc_203_182 : am_dc 203 182 = some (.iload_n 2, 183, 0) := by decide +kernel
theorem dc_203_183 : am_dc 203 183 = some (.iastore, 184, 0) := by decide +kernel
theorem dc_203_184 : am_dc 203 184 = some (.aload_n 0, 185, 0) := by decide +kernel
theorem dc_203_185 : am_dc 203 185 = some (.getfield 9, 188, 0) := by decide +kernel
theorem dc_203_188 : am_dc 203 188 = some (.iload_n 3, 189, 0) := by decide +kernel
theorem dc_203_189 : am_dc 203 189 = some (.iconst 1, 190, 0) := by decide +kernel
theorem dc_203_190 : am_dc 203 190 = some (.iadd, 191, 0) := by decide +kernel
theorem dc_203_191 : am_dc 203 191 = some (.aload_n 0, 192, 0) := by decide +kernel
theorem dc_203_192 : am_dc 203 192 = some (.getfield 116, 195, 0) := by decide +kernel
theorem dc_203_195 : am_dc 203 195 = some (.iastore, 196, 0) := by decide +kernel
theorem dc_203_196 : am_dc 203 196 = some (.aload_n 0, 197, 0) := by decide +kernel
theorem dc_203_197 : am_dc 203 197 = some (.getfield 9, 200, 0) := by decide +kernel
theorem dc_203_200 : am_dc 203 200 = some (.iload_n 3, 201, 0) := by decide +kernel
theorem dc_203_201 : am_dc 203 201 = some (.iconst 2, 202, 0) := by decide +kernel
theorem dc_203_202 : am_dc 203 202 = some (.iadd, 203, 0) := by decide +kernel
theorem dc_203_203 : am_dc 203 203 = some (.aload_n 0, 204, 0) := by decide +kernel
theorem dc_203_204 : am_dc 203 204 = some (.getfield 123, 207, 0) := by decide +kernel
theorem dc_203_207 : am_dc 203 207 = some (.iastore, 208, 0) := by decide +kernel
theorem dc_203_208 : am_dc 203 208 = some (.aload_n 0, 209, 0) := by decide +kernel
theorem dc_203_209 : am_dc 203 209 = some (.getfield 9, 212, 0) := by decide +kernel
theorem dc_203_212 : am_dc 203 212 = some (.iload_n 3, 213, 0) := by decide +kernel
theorem dc_203_213 : am_dc 203 213 = some (.iconst 3, 214, 0) := by decide +kernel
theorem dc_203_214 : am_dc 203 214 = some (.iadd, 215, 0) := by decide +kernel
theorem dc_203_215 : am_dc 203 215 = some (.aload_n 0, 216, 0) := by decide +kernel
theorem dc_203_216 : am_dc 203 216 = some (.getfield 103, 219, 0) := by decide +kernel
theorem dc_203_219 : am_dc 203 219 = some (.iastore, 220, 0) := by decide +kernel
theorem dc_203_220 : am_dc 203 220 = some (.aload_n 0, 221, 0) := by decide +kernel
theorem dc_203_221 : am_dc 203 221 = some (.getfield 9, 224, 0) := by decide +kernel
theorem dc_203_224 : am_dc 203 224 = some (.iload_n 3, 225, 0) := by decide +kernel
theorem dc_203_225 : am_dc 203 225 = some (.iconst 4, 226, 0) := by decide +kernel
theorem dc_203_226 : am_dc 203 226 = some (.iadd, 227, 0) := by decide +kernel
theorem dc_203_227 : am_dc 203 227 = some (.iload_n 2, 228, 0) := by decide +kernel
theorem dc_203_228 : am_dc 203 228 = some (.ifCond .eq 8, 231, 236) := by decide +kernel
theorem dc_203_231 : am_dc 203 231 = some (.iload_n 2, 232, 0) := by decide +kernel
theorem dc_203_232 : am_dc 203 232 = some (.iconst 2, 233, 0) := by decide +kernel
theorem dc_203_233 : am_dc 203 233 = some (.if_icmp .ne 8, 236, 241) := by decide +kernel
theorem dc_203_236 : am_dc 203 236 = some (.bipush (-4), 238, 0) := by decide +kernel
theorem dc_203_238 : am_dc 203 238 = some (.goto 7, 241, 245) := by decide +kernel
theorem dc_203_241 : am_dc 203 241 = some (.aload_n 0, 242, 0) := by decide +kernel
theorem dc_203_242 : am_dc 203 242 = some (.getfield 126, 245, 0) := by decide +kernel
theorem dc_203_245 : am_dc 203 245 = some (.iastore, 246, 0) := by decide +kernel
theorem dc_203_246 : am_dc 203 246 = some (.aload_n 0, 247, 0) := by decide +kernel
theorem dc_203_247 : am_dc 203 247 = some (.getfield 9, 250, 0) := by decide +kernel
theorem dc_203_250 : am_dc 203 250 = some (.iload_n 3, 251, 0) := by decide +kernel
theorem dc_203_251 : am_dc 203 251 = some (.iconst 5, 252, 0) := by decide +kernel
theorem dc_203_252 : am_dc 203 252 = some (.iadd, 253, 0) := by decide +kernel
theorem dc_203_253 : am_dc 203 253 = some (.bipush (-4), 255, 0) := by decide +kernel
theorem dc_203_255 : am_dc 203 255 = some (.iastore, 256, 0) := by decide +kernel
theorem dc_203_256 : am_dc 203 256 = some (.iconst 0, 257, 0) := by decide +kernel
theorem dc_203_257 : am_dc 203 257 = some (.istore 4, 259, 0) := by decide +kernel
theorem dc_203_259 : am_dc 203 259 = some (.iload 4, 261, 0) := by decide +kernel
theorem dc_203_261 : am_dc 203 261 = some (.aload_n 0, 262, 0) := by decide +kernel
theorem dc_203_262 : am_dc 203 262 = some (.getfield 103, 265, 0) := by decide +kernel
theorem dc_203_265 : am_dc 203 265 = some (.if_icmp .ge 47, 268, 312) := by decide +kernel
theorem dc_203_268 : am_dc 203 268 = some (.aload_n 0, 269, 0) := by decide +kernel
theorem dc_203_269 : am_dc 203 269 = some (.getfield 9, 272, 0) := by decide +kernel
theorem dc_203_272 : am_dc 203 272 = some (.iload_n 3, 273, 0) := by decide +kernel
theorem dc_203_273 : am_dc 203 273 = some (.bipush 6, 275, 0) := by decide +kernel
theorem dc_203_275 : am_dc 203 275 = some (.iadd, 276, 0) := by decide +kernel
theorem dc_203_276 : am_dc 203 276 = some (.iload 4, 278, 0) := by decide +kernel
theorem dc_203_278 : am_dc 203 278 = some (.iadd, 279, 0) := by decide +kernel
theorem dc_203_279 : am_dc 203 279 = some (.aload_n 0, 280, 0) := by decide +kernel
theorem dc_203_280 : am_dc 203 280 = some (.getfield 40, 283, 0) := by decide +kernel
theorem dc_203_283 : am_dc 203 283 = some (.iload 4, 285, 0) := by decide +kernel
theorem dc_203_285 : am_dc 203 285 = some (.iaload, 286, 0) := by decide +kernel
theorem dc_203_286 : am_dc 203 286 = some (.iastore, 287, 0) := by decide +kernel
theorem dc_203_287 : am_dc 203 287 = some (.aload_n 0, 288, 0) := by decide +kernel
theorem dc_203_288 : am_dc 203 288 = some (.getfield 9, 291, 0) := by decide +kernel
theorem dc_203_291 : am_dc 203 291 = some (.iload_n 3, 292, 0) := by decide +kernel
theorem dc_203_292 : am_dc 203 292 = some (.bipush 10, 294, 0) := by decide +kernel
theorem dc_203_294 : am_dc 203 294 = some (.iadd, 295, 0) := by decide +kernel
theorem dc_203_295 : am_dc 203 295 = some (.iload 4, 297, 0) := by decide +kernel
theorem dc_203_297 : am_dc 203 297 = some (.iadd, 298, 0) := by decide +kernel
theorem dc_203_298 : am_dc 203 298 = some (.aload_n 0, 299, 0) := by decide +kernel
theorem dc_203_299 : am_dc 203 299 = some (.getfield 43, 302, 0) := by decide +kernel
theorem dc_203_302 : am_dc 203 302 = some (.iload 4, 304, 0) := by decide +kernel
theorem dc_203_304 : am_dc 203 304 = some (.iaload, 305, 0) := by decide +kernel
