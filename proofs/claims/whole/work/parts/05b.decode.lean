theorem dX3_importsHold_0 : decode cX3_importsHold 0 = .ok (.aload_n 0, 1) := by decide +kernel
theorem dX3_importsHold_1 : decode cX3_importsHold 1 = .ok (.aload_n 0, 1) := by decide +kernel
theorem dX3_importsHold_2 : decode cX3_importsHold 2 = .ok (.getfield 66, 3) := by decide +kernel
theorem dX3_importsHold_5 : decode cX3_importsHold 5 = .ok (.bipush 16, 2) := by decide +kernel
theorem dX3_importsHold_7 : decode cX3_importsHold 7 = .ok (.iadd, 1) := by decide +kernel
theorem dX3_importsHold_8 : decode cX3_importsHold 8 = .ok (.invokevirtual 91, 3) := by decide +kernel
theorem dX3_importsHold_11 : decode cX3_importsHold 11 = .ok (.lstore_n 1, 1) := by decide +kernel
theorem dX3_importsHold_12 : decode cX3_importsHold 12 = .ok (.aload_n 0, 1) := by decide +kernel
theorem dX3_importsHold_13 : decode cX3_importsHold 13 = .ok (.lload_n 1, 1) := by decide +kernel
theorem dX3_importsHold_14 : decode cX3_importsHold 14 = .ok (.ldc2_w 109, 3) := by decide +kernel
theorem dX3_importsHold_17 : decode cX3_importsHold 17 = .ok (.lcmp, 1) := by decide +kernel
theorem dX3_importsHold_18 : decode cX3_importsHold 18 = .ok (.ifCond .gt 7, 3) := by decide +kernel
theorem dX3_importsHold_21 : decode cX3_importsHold 21 = .ok (.iconst 1, 1) := by decide +kernel
theorem dX3_importsHold_22 : decode cX3_importsHold 22 = .ok (.goto 4, 3) := by decide +kernel
theorem dX3_importsHold_25 : decode cX3_importsHold 25 = .ok (.iconst 0, 1) := by decide +kernel
theorem dX3_importsHold_26 : decode cX3_importsHold 26 = .ok (.aload_n 0, 1) := by decide +kernel
theorem dX3_importsHold_27 : decode cX3_importsHold 27 = .ok (.getfield 66, 3) := by decide +kernel
theorem dX3_importsHold_30 : decode cX3_importsHold 30 = .ok (.bipush 16, 2) := by decide +kernel
theorem dX3_importsHold_32 : decode cX3_importsHold 32 = .ok (.iadd, 1) := by decide +kernel
theorem dX3_importsHold_33 : decode cX3_importsHold 33 = .ok (.invokevirtual 95, 3) := by decide +kernel
theorem dX3_importsHold_36 : decode cX3_importsHold 36 = .ok (.ifCond .eq 48, 3) := by decide +kernel
theorem dX3_importsHold_39 : decode cX3_importsHold 39 = .ok (.aload_n 0, 1) := by decide +kernel
theorem dX3_importsHold_40 : decode cX3_importsHold 40 = .ok (.aload_n 0, 1) := by decide +kernel
theorem dX3_importsHold_41 : decode cX3_importsHold 41 = .ok (.aload_n 0, 1) := by decide +kernel
theorem dX3_importsHold_42 : decode cX3_importsHold 42 = .ok (.getfield 66, 3) := by decide +kernel
theorem dX3_importsHold_45 : decode cX3_importsHold 45 = .ok (.bipush 8, 2) := by decide +kernel
theorem dX3_importsHold_47 : decode cX3_importsHold 47 = .ok (.iadd, 1) := by decide +kernel
theorem dX3_importsHold_48 : decode cX3_importsHold 48 = .ok (.invokevirtual 91, 3) := by decide +kernel
theorem dX3_importsHold_51 : decode cX3_importsHold 51 = .ok (.ldc2_w 99, 3) := by decide +kernel
theorem dX3_importsHold_54 : decode cX3_importsHold 54 = .ok (.lload_n 1, 1) := by decide +kernel
theorem dX3_importsHold_55 : decode cX3_importsHold 55 = .ok (.lmul, 1) := by decide +kernel
theorem dX3_importsHold_56 : decode cX3_importsHold 56 = .ok (.ladd, 1) := by decide +kernel
theorem dX3_importsHold_57 : decode cX3_importsHold 57 = .ok (.aload_n 0, 1) := by decide +kernel
theorem dX3_importsHold_58 : decode cX3_importsHold 58 = .ok (.getfield 72, 3) := by decide +kernel
theorem dX3_importsHold_61 : decode cX3_importsHold 61 = .ok (.i2l, 1) := by decide +kernel
theorem dX3_importsHold_62 : decode cX3_importsHold 62 = .ok (.lcmp, 1) := by decide +kernel
theorem dX3_importsHold_63 : decode cX3_importsHold 63 = .ok (.ifCond .gt 7, 3) := by decide +kernel
theorem dX3_importsHold_66 : decode cX3_importsHold 66 = .ok (.iconst 1, 1) := by decide +kernel
theorem dX3_importsHold_67 : decode cX3_importsHold 67 = .ok (.goto 4, 3) := by decide +kernel
theorem dX3_importsHold_70 : decode cX3_importsHold 70 = .ok (.iconst 0, 1) := by decide +kernel
theorem dX3_importsHold_71 : decode cX3_importsHold 71 = .ok (.aload_n 0, 1) := by decide +kernel
theorem dX3_importsHold_72 : decode cX3_importsHold 72 = .ok (.getfield 66, 3) := by decide +kernel
theorem dX3_importsHold_75 : decode cX3_importsHold 75 = .ok (.bipush 8, 2) := by decide +kernel
theorem dX3_importsHold_77 : decode cX3_importsHold 77 = .ok (.iadd, 1) := by decide +kernel
theorem dX3_importsHold_78 : decode cX3_importsHold 78 = .ok (.invokevirtual 95, 3) := by decide +kernel
theorem dX3_importsHold_81 : decode cX3_importsHold 81 = .ok (.ifCond .ne 5, 3) := by decide +kernel
theorem dX3_importsHold_84 : decode cX3_importsHold 84 = .ok (.iconst 0, 1) := by decide +kernel
theorem dX3_importsHold_85 : decode cX3_importsHold 85 = .ok (.ireturn, 1) := by decide +kernel
theorem dX3_importsHold_86 : decode cX3_importsHold 86 = .ok (.aload_n 0, 1) := by decide +kernel
theorem dX3_importsHold_87 : decode cX3_importsHold 87 = .ok (.getfield 66, 3) := by decide +kernel
theorem dX3_importsHold_90 : decode cX3_importsHold 90 = .ok (.aload_n 0, 1) := by decide +kernel
theorem dX3_importsHold_91 : decode cX3_importsHold 91 = .ok (.aload_n 0, 1) := by decide +kernel
theorem dX3_importsHold_92 : decode cX3_importsHold 92 = .ok (.getfield 66, 3) := by decide +kernel
theorem dX3_importsHold_95 : decode cX3_importsHold 95 = .ok (.bipush 8, 2) := by decide +kernel
theorem dX3_importsHold_97 : decode cX3_importsHold 97 = .ok (.iadd, 1) := by decide +kernel
theorem dX3_importsHold_98 : decode cX3_importsHold 98 = .ok (.invokevirtual 91, 3) := by decide +kernel
theorem dX3_importsHold_101 : decode cX3_importsHold 101 = .ok (.l2i, 1) := by decide +kernel
theorem dX3_importsHold_102 : decode cX3_importsHold 102 = .ok (.iadd, 1) := by decide +kernel
theorem dX3_importsHold_103 : decode cX3_importsHold 103 = .ok (.istore_n 3, 1) := by decide +kernel
theorem dX3_importsHold_104 : decode cX3_importsHold 104 = .ok (.aload_n 0, 1) := by decide +kernel
theorem dX3_importsHold_105 : decode cX3_importsHold 105 = .ok (.getfield 66, 3) := by decide +kernel
theorem dX3_importsHold_108 : decode cX3_importsHold 108 = .ok (.i2l, 1) := by decide +kernel
theorem dX3_importsHold_109 : decode cX3_importsHold 109 = .ok (.aload_n 0, 1) := by decide +kernel
theorem dX3_importsHold_110 : decode cX3_importsHold 110 = .ok (.aload_n 0, 1) := by decide +kernel
theorem dX3_importsHold_111 : decode cX3_importsHold 111 = .ok (.getfield 66, 3) := by decide +kernel
theorem dX3_importsHold_114 : decode cX3_importsHold 114 = .ok (.bipush 12, 2) := by decide +kernel
theorem dX3_importsHold_116 : decode cX3_importsHold 116 = .ok (.iadd, 1) := by decide +kernel
theorem dX3_importsHold_117 : decode cX3_importsHold 117 = .ok (.invokevirtual 91, 3) := by decide +kernel
theorem dX3_importsHold_120 : decode cX3_importsHold 120 = .ok (.ladd, 1) := by decide +kernel
theorem dX3_importsHold_121 : decode cX3_importsHold 121 = .ok (.lstore 4, 2) := by decide +kernel
theorem dX3_importsHold_123 : decode cX3_importsHold 123 = .ok (.aload_n 0, 1) := by decide +kernel
theorem dX3_importsHold_124 : decode cX3_importsHold 124 = .ok (.getfield 9, 3) := by decide +kernel
theorem dX3_importsHold_127 : decode cX3_importsHold 127 = .ok (.aload_n 0, 1) := by decide +kernel
theorem dX3_importsHold_128 : decode cX3_importsHold 128 = .ok (.getfield 66, 3) := by decide +kernel
theorem dX3_importsHold_131 : decode cX3_importsHold 131 = .ok (.aload_n 0, 1) := by decide +kernel
theorem dX3_importsHold_132 : decode cX3_importsHold 132 = .ok (.getfield 66, 3) := by decide +kernel
theorem dX3_importsHold_135 : decode cX3_importsHold 135 = .ok (.aload_n 0, 1) := by decide +kernel
theorem dX3_importsHold_136 : decode cX3_importsHold 136 = .ok (.getfield 72, 3) := by decide +kernel
theorem dX3_importsHold_139 : decode cX3_importsHold 139 = .ok (.iadd, 1) := by decide +kernel
theorem dX3_importsHold_140 : decode cX3_importsHold 140 = .ok (.invokevirtual 111, 3) := by decide +kernel
theorem dX3_importsHold_143 : decode cX3_importsHold 143 = .ok (.istore 6, 2) := by decide +kernel
theorem dX3_importsHold_145 : decode cX3_importsHold 145 = .ok (.iconst 0, 1) := by decide +kernel
theorem dX3_importsHold_146 : decode cX3_importsHold 146 = .ok (.istore 7, 2) := by decide +kernel
theorem dX3_importsHold_148 : decode cX3_importsHold 148 = .ok (.iload 7, 2) := by decide +kernel
theorem dX3_importsHold_150 : decode cX3_importsHold 150 = .ok (.i2l, 1) := by decide +kernel
theorem dX3_importsHold_151 : decode cX3_importsHold 151 = .ok (.lload_n 1, 1) := by decide +kernel
theorem dX3_importsHold_152 : decode cX3_importsHold 152 = .ok (.lcmp, 1) := by decide +kernel
theorem dX3_importsHold_153 : decode cX3_importsHold 153 = .ok (.ifCond .ge 111, 3) := by decide +kernel
theorem dX3_importsHold_156 : decode cX3_importsHold 156 = .ok (.aload_n 0, 1) := by decide +kernel
theorem dX3_importsHold_157 : decode cX3_importsHold 157 = .ok (.iload_n 3, 1) := by decide +kernel
theorem dX3_importsHold_158 : decode cX3_importsHold 158 = .ok (.iconst 4, 1) := by decide +kernel
theorem dX3_importsHold_159 : decode cX3_importsHold 159 = .ok (.iload 7, 2) := by decide +kernel
theorem dX3_importsHold_161 : decode cX3_importsHold 161 = .ok (.imul, 1) := by decide +kernel
theorem dX3_importsHold_162 : decode cX3_importsHold 162 = .ok (.iadd, 1) := by decide +kernel
theorem dX3_importsHold_163 : decode cX3_importsHold 163 = .ok (.invokevirtual 91, 3) := by decide +kernel
theorem dX3_importsHold_166 : decode cX3_importsHold 166 = .ok (.lstore 8, 2) := by decide +kernel
theorem dX3_importsHold_168 : decode cX3_importsHold 168 = .ok (.lload 4, 2) := by decide +kernel
theorem dX3_importsHold_170 : decode cX3_importsHold 170 = .ok (.lload 8, 2) := by decide +kernel
theorem dX3_importsHold_172 : decode cX3_importsHold 172 = .ok (.bipush 9, 2) := by decide +kernel
theorem dX3_importsHold_174 : decode cX3_importsHold 174 = .ok (.lushr, 1) := by decide +kernel
theorem dX3_importsHold_175 : decode cX3_importsHold 175 = .ok (.ladd, 1) := by decide +kernel
theorem dX3_importsHold_176 : decode cX3_importsHold 176 = .ok (.lstore 10, 2) := by decide +kernel
theorem dX3_importsHold_178 : decode cX3_importsHold 178 = .ok (.aload_n 0, 1) := by decide +kernel
theorem dX3_importsHold_179 : decode cX3_importsHold 179 = .ok (.lload 10, 2) := by decide +kernel
theorem dX3_importsHold_181 : decode cX3_importsHold 181 = .ok (.iload 6, 2) := by decide +kernel
theorem dX3_importsHold_183 : decode cX3_importsHold 183 = .ok (.i2l, 1) := by decide +kernel
theorem dX3_importsHold_184 : decode cX3_importsHold 184 = .ok (.lcmp, 1) := by decide +kernel
theorem dX3_importsHold_185 : decode cX3_importsHold 185 = .ok (.ifCond .gt 7, 3) := by decide +kernel
theorem dX3_importsHold_188 : decode cX3_importsHold 188 = .ok (.iconst 1, 1) := by decide +kernel
theorem dX3_importsHold_189 : decode cX3_importsHold 189 = .ok (.goto 4, 3) := by decide +kernel
theorem dX3_importsHold_192 : decode cX3_importsHold 192 = .ok (.iconst 0, 1) := by decide +kernel
theorem dX3_importsHold_193 : decode cX3_importsHold 193 = .ok (.iload_n 3, 1) := by decide +kernel
theorem dX3_importsHold_194 : decode cX3_importsHold 194 = .ok (.iconst 4, 1) := by decide +kernel
theorem dX3_importsHold_195 : decode cX3_importsHold 195 = .ok (.iload 7, 2) := by decide +kernel
theorem dX3_importsHold_197 : decode cX3_importsHold 197 = .ok (.imul, 1) := by decide +kernel
theorem dX3_importsHold_198 : decode cX3_importsHold 198 = .ok (.iadd, 1) := by decide +kernel
theorem dX3_importsHold_199 : decode cX3_importsHold 199 = .ok (.invokevirtual 95, 3) := by decide +kernel
theorem dX3_importsHold_202 : decode cX3_importsHold 202 = .ok (.ifCond .ne 5, 3) := by decide +kernel
theorem dX3_importsHold_205 : decode cX3_importsHold 205 = .ok (.iconst 0, 1) := by decide +kernel
theorem dX3_importsHold_206 : decode cX3_importsHold 206 = .ok (.ireturn, 1) := by decide +kernel
theorem dX3_importsHold_207 : decode cX3_importsHold 207 = .ok (.aload_n 0, 1) := by decide +kernel
theorem dX3_importsHold_208 : decode cX3_importsHold 208 = .ok (.getfield 45, 3) := by decide +kernel
theorem dX3_importsHold_211 : decode cX3_importsHold 211 = .ok (.iload 7, 2) := by decide +kernel
theorem dX3_importsHold_213 : decode cX3_importsHold 213 = .ok (.lload 8, 2) := by decide +kernel
theorem dX3_importsHold_215 : decode cX3_importsHold 215 = .ok (.ldc2_w 117, 3) := by decide +kernel
theorem dX3_importsHold_218 : decode cX3_importsHold 218 = .ok (.land, 1) := by decide +kernel
theorem dX3_importsHold_219 : decode cX3_importsHold 219 = .ok (.lconst 0, 1) := by decide +kernel
theorem dX3_importsHold_220 : decode cX3_importsHold 220 = .ok (.lcmp, 1) := by decide +kernel
theorem dX3_importsHold_221 : decode cX3_importsHold 221 = .ok (.ifCond .eq 7, 3) := by decide +kernel
theorem dX3_importsHold_224 : decode cX3_importsHold 224 = .ok (.iconst 1, 1) := by decide +kernel
theorem dX3_importsHold_225 : decode cX3_importsHold 225 = .ok (.goto 4, 3) := by decide +kernel
theorem dX3_importsHold_228 : decode cX3_importsHold 228 = .ok (.iconst 0, 1) := by decide +kernel
theorem dX3_importsHold_229 : decode cX3_importsHold 229 = .ok (.bastore, 1) := by decide +kernel
theorem dX3_importsHold_230 : decode cX3_importsHold 230 = .ok (.aload_n 0, 1) := by decide +kernel
theorem dX3_importsHold_231 : decode cX3_importsHold 231 = .ok (.getfield 49, 3) := by decide +kernel
theorem dX3_importsHold_234 : decode cX3_importsHold 234 = .ok (.iload 7, 2) := by decide +kernel
theorem dX3_importsHold_236 : decode cX3_importsHold 236 = .ok (.aload_n 0, 1) := by decide +kernel
theorem dX3_importsHold_237 : decode cX3_importsHold 237 = .ok (.getfield 19, 3) := by decide +kernel
theorem dX3_importsHold_240 : decode cX3_importsHold 240 = .ok (.lload 8, 2) := by decide +kernel
theorem dX3_importsHold_242 : decode cX3_importsHold 242 = .ok (.ldc2_w 119, 3) := by decide +kernel
theorem dX3_importsHold_245 : decode cX3_importsHold 245 = .ok (.land, 1) := by decide +kernel
theorem dX3_importsHold_246 : decode cX3_importsHold 246 = .ok (.l2i, 1) := by decide +kernel
theorem dX3_importsHold_247 : decode cX3_importsHold 247 = .ok (.aload_n 0, 1) := by decide +kernel
theorem dX3_importsHold_248 : decode cX3_importsHold 248 = .ok (.getfield 9, 3) := by decide +kernel
theorem dX3_importsHold_251 : decode cX3_importsHold 251 = .ok (.lload 10, 2) := by decide +kernel
theorem dX3_importsHold_253 : decode cX3_importsHold 253 = .ok (.l2i, 1) := by decide +kernel
theorem dX3_importsHold_254 : decode cX3_importsHold 254 = .ok (.invokevirtual 121, 3) := by decide +kernel
theorem dX3_importsHold_257 : decode cX3_importsHold 257 = .ok (.iastore, 1) := by decide +kernel
theorem dX3_importsHold_258 : decode cX3_importsHold 258 = .ok (.iinc 7 1, 3) := by decide +kernel
theorem dX3_importsHold_261 : decode cX3_importsHold 261 = .ok (.goto (-113), 3) := by decide +kernel
theorem dX3_importsHold_264 : decode cX3_importsHold 264 = .ok (.aload_n 0, 1) := by decide +kernel
theorem dX3_importsHold_265 : decode cX3_importsHold 265 = .ok (.lload_n 1, 1) := by decide +kernel
theorem dX3_importsHold_266 : decode cX3_importsHold 266 = .ok (.l2i, 1) := by decide +kernel
theorem dX3_importsHold_267 : decode cX3_importsHold 267 = .ok (.putfield 55, 3) := by decide +kernel
theorem dX3_importsHold_270 : decode cX3_importsHold 270 = .ok (.iconst 1, 1) := by decide +kernel
theorem dX3_importsHold_271 : decode cX3_importsHold 271 = .ok (.ireturn, 1) := by decide +kernel
theorem dX3_allPagesHold_0 : decode cX3_allPagesHold 0 = .ok (.iconst 0, 1) := by decide +kernel
theorem dX3_allPagesHold_1 : decode cX3_allPagesHold 1 = .ok (.istore_n 1, 1) := by decide +kernel
theorem dX3_allPagesHold_2 : decode cX3_allPagesHold 2 = .ok (.iload_n 1, 1) := by decide +kernel
theorem dX3_allPagesHold_3 : decode cX3_allPagesHold 3 = .ok (.aload_n 0, 1) := by decide +kernel
theorem dX3_allPagesHold_4 : decode cX3_allPagesHold 4 = .ok (.getfield 33, 3) := by decide +kernel
theorem dX3_allPagesHold_7 : decode cX3_allPagesHold 7 = .ok (.getfield 104, 3) := by decide +kernel
theorem dX3_allPagesHold_10 : decode cX3_allPagesHold 10 = .ok (.if_icmp .ge 113, 3) := by decide +kernel
theorem dX3_allPagesHold_13 : decode cX3_allPagesHold 13 = .ok (.aload_n 0, 1) := by decide +kernel
theorem dX3_allPagesHold_14 : decode cX3_allPagesHold 14 = .ok (.getfield 41, 3) := by decide +kernel
theorem dX3_allPagesHold_17 : decode cX3_allPagesHold 17 = .ok (.iload_n 1, 1) := by decide +kernel
theorem dX3_allPagesHold_18 : decode cX3_allPagesHold 18 = .ok (.iconst (-1), 1) := by decide +kernel
theorem dX3_allPagesHold_19 : decode cX3_allPagesHold 19 = .ok (.iastore, 1) := by decide +kernel
theorem dX3_allPagesHold_20 : decode cX3_allPagesHold 20 = .ok (.aload_n 0, 1) := by decide +kernel
theorem dX3_allPagesHold_21 : decode cX3_allPagesHold 21 = .ok (.getfield 66, 3) := by decide +kernel
theorem dX3_allPagesHold_24 : decode cX3_allPagesHold 24 = .ok (.aload_n 0, 1) := by decide +kernel
theorem dX3_allPagesHold_25 : decode cX3_allPagesHold 25 = .ok (.getfield 101, 3) := by decide +kernel
theorem dX3_allPagesHold_28 : decode cX3_allPagesHold 28 = .ok (.iadd, 1) := by decide +kernel
theorem dX3_allPagesHold_29 : decode cX3_allPagesHold 29 = .ok (.iconst 4, 1) := by decide +kernel
theorem dX3_allPagesHold_30 : decode cX3_allPagesHold 30 = .ok (.iadd, 1) := by decide +kernel
theorem dX3_allPagesHold_31 : decode cX3_allPagesHold 31 = .ok (.iconst 4, 1) := by decide +kernel
theorem dX3_allPagesHold_32 : decode cX3_allPagesHold 32 = .ok (.iload_n 1, 1) := by decide +kernel
theorem dX3_allPagesHold_33 : decode cX3_allPagesHold 33 = .ok (.imul, 1) := by decide +kernel
theorem dX3_allPagesHold_34 : decode cX3_allPagesHold 34 = .ok (.iadd, 1) := by decide +kernel
theorem dX3_allPagesHold_35 : decode cX3_allPagesHold 35 = .ok (.istore_n 2, 1) := by decide +kernel
theorem dX3_allPagesHold_36 : decode cX3_allPagesHold 36 = .ok (.aload_n 0, 1) := by decide +kernel
theorem dX3_allPagesHold_37 : decode cX3_allPagesHold 37 = .ok (.iload_n 2, 1) := by decide +kernel
theorem dX3_allPagesHold_38 : decode cX3_allPagesHold 38 = .ok (.invokevirtual 91, 3) := by decide +kernel
theorem dX3_allPagesHold_41 : decode cX3_allPagesHold 41 = .ok (.lstore_n 3, 1) := by decide +kernel
theorem dX3_allPagesHold_42 : decode cX3_allPagesHold 42 = .ok (.lload_n 3, 1) := by decide +kernel
theorem dX3_allPagesHold_43 : decode cX3_allPagesHold 43 = .ok (.lconst 0, 1) := by decide +kernel
theorem dX3_allPagesHold_44 : decode cX3_allPagesHold 44 = .ok (.lcmp, 1) := by decide +kernel
theorem dX3_allPagesHold_45 : decode cX3_allPagesHold 45 = .ok (.ifCond .eq 72, 3) := by decide +kernel
theorem dX3_allPagesHold_48 : decode cX3_allPagesHold 48 = .ok (.aload_n 0, 1) := by decide +kernel
theorem dX3_allPagesHold_49 : decode cX3_allPagesHold 49 = .ok (.aload_n 0, 1) := by decide +kernel
theorem dX3_allPagesHold_50 : decode cX3_allPagesHold 50 = .ok (.getfield 101, 3) := by decide +kernel
theorem dX3_allPagesHold_53 : decode cX3_allPagesHold 53 = .ok (.i2l, 1) := by decide +kernel
theorem dX3_allPagesHold_54 : decode cX3_allPagesHold 54 = .ok (.lload_n 3, 1) := by decide +kernel
theorem dX3_allPagesHold_55 : decode cX3_allPagesHold 55 = .ok (.ladd, 1) := by decide +kernel
theorem dX3_allPagesHold_56 : decode cX3_allPagesHold 56 = .ok (.ldc2_w 127, 3) := by decide +kernel
theorem dX3_allPagesHold_59 : decode cX3_allPagesHold 59 = .ok (.ladd, 1) := by decide +kernel
theorem dX3_allPagesHold_60 : decode cX3_allPagesHold 60 = .ok (.aload_n 0, 1) := by decide +kernel
theorem dX3_allPagesHold_61 : decode cX3_allPagesHold 61 = .ok (.getfield 72, 3) := by decide +kernel
theorem dX3_allPagesHold_64 : decode cX3_allPagesHold 64 = .ok (.i2l, 1) := by decide +kernel
theorem dX3_allPagesHold_65 : decode cX3_allPagesHold 65 = .ok (.lcmp, 1) := by decide +kernel
theorem dX3_allPagesHold_66 : decode cX3_allPagesHold 66 = .ok (.ifCond .gt 7, 3) := by decide +kernel
theorem dX3_allPagesHold_69 : decode cX3_allPagesHold 69 = .ok (.iconst 1, 1) := by decide +kernel
theorem dX3_allPagesHold_70 : decode cX3_allPagesHold 70 = .ok (.goto 4, 3) := by decide +kernel
theorem dX3_allPagesHold_73 : decode cX3_allPagesHold 73 = .ok (.iconst 0, 1) := by decide +kernel
theorem dX3_allPagesHold_74 : decode cX3_allPagesHold 74 = .ok (.iload_n 2, 1) := by decide +kernel
theorem dX3_allPagesHold_75 : decode cX3_allPagesHold 75 = .ok (.invokevirtual 95, 3) := by decide +kernel
theorem dX3_allPagesHold_78 : decode cX3_allPagesHold 78 = .ok (.ifCond .ne 5, 3) := by decide +kernel
theorem dX3_allPagesHold_81 : decode cX3_allPagesHold 81 = .ok (.iconst 0, 1) := by decide +kernel
theorem dX3_allPagesHold_82 : decode cX3_allPagesHold 82 = .ok (.ireturn, 1) := by decide +kernel
theorem dX3_allPagesHold_83 : decode cX3_allPagesHold 83 = .ok (.aload_n 0, 1) := by decide +kernel
theorem dX3_allPagesHold_84 : decode cX3_allPagesHold 84 = .ok (.getfield 41, 3) := by decide +kernel
theorem dX3_allPagesHold_87 : decode cX3_allPagesHold 87 = .ok (.iload_n 1, 1) := by decide +kernel
theorem dX3_allPagesHold_88 : decode cX3_allPagesHold 88 = .ok (.aload_n 0, 1) := by decide +kernel
theorem dX3_allPagesHold_89 : decode cX3_allPagesHold 89 = .ok (.getfield 66, 3) := by decide +kernel
theorem dX3_allPagesHold_92 : decode cX3_allPagesHold 92 = .ok (.aload_n 0, 1) := by decide +kernel
theorem dX3_allPagesHold_93 : decode cX3_allPagesHold 93 = .ok (.getfield 101, 3) := by decide +kernel
theorem dX3_allPagesHold_96 : decode cX3_allPagesHold 96 = .ok (.iadd, 1) := by decide +kernel
theorem dX3_allPagesHold_97 : decode cX3_allPagesHold 97 = .ok (.lload_n 3, 1) := by decide +kernel
theorem dX3_allPagesHold_98 : decode cX3_allPagesHold 98 = .ok (.l2i, 1) := by decide +kernel
theorem dX3_allPagesHold_99 : decode cX3_allPagesHold 99 = .ok (.iadd, 1) := by decide +kernel
theorem dX3_allPagesHold_100 : decode cX3_allPagesHold 100 = .ok (.iastore, 1) := by decide +kernel
theorem dX3_allPagesHold_101 : decode cX3_allPagesHold 101 = .ok (.aload_n 0, 1) := by decide +kernel
theorem dX3_allPagesHold_102 : decode cX3_allPagesHold 102 = .ok (.iload_n 1, 1) := by decide +kernel
theorem dX3_allPagesHold_103 : decode cX3_allPagesHold 103 = .ok (.aload_n 0, 1) := by decide +kernel
theorem dX3_allPagesHold_104 : decode cX3_allPagesHold 104 = .ok (.getfield 41, 3) := by decide +kernel
theorem dX3_allPagesHold_107 : decode cX3_allPagesHold 107 = .ok (.iload_n 1, 1) := by decide +kernel
theorem dX3_allPagesHold_108 : decode cX3_allPagesHold 108 = .ok (.iaload, 1) := by decide +kernel
theorem dX3_allPagesHold_109 : decode cX3_allPagesHold 109 = .ok (.invokevirtual 129, 3) := by decide +kernel
theorem dX3_allPagesHold_112 : decode cX3_allPagesHold 112 = .ok (.ifCond .ne 5, 3) := by decide +kernel
theorem dX3_allPagesHold_115 : decode cX3_allPagesHold 115 = .ok (.iconst 0, 1) := by decide +kernel
theorem dX3_allPagesHold_116 : decode cX3_allPagesHold 116 = .ok (.ireturn, 1) := by decide +kernel
theorem dX3_allPagesHold_117 : decode cX3_allPagesHold 117 = .ok (.iinc 1 1, 3) := by decide +kernel
theorem dX3_allPagesHold_120 : decode cX3_allPagesHold 120 = .ok (.goto (-118), 3) := by decide +kernel
theorem dX3_allPagesHold_123 : decode cX3_allPagesHold 123 = .ok (.iconst 1, 1) := by decide +kernel
theorem dX3_allPagesHold_124 : decode cX3_allPagesHold 124 = .ok (.ireturn, 1) := by decide +kernel
theorem dX3_pagesHold_0 : decode cX3_pagesHold 0 = .ok (.bipush 22, 2) := by decide +kernel
theorem dX3_pagesHold_2 : decode cX3_pagesHold 2 = .ok (.iconst 2, 1) := by decide +kernel
theorem dX3_pagesHold_3 : decode cX3_pagesHold 3 = .ok (.aload_n 0, 1) := by decide +kernel
theorem dX3_pagesHold_4 : decode cX3_pagesHold 4 = .ok (.iload_n 2, 1) := by decide +kernel
theorem dX3_pagesHold_5 : decode cX3_pagesHold 5 = .ok (.bipush 20, 2) := by decide +kernel
theorem dX3_pagesHold_7 : decode cX3_pagesHold 7 = .ok (.iadd, 1) := by decide +kernel
theorem dX3_pagesHold_8 : decode cX3_pagesHold 8 = .ok (.invokevirtual 133, 3) := by decide +kernel
theorem dX3_pagesHold_11 : decode cX3_pagesHold 11 = .ok (.imul, 1) := by decide +kernel
theorem dX3_pagesHold_12 : decode cX3_pagesHold 12 = .ok (.iadd, 1) := by decide +kernel
theorem dX3_pagesHold_13 : decode cX3_pagesHold 13 = .ok (.istore_n 3, 1) := by decide +kernel
theorem dX3_pagesHold_14 : decode cX3_pagesHold 14 = .ok (.aload_n 0, 1) := by decide +kernel
theorem dX3_pagesHold_15 : decode cX3_pagesHold 15 = .ok (.iload_n 2, 1) := by decide +kernel
theorem dX3_pagesHold_16 : decode cX3_pagesHold 16 = .ok (.iconst 4, 1) := by decide +kernel
theorem dX3_pagesHold_17 : decode cX3_pagesHold 17 = .ok (.iadd, 1) := by decide +kernel
theorem dX3_pagesHold_18 : decode cX3_pagesHold 18 = .ok (.invokevirtual 133, 3) := by decide +kernel
theorem dX3_pagesHold_21 : decode cX3_pagesHold 21 = .ok (.istore 4, 2) := by decide +kernel
theorem dX3_pagesHold_23 : decode cX3_pagesHold 23 = .ok (.aload_n 0, 1) := by decide +kernel
theorem dX3_pagesHold_24 : decode cX3_pagesHold 24 = .ok (.getfield 33, 3) := by decide +kernel
theorem dX3_pagesHold_27 : decode cX3_pagesHold 27 = .ok (.getfield 137, 3) := by decide +kernel
theorem dX3_pagesHold_30 : decode cX3_pagesHold 30 = .ok (.iload_n 1, 1) := by decide +kernel
theorem dX3_pagesHold_31 : decode cX3_pagesHold 31 = .ok (.iaload, 1) := by decide +kernel
theorem dX3_pagesHold_32 : decode cX3_pagesHold 32 = .ok (.aload_n 0, 1) := by decide +kernel
theorem dX3_pagesHold_33 : decode cX3_pagesHold 33 = .ok (.getfield 33, 3) := by decide +kernel
theorem dX3_pagesHold_36 : decode cX3_pagesHold 36 = .ok (.getfield 137, 3) := by decide +kernel
theorem dX3_pagesHold_39 : decode cX3_pagesHold 39 = .ok (.iconst 0, 1) := by decide +kernel
theorem dX3_pagesHold_40 : decode cX3_pagesHold 40 = .ok (.iaload, 1) := by decide +kernel
theorem dX3_pagesHold_41 : decode cX3_pagesHold 41 = .ok (.isub, 1) := by decide +kernel
theorem dX3_pagesHold_42 : decode cX3_pagesHold 42 = .ok (.istore 5, 2) := by decide +kernel
theorem dX3_pagesHold_44 : decode cX3_pagesHold 44 = .ok (.aload_n 0, 1) := by decide +kernel
theorem dX3_pagesHold_45 : decode cX3_pagesHold 45 = .ok (.aload_n 0, 1) := by decide +kernel
theorem dX3_pagesHold_46 : decode cX3_pagesHold 46 = .ok (.iload_n 2, 1) := by decide +kernel
theorem dX3_pagesHold_47 : decode cX3_pagesHold 47 = .ok (.invokevirtual 91, 3) := by decide +kernel
theorem dX3_pagesHold_50 : decode cX3_pagesHold 50 = .ok (.iload_n 3, 1) := by decide +kernel
theorem dX3_pagesHold_51 : decode cX3_pagesHold 51 = .ok (.i2l, 1) := by decide +kernel
theorem dX3_pagesHold_52 : decode cX3_pagesHold 52 = .ok (.lcmp, 1) := by decide +kernel
theorem dX3_pagesHold_53 : decode cX3_pagesHold 53 = .ok (.ifCond .ne 22, 3) := by decide +kernel
theorem dX3_pagesHold_56 : decode cX3_pagesHold 56 = .ok (.iload_n 2, 1) := by decide +kernel
theorem dX3_pagesHold_57 : decode cX3_pagesHold 57 = .ok (.aload_n 0, 1) := by decide +kernel
theorem dX3_pagesHold_58 : decode cX3_pagesHold 58 = .ok (.getfield 66, 3) := by decide +kernel
theorem dX3_pagesHold_61 : decode cX3_pagesHold 61 = .ok (.isub, 1) := by decide +kernel
theorem dX3_pagesHold_62 : decode cX3_pagesHold 62 = .ok (.iload_n 3, 1) := by decide +kernel
theorem dX3_pagesHold_63 : decode cX3_pagesHold 63 = .ok (.iadd, 1) := by decide +kernel
theorem dX3_pagesHold_64 : decode cX3_pagesHold 64 = .ok (.aload_n 0, 1) := by decide +kernel
theorem dX3_pagesHold_65 : decode cX3_pagesHold 65 = .ok (.getfield 72, 3) := by decide +kernel
theorem dX3_pagesHold_68 : decode cX3_pagesHold 68 = .ok (.if_icmp .gt 7, 3) := by decide +kernel
theorem dX3_pagesHold_71 : decode cX3_pagesHold 71 = .ok (.iconst 1, 1) := by decide +kernel
theorem dX3_pagesHold_72 : decode cX3_pagesHold 72 = .ok (.goto 4, 3) := by decide +kernel
theorem dX3_pagesHold_75 : decode cX3_pagesHold 75 = .ok (.iconst 0, 1) := by decide +kernel
theorem dX3_pagesHold_76 : decode cX3_pagesHold 76 = .ok (.iload_n 2, 1) := by decide +kernel
theorem dX3_pagesHold_77 : decode cX3_pagesHold 77 = .ok (.invokevirtual 95, 3) := by decide +kernel
theorem dX3_pagesHold_80 : decode cX3_pagesHold 80 = .ok (.ifCond .eq 141, 3) := by decide +kernel
theorem dX3_pagesHold_83 : decode cX3_pagesHold 83 = .ok (.aload_n 0, 1) := by decide +kernel
theorem dX3_pagesHold_84 : decode cX3_pagesHold 84 = .ok (.iload 4, 2) := by decide +kernel
theorem dX3_pagesHold_86 : decode cX3_pagesHold 86 = .ok (.invokestatic 140, 3) := by decide +kernel
theorem dX3_pagesHold_89 : decode cX3_pagesHold 89 = .ok (.iload_n 2, 1) := by decide +kernel
theorem dX3_pagesHold_90 : decode cX3_pagesHold 90 = .ok (.iconst 4, 1) := by decide +kernel
theorem dX3_pagesHold_91 : decode cX3_pagesHold 91 = .ok (.iadd, 1) := by decide +kernel
theorem dX3_pagesHold_92 : decode cX3_pagesHold 92 = .ok (.invokevirtual 95, 3) := by decide +kernel
theorem dX3_pagesHold_95 : decode cX3_pagesHold 95 = .ok (.ifCond .eq 126, 3) := by decide +kernel
theorem dX3_pagesHold_98 : decode cX3_pagesHold 98 = .ok (.aload_n 0, 1) := by decide +kernel
theorem dX3_pagesHold_99 : decode cX3_pagesHold 99 = .ok (.aload_n 0, 1) := by decide +kernel
theorem dX3_pagesHold_100 : decode cX3_pagesHold 100 = .ok (.iload_n 2, 1) := by decide +kernel
theorem dX3_pagesHold_101 : decode cX3_pagesHold 101 = .ok (.bipush 6, 2) := by decide +kernel
theorem dX3_pagesHold_103 : decode cX3_pagesHold 103 = .ok (.iadd, 1) := by decide +kernel
theorem dX3_pagesHold_104 : decode cX3_pagesHold 104 = .ok (.invokevirtual 133, 3) := by decide +kernel
theorem dX3_pagesHold_107 : decode cX3_pagesHold 107 = .ok (.iconst 2, 1) := by decide +kernel
theorem dX3_pagesHold_108 : decode cX3_pagesHold 108 = .ok (.if_icmp .ne 7, 3) := by decide +kernel
theorem dX3_pagesHold_111 : decode cX3_pagesHold 111 = .ok (.iconst 1, 1) := by decide +kernel
theorem dX3_pagesHold_112 : decode cX3_pagesHold 112 = .ok (.goto 4, 3) := by decide +kernel
theorem dX3_pagesHold_115 : decode cX3_pagesHold 115 = .ok (.iconst 0, 1) := by decide +kernel
theorem dX3_pagesHold_116 : decode cX3_pagesHold 116 = .ok (.iload_n 2, 1) := by decide +kernel
theorem dX3_pagesHold_117 : decode cX3_pagesHold 117 = .ok (.bipush 6, 2) := by decide +kernel
theorem dX3_pagesHold_119 : decode cX3_pagesHold 119 = .ok (.iadd, 1) := by decide +kernel
theorem dX3_pagesHold_120 : decode cX3_pagesHold 120 = .ok (.invokevirtual 95, 3) := by decide +kernel
theorem dX3_pagesHold_123 : decode cX3_pagesHold 123 = .ok (.ifCond .eq 98, 3) := by decide +kernel
theorem dX3_pagesHold_126 : decode cX3_pagesHold 126 = .ok (.aload_n 0, 1) := by decide +kernel
theorem dX3_pagesHold_127 : decode cX3_pagesHold 127 = .ok (.getfield 23, 3) := by decide +kernel
theorem dX3_pagesHold_130 : decode cX3_pagesHold 130 = .ok (.iload_n 2, 1) := by decide +kernel
theorem dX3_pagesHold_131 : decode cX3_pagesHold 131 = .ok (.bipush 8, 2) := by decide +kernel
theorem dX3_pagesHold_133 : decode cX3_pagesHold 133 = .ok (.iadd, 1) := by decide +kernel
theorem dX3_pagesHold_134 : decode cX3_pagesHold 134 = .ok (.invokevirtual 144, 3) := by decide +kernel
theorem dX3_pagesHold_137 : decode cX3_pagesHold 137 = .ok (.ifCond .eq 84, 3) := by decide +kernel
theorem dX3_pagesHold_140 : decode cX3_pagesHold 140 = .ok (.aload_n 0, 1) := by decide +kernel
theorem dX3_pagesHold_141 : decode cX3_pagesHold 141 = .ok (.aload_n 0, 1) := by decide +kernel
theorem dX3_pagesHold_142 : decode cX3_pagesHold 142 = .ok (.getfield 9, 3) := by decide +kernel
theorem dX3_pagesHold_145 : decode cX3_pagesHold 145 = .ok (.iload_n 2, 1) := by decide +kernel
theorem dX3_pagesHold_146 : decode cX3_pagesHold 146 = .ok (.bipush 8, 2) := by decide +kernel
theorem dX3_pagesHold_148 : decode cX3_pagesHold 148 = .ok (.iadd, 1) := by decide +kernel
theorem dX3_pagesHold_149 : decode cX3_pagesHold 149 = .ok (.bipush 8, 2) := by decide +kernel
theorem dX3_pagesHold_151 : decode cX3_pagesHold 151 = .ok (.invokevirtual 147, 3) := by decide +kernel
theorem dX3_pagesHold_154 : decode cX3_pagesHold 154 = .ok (.iload 5, 2) := by decide +kernel
theorem dX3_pagesHold_156 : decode cX3_pagesHold 156 = .ok (.i2l, 1) := by decide +kernel
theorem dX3_pagesHold_157 : decode cX3_pagesHold 157 = .ok (.lcmp, 1) := by decide +kernel
theorem dX3_pagesHold_158 : decode cX3_pagesHold 158 = .ok (.ifCond .ne 7, 3) := by decide +kernel
theorem dX3_pagesHold_161 : decode cX3_pagesHold 161 = .ok (.iconst 1, 1) := by decide +kernel
theorem dX3_pagesHold_162 : decode cX3_pagesHold 162 = .ok (.goto 4, 3) := by decide +kernel
theorem dX3_pagesHold_165 : decode cX3_pagesHold 165 = .ok (.iconst 0, 1) := by decide +kernel
theorem dX3_pagesHold_166 : decode cX3_pagesHold 166 = .ok (.iload_n 2, 1) := by decide +kernel
theorem dX3_pagesHold_167 : decode cX3_pagesHold 167 = .ok (.bipush 8, 2) := by decide +kernel
theorem dX3_pagesHold_169 : decode cX3_pagesHold 169 = .ok (.iadd, 1) := by decide +kernel
theorem dX3_pagesHold_170 : decode cX3_pagesHold 170 = .ok (.invokevirtual 95, 3) := by decide +kernel
theorem dX3_pagesHold_173 : decode cX3_pagesHold 173 = .ok (.ifCond .eq 48, 3) := by decide +kernel
theorem dX3_pagesHold_176 : decode cX3_pagesHold 176 = .ok (.aload_n 0, 1) := by decide +kernel
theorem dX3_pagesHold_177 : decode cX3_pagesHold 177 = .ok (.aload_n 0, 1) := by decide +kernel
theorem dX3_pagesHold_178 : decode cX3_pagesHold 178 = .ok (.iload_n 2, 1) := by decide +kernel
theorem dX3_pagesHold_179 : decode cX3_pagesHold 179 = .ok (.bipush 20, 2) := by decide +kernel
theorem dX3_pagesHold_181 : decode cX3_pagesHold 181 = .ok (.iadd, 1) := by decide +kernel
theorem dX3_pagesHold_182 : decode cX3_pagesHold 182 = .ok (.invokevirtual 133, 3) := by decide +kernel
theorem dX3_pagesHold_185 : decode cX3_pagesHold 185 = .ok (.aload_n 0, 1) := by decide +kernel
theorem dX3_pagesHold_186 : decode cX3_pagesHold 186 = .ok (.getfield 33, 3) := by decide +kernel
theorem dX3_pagesHold_189 : decode cX3_pagesHold 189 = .ok (.getfield 151, 3) := by decide +kernel
theorem dX3_pagesHold_192 : decode cX3_pagesHold 192 = .ok (.iload_n 1, 1) := by decide +kernel
theorem dX3_pagesHold_193 : decode cX3_pagesHold 193 = .ok (.iaload, 1) := by decide +kernel
theorem dX3_pagesHold_194 : decode cX3_pagesHold 194 = .ok (.iload 4, 2) := by decide +kernel
theorem dX3_pagesHold_196 : decode cX3_pagesHold 196 = .ok (.invokestatic 154, 3) := by decide +kernel
theorem dX3_pagesHold_199 : decode cX3_pagesHold 199 = .ok (.if_icmp .gt 7, 3) := by decide +kernel
theorem dX3_pagesHold_202 : decode cX3_pagesHold 202 = .ok (.iconst 1, 1) := by decide +kernel
theorem dX3_pagesHold_203 : decode cX3_pagesHold 203 = .ok (.goto 4, 3) := by decide +kernel
theorem dX3_pagesHold_206 : decode cX3_pagesHold 206 = .ok (.iconst 0, 1) := by decide +kernel
theorem dX3_pagesHold_207 : decode cX3_pagesHold 207 = .ok (.iload_n 2, 1) := by decide +kernel
theorem dX3_pagesHold_208 : decode cX3_pagesHold 208 = .ok (.bipush 20, 2) := by decide +kernel
theorem dX3_pagesHold_210 : decode cX3_pagesHold 210 = .ok (.iadd, 1) := by decide +kernel
theorem dX3_pagesHold_211 : decode cX3_pagesHold 211 = .ok (.invokevirtual 95, 3) := by decide +kernel
theorem dX3_pagesHold_214 : decode cX3_pagesHold 214 = .ok (.ifCond .eq 7, 3) := by decide +kernel
theorem dX3_pagesHold_217 : decode cX3_pagesHold 217 = .ok (.iconst 1, 1) := by decide +kernel
theorem dX3_pagesHold_218 : decode cX3_pagesHold 218 = .ok (.goto 4, 3) := by decide +kernel
theorem dX3_pagesHold_221 : decode cX3_pagesHold 221 = .ok (.iconst 0, 1) := by decide +kernel
theorem dX3_pagesHold_222 : decode cX3_pagesHold 222 = .ok (.ireturn, 1) := by decide +kernel
theorem dX3_allChainsHold_0 : decode cX3_allChainsHold 0 = .ok (.iconst 0, 1) := by decide +kernel
theorem dX3_allChainsHold_1 : decode cX3_allChainsHold 1 = .ok (.istore_n 1, 1) := by decide +kernel
theorem dX3_allChainsHold_2 : decode cX3_allChainsHold 2 = .ok (.iload_n 1, 1) := by decide +kernel
theorem dX3_allChainsHold_3 : decode cX3_allChainsHold 3 = .ok (.aload_n 0, 1) := by decide +kernel
theorem dX3_allChainsHold_4 : decode cX3_allChainsHold 4 = .ok (.getfield 33, 3) := by decide +kernel
theorem dX3_allChainsHold_7 : decode cX3_allChainsHold 7 = .ok (.getfield 104, 3) := by decide +kernel
theorem dX3_allChainsHold_10 : decode cX3_allChainsHold 10 = .ok (.if_icmp .ge 35, 3) := by decide +kernel
theorem dX3_allChainsHold_13 : decode cX3_allChainsHold 13 = .ok (.aload_n 0, 1) := by decide +kernel
theorem dX3_allChainsHold_14 : decode cX3_allChainsHold 14 = .ok (.getfield 41, 3) := by decide +kernel
theorem dX3_allChainsHold_17 : decode cX3_allChainsHold 17 = .ok (.iload_n 1, 1) := by decide +kernel
theorem dX3_allChainsHold_18 : decode cX3_allChainsHold 18 = .ok (.iaload, 1) := by decide +kernel
theorem dX3_allChainsHold_19 : decode cX3_allChainsHold 19 = .ok (.iconst (-1), 1) := by decide +kernel
theorem dX3_allChainsHold_20 : decode cX3_allChainsHold 20 = .ok (.if_icmp .eq 19, 3) := by decide +kernel
theorem dX3_allChainsHold_23 : decode cX3_allChainsHold 23 = .ok (.aload_n 0, 1) := by decide +kernel
theorem dX3_allChainsHold_24 : decode cX3_allChainsHold 24 = .ok (.iload_n 1, 1) := by decide +kernel
theorem dX3_allChainsHold_25 : decode cX3_allChainsHold 25 = .ok (.aload_n 0, 1) := by decide +kernel
theorem dX3_allChainsHold_26 : decode cX3_allChainsHold 26 = .ok (.getfield 41, 3) := by decide +kernel
theorem dX3_allChainsHold_29 : decode cX3_allChainsHold 29 = .ok (.iload_n 1, 1) := by decide +kernel
theorem dX3_allChainsHold_30 : decode cX3_allChainsHold 30 = .ok (.iaload, 1) := by decide +kernel
theorem dX3_allChainsHold_31 : decode cX3_allChainsHold 31 = .ok (.invokevirtual 157, 3) := by decide +kernel
theorem dX3_allChainsHold_34 : decode cX3_allChainsHold 34 = .ok (.ifCond .ne 5, 3) := by decide +kernel
theorem dX3_allChainsHold_37 : decode cX3_allChainsHold 37 = .ok (.iconst 0, 1) := by decide +kernel
theorem dX3_allChainsHold_38 : decode cX3_allChainsHold 38 = .ok (.ireturn, 1) := by decide +kernel
theorem dX3_allChainsHold_39 : decode cX3_allChainsHold 39 = .ok (.iinc 1 1, 3) := by decide +kernel
theorem dX3_allChainsHold_42 : decode cX3_allChainsHold 42 = .ok (.goto (-40), 3) := by decide +kernel
theorem dX3_allChainsHold_45 : decode cX3_allChainsHold 45 = .ok (.iconst 1, 1) := by decide +kernel
theorem dX3_allChainsHold_46 : decode cX3_allChainsHold 46 = .ok (.ireturn, 1) := by decide +kernel
theorem dX3_chainsOfHold_0 : decode cX3_chainsOfHold 0 = .ok (.aload_n 0, 1) := by decide +kernel
theorem dX3_chainsOfHold_1 : decode cX3_chainsOfHold 1 = .ok (.iload_n 2, 1) := by decide +kernel
theorem dX3_chainsOfHold_2 : decode cX3_chainsOfHold 2 = .ok (.iconst 4, 1) := by decide +kernel
theorem dX3_chainsOfHold_3 : decode cX3_chainsOfHold 3 = .ok (.iadd, 1) := by decide +kernel
theorem dX3_chainsOfHold_4 : decode cX3_chainsOfHold 4 = .ok (.invokevirtual 133, 3) := by decide +kernel
theorem dX3_chainsOfHold_7 : decode cX3_chainsOfHold 7 = .ok (.istore_n 3, 1) := by decide +kernel
theorem dX3_chainsOfHold_8 : decode cX3_chainsOfHold 8 = .ok (.aload_n 0, 1) := by decide +kernel
theorem dX3_chainsOfHold_9 : decode cX3_chainsOfHold 9 = .ok (.iload_n 2, 1) := by decide +kernel
theorem dX3_chainsOfHold_10 : decode cX3_chainsOfHold 10 = .ok (.bipush 20, 2) := by decide +kernel
theorem dX3_chainsOfHold_12 : decode cX3_chainsOfHold 12 = .ok (.iadd, 1) := by decide +kernel
theorem dX3_chainsOfHold_13 : decode cX3_chainsOfHold 13 = .ok (.invokevirtual 133, 3) := by decide +kernel
theorem dX3_chainsOfHold_16 : decode cX3_chainsOfHold 16 = .ok (.istore 4, 2) := by decide +kernel
theorem dX3_chainsOfHold_18 : decode cX3_chainsOfHold 18 = .ok (.iconst 0, 1) := by decide +kernel
theorem dX3_chainsOfHold_19 : decode cX3_chainsOfHold 19 = .ok (.istore 5, 2) := by decide +kernel
theorem dX3_chainsOfHold_21 : decode cX3_chainsOfHold 21 = .ok (.iload 5, 2) := by decide +kernel
theorem dX3_chainsOfHold_23 : decode cX3_chainsOfHold 23 = .ok (.iload 4, 2) := by decide +kernel
theorem dX3_chainsOfHold_25 : decode cX3_chainsOfHold 25 = .ok (.if_icmp .ge 119, 3) := by decide +kernel
theorem dX3_chainsOfHold_28 : decode cX3_chainsOfHold 28 = .ok (.iload_n 2, 1) := by decide +kernel
theorem dX3_chainsOfHold_29 : decode cX3_chainsOfHold 29 = .ok (.bipush 22, 2) := by decide +kernel
theorem dX3_chainsOfHold_31 : decode cX3_chainsOfHold 31 = .ok (.iadd, 1) := by decide +kernel
theorem dX3_chainsOfHold_32 : decode cX3_chainsOfHold 32 = .ok (.iconst 2, 1) := by decide +kernel
theorem dX3_chainsOfHold_33 : decode cX3_chainsOfHold 33 = .ok (.iload 5, 2) := by decide +kernel
theorem dX3_chainsOfHold_35 : decode cX3_chainsOfHold 35 = .ok (.imul, 1) := by decide +kernel
theorem dX3_chainsOfHold_36 : decode cX3_chainsOfHold 36 = .ok (.iadd, 1) := by decide +kernel
theorem dX3_chainsOfHold_37 : decode cX3_chainsOfHold 37 = .ok (.istore 6, 2) := by decide +kernel
theorem dX3_chainsOfHold_39 : decode cX3_chainsOfHold 39 = .ok (.aload_n 0, 1) := by decide +kernel
theorem dX3_chainsOfHold_40 : decode cX3_chainsOfHold 40 = .ok (.iload 6, 2) := by decide +kernel
theorem dX3_chainsOfHold_42 : decode cX3_chainsOfHold 42 = .ok (.invokevirtual 133, 3) := by decide +kernel
theorem dX3_chainsOfHold_45 : decode cX3_chainsOfHold 45 = .ok (.istore 7, 2) := by decide +kernel
theorem dX3_chainsOfHold_47 : decode cX3_chainsOfHold 47 = .ok (.iload_n 3, 1) := by decide +kernel
theorem dX3_chainsOfHold_48 : decode cX3_chainsOfHold 48 = .ok (.iload 5, 2) := by decide +kernel
theorem dX3_chainsOfHold_50 : decode cX3_chainsOfHold 50 = .ok (.iconst 1, 1) := by decide +kernel
theorem dX3_chainsOfHold_51 : decode cX3_chainsOfHold 51 = .ok (.iadd, 1) := by decide +kernel
theorem dX3_chainsOfHold_52 : decode cX3_chainsOfHold 52 = .ok (.imul, 1) := by decide +kernel
theorem dX3_chainsOfHold_53 : decode cX3_chainsOfHold 53 = .ok (.aload_n 0, 1) := by decide +kernel
theorem dX3_chainsOfHold_54 : decode cX3_chainsOfHold 54 = .ok (.getfield 33, 3) := by decide +kernel
theorem dX3_chainsOfHold_57 : decode cX3_chainsOfHold 57 = .ok (.getfield 151, 3) := by decide +kernel
theorem dX3_chainsOfHold_60 : decode cX3_chainsOfHold 60 = .ok (.iload_n 1, 1) := by decide +kernel
theorem dX3_chainsOfHold_61 : decode cX3_chainsOfHold 61 = .ok (.iaload, 1) := by decide +kernel
theorem dX3_chainsOfHold_62 : decode cX3_chainsOfHold 62 = .ok (.invokestatic 160, 3) := by decide +kernel
theorem dX3_chainsOfHold_65 : decode cX3_chainsOfHold 65 = .ok (.istore 8, 2) := by decide +kernel
theorem dX3_chainsOfHold_67 : decode cX3_chainsOfHold 67 = .ok (.iload 7, 2) := by decide +kernel
theorem dX3_chainsOfHold_69 : decode cX3_chainsOfHold 69 = .ok (.ldc 165, 2) := by decide +kernel
theorem dX3_chainsOfHold_71 : decode cX3_chainsOfHold 71 = .ok (.if_icmp .eq 67, 3) := by decide +kernel
theorem dX3_chainsOfHold_74 : decode cX3_chainsOfHold 74 = .ok (.iload 7, 2) := by decide +kernel
theorem dX3_chainsOfHold_76 : decode cX3_chainsOfHold 76 = .ok (.iconst 4, 1) := by decide +kernel
theorem dX3_chainsOfHold_77 : decode cX3_chainsOfHold 77 = .ok (.irem, 1) := by decide +kernel
theorem dX3_chainsOfHold_78 : decode cX3_chainsOfHold 78 = .ok (.ifCond .ne 22, 3) := by decide +kernel
theorem dX3_chainsOfHold_81 : decode cX3_chainsOfHold 81 = .ok (.iload_n 3, 1) := by decide +kernel
theorem dX3_chainsOfHold_82 : decode cX3_chainsOfHold 82 = .ok (.iload 5, 2) := by decide +kernel
theorem dX3_chainsOfHold_84 : decode cX3_chainsOfHold 84 = .ok (.imul, 1) := by decide +kernel
theorem dX3_chainsOfHold_85 : decode cX3_chainsOfHold 85 = .ok (.iload 7, 2) := by decide +kernel
theorem dX3_chainsOfHold_87 : decode cX3_chainsOfHold 87 = .ok (.iadd, 1) := by decide +kernel
theorem dX3_chainsOfHold_88 : decode cX3_chainsOfHold 88 = .ok (.bipush 8, 2) := by decide +kernel
theorem dX3_chainsOfHold_90 : decode cX3_chainsOfHold 90 = .ok (.iadd, 1) := by decide +kernel
theorem dX3_chainsOfHold_91 : decode cX3_chainsOfHold 91 = .ok (.iload 8, 2) := by decide +kernel
theorem dX3_chainsOfHold_93 : decode cX3_chainsOfHold 93 = .ok (.if_icmp .gt 7, 3) := by decide +kernel
theorem dX3_chainsOfHold_96 : decode cX3_chainsOfHold 96 = .ok (.iconst 1, 1) := by decide +kernel
theorem dX3_chainsOfHold_97 : decode cX3_chainsOfHold 97 = .ok (.goto 4, 3) := by decide +kernel
theorem dX3_chainsOfHold_100 : decode cX3_chainsOfHold 100 = .ok (.iconst 0, 1) := by decide +kernel
theorem dX3_chainsOfHold_101 : decode cX3_chainsOfHold 101 = .ok (.istore 9, 2) := by decide +kernel
theorem dX3_chainsOfHold_103 : decode cX3_chainsOfHold 103 = .ok (.aload_n 0, 1) := by decide +kernel
theorem dX3_chainsOfHold_104 : decode cX3_chainsOfHold 104 = .ok (.getfield 15, 3) := by decide +kernel
theorem dX3_chainsOfHold_107 : decode cX3_chainsOfHold 107 = .ok (.iload 9, 2) := by decide +kernel
theorem dX3_chainsOfHold_109 : decode cX3_chainsOfHold 109 = .ok (.bipush 10, 2) := by decide +kernel
theorem dX3_chainsOfHold_111 : decode cX3_chainsOfHold 111 = .ok (.iload 6, 2) := by decide +kernel
theorem dX3_chainsOfHold_113 : decode cX3_chainsOfHold 113 = .ok (.invokevirtual 166, 3) := by decide +kernel
theorem dX3_chainsOfHold_116 : decode cX3_chainsOfHold 116 = .ok (.ifCond .eq 20, 3) := by decide +kernel
theorem dX3_chainsOfHold_119 : decode cX3_chainsOfHold 119 = .ok (.aload_n 0, 1) := by decide +kernel
theorem dX3_chainsOfHold_120 : decode cX3_chainsOfHold 120 = .ok (.iload_n 1, 1) := by decide +kernel
theorem dX3_chainsOfHold_121 : decode cX3_chainsOfHold 121 = .ok (.iload_n 3, 1) := by decide +kernel
theorem dX3_chainsOfHold_122 : decode cX3_chainsOfHold 122 = .ok (.iload 5, 2) := by decide +kernel
theorem dX3_chainsOfHold_124 : decode cX3_chainsOfHold 124 = .ok (.imul, 1) := by decide +kernel
theorem dX3_chainsOfHold_125 : decode cX3_chainsOfHold 125 = .ok (.iload 7, 2) := by decide +kernel
theorem dX3_chainsOfHold_127 : decode cX3_chainsOfHold 127 = .ok (.iadd, 1) := by decide +kernel
theorem dX3_chainsOfHold_128 : decode cX3_chainsOfHold 128 = .ok (.iload 8, 2) := by decide +kernel
theorem dX3_chainsOfHold_130 : decode cX3_chainsOfHold 130 = .ok (.invokevirtual 172, 3) := by decide +kernel
theorem dX3_chainsOfHold_133 : decode cX3_chainsOfHold 133 = .ok (.ifCond .ne 5, 3) := by decide +kernel
theorem dX3_chainsOfHold_136 : decode cX3_chainsOfHold 136 = .ok (.iconst 0, 1) := by decide +kernel
theorem dX3_chainsOfHold_137 : decode cX3_chainsOfHold 137 = .ok (.ireturn, 1) := by decide +kernel
theorem dX3_chainsOfHold_138 : decode cX3_chainsOfHold 138 = .ok (.iinc 5 1, 3) := by decide +kernel
theorem dX3_chainsOfHold_141 : decode cX3_chainsOfHold 141 = .ok (.goto (-120), 3) := by decide +kernel
theorem dX3_chainsOfHold_144 : decode cX3_chainsOfHold 144 = .ok (.iconst 1, 1) := by decide +kernel
theorem dX3_chainsOfHold_145 : decode cX3_chainsOfHold 145 = .ok (.ireturn, 1) := by decide +kernel
theorem dX3_chainHolds_0 : decode cX3_chainHolds 0 = .ok (.iload_n 2, 1) := by decide +kernel
theorem dX3_chainHolds_1 : decode cX3_chainHolds 1 = .ok (.istore 4, 2) := by decide +kernel
theorem dX3_chainHolds_3 : decode cX3_chainHolds 3 = .ok (.iconst 0, 1) := by decide +kernel
theorem dX3_chainHolds_4 : decode cX3_chainHolds 4 = .ok (.istore 5, 2) := by decide +kernel
theorem dX3_chainHolds_6 : decode cX3_chainHolds 6 = .ok (.iload 5, 2) := by decide +kernel
theorem dX3_chainHolds_8 : decode cX3_chainHolds 8 = .ok (.sipush 2048, 3) := by decide +kernel
theorem dX3_chainHolds_11 : decode cX3_chainHolds 11 = .ok (.if_icmp .ge 154, 3) := by decide +kernel
theorem dX3_chainHolds_14 : decode cX3_chainHolds 14 = .ok (.aload_n 0, 1) := by decide +kernel
theorem dX3_chainHolds_15 : decode cX3_chainHolds 15 = .ok (.getfield 33, 3) := by decide +kernel
theorem dX3_chainHolds_18 : decode cX3_chainHolds 18 = .ok (.aload_n 0, 1) := by decide +kernel
theorem dX3_chainHolds_19 : decode cX3_chainHolds 19 = .ok (.getfield 9, 3) := by decide +kernel
theorem dX3_chainHolds_22 : decode cX3_chainHolds 22 = .ok (.iload_n 1, 1) := by decide +kernel
theorem dX3_chainHolds_23 : decode cX3_chainHolds 23 = .ok (.iload 4, 2) := by decide +kernel
theorem dX3_chainHolds_25 : decode cX3_chainHolds 25 = .ok (.invokevirtual 176, 3) := by decide +kernel
theorem dX3_chainHolds_28 : decode cX3_chainHolds 28 = .ok (.lstore 6, 2) := by decide +kernel
theorem dX3_chainHolds_30 : decode cX3_chainHolds 30 = .ok (.aload_n 0, 1) := by decide +kernel
theorem dX3_chainHolds_31 : decode cX3_chainHolds 31 = .ok (.getfield 33, 3) := by decide +kernel
theorem dX3_chainHolds_34 : decode cX3_chainHolds 34 = .ok (.getfield 137, 3) := by decide +kernel
theorem dX3_chainHolds_37 : decode cX3_chainHolds 37 = .ok (.iload_n 1, 1) := by decide +kernel
theorem dX3_chainHolds_38 : decode cX3_chainHolds 38 = .ok (.iaload, 1) := by decide +kernel
theorem dX3_chainHolds_39 : decode cX3_chainHolds 39 = .ok (.aload_n 0, 1) := by decide +kernel
theorem dX3_chainHolds_40 : decode cX3_chainHolds 40 = .ok (.getfield 33, 3) := by decide +kernel
theorem dX3_chainHolds_43 : decode cX3_chainHolds 43 = .ok (.getfield 137, 3) := by decide +kernel
theorem dX3_chainHolds_46 : decode cX3_chainHolds 46 = .ok (.iconst 0, 1) := by decide +kernel
theorem dX3_chainHolds_47 : decode cX3_chainHolds 47 = .ok (.iaload, 1) := by decide +kernel
theorem dX3_chainHolds_48 : decode cX3_chainHolds 48 = .ok (.isub, 1) := by decide +kernel
theorem dX3_chainHolds_49 : decode cX3_chainHolds 49 = .ok (.iload 4, 2) := by decide +kernel
theorem dX3_chainHolds_51 : decode cX3_chainHolds 51 = .ok (.iadd, 1) := by decide +kernel
theorem dX3_chainHolds_52 : decode cX3_chainHolds 52 = .ok (.istore 8, 2) := by decide +kernel
theorem dX3_chainHolds_54 : decode cX3_chainHolds 54 = .ok (.lload 6, 2) := by decide +kernel
theorem dX3_chainHolds_56 : decode cX3_chainHolds 56 = .ok (.invokestatic 180, 3) := by decide +kernel
theorem dX3_chainHolds_59 : decode cX3_chainHolds 59 = .ok (.istore 9, 2) := by decide +kernel
theorem dX3_chainHolds_61 : decode cX3_chainHolds 61 = .ok (.iload 9, 2) := by decide +kernel
theorem dX3_chainHolds_63 : decode cX3_chainHolds 63 = .ok (.ifCond .eq 23, 3) := by decide +kernel
theorem dX3_chainHolds_66 : decode cX3_chainHolds 66 = .ok (.iload 9, 2) := by decide +kernel
theorem dX3_chainHolds_68 : decode cX3_chainHolds 68 = .ok (.iconst 1, 1) := by decide +kernel
theorem dX3_chainHolds_69 : decode cX3_chainHolds 69 = .ok (.if_icmp .le 21, 3) := by decide +kernel
theorem dX3_chainHolds_72 : decode cX3_chainHolds 72 = .ok (.iload 4, 2) := by decide +kernel
theorem dX3_chainHolds_74 : decode cX3_chainHolds 74 = .ok (.iconst 4, 1) := by decide +kernel
theorem dX3_chainHolds_75 : decode cX3_chainHolds 75 = .ok (.iload 9, 2) := by decide +kernel
theorem dX3_chainHolds_77 : decode cX3_chainHolds 77 = .ok (.imul, 1) := by decide +kernel
theorem dX3_chainHolds_78 : decode cX3_chainHolds 78 = .ok (.iadd, 1) := by decide +kernel
theorem dX3_chainHolds_79 : decode cX3_chainHolds 79 = .ok (.bipush 8, 2) := by decide +kernel
theorem dX3_chainHolds_81 : decode cX3_chainHolds 81 = .ok (.iadd, 1) := by decide +kernel
theorem dX3_chainHolds_82 : decode cX3_chainHolds 82 = .ok (.iload_n 3, 1) := by decide +kernel
theorem dX3_chainHolds_83 : decode cX3_chainHolds 83 = .ok (.if_icmp .gt 7, 3) := by decide +kernel
theorem dX3_chainHolds_86 : decode cX3_chainHolds 86 = .ok (.iconst 1, 1) := by decide +kernel
theorem dX3_chainHolds_87 : decode cX3_chainHolds 87 = .ok (.goto 4, 3) := by decide +kernel
theorem dX3_chainHolds_90 : decode cX3_chainHolds 90 = .ok (.iconst 0, 1) := by decide +kernel
theorem dX3_chainHolds_91 : decode cX3_chainHolds 91 = .ok (.istore 10, 2) := by decide +kernel
theorem dX3_chainHolds_93 : decode cX3_chainHolds 93 = .ok (.aload_n 0, 1) := by decide +kernel
theorem dX3_chainHolds_94 : decode cX3_chainHolds 94 = .ok (.lload 6, 2) := by decide +kernel
theorem dX3_chainHolds_96 : decode cX3_chainHolds 96 = .ok (.iload 8, 2) := by decide +kernel
theorem dX3_chainHolds_98 : decode cX3_chainHolds 98 = .ok (.invokevirtual 184, 3) := by decide +kernel
theorem dX3_chainHolds_101 : decode cX3_chainHolds 101 = .ok (.ifCond .eq 19, 3) := by decide +kernel
theorem dX3_chainHolds_104 : decode cX3_chainHolds 104 = .ok (.aload_n 0, 1) := by decide +kernel
theorem dX3_chainHolds_105 : decode cX3_chainHolds 105 = .ok (.getfield 15, 3) := by decide +kernel
theorem dX3_chainHolds_108 : decode cX3_chainHolds 108 = .ok (.iload 10, 2) := by decide +kernel
theorem dX3_chainHolds_110 : decode cX3_chainHolds 110 = .ok (.bipush 10, 2) := by decide +kernel
theorem dX3_chainHolds_112 : decode cX3_chainHolds 112 = .ok (.iload 8, 2) := by decide +kernel
theorem dX3_chainHolds_114 : decode cX3_chainHolds 114 = .ok (.invokevirtual 166, 3) := by decide +kernel
theorem dX3_chainHolds_117 : decode cX3_chainHolds 117 = .ok (.ifCond .ne 5, 3) := by decide +kernel
theorem dX3_chainHolds_120 : decode cX3_chainHolds 120 = .ok (.iconst 0, 1) := by decide +kernel
theorem dX3_chainHolds_121 : decode cX3_chainHolds 121 = .ok (.ireturn, 1) := by decide +kernel
theorem dX3_chainHolds_122 : decode cX3_chainHolds 122 = .ok (.aload_n 0, 1) := by decide +kernel
theorem dX3_chainHolds_123 : decode cX3_chainHolds 123 = .ok (.getfield 37, 3) := by decide +kernel
theorem dX3_chainHolds_126 : decode cX3_chainHolds 126 = .ok (.aload_n 0, 1) := by decide +kernel
theorem dX3_chainHolds_127 : decode cX3_chainHolds 127 = .ok (.getfield 33, 3) := by decide +kernel
theorem dX3_chainHolds_130 : decode cX3_chainHolds 130 = .ok (.getfield 137, 3) := by decide +kernel
theorem dX3_chainHolds_133 : decode cX3_chainHolds 133 = .ok (.iload_n 1, 1) := by decide +kernel
theorem dX3_chainHolds_134 : decode cX3_chainHolds 134 = .ok (.iaload, 1) := by decide +kernel
theorem dX3_chainHolds_135 : decode cX3_chainHolds 135 = .ok (.iload 4, 2) := by decide +kernel
theorem dX3_chainHolds_137 : decode cX3_chainHolds 137 = .ok (.iadd, 1) := by decide +kernel
theorem dX3_chainHolds_138 : decode cX3_chainHolds 138 = .ok (.lload 6, 2) := by decide +kernel
theorem dX3_chainHolds_140 : decode cX3_chainHolds 140 = .ok (.invokevirtual 188, 3) := by decide +kernel
theorem dX3_chainHolds_143 : decode cX3_chainHolds 143 = .ok (.iload 9, 2) := by decide +kernel
theorem dX3_chainHolds_145 : decode cX3_chainHolds 145 = .ok (.ifCond .ne 5, 3) := by decide +kernel
theorem dX3_chainHolds_148 : decode cX3_chainHolds 148 = .ok (.iconst 1, 1) := by decide +kernel
theorem dX3_chainHolds_149 : decode cX3_chainHolds 149 = .ok (.ireturn, 1) := by decide +kernel
theorem dX3_chainHolds_150 : decode cX3_chainHolds 150 = .ok (.iload 4, 2) := by decide +kernel
theorem dX3_chainHolds_152 : decode cX3_chainHolds 152 = .ok (.iconst 4, 1) := by decide +kernel
theorem dX3_chainHolds_153 : decode cX3_chainHolds 153 = .ok (.iload 9, 2) := by decide +kernel
theorem dX3_chainHolds_155 : decode cX3_chainHolds 155 = .ok (.imul, 1) := by decide +kernel
theorem dX3_chainHolds_156 : decode cX3_chainHolds 156 = .ok (.iadd, 1) := by decide +kernel
theorem dX3_chainHolds_157 : decode cX3_chainHolds 157 = .ok (.istore 4, 2) := by decide +kernel
theorem dX3_chainHolds_159 : decode cX3_chainHolds 159 = .ok (.iinc 5 1, 3) := by decide +kernel
theorem dX3_chainHolds_162 : decode cX3_chainHolds 162 = .ok (.goto (-156), 3) := by decide +kernel
theorem dX3_chainHolds_165 : decode cX3_chainHolds 165 = .ok (.iconst 1, 1) := by decide +kernel
theorem dX3_chainHolds_166 : decode cX3_chainHolds 166 = .ok (.ireturn, 1) := by decide +kernel
theorem dX3_pointerHolds_0 : decode cX3_pointerHolds 0 = .ok (.lload_n 1, 1) := by decide +kernel
theorem dX3_pointerHolds_1 : decode cX3_pointerHolds 1 = .ok (.invokestatic 192, 3) := by decide +kernel
theorem dX3_pointerHolds_4 : decode cX3_pointerHolds 4 = .ok (.ifCond .ne 29, 3) := by decide +kernel
theorem dX3_pointerHolds_7 : decode cX3_pointerHolds 7 = .ok (.aload_n 0, 1) := by decide +kernel
theorem dX3_pointerHolds_8 : decode cX3_pointerHolds 8 = .ok (.getfield 15, 3) := by decide +kernel
theorem dX3_pointerHolds_11 : decode cX3_pointerHolds 11 = .ok (.lload_n 1, 1) := by decide +kernel
theorem dX3_pointerHolds_12 : decode cX3_pointerHolds 12 = .ok (.ldc2_w 196, 3) := by decide +kernel
theorem dX3_pointerHolds_15 : decode cX3_pointerHolds 15 = .ok (.land, 1) := by decide +kernel
theorem dX3_pointerHolds_16 : decode cX3_pointerHolds 16 = .ok (.lconst 0, 1) := by decide +kernel
theorem dX3_pointerHolds_17 : decode cX3_pointerHolds 17 = .ok (.lcmp, 1) := by decide +kernel
theorem dX3_pointerHolds_18 : decode cX3_pointerHolds 18 = .ok (.ifCond .ne 7, 3) := by decide +kernel
theorem dX3_pointerHolds_21 : decode cX3_pointerHolds 21 = .ok (.iconst 1, 1) := by decide +kernel
theorem dX3_pointerHolds_22 : decode cX3_pointerHolds 22 = .ok (.goto 4, 3) := by decide +kernel
theorem dX3_pointerHolds_25 : decode cX3_pointerHolds 25 = .ok (.iconst 0, 1) := by decide +kernel
theorem dX3_pointerHolds_26 : decode cX3_pointerHolds 26 = .ok (.bipush 11, 2) := by decide +kernel
theorem dX3_pointerHolds_28 : decode cX3_pointerHolds 28 = .ok (.iload_n 3, 1) := by decide +kernel
theorem dX3_pointerHolds_29 : decode cX3_pointerHolds 29 = .ok (.invokevirtual 166, 3) := by decide +kernel
theorem dX3_pointerHolds_32 : decode cX3_pointerHolds 32 = .ok (.ireturn, 1) := by decide +kernel
theorem dX3_pointerHolds_33 : decode cX3_pointerHolds 33 = .ok (.lload_n 1, 1) := by decide +kernel
theorem dX3_pointerHolds_34 : decode cX3_pointerHolds 34 = .ok (.ldc2_w 198, 3) := by decide +kernel
theorem dX3_pointerHolds_37 : decode cX3_pointerHolds 37 = .ok (.land, 1) := by decide +kernel
theorem dX3_pointerHolds_38 : decode cX3_pointerHolds 38 = .ok (.l2i, 1) := by decide +kernel
theorem dX3_pointerHolds_39 : decode cX3_pointerHolds 39 = .ok (.istore 4, 2) := by decide +kernel
theorem dX3_pointerHolds_41 : decode cX3_pointerHolds 41 = .ok (.aload_n 0, 1) := by decide +kernel
theorem dX3_pointerHolds_42 : decode cX3_pointerHolds 42 = .ok (.getfield 15, 3) := by decide +kernel
theorem dX3_pointerHolds_45 : decode cX3_pointerHolds 45 = .ok (.lload_n 1, 1) := by decide +kernel
theorem dX3_pointerHolds_46 : decode cX3_pointerHolds 46 = .ok (.ldc2_w 200, 3) := by decide +kernel
theorem dX3_pointerHolds_49 : decode cX3_pointerHolds 49 = .ok (.land, 1) := by decide +kernel
theorem dX3_pointerHolds_50 : decode cX3_pointerHolds 50 = .ok (.lconst 0, 1) := by decide +kernel
theorem dX3_pointerHolds_51 : decode cX3_pointerHolds 51 = .ok (.lcmp, 1) := by decide +kernel
theorem dX3_pointerHolds_52 : decode cX3_pointerHolds 52 = .ok (.ifCond .ne 7, 3) := by decide +kernel
theorem dX3_pointerHolds_55 : decode cX3_pointerHolds 55 = .ok (.iconst 1, 1) := by decide +kernel
theorem dX3_pointerHolds_56 : decode cX3_pointerHolds 56 = .ok (.goto 4, 3) := by decide +kernel
theorem dX3_pointerHolds_59 : decode cX3_pointerHolds 59 = .ok (.iconst 0, 1) := by decide +kernel
theorem dX3_pointerHolds_60 : decode cX3_pointerHolds 60 = .ok (.bipush 11, 2) := by decide +kernel
theorem dX3_pointerHolds_62 : decode cX3_pointerHolds 62 = .ok (.iload_n 3, 1) := by decide +kernel
theorem dX3_pointerHolds_63 : decode cX3_pointerHolds 63 = .ok (.invokevirtual 166, 3) := by decide +kernel
theorem dX3_pointerHolds_66 : decode cX3_pointerHolds 66 = .ok (.ifCond .eq 73, 3) := by decide +kernel
theorem dX3_pointerHolds_69 : decode cX3_pointerHolds 69 = .ok (.aload_n 0, 1) := by decide +kernel
theorem dX3_pointerHolds_70 : decode cX3_pointerHolds 70 = .ok (.getfield 15, 3) := by decide +kernel
theorem dX3_pointerHolds_73 : decode cX3_pointerHolds 73 = .ok (.iload 4, 2) := by decide +kernel
theorem dX3_pointerHolds_75 : decode cX3_pointerHolds 75 = .ok (.aload_n 0, 1) := by decide +kernel
theorem dX3_pointerHolds_76 : decode cX3_pointerHolds 76 = .ok (.getfield 55, 3) := by decide +kernel
theorem dX3_pointerHolds_79 : decode cX3_pointerHolds 79 = .ok (.if_icmp .ge 7, 3) := by decide +kernel
theorem dX3_pointerHolds_82 : decode cX3_pointerHolds 82 = .ok (.iconst 1, 1) := by decide +kernel
theorem dX3_pointerHolds_83 : decode cX3_pointerHolds 83 = .ok (.goto 4, 3) := by decide +kernel
theorem dX3_pointerHolds_86 : decode cX3_pointerHolds 86 = .ok (.iconst 0, 1) := by decide +kernel
theorem dX3_pointerHolds_87 : decode cX3_pointerHolds 87 = .ok (.bipush 11, 2) := by decide +kernel
theorem dX3_pointerHolds_89 : decode cX3_pointerHolds 89 = .ok (.iload_n 3, 1) := by decide +kernel
theorem dX3_pointerHolds_90 : decode cX3_pointerHolds 90 = .ok (.invokevirtual 166, 3) := by decide +kernel
theorem dX3_pointerHolds_93 : decode cX3_pointerHolds 93 = .ok (.ifCond .eq 46, 3) := by decide +kernel
theorem dX3_pointerHolds_96 : decode cX3_pointerHolds 96 = .ok (.aload_n 0, 1) := by decide +kernel
theorem dX3_pointerHolds_97 : decode cX3_pointerHolds 97 = .ok (.getfield 15, 3) := by decide +kernel
theorem dX3_pointerHolds_100 : decode cX3_pointerHolds 100 = .ok (.aload_n 0, 1) := by decide +kernel
theorem dX3_pointerHolds_101 : decode cX3_pointerHolds 101 = .ok (.getfield 45, 3) := by decide +kernel
theorem dX3_pointerHolds_104 : decode cX3_pointerHolds 104 = .ok (.iload 4, 2) := by decide +kernel
theorem dX3_pointerHolds_106 : decode cX3_pointerHolds 106 = .ok (.baload, 1) := by decide +kernel
theorem dX3_pointerHolds_107 : decode cX3_pointerHolds 107 = .ok (.ifCond .ne 14, 3) := by decide +kernel
theorem dX3_pointerHolds_110 : decode cX3_pointerHolds 110 = .ok (.aload_n 0, 1) := by decide +kernel
theorem dX3_pointerHolds_111 : decode cX3_pointerHolds 111 = .ok (.getfield 49, 3) := by decide +kernel
theorem dX3_pointerHolds_114 : decode cX3_pointerHolds 114 = .ok (.iload 4, 2) := by decide +kernel
theorem dX3_pointerHolds_116 : decode cX3_pointerHolds 116 = .ok (.iaload, 1) := by decide +kernel
theorem dX3_pointerHolds_117 : decode cX3_pointerHolds 117 = .ok (.iconst (-1), 1) := by decide +kernel
theorem dX3_pointerHolds_118 : decode cX3_pointerHolds 118 = .ok (.if_icmp .eq 7, 3) := by decide +kernel
theorem dX3_pointerHolds_121 : decode cX3_pointerHolds 121 = .ok (.iconst 1, 1) := by decide +kernel
theorem dX3_pointerHolds_122 : decode cX3_pointerHolds 122 = .ok (.goto 4, 3) := by decide +kernel
theorem dX3_pointerHolds_125 : decode cX3_pointerHolds 125 = .ok (.iconst 0, 1) := by decide +kernel
theorem dX3_pointerHolds_126 : decode cX3_pointerHolds 126 = .ok (.bipush 12, 2) := by decide +kernel
theorem dX3_pointerHolds_128 : decode cX3_pointerHolds 128 = .ok (.iload_n 3, 1) := by decide +kernel
theorem dX3_pointerHolds_129 : decode cX3_pointerHolds 129 = .ok (.invokevirtual 166, 3) := by decide +kernel
theorem dX3_pointerHolds_132 : decode cX3_pointerHolds 132 = .ok (.ifCond .eq 7, 3) := by decide +kernel
theorem dX3_pointerHolds_135 : decode cX3_pointerHolds 135 = .ok (.iconst 1, 1) := by decide +kernel
theorem dX3_pointerHolds_136 : decode cX3_pointerHolds 136 = .ok (.goto 4, 3) := by decide +kernel
theorem dX3_pointerHolds_139 : decode cX3_pointerHolds 139 = .ok (.iconst 0, 1) := by decide +kernel
theorem dX3_pointerHolds_140 : decode cX3_pointerHolds 140 = .ok (.ireturn, 1) := by decide +kernel
theorem dX3_valueOf_0 : decode cX3_valueOf 0 = .ok (.lload_n 1, 1) := by decide +kernel
theorem dX3_valueOf_1 : decode cX3_valueOf 1 = .ok (.invokestatic 202, 3) := by decide +kernel
theorem dX3_valueOf_4 : decode cX3_valueOf 4 = .ok (.lstore 4, 2) := by decide +kernel
theorem dX3_valueOf_6 : decode cX3_valueOf 6 = .ok (.lload_n 1, 1) := by decide +kernel
theorem dX3_valueOf_7 : decode cX3_valueOf 7 = .ok (.invokestatic 206, 3) := by decide +kernel
theorem dX3_valueOf_10 : decode cX3_valueOf 10 = .ok (.lstore 6, 2) := by decide +kernel
theorem dX3_valueOf_12 : decode cX3_valueOf 12 = .ok (.lload_n 1, 1) := by decide +kernel
theorem dX3_valueOf_13 : decode cX3_valueOf 13 = .ok (.invokestatic 192, 3) := by decide +kernel
theorem dX3_valueOf_16 : decode cX3_valueOf 16 = .ok (.ifCond .ne 23, 3) := by decide +kernel
theorem dX3_valueOf_19 : decode cX3_valueOf 19 = .ok (.ldc2_w 209, 3) := by decide +kernel
theorem dX3_valueOf_22 : decode cX3_valueOf 22 = .ok (.lstore 8, 2) := by decide +kernel
theorem dX3_valueOf_24 : decode cX3_valueOf 24 = .ok (.lload 4, 2) := by decide +kernel
theorem dX3_valueOf_26 : decode cX3_valueOf 26 = .ok (.iload_n 3, 1) := by decide +kernel
theorem dX3_valueOf_27 : decode cX3_valueOf 27 = .ok (.i2l, 1) := by decide +kernel
theorem dX3_valueOf_28 : decode cX3_valueOf 28 = .ok (.ladd, 1) := by decide +kernel
theorem dX3_valueOf_29 : decode cX3_valueOf 29 = .ok (.lload 8, 2) := by decide +kernel
theorem dX3_valueOf_31 : decode cX3_valueOf 31 = .ok (.land, 1) := by decide +kernel
theorem dX3_valueOf_32 : decode cX3_valueOf 32 = .ok (.lload 6, 2) := by decide +kernel
theorem dX3_valueOf_34 : decode cX3_valueOf 34 = .ok (.bipush 56, 2) := by decide +kernel
theorem dX3_valueOf_36 : decode cX3_valueOf 36 = .ok (.lshl, 1) := by decide +kernel
theorem dX3_valueOf_37 : decode cX3_valueOf 37 = .ok (.lor, 1) := by decide +kernel
theorem dX3_valueOf_38 : decode cX3_valueOf 38 = .ok (.lreturn, 1) := by decide +kernel
theorem dX3_valueOf_39 : decode cX3_valueOf 39 = .ok (.lload 4, 2) := by decide +kernel
theorem dX3_valueOf_41 : decode cX3_valueOf 41 = .ok (.aload_n 0, 1) := by decide +kernel
theorem dX3_valueOf_42 : decode cX3_valueOf 42 = .ok (.getfield 55, 3) := by decide +kernel
theorem dX3_valueOf_45 : decode cX3_valueOf 45 = .ok (.i2l, 1) := by decide +kernel
theorem dX3_valueOf_46 : decode cX3_valueOf 46 = .ok (.lcmp, 1) := by decide +kernel
theorem dX3_valueOf_47 : decode cX3_valueOf 47 = .ok (.ifCond .ge 19, 3) := by decide +kernel
theorem dX3_valueOf_50 : decode cX3_valueOf 50 = .ok (.aload_n 0, 1) := by decide +kernel
theorem dX3_valueOf_51 : decode cX3_valueOf 51 = .ok (.getfield 49, 3) := by decide +kernel
theorem dX3_valueOf_54 : decode cX3_valueOf 54 = .ok (.lload 4, 2) := by decide +kernel
theorem dX3_valueOf_56 : decode cX3_valueOf 56 = .ok (.l2i, 1) := by decide +kernel
theorem dX3_valueOf_57 : decode cX3_valueOf 57 = .ok (.iaload, 1) := by decide +kernel
theorem dX3_valueOf_58 : decode cX3_valueOf 58 = .ok (.iconst (-1), 1) := by decide +kernel
theorem dX3_valueOf_59 : decode cX3_valueOf 59 = .ok (.if_icmp .eq 7, 3) := by decide +kernel
theorem dX3_valueOf_62 : decode cX3_valueOf 62 = .ok (.iconst 1, 1) := by decide +kernel
theorem dX3_valueOf_63 : decode cX3_valueOf 63 = .ok (.goto 4, 3) := by decide +kernel
theorem dX3_valueOf_66 : decode cX3_valueOf 66 = .ok (.iconst 0, 1) := by decide +kernel
theorem dX3_valueOf_67 : decode cX3_valueOf 67 = .ok (.istore 8, 2) := by decide +kernel
theorem dX3_valueOf_69 : decode cX3_valueOf 69 = .ok (.iload 8, 2) := by decide +kernel
theorem dX3_valueOf_71 : decode cX3_valueOf 71 = .ok (.ifCond .eq 14, 3) := by decide +kernel
theorem dX3_valueOf_74 : decode cX3_valueOf 74 = .ok (.aload_n 0, 1) := by decide +kernel
theorem dX3_valueOf_75 : decode cX3_valueOf 75 = .ok (.getfield 49, 3) := by decide +kernel
theorem dX3_valueOf_78 : decode cX3_valueOf 78 = .ok (.lload 4, 2) := by decide +kernel
theorem dX3_valueOf_80 : decode cX3_valueOf 80 = .ok (.l2i, 1) := by decide +kernel
theorem dX3_valueOf_81 : decode cX3_valueOf 81 = .ok (.iaload, 1) := by decide +kernel
theorem dX3_valueOf_82 : decode cX3_valueOf 82 = .ok (.goto 4, 3) := by decide +kernel
theorem dX3_valueOf_85 : decode cX3_valueOf 85 = .ok (.iconst 0, 1) := by decide +kernel
theorem dX3_valueOf_86 : decode cX3_valueOf 86 = .ok (.i2l, 1) := by decide +kernel
theorem dX3_valueOf_87 : decode cX3_valueOf 87 = .ok (.lload 6, 2) := by decide +kernel
theorem dX3_valueOf_89 : decode cX3_valueOf 89 = .ok (.ladd, 1) := by decide +kernel
theorem dX3_valueOf_90 : decode cX3_valueOf 90 = .ok (.lreturn, 1) := by decide +kernel
theorem dX3_needs_0 : decode cX3_needs 0 = .ok (.aload_n 0, 1) := by decide +kernel
theorem dX3_needs_1 : decode cX3_needs 1 = .ok (.getfield 15, 3) := by decide +kernel
theorem dX3_needs_4 : decode cX3_needs 4 = .ok (.iload_n 1, 1) := by decide +kernel
theorem dX3_needs_5 : decode cX3_needs 5 = .ok (.bipush 9, 2) := by decide +kernel
theorem dX3_needs_7 : decode cX3_needs 7 = .ok (.iload_n 2, 1) := by decide +kernel
theorem dX3_needs_8 : decode cX3_needs 8 = .ok (.invokevirtual 166, 3) := by decide +kernel
theorem dX3_needs_11 : decode cX3_needs 11 = .ok (.ireturn, 1) := by decide +kernel
theorem dX3_u2_0 : decode cX3_u2 0 = .ok (.aload_n 0, 1) := by decide +kernel
theorem dX3_u2_1 : decode cX3_u2 1 = .ok (.getfield 9, 3) := by decide +kernel
theorem dX3_u2_4 : decode cX3_u2 4 = .ok (.iload_n 1, 1) := by decide +kernel
theorem dX3_u2_5 : decode cX3_u2 5 = .ok (.iconst 2, 1) := by decide +kernel
theorem dX3_u2_6 : decode cX3_u2 6 = .ok (.invokevirtual 147, 3) := by decide +kernel
theorem dX3_u2_9 : decode cX3_u2 9 = .ok (.l2i, 1) := by decide +kernel
theorem dX3_u2_10 : decode cX3_u2 10 = .ok (.ireturn, 1) := by decide +kernel
theorem dX3_u4_0 : decode cX3_u4 0 = .ok (.aload_n 0, 1) := by decide +kernel
theorem dX3_u4_1 : decode cX3_u4 1 = .ok (.getfield 9, 3) := by decide +kernel
theorem dX3_u4_4 : decode cX3_u4 4 = .ok (.iload_n 1, 1) := by decide +kernel
theorem dX3_u4_5 : decode cX3_u4 5 = .ok (.iconst 4, 1) := by decide +kernel
theorem dX3_u4_6 : decode cX3_u4 6 = .ok (.invokevirtual 147, 3) := by decide +kernel
theorem dX3_u4_9 : decode cX3_u4 9 = .ok (.lreturn, 1) := by decide +kernel
theorem dX4_init_0 : decode cX4_init 0 = .ok (.aload_n 0, 1) := by decide +kernel
theorem dX4_init_1 : decode cX4_init 1 = .ok (.invokespecial 3, 3) := by decide +kernel
theorem dX4_init_4 : decode cX4_init 4 = .ok (.aload_n 0, 1) := by decide +kernel
theorem dX4_init_5 : decode cX4_init 5 = .ok (.new 9, 3) := by decide +kernel
theorem dX4_init_8 : decode cX4_init 8 = .ok (.dup, 1) := by decide +kernel
theorem dX4_init_9 : decode cX4_init 9 = .ok (.invokespecial 11, 3) := by decide +kernel
theorem dX4_init_12 : decode cX4_init 12 = .ok (.putfield 12, 3) := by decide +kernel
theorem dX4_init_15 : decode cX4_init 15 = .ok (.aload_n 0, 1) := by decide +kernel
theorem dX4_init_16 : decode cX4_init 16 = .ok (.new 18, 3) := by decide +kernel
theorem dX4_init_19 : decode cX4_init 19 = .ok (.dup, 1) := by decide +kernel
theorem dX4_init_20 : decode cX4_init 20 = .ok (.sipush 16384, 3) := by decide +kernel
theorem dX4_init_23 : decode cX4_init 23 = .ok (.invokespecial 20, 3) := by decide +kernel
theorem dX4_init_26 : decode cX4_init 26 = .ok (.putfield 23, 3) := by decide +kernel
theorem dX4_init_29 : decode cX4_init 29 = .ok (.aload_n 0, 1) := by decide +kernel
theorem dX4_init_30 : decode cX4_init 30 = .ok (.new 27, 3) := by decide +kernel
theorem dX4_init_33 : decode cX4_init 33 = .ok (.dup, 1) := by decide +kernel
theorem dX4_init_34 : decode cX4_init 34 = .ok (.invokespecial 29, 3) := by decide +kernel
theorem dX4_init_37 : decode cX4_init 37 = .ok (.putfield 30, 3) := by decide +kernel
theorem dX4_init_40 : decode cX4_init 40 = .ok (.aload_n 0, 1) := by decide +kernel
theorem dX4_init_41 : decode cX4_init 41 = .ok (.new 18, 3) := by decide +kernel
theorem dX4_init_44 : decode cX4_init 44 = .ok (.dup, 1) := by decide +kernel
theorem dX4_init_45 : decode cX4_init 45 = .ok (.sipush 6400, 3) := by decide +kernel
theorem dX4_init_48 : decode cX4_init 48 = .ok (.invokespecial 20, 3) := by decide +kernel
theorem dX4_init_51 : decode cX4_init 51 = .ok (.putfield 34, 3) := by decide +kernel
theorem dX4_init_54 : decode cX4_init 54 = .ok (.aload_n 0, 1) := by decide +kernel
theorem dX4_init_55 : decode cX4_init 55 = .ok (.bipush 64, 2) := by decide +kernel
theorem dX4_init_57 : decode cX4_init 57 = .ok (.newarray .int, 2) := by decide +kernel
theorem dX4_init_59 : decode cX4_init 59 = .ok (.putfield 37, 3) := by decide +kernel
theorem dX4_init_62 : decode cX4_init 62 = .ok (.aload_n 0, 1) := by decide +kernel
theorem dX4_init_63 : decode cX4_init 63 = .ok (.bipush 64, 2) := by decide +kernel
theorem dX4_init_65 : decode cX4_init 65 = .ok (.newarray .int, 2) := by decide +kernel
theorem dX4_init_67 : decode cX4_init 67 = .ok (.putfield 41, 3) := by decide +kernel
theorem dX4_init_70 : decode cX4_init 70 = .ok (.aload_n 0, 1) := by decide +kernel
theorem dX4_init_71 : decode cX4_init 71 = .ok (.iconst 0, 1) := by decide +kernel
theorem dX4_init_72 : decode cX4_init 72 = .ok (.putfield 44, 3) := by decide +kernel
theorem dX4_init_75 : decode cX4_init 75 = .ok (.return_, 1) := by decide +kernel
theorem dX4_take_0 : decode cX4_take 0 = .ok (.aload_n 0, 1) := by decide +kernel
theorem dX4_take_1 : decode cX4_take 1 = .ok (.aload_n 1, 1) := by decide +kernel
theorem dX4_take_2 : decode cX4_take 2 = .ok (.aload_n 2, 1) := by decide +kernel
theorem dX4_take_3 : decode cX4_take 3 = .ok (.getfield 48, 3) := by decide +kernel
theorem dX4_take_6 : decode cX4_take 6 = .ok (.iload_n 3, 1) := by decide +kernel
theorem dX4_take_7 : decode cX4_take 7 = .ok (.invokevirtual 51, 3) := by decide +kernel
theorem dX4_take_10 : decode cX4_take 10 = .ok (.aload_n 0, 1) := by decide +kernel
theorem dX4_take_11 : decode cX4_take 11 = .ok (.getfield 34, 3) := by decide +kernel
theorem dX4_take_14 : decode cX4_take 14 = .ok (.invokevirtual 55, 3) := by decide +kernel
theorem dX4_take_17 : decode cX4_take 17 = .ok (.aload_n 0, 1) := by decide +kernel
theorem dX4_take_18 : decode cX4_take 18 = .ok (.getfield 34, 3) := by decide +kernel
theorem dX4_take_21 : decode cX4_take 21 = .ok (.aload_n 1, 1) := by decide +kernel
theorem dX4_take_22 : decode cX4_take 22 = .ok (.getfield 58, 3) := by decide +kernel
theorem dX4_take_25 : decode cX4_take 25 = .ok (.aload_n 2, 1) := by decide +kernel
theorem dX4_take_26 : decode cX4_take 26 = .ok (.getfield 62, 3) := by decide +kernel
theorem dX4_take_29 : decode cX4_take 29 = .ok (.aload_n 2, 1) := by decide +kernel
theorem dX4_take_30 : decode cX4_take 30 = .ok (.getfield 64, 3) := by decide +kernel
theorem dX4_take_33 : decode cX4_take 33 = .ok (.invokevirtual 67, 3) := by decide +kernel
theorem dX4_take_36 : decode cX4_take 36 = .ok (.aload_n 0, 1) := by decide +kernel
theorem dX4_take_37 : decode cX4_take 37 = .ok (.aload_n 2, 1) := by decide +kernel
theorem dX4_take_38 : decode cX4_take 38 = .ok (.getfield 71, 3) := by decide +kernel
theorem dX4_take_41 : decode cX4_take 41 = .ok (.putfield 44, 3) := by decide +kernel
theorem dX4_take_44 : decode cX4_take 44 = .ok (.iconst 0, 1) := by decide +kernel
theorem dX4_take_45 : decode cX4_take 45 = .ok (.istore 4, 2) := by decide +kernel
theorem dX4_take_47 : decode cX4_take 47 = .ok (.iload 4, 2) := by decide +kernel
theorem dX4_take_49 : decode cX4_take 49 = .ok (.aload_n 0, 1) := by decide +kernel
theorem dX4_take_50 : decode cX4_take 50 = .ok (.getfield 44, 3) := by decide +kernel
theorem dX4_take_53 : decode cX4_take 53 = .ok (.if_icmp .ge 56, 3) := by decide +kernel
theorem dX4_take_56 : decode cX4_take 56 = .ok (.aload_n 2, 1) := by decide +kernel
theorem dX4_take_57 : decode cX4_take 57 = .ok (.getfield 72, 3) := by decide +kernel
theorem dX4_take_60 : decode cX4_take 60 = .ok (.bipush 16, 2) := by decide +kernel
theorem dX4_take_62 : decode cX4_take 62 = .ok (.iload 4, 2) := by decide +kernel
theorem dX4_take_64 : decode cX4_take 64 = .ok (.imul, 1) := by decide +kernel
theorem dX4_take_65 : decode cX4_take 65 = .ok (.iadd, 1) := by decide +kernel
theorem dX4_take_66 : decode cX4_take 66 = .ok (.istore 5, 2) := by decide +kernel
theorem dX4_take_68 : decode cX4_take 68 = .ok (.aload_n 0, 1) := by decide +kernel
theorem dX4_take_69 : decode cX4_take 69 = .ok (.getfield 37, 3) := by decide +kernel
theorem dX4_take_72 : decode cX4_take 72 = .ok (.iload 4, 2) := by decide +kernel
theorem dX4_take_74 : decode cX4_take 74 = .ok (.aload_n 1, 1) := by decide +kernel
theorem dX4_take_75 : decode cX4_take 75 = .ok (.iload 5, 2) := by decide +kernel
theorem dX4_take_77 : decode cX4_take 77 = .ok (.iconst 4, 1) := by decide +kernel
theorem dX4_take_78 : decode cX4_take 78 = .ok (.invokevirtual 75, 3) := by decide +kernel
theorem dX4_take_81 : decode cX4_take 81 = .ok (.l2i, 1) := by decide +kernel
theorem dX4_take_82 : decode cX4_take 82 = .ok (.iastore, 1) := by decide +kernel
theorem dX4_take_83 : decode cX4_take 83 = .ok (.aload_n 0, 1) := by decide +kernel
theorem dX4_take_84 : decode cX4_take 84 = .ok (.getfield 41, 3) := by decide +kernel
theorem dX4_take_87 : decode cX4_take 87 = .ok (.iload 4, 2) := by decide +kernel
theorem dX4_take_89 : decode cX4_take 89 = .ok (.aload_n 1, 1) := by decide +kernel
theorem dX4_take_90 : decode cX4_take 90 = .ok (.iload 5, 2) := by decide +kernel
theorem dX4_take_92 : decode cX4_take 92 = .ok (.bipush 8, 2) := by decide +kernel
theorem dX4_take_94 : decode cX4_take 94 = .ok (.iadd, 1) := by decide +kernel
theorem dX4_take_95 : decode cX4_take 95 = .ok (.iconst 4, 1) := by decide +kernel
theorem dX4_take_96 : decode cX4_take 96 = .ok (.invokevirtual 75, 3) := by decide +kernel
theorem dX4_take_99 : decode cX4_take 99 = .ok (.l2i, 1) := by decide +kernel
theorem dX4_take_100 : decode cX4_take 100 = .ok (.iload_n 3, 1) := by decide +kernel
theorem dX4_take_101 : decode cX4_take 101 = .ok (.iadd, 1) := by decide +kernel
theorem dX4_take_102 : decode cX4_take 102 = .ok (.iastore, 1) := by decide +kernel
theorem dX4_take_103 : decode cX4_take 103 = .ok (.iinc 4 1, 3) := by decide +kernel
theorem dX4_take_106 : decode cX4_take 106 = .ok (.goto (-59), 3) := by decide +kernel
theorem dX4_take_109 : decode cX4_take 109 = .ok (.return_, 1) := by decide +kernel
theorem dX4_takeSegments_0 : decode cX4_takeSegments 0 = .ok (.aload_n 0, 1) := by decide +kernel
theorem dX4_takeSegments_1 : decode cX4_takeSegments 1 = .ok (.getfield 12, 3) := by decide +kernel
theorem dX4_takeSegments_4 : decode cX4_takeSegments 4 = .ok (.invokevirtual 79, 3) := by decide +kernel
theorem dX4_takeSegments_7 : decode cX4_takeSegments 7 = .ok (.aload_n 0, 1) := by decide +kernel
theorem dX4_takeSegments_8 : decode cX4_takeSegments 8 = .ok (.getfield 23, 3) := by decide +kernel
theorem dX4_takeSegments_11 : decode cX4_takeSegments 11 = .ok (.invokevirtual 55, 3) := by decide +kernel
theorem dX4_takeSegments_14 : decode cX4_takeSegments 14 = .ok (.iconst 0, 1) := by decide +kernel
theorem dX4_takeSegments_15 : decode cX4_takeSegments 15 = .ok (.istore 4, 2) := by decide +kernel
theorem dX4_takeSegments_17 : decode cX4_takeSegments 17 = .ok (.iload 4, 2) := by decide +kernel
theorem dX4_takeSegments_19 : decode cX4_takeSegments 19 = .ok (.aload_n 2, 1) := by decide +kernel
theorem dX4_takeSegments_20 : decode cX4_takeSegments 20 = .ok (.getfield 80, 3) := by decide +kernel
theorem dX4_takeSegments_23 : decode cX4_takeSegments 23 = .ok (.if_icmp .ge 93, 3) := by decide +kernel
theorem dX4_takeSegments_26 : decode cX4_takeSegments 26 = .ok (.aload_n 0, 1) := by decide +kernel
theorem dX4_takeSegments_27 : decode cX4_takeSegments 27 = .ok (.getfield 12, 3) := by decide +kernel
theorem dX4_takeSegments_30 : decode cX4_takeSegments 30 = .ok (.aload_n 2, 1) := by decide +kernel
theorem dX4_takeSegments_31 : decode cX4_takeSegments 31 = .ok (.getfield 83, 3) := by decide +kernel
theorem dX4_takeSegments_34 : decode cX4_takeSegments 34 = .ok (.iload 4, 2) := by decide +kernel
theorem dX4_takeSegments_36 : decode cX4_takeSegments 36 = .ok (.iaload, 1) := by decide +kernel
theorem dX4_takeSegments_37 : decode cX4_takeSegments 37 = .ok (.iload_n 3, 1) := by decide +kernel
theorem dX4_takeSegments_38 : decode cX4_takeSegments 38 = .ok (.iadd, 1) := by decide +kernel
theorem dX4_takeSegments_39 : decode cX4_takeSegments 39 = .ok (.aload_n 2, 1) := by decide +kernel
theorem dX4_takeSegments_40 : decode cX4_takeSegments 40 = .ok (.getfield 86, 3) := by decide +kernel
theorem dX4_takeSegments_43 : decode cX4_takeSegments 43 = .ok (.iload 4, 2) := by decide +kernel
theorem dX4_takeSegments_45 : decode cX4_takeSegments 45 = .ok (.iaload, 1) := by decide +kernel
theorem dX4_takeSegments_46 : decode cX4_takeSegments 46 = .ok (.aload_n 0, 1) := by decide +kernel
theorem dX4_takeSegments_47 : decode cX4_takeSegments 47 = .ok (.getfield 23, 3) := by decide +kernel
theorem dX4_takeSegments_50 : decode cX4_takeSegments 50 = .ok (.getfield 89, 3) := by decide +kernel
theorem dX4_takeSegments_53 : decode cX4_takeSegments 53 = .ok (.aload_n 2, 1) := by decide +kernel
theorem dX4_takeSegments_54 : decode cX4_takeSegments 54 = .ok (.getfield 92, 3) := by decide +kernel
theorem dX4_takeSegments_57 : decode cX4_takeSegments 57 = .ok (.iload 4, 2) := by decide +kernel
theorem dX4_takeSegments_59 : decode cX4_takeSegments 59 = .ok (.iaload, 1) := by decide +kernel
theorem dX4_takeSegments_60 : decode cX4_takeSegments 60 = .ok (.invokevirtual 94, 3) := by decide +kernel
theorem dX4_takeSegments_63 : decode cX4_takeSegments 63 = .ok (.aload_n 0, 1) := by decide +kernel
theorem dX4_takeSegments_64 : decode cX4_takeSegments 64 = .ok (.getfield 23, 3) := by decide +kernel
theorem dX4_takeSegments_67 : decode cX4_takeSegments 67 = .ok (.aload_n 1, 1) := by decide +kernel
theorem dX4_takeSegments_68 : decode cX4_takeSegments 68 = .ok (.getfield 58, 3) := by decide +kernel
theorem dX4_takeSegments_71 : decode cX4_takeSegments 71 = .ok (.aload_n 2, 1) := by decide +kernel
theorem dX4_takeSegments_72 : decode cX4_takeSegments 72 = .ok (.getfield 98, 3) := by decide +kernel
theorem dX4_takeSegments_75 : decode cX4_takeSegments 75 = .ok (.iload 4, 2) := by decide +kernel
theorem dX4_takeSegments_77 : decode cX4_takeSegments 77 = .ok (.iaload, 1) := by decide +kernel
theorem dX4_takeSegments_78 : decode cX4_takeSegments 78 = .ok (.aload_n 2, 1) := by decide +kernel
theorem dX4_takeSegments_79 : decode cX4_takeSegments 79 = .ok (.getfield 92, 3) := by decide +kernel
theorem dX4_takeSegments_82 : decode cX4_takeSegments 82 = .ok (.iload 4, 2) := by decide +kernel
theorem dX4_takeSegments_84 : decode cX4_takeSegments 84 = .ok (.iaload, 1) := by decide +kernel
theorem dX4_takeSegments_85 : decode cX4_takeSegments 85 = .ok (.invokevirtual 67, 3) := by decide +kernel
theorem dX4_takeSegments_88 : decode cX4_takeSegments 88 = .ok (.aload_n 0, 1) := by decide +kernel
theorem dX4_takeSegments_89 : decode cX4_takeSegments 89 = .ok (.getfield 23, 3) := by decide +kernel
theorem dX4_takeSegments_92 : decode cX4_takeSegments 92 = .ok (.aload_n 2, 1) := by decide +kernel
theorem dX4_takeSegments_93 : decode cX4_takeSegments 93 = .ok (.getfield 86, 3) := by decide +kernel
theorem dX4_takeSegments_96 : decode cX4_takeSegments 96 = .ok (.iload 4, 2) := by decide +kernel
theorem dX4_takeSegments_98 : decode cX4_takeSegments 98 = .ok (.iaload, 1) := by decide +kernel
theorem dX4_takeSegments_99 : decode cX4_takeSegments 99 = .ok (.aload_n 2, 1) := by decide +kernel
theorem dX4_takeSegments_100 : decode cX4_takeSegments 100 = .ok (.getfield 92, 3) := by decide +kernel
theorem dX4_takeSegments_103 : decode cX4_takeSegments 103 = .ok (.iload 4, 2) := by decide +kernel
theorem dX4_takeSegments_105 : decode cX4_takeSegments 105 = .ok (.iaload, 1) := by decide +kernel
theorem dX4_takeSegments_106 : decode cX4_takeSegments 106 = .ok (.isub, 1) := by decide +kernel
theorem dX4_takeSegments_107 : decode cX4_takeSegments 107 = .ok (.invokevirtual 101, 3) := by decide +kernel
theorem dX4_takeSegments_110 : decode cX4_takeSegments 110 = .ok (.iinc 4 1, 3) := by decide +kernel
theorem dX4_takeSegments_113 : decode cX4_takeSegments 113 = .ok (.goto (-96), 3) := by decide +kernel
theorem dX4_takeSegments_116 : decode cX4_takeSegments 116 = .ok (.return_, 1) := by decide +kernel
theorem dX4_setPointers_0 : decode cX4_setPointers 0 = .ok (.aload_n 0, 1) := by decide +kernel
theorem dX4_setPointers_1 : decode cX4_setPointers 1 = .ok (.getfield 30, 3) := by decide +kernel
theorem dX4_setPointers_4 : decode cX4_setPointers 4 = .ok (.invokevirtual 104, 3) := by decide +kernel
theorem dX4_setPointers_7 : decode cX4_setPointers 7 = .ok (.iconst 0, 1) := by decide +kernel
theorem dX4_setPointers_8 : decode cX4_setPointers 8 = .ok (.istore_n 3, 1) := by decide +kernel
theorem dX4_setPointers_9 : decode cX4_setPointers 9 = .ok (.iload_n 3, 1) := by decide +kernel
theorem dX4_setPointers_10 : decode cX4_setPointers 10 = .ok (.aload_n 1, 1) := by decide +kernel
theorem dX4_setPointers_11 : decode cX4_setPointers 11 = .ok (.getfield 105, 3) := by decide +kernel
theorem dX4_setPointers_14 : decode cX4_setPointers 14 = .ok (.getfield 108, 3) := by decide +kernel
theorem dX4_setPointers_17 : decode cX4_setPointers 17 = .ok (.if_icmp .ge 81, 3) := by decide +kernel
theorem dX4_setPointers_20 : decode cX4_setPointers 20 = .ok (.aload_n 1, 1) := by decide +kernel
theorem dX4_setPointers_21 : decode cX4_setPointers 21 = .ok (.getfield 105, 3) := by decide +kernel
theorem dX4_setPointers_24 : decode cX4_setPointers 24 = .ok (.getfield 109, 3) := by decide +kernel
theorem dX4_setPointers_27 : decode cX4_setPointers 27 = .ok (.iload_n 3, 1) := by decide +kernel
theorem dX4_setPointers_28 : decode cX4_setPointers 28 = .ok (.iaload, 1) := by decide +kernel
theorem dX4_setPointers_29 : decode cX4_setPointers 29 = .ok (.iload_n 2, 1) := by decide +kernel
theorem dX4_setPointers_30 : decode cX4_setPointers 30 = .ok (.iadd, 1) := by decide +kernel
theorem dX4_setPointers_31 : decode cX4_setPointers 31 = .ok (.istore 4, 2) := by decide +kernel
theorem dX4_setPointers_33 : decode cX4_setPointers 33 = .ok (.aload_n 1, 1) := by decide +kernel
theorem dX4_setPointers_34 : decode cX4_setPointers 34 = .ok (.getfield 105, 3) := by decide +kernel
theorem dX4_setPointers_37 : decode cX4_setPointers 37 = .ok (.getfield 110, 3) := by decide +kernel
theorem dX4_setPointers_40 : decode cX4_setPointers 40 = .ok (.iload_n 3, 1) := by decide +kernel
theorem dX4_setPointers_41 : decode cX4_setPointers 41 = .ok (.laload, 1) := by decide +kernel
theorem dX4_setPointers_42 : decode cX4_setPointers 42 = .ok (.lstore 5, 2) := by decide +kernel
theorem dX4_setPointers_44 : decode cX4_setPointers 44 = .ok (.aload_n 0, 1) := by decide +kernel
theorem dX4_setPointers_45 : decode cX4_setPointers 45 = .ok (.getfield 30, 3) := by decide +kernel
theorem dX4_setPointers_48 : decode cX4_setPointers 48 = .ok (.iload 4, 2) := by decide +kernel
theorem dX4_setPointers_50 : decode cX4_setPointers 50 = .ok (.lload 5, 2) := by decide +kernel
theorem dX4_setPointers_52 : decode cX4_setPointers 52 = .ok (.invokevirtual 114, 3) := by decide +kernel
theorem dX4_setPointers_55 : decode cX4_setPointers 55 = .ok (.aload_n 0, 1) := by decide +kernel
theorem dX4_setPointers_56 : decode cX4_setPointers 56 = .ok (.getfield 12, 3) := by decide +kernel
theorem dX4_setPointers_59 : decode cX4_setPointers 59 = .ok (.iload 4, 2) := by decide +kernel
theorem dX4_setPointers_61 : decode cX4_setPointers 61 = .ok (.bipush 8, 2) := by decide +kernel
theorem dX4_setPointers_63 : decode cX4_setPointers 63 = .ok (.invokevirtual 117, 3) := by decide +kernel
theorem dX4_setPointers_66 : decode cX4_setPointers 66 = .ok (.istore 7, 2) := by decide +kernel
theorem dX4_setPointers_68 : decode cX4_setPointers 68 = .ok (.iload 7, 2) := by decide +kernel
theorem dX4_setPointers_70 : decode cX4_setPointers 70 = .ok (.iconst (-1), 1) := by decide +kernel
theorem dX4_setPointers_71 : decode cX4_setPointers 71 = .ok (.if_icmp .eq 21, 3) := by decide +kernel
theorem dX4_setPointers_74 : decode cX4_setPointers 74 = .ok (.aload_n 0, 1) := by decide +kernel
theorem dX4_setPointers_75 : decode cX4_setPointers 75 = .ok (.getfield 23, 3) := by decide +kernel
theorem dX4_setPointers_78 : decode cX4_setPointers 78 = .ok (.iload 7, 2) := by decide +kernel
theorem dX4_setPointers_80 : decode cX4_setPointers 80 = .ok (.bipush 8, 2) := by decide +kernel
theorem dX4_setPointers_82 : decode cX4_setPointers 82 = .ok (.aload_n 1, 1) := by decide +kernel
theorem dX4_setPointers_83 : decode cX4_setPointers 83 = .ok (.lload 5, 2) := by decide +kernel
theorem dX4_setPointers_85 : decode cX4_setPointers 85 = .ok (.iload_n 2, 1) := by decide +kernel
theorem dX4_setPointers_86 : decode cX4_setPointers 86 = .ok (.invokevirtual 121, 3) := by decide +kernel
theorem dX4_setPointers_89 : decode cX4_setPointers 89 = .ok (.invokevirtual 125, 3) := by decide +kernel
theorem dX4_setPointers_92 : decode cX4_setPointers 92 = .ok (.iinc 3 1, 3) := by decide +kernel
theorem dX4_setPointers_95 : decode cX4_setPointers 95 = .ok (.goto (-86), 3) := by decide +kernel
theorem dX4_setPointers_98 : decode cX4_setPointers 98 = .ok (.return_, 1) := by decide +kernel
theorem dX4_symbolAddress_0 : decode cX4_symbolAddress 0 = .ok (.iconst 0, 1) := by decide +kernel
theorem dX4_symbolAddress_1 : decode cX4_symbolAddress 1 = .ok (.istore_n 2, 1) := by decide +kernel
theorem dX4_symbolAddress_2 : decode cX4_symbolAddress 2 = .ok (.iload_n 2, 1) := by decide +kernel
theorem dX4_symbolAddress_3 : decode cX4_symbolAddress 3 = .ok (.aload_n 0, 1) := by decide +kernel
theorem dX4_symbolAddress_4 : decode cX4_symbolAddress 4 = .ok (.getfield 44, 3) := by decide +kernel
theorem dX4_symbolAddress_7 : decode cX4_symbolAddress 7 = .ok (.if_icmp .ge 41, 3) := by decide +kernel
theorem dX4_symbolAddress_10 : decode cX4_symbolAddress 10 = .ok (.aload_n 0, 1) := by decide +kernel
theorem dX4_symbolAddress_11 : decode cX4_symbolAddress 11 = .ok (.getfield 34, 3) := by decide +kernel
theorem dX4_symbolAddress_14 : decode cX4_symbolAddress 14 = .ok (.aload_n 0, 1) := by decide +kernel
theorem dX4_symbolAddress_15 : decode cX4_symbolAddress 15 = .ok (.getfield 37, 3) := by decide +kernel
theorem dX4_symbolAddress_18 : decode cX4_symbolAddress 18 = .ok (.iload_n 2, 1) := by decide +kernel
theorem dX4_symbolAddress_19 : decode cX4_symbolAddress 19 = .ok (.iaload, 1) := by decide +kernel
theorem dX4_symbolAddress_20 : decode cX4_symbolAddress 20 = .ok (.aload_n 1, 1) := by decide +kernel
theorem dX4_symbolAddress_21 : decode cX4_symbolAddress 21 = .ok (.getfield 58, 3) := by decide +kernel
theorem dX4_symbolAddress_24 : decode cX4_symbolAddress 24 = .ok (.iconst 0, 1) := by decide +kernel
theorem dX4_symbolAddress_25 : decode cX4_symbolAddress 25 = .ok (.aload_n 1, 1) := by decide +kernel
theorem dX4_symbolAddress_26 : decode cX4_symbolAddress 26 = .ok (.getfield 89, 3) := by decide +kernel
theorem dX4_symbolAddress_29 : decode cX4_symbolAddress 29 = .ok (.invokevirtual 129, 3) := by decide +kernel
theorem dX4_symbolAddress_32 : decode cX4_symbolAddress 32 = .ok (.ifCond .eq 10, 3) := by decide +kernel
theorem dX4_symbolAddress_35 : decode cX4_symbolAddress 35 = .ok (.aload_n 0, 1) := by decide +kernel
theorem dX4_symbolAddress_36 : decode cX4_symbolAddress 36 = .ok (.getfield 41, 3) := by decide +kernel
theorem dX4_symbolAddress_39 : decode cX4_symbolAddress 39 = .ok (.iload_n 2, 1) := by decide +kernel
theorem dX4_symbolAddress_40 : decode cX4_symbolAddress 40 = .ok (.iaload, 1) := by decide +kernel
theorem dX4_symbolAddress_41 : decode cX4_symbolAddress 41 = .ok (.ireturn, 1) := by decide +kernel
theorem dX4_symbolAddress_42 : decode cX4_symbolAddress 42 = .ok (.iinc 2 1, 3) := by decide +kernel
theorem dX4_symbolAddress_45 : decode cX4_symbolAddress 45 = .ok (.goto (-43), 3) := by decide +kernel
theorem dX4_symbolAddress_48 : decode cX4_symbolAddress 48 = .ok (.iconst (-1), 1) := by decide +kernel
theorem dX4_symbolAddress_49 : decode cX4_symbolAddress 49 = .ok (.ireturn, 1) := by decide +kernel
theorem dX5_init_0 : decode cX5_init 0 = .ok (.aload_n 0, 1) := by decide +kernel
theorem dX5_init_1 : decode cX5_init 1 = .ok (.invokespecial 3, 3) := by decide +kernel
theorem dX5_init_4 : decode cX5_init 4 = .ok (.aload_n 0, 1) := by decide +kernel
theorem dX5_init_5 : decode cX5_init 5 = .ok (.iload_n 1, 1) := by decide +kernel
theorem dX5_init_6 : decode cX5_init 6 = .ok (.bipush 16, 2) := by decide +kernel
theorem dX5_init_8 : decode cX5_init 8 = .ok (.imul, 1) := by decide +kernel
theorem dX5_init_9 : decode cX5_init 9 = .ok (.newarray .byte, 2) := by decide +kernel
theorem dX5_init_11 : decode cX5_init 11 = .ok (.putfield 9, 3) := by decide +kernel
theorem dX5_init_14 : decode cX5_init 14 = .ok (.aload_n 0, 1) := by decide +kernel
theorem dX5_init_15 : decode cX5_init 15 = .ok (.iload_n 1, 1) := by decide +kernel
theorem dX5_init_16 : decode cX5_init 16 = .ok (.newarray .int, 2) := by decide +kernel
theorem dX5_init_18 : decode cX5_init 18 = .ok (.putfield 15, 3) := by decide +kernel
theorem dX5_init_21 : decode cX5_init 21 = .ok (.aload_n 0, 1) := by decide +kernel
theorem dX5_init_22 : decode cX5_init 22 = .ok (.iconst 0, 1) := by decide +kernel
theorem dX5_init_23 : decode cX5_init 23 = .ok (.putfield 19, 3) := by decide +kernel
theorem dX5_init_26 : decode cX5_init 26 = .ok (.return_, 1) := by decide +kernel
theorem dX5_clear_0 : decode cX5_clear 0 = .ok (.aload_n 0, 1) := by decide +kernel
theorem dX5_clear_1 : decode cX5_clear 1 = .ok (.iconst 0, 1) := by decide +kernel
theorem dX5_clear_2 : decode cX5_clear 2 = .ok (.putfield 19, 3) := by decide +kernel
theorem dX5_clear_5 : decode cX5_clear 5 = .ok (.return_, 1) := by decide +kernel
theorem dX5_has_0 : decode cX5_has 0 = .ok (.iload_n 1, 1) := by decide +kernel
theorem dX5_has_1 : decode cX5_has 1 = .ok (.ifCond .lt 15, 3) := by decide +kernel
theorem dX5_has_4 : decode cX5_has 4 = .ok (.iload_n 1, 1) := by decide +kernel
theorem dX5_has_5 : decode cX5_has 5 = .ok (.aload_n 0, 1) := by decide +kernel
theorem dX5_has_6 : decode cX5_has 6 = .ok (.getfield 19, 3) := by decide +kernel
theorem dX5_has_9 : decode cX5_has 9 = .ok (.if_icmp .ge 7, 3) := by decide +kernel
theorem dX5_has_12 : decode cX5_has 12 = .ok (.iconst 1, 1) := by decide +kernel
theorem dX5_has_13 : decode cX5_has 13 = .ok (.goto 4, 3) := by decide +kernel
theorem dX5_has_16 : decode cX5_has 16 = .ok (.iconst 0, 1) := by decide +kernel
theorem dX5_has_17 : decode cX5_has 17 = .ok (.ireturn, 1) := by decide +kernel
theorem dX5_takes_0 : decode cX5_takes 0 = .ok (.aload_n 0, 1) := by decide +kernel
theorem dX5_takes_1 : decode cX5_takes 1 = .ok (.getfield 19, 3) := by decide +kernel
theorem dX5_takes_4 : decode cX5_takes 4 = .ok (.aload_n 0, 1) := by decide +kernel
theorem dX5_takes_5 : decode cX5_takes 5 = .ok (.getfield 15, 3) := by decide +kernel
theorem dX5_takes_8 : decode cX5_takes 8 = .ok (.arraylength, 1) := by decide +kernel
theorem dX5_takes_9 : decode cX5_takes 9 = .ok (.if_icmp .ge 14, 3) := by decide +kernel
theorem dX5_takes_12 : decode cX5_takes 12 = .ok (.aload_n 1, 1) := by decide +kernel
theorem dX5_takes_13 : decode cX5_takes 13 = .ok (.invokevirtual 23, 3) := by decide +kernel
theorem dX5_takes_16 : decode cX5_takes 16 = .ok (.ifCond .eq 7, 3) := by decide +kernel
theorem dX5_takes_19 : decode cX5_takes 19 = .ok (.iconst 1, 1) := by decide +kernel
theorem dX5_takes_20 : decode cX5_takes 20 = .ok (.goto 4, 3) := by decide +kernel
theorem dX5_takes_23 : decode cX5_takes 23 = .ok (.iconst 0, 1) := by decide +kernel
theorem dX5_takes_24 : decode cX5_takes 24 = .ok (.ireturn, 1) := by decide +kernel
theorem dX5_add_0 : decode cX5_add 0 = .ok (.aload_n 0, 1) := by decide +kernel
theorem dX5_add_1 : decode cX5_add 1 = .ok (.getfield 19, 3) := by decide +kernel
theorem dX5_add_4 : decode cX5_add 4 = .ok (.istore_n 2, 1) := by decide +kernel
theorem dX5_add_5 : decode cX5_add 5 = .ok (.iload_n 2, 1) := by decide +kernel
theorem dX5_add_6 : decode cX5_add 6 = .ok (.aload_n 0, 1) := by decide +kernel
theorem dX5_add_7 : decode cX5_add 7 = .ok (.getfield 15, 3) := by decide +kernel
theorem dX5_add_10 : decode cX5_add 10 = .ok (.arraylength, 1) := by decide +kernel
theorem dX5_add_11 : decode cX5_add 11 = .ok (.if_icmp .lt 5, 3) := by decide +kernel
theorem dX5_add_14 : decode cX5_add 14 = .ok (.iconst (-1), 1) := by decide +kernel
theorem dX5_add_15 : decode cX5_add 15 = .ok (.ireturn, 1) := by decide +kernel
theorem dX5_add_16 : decode cX5_add 16 = .ok (.iconst 0, 1) := by decide +kernel
theorem dX5_add_17 : decode cX5_add 17 = .ok (.istore_n 3, 1) := by decide +kernel
theorem dX5_add_18 : decode cX5_add 18 = .ok (.iload_n 3, 1) := by decide +kernel
theorem dX5_add_19 : decode cX5_add 19 = .ok (.bipush 16, 2) := by decide +kernel
theorem dX5_add_21 : decode cX5_add 21 = .ok (.if_icmp .ge 26, 3) := by decide +kernel
theorem dX5_add_24 : decode cX5_add 24 = .ok (.aload_n 0, 1) := by decide +kernel
theorem dX5_add_25 : decode cX5_add 25 = .ok (.getfield 9, 3) := by decide +kernel
theorem dX5_add_28 : decode cX5_add 28 = .ok (.iload_n 2, 1) := by decide +kernel
theorem dX5_add_29 : decode cX5_add 29 = .ok (.bipush 16, 2) := by decide +kernel
theorem dX5_add_31 : decode cX5_add 31 = .ok (.imul, 1) := by decide +kernel
theorem dX5_add_32 : decode cX5_add 32 = .ok (.iload_n 3, 1) := by decide +kernel
theorem dX5_add_33 : decode cX5_add 33 = .ok (.iadd, 1) := by decide +kernel
theorem dX5_add_34 : decode cX5_add 34 = .ok (.aload_n 1, 1) := by decide +kernel
theorem dX5_add_35 : decode cX5_add 35 = .ok (.iload_n 3, 1) := by decide +kernel
theorem dX5_add_36 : decode cX5_add 36 = .ok (.invokevirtual 29, 3) := by decide +kernel
theorem dX5_add_39 : decode cX5_add 39 = .ok (.i2b, 1) := by decide +kernel
theorem dX5_add_40 : decode cX5_add 40 = .ok (.bastore, 1) := by decide +kernel
theorem dX5_add_41 : decode cX5_add 41 = .ok (.iinc 3 1, 3) := by decide +kernel
theorem dX5_add_44 : decode cX5_add 44 = .ok (.goto (-26), 3) := by decide +kernel
theorem dX5_add_47 : decode cX5_add 47 = .ok (.aload_n 0, 1) := by decide +kernel
theorem dX5_add_48 : decode cX5_add 48 = .ok (.getfield 15, 3) := by decide +kernel
theorem dX5_add_51 : decode cX5_add 51 = .ok (.iload_n 2, 1) := by decide +kernel
theorem dX5_add_52 : decode cX5_add 52 = .ok (.aload_n 1, 1) := by decide +kernel
theorem dX5_add_53 : decode cX5_add 53 = .ok (.getfield 33, 3) := by decide +kernel
theorem dX5_add_56 : decode cX5_add 56 = .ok (.iastore, 1) := by decide +kernel
theorem dX5_add_57 : decode cX5_add 57 = .ok (.aload_n 0, 1) := by decide +kernel
theorem dX5_add_58 : decode cX5_add 58 = .ok (.dup, 1) := by decide +kernel
theorem dX5_add_59 : decode cX5_add 59 = .ok (.getfield 19, 3) := by decide +kernel
theorem dX5_add_62 : decode cX5_add 62 = .ok (.iconst 1, 1) := by decide +kernel
theorem dX5_add_63 : decode cX5_add 63 = .ok (.iadd, 1) := by decide +kernel
theorem dX5_add_64 : decode cX5_add 64 = .ok (.putfield 19, 3) := by decide +kernel
theorem dX5_add_67 : decode cX5_add 67 = .ok (.iload_n 2, 1) := by decide +kernel
theorem dX5_add_68 : decode cX5_add 68 = .ok (.ireturn, 1) := by decide +kernel
theorem dX5_bytesWithZeros_0 : decode cX5_bytesWithZeros 0 = .ok (.iconst 0, 1) := by decide +kernel
theorem dX5_bytesWithZeros_1 : decode cX5_bytesWithZeros 1 = .ok (.istore_n 1, 1) := by decide +kernel
theorem dX5_bytesWithZeros_2 : decode cX5_bytesWithZeros 2 = .ok (.iconst 0, 1) := by decide +kernel
theorem dX5_bytesWithZeros_3 : decode cX5_bytesWithZeros 3 = .ok (.istore_n 2, 1) := by decide +kernel
theorem dX5_bytesWithZeros_4 : decode cX5_bytesWithZeros 4 = .ok (.iload_n 2, 1) := by decide +kernel
theorem dX5_bytesWithZeros_5 : decode cX5_bytesWithZeros 5 = .ok (.aload_n 0, 1) := by decide +kernel
theorem dX5_bytesWithZeros_6 : decode cX5_bytesWithZeros 6 = .ok (.getfield 19, 3) := by decide +kernel
theorem dX5_bytesWithZeros_9 : decode cX5_bytesWithZeros 9 = .ok (.if_icmp .ge 20, 3) := by decide +kernel
theorem dX5_bytesWithZeros_12 : decode cX5_bytesWithZeros 12 = .ok (.iload_n 1, 1) := by decide +kernel
theorem dX5_bytesWithZeros_13 : decode cX5_bytesWithZeros 13 = .ok (.aload_n 0, 1) := by decide +kernel
theorem dX5_bytesWithZeros_14 : decode cX5_bytesWithZeros 14 = .ok (.getfield 15, 3) := by decide +kernel
theorem dX5_bytesWithZeros_17 : decode cX5_bytesWithZeros 17 = .ok (.iload_n 2, 1) := by decide +kernel
theorem dX5_bytesWithZeros_18 : decode cX5_bytesWithZeros 18 = .ok (.iaload, 1) := by decide +kernel
theorem dX5_bytesWithZeros_19 : decode cX5_bytesWithZeros 19 = .ok (.iconst 1, 1) := by decide +kernel
theorem dX5_bytesWithZeros_20 : decode cX5_bytesWithZeros 20 = .ok (.iadd, 1) := by decide +kernel
theorem dX5_bytesWithZeros_21 : decode cX5_bytesWithZeros 21 = .ok (.iadd, 1) := by decide +kernel
theorem dX5_bytesWithZeros_22 : decode cX5_bytesWithZeros 22 = .ok (.istore_n 1, 1) := by decide +kernel
theorem dX5_bytesWithZeros_23 : decode cX5_bytesWithZeros 23 = .ok (.iinc 2 1, 3) := by decide +kernel
theorem dX5_bytesWithZeros_26 : decode cX5_bytesWithZeros 26 = .ok (.goto (-22), 3) := by decide +kernel
theorem dX5_bytesWithZeros_29 : decode cX5_bytesWithZeros 29 = .ok (.iload_n 1, 1) := by decide +kernel
theorem dX5_bytesWithZeros_30 : decode cX5_bytesWithZeros 30 = .ok (.ireturn, 1) := by decide +kernel
theorem dX5_addFilledTo_0 : decode cX5_addFilledTo 0 = .ok (.aload_n 1, 1) := by decide +kernel
theorem dX5_addFilledTo_1 : decode cX5_addFilledTo 1 = .ok (.aload_n 0, 1) := by decide +kernel
theorem dX5_addFilledTo_2 : decode cX5_addFilledTo 2 = .ok (.getfield 9, 3) := by decide +kernel
theorem dX5_addFilledTo_5 : decode cX5_addFilledTo 5 = .ok (.iload_n 2, 1) := by decide +kernel
theorem dX5_addFilledTo_6 : decode cX5_addFilledTo 6 = .ok (.bipush 16, 2) := by decide +kernel
theorem dX5_addFilledTo_8 : decode cX5_addFilledTo 8 = .ok (.imul, 1) := by decide +kernel
theorem dX5_addFilledTo_9 : decode cX5_addFilledTo 9 = .ok (.bipush 16, 2) := by decide +kernel
theorem dX5_addFilledTo_11 : decode cX5_addFilledTo 11 = .ok (.invokevirtual 36, 3) := by decide +kernel
theorem dX5_addFilledTo_14 : decode cX5_addFilledTo 14 = .ok (.return_, 1) := by decide +kernel
theorem dX5_addAllTo_0 : decode cX5_addAllTo 0 = .ok (.iconst 0, 1) := by decide +kernel
theorem dX5_addAllTo_1 : decode cX5_addAllTo 1 = .ok (.istore_n 2, 1) := by decide +kernel
theorem dX5_addAllTo_2 : decode cX5_addAllTo 2 = .ok (.iload_n 2, 1) := by decide +kernel
theorem dX5_addAllTo_3 : decode cX5_addAllTo 3 = .ok (.aload_n 0, 1) := by decide +kernel
theorem dX5_addAllTo_4 : decode cX5_addAllTo 4 = .ok (.getfield 19, 3) := by decide +kernel
theorem dX5_addAllTo_7 : decode cX5_addAllTo 7 = .ok (.if_icmp .ge 32, 3) := by decide +kernel
theorem dX5_addAllTo_10 : decode cX5_addAllTo 10 = .ok (.aload_n 1, 1) := by decide +kernel
theorem dX5_addAllTo_11 : decode cX5_addAllTo 11 = .ok (.aload_n 0, 1) := by decide +kernel
theorem dX5_addAllTo_12 : decode cX5_addAllTo 12 = .ok (.getfield 9, 3) := by decide +kernel
theorem dX5_addAllTo_15 : decode cX5_addAllTo 15 = .ok (.iload_n 2, 1) := by decide +kernel
theorem dX5_addAllTo_16 : decode cX5_addAllTo 16 = .ok (.bipush 16, 2) := by decide +kernel
theorem dX5_addAllTo_18 : decode cX5_addAllTo 18 = .ok (.imul, 1) := by decide +kernel
theorem dX5_addAllTo_19 : decode cX5_addAllTo 19 = .ok (.aload_n 0, 1) := by decide +kernel
theorem dX5_addAllTo_20 : decode cX5_addAllTo 20 = .ok (.getfield 15, 3) := by decide +kernel
theorem dX5_addAllTo_23 : decode cX5_addAllTo 23 = .ok (.iload_n 2, 1) := by decide +kernel
theorem dX5_addAllTo_24 : decode cX5_addAllTo 24 = .ok (.iaload, 1) := by decide +kernel
theorem dX5_addAllTo_25 : decode cX5_addAllTo 25 = .ok (.invokevirtual 36, 3) := by decide +kernel
theorem dX5_addAllTo_28 : decode cX5_addAllTo 28 = .ok (.aload_n 1, 1) := by decide +kernel
theorem dX5_addAllTo_29 : decode cX5_addAllTo 29 = .ok (.iconst 1, 1) := by decide +kernel
theorem dX5_addAllTo_30 : decode cX5_addAllTo 30 = .ok (.invokevirtual 40, 3) := by decide +kernel
theorem dX5_addAllTo_33 : decode cX5_addAllTo 33 = .ok (.iinc 2 1, 3) := by decide +kernel
theorem dX5_addAllTo_36 : decode cX5_addAllTo 36 = .ok (.goto (-34), 3) := by decide +kernel
theorem dX5_addAllTo_39 : decode cX5_addAllTo 39 = .ok (.return_, 1) := by decide +kernel
theorem dX6_init_0 : decode cX6_init 0 = .ok (.aload_n 0, 1) := by decide +kernel
theorem dX6_init_1 : decode cX6_init 1 = .ok (.invokespecial 3, 3) := by decide +kernel
theorem dX6_init_4 : decode cX6_init 4 = .ok (.aload_n 0, 1) := by decide +kernel
theorem dX6_init_5 : decode cX6_init 5 = .ok (.iload_n 1, 1) := by decide +kernel
theorem dX6_init_6 : decode cX6_init 6 = .ok (.newarray .byte, 2) := by decide +kernel
theorem dX6_init_8 : decode cX6_init 8 = .ok (.putfield 9, 3) := by decide +kernel
theorem dX6_init_11 : decode cX6_init 11 = .ok (.aload_n 0, 1) := by decide +kernel
theorem dX6_init_12 : decode cX6_init 12 = .ok (.iconst 0, 1) := by decide +kernel
theorem dX6_init_13 : decode cX6_init 13 = .ok (.putfield 15, 3) := by decide +kernel
theorem dX6_init_16 : decode cX6_init 16 = .ok (.return_, 1) := by decide +kernel
theorem dX6_clear_0 : decode cX6_clear 0 = .ok (.aload_n 0, 1) := by decide +kernel
theorem dX6_clear_1 : decode cX6_clear 1 = .ok (.iconst 0, 1) := by decide +kernel
theorem dX6_clear_2 : decode cX6_clear 2 = .ok (.putfield 15, 3) := by decide +kernel
theorem dX6_clear_5 : decode cX6_clear 5 = .ok (.return_, 1) := by decide +kernel
theorem dX6_has_0 : decode cX6_has 0 = .ok (.iload_n 1, 1) := by decide +kernel
theorem dX6_has_1 : decode cX6_has 1 = .ok (.ifCond .lt 15, 3) := by decide +kernel
theorem dX6_has_4 : decode cX6_has 4 = .ok (.iload_n 1, 1) := by decide +kernel
theorem dX6_has_5 : decode cX6_has 5 = .ok (.aload_n 0, 1) := by decide +kernel
theorem dX6_has_6 : decode cX6_has 6 = .ok (.getfield 15, 3) := by decide +kernel
theorem dX6_has_9 : decode cX6_has 9 = .ok (.if_icmp .ge 7, 3) := by decide +kernel
theorem dX6_has_12 : decode cX6_has 12 = .ok (.iconst 1, 1) := by decide +kernel
theorem dX6_has_13 : decode cX6_has 13 = .ok (.goto 4, 3) := by decide +kernel
theorem dX6_has_16 : decode cX6_has 16 = .ok (.iconst 0, 1) := by decide +kernel
theorem dX6_has_17 : decode cX6_has 17 = .ok (.ireturn, 1) := by decide +kernel
theorem dX6_shorten_0 : decode cX6_shorten 0 = .ok (.iload_n 1, 1) := by decide +kernel
theorem dX6_shorten_1 : decode cX6_shorten 1 = .ok (.ifCond .lt 11, 3) := by decide +kernel
theorem dX6_shorten_4 : decode cX6_shorten 4 = .ok (.iload_n 1, 1) := by decide +kernel
theorem dX6_shorten_5 : decode cX6_shorten 5 = .ok (.aload_n 0, 1) := by decide +kernel
theorem dX6_shorten_6 : decode cX6_shorten 6 = .ok (.getfield 15, 3) := by decide +kernel
theorem dX6_shorten_9 : decode cX6_shorten 9 = .ok (.if_icmp .le 5, 3) := by decide +kernel
theorem dX6_shorten_12 : decode cX6_shorten 12 = .ok (.iconst 0, 1) := by decide +kernel
theorem dX6_shorten_13 : decode cX6_shorten 13 = .ok (.ireturn, 1) := by decide +kernel
theorem dX6_shorten_14 : decode cX6_shorten 14 = .ok (.aload_n 0, 1) := by decide +kernel
theorem dX6_shorten_15 : decode cX6_shorten 15 = .ok (.iload_n 1, 1) := by decide +kernel
theorem dX6_shorten_16 : decode cX6_shorten 16 = .ok (.putfield 15, 3) := by decide +kernel
theorem dX6_shorten_19 : decode cX6_shorten 19 = .ok (.iconst 1, 1) := by decide +kernel
theorem dX6_shorten_20 : decode cX6_shorten 20 = .ok (.ireturn, 1) := by decide +kernel
theorem dX6_at_0 : decode cX6_at 0 = .ok (.iload_n 1, 1) := by decide +kernel
theorem dX6_at_1 : decode cX6_at 1 = .ok (.ifCond .lt 24, 3) := by decide +kernel
theorem dX6_at_4 : decode cX6_at 4 = .ok (.iload_n 1, 1) := by decide +kernel
theorem dX6_at_5 : decode cX6_at 5 = .ok (.aload_n 0, 1) := by decide +kernel
theorem dX6_at_6 : decode cX6_at 6 = .ok (.getfield 15, 3) := by decide +kernel
theorem dX6_at_9 : decode cX6_at 9 = .ok (.if_icmp .ge 16, 3) := by decide +kernel
theorem dX6_at_12 : decode cX6_at 12 = .ok (.aload_n 0, 1) := by decide +kernel
theorem dX6_at_13 : decode cX6_at 13 = .ok (.getfield 9, 3) := by decide +kernel
theorem dX6_at_16 : decode cX6_at 16 = .ok (.iload_n 1, 1) := by decide +kernel
theorem dX6_at_17 : decode cX6_at 17 = .ok (.baload, 1) := by decide +kernel
theorem dX6_at_18 : decode cX6_at 18 = .ok (.sipush 255, 3) := by decide +kernel
theorem dX6_at_21 : decode cX6_at 21 = .ok (.iand, 1) := by decide +kernel
theorem dX6_at_22 : decode cX6_at 22 = .ok (.goto 4, 3) := by decide +kernel
theorem dX6_at_25 : decode cX6_at 25 = .ok (.iconst 0, 1) := by decide +kernel
theorem dX6_at_26 : decode cX6_at 26 = .ok (.ireturn, 1) := by decide +kernel
theorem dX6_number_0 : decode cX6_number 0 = .ok (.lconst 0, 1) := by decide +kernel
theorem dX6_number_1 : decode cX6_number 1 = .ok (.lstore_n 3, 1) := by decide +kernel
theorem dX6_number_2 : decode cX6_number 2 = .ok (.iload_n 2, 1) := by decide +kernel
theorem dX6_number_3 : decode cX6_number 3 = .ok (.iconst 1, 1) := by decide +kernel
theorem dX6_number_4 : decode cX6_number 4 = .ok (.isub, 1) := by decide +kernel
theorem dX6_number_5 : decode cX6_number 5 = .ok (.istore 5, 2) := by decide +kernel
theorem dX6_number_7 : decode cX6_number 7 = .ok (.iload 5, 2) := by decide +kernel
theorem dX6_number_9 : decode cX6_number 9 = .ok (.ifCond .lt 51, 3) := by decide +kernel
theorem dX6_number_12 : decode cX6_number 12 = .ok (.iload_n 1, 1) := by decide +kernel
theorem dX6_number_13 : decode cX6_number 13 = .ok (.iload 5, 2) := by decide +kernel
theorem dX6_number_15 : decode cX6_number 15 = .ok (.iadd, 1) := by decide +kernel
theorem dX6_number_16 : decode cX6_number 16 = .ok (.istore 6, 2) := by decide +kernel
theorem dX6_number_18 : decode cX6_number 18 = .ok (.lload_n 3, 1) := by decide +kernel
theorem dX6_number_19 : decode cX6_number 19 = .ok (.bipush 8, 2) := by decide +kernel
theorem dX6_number_21 : decode cX6_number 21 = .ok (.lshl, 1) := by decide +kernel
theorem dX6_number_22 : decode cX6_number 22 = .ok (.iload 6, 2) := by decide +kernel
theorem dX6_number_24 : decode cX6_number 24 = .ok (.ifCond .lt 26, 3) := by decide +kernel
theorem dX6_number_27 : decode cX6_number 27 = .ok (.iload 6, 2) := by decide +kernel
theorem dX6_number_29 : decode cX6_number 29 = .ok (.aload_n 0, 1) := by decide +kernel
theorem dX6_number_30 : decode cX6_number 30 = .ok (.getfield 15, 3) := by decide +kernel
theorem dX6_number_33 : decode cX6_number 33 = .ok (.if_icmp .ge 17, 3) := by decide +kernel
theorem dX6_number_36 : decode cX6_number 36 = .ok (.aload_n 0, 1) := by decide +kernel
theorem dX6_number_37 : decode cX6_number 37 = .ok (.getfield 9, 3) := by decide +kernel
theorem dX6_number_40 : decode cX6_number 40 = .ok (.iload 6, 2) := by decide +kernel
theorem dX6_number_42 : decode cX6_number 42 = .ok (.baload, 1) := by decide +kernel
theorem dX6_number_43 : decode cX6_number 43 = .ok (.sipush 255, 3) := by decide +kernel
theorem dX6_number_46 : decode cX6_number 46 = .ok (.iand, 1) := by decide +kernel
theorem dX6_number_47 : decode cX6_number 47 = .ok (.goto 4, 3) := by decide +kernel
theorem dX6_number_50 : decode cX6_number 50 = .ok (.iconst 0, 1) := by decide +kernel
theorem dX6_number_51 : decode cX6_number 51 = .ok (.i2l, 1) := by decide +kernel
theorem dX6_number_52 : decode cX6_number 52 = .ok (.lor, 1) := by decide +kernel
theorem dX6_number_53 : decode cX6_number 53 = .ok (.lstore_n 3, 1) := by decide +kernel
theorem dX6_number_54 : decode cX6_number 54 = .ok (.iinc 5 (-1), 3) := by decide +kernel
theorem dX6_number_57 : decode cX6_number 57 = .ok (.goto (-50), 3) := by decide +kernel
theorem dX6_number_60 : decode cX6_number 60 = .ok (.lload_n 3, 1) := by decide +kernel
theorem dX6_number_61 : decode cX6_number 61 = .ok (.lreturn, 1) := by decide +kernel
theorem dX6_put_0 : decode cX6_put 0 = .ok (.iconst 0, 1) := by decide +kernel
theorem dX6_put_1 : decode cX6_put 1 = .ok (.istore 5, 2) := by decide +kernel
theorem dX6_put_3 : decode cX6_put 3 = .ok (.iload 5, 2) := by decide +kernel
theorem dX6_put_5 : decode cX6_put 5 = .ok (.iload_n 2, 1) := by decide +kernel
theorem dX6_put_6 : decode cX6_put 6 = .ok (.if_icmp .ge 38, 3) := by decide +kernel
theorem dX6_put_9 : decode cX6_put 9 = .ok (.aload_n 0, 1) := by decide +kernel
theorem dX6_put_10 : decode cX6_put 10 = .ok (.iload_n 1, 1) := by decide +kernel
theorem dX6_put_11 : decode cX6_put 11 = .ok (.iload 5, 2) := by decide +kernel
theorem dX6_put_13 : decode cX6_put 13 = .ok (.iadd, 1) := by decide +kernel
theorem dX6_put_14 : decode cX6_put 14 = .ok (.invokevirtual 19, 3) := by decide +kernel
theorem dX6_put_17 : decode cX6_put 17 = .ok (.ifCond .eq 21, 3) := by decide +kernel
theorem dX6_put_20 : decode cX6_put 20 = .ok (.aload_n 0, 1) := by decide +kernel
theorem dX6_put_21 : decode cX6_put 21 = .ok (.getfield 9, 3) := by decide +kernel
theorem dX6_put_24 : decode cX6_put 24 = .ok (.iload_n 1, 1) := by decide +kernel
theorem dX6_put_25 : decode cX6_put 25 = .ok (.iload 5, 2) := by decide +kernel
theorem dX6_put_27 : decode cX6_put 27 = .ok (.iadd, 1) := by decide +kernel
theorem dX6_put_28 : decode cX6_put 28 = .ok (.lload_n 3, 1) := by decide +kernel
theorem dX6_put_29 : decode cX6_put 29 = .ok (.bipush 8, 2) := by decide +kernel
theorem dX6_put_31 : decode cX6_put 31 = .ok (.iload 5, 2) := by decide +kernel
theorem dX6_put_33 : decode cX6_put 33 = .ok (.imul, 1) := by decide +kernel
theorem dX6_put_34 : decode cX6_put 34 = .ok (.lushr, 1) := by decide +kernel
theorem dX6_put_35 : decode cX6_put 35 = .ok (.l2i, 1) := by decide +kernel
theorem dX6_put_36 : decode cX6_put 36 = .ok (.i2b, 1) := by decide +kernel
theorem dX6_put_37 : decode cX6_put 37 = .ok (.bastore, 1) := by decide +kernel
theorem dX6_put_38 : decode cX6_put 38 = .ok (.iinc 5 1, 3) := by decide +kernel
theorem dX6_put_41 : decode cX6_put 41 = .ok (.goto (-38), 3) := by decide +kernel
theorem dX6_put_44 : decode cX6_put 44 = .ok (.return_, 1) := by decide +kernel
theorem dX6_add_0 : decode cX6_add 0 = .ok (.iload_n 1, 1) := by decide +kernel
theorem dX6_add_1 : decode cX6_add 1 = .ok (.ifCond .lt 39, 3) := by decide +kernel
theorem dX6_add_4 : decode cX6_add 4 = .ok (.iload_n 1, 1) := by decide +kernel
theorem dX6_add_5 : decode cX6_add 5 = .ok (.aload_n 0, 1) := by decide +kernel
theorem dX6_add_6 : decode cX6_add 6 = .ok (.getfield 9, 3) := by decide +kernel
theorem dX6_add_9 : decode cX6_add 9 = .ok (.arraylength, 1) := by decide +kernel
theorem dX6_add_10 : decode cX6_add 10 = .ok (.aload_n 0, 1) := by decide +kernel
theorem dX6_add_11 : decode cX6_add 11 = .ok (.getfield 15, 3) := by decide +kernel
theorem dX6_add_14 : decode cX6_add 14 = .ok (.isub, 1) := by decide +kernel
theorem dX6_add_15 : decode cX6_add 15 = .ok (.if_icmp .gt 25, 3) := by decide +kernel
theorem dX6_add_18 : decode cX6_add 18 = .ok (.aload_n 0, 1) := by decide +kernel
theorem dX6_add_19 : decode cX6_add 19 = .ok (.dup, 1) := by decide +kernel
theorem dX6_add_20 : decode cX6_add 20 = .ok (.getfield 15, 3) := by decide +kernel
theorem dX6_add_23 : decode cX6_add 23 = .ok (.iload_n 1, 1) := by decide +kernel
theorem dX6_add_24 : decode cX6_add 24 = .ok (.iadd, 1) := by decide +kernel
theorem dX6_add_25 : decode cX6_add 25 = .ok (.putfield 15, 3) := by decide +kernel
theorem dX6_add_28 : decode cX6_add 28 = .ok (.aload_n 0, 1) := by decide +kernel
theorem dX6_add_29 : decode cX6_add 29 = .ok (.aload_n 0, 1) := by decide +kernel
theorem dX6_add_30 : decode cX6_add 30 = .ok (.getfield 15, 3) := by decide +kernel
theorem dX6_add_33 : decode cX6_add 33 = .ok (.iload_n 1, 1) := by decide +kernel
theorem dX6_add_34 : decode cX6_add 34 = .ok (.isub, 1) := by decide +kernel
theorem dX6_add_35 : decode cX6_add 35 = .ok (.iload_n 1, 1) := by decide +kernel
theorem dX6_add_36 : decode cX6_add 36 = .ok (.lload_n 2, 1) := by decide +kernel
theorem dX6_add_37 : decode cX6_add 37 = .ok (.invokevirtual 23, 3) := by decide +kernel
theorem dX6_add_40 : decode cX6_add 40 = .ok (.return_, 1) := by decide +kernel
theorem dX6_addZeros_0 : decode cX6_addZeros 0 = .ok (.iload_n 1, 1) := by decide +kernel
theorem dX6_addZeros_1 : decode cX6_addZeros 1 = .ok (.ifCond .lt 45, 3) := by decide +kernel
theorem dX6_addZeros_4 : decode cX6_addZeros 4 = .ok (.iload_n 1, 1) := by decide +kernel
theorem dX6_addZeros_5 : decode cX6_addZeros 5 = .ok (.aload_n 0, 1) := by decide +kernel
theorem dX6_addZeros_6 : decode cX6_addZeros 6 = .ok (.getfield 9, 3) := by decide +kernel
theorem dX6_addZeros_9 : decode cX6_addZeros 9 = .ok (.arraylength, 1) := by decide +kernel
theorem dX6_addZeros_10 : decode cX6_addZeros 10 = .ok (.aload_n 0, 1) := by decide +kernel
theorem dX6_addZeros_11 : decode cX6_addZeros 11 = .ok (.getfield 15, 3) := by decide +kernel
theorem dX6_addZeros_14 : decode cX6_addZeros 14 = .ok (.isub, 1) := by decide +kernel
theorem dX6_addZeros_15 : decode cX6_addZeros 15 = .ok (.if_icmp .gt 31, 3) := by decide +kernel
theorem dX6_addZeros_18 : decode cX6_addZeros 18 = .ok (.aload_n 0, 1) := by decide +kernel
theorem dX6_addZeros_19 : decode cX6_addZeros 19 = .ok (.getfield 9, 3) := by decide +kernel
theorem dX6_addZeros_22 : decode cX6_addZeros 22 = .ok (.aload_n 0, 1) := by decide +kernel
theorem dX6_addZeros_23 : decode cX6_addZeros 23 = .ok (.getfield 15, 3) := by decide +kernel
theorem dX6_addZeros_26 : decode cX6_addZeros 26 = .ok (.aload_n 0, 1) := by decide +kernel
theorem dX6_addZeros_27 : decode cX6_addZeros 27 = .ok (.getfield 15, 3) := by decide +kernel
theorem dX6_addZeros_30 : decode cX6_addZeros 30 = .ok (.iload_n 1, 1) := by decide +kernel
theorem dX6_addZeros_31 : decode cX6_addZeros 31 = .ok (.iadd, 1) := by decide +kernel
theorem dX6_addZeros_32 : decode cX6_addZeros 32 = .ok (.iconst 0, 1) := by decide +kernel
theorem dX6_addZeros_33 : decode cX6_addZeros 33 = .ok (.invokestatic 27, 3) := by decide +kernel
theorem dX6_addZeros_36 : decode cX6_addZeros 36 = .ok (.aload_n 0, 1) := by decide +kernel
theorem dX6_addZeros_37 : decode cX6_addZeros 37 = .ok (.dup, 1) := by decide +kernel
theorem dX6_addZeros_38 : decode cX6_addZeros 38 = .ok (.getfield 15, 3) := by decide +kernel
theorem dX6_addZeros_41 : decode cX6_addZeros 41 = .ok (.iload_n 1, 1) := by decide +kernel
theorem dX6_addZeros_42 : decode cX6_addZeros 42 = .ok (.iadd, 1) := by decide +kernel
theorem dX6_addZeros_43 : decode cX6_addZeros 43 = .ok (.putfield 15, 3) := by decide +kernel
theorem dX6_addZeros_46 : decode cX6_addZeros 46 = .ok (.return_, 1) := by decide +kernel
theorem dX6_addFrom_0 : decode cX6_addFrom 0 = .ok (.iload_n 2, 1) := by decide +kernel
theorem dX6_addFrom_1 : decode cX6_addFrom 1 = .ok (.ifCond .lt 53, 3) := by decide +kernel
theorem dX6_addFrom_4 : decode cX6_addFrom 4 = .ok (.iload_n 3, 1) := by decide +kernel
theorem dX6_addFrom_5 : decode cX6_addFrom 5 = .ok (.ifCond .lt 49, 3) := by decide +kernel
theorem dX6_addFrom_8 : decode cX6_addFrom 8 = .ok (.iload_n 3, 1) := by decide +kernel
theorem dX6_addFrom_9 : decode cX6_addFrom 9 = .ok (.aload_n 1, 1) := by decide +kernel
theorem dX6_addFrom_10 : decode cX6_addFrom 10 = .ok (.arraylength, 1) := by decide +kernel
theorem dX6_addFrom_11 : decode cX6_addFrom 11 = .ok (.iload_n 2, 1) := by decide +kernel
theorem dX6_addFrom_12 : decode cX6_addFrom 12 = .ok (.isub, 1) := by decide +kernel
theorem dX6_addFrom_13 : decode cX6_addFrom 13 = .ok (.if_icmp .gt 41, 3) := by decide +kernel
theorem dX6_addFrom_16 : decode cX6_addFrom 16 = .ok (.iload_n 3, 1) := by decide +kernel
theorem dX6_addFrom_17 : decode cX6_addFrom 17 = .ok (.aload_n 0, 1) := by decide +kernel
theorem dX6_addFrom_18 : decode cX6_addFrom 18 = .ok (.getfield 9, 3) := by decide +kernel
theorem dX6_addFrom_21 : decode cX6_addFrom 21 = .ok (.arraylength, 1) := by decide +kernel
theorem dX6_addFrom_22 : decode cX6_addFrom 22 = .ok (.aload_n 0, 1) := by decide +kernel
theorem dX6_addFrom_23 : decode cX6_addFrom 23 = .ok (.getfield 15, 3) := by decide +kernel
theorem dX6_addFrom_26 : decode cX6_addFrom 26 = .ok (.isub, 1) := by decide +kernel
theorem dX6_addFrom_27 : decode cX6_addFrom 27 = .ok (.if_icmp .gt 27, 3) := by decide +kernel
theorem dX6_addFrom_30 : decode cX6_addFrom 30 = .ok (.aload_n 1, 1) := by decide +kernel
theorem dX6_addFrom_31 : decode cX6_addFrom 31 = .ok (.iload_n 2, 1) := by decide +kernel
theorem dX6_addFrom_32 : decode cX6_addFrom 32 = .ok (.aload_n 0, 1) := by decide +kernel
theorem dX6_addFrom_33 : decode cX6_addFrom 33 = .ok (.getfield 9, 3) := by decide +kernel
theorem dX6_addFrom_36 : decode cX6_addFrom 36 = .ok (.aload_n 0, 1) := by decide +kernel
theorem dX6_addFrom_37 : decode cX6_addFrom 37 = .ok (.getfield 15, 3) := by decide +kernel
theorem dX6_addFrom_40 : decode cX6_addFrom 40 = .ok (.iload_n 3, 1) := by decide +kernel
theorem dX6_addFrom_41 : decode cX6_addFrom 41 = .ok (.invokestatic 33, 3) := by decide +kernel
theorem dX6_addFrom_44 : decode cX6_addFrom 44 = .ok (.aload_n 0, 1) := by decide +kernel
theorem dX6_addFrom_45 : decode cX6_addFrom 45 = .ok (.dup, 1) := by decide +kernel
theorem dX6_addFrom_46 : decode cX6_addFrom 46 = .ok (.getfield 15, 3) := by decide +kernel
theorem dX6_addFrom_49 : decode cX6_addFrom 49 = .ok (.iload_n 3, 1) := by decide +kernel
theorem dX6_addFrom_50 : decode cX6_addFrom 50 = .ok (.iadd, 1) := by decide +kernel
theorem dX6_addFrom_51 : decode cX6_addFrom 51 = .ok (.putfield 15, 3) := by decide +kernel
theorem dX6_addFrom_54 : decode cX6_addFrom 54 = .ok (.return_, 1) := by decide +kernel
