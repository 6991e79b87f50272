theorem dX12_hasPointers_0 : decode cX12_hasPointers 0 = .ok (.iconst 0, 1) := by decide +kernel
theorem dX12_hasPointers_1 : decode cX12_hasPointers 1 = .ok (.istore_n 2, 1) := by decide +kernel
theorem dX12_hasPointers_2 : decode cX12_hasPointers 2 = .ok (.iload_n 2, 1) := by decide +kernel
theorem dX12_hasPointers_3 : decode cX12_hasPointers 3 = .ok (.aload_n 0, 1) := by decide +kernel
theorem dX12_hasPointers_4 : decode cX12_hasPointers 4 = .ok (.getfield 186, 3) := by decide +kernel
theorem dX12_hasPointers_7 : decode cX12_hasPointers 7 = .ok (.if_icmp .ge 21, 3) := by decide +kernel
theorem dX12_hasPointers_10 : decode cX12_hasPointers 10 = .ok (.aload_n 0, 1) := by decide +kernel
theorem dX12_hasPointers_11 : decode cX12_hasPointers 11 = .ok (.getfield 55, 3) := by decide +kernel
theorem dX12_hasPointers_14 : decode cX12_hasPointers 14 = .ok (.iload_n 2, 1) := by decide +kernel
theorem dX12_hasPointers_15 : decode cX12_hasPointers 15 = .ok (.iaload, 1) := by decide +kernel
theorem dX12_hasPointers_16 : decode cX12_hasPointers 16 = .ok (.iload_n 1, 1) := by decide +kernel
theorem dX12_hasPointers_17 : decode cX12_hasPointers 17 = .ok (.if_icmp .ne 5, 3) := by decide +kernel
theorem dX12_hasPointers_20 : decode cX12_hasPointers 20 = .ok (.iconst 1, 1) := by decide +kernel
theorem dX12_hasPointers_21 : decode cX12_hasPointers 21 = .ok (.ireturn, 1) := by decide +kernel
theorem dX12_hasPointers_22 : decode cX12_hasPointers 22 = .ok (.iinc 2 1, 3) := by decide +kernel
theorem dX12_hasPointers_25 : decode cX12_hasPointers 25 = .ok (.goto (-23), 3) := by decide +kernel
theorem dX12_hasPointers_28 : decode cX12_hasPointers 28 = .ok (.iconst 0, 1) := by decide +kernel
theorem dX12_hasPointers_29 : decode cX12_hasPointers 29 = .ok (.ireturn, 1) := by decide +kernel
theorem dX12_writeFixups_0 : decode cX12_writeFixups 0 = .ok (.aload_n 0, 1) := by decide +kernel
theorem dX12_writeFixups_1 : decode cX12_writeFixups 1 = .ok (.aload_n 0, 1) := by decide +kernel
theorem dX12_writeFixups_2 : decode cX12_writeFixups 2 = .ok (.getfield 213, 3) := by decide +kernel
theorem dX12_writeFixups_5 : decode cX12_writeFixups 5 = .ok (.putfield 264, 3) := by decide +kernel
theorem dX12_writeFixups_8 : decode cX12_writeFixups 8 = .ok (.aload_n 0, 1) := by decide +kernel
theorem dX12_writeFixups_9 : decode cX12_writeFixups 9 = .ok (.getfield 213, 3) := by decide +kernel
theorem dX12_writeFixups_12 : decode cX12_writeFixups 12 = .ok (.bipush 28, 2) := by decide +kernel
theorem dX12_writeFixups_14 : decode cX12_writeFixups 14 = .ok (.iadd, 1) := by decide +kernel
theorem dX12_writeFixups_15 : decode cX12_writeFixups 15 = .ok (.istore_n 1, 1) := by decide +kernel
theorem dX12_writeFixups_16 : decode cX12_writeFixups 16 = .ok (.aload_n 0, 1) := by decide +kernel
theorem dX12_writeFixups_17 : decode cX12_writeFixups 17 = .ok (.iload_n 1, 1) := by decide +kernel
theorem dX12_writeFixups_18 : decode cX12_writeFixups 18 = .ok (.iconst 4, 1) := by decide +kernel
theorem dX12_writeFixups_19 : decode cX12_writeFixups 19 = .ok (.iadd, 1) := by decide +kernel
theorem dX12_writeFixups_20 : decode cX12_writeFixups 20 = .ok (.iconst 4, 1) := by decide +kernel
theorem dX12_writeFixups_21 : decode cX12_writeFixups 21 = .ok (.aload_n 0, 1) := by decide +kernel
theorem dX12_writeFixups_22 : decode cX12_writeFixups 22 = .ok (.getfield 174, 3) := by decide +kernel
theorem dX12_writeFixups_25 : decode cX12_writeFixups 25 = .ok (.imul, 1) := by decide +kernel
theorem dX12_writeFixups_26 : decode cX12_writeFixups 26 = .ok (.iadd, 1) := by decide +kernel
theorem dX12_writeFixups_27 : decode cX12_writeFixups 27 = .ok (.putfield 213, 3) := by decide +kernel
theorem dX12_writeFixups_30 : decode cX12_writeFixups 30 = .ok (.iconst 0, 1) := by decide +kernel
theorem dX12_writeFixups_31 : decode cX12_writeFixups 31 = .ok (.istore_n 2, 1) := by decide +kernel
theorem dX12_writeFixups_32 : decode cX12_writeFixups 32 = .ok (.iload_n 2, 1) := by decide +kernel
theorem dX12_writeFixups_33 : decode cX12_writeFixups 33 = .ok (.aload_n 0, 1) := by decide +kernel
theorem dX12_writeFixups_34 : decode cX12_writeFixups 34 = .ok (.getfield 174, 3) := by decide +kernel
theorem dX12_writeFixups_37 : decode cX12_writeFixups 37 = .ok (.if_icmp .ge 204, 3) := by decide +kernel
theorem dX12_writeFixups_40 : decode cX12_writeFixups 40 = .ok (.aload_n 0, 1) := by decide +kernel
theorem dX12_writeFixups_41 : decode cX12_writeFixups 41 = .ok (.getfield 83, 3) := by decide +kernel
theorem dX12_writeFixups_44 : decode cX12_writeFixups 44 = .ok (.iload_n 2, 1) := by decide +kernel
theorem dX12_writeFixups_45 : decode cX12_writeFixups 45 = .ok (.iconst 0, 1) := by decide +kernel
theorem dX12_writeFixups_46 : decode cX12_writeFixups 46 = .ok (.iastore, 1) := by decide +kernel
theorem dX12_writeFixups_47 : decode cX12_writeFixups 47 = .ok (.aload_n 0, 1) := by decide +kernel
theorem dX12_writeFixups_48 : decode cX12_writeFixups 48 = .ok (.iload_n 2, 1) := by decide +kernel
theorem dX12_writeFixups_49 : decode cX12_writeFixups 49 = .ok (.invokevirtual 267, 3) := by decide +kernel
theorem dX12_writeFixups_52 : decode cX12_writeFixups 52 = .ok (.ifCond .ne 6, 3) := by decide +kernel
theorem dX12_writeFixups_55 : decode cX12_writeFixups 55 = .ok (.goto 180, 3) := by decide +kernel
theorem dX12_writeFixups_58 : decode cX12_writeFixups 58 = .ok (.aload_n 0, 1) := by decide +kernel
theorem dX12_writeFixups_59 : decode cX12_writeFixups 59 = .ok (.iconst 4, 1) := by decide +kernel
theorem dX12_writeFixups_60 : decode cX12_writeFixups 60 = .ok (.invokevirtual 227, 3) := by decide +kernel
theorem dX12_writeFixups_63 : decode cX12_writeFixups 63 = .ok (.aload_n 0, 1) := by decide +kernel
theorem dX12_writeFixups_64 : decode cX12_writeFixups 64 = .ok (.getfield 83, 3) := by decide +kernel
theorem dX12_writeFixups_67 : decode cX12_writeFixups 67 = .ok (.iload_n 2, 1) := by decide +kernel
theorem dX12_writeFixups_68 : decode cX12_writeFixups 68 = .ok (.aload_n 0, 1) := by decide +kernel
theorem dX12_writeFixups_69 : decode cX12_writeFixups 69 = .ok (.getfield 213, 3) := by decide +kernel
theorem dX12_writeFixups_72 : decode cX12_writeFixups 72 = .ok (.iload_n 1, 1) := by decide +kernel
theorem dX12_writeFixups_73 : decode cX12_writeFixups 73 = .ok (.isub, 1) := by decide +kernel
theorem dX12_writeFixups_74 : decode cX12_writeFixups 74 = .ok (.iastore, 1) := by decide +kernel
theorem dX12_writeFixups_75 : decode cX12_writeFixups 75 = .ok (.aload_n 0, 1) := by decide +kernel
theorem dX12_writeFixups_76 : decode cX12_writeFixups 76 = .ok (.iload_n 2, 1) := by decide +kernel
theorem dX12_writeFixups_77 : decode cX12_writeFixups 77 = .ok (.invokevirtual 220, 3) := by decide +kernel
theorem dX12_writeFixups_80 : decode cX12_writeFixups 80 = .ok (.aload_n 0, 1) := by decide +kernel
theorem dX12_writeFixups_81 : decode cX12_writeFixups 81 = .ok (.getfield 21, 3) := by decide +kernel
theorem dX12_writeFixups_84 : decode cX12_writeFixups 84 = .ok (.idiv, 1) := by decide +kernel
theorem dX12_writeFixups_85 : decode cX12_writeFixups 85 = .ok (.istore_n 3, 1) := by decide +kernel
theorem dX12_writeFixups_86 : decode cX12_writeFixups 86 = .ok (.aload_n 0, 1) := by decide +kernel
theorem dX12_writeFixups_87 : decode cX12_writeFixups 87 = .ok (.bipush 22, 2) := by decide +kernel
theorem dX12_writeFixups_89 : decode cX12_writeFixups 89 = .ok (.iconst 2, 1) := by decide +kernel
theorem dX12_writeFixups_90 : decode cX12_writeFixups 90 = .ok (.iload_n 3, 1) := by decide +kernel
theorem dX12_writeFixups_91 : decode cX12_writeFixups 91 = .ok (.imul, 1) := by decide +kernel
theorem dX12_writeFixups_92 : decode cX12_writeFixups 92 = .ok (.iadd, 1) := by decide +kernel
theorem dX12_writeFixups_93 : decode cX12_writeFixups 93 = .ok (.i2l, 1) := by decide +kernel
theorem dX12_writeFixups_94 : decode cX12_writeFixups 94 = .ok (.iconst 4, 1) := by decide +kernel
theorem dX12_writeFixups_95 : decode cX12_writeFixups 95 = .ok (.invokevirtual 216, 3) := by decide +kernel
theorem dX12_writeFixups_98 : decode cX12_writeFixups 98 = .ok (.aload_n 0, 1) := by decide +kernel
theorem dX12_writeFixups_99 : decode cX12_writeFixups 99 = .ok (.aload_n 0, 1) := by decide +kernel
theorem dX12_writeFixups_100 : decode cX12_writeFixups 100 = .ok (.getfield 21, 3) := by decide +kernel
theorem dX12_writeFixups_103 : decode cX12_writeFixups 103 = .ok (.i2l, 1) := by decide +kernel
theorem dX12_writeFixups_104 : decode cX12_writeFixups 104 = .ok (.iconst 2, 1) := by decide +kernel
theorem dX12_writeFixups_105 : decode cX12_writeFixups 105 = .ok (.invokevirtual 216, 3) := by decide +kernel
theorem dX12_writeFixups_108 : decode cX12_writeFixups 108 = .ok (.aload_n 0, 1) := by decide +kernel
theorem dX12_writeFixups_109 : decode cX12_writeFixups 109 = .ok (.ldc2_w 270, 3) := by decide +kernel
theorem dX12_writeFixups_112 : decode cX12_writeFixups 112 = .ok (.iconst 2, 1) := by decide +kernel
theorem dX12_writeFixups_113 : decode cX12_writeFixups 113 = .ok (.invokevirtual 216, 3) := by decide +kernel
theorem dX12_writeFixups_116 : decode cX12_writeFixups 116 = .ok (.aload_n 0, 1) := by decide +kernel
theorem dX12_writeFixups_117 : decode cX12_writeFixups 117 = .ok (.aload_n 0, 1) := by decide +kernel
theorem dX12_writeFixups_118 : decode cX12_writeFixups 118 = .ok (.iload_n 2, 1) := by decide +kernel
theorem dX12_writeFixups_119 : decode cX12_writeFixups 119 = .ok (.invokevirtual 238, 3) := by decide +kernel
theorem dX12_writeFixups_122 : decode cX12_writeFixups 122 = .ok (.aload_n 0, 1) := by decide +kernel
theorem dX12_writeFixups_123 : decode cX12_writeFixups 123 = .ok (.getfield 17, 3) := by decide +kernel
theorem dX12_writeFixups_126 : decode cX12_writeFixups 126 = .ok (.isub, 1) := by decide +kernel
theorem dX12_writeFixups_127 : decode cX12_writeFixups 127 = .ok (.i2l, 1) := by decide +kernel
theorem dX12_writeFixups_128 : decode cX12_writeFixups 128 = .ok (.bipush 8, 2) := by decide +kernel
theorem dX12_writeFixups_130 : decode cX12_writeFixups 130 = .ok (.invokevirtual 216, 3) := by decide +kernel
theorem dX12_writeFixups_133 : decode cX12_writeFixups 133 = .ok (.aload_n 0, 1) := by decide +kernel
theorem dX12_writeFixups_134 : decode cX12_writeFixups 134 = .ok (.lconst 0, 1) := by decide +kernel
theorem dX12_writeFixups_135 : decode cX12_writeFixups 135 = .ok (.iconst 4, 1) := by decide +kernel
theorem dX12_writeFixups_136 : decode cX12_writeFixups 136 = .ok (.invokevirtual 216, 3) := by decide +kernel
theorem dX12_writeFixups_139 : decode cX12_writeFixups 139 = .ok (.aload_n 0, 1) := by decide +kernel
theorem dX12_writeFixups_140 : decode cX12_writeFixups 140 = .ok (.iload_n 3, 1) := by decide +kernel
theorem dX12_writeFixups_141 : decode cX12_writeFixups 141 = .ok (.i2l, 1) := by decide +kernel
theorem dX12_writeFixups_142 : decode cX12_writeFixups 142 = .ok (.iconst 2, 1) := by decide +kernel
theorem dX12_writeFixups_143 : decode cX12_writeFixups 143 = .ok (.invokevirtual 216, 3) := by decide +kernel
theorem dX12_writeFixups_146 : decode cX12_writeFixups 146 = .ok (.iconst 0, 1) := by decide +kernel
theorem dX12_writeFixups_147 : decode cX12_writeFixups 147 = .ok (.istore 4, 2) := by decide +kernel
theorem dX12_writeFixups_149 : decode cX12_writeFixups 149 = .ok (.iload 4, 2) := by decide +kernel
theorem dX12_writeFixups_151 : decode cX12_writeFixups 151 = .ok (.iload_n 3, 1) := by decide +kernel
theorem dX12_writeFixups_152 : decode cX12_writeFixups 152 = .ok (.if_icmp .ge 83, 3) := by decide +kernel
theorem dX12_writeFixups_155 : decode cX12_writeFixups 155 = .ok (.ldc_w 272, 3) := by decide +kernel
theorem dX12_writeFixups_158 : decode cX12_writeFixups 158 = .ok (.istore 5, 2) := by decide +kernel
theorem dX12_writeFixups_160 : decode cX12_writeFixups 160 = .ok (.aload_n 0, 1) := by decide +kernel
theorem dX12_writeFixups_161 : decode cX12_writeFixups 161 = .ok (.getfield 186, 3) := by decide +kernel
theorem dX12_writeFixups_164 : decode cX12_writeFixups 164 = .ok (.iconst 1, 1) := by decide +kernel
theorem dX12_writeFixups_165 : decode cX12_writeFixups 165 = .ok (.isub, 1) := by decide +kernel
theorem dX12_writeFixups_166 : decode cX12_writeFixups 166 = .ok (.istore 6, 2) := by decide +kernel
theorem dX12_writeFixups_168 : decode cX12_writeFixups 168 = .ok (.iload 6, 2) := by decide +kernel
theorem dX12_writeFixups_170 : decode cX12_writeFixups 170 = .ok (.ifCond .lt 51, 3) := by decide +kernel
theorem dX12_writeFixups_173 : decode cX12_writeFixups 173 = .ok (.aload_n 0, 1) := by decide +kernel
theorem dX12_writeFixups_174 : decode cX12_writeFixups 174 = .ok (.getfield 55, 3) := by decide +kernel
theorem dX12_writeFixups_177 : decode cX12_writeFixups 177 = .ok (.iload 6, 2) := by decide +kernel
theorem dX12_writeFixups_179 : decode cX12_writeFixups 179 = .ok (.iaload, 1) := by decide +kernel
theorem dX12_writeFixups_180 : decode cX12_writeFixups 180 = .ok (.iload_n 2, 1) := by decide +kernel
theorem dX12_writeFixups_181 : decode cX12_writeFixups 181 = .ok (.if_icmp .ne 34, 3) := by decide +kernel
theorem dX12_writeFixups_184 : decode cX12_writeFixups 184 = .ok (.aload_n 0, 1) := by decide +kernel
theorem dX12_writeFixups_185 : decode cX12_writeFixups 185 = .ok (.getfield 58, 3) := by decide +kernel
theorem dX12_writeFixups_188 : decode cX12_writeFixups 188 = .ok (.iload 6, 2) := by decide +kernel
theorem dX12_writeFixups_190 : decode cX12_writeFixups 190 = .ok (.iaload, 1) := by decide +kernel
theorem dX12_writeFixups_191 : decode cX12_writeFixups 191 = .ok (.aload_n 0, 1) := by decide +kernel
theorem dX12_writeFixups_192 : decode cX12_writeFixups 192 = .ok (.getfield 21, 3) := by decide +kernel
theorem dX12_writeFixups_195 : decode cX12_writeFixups 195 = .ok (.idiv, 1) := by decide +kernel
theorem dX12_writeFixups_196 : decode cX12_writeFixups 196 = .ok (.iload 4, 2) := by decide +kernel
theorem dX12_writeFixups_198 : decode cX12_writeFixups 198 = .ok (.if_icmp .ne 17, 3) := by decide +kernel
theorem dX12_writeFixups_201 : decode cX12_writeFixups 201 = .ok (.aload_n 0, 1) := by decide +kernel
theorem dX12_writeFixups_202 : decode cX12_writeFixups 202 = .ok (.getfield 58, 3) := by decide +kernel
theorem dX12_writeFixups_205 : decode cX12_writeFixups 205 = .ok (.iload 6, 2) := by decide +kernel
theorem dX12_writeFixups_207 : decode cX12_writeFixups 207 = .ok (.iaload, 1) := by decide +kernel
theorem dX12_writeFixups_208 : decode cX12_writeFixups 208 = .ok (.aload_n 0, 1) := by decide +kernel
theorem dX12_writeFixups_209 : decode cX12_writeFixups 209 = .ok (.getfield 21, 3) := by decide +kernel
theorem dX12_writeFixups_212 : decode cX12_writeFixups 212 = .ok (.irem, 1) := by decide +kernel
theorem dX12_writeFixups_213 : decode cX12_writeFixups 213 = .ok (.istore 5, 2) := by decide +kernel
theorem dX12_writeFixups_215 : decode cX12_writeFixups 215 = .ok (.iinc 6 (-1), 3) := by decide +kernel
theorem dX12_writeFixups_218 : decode cX12_writeFixups 218 = .ok (.goto (-50), 3) := by decide +kernel
theorem dX12_writeFixups_221 : decode cX12_writeFixups 221 = .ok (.aload_n 0, 1) := by decide +kernel
theorem dX12_writeFixups_222 : decode cX12_writeFixups 222 = .ok (.iload 5, 2) := by decide +kernel
theorem dX12_writeFixups_224 : decode cX12_writeFixups 224 = .ok (.i2l, 1) := by decide +kernel
theorem dX12_writeFixups_225 : decode cX12_writeFixups 225 = .ok (.iconst 2, 1) := by decide +kernel
theorem dX12_writeFixups_226 : decode cX12_writeFixups 226 = .ok (.invokevirtual 216, 3) := by decide +kernel
theorem dX12_writeFixups_229 : decode cX12_writeFixups 229 = .ok (.iinc 4 1, 3) := by decide +kernel
theorem dX12_writeFixups_232 : decode cX12_writeFixups 232 = .ok (.goto (-83), 3) := by decide +kernel
theorem dX12_writeFixups_235 : decode cX12_writeFixups 235 = .ok (.iinc 2 1, 3) := by decide +kernel
theorem dX12_writeFixups_238 : decode cX12_writeFixups 238 = .ok (.goto (-206), 3) := by decide +kernel
theorem dX12_writeFixups_241 : decode cX12_writeFixups 241 = .ok (.aload_n 0, 1) := by decide +kernel
theorem dX12_writeFixups_242 : decode cX12_writeFixups 242 = .ok (.iconst 4, 1) := by decide +kernel
theorem dX12_writeFixups_243 : decode cX12_writeFixups 243 = .ok (.invokevirtual 227, 3) := by decide +kernel
theorem dX12_writeFixups_246 : decode cX12_writeFixups 246 = .ok (.aload_n 0, 1) := by decide +kernel
theorem dX12_writeFixups_247 : decode cX12_writeFixups 247 = .ok (.getfield 213, 3) := by decide +kernel
theorem dX12_writeFixups_250 : decode cX12_writeFixups 250 = .ok (.istore_n 2, 1) := by decide +kernel
theorem dX12_writeFixups_251 : decode cX12_writeFixups 251 = .ok (.iconst 0, 1) := by decide +kernel
theorem dX12_writeFixups_252 : decode cX12_writeFixups 252 = .ok (.istore_n 3, 1) := by decide +kernel
theorem dX12_writeFixups_253 : decode cX12_writeFixups 253 = .ok (.iconst 0, 1) := by decide +kernel
theorem dX12_writeFixups_254 : decode cX12_writeFixups 254 = .ok (.istore 4, 2) := by decide +kernel
theorem dX12_writeFixups_256 : decode cX12_writeFixups 256 = .ok (.iload 4, 2) := by decide +kernel
theorem dX12_writeFixups_258 : decode cX12_writeFixups 258 = .ok (.aload_n 0, 1) := by decide +kernel
theorem dX12_writeFixups_259 : decode cX12_writeFixups 259 = .ok (.getfield 183, 3) := by decide +kernel
theorem dX12_writeFixups_262 : decode cX12_writeFixups 262 = .ok (.if_icmp .ge 59, 3) := by decide +kernel
theorem dX12_writeFixups_265 : decode cX12_writeFixups 265 = .ok (.aload_n 0, 1) := by decide +kernel
theorem dX12_writeFixups_266 : decode cX12_writeFixups 266 = .ok (.aload_n 0, 1) := by decide +kernel
theorem dX12_writeFixups_267 : decode cX12_writeFixups 267 = .ok (.getfield 48, 3) := by decide +kernel
theorem dX12_writeFixups_270 : decode cX12_writeFixups 270 = .ok (.iload 4, 2) := by decide +kernel
theorem dX12_writeFixups_272 : decode cX12_writeFixups 272 = .ok (.iaload, 1) := by decide +kernel
theorem dX12_writeFixups_273 : decode cX12_writeFixups 273 = .ok (.aload_n 0, 1) := by decide +kernel
theorem dX12_writeFixups_274 : decode cX12_writeFixups 274 = .ok (.getfield 51, 3) := by decide +kernel
theorem dX12_writeFixups_277 : decode cX12_writeFixups 277 = .ok (.iload 4, 2) := by decide +kernel
theorem dX12_writeFixups_279 : decode cX12_writeFixups 279 = .ok (.baload, 1) := by decide +kernel
theorem dX12_writeFixups_280 : decode cX12_writeFixups 280 = .ok (.ifCond .eq 9, 3) := by decide +kernel
theorem dX12_writeFixups_283 : decode cX12_writeFixups 283 = .ok (.sipush 256, 3) := by decide +kernel
theorem dX12_writeFixups_286 : decode cX12_writeFixups 286 = .ok (.goto 4, 3) := by decide +kernel
theorem dX12_writeFixups_289 : decode cX12_writeFixups 289 = .ok (.iconst 0, 1) := by decide +kernel
theorem dX12_writeFixups_290 : decode cX12_writeFixups 290 = .ok (.ior, 1) := by decide +kernel
theorem dX12_writeFixups_291 : decode cX12_writeFixups 291 = .ok (.iload_n 3, 1) := by decide +kernel
theorem dX12_writeFixups_292 : decode cX12_writeFixups 292 = .ok (.bipush 9, 2) := by decide +kernel
theorem dX12_writeFixups_294 : decode cX12_writeFixups 294 = .ok (.ishl, 1) := by decide +kernel
theorem dX12_writeFixups_295 : decode cX12_writeFixups 295 = .ok (.ior, 1) := by decide +kernel
theorem dX12_writeFixups_296 : decode cX12_writeFixups 296 = .ok (.i2l, 1) := by decide +kernel
theorem dX12_writeFixups_297 : decode cX12_writeFixups 297 = .ok (.iconst 4, 1) := by decide +kernel
theorem dX12_writeFixups_298 : decode cX12_writeFixups 298 = .ok (.invokevirtual 216, 3) := by decide +kernel
theorem dX12_writeFixups_301 : decode cX12_writeFixups 301 = .ok (.iload_n 3, 1) := by decide +kernel
theorem dX12_writeFixups_302 : decode cX12_writeFixups 302 = .ok (.aload_n 0, 1) := by decide +kernel
theorem dX12_writeFixups_303 : decode cX12_writeFixups 303 = .ok (.bipush 32, 2) := by decide +kernel
theorem dX12_writeFixups_305 : decode cX12_writeFixups 305 = .ok (.iload 4, 2) := by decide +kernel
theorem dX12_writeFixups_307 : decode cX12_writeFixups 307 = .ok (.iadd, 1) := by decide +kernel
theorem dX12_writeFixups_308 : decode cX12_writeFixups 308 = .ok (.invokevirtual 241, 3) := by decide +kernel
theorem dX12_writeFixups_311 : decode cX12_writeFixups 311 = .ok (.iconst 1, 1) := by decide +kernel
theorem dX12_writeFixups_312 : decode cX12_writeFixups 312 = .ok (.iadd, 1) := by decide +kernel
theorem dX12_writeFixups_313 : decode cX12_writeFixups 313 = .ok (.iadd, 1) := by decide +kernel
theorem dX12_writeFixups_314 : decode cX12_writeFixups 314 = .ok (.istore_n 3, 1) := by decide +kernel
theorem dX12_writeFixups_315 : decode cX12_writeFixups 315 = .ok (.iinc 4 1, 3) := by decide +kernel
theorem dX12_writeFixups_318 : decode cX12_writeFixups 318 = .ok (.goto (-62), 3) := by decide +kernel
theorem dX12_writeFixups_321 : decode cX12_writeFixups 321 = .ok (.aload_n 0, 1) := by decide +kernel
theorem dX12_writeFixups_322 : decode cX12_writeFixups 322 = .ok (.getfield 213, 3) := by decide +kernel
theorem dX12_writeFixups_325 : decode cX12_writeFixups 325 = .ok (.istore 4, 2) := by decide +kernel
theorem dX12_writeFixups_327 : decode cX12_writeFixups 327 = .ok (.iconst 0, 1) := by decide +kernel
theorem dX12_writeFixups_328 : decode cX12_writeFixups 328 = .ok (.istore 5, 2) := by decide +kernel
theorem dX12_writeFixups_330 : decode cX12_writeFixups 330 = .ok (.iload 5, 2) := by decide +kernel
theorem dX12_writeFixups_332 : decode cX12_writeFixups 332 = .ok (.aload_n 0, 1) := by decide +kernel
theorem dX12_writeFixups_333 : decode cX12_writeFixups 333 = .ok (.getfield 183, 3) := by decide +kernel
theorem dX12_writeFixups_336 : decode cX12_writeFixups 336 = .ok (.if_icmp .ge 33, 3) := by decide +kernel
theorem dX12_writeFixups_339 : decode cX12_writeFixups 339 = .ok (.aload_n 0, 1) := by decide +kernel
theorem dX12_writeFixups_340 : decode cX12_writeFixups 340 = .ok (.bipush 32, 2) := by decide +kernel
theorem dX12_writeFixups_342 : decode cX12_writeFixups 342 = .ok (.iload 5, 2) := by decide +kernel
theorem dX12_writeFixups_344 : decode cX12_writeFixups 344 = .ok (.iadd, 1) := by decide +kernel
theorem dX12_writeFixups_345 : decode cX12_writeFixups 345 = .ok (.aload_n 0, 1) := by decide +kernel
theorem dX12_writeFixups_346 : decode cX12_writeFixups 346 = .ok (.bipush 32, 2) := by decide +kernel
theorem dX12_writeFixups_348 : decode cX12_writeFixups 348 = .ok (.iload 5, 2) := by decide +kernel
theorem dX12_writeFixups_350 : decode cX12_writeFixups 350 = .ok (.iadd, 1) := by decide +kernel
theorem dX12_writeFixups_351 : decode cX12_writeFixups 351 = .ok (.invokevirtual 241, 3) := by decide +kernel
theorem dX12_writeFixups_354 : decode cX12_writeFixups 354 = .ok (.invokevirtual 247, 3) := by decide +kernel
theorem dX12_writeFixups_357 : decode cX12_writeFixups 357 = .ok (.aload_n 0, 1) := by decide +kernel
theorem dX12_writeFixups_358 : decode cX12_writeFixups 358 = .ok (.lconst 0, 1) := by decide +kernel
theorem dX12_writeFixups_359 : decode cX12_writeFixups 359 = .ok (.iconst 1, 1) := by decide +kernel
theorem dX12_writeFixups_360 : decode cX12_writeFixups 360 = .ok (.invokevirtual 216, 3) := by decide +kernel
theorem dX12_writeFixups_363 : decode cX12_writeFixups 363 = .ok (.iinc 5 1, 3) := by decide +kernel
theorem dX12_writeFixups_366 : decode cX12_writeFixups 366 = .ok (.goto (-36), 3) := by decide +kernel
theorem dX12_writeFixups_369 : decode cX12_writeFixups 369 = .ok (.aload_n 0, 1) := by decide +kernel
theorem dX12_writeFixups_370 : decode cX12_writeFixups 370 = .ok (.aload_n 0, 1) := by decide +kernel
theorem dX12_writeFixups_371 : decode cX12_writeFixups 371 = .ok (.getfield 213, 3) := by decide +kernel
theorem dX12_writeFixups_374 : decode cX12_writeFixups 374 = .ok (.aload_n 0, 1) := by decide +kernel
theorem dX12_writeFixups_375 : decode cX12_writeFixups 375 = .ok (.getfield 264, 3) := by decide +kernel
theorem dX12_writeFixups_378 : decode cX12_writeFixups 378 = .ok (.isub, 1) := by decide +kernel
theorem dX12_writeFixups_379 : decode cX12_writeFixups 379 = .ok (.putfield 273, 3) := by decide +kernel
theorem dX12_writeFixups_382 : decode cX12_writeFixups 382 = .ok (.aload_n 0, 1) := by decide +kernel
theorem dX12_writeFixups_383 : decode cX12_writeFixups 383 = .ok (.getfield 213, 3) := by decide +kernel
theorem dX12_writeFixups_386 : decode cX12_writeFixups 386 = .ok (.istore 5, 2) := by decide +kernel
theorem dX12_writeFixups_388 : decode cX12_writeFixups 388 = .ok (.aload_n 0, 1) := by decide +kernel
theorem dX12_writeFixups_389 : decode cX12_writeFixups 389 = .ok (.aload_n 0, 1) := by decide +kernel
theorem dX12_writeFixups_390 : decode cX12_writeFixups 390 = .ok (.getfield 264, 3) := by decide +kernel
theorem dX12_writeFixups_393 : decode cX12_writeFixups 393 = .ok (.putfield 213, 3) := by decide +kernel
theorem dX12_writeFixups_396 : decode cX12_writeFixups 396 = .ok (.aload_n 0, 1) := by decide +kernel
theorem dX12_writeFixups_397 : decode cX12_writeFixups 397 = .ok (.lconst 0, 1) := by decide +kernel
theorem dX12_writeFixups_398 : decode cX12_writeFixups 398 = .ok (.ldc2_w 276, 3) := by decide +kernel
theorem dX12_writeFixups_401 : decode cX12_writeFixups 401 = .ok (.iload_n 2, 1) := by decide +kernel
theorem dX12_writeFixups_402 : decode cX12_writeFixups 402 = .ok (.aload_n 0, 1) := by decide +kernel
theorem dX12_writeFixups_403 : decode cX12_writeFixups 403 = .ok (.getfield 264, 3) := by decide +kernel
theorem dX12_writeFixups_406 : decode cX12_writeFixups 406 = .ok (.isub, 1) := by decide +kernel
theorem dX12_writeFixups_407 : decode cX12_writeFixups 407 = .ok (.i2l, 1) := by decide +kernel
theorem dX12_writeFixups_408 : decode cX12_writeFixups 408 = .ok (.iload 4, 2) := by decide +kernel
theorem dX12_writeFixups_410 : decode cX12_writeFixups 410 = .ok (.aload_n 0, 1) := by decide +kernel
theorem dX12_writeFixups_411 : decode cX12_writeFixups 411 = .ok (.getfield 264, 3) := by decide +kernel
theorem dX12_writeFixups_414 : decode cX12_writeFixups 414 = .ok (.isub, 1) := by decide +kernel
theorem dX12_writeFixups_415 : decode cX12_writeFixups 415 = .ok (.i2l, 1) := by decide +kernel
theorem dX12_writeFixups_416 : decode cX12_writeFixups 416 = .ok (.invokevirtual 278, 3) := by decide +kernel
theorem dX12_writeFixups_419 : decode cX12_writeFixups 419 = .ok (.aload_n 0, 1) := by decide +kernel
theorem dX12_writeFixups_420 : decode cX12_writeFixups 420 = .ok (.aload_n 0, 1) := by decide +kernel
theorem dX12_writeFixups_421 : decode cX12_writeFixups 421 = .ok (.getfield 183, 3) := by decide +kernel
theorem dX12_writeFixups_424 : decode cX12_writeFixups 424 = .ok (.i2l, 1) := by decide +kernel
theorem dX12_writeFixups_425 : decode cX12_writeFixups 425 = .ok (.iconst 4, 1) := by decide +kernel
theorem dX12_writeFixups_426 : decode cX12_writeFixups 426 = .ok (.invokevirtual 216, 3) := by decide +kernel
theorem dX12_writeFixups_429 : decode cX12_writeFixups 429 = .ok (.aload_n 0, 1) := by decide +kernel
theorem dX12_writeFixups_430 : decode cX12_writeFixups 430 = .ok (.lconst 1, 1) := by decide +kernel
theorem dX12_writeFixups_431 : decode cX12_writeFixups 431 = .ok (.iconst 4, 1) := by decide +kernel
theorem dX12_writeFixups_432 : decode cX12_writeFixups 432 = .ok (.invokevirtual 216, 3) := by decide +kernel
theorem dX12_writeFixups_435 : decode cX12_writeFixups 435 = .ok (.aload_n 0, 1) := by decide +kernel
theorem dX12_writeFixups_436 : decode cX12_writeFixups 436 = .ok (.lconst 0, 1) := by decide +kernel
theorem dX12_writeFixups_437 : decode cX12_writeFixups 437 = .ok (.iconst 4, 1) := by decide +kernel
theorem dX12_writeFixups_438 : decode cX12_writeFixups 438 = .ok (.invokevirtual 216, 3) := by decide +kernel
theorem dX12_writeFixups_441 : decode cX12_writeFixups 441 = .ok (.aload_n 0, 1) := by decide +kernel
theorem dX12_writeFixups_442 : decode cX12_writeFixups 442 = .ok (.aload_n 0, 1) := by decide +kernel
theorem dX12_writeFixups_443 : decode cX12_writeFixups 443 = .ok (.getfield 174, 3) := by decide +kernel
theorem dX12_writeFixups_446 : decode cX12_writeFixups 446 = .ok (.i2l, 1) := by decide +kernel
theorem dX12_writeFixups_447 : decode cX12_writeFixups 447 = .ok (.iconst 4, 1) := by decide +kernel
theorem dX12_writeFixups_448 : decode cX12_writeFixups 448 = .ok (.invokevirtual 216, 3) := by decide +kernel
theorem dX12_writeFixups_451 : decode cX12_writeFixups 451 = .ok (.iconst 0, 1) := by decide +kernel
theorem dX12_writeFixups_452 : decode cX12_writeFixups 452 = .ok (.istore 6, 2) := by decide +kernel
theorem dX12_writeFixups_454 : decode cX12_writeFixups 454 = .ok (.iload 6, 2) := by decide +kernel
theorem dX12_writeFixups_456 : decode cX12_writeFixups 456 = .ok (.aload_n 0, 1) := by decide +kernel
theorem dX12_writeFixups_457 : decode cX12_writeFixups 457 = .ok (.getfield 174, 3) := by decide +kernel
theorem dX12_writeFixups_460 : decode cX12_writeFixups 460 = .ok (.if_icmp .ge 22, 3) := by decide +kernel
theorem dX12_writeFixups_463 : decode cX12_writeFixups 463 = .ok (.aload_n 0, 1) := by decide +kernel
theorem dX12_writeFixups_464 : decode cX12_writeFixups 464 = .ok (.aload_n 0, 1) := by decide +kernel
theorem dX12_writeFixups_465 : decode cX12_writeFixups 465 = .ok (.getfield 83, 3) := by decide +kernel
theorem dX12_writeFixups_468 : decode cX12_writeFixups 468 = .ok (.iload 6, 2) := by decide +kernel
theorem dX12_writeFixups_470 : decode cX12_writeFixups 470 = .ok (.iaload, 1) := by decide +kernel
theorem dX12_writeFixups_471 : decode cX12_writeFixups 471 = .ok (.i2l, 1) := by decide +kernel
theorem dX12_writeFixups_472 : decode cX12_writeFixups 472 = .ok (.iconst 4, 1) := by decide +kernel
theorem dX12_writeFixups_473 : decode cX12_writeFixups 473 = .ok (.invokevirtual 216, 3) := by decide +kernel
theorem dX12_writeFixups_476 : decode cX12_writeFixups 476 = .ok (.iinc 6 1, 3) := by decide +kernel
theorem dX12_writeFixups_479 : decode cX12_writeFixups 479 = .ok (.goto (-25), 3) := by decide +kernel
theorem dX12_writeFixups_482 : decode cX12_writeFixups 482 = .ok (.aload_n 0, 1) := by decide +kernel
theorem dX12_writeFixups_483 : decode cX12_writeFixups 483 = .ok (.iload 5, 2) := by decide +kernel
theorem dX12_writeFixups_485 : decode cX12_writeFixups 485 = .ok (.putfield 213, 3) := by decide +kernel
theorem dX12_writeFixups_488 : decode cX12_writeFixups 488 = .ok (.return_, 1) := by decide +kernel
theorem dX12_writeCommands_0 : decode cX12_writeCommands 0 = .ok (.aload_n 0, 1) := by decide +kernel
theorem dX12_writeCommands_1 : decode cX12_writeCommands 1 = .ok (.ldc2_w 282, 3) := by decide +kernel
theorem dX12_writeCommands_4 : decode cX12_writeCommands 4 = .ok (.ldc2_w 284, 3) := by decide +kernel
theorem dX12_writeCommands_7 : decode cX12_writeCommands 7 = .ok (.lconst 0, 1) := by decide +kernel
theorem dX12_writeCommands_8 : decode cX12_writeCommands 8 = .ok (.ldc2_w 286, 3) := by decide +kernel
theorem dX12_writeCommands_11 : decode cX12_writeCommands 11 = .ok (.invokevirtual 278, 3) := by decide +kernel
theorem dX12_writeCommands_14 : decode cX12_writeCommands 14 = .ok (.aload_n 0, 1) := by decide +kernel
theorem dX12_writeCommands_15 : decode cX12_writeCommands 15 = .ok (.aload_n 0, 1) := by decide +kernel
theorem dX12_writeCommands_16 : decode cX12_writeCommands 16 = .ok (.getfield 174, 3) := by decide +kernel
theorem dX12_writeCommands_19 : decode cX12_writeCommands 19 = .ok (.iconst 2, 1) := by decide +kernel
theorem dX12_writeCommands_20 : decode cX12_writeCommands 20 = .ok (.iadd, 1) := by decide +kernel
theorem dX12_writeCommands_21 : decode cX12_writeCommands 21 = .ok (.i2l, 1) := by decide +kernel
theorem dX12_writeCommands_22 : decode cX12_writeCommands 22 = .ok (.iload_n 1, 1) := by decide +kernel
theorem dX12_writeCommands_23 : decode cX12_writeCommands 23 = .ok (.i2l, 1) := by decide +kernel
theorem dX12_writeCommands_24 : decode cX12_writeCommands 24 = .ok (.ldc2_w 288, 3) := by decide +kernel
theorem dX12_writeCommands_27 : decode cX12_writeCommands 27 = .ok (.lconst 0, 1) := by decide +kernel
theorem dX12_writeCommands_28 : decode cX12_writeCommands 28 = .ok (.invokevirtual 278, 3) := by decide +kernel
theorem dX12_writeCommands_31 : decode cX12_writeCommands 31 = .ok (.iconst 0, 1) := by decide +kernel
theorem dX12_writeCommands_32 : decode cX12_writeCommands 32 = .ok (.istore_n 2, 1) := by decide +kernel
theorem dX12_writeCommands_33 : decode cX12_writeCommands 33 = .ok (.iload_n 2, 1) := by decide +kernel
theorem dX12_writeCommands_34 : decode cX12_writeCommands 34 = .ok (.aload_n 0, 1) := by decide +kernel
theorem dX12_writeCommands_35 : decode cX12_writeCommands 35 = .ok (.getfield 174, 3) := by decide +kernel
theorem dX12_writeCommands_38 : decode cX12_writeCommands 38 = .ok (.if_icmp .ge 235, 3) := by decide +kernel
theorem dX12_writeCommands_41 : decode cX12_writeCommands 41 = .ok (.aload_n 0, 1) := by decide +kernel
theorem dX12_writeCommands_42 : decode cX12_writeCommands 42 = .ok (.iload_n 2, 1) := by decide +kernel
theorem dX12_writeCommands_43 : decode cX12_writeCommands 43 = .ok (.invokevirtual 224, 3) := by decide +kernel
theorem dX12_writeCommands_46 : decode cX12_writeCommands 46 = .ok (.istore_n 3, 1) := by decide +kernel
theorem dX12_writeCommands_47 : decode cX12_writeCommands 47 = .ok (.aload_n 0, 1) := by decide +kernel
theorem dX12_writeCommands_48 : decode cX12_writeCommands 48 = .ok (.ldc2_w 290, 3) := by decide +kernel
theorem dX12_writeCommands_51 : decode cX12_writeCommands 51 = .ok (.iconst 4, 1) := by decide +kernel
theorem dX12_writeCommands_52 : decode cX12_writeCommands 52 = .ok (.invokevirtual 216, 3) := by decide +kernel
theorem dX12_writeCommands_55 : decode cX12_writeCommands 55 = .ok (.aload_n 0, 1) := by decide +kernel
theorem dX12_writeCommands_56 : decode cX12_writeCommands 56 = .ok (.bipush 72, 2) := by decide +kernel
theorem dX12_writeCommands_58 : decode cX12_writeCommands 58 = .ok (.bipush 80, 2) := by decide +kernel
theorem dX12_writeCommands_60 : decode cX12_writeCommands 60 = .ok (.iload_n 3, 1) := by decide +kernel
theorem dX12_writeCommands_61 : decode cX12_writeCommands 61 = .ok (.imul, 1) := by decide +kernel
theorem dX12_writeCommands_62 : decode cX12_writeCommands 62 = .ok (.iadd, 1) := by decide +kernel
theorem dX12_writeCommands_63 : decode cX12_writeCommands 63 = .ok (.i2l, 1) := by decide +kernel
theorem dX12_writeCommands_64 : decode cX12_writeCommands 64 = .ok (.iconst 4, 1) := by decide +kernel
theorem dX12_writeCommands_65 : decode cX12_writeCommands 65 = .ok (.invokevirtual 216, 3) := by decide +kernel
theorem dX12_writeCommands_68 : decode cX12_writeCommands 68 = .ok (.aload_n 0, 1) := by decide +kernel
theorem dX12_writeCommands_69 : decode cX12_writeCommands 69 = .ok (.iload_n 2, 1) := by decide +kernel
theorem dX12_writeCommands_70 : decode cX12_writeCommands 70 = .ok (.bipush 16, 2) := by decide +kernel
theorem dX12_writeCommands_72 : decode cX12_writeCommands 72 = .ok (.invokevirtual 247, 3) := by decide +kernel
theorem dX12_writeCommands_75 : decode cX12_writeCommands 75 = .ok (.aload_n 0, 1) := by decide +kernel
theorem dX12_writeCommands_76 : decode cX12_writeCommands 76 = .ok (.aload_n 0, 1) := by decide +kernel
theorem dX12_writeCommands_77 : decode cX12_writeCommands 77 = .ok (.iload_n 2, 1) := by decide +kernel
theorem dX12_writeCommands_78 : decode cX12_writeCommands 78 = .ok (.invokevirtual 238, 3) := by decide +kernel
theorem dX12_writeCommands_81 : decode cX12_writeCommands 81 = .ok (.i2l, 1) := by decide +kernel
theorem dX12_writeCommands_82 : decode cX12_writeCommands 82 = .ok (.bipush 8, 2) := by decide +kernel
theorem dX12_writeCommands_84 : decode cX12_writeCommands 84 = .ok (.invokevirtual 216, 3) := by decide +kernel
theorem dX12_writeCommands_87 : decode cX12_writeCommands 87 = .ok (.aload_n 0, 1) := by decide +kernel
theorem dX12_writeCommands_88 : decode cX12_writeCommands 88 = .ok (.aload_n 0, 1) := by decide +kernel
theorem dX12_writeCommands_89 : decode cX12_writeCommands 89 = .ok (.iload_n 2, 1) := by decide +kernel
theorem dX12_writeCommands_90 : decode cX12_writeCommands 90 = .ok (.invokevirtual 220, 3) := by decide +kernel
theorem dX12_writeCommands_93 : decode cX12_writeCommands 93 = .ok (.i2l, 1) := by decide +kernel
theorem dX12_writeCommands_94 : decode cX12_writeCommands 94 = .ok (.bipush 8, 2) := by decide +kernel
theorem dX12_writeCommands_96 : decode cX12_writeCommands 96 = .ok (.invokevirtual 216, 3) := by decide +kernel
theorem dX12_writeCommands_99 : decode cX12_writeCommands 99 = .ok (.aload_n 0, 1) := by decide +kernel
theorem dX12_writeCommands_100 : decode cX12_writeCommands 100 = .ok (.aload_n 0, 1) := by decide +kernel
theorem dX12_writeCommands_101 : decode cX12_writeCommands 101 = .ok (.getfield 80, 3) := by decide +kernel
theorem dX12_writeCommands_104 : decode cX12_writeCommands 104 = .ok (.iload_n 2, 1) := by decide +kernel
theorem dX12_writeCommands_105 : decode cX12_writeCommands 105 = .ok (.iaload, 1) := by decide +kernel
theorem dX12_writeCommands_106 : decode cX12_writeCommands 106 = .ok (.i2l, 1) := by decide +kernel
theorem dX12_writeCommands_107 : decode cX12_writeCommands 107 = .ok (.bipush 8, 2) := by decide +kernel
theorem dX12_writeCommands_109 : decode cX12_writeCommands 109 = .ok (.invokevirtual 216, 3) := by decide +kernel
theorem dX12_writeCommands_112 : decode cX12_writeCommands 112 = .ok (.aload_n 0, 1) := by decide +kernel
theorem dX12_writeCommands_113 : decode cX12_writeCommands 113 = .ok (.aload_n 0, 1) := by decide +kernel
theorem dX12_writeCommands_114 : decode cX12_writeCommands 114 = .ok (.getfield 24, 3) := by decide +kernel
theorem dX12_writeCommands_117 : decode cX12_writeCommands 117 = .ok (.iload_n 2, 1) := by decide +kernel
theorem dX12_writeCommands_118 : decode cX12_writeCommands 118 = .ok (.iaload, 1) := by decide +kernel
theorem dX12_writeCommands_119 : decode cX12_writeCommands 119 = .ok (.i2l, 1) := by decide +kernel
theorem dX12_writeCommands_120 : decode cX12_writeCommands 120 = .ok (.bipush 8, 2) := by decide +kernel
theorem dX12_writeCommands_122 : decode cX12_writeCommands 122 = .ok (.invokevirtual 216, 3) := by decide +kernel
theorem dX12_writeCommands_125 : decode cX12_writeCommands 125 = .ok (.aload_n 0, 1) := by decide +kernel
theorem dX12_writeCommands_126 : decode cX12_writeCommands 126 = .ok (.ldc2_w 292, 3) := by decide +kernel
theorem dX12_writeCommands_129 : decode cX12_writeCommands 129 = .ok (.aload_n 0, 1) := by decide +kernel
theorem dX12_writeCommands_130 : decode cX12_writeCommands 130 = .ok (.getfield 27, 3) := by decide +kernel
theorem dX12_writeCommands_133 : decode cX12_writeCommands 133 = .ok (.iload_n 2, 1) := by decide +kernel
theorem dX12_writeCommands_134 : decode cX12_writeCommands 134 = .ok (.iaload, 1) := by decide +kernel
theorem dX12_writeCommands_135 : decode cX12_writeCommands 135 = .ok (.i2l, 1) := by decide +kernel
theorem dX12_writeCommands_136 : decode cX12_writeCommands 136 = .ok (.iload_n 3, 1) := by decide +kernel
theorem dX12_writeCommands_137 : decode cX12_writeCommands 137 = .ok (.i2l, 1) := by decide +kernel
theorem dX12_writeCommands_138 : decode cX12_writeCommands 138 = .ok (.lconst 0, 1) := by decide +kernel
theorem dX12_writeCommands_139 : decode cX12_writeCommands 139 = .ok (.invokevirtual 278, 3) := by decide +kernel
theorem dX12_writeCommands_142 : decode cX12_writeCommands 142 = .ok (.iconst 1, 1) := by decide +kernel
theorem dX12_writeCommands_143 : decode cX12_writeCommands 143 = .ok (.istore 4, 2) := by decide +kernel
theorem dX12_writeCommands_145 : decode cX12_writeCommands 145 = .ok (.iload 4, 2) := by decide +kernel
theorem dX12_writeCommands_147 : decode cX12_writeCommands 147 = .ok (.aload_n 0, 1) := by decide +kernel
theorem dX12_writeCommands_148 : decode cX12_writeCommands 148 = .ok (.getfield 177, 3) := by decide +kernel
theorem dX12_writeCommands_151 : decode cX12_writeCommands 151 = .ok (.if_icmp .gt 116, 3) := by decide +kernel
theorem dX12_writeCommands_154 : decode cX12_writeCommands 154 = .ok (.aload_n 0, 1) := by decide +kernel
theorem dX12_writeCommands_155 : decode cX12_writeCommands 155 = .ok (.getfield 33, 3) := by decide +kernel
theorem dX12_writeCommands_158 : decode cX12_writeCommands 158 = .ok (.iload 4, 2) := by decide +kernel
theorem dX12_writeCommands_160 : decode cX12_writeCommands 160 = .ok (.iaload, 1) := by decide +kernel
theorem dX12_writeCommands_161 : decode cX12_writeCommands 161 = .ok (.iload_n 2, 1) := by decide +kernel
theorem dX12_writeCommands_162 : decode cX12_writeCommands 162 = .ok (.if_icmp .eq 6, 3) := by decide +kernel
theorem dX12_writeCommands_165 : decode cX12_writeCommands 165 = .ok (.goto 96, 3) := by decide +kernel
theorem dX12_writeCommands_168 : decode cX12_writeCommands 168 = .ok (.aload_n 0, 1) := by decide +kernel
theorem dX12_writeCommands_169 : decode cX12_writeCommands 169 = .ok (.iconst 3, 1) := by decide +kernel
theorem dX12_writeCommands_170 : decode cX12_writeCommands 170 = .ok (.iload 4, 2) := by decide +kernel
theorem dX12_writeCommands_172 : decode cX12_writeCommands 172 = .ok (.iadd, 1) := by decide +kernel
theorem dX12_writeCommands_173 : decode cX12_writeCommands 173 = .ok (.bipush 16, 2) := by decide +kernel
theorem dX12_writeCommands_175 : decode cX12_writeCommands 175 = .ok (.invokevirtual 247, 3) := by decide +kernel
theorem dX12_writeCommands_178 : decode cX12_writeCommands 178 = .ok (.aload_n 0, 1) := by decide +kernel
theorem dX12_writeCommands_179 : decode cX12_writeCommands 179 = .ok (.iload_n 2, 1) := by decide +kernel
theorem dX12_writeCommands_180 : decode cX12_writeCommands 180 = .ok (.bipush 16, 2) := by decide +kernel
theorem dX12_writeCommands_182 : decode cX12_writeCommands 182 = .ok (.invokevirtual 247, 3) := by decide +kernel
theorem dX12_writeCommands_185 : decode cX12_writeCommands 185 = .ok (.aload_n 0, 1) := by decide +kernel
theorem dX12_writeCommands_186 : decode cX12_writeCommands 186 = .ok (.aload_n 0, 1) := by decide +kernel
theorem dX12_writeCommands_187 : decode cX12_writeCommands 187 = .ok (.iload_n 2, 1) := by decide +kernel
theorem dX12_writeCommands_188 : decode cX12_writeCommands 188 = .ok (.invokevirtual 238, 3) := by decide +kernel
theorem dX12_writeCommands_191 : decode cX12_writeCommands 191 = .ok (.aload_n 0, 1) := by decide +kernel
theorem dX12_writeCommands_192 : decode cX12_writeCommands 192 = .ok (.getfield 36, 3) := by decide +kernel
theorem dX12_writeCommands_195 : decode cX12_writeCommands 195 = .ok (.iload 4, 2) := by decide +kernel
theorem dX12_writeCommands_197 : decode cX12_writeCommands 197 = .ok (.iaload, 1) := by decide +kernel
theorem dX12_writeCommands_198 : decode cX12_writeCommands 198 = .ok (.iadd, 1) := by decide +kernel
theorem dX12_writeCommands_199 : decode cX12_writeCommands 199 = .ok (.i2l, 1) := by decide +kernel
theorem dX12_writeCommands_200 : decode cX12_writeCommands 200 = .ok (.bipush 8, 2) := by decide +kernel
theorem dX12_writeCommands_202 : decode cX12_writeCommands 202 = .ok (.invokevirtual 216, 3) := by decide +kernel
theorem dX12_writeCommands_205 : decode cX12_writeCommands 205 = .ok (.aload_n 0, 1) := by decide +kernel
theorem dX12_writeCommands_206 : decode cX12_writeCommands 206 = .ok (.aload_n 0, 1) := by decide +kernel
theorem dX12_writeCommands_207 : decode cX12_writeCommands 207 = .ok (.getfield 39, 3) := by decide +kernel
theorem dX12_writeCommands_210 : decode cX12_writeCommands 210 = .ok (.iload 4, 2) := by decide +kernel
theorem dX12_writeCommands_212 : decode cX12_writeCommands 212 = .ok (.iaload, 1) := by decide +kernel
theorem dX12_writeCommands_213 : decode cX12_writeCommands 213 = .ok (.i2l, 1) := by decide +kernel
theorem dX12_writeCommands_214 : decode cX12_writeCommands 214 = .ok (.bipush 8, 2) := by decide +kernel
theorem dX12_writeCommands_216 : decode cX12_writeCommands 216 = .ok (.invokevirtual 216, 3) := by decide +kernel
theorem dX12_writeCommands_219 : decode cX12_writeCommands 219 = .ok (.aload_n 0, 1) := by decide +kernel
theorem dX12_writeCommands_220 : decode cX12_writeCommands 220 = .ok (.aload_n 0, 1) := by decide +kernel
theorem dX12_writeCommands_221 : decode cX12_writeCommands 221 = .ok (.getfield 80, 3) := by decide +kernel
theorem dX12_writeCommands_224 : decode cX12_writeCommands 224 = .ok (.iload_n 2, 1) := by decide +kernel
theorem dX12_writeCommands_225 : decode cX12_writeCommands 225 = .ok (.iaload, 1) := by decide +kernel
theorem dX12_writeCommands_226 : decode cX12_writeCommands 226 = .ok (.aload_n 0, 1) := by decide +kernel
theorem dX12_writeCommands_227 : decode cX12_writeCommands 227 = .ok (.getfield 36, 3) := by decide +kernel
theorem dX12_writeCommands_230 : decode cX12_writeCommands 230 = .ok (.iload 4, 2) := by decide +kernel
theorem dX12_writeCommands_232 : decode cX12_writeCommands 232 = .ok (.iaload, 1) := by decide +kernel
theorem dX12_writeCommands_233 : decode cX12_writeCommands 233 = .ok (.iadd, 1) := by decide +kernel
theorem dX12_writeCommands_234 : decode cX12_writeCommands 234 = .ok (.i2l, 1) := by decide +kernel
theorem dX12_writeCommands_235 : decode cX12_writeCommands 235 = .ok (.iconst 4, 1) := by decide +kernel
theorem dX12_writeCommands_236 : decode cX12_writeCommands 236 = .ok (.invokevirtual 216, 3) := by decide +kernel
theorem dX12_writeCommands_239 : decode cX12_writeCommands 239 = .ok (.iconst 0, 1) := by decide +kernel
theorem dX12_writeCommands_240 : decode cX12_writeCommands 240 = .ok (.istore 5, 2) := by decide +kernel
theorem dX12_writeCommands_242 : decode cX12_writeCommands 242 = .ok (.iload 5, 2) := by decide +kernel
theorem dX12_writeCommands_244 : decode cX12_writeCommands 244 = .ok (.bipush 7, 2) := by decide +kernel
theorem dX12_writeCommands_246 : decode cX12_writeCommands 246 = .ok (.if_icmp .ge 15, 3) := by decide +kernel
theorem dX12_writeCommands_249 : decode cX12_writeCommands 249 = .ok (.aload_n 0, 1) := by decide +kernel
theorem dX12_writeCommands_250 : decode cX12_writeCommands 250 = .ok (.lconst 0, 1) := by decide +kernel
theorem dX12_writeCommands_251 : decode cX12_writeCommands 251 = .ok (.iconst 4, 1) := by decide +kernel
theorem dX12_writeCommands_252 : decode cX12_writeCommands 252 = .ok (.invokevirtual 216, 3) := by decide +kernel
theorem dX12_writeCommands_255 : decode cX12_writeCommands 255 = .ok (.iinc 5 1, 3) := by decide +kernel
theorem dX12_writeCommands_258 : decode cX12_writeCommands 258 = .ok (.goto (-16), 3) := by decide +kernel
theorem dX12_writeCommands_261 : decode cX12_writeCommands 261 = .ok (.iinc 4 1, 3) := by decide +kernel
theorem dX12_writeCommands_264 : decode cX12_writeCommands 264 = .ok (.goto (-119), 3) := by decide +kernel
theorem dX12_writeCommands_267 : decode cX12_writeCommands 267 = .ok (.iinc 2 1, 3) := by decide +kernel
theorem dX12_writeCommands_270 : decode cX12_writeCommands 270 = .ok (.goto (-237), 3) := by decide +kernel
theorem dX12_writeCommands_273 : decode cX12_writeCommands 273 = .ok (.aload_n 0, 1) := by decide +kernel
theorem dX12_writeCommands_274 : decode cX12_writeCommands 274 = .ok (.ldc2_w 270, 3) := by decide +kernel
theorem dX12_writeCommands_277 : decode cX12_writeCommands 277 = .ok (.ldc2_w 294, 3) := by decide +kernel
theorem dX12_writeCommands_280 : decode cX12_writeCommands 280 = .ok (.aload_n 0, 1) := by decide +kernel
theorem dX12_writeCommands_281 : decode cX12_writeCommands 281 = .ok (.getfield 233, 3) := by decide +kernel
theorem dX12_writeCommands_284 : decode cX12_writeCommands 284 = .ok (.i2l, 1) := by decide +kernel
theorem dX12_writeCommands_285 : decode cX12_writeCommands 285 = .ok (.aload_n 0, 1) := by decide +kernel
theorem dX12_writeCommands_286 : decode cX12_writeCommands 286 = .ok (.getfield 180, 3) := by decide +kernel
theorem dX12_writeCommands_289 : decode cX12_writeCommands 289 = .ok (.i2l, 1) := by decide +kernel
theorem dX12_writeCommands_290 : decode cX12_writeCommands 290 = .ok (.invokevirtual 278, 3) := by decide +kernel
theorem dX12_writeCommands_293 : decode cX12_writeCommands 293 = .ok (.aload_n 0, 1) := by decide +kernel
theorem dX12_writeCommands_294 : decode cX12_writeCommands 294 = .ok (.aload_n 0, 1) := by decide +kernel
theorem dX12_writeCommands_295 : decode cX12_writeCommands 295 = .ok (.getfield 244, 3) := by decide +kernel
theorem dX12_writeCommands_298 : decode cX12_writeCommands 298 = .ok (.i2l, 1) := by decide +kernel
theorem dX12_writeCommands_299 : decode cX12_writeCommands 299 = .ok (.iconst 4, 1) := by decide +kernel
theorem dX12_writeCommands_300 : decode cX12_writeCommands 300 = .ok (.invokevirtual 216, 3) := by decide +kernel
theorem dX12_writeCommands_303 : decode cX12_writeCommands 303 = .ok (.aload_n 0, 1) := by decide +kernel
theorem dX12_writeCommands_304 : decode cX12_writeCommands 304 = .ok (.aload_n 0, 1) := by decide +kernel
theorem dX12_writeCommands_305 : decode cX12_writeCommands 305 = .ok (.getfield 250, 3) := by decide +kernel
theorem dX12_writeCommands_308 : decode cX12_writeCommands 308 = .ok (.i2l, 1) := by decide +kernel
theorem dX12_writeCommands_309 : decode cX12_writeCommands 309 = .ok (.iconst 4, 1) := by decide +kernel
theorem dX12_writeCommands_310 : decode cX12_writeCommands 310 = .ok (.invokevirtual 216, 3) := by decide +kernel
theorem dX12_writeCommands_313 : decode cX12_writeCommands 313 = .ok (.aload_n 0, 1) := by decide +kernel
theorem dX12_writeCommands_314 : decode cX12_writeCommands 314 = .ok (.ldc2_w 296, 3) := by decide +kernel
theorem dX12_writeCommands_317 : decode cX12_writeCommands 317 = .ok (.ldc2_w 298, 3) := by decide +kernel
theorem dX12_writeCommands_320 : decode cX12_writeCommands 320 = .ok (.aload_n 0, 1) := by decide +kernel
theorem dX12_writeCommands_321 : decode cX12_writeCommands 321 = .ok (.getfield 264, 3) := by decide +kernel
theorem dX12_writeCommands_324 : decode cX12_writeCommands 324 = .ok (.i2l, 1) := by decide +kernel
theorem dX12_writeCommands_325 : decode cX12_writeCommands 325 = .ok (.aload_n 0, 1) := by decide +kernel
theorem dX12_writeCommands_326 : decode cX12_writeCommands 326 = .ok (.getfield 273, 3) := by decide +kernel
theorem dX12_writeCommands_329 : decode cX12_writeCommands 329 = .ok (.i2l, 1) := by decide +kernel
theorem dX12_writeCommands_330 : decode cX12_writeCommands 330 = .ok (.invokevirtual 278, 3) := by decide +kernel
theorem dX12_writeCommands_333 : decode cX12_writeCommands 333 = .ok (.return_, 1) := by decide +kernel
theorem dX12_image_0 : decode cX12_image 0 = .ok (.aload_n 0, 1) := by decide +kernel
theorem dX12_image_1 : decode cX12_image 1 = .ok (.iconst 0, 1) := by decide +kernel
theorem dX12_image_2 : decode cX12_image 2 = .ok (.putfield 149, 3) := by decide +kernel
theorem dX12_image_5 : decode cX12_image 5 = .ok (.iload_n 1, 1) := by decide +kernel
theorem dX12_image_6 : decode cX12_image 6 = .ok (.ifCond .lt 11, 3) := by decide +kernel
theorem dX12_image_9 : decode cX12_image 9 = .ok (.iload_n 1, 1) := by decide +kernel
theorem dX12_image_10 : decode cX12_image 10 = .ok (.aload_n 0, 1) := by decide +kernel
theorem dX12_image_11 : decode cX12_image 11 = .ok (.getfield 253, 3) := by decide +kernel
theorem dX12_image_14 : decode cX12_image 14 = .ok (.if_icmp .lt 7, 3) := by decide +kernel
theorem dX12_image_17 : decode cX12_image 17 = .ok (.iconst (-1), 1) := by decide +kernel
theorem dX12_image_18 : decode cX12_image 18 = .ok (.goto 9, 3) := by decide +kernel
theorem dX12_image_21 : decode cX12_image 21 = .ok (.aload_n 0, 1) := by decide +kernel
theorem dX12_image_22 : decode cX12_image 22 = .ok (.getfield 77, 3) := by decide +kernel
theorem dX12_image_25 : decode cX12_image 25 = .ok (.iload_n 1, 1) := by decide +kernel
theorem dX12_image_26 : decode cX12_image 26 = .ok (.iaload, 1) := by decide +kernel
theorem dX12_image_27 : decode cX12_image 27 = .ok (.ireturn, 1) := by decide +kernel
theorem dX12_damage_0 : decode cX12_damage 0 = .ok (.aload_n 0, 1) := by decide +kernel
theorem dX12_damage_1 : decode cX12_damage 1 = .ok (.iconst 0, 1) := by decide +kernel
theorem dX12_damage_2 : decode cX12_damage 2 = .ok (.putfield 149, 3) := by decide +kernel
theorem dX12_damage_5 : decode cX12_damage 5 = .ok (.iload_n 1, 1) := by decide +kernel
theorem dX12_damage_6 : decode cX12_damage 6 = .ok (.ifCond .lt 22, 3) := by decide +kernel
theorem dX12_damage_9 : decode cX12_damage 9 = .ok (.iload_n 1, 1) := by decide +kernel
theorem dX12_damage_10 : decode cX12_damage 10 = .ok (.aload_n 0, 1) := by decide +kernel
theorem dX12_damage_11 : decode cX12_damage 11 = .ok (.getfield 253, 3) := by decide +kernel
theorem dX12_damage_14 : decode cX12_damage 14 = .ok (.if_icmp .ge 14, 3) := by decide +kernel
theorem dX12_damage_17 : decode cX12_damage 17 = .ok (.iload_n 2, 1) := by decide +kernel
theorem dX12_damage_18 : decode cX12_damage 18 = .ok (.ifCond .lt 10, 3) := by decide +kernel
theorem dX12_damage_21 : decode cX12_damage 21 = .ok (.iload_n 2, 1) := by decide +kernel
theorem dX12_damage_22 : decode cX12_damage 22 = .ok (.sipush 255, 3) := by decide +kernel
theorem dX12_damage_25 : decode cX12_damage 25 = .ok (.if_icmp .le 5, 3) := by decide +kernel
theorem dX12_damage_28 : decode cX12_damage 28 = .ok (.iconst 0, 1) := by decide +kernel
theorem dX12_damage_29 : decode cX12_damage 29 = .ok (.ireturn, 1) := by decide +kernel
theorem dX12_damage_30 : decode cX12_damage 30 = .ok (.aload_n 0, 1) := by decide +kernel
theorem dX12_damage_31 : decode cX12_damage 31 = .ok (.getfield 77, 3) := by decide +kernel
theorem dX12_damage_34 : decode cX12_damage 34 = .ok (.iload_n 1, 1) := by decide +kernel
theorem dX12_damage_35 : decode cX12_damage 35 = .ok (.iload_n 2, 1) := by decide +kernel
theorem dX12_damage_36 : decode cX12_damage 36 = .ok (.iastore, 1) := by decide +kernel
theorem dX12_damage_37 : decode cX12_damage 37 = .ok (.iconst 1, 1) := by decide +kernel
theorem dX12_damage_38 : decode cX12_damage 38 = .ok (.ireturn, 1) := by decide +kernel
theorem dX12_cut_0 : decode cX12_cut 0 = .ok (.aload_n 0, 1) := by decide +kernel
theorem dX12_cut_1 : decode cX12_cut 1 = .ok (.iconst 0, 1) := by decide +kernel
theorem dX12_cut_2 : decode cX12_cut 2 = .ok (.putfield 149, 3) := by decide +kernel
theorem dX12_cut_5 : decode cX12_cut 5 = .ok (.iload_n 1, 1) := by decide +kernel
theorem dX12_cut_6 : decode cX12_cut 6 = .ok (.ifCond .lt 11, 3) := by decide +kernel
theorem dX12_cut_9 : decode cX12_cut 9 = .ok (.iload_n 1, 1) := by decide +kernel
theorem dX12_cut_10 : decode cX12_cut 10 = .ok (.aload_n 0, 1) := by decide +kernel
theorem dX12_cut_11 : decode cX12_cut 11 = .ok (.getfield 253, 3) := by decide +kernel
theorem dX12_cut_14 : decode cX12_cut 14 = .ok (.if_icmp .le 5, 3) := by decide +kernel
theorem dX12_cut_17 : decode cX12_cut 17 = .ok (.iconst 0, 1) := by decide +kernel
theorem dX12_cut_18 : decode cX12_cut 18 = .ok (.ireturn, 1) := by decide +kernel
theorem dX12_cut_19 : decode cX12_cut 19 = .ok (.aload_n 0, 1) := by decide +kernel
theorem dX12_cut_20 : decode cX12_cut 20 = .ok (.iload_n 1, 1) := by decide +kernel
theorem dX12_cut_21 : decode cX12_cut 21 = .ok (.putfield 253, 3) := by decide +kernel
theorem dX12_cut_24 : decode cX12_cut 24 = .ok (.iconst 1, 1) := by decide +kernel
theorem dX12_cut_25 : decode cX12_cut 25 = .ok (.ireturn, 1) := by decide +kernel
theorem dX12_export_0 : decode cX12_export 0 = .ok (.aload_n 0, 1) := by decide +kernel
theorem dX12_export_1 : decode cX12_export 1 = .ok (.iconst 0, 1) := by decide +kernel
theorem dX12_export_2 : decode cX12_export 2 = .ok (.putfield 149, 3) := by decide +kernel
theorem dX12_export_5 : decode cX12_export 5 = .ok (.iload_n 1, 1) := by decide +kernel
theorem dX12_export_6 : decode cX12_export 6 = .ok (.iconst 1, 1) := by decide +kernel
theorem dX12_export_7 : decode cX12_export 7 = .ok (.if_icmp .lt 12, 3) := by decide +kernel
theorem dX12_export_10 : decode cX12_export 10 = .ok (.iload_n 1, 1) := by decide +kernel
theorem dX12_export_11 : decode cX12_export 11 = .ok (.iconst 3, 1) := by decide +kernel
theorem dX12_export_12 : decode cX12_export 12 = .ok (.if_icmp .gt 7, 3) := by decide +kernel
theorem dX12_export_15 : decode cX12_export 15 = .ok (.iload_n 2, 1) := by decide +kernel
theorem dX12_export_16 : decode cX12_export 16 = .ok (.ifCond .ge 10, 3) := by decide +kernel
theorem dX12_export_19 : decode cX12_export 19 = .ok (.aload_n 0, 1) := by decide +kernel
theorem dX12_export_20 : decode cX12_export 20 = .ok (.iconst 0, 1) := by decide +kernel
theorem dX12_export_21 : decode cX12_export 21 = .ok (.putfield 152, 3) := by decide +kernel
theorem dX12_export_24 : decode cX12_export 24 = .ok (.iconst 0, 1) := by decide +kernel
theorem dX12_export_25 : decode cX12_export 25 = .ok (.ireturn, 1) := by decide +kernel
theorem dX12_export_26 : decode cX12_export 26 = .ok (.aload_n 0, 1) := by decide +kernel
theorem dX12_export_27 : decode cX12_export 27 = .ok (.getfield 152, 3) := by decide +kernel
theorem dX12_export_30 : decode cX12_export 30 = .ok (.istore_n 3, 1) := by decide +kernel
theorem dX12_export_31 : decode cX12_export 31 = .ok (.iload_n 3, 1) := by decide +kernel
theorem dX12_export_32 : decode cX12_export 32 = .ok (.iconst 1, 1) := by decide +kernel
theorem dX12_export_33 : decode cX12_export 33 = .ok (.if_icmp .lt 13, 3) := by decide +kernel
theorem dX12_export_36 : decode cX12_export 36 = .ok (.iload_n 3, 1) := by decide +kernel
theorem dX12_export_37 : decode cX12_export 37 = .ok (.bipush 16, 2) := by decide +kernel
theorem dX12_export_39 : decode cX12_export 39 = .ok (.if_icmp .gt 7, 3) := by decide +kernel
theorem dX12_export_42 : decode cX12_export 42 = .ok (.iconst 1, 1) := by decide +kernel
theorem dX12_export_43 : decode cX12_export 43 = .ok (.goto 4, 3) := by decide +kernel
theorem dX12_export_46 : decode cX12_export 46 = .ok (.iconst 0, 1) := by decide +kernel
theorem dX12_export_47 : decode cX12_export 47 = .ok (.istore 4, 2) := by decide +kernel
theorem dX12_export_49 : decode cX12_export 49 = .ok (.iconst 0, 1) := by decide +kernel
theorem dX12_export_50 : decode cX12_export 50 = .ok (.istore 5, 2) := by decide +kernel
theorem dX12_export_52 : decode cX12_export 52 = .ok (.iload 5, 2) := by decide +kernel
theorem dX12_export_54 : decode cX12_export 54 = .ok (.iload_n 3, 1) := by decide +kernel
theorem dX12_export_55 : decode cX12_export 55 = .ok (.if_icmp .ge 45, 3) := by decide +kernel
theorem dX12_export_58 : decode cX12_export 58 = .ok (.iload 4, 2) := by decide +kernel
theorem dX12_export_60 : decode cX12_export 60 = .ok (.ifCond .eq 40, 3) := by decide +kernel
theorem dX12_export_63 : decode cX12_export 63 = .ok (.aload_n 0, 1) := by decide +kernel
theorem dX12_export_64 : decode cX12_export 64 = .ok (.getfield 7, 3) := by decide +kernel
theorem dX12_export_67 : decode cX12_export 67 = .ok (.iload 5, 2) := by decide +kernel
theorem dX12_export_69 : decode cX12_export 69 = .ok (.iaload, 1) := by decide +kernel
theorem dX12_export_70 : decode cX12_export 70 = .ok (.bipush 32, 2) := by decide +kernel
theorem dX12_export_72 : decode cX12_export 72 = .ok (.if_icmp .le 19, 3) := by decide +kernel
theorem dX12_export_75 : decode cX12_export 75 = .ok (.aload_n 0, 1) := by decide +kernel
theorem dX12_export_76 : decode cX12_export 76 = .ok (.getfield 7, 3) := by decide +kernel
theorem dX12_export_79 : decode cX12_export 79 = .ok (.iload 5, 2) := by decide +kernel
theorem dX12_export_81 : decode cX12_export 81 = .ok (.iaload, 1) := by decide +kernel
theorem dX12_export_82 : decode cX12_export 82 = .ok (.bipush 127, 2) := by decide +kernel
theorem dX12_export_84 : decode cX12_export 84 = .ok (.if_icmp .ge 7, 3) := by decide +kernel
theorem dX12_export_87 : decode cX12_export 87 = .ok (.iconst 1, 1) := by decide +kernel
theorem dX12_export_88 : decode cX12_export 88 = .ok (.goto 4, 3) := by decide +kernel
theorem dX12_export_91 : decode cX12_export 91 = .ok (.iconst 0, 1) := by decide +kernel
theorem dX12_export_92 : decode cX12_export 92 = .ok (.istore 4, 2) := by decide +kernel
theorem dX12_export_94 : decode cX12_export 94 = .ok (.iinc 5 1, 3) := by decide +kernel
theorem dX12_export_97 : decode cX12_export 97 = .ok (.goto (-45), 3) := by decide +kernel
theorem dX12_export_100 : decode cX12_export 100 = .ok (.aload_n 0, 1) := by decide +kernel
theorem dX12_export_101 : decode cX12_export 101 = .ok (.iconst 0, 1) := by decide +kernel
theorem dX12_export_102 : decode cX12_export 102 = .ok (.putfield 152, 3) := by decide +kernel
theorem dX12_export_105 : decode cX12_export 105 = .ok (.iload 4, 2) := by decide +kernel
theorem dX12_export_107 : decode cX12_export 107 = .ok (.ifCond .ne 5, 3) := by decide +kernel
theorem dX12_export_110 : decode cX12_export 110 = .ok (.iconst 0, 1) := by decide +kernel
theorem dX12_export_111 : decode cX12_export 111 = .ok (.ireturn, 1) := by decide +kernel
theorem dX12_export_112 : decode cX12_export 112 = .ok (.iconst 0, 1) := by decide +kernel
theorem dX12_export_113 : decode cX12_export 113 = .ok (.istore 5, 2) := by decide +kernel
theorem dX12_export_115 : decode cX12_export 115 = .ok (.iload 5, 2) := by decide +kernel
theorem dX12_export_117 : decode cX12_export 117 = .ok (.aload_n 0, 1) := by decide +kernel
theorem dX12_export_118 : decode cX12_export 118 = .ok (.getfield 300, 3) := by decide +kernel
theorem dX12_export_121 : decode cX12_export 121 = .ok (.if_icmp .ge 33, 3) := by decide +kernel
theorem dX12_export_124 : decode cX12_export 124 = .ok (.aload_n 0, 1) := by decide +kernel
theorem dX12_export_125 : decode cX12_export 125 = .ok (.getfield 71, 3) := by decide +kernel
theorem dX12_export_128 : decode cX12_export 128 = .ok (.iload 5, 2) := by decide +kernel
theorem dX12_export_130 : decode cX12_export 130 = .ok (.iaload, 1) := by decide +kernel
theorem dX12_export_131 : decode cX12_export 131 = .ok (.iload_n 1, 1) := by decide +kernel
theorem dX12_export_132 : decode cX12_export 132 = .ok (.if_icmp .ne 16, 3) := by decide +kernel
theorem dX12_export_135 : decode cX12_export 135 = .ok (.aload_n 0, 1) := by decide +kernel
theorem dX12_export_136 : decode cX12_export 136 = .ok (.bipush 52, 2) := by decide +kernel
theorem dX12_export_138 : decode cX12_export 138 = .ok (.iload 5, 2) := by decide +kernel
theorem dX12_export_140 : decode cX12_export 140 = .ok (.iadd, 1) := by decide +kernel
theorem dX12_export_141 : decode cX12_export 141 = .ok (.iload_n 3, 1) := by decide +kernel
theorem dX12_export_142 : decode cX12_export 142 = .ok (.invokevirtual 303, 3) := by decide +kernel
theorem dX12_export_145 : decode cX12_export 145 = .ok (.ifCond .ne 9, 3) := by decide +kernel
theorem dX12_export_148 : decode cX12_export 148 = .ok (.iinc 5 1, 3) := by decide +kernel
theorem dX12_export_151 : decode cX12_export 151 = .ok (.goto (-36), 3) := by decide +kernel
theorem dX12_export_154 : decode cX12_export 154 = .ok (.iload 5, 2) := by decide +kernel
theorem dX12_export_156 : decode cX12_export 156 = .ok (.bipush 30, 2) := by decide +kernel
theorem dX12_export_158 : decode cX12_export 158 = .ok (.if_icmp .ne 5, 3) := by decide +kernel
theorem dX12_export_161 : decode cX12_export 161 = .ok (.iconst 0, 1) := by decide +kernel
theorem dX12_export_162 : decode cX12_export 162 = .ok (.ireturn, 1) := by decide +kernel
theorem dX12_export_163 : decode cX12_export 163 = .ok (.iload 5, 2) := by decide +kernel
theorem dX12_export_165 : decode cX12_export 165 = .ok (.aload_n 0, 1) := by decide +kernel
theorem dX12_export_166 : decode cX12_export 166 = .ok (.getfield 300, 3) := by decide +kernel
theorem dX12_export_169 : decode cX12_export 169 = .ok (.if_icmp .ne 70, 3) := by decide +kernel
theorem dX12_export_172 : decode cX12_export 172 = .ok (.iconst 0, 1) := by decide +kernel
theorem dX12_export_173 : decode cX12_export 173 = .ok (.istore 6, 2) := by decide +kernel
theorem dX12_export_175 : decode cX12_export 175 = .ok (.iload 6, 2) := by decide +kernel
theorem dX12_export_177 : decode cX12_export 177 = .ok (.bipush 16, 2) := by decide +kernel
theorem dX12_export_179 : decode cX12_export 179 = .ok (.if_icmp .ge 42, 3) := by decide +kernel
theorem dX12_export_182 : decode cX12_export 182 = .ok (.aload_n 0, 1) := by decide +kernel
theorem dX12_export_183 : decode cX12_export 183 = .ok (.getfield 13, 3) := by decide +kernel
theorem dX12_export_186 : decode cX12_export 186 = .ok (.bipush 16, 2) := by decide +kernel
theorem dX12_export_188 : decode cX12_export 188 = .ok (.bipush 52, 2) := by decide +kernel
theorem dX12_export_190 : decode cX12_export 190 = .ok (.iload 5, 2) := by decide +kernel
theorem dX12_export_192 : decode cX12_export 192 = .ok (.iadd, 1) := by decide +kernel
theorem dX12_export_193 : decode cX12_export 193 = .ok (.imul, 1) := by decide +kernel
theorem dX12_export_194 : decode cX12_export 194 = .ok (.iload 6, 2) := by decide +kernel
theorem dX12_export_196 : decode cX12_export 196 = .ok (.iadd, 1) := by decide +kernel
theorem dX12_export_197 : decode cX12_export 197 = .ok (.iload 6, 2) := by decide +kernel
theorem dX12_export_199 : decode cX12_export 199 = .ok (.iload_n 3, 1) := by decide +kernel
theorem dX12_export_200 : decode cX12_export 200 = .ok (.if_icmp .ge 13, 3) := by decide +kernel
theorem dX12_export_203 : decode cX12_export 203 = .ok (.aload_n 0, 1) := by decide +kernel
theorem dX12_export_204 : decode cX12_export 204 = .ok (.getfield 7, 3) := by decide +kernel
theorem dX12_export_207 : decode cX12_export 207 = .ok (.iload 6, 2) := by decide +kernel
theorem dX12_export_209 : decode cX12_export 209 = .ok (.iaload, 1) := by decide +kernel
theorem dX12_export_210 : decode cX12_export 210 = .ok (.goto 4, 3) := by decide +kernel
theorem dX12_export_213 : decode cX12_export 213 = .ok (.iconst 0, 1) := by decide +kernel
theorem dX12_export_214 : decode cX12_export 214 = .ok (.iastore, 1) := by decide +kernel
theorem dX12_export_215 : decode cX12_export 215 = .ok (.iinc 6 1, 3) := by decide +kernel
theorem dX12_export_218 : decode cX12_export 218 = .ok (.goto (-43), 3) := by decide +kernel
theorem dX12_export_221 : decode cX12_export 221 = .ok (.aload_n 0, 1) := by decide +kernel
theorem dX12_export_222 : decode cX12_export 222 = .ok (.getfield 71, 3) := by decide +kernel
theorem dX12_export_225 : decode cX12_export 225 = .ok (.iload 5, 2) := by decide +kernel
theorem dX12_export_227 : decode cX12_export 227 = .ok (.iload_n 1, 1) := by decide +kernel
theorem dX12_export_228 : decode cX12_export 228 = .ok (.iastore, 1) := by decide +kernel
theorem dX12_export_229 : decode cX12_export 229 = .ok (.aload_n 0, 1) := by decide +kernel
theorem dX12_export_230 : decode cX12_export 230 = .ok (.dup, 1) := by decide +kernel
theorem dX12_export_231 : decode cX12_export 231 = .ok (.getfield 300, 3) := by decide +kernel
theorem dX12_export_234 : decode cX12_export 234 = .ok (.iconst 1, 1) := by decide +kernel
theorem dX12_export_235 : decode cX12_export 235 = .ok (.iadd, 1) := by decide +kernel
theorem dX12_export_236 : decode cX12_export 236 = .ok (.putfield 300, 3) := by decide +kernel
theorem dX12_export_239 : decode cX12_export 239 = .ok (.aload_n 0, 1) := by decide +kernel
theorem dX12_export_240 : decode cX12_export 240 = .ok (.getfield 74, 3) := by decide +kernel
theorem dX12_export_243 : decode cX12_export 243 = .ok (.iload 5, 2) := by decide +kernel
theorem dX12_export_245 : decode cX12_export 245 = .ok (.iload_n 2, 1) := by decide +kernel
theorem dX12_export_246 : decode cX12_export 246 = .ok (.iastore, 1) := by decide +kernel
theorem dX12_export_247 : decode cX12_export 247 = .ok (.iconst 1, 1) := by decide +kernel
theorem dX12_export_248 : decode cX12_export 248 = .ok (.ireturn, 1) := by decide +kernel
theorem dX12_isTaped_0 : decode cX12_isTaped 0 = .ok (.aload_n 0, 1) := by decide +kernel
theorem dX12_isTaped_1 : decode cX12_isTaped 1 = .ok (.iload_n 1, 1) := by decide +kernel
theorem dX12_isTaped_2 : decode cX12_isTaped 2 = .ok (.invokevirtual 241, 3) := by decide +kernel
theorem dX12_isTaped_5 : decode cX12_isTaped 5 = .ok (.iload_n 2, 1) := by decide +kernel
theorem dX12_isTaped_6 : decode cX12_isTaped 6 = .ok (.if_icmp .eq 5, 3) := by decide +kernel
theorem dX12_isTaped_9 : decode cX12_isTaped 9 = .ok (.iconst 0, 1) := by decide +kernel
theorem dX12_isTaped_10 : decode cX12_isTaped 10 = .ok (.ireturn, 1) := by decide +kernel
theorem dX12_isTaped_11 : decode cX12_isTaped 11 = .ok (.iconst 0, 1) := by decide +kernel
theorem dX12_isTaped_12 : decode cX12_isTaped 12 = .ok (.istore_n 3, 1) := by decide +kernel
theorem dX12_isTaped_13 : decode cX12_isTaped 13 = .ok (.iload_n 3, 1) := by decide +kernel
theorem dX12_isTaped_14 : decode cX12_isTaped 14 = .ok (.iload_n 2, 1) := by decide +kernel
theorem dX12_isTaped_15 : decode cX12_isTaped 15 = .ok (.if_icmp .ge 31, 3) := by decide +kernel
theorem dX12_isTaped_18 : decode cX12_isTaped 18 = .ok (.aload_n 0, 1) := by decide +kernel
theorem dX12_isTaped_19 : decode cX12_isTaped 19 = .ok (.getfield 13, 3) := by decide +kernel
theorem dX12_isTaped_22 : decode cX12_isTaped 22 = .ok (.bipush 16, 2) := by decide +kernel
theorem dX12_isTaped_24 : decode cX12_isTaped 24 = .ok (.iload_n 1, 1) := by decide +kernel
theorem dX12_isTaped_25 : decode cX12_isTaped 25 = .ok (.imul, 1) := by decide +kernel
theorem dX12_isTaped_26 : decode cX12_isTaped 26 = .ok (.iload_n 3, 1) := by decide +kernel
theorem dX12_isTaped_27 : decode cX12_isTaped 27 = .ok (.iadd, 1) := by decide +kernel
theorem dX12_isTaped_28 : decode cX12_isTaped 28 = .ok (.iaload, 1) := by decide +kernel
theorem dX12_isTaped_29 : decode cX12_isTaped 29 = .ok (.aload_n 0, 1) := by decide +kernel
theorem dX12_isTaped_30 : decode cX12_isTaped 30 = .ok (.getfield 7, 3) := by decide +kernel
theorem dX12_isTaped_33 : decode cX12_isTaped 33 = .ok (.iload_n 3, 1) := by decide +kernel
theorem dX12_isTaped_34 : decode cX12_isTaped 34 = .ok (.iaload, 1) := by decide +kernel
theorem dX12_isTaped_35 : decode cX12_isTaped 35 = .ok (.if_icmp .eq 5, 3) := by decide +kernel
theorem dX12_isTaped_38 : decode cX12_isTaped 38 = .ok (.iconst 0, 1) := by decide +kernel
theorem dX12_isTaped_39 : decode cX12_isTaped 39 = .ok (.ireturn, 1) := by decide +kernel
theorem dX12_isTaped_40 : decode cX12_isTaped 40 = .ok (.iinc 3 1, 3) := by decide +kernel
theorem dX12_isTaped_43 : decode cX12_isTaped 43 = .ok (.goto (-30), 3) := by decide +kernel
theorem dX12_isTaped_46 : decode cX12_isTaped 46 = .ok (.iconst 1, 1) := by decide +kernel
theorem dX12_isTaped_47 : decode cX12_isTaped 47 = .ok (.ireturn, 1) := by decide +kernel
theorem dX12_four_0 : decode cX12_four 0 = .ok (.lload_n 1, 1) := by decide +kernel
theorem dX12_four_1 : decode cX12_four 1 = .ok (.l2i, 1) := by decide +kernel
theorem dX12_four_2 : decode cX12_four 2 = .ok (.istore_n 3, 1) := by decide +kernel
theorem dX12_four_3 : decode cX12_four 3 = .ok (.aload_n 0, 1) := by decide +kernel
theorem dX12_four_4 : decode cX12_four 4 = .ok (.getfield 77, 3) := by decide +kernel
theorem dX12_four_7 : decode cX12_four 7 = .ok (.iload_n 3, 1) := by decide +kernel
theorem dX12_four_8 : decode cX12_four 8 = .ok (.iaload, 1) := by decide +kernel
theorem dX12_four_9 : decode cX12_four 9 = .ok (.aload_n 0, 1) := by decide +kernel
theorem dX12_four_10 : decode cX12_four 10 = .ok (.getfield 77, 3) := by decide +kernel
theorem dX12_four_13 : decode cX12_four 13 = .ok (.iload_n 3, 1) := by decide +kernel
theorem dX12_four_14 : decode cX12_four 14 = .ok (.iconst 1, 1) := by decide +kernel
theorem dX12_four_15 : decode cX12_four 15 = .ok (.iadd, 1) := by decide +kernel
theorem dX12_four_16 : decode cX12_four 16 = .ok (.iaload, 1) := by decide +kernel
theorem dX12_four_17 : decode cX12_four 17 = .ok (.bipush 8, 2) := by decide +kernel
theorem dX12_four_19 : decode cX12_four 19 = .ok (.ishl, 1) := by decide +kernel
theorem dX12_four_20 : decode cX12_four 20 = .ok (.ior, 1) := by decide +kernel
theorem dX12_four_21 : decode cX12_four 21 = .ok (.aload_n 0, 1) := by decide +kernel
theorem dX12_four_22 : decode cX12_four 22 = .ok (.getfield 77, 3) := by decide +kernel
theorem dX12_four_25 : decode cX12_four 25 = .ok (.iload_n 3, 1) := by decide +kernel
theorem dX12_four_26 : decode cX12_four 26 = .ok (.iconst 2, 1) := by decide +kernel
theorem dX12_four_27 : decode cX12_four 27 = .ok (.iadd, 1) := by decide +kernel
theorem dX12_four_28 : decode cX12_four 28 = .ok (.iaload, 1) := by decide +kernel
theorem dX12_four_29 : decode cX12_four 29 = .ok (.bipush 16, 2) := by decide +kernel
theorem dX12_four_31 : decode cX12_four 31 = .ok (.ishl, 1) := by decide +kernel
theorem dX12_four_32 : decode cX12_four 32 = .ok (.ior, 1) := by decide +kernel
theorem dX12_four_33 : decode cX12_four 33 = .ok (.i2l, 1) := by decide +kernel
theorem dX12_four_34 : decode cX12_four 34 = .ok (.aload_n 0, 1) := by decide +kernel
theorem dX12_four_35 : decode cX12_four 35 = .ok (.getfield 77, 3) := by decide +kernel
theorem dX12_four_38 : decode cX12_four 38 = .ok (.iload_n 3, 1) := by decide +kernel
theorem dX12_four_39 : decode cX12_four 39 = .ok (.iconst 3, 1) := by decide +kernel
theorem dX12_four_40 : decode cX12_four 40 = .ok (.iadd, 1) := by decide +kernel
theorem dX12_four_41 : decode cX12_four 41 = .ok (.iaload, 1) := by decide +kernel
theorem dX12_four_42 : decode cX12_four 42 = .ok (.i2l, 1) := by decide +kernel
theorem dX12_four_43 : decode cX12_four 43 = .ok (.bipush 24, 2) := by decide +kernel
theorem dX12_four_45 : decode cX12_four 45 = .ok (.lshl, 1) := by decide +kernel
theorem dX12_four_46 : decode cX12_four 46 = .ok (.lor, 1) := by decide +kernel
theorem dX12_four_47 : decode cX12_four 47 = .ok (.lreturn, 1) := by decide +kernel
theorem dX12_two_0 : decode cX12_two 0 = .ok (.aload_n 0, 1) := by decide +kernel
theorem dX12_two_1 : decode cX12_two 1 = .ok (.getfield 77, 3) := by decide +kernel
theorem dX12_two_4 : decode cX12_two 4 = .ok (.lload_n 1, 1) := by decide +kernel
theorem dX12_two_5 : decode cX12_two 5 = .ok (.l2i, 1) := by decide +kernel
theorem dX12_two_6 : decode cX12_two 6 = .ok (.iaload, 1) := by decide +kernel
theorem dX12_two_7 : decode cX12_two 7 = .ok (.aload_n 0, 1) := by decide +kernel
theorem dX12_two_8 : decode cX12_two 8 = .ok (.getfield 77, 3) := by decide +kernel
theorem dX12_two_11 : decode cX12_two 11 = .ok (.lload_n 1, 1) := by decide +kernel
theorem dX12_two_12 : decode cX12_two 12 = .ok (.l2i, 1) := by decide +kernel
theorem dX12_two_13 : decode cX12_two 13 = .ok (.iconst 1, 1) := by decide +kernel
theorem dX12_two_14 : decode cX12_two 14 = .ok (.iadd, 1) := by decide +kernel
theorem dX12_two_15 : decode cX12_two 15 = .ok (.iaload, 1) := by decide +kernel
theorem dX12_two_16 : decode cX12_two 16 = .ok (.bipush 8, 2) := by decide +kernel
theorem dX12_two_18 : decode cX12_two 18 = .ok (.ishl, 1) := by decide +kernel
theorem dX12_two_19 : decode cX12_two 19 = .ok (.ior, 1) := by decide +kernel
theorem dX12_two_20 : decode cX12_two 20 = .ok (.ireturn, 1) := by decide +kernel
theorem dX12_eight_0 : decode cX12_eight 0 = .ok (.aload_n 0, 1) := by decide +kernel
theorem dX12_eight_1 : decode cX12_eight 1 = .ok (.lload_n 1, 1) := by decide +kernel
theorem dX12_eight_2 : decode cX12_eight 2 = .ok (.invokevirtual 307, 3) := by decide +kernel
theorem dX12_eight_5 : decode cX12_eight 5 = .ok (.aload_n 0, 1) := by decide +kernel
theorem dX12_eight_6 : decode cX12_eight 6 = .ok (.lload_n 1, 1) := by decide +kernel
theorem dX12_eight_7 : decode cX12_eight 7 = .ok (.ldc2_w 311, 3) := by decide +kernel
theorem dX12_eight_10 : decode cX12_eight 10 = .ok (.ladd, 1) := by decide +kernel
theorem dX12_eight_11 : decode cX12_eight 11 = .ok (.invokevirtual 307, 3) := by decide +kernel
theorem dX12_eight_14 : decode cX12_eight 14 = .ok (.bipush 32, 2) := by decide +kernel
theorem dX12_eight_16 : decode cX12_eight 16 = .ok (.lshl, 1) := by decide +kernel
theorem dX12_eight_17 : decode cX12_eight 17 = .ok (.lor, 1) := by decide +kernel
theorem dX12_eight_18 : decode cX12_eight 18 = .ok (.lreturn, 1) := by decide +kernel
theorem dX12_bad_0 : decode cX12_bad 0 = .ok (.aload_n 0, 1) := by decide +kernel
theorem dX12_bad_1 : decode cX12_bad 1 = .ok (.iload_n 1, 1) := by decide +kernel
theorem dX12_bad_2 : decode cX12_bad 2 = .ok (.putfield 313, 3) := by decide +kernel
theorem dX12_bad_5 : decode cX12_bad 5 = .ok (.aload_n 0, 1) := by decide +kernel
theorem dX12_bad_6 : decode cX12_bad 6 = .ok (.lload_n 2, 1) := by decide +kernel
theorem dX12_bad_7 : decode cX12_bad 7 = .ok (.putfield 88, 3) := by decide +kernel
theorem dX12_bad_10 : decode cX12_bad 10 = .ok (.iconst 0, 1) := by decide +kernel
theorem dX12_bad_11 : decode cX12_bad 11 = .ok (.ireturn, 1) := by decide +kernel
theorem dX12_isNumber_0 : decode cX12_isNumber 0 = .ok (.aload_n 0, 1) := by decide +kernel
theorem dX12_isNumber_1 : decode cX12_isNumber 1 = .ok (.lload_n 1, 1) := by decide +kernel
theorem dX12_isNumber_2 : decode cX12_isNumber 2 = .ok (.invokevirtual 316, 3) := by decide +kernel
theorem dX12_isNumber_5 : decode cX12_isNumber 5 = .ok (.lstore_n 3, 1) := by decide +kernel
theorem dX12_isNumber_6 : decode cX12_isNumber 6 = .ok (.lload_n 3, 1) := by decide +kernel
theorem dX12_isNumber_7 : decode cX12_isNumber 7 = .ok (.lconst 0, 1) := by decide +kernel
theorem dX12_isNumber_8 : decode cX12_isNumber 8 = .ok (.lcmp, 1) := by decide +kernel
theorem dX12_isNumber_9 : decode cX12_isNumber 9 = .ok (.ifCond .lt 11, 3) := by decide +kernel
theorem dX12_isNumber_12 : decode cX12_isNumber 12 = .ok (.lload_n 3, 1) := by decide +kernel
theorem dX12_isNumber_13 : decode cX12_isNumber 13 = .ok (.ldc2_w 319, 3) := by decide +kernel
theorem dX12_isNumber_16 : decode cX12_isNumber 16 = .ok (.lcmp, 1) := by decide +kernel
theorem dX12_isNumber_17 : decode cX12_isNumber 17 = .ok (.ifCond .le 12, 3) := by decide +kernel
theorem dX12_isNumber_20 : decode cX12_isNumber 20 = .ok (.aload_n 0, 1) := by decide +kernel
theorem dX12_isNumber_21 : decode cX12_isNumber 21 = .ok (.iconst 5, 1) := by decide +kernel
theorem dX12_isNumber_22 : decode cX12_isNumber 22 = .ok (.lload_n 1, 1) := by decide +kernel
theorem dX12_isNumber_23 : decode cX12_isNumber 23 = .ok (.invokevirtual 321, 3) := by decide +kernel
theorem dX12_isNumber_26 : decode cX12_isNumber 26 = .ok (.ifCond .eq 7, 3) := by decide +kernel
theorem dX12_isNumber_29 : decode cX12_isNumber 29 = .ok (.iconst 1, 1) := by decide +kernel
theorem dX12_isNumber_30 : decode cX12_isNumber 30 = .ok (.goto 4, 3) := by decide +kernel
theorem dX12_isNumber_33 : decode cX12_isNumber 33 = .ok (.iconst 0, 1) := by decide +kernel
theorem dX12_isNumber_34 : decode cX12_isNumber 34 = .ok (.ireturn, 1) := by decide +kernel
theorem dX12_load_0 : decode cX12_load 0 = .ok (.aload_n 0, 1) := by decide +kernel
theorem dX12_load_1 : decode cX12_load 1 = .ok (.iconst 0, 1) := by decide +kernel
theorem dX12_load_2 : decode cX12_load 2 = .ok (.putfield 149, 3) := by decide +kernel
theorem dX12_load_5 : decode cX12_load 5 = .ok (.aload_n 0, 1) := by decide +kernel
theorem dX12_load_6 : decode cX12_load 6 = .ok (.iconst 0, 1) := by decide +kernel
theorem dX12_load_7 : decode cX12_load 7 = .ok (.putfield 313, 3) := by decide +kernel
theorem dX12_load_10 : decode cX12_load 10 = .ok (.aload_n 0, 1) := by decide +kernel
theorem dX12_load_11 : decode cX12_load 11 = .ok (.ldc2_w 86, 3) := by decide +kernel
theorem dX12_load_14 : decode cX12_load 14 = .ok (.putfield 88, 3) := by decide +kernel
theorem dX12_load_17 : decode cX12_load 17 = .ok (.aload_n 0, 1) := by decide +kernel
theorem dX12_load_18 : decode cX12_load 18 = .ok (.invokevirtual 325, 3) := by decide +kernel
theorem dX12_load_21 : decode cX12_load 21 = .ok (.ifCond .eq 31, 3) := by decide +kernel
theorem dX12_load_24 : decode cX12_load 24 = .ok (.aload_n 0, 1) := by decide +kernel
theorem dX12_load_25 : decode cX12_load 25 = .ok (.invokevirtual 329, 3) := by decide +kernel
theorem dX12_load_28 : decode cX12_load 28 = .ok (.ifCond .eq 24, 3) := by decide +kernel
theorem dX12_load_31 : decode cX12_load 31 = .ok (.aload_n 0, 1) := by decide +kernel
theorem dX12_load_32 : decode cX12_load 32 = .ok (.iload_n 1, 1) := by decide +kernel
theorem dX12_load_33 : decode cX12_load 33 = .ok (.invokevirtual 332, 3) := by decide +kernel
theorem dX12_load_36 : decode cX12_load 36 = .ok (.ifCond .eq 16, 3) := by decide +kernel
theorem dX12_load_39 : decode cX12_load 39 = .ok (.aload_n 0, 1) := by decide +kernel
theorem dX12_load_40 : decode cX12_load 40 = .ok (.iload_n 1, 1) := by decide +kernel
theorem dX12_load_41 : decode cX12_load 41 = .ok (.invokevirtual 335, 3) := by decide +kernel
theorem dX12_load_44 : decode cX12_load 44 = .ok (.ifCond .eq 8, 3) := by decide +kernel
theorem dX12_load_47 : decode cX12_load 47 = .ok (.aload_n 0, 1) := by decide +kernel
theorem dX12_load_48 : decode cX12_load 48 = .ok (.iload_n 1, 1) := by decide +kernel
theorem dX12_load_49 : decode cX12_load 49 = .ok (.invokevirtual 338, 3) := by decide +kernel
theorem dX12_load_52 : decode cX12_load 52 = .ok (.aload_n 0, 1) := by decide +kernel
theorem dX12_load_53 : decode cX12_load 53 = .ok (.getfield 313, 3) := by decide +kernel
theorem dX12_load_56 : decode cX12_load 56 = .ok (.ireturn, 1) := by decide +kernel
theorem dX12_reads_0 : decode cX12_reads 0 = .ok (.aload_n 0, 1) := by decide +kernel
theorem dX12_reads_1 : decode cX12_reads 1 = .ok (.iconst 0, 1) := by decide +kernel
theorem dX12_reads_2 : decode cX12_reads 2 = .ok (.putfield 341, 3) := by decide +kernel
theorem dX12_reads_5 : decode cX12_reads 5 = .ok (.aload_n 0, 1) := by decide +kernel
theorem dX12_reads_6 : decode cX12_reads 6 = .ok (.iconst 0, 1) := by decide +kernel
theorem dX12_reads_7 : decode cX12_reads 7 = .ok (.putfield 344, 3) := by decide +kernel
theorem dX12_reads_10 : decode cX12_reads 10 = .ok (.aload_n 0, 1) := by decide +kernel
theorem dX12_reads_11 : decode cX12_reads 11 = .ok (.iconst 0, 1) := by decide +kernel
theorem dX12_reads_12 : decode cX12_reads 12 = .ok (.putfield 347, 3) := by decide +kernel
theorem dX12_reads_15 : decode cX12_reads 15 = .ok (.aload_n 0, 1) := by decide +kernel
theorem dX12_reads_16 : decode cX12_reads 16 = .ok (.iconst 0, 1) := by decide +kernel
theorem dX12_reads_17 : decode cX12_reads 17 = .ok (.putfield 350, 3) := by decide +kernel
theorem dX12_reads_20 : decode cX12_reads 20 = .ok (.aload_n 0, 1) := by decide +kernel
theorem dX12_reads_21 : decode cX12_reads 21 = .ok (.iconst 0, 1) := by decide +kernel
theorem dX12_reads_22 : decode cX12_reads 22 = .ok (.putfield 354, 3) := by decide +kernel
theorem dX12_reads_25 : decode cX12_reads 25 = .ok (.aload_n 0, 1) := by decide +kernel
theorem dX12_reads_26 : decode cX12_reads 26 = .ok (.getfield 253, 3) := by decide +kernel
theorem dX12_reads_29 : decode cX12_reads 29 = .ok (.bipush 32, 2) := by decide +kernel
theorem dX12_reads_31 : decode cX12_reads 31 = .ok (.if_icmp .ge 14, 3) := by decide +kernel
theorem dX12_reads_34 : decode cX12_reads 34 = .ok (.aload_n 0, 1) := by decide +kernel
theorem dX12_reads_35 : decode cX12_reads 35 = .ok (.iconst 1, 1) := by decide +kernel
theorem dX12_reads_36 : decode cX12_reads 36 = .ok (.aload_n 0, 1) := by decide +kernel
theorem dX12_reads_37 : decode cX12_reads 37 = .ok (.getfield 253, 3) := by decide +kernel
theorem dX12_reads_40 : decode cX12_reads 40 = .ok (.i2l, 1) := by decide +kernel
theorem dX12_reads_41 : decode cX12_reads 41 = .ok (.invokevirtual 321, 3) := by decide +kernel
theorem dX12_reads_44 : decode cX12_reads 44 = .ok (.ireturn, 1) := by decide +kernel
theorem dX12_reads_45 : decode cX12_reads 45 = .ok (.aload_n 0, 1) := by decide +kernel
theorem dX12_reads_46 : decode cX12_reads 46 = .ok (.lconst 0, 1) := by decide +kernel
theorem dX12_reads_47 : decode cX12_reads 47 = .ok (.invokevirtual 307, 3) := by decide +kernel
theorem dX12_reads_50 : decode cX12_reads 50 = .ok (.ldc2_w 282, 3) := by decide +kernel
theorem dX12_reads_53 : decode cX12_reads 53 = .ok (.lcmp, 1) := by decide +kernel
theorem dX12_reads_54 : decode cX12_reads 54 = .ok (.ifCond .eq 10, 3) := by decide +kernel
theorem dX12_reads_57 : decode cX12_reads 57 = .ok (.aload_n 0, 1) := by decide +kernel
theorem dX12_reads_58 : decode cX12_reads 58 = .ok (.iconst 2, 1) := by decide +kernel
theorem dX12_reads_59 : decode cX12_reads 59 = .ok (.lconst 0, 1) := by decide +kernel
theorem dX12_reads_60 : decode cX12_reads 60 = .ok (.invokevirtual 321, 3) := by decide +kernel
theorem dX12_reads_63 : decode cX12_reads 63 = .ok (.ireturn, 1) := by decide +kernel
theorem dX12_reads_64 : decode cX12_reads 64 = .ok (.aload_n 0, 1) := by decide +kernel
theorem dX12_reads_65 : decode cX12_reads 65 = .ok (.ldc2_w 298, 3) := by decide +kernel
theorem dX12_reads_68 : decode cX12_reads 68 = .ok (.invokevirtual 307, 3) := by decide +kernel
theorem dX12_reads_71 : decode cX12_reads 71 = .ok (.lstore_n 1, 1) := by decide +kernel
theorem dX12_reads_72 : decode cX12_reads 72 = .ok (.lload_n 1, 1) := by decide +kernel
theorem dX12_reads_73 : decode cX12_reads 73 = .ok (.ldc2_w 298, 3) := by decide +kernel
theorem dX12_reads_76 : decode cX12_reads 76 = .ok (.lcmp, 1) := by decide +kernel
theorem dX12_reads_77 : decode cX12_reads 77 = .ok (.ifCond .le 12, 3) := by decide +kernel
theorem dX12_reads_80 : decode cX12_reads 80 = .ok (.aload_n 0, 1) := by decide +kernel
theorem dX12_reads_81 : decode cX12_reads 81 = .ok (.iconst 3, 1) := by decide +kernel
theorem dX12_reads_82 : decode cX12_reads 82 = .ok (.ldc2_w 298, 3) := by decide +kernel
theorem dX12_reads_85 : decode cX12_reads 85 = .ok (.invokevirtual 321, 3) := by decide +kernel
theorem dX12_reads_88 : decode cX12_reads 88 = .ok (.ireturn, 1) := by decide +kernel
theorem dX12_reads_89 : decode cX12_reads 89 = .ok (.ldc2_w 357, 3) := by decide +kernel
theorem dX12_reads_92 : decode cX12_reads 92 = .ok (.aload_n 0, 1) := by decide +kernel
theorem dX12_reads_93 : decode cX12_reads 93 = .ok (.ldc2_w 359, 3) := by decide +kernel
theorem dX12_reads_96 : decode cX12_reads 96 = .ok (.invokevirtual 307, 3) := by decide +kernel
theorem dX12_reads_99 : decode cX12_reads 99 = .ok (.ladd, 1) := by decide +kernel
theorem dX12_reads_100 : decode cX12_reads 100 = .ok (.lstore_n 3, 1) := by decide +kernel
theorem dX12_reads_101 : decode cX12_reads 101 = .ok (.lload_n 3, 1) := by decide +kernel
theorem dX12_reads_102 : decode cX12_reads 102 = .ok (.aload_n 0, 1) := by decide +kernel
theorem dX12_reads_103 : decode cX12_reads 103 = .ok (.getfield 253, 3) := by decide +kernel
theorem dX12_reads_106 : decode cX12_reads 106 = .ok (.i2l, 1) := by decide +kernel
theorem dX12_reads_107 : decode cX12_reads 107 = .ok (.lcmp, 1) := by decide +kernel
theorem dX12_reads_108 : decode cX12_reads 108 = .ok (.ifCond .le 12, 3) := by decide +kernel
theorem dX12_reads_111 : decode cX12_reads 111 = .ok (.aload_n 0, 1) := by decide +kernel
theorem dX12_reads_112 : decode cX12_reads 112 = .ok (.iconst 1, 1) := by decide +kernel
theorem dX12_reads_113 : decode cX12_reads 113 = .ok (.ldc2_w 359, 3) := by decide +kernel
theorem dX12_reads_116 : decode cX12_reads 116 = .ok (.invokevirtual 321, 3) := by decide +kernel
theorem dX12_reads_119 : decode cX12_reads 119 = .ok (.ireturn, 1) := by decide +kernel
theorem dX12_reads_120 : decode cX12_reads 120 = .ok (.ldc2_w 357, 3) := by decide +kernel
theorem dX12_reads_123 : decode cX12_reads 123 = .ok (.lstore 5, 2) := by decide +kernel
theorem dX12_reads_125 : decode cX12_reads 125 = .ok (.iconst 0, 1) := by decide +kernel
theorem dX12_reads_126 : decode cX12_reads 126 = .ok (.istore 7, 2) := by decide +kernel
theorem dX12_reads_128 : decode cX12_reads 128 = .ok (.iload 7, 2) := by decide +kernel
theorem dX12_reads_130 : decode cX12_reads 130 = .ok (.i2l, 1) := by decide +kernel
theorem dX12_reads_131 : decode cX12_reads 131 = .ok (.lload_n 1, 1) := by decide +kernel
theorem dX12_reads_132 : decode cX12_reads 132 = .ok (.lcmp, 1) := by decide +kernel
theorem dX12_reads_133 : decode cX12_reads 133 = .ok (.ifCond .ge 191, 3) := by decide +kernel
theorem dX12_reads_136 : decode cX12_reads 136 = .ok (.lload_n 3, 1) := by decide +kernel
theorem dX12_reads_137 : decode cX12_reads 137 = .ok (.lload 5, 2) := by decide +kernel
theorem dX12_reads_139 : decode cX12_reads 139 = .ok (.lsub, 1) := by decide +kernel
theorem dX12_reads_140 : decode cX12_reads 140 = .ok (.ldc2_w 361, 3) := by decide +kernel
theorem dX12_reads_143 : decode cX12_reads 143 = .ok (.lcmp, 1) := by decide +kernel
theorem dX12_reads_144 : decode cX12_reads 144 = .ok (.ifCond .ge 11, 3) := by decide +kernel
theorem dX12_reads_147 : decode cX12_reads 147 = .ok (.aload_n 0, 1) := by decide +kernel
theorem dX12_reads_148 : decode cX12_reads 148 = .ok (.iconst 3, 1) := by decide +kernel
theorem dX12_reads_149 : decode cX12_reads 149 = .ok (.lload 5, 2) := by decide +kernel
theorem dX12_reads_151 : decode cX12_reads 151 = .ok (.invokevirtual 321, 3) := by decide +kernel
theorem dX12_reads_154 : decode cX12_reads 154 = .ok (.ireturn, 1) := by decide +kernel
theorem dX12_reads_155 : decode cX12_reads 155 = .ok (.aload_n 0, 1) := by decide +kernel
theorem dX12_reads_156 : decode cX12_reads 156 = .ok (.lload 5, 2) := by decide +kernel
theorem dX12_reads_158 : decode cX12_reads 158 = .ok (.ldc2_w 311, 3) := by decide +kernel
theorem dX12_reads_161 : decode cX12_reads 161 = .ok (.ladd, 1) := by decide +kernel
theorem dX12_reads_162 : decode cX12_reads 162 = .ok (.invokevirtual 307, 3) := by decide +kernel
theorem dX12_reads_165 : decode cX12_reads 165 = .ok (.lstore 8, 2) := by decide +kernel
theorem dX12_reads_167 : decode cX12_reads 167 = .ok (.lload 8, 2) := by decide +kernel
theorem dX12_reads_169 : decode cX12_reads 169 = .ok (.ldc2_w 361, 3) := by decide +kernel
theorem dX12_reads_172 : decode cX12_reads 172 = .ok (.lcmp, 1) := by decide +kernel
theorem dX12_reads_173 : decode cX12_reads 173 = .ok (.ifCond .lt 24, 3) := by decide +kernel
theorem dX12_reads_176 : decode cX12_reads 176 = .ok (.lload 8, 2) := by decide +kernel
theorem dX12_reads_178 : decode cX12_reads 178 = .ok (.ldc2_w 361, 3) := by decide +kernel
theorem dX12_reads_181 : decode cX12_reads 181 = .ok (.lrem, 1) := by decide +kernel
theorem dX12_reads_182 : decode cX12_reads 182 = .ok (.lconst 0, 1) := by decide +kernel
theorem dX12_reads_183 : decode cX12_reads 183 = .ok (.lcmp, 1) := by decide +kernel
theorem dX12_reads_184 : decode cX12_reads 184 = .ok (.ifCond .ne 13, 3) := by decide +kernel
theorem dX12_reads_187 : decode cX12_reads 187 = .ok (.lload 8, 2) := by decide +kernel
theorem dX12_reads_189 : decode cX12_reads 189 = .ok (.lload_n 3, 1) := by decide +kernel
theorem dX12_reads_190 : decode cX12_reads 190 = .ok (.lload 5, 2) := by decide +kernel
theorem dX12_reads_192 : decode cX12_reads 192 = .ok (.lsub, 1) := by decide +kernel
theorem dX12_reads_193 : decode cX12_reads 193 = .ok (.lcmp, 1) := by decide +kernel
theorem dX12_reads_194 : decode cX12_reads 194 = .ok (.ifCond .le 15, 3) := by decide +kernel
theorem dX12_reads_197 : decode cX12_reads 197 = .ok (.aload_n 0, 1) := by decide +kernel
theorem dX12_reads_198 : decode cX12_reads 198 = .ok (.iconst 3, 1) := by decide +kernel
theorem dX12_reads_199 : decode cX12_reads 199 = .ok (.lload 5, 2) := by decide +kernel
theorem dX12_reads_201 : decode cX12_reads 201 = .ok (.ldc2_w 311, 3) := by decide +kernel
theorem dX12_reads_204 : decode cX12_reads 204 = .ok (.ladd, 1) := by decide +kernel
theorem dX12_reads_205 : decode cX12_reads 205 = .ok (.invokevirtual 321, 3) := by decide +kernel
theorem dX12_reads_208 : decode cX12_reads 208 = .ok (.ireturn, 1) := by decide +kernel
theorem dX12_reads_209 : decode cX12_reads 209 = .ok (.aload_n 0, 1) := by decide +kernel
theorem dX12_reads_210 : decode cX12_reads 210 = .ok (.lload 5, 2) := by decide +kernel
theorem dX12_reads_212 : decode cX12_reads 212 = .ok (.invokevirtual 307, 3) := by decide +kernel
theorem dX12_reads_215 : decode cX12_reads 215 = .ok (.lstore 10, 2) := by decide +kernel
theorem dX12_reads_217 : decode cX12_reads 217 = .ok (.iconst 1, 1) := by decide +kernel
theorem dX12_reads_218 : decode cX12_reads 218 = .ok (.istore 12, 2) := by decide +kernel
theorem dX12_reads_220 : decode cX12_reads 220 = .ok (.lload 10, 2) := by decide +kernel
theorem dX12_reads_222 : decode cX12_reads 222 = .ok (.ldc2_w 290, 3) := by decide +kernel
theorem dX12_reads_225 : decode cX12_reads 225 = .ok (.lcmp, 1) := by decide +kernel
theorem dX12_reads_226 : decode cX12_reads 226 = .ok (.ifCond .ne 16, 3) := by decide +kernel
theorem dX12_reads_229 : decode cX12_reads 229 = .ok (.aload_n 0, 1) := by decide +kernel
theorem dX12_reads_230 : decode cX12_reads 230 = .ok (.lload 5, 2) := by decide +kernel
theorem dX12_reads_232 : decode cX12_reads 232 = .ok (.lload 8, 2) := by decide +kernel
theorem dX12_reads_234 : decode cX12_reads 234 = .ok (.invokevirtual 363, 3) := by decide +kernel
theorem dX12_reads_237 : decode cX12_reads 237 = .ok (.istore 12, 2) := by decide +kernel
theorem dX12_reads_239 : decode cX12_reads 239 = .ok (.goto 65, 3) := by decide +kernel
theorem dX12_reads_242 : decode cX12_reads 242 = .ok (.lload 10, 2) := by decide +kernel
theorem dX12_reads_244 : decode cX12_reads 244 = .ok (.ldc2_w 270, 3) := by decide +kernel
theorem dX12_reads_247 : decode cX12_reads 247 = .ok (.lcmp, 1) := by decide +kernel
theorem dX12_reads_248 : decode cX12_reads 248 = .ok (.ifCond .ne 16, 3) := by decide +kernel
theorem dX12_reads_251 : decode cX12_reads 251 = .ok (.aload_n 0, 1) := by decide +kernel
theorem dX12_reads_252 : decode cX12_reads 252 = .ok (.lload 5, 2) := by decide +kernel
theorem dX12_reads_254 : decode cX12_reads 254 = .ok (.lload 8, 2) := by decide +kernel
theorem dX12_reads_256 : decode cX12_reads 256 = .ok (.invokevirtual 367, 3) := by decide +kernel
theorem dX12_reads_259 : decode cX12_reads 259 = .ok (.istore 12, 2) := by decide +kernel
theorem dX12_reads_261 : decode cX12_reads 261 = .ok (.goto 43, 3) := by decide +kernel
theorem dX12_reads_264 : decode cX12_reads 264 = .ok (.lload 10, 2) := by decide +kernel
theorem dX12_reads_266 : decode cX12_reads 266 = .ok (.ldc2_w 296, 3) := by decide +kernel
theorem dX12_reads_269 : decode cX12_reads 269 = .ok (.lcmp, 1) := by decide +kernel
theorem dX12_reads_270 : decode cX12_reads 270 = .ok (.ifCond .ne 16, 3) := by decide +kernel
theorem dX12_reads_273 : decode cX12_reads 273 = .ok (.aload_n 0, 1) := by decide +kernel
theorem dX12_reads_274 : decode cX12_reads 274 = .ok (.lload 5, 2) := by decide +kernel
theorem dX12_reads_276 : decode cX12_reads 276 = .ok (.lload 8, 2) := by decide +kernel
theorem dX12_reads_278 : decode cX12_reads 278 = .ok (.invokevirtual 370, 3) := by decide +kernel
theorem dX12_reads_281 : decode cX12_reads 281 = .ok (.istore 12, 2) := by decide +kernel
theorem dX12_reads_283 : decode cX12_reads 283 = .ok (.goto 21, 3) := by decide +kernel
theorem dX12_reads_286 : decode cX12_reads 286 = .ok (.lload 10, 2) := by decide +kernel
theorem dX12_reads_288 : decode cX12_reads 288 = .ok (.ldc2_w 373, 3) := by decide +kernel
theorem dX12_reads_291 : decode cX12_reads 291 = .ok (.lcmp, 1) := by decide +kernel
theorem dX12_reads_292 : decode cX12_reads 292 = .ok (.ifCond .lt 12, 3) := by decide +kernel
theorem dX12_reads_295 : decode cX12_reads 295 = .ok (.aload_n 0, 1) := by decide +kernel
theorem dX12_reads_296 : decode cX12_reads 296 = .ok (.iconst 4, 1) := by decide +kernel
theorem dX12_reads_297 : decode cX12_reads 297 = .ok (.lload 5, 2) := by decide +kernel
theorem dX12_reads_299 : decode cX12_reads 299 = .ok (.invokevirtual 321, 3) := by decide +kernel
theorem dX12_reads_302 : decode cX12_reads 302 = .ok (.istore 12, 2) := by decide +kernel
theorem dX12_reads_304 : decode cX12_reads 304 = .ok (.iload 12, 2) := by decide +kernel
theorem dX12_reads_306 : decode cX12_reads 306 = .ok (.ifCond .ne 5, 3) := by decide +kernel
theorem dX12_reads_309 : decode cX12_reads 309 = .ok (.iconst 0, 1) := by decide +kernel
theorem dX12_reads_310 : decode cX12_reads 310 = .ok (.ireturn, 1) := by decide +kernel
theorem dX12_reads_311 : decode cX12_reads 311 = .ok (.lload 5, 2) := by decide +kernel
theorem dX12_reads_313 : decode cX12_reads 313 = .ok (.lload 8, 2) := by decide +kernel
theorem dX12_reads_315 : decode cX12_reads 315 = .ok (.ladd, 1) := by decide +kernel
theorem dX12_reads_316 : decode cX12_reads 316 = .ok (.lstore 5, 2) := by decide +kernel
theorem dX12_reads_318 : decode cX12_reads 318 = .ok (.iinc 7 1, 3) := by decide +kernel
theorem dX12_reads_321 : decode cX12_reads 321 = .ok (.goto (-193), 3) := by decide +kernel
theorem dX12_reads_324 : decode cX12_reads 324 = .ok (.lload 5, 2) := by decide +kernel
theorem dX12_reads_326 : decode cX12_reads 326 = .ok (.lload_n 3, 1) := by decide +kernel
theorem dX12_reads_327 : decode cX12_reads 327 = .ok (.lcmp, 1) := by decide +kernel
theorem dX12_reads_328 : decode cX12_reads 328 = .ok (.ifCond .eq 13, 3) := by decide +kernel
theorem dX12_reads_331 : decode cX12_reads 331 = .ok (.aload_n 0, 1) := by decide +kernel
theorem dX12_reads_332 : decode cX12_reads 332 = .ok (.iconst 3, 1) := by decide +kernel
theorem dX12_reads_333 : decode cX12_reads 333 = .ok (.lload 5, 2) := by decide +kernel
theorem dX12_reads_335 : decode cX12_reads 335 = .ok (.invokevirtual 321, 3) := by decide +kernel
theorem dX12_reads_338 : decode cX12_reads 338 = .ok (.ifCond .eq 7, 3) := by decide +kernel
theorem dX12_reads_341 : decode cX12_reads 341 = .ok (.iconst 1, 1) := by decide +kernel
theorem dX12_reads_342 : decode cX12_reads 342 = .ok (.goto 4, 3) := by decide +kernel
theorem dX12_reads_345 : decode cX12_reads 345 = .ok (.iconst 0, 1) := by decide +kernel
theorem dX12_reads_346 : decode cX12_reads 346 = .ok (.ireturn, 1) := by decide +kernel
theorem dX12_readSegment_0 : decode cX12_readSegment 0 = .ok (.aload_n 0, 1) := by decide +kernel
theorem dX12_readSegment_1 : decode cX12_readSegment 1 = .ok (.getfield 341, 3) := by decide +kernel
theorem dX12_readSegment_4 : decode cX12_readSegment 4 = .ok (.iconst 4, 1) := by decide +kernel
theorem dX12_readSegment_5 : decode cX12_readSegment 5 = .ok (.if_icmp .ne 10, 3) := by decide +kernel
theorem dX12_readSegment_8 : decode cX12_readSegment 8 = .ok (.aload_n 0, 1) := by decide +kernel
theorem dX12_readSegment_9 : decode cX12_readSegment 9 = .ok (.iconst 3, 1) := by decide +kernel
theorem dX12_readSegment_10 : decode cX12_readSegment 10 = .ok (.lload_n 1, 1) := by decide +kernel
theorem dX12_readSegment_11 : decode cX12_readSegment 11 = .ok (.invokevirtual 321, 3) := by decide +kernel
theorem dX12_readSegment_14 : decode cX12_readSegment 14 = .ok (.ireturn, 1) := by decide +kernel
theorem dX12_readSegment_15 : decode cX12_readSegment 15 = .ok (.lload_n 3, 1) := by decide +kernel
theorem dX12_readSegment_16 : decode cX12_readSegment 16 = .ok (.ldc2_w 375, 3) := by decide +kernel
theorem dX12_readSegment_19 : decode cX12_readSegment 19 = .ok (.lcmp, 1) := by decide +kernel
theorem dX12_readSegment_20 : decode cX12_readSegment 20 = .ok (.ifCond .lt 25, 3) := by decide +kernel
theorem dX12_readSegment_23 : decode cX12_readSegment 23 = .ok (.lload_n 3, 1) := by decide +kernel
theorem dX12_readSegment_24 : decode cX12_readSegment 24 = .ok (.ldc2_w 375, 3) := by decide +kernel
theorem dX12_readSegment_27 : decode cX12_readSegment 27 = .ok (.ldc2_w 377, 3) := by decide +kernel
theorem dX12_readSegment_30 : decode cX12_readSegment 30 = .ok (.aload_n 0, 1) := by decide +kernel
theorem dX12_readSegment_31 : decode cX12_readSegment 31 = .ok (.lload_n 1, 1) := by decide +kernel
theorem dX12_readSegment_32 : decode cX12_readSegment 32 = .ok (.ldc2_w 379, 3) := by decide +kernel
theorem dX12_readSegment_35 : decode cX12_readSegment 35 = .ok (.ladd, 1) := by decide +kernel
theorem dX12_readSegment_36 : decode cX12_readSegment 36 = .ok (.invokevirtual 307, 3) := by decide +kernel
theorem dX12_readSegment_39 : decode cX12_readSegment 39 = .ok (.lmul, 1) := by decide +kernel
theorem dX12_readSegment_40 : decode cX12_readSegment 40 = .ok (.ladd, 1) := by decide +kernel
theorem dX12_readSegment_41 : decode cX12_readSegment 41 = .ok (.lcmp, 1) := by decide +kernel
theorem dX12_readSegment_42 : decode cX12_readSegment 42 = .ok (.ifCond .eq 14, 3) := by decide +kernel
theorem dX12_readSegment_45 : decode cX12_readSegment 45 = .ok (.aload_n 0, 1) := by decide +kernel
theorem dX12_readSegment_46 : decode cX12_readSegment 46 = .ok (.iconst 3, 1) := by decide +kernel
theorem dX12_readSegment_47 : decode cX12_readSegment 47 = .ok (.lload_n 1, 1) := by decide +kernel
theorem dX12_readSegment_48 : decode cX12_readSegment 48 = .ok (.ldc2_w 311, 3) := by decide +kernel
theorem dX12_readSegment_51 : decode cX12_readSegment 51 = .ok (.ladd, 1) := by decide +kernel
theorem dX12_readSegment_52 : decode cX12_readSegment 52 = .ok (.invokevirtual 321, 3) := by decide +kernel
theorem dX12_readSegment_55 : decode cX12_readSegment 55 = .ok (.ireturn, 1) := by decide +kernel
theorem dX12_readSegment_56 : decode cX12_readSegment 56 = .ok (.bipush 24, 2) := by decide +kernel
theorem dX12_readSegment_58 : decode cX12_readSegment 58 = .ok (.istore 5, 2) := by decide +kernel
theorem dX12_readSegment_60 : decode cX12_readSegment 60 = .ok (.iload 5, 2) := by decide +kernel
theorem dX12_readSegment_62 : decode cX12_readSegment 62 = .ok (.bipush 48, 2) := by decide +kernel
theorem dX12_readSegment_64 : decode cX12_readSegment 64 = .ok (.if_icmp .gt 23, 3) := by decide +kernel
theorem dX12_readSegment_67 : decode cX12_readSegment 67 = .ok (.aload_n 0, 1) := by decide +kernel
theorem dX12_readSegment_68 : decode cX12_readSegment 68 = .ok (.lload_n 1, 1) := by decide +kernel
theorem dX12_readSegment_69 : decode cX12_readSegment 69 = .ok (.iload 5, 2) := by decide +kernel
theorem dX12_readSegment_71 : decode cX12_readSegment 71 = .ok (.i2l, 1) := by decide +kernel
theorem dX12_readSegment_72 : decode cX12_readSegment 72 = .ok (.ladd, 1) := by decide +kernel
theorem dX12_readSegment_73 : decode cX12_readSegment 73 = .ok (.invokevirtual 381, 3) := by decide +kernel
theorem dX12_readSegment_76 : decode cX12_readSegment 76 = .ok (.ifCond .ne 5, 3) := by decide +kernel
theorem dX12_readSegment_79 : decode cX12_readSegment 79 = .ok (.iconst 0, 1) := by decide +kernel
theorem dX12_readSegment_80 : decode cX12_readSegment 80 = .ok (.ireturn, 1) := by decide +kernel
theorem dX12_readSegment_81 : decode cX12_readSegment 81 = .ok (.iinc 5 8, 3) := by decide +kernel
theorem dX12_readSegment_84 : decode cX12_readSegment 84 = .ok (.goto (-24), 3) := by decide +kernel
theorem dX12_readSegment_87 : decode cX12_readSegment 87 = .ok (.aload_n 0, 1) := by decide +kernel
theorem dX12_readSegment_88 : decode cX12_readSegment 88 = .ok (.getfield 92, 3) := by decide +kernel
theorem dX12_readSegment_91 : decode cX12_readSegment 91 = .ok (.aload_n 0, 1) := by decide +kernel
theorem dX12_readSegment_92 : decode cX12_readSegment 92 = .ok (.getfield 341, 3) := by decide +kernel
theorem dX12_readSegment_95 : decode cX12_readSegment 95 = .ok (.aload_n 0, 1) := by decide +kernel
theorem dX12_readSegment_96 : decode cX12_readSegment 96 = .ok (.lload_n 1, 1) := by decide +kernel
theorem dX12_readSegment_97 : decode cX12_readSegment 97 = .ok (.ldc2_w 294, 3) := by decide +kernel
theorem dX12_readSegment_100 : decode cX12_readSegment 100 = .ok (.ladd, 1) := by decide +kernel
theorem dX12_readSegment_101 : decode cX12_readSegment 101 = .ok (.invokevirtual 316, 3) := by decide +kernel
theorem dX12_readSegment_104 : decode cX12_readSegment 104 = .ok (.lastore, 1) := by decide +kernel
theorem dX12_readSegment_105 : decode cX12_readSegment 105 = .ok (.aload_n 0, 1) := by decide +kernel
theorem dX12_readSegment_106 : decode cX12_readSegment 106 = .ok (.getfield 95, 3) := by decide +kernel
theorem dX12_readSegment_109 : decode cX12_readSegment 109 = .ok (.aload_n 0, 1) := by decide +kernel
theorem dX12_readSegment_110 : decode cX12_readSegment 110 = .ok (.getfield 341, 3) := by decide +kernel
theorem dX12_readSegment_113 : decode cX12_readSegment 113 = .ok (.aload_n 0, 1) := by decide +kernel
theorem dX12_readSegment_114 : decode cX12_readSegment 114 = .ok (.lload_n 1, 1) := by decide +kernel
theorem dX12_readSegment_115 : decode cX12_readSegment 115 = .ok (.ldc2_w 357, 3) := by decide +kernel
theorem dX12_readSegment_118 : decode cX12_readSegment 118 = .ok (.ladd, 1) := by decide +kernel
theorem dX12_readSegment_119 : decode cX12_readSegment 119 = .ok (.invokevirtual 316, 3) := by decide +kernel
theorem dX12_readSegment_122 : decode cX12_readSegment 122 = .ok (.lastore, 1) := by decide +kernel
theorem dX12_readSegment_123 : decode cX12_readSegment 123 = .ok (.aload_n 0, 1) := by decide +kernel
theorem dX12_readSegment_124 : decode cX12_readSegment 124 = .ok (.getfield 98, 3) := by decide +kernel
theorem dX12_readSegment_127 : decode cX12_readSegment 127 = .ok (.aload_n 0, 1) := by decide +kernel
theorem dX12_readSegment_128 : decode cX12_readSegment 128 = .ok (.getfield 341, 3) := by decide +kernel
theorem dX12_readSegment_131 : decode cX12_readSegment 131 = .ok (.aload_n 0, 1) := by decide +kernel
theorem dX12_readSegment_132 : decode cX12_readSegment 132 = .ok (.lload_n 1, 1) := by decide +kernel
theorem dX12_readSegment_133 : decode cX12_readSegment 133 = .ok (.ldc2_w 384, 3) := by decide +kernel
theorem dX12_readSegment_136 : decode cX12_readSegment 136 = .ok (.ladd, 1) := by decide +kernel
theorem dX12_readSegment_137 : decode cX12_readSegment 137 = .ok (.invokevirtual 316, 3) := by decide +kernel
theorem dX12_readSegment_140 : decode cX12_readSegment 140 = .ok (.lastore, 1) := by decide +kernel
theorem dX12_readSegment_141 : decode cX12_readSegment 141 = .ok (.aload_n 0, 1) := by decide +kernel
theorem dX12_readSegment_142 : decode cX12_readSegment 142 = .ok (.getfield 101, 3) := by decide +kernel
theorem dX12_readSegment_145 : decode cX12_readSegment 145 = .ok (.aload_n 0, 1) := by decide +kernel
theorem dX12_readSegment_146 : decode cX12_readSegment 146 = .ok (.getfield 341, 3) := by decide +kernel
theorem dX12_readSegment_149 : decode cX12_readSegment 149 = .ok (.aload_n 0, 1) := by decide +kernel
theorem dX12_readSegment_150 : decode cX12_readSegment 150 = .ok (.lload_n 1, 1) := by decide +kernel
theorem dX12_readSegment_151 : decode cX12_readSegment 151 = .ok (.ldc2_w 386, 3) := by decide +kernel
theorem dX12_readSegment_154 : decode cX12_readSegment 154 = .ok (.ladd, 1) := by decide +kernel
theorem dX12_readSegment_155 : decode cX12_readSegment 155 = .ok (.invokevirtual 316, 3) := by decide +kernel
theorem dX12_readSegment_158 : decode cX12_readSegment 158 = .ok (.lastore, 1) := by decide +kernel
theorem dX12_readSegment_159 : decode cX12_readSegment 159 = .ok (.aload_n 0, 1) := by decide +kernel
theorem dX12_readSegment_160 : decode cX12_readSegment 160 = .ok (.getfield 92, 3) := by decide +kernel
theorem dX12_readSegment_163 : decode cX12_readSegment 163 = .ok (.aload_n 0, 1) := by decide +kernel
theorem dX12_readSegment_164 : decode cX12_readSegment 164 = .ok (.getfield 341, 3) := by decide +kernel
theorem dX12_readSegment_167 : decode cX12_readSegment 167 = .ok (.laload, 1) := by decide +kernel
theorem dX12_readSegment_168 : decode cX12_readSegment 168 = .ok (.lstore 5, 2) := by decide +kernel
theorem dX12_readSegment_170 : decode cX12_readSegment 170 = .ok (.lload 5, 2) := by decide +kernel
theorem dX12_readSegment_172 : decode cX12_readSegment 172 = .ok (.aload_n 0, 1) := by decide +kernel
theorem dX12_readSegment_173 : decode cX12_readSegment 173 = .ok (.getfield 95, 3) := by decide +kernel
theorem dX12_readSegment_176 : decode cX12_readSegment 176 = .ok (.aload_n 0, 1) := by decide +kernel
theorem dX12_readSegment_177 : decode cX12_readSegment 177 = .ok (.getfield 341, 3) := by decide +kernel
theorem dX12_readSegment_180 : decode cX12_readSegment 180 = .ok (.laload, 1) := by decide +kernel
theorem dX12_readSegment_181 : decode cX12_readSegment 181 = .ok (.ladd, 1) := by decide +kernel
theorem dX12_readSegment_182 : decode cX12_readSegment 182 = .ok (.lstore 7, 2) := by decide +kernel
theorem dX12_readSegment_184 : decode cX12_readSegment 184 = .ok (.aload_n 0, 1) := by decide +kernel
theorem dX12_readSegment_185 : decode cX12_readSegment 185 = .ok (.getfield 347, 3) := by decide +kernel
theorem dX12_readSegment_188 : decode cX12_readSegment 188 = .ok (.i2l, 1) := by decide +kernel
theorem dX12_readSegment_189 : decode cX12_readSegment 189 = .ok (.aload_n 0, 1) := by decide +kernel
theorem dX12_readSegment_190 : decode cX12_readSegment 190 = .ok (.getfield 95, 3) := by decide +kernel
theorem dX12_readSegment_193 : decode cX12_readSegment 193 = .ok (.aload_n 0, 1) := by decide +kernel
theorem dX12_readSegment_194 : decode cX12_readSegment 194 = .ok (.getfield 341, 3) := by decide +kernel
theorem dX12_readSegment_197 : decode cX12_readSegment 197 = .ok (.laload, 1) := by decide +kernel
theorem dX12_readSegment_198 : decode cX12_readSegment 198 = .ok (.ladd, 1) := by decide +kernel
theorem dX12_readSegment_199 : decode cX12_readSegment 199 = .ok (.ldc2_w 388, 3) := by decide +kernel
theorem dX12_readSegment_202 : decode cX12_readSegment 202 = .ok (.lcmp, 1) := by decide +kernel
theorem dX12_readSegment_203 : decode cX12_readSegment 203 = .ok (.ifCond .le 14, 3) := by decide +kernel
theorem dX12_readSegment_206 : decode cX12_readSegment 206 = .ok (.aload_n 0, 1) := by decide +kernel
theorem dX12_readSegment_207 : decode cX12_readSegment 207 = .ok (.iconst 5, 1) := by decide +kernel
theorem dX12_readSegment_208 : decode cX12_readSegment 208 = .ok (.lload_n 1, 1) := by decide +kernel
theorem dX12_readSegment_209 : decode cX12_readSegment 209 = .ok (.ldc2_w 357, 3) := by decide +kernel
theorem dX12_readSegment_212 : decode cX12_readSegment 212 = .ok (.ladd, 1) := by decide +kernel
theorem dX12_readSegment_213 : decode cX12_readSegment 213 = .ok (.invokevirtual 321, 3) := by decide +kernel
theorem dX12_readSegment_216 : decode cX12_readSegment 216 = .ok (.ireturn, 1) := by decide +kernel
theorem dX12_readSegment_217 : decode cX12_readSegment 217 = .ok (.lload 7, 2) := by decide +kernel
theorem dX12_readSegment_219 : decode cX12_readSegment 219 = .ok (.ldc2_w 319, 3) := by decide +kernel
theorem dX12_readSegment_222 : decode cX12_readSegment 222 = .ok (.lcmp, 1) := by decide +kernel
theorem dX12_readSegment_223 : decode cX12_readSegment 223 = .ok (.ifCond .le 14, 3) := by decide +kernel
theorem dX12_readSegment_226 : decode cX12_readSegment 226 = .ok (.aload_n 0, 1) := by decide +kernel
theorem dX12_readSegment_227 : decode cX12_readSegment 227 = .ok (.iconst 5, 1) := by decide +kernel
theorem dX12_readSegment_228 : decode cX12_readSegment 228 = .ok (.lload_n 1, 1) := by decide +kernel
theorem dX12_readSegment_229 : decode cX12_readSegment 229 = .ok (.ldc2_w 294, 3) := by decide +kernel
theorem dX12_readSegment_232 : decode cX12_readSegment 232 = .ok (.ladd, 1) := by decide +kernel
theorem dX12_readSegment_233 : decode cX12_readSegment 233 = .ok (.invokevirtual 321, 3) := by decide +kernel
theorem dX12_readSegment_236 : decode cX12_readSegment 236 = .ok (.ireturn, 1) := by decide +kernel
theorem dX12_readSegment_237 : decode cX12_readSegment 237 = .ok (.aload_n 0, 1) := by decide +kernel
theorem dX12_readSegment_238 : decode cX12_readSegment 238 = .ok (.getfield 98, 3) := by decide +kernel
theorem dX12_readSegment_241 : decode cX12_readSegment 241 = .ok (.aload_n 0, 1) := by decide +kernel
theorem dX12_readSegment_242 : decode cX12_readSegment 242 = .ok (.getfield 341, 3) := by decide +kernel
theorem dX12_readSegment_245 : decode cX12_readSegment 245 = .ok (.laload, 1) := by decide +kernel
theorem dX12_readSegment_246 : decode cX12_readSegment 246 = .ok (.aload_n 0, 1) := by decide +kernel
theorem dX12_readSegment_247 : decode cX12_readSegment 247 = .ok (.getfield 101, 3) := by decide +kernel
theorem dX12_readSegment_250 : decode cX12_readSegment 250 = .ok (.aload_n 0, 1) := by decide +kernel
theorem dX12_readSegment_251 : decode cX12_readSegment 251 = .ok (.getfield 341, 3) := by decide +kernel
theorem dX12_readSegment_254 : decode cX12_readSegment 254 = .ok (.laload, 1) := by decide +kernel
theorem dX12_readSegment_255 : decode cX12_readSegment 255 = .ok (.ladd, 1) := by decide +kernel
theorem dX12_readSegment_256 : decode cX12_readSegment 256 = .ok (.aload_n 0, 1) := by decide +kernel
theorem dX12_readSegment_257 : decode cX12_readSegment 257 = .ok (.getfield 253, 3) := by decide +kernel
theorem dX12_readSegment_260 : decode cX12_readSegment 260 = .ok (.i2l, 1) := by decide +kernel
theorem dX12_readSegment_261 : decode cX12_readSegment 261 = .ok (.lcmp, 1) := by decide +kernel
theorem dX12_readSegment_262 : decode cX12_readSegment 262 = .ok (.ifCond .le 14, 3) := by decide +kernel
theorem dX12_readSegment_265 : decode cX12_readSegment 265 = .ok (.aload_n 0, 1) := by decide +kernel
theorem dX12_readSegment_266 : decode cX12_readSegment 266 = .ok (.iconst 1, 1) := by decide +kernel
theorem dX12_readSegment_267 : decode cX12_readSegment 267 = .ok (.lload_n 1, 1) := by decide +kernel
theorem dX12_readSegment_268 : decode cX12_readSegment 268 = .ok (.ldc2_w 384, 3) := by decide +kernel
theorem dX12_readSegment_271 : decode cX12_readSegment 271 = .ok (.ladd, 1) := by decide +kernel
theorem dX12_readSegment_272 : decode cX12_readSegment 272 = .ok (.invokevirtual 321, 3) := by decide +kernel
theorem dX12_readSegment_275 : decode cX12_readSegment 275 = .ok (.ireturn, 1) := by decide +kernel
theorem dX12_readSegment_276 : decode cX12_readSegment 276 = .ok (.aload_n 0, 1) := by decide +kernel
theorem dX12_readSegment_277 : decode cX12_readSegment 277 = .ok (.getfield 101, 3) := by decide +kernel
theorem dX12_readSegment_280 : decode cX12_readSegment 280 = .ok (.aload_n 0, 1) := by decide +kernel
theorem dX12_readSegment_281 : decode cX12_readSegment 281 = .ok (.getfield 341, 3) := by decide +kernel
theorem dX12_readSegment_284 : decode cX12_readSegment 284 = .ok (.laload, 1) := by decide +kernel
theorem dX12_readSegment_285 : decode cX12_readSegment 285 = .ok (.aload_n 0, 1) := by decide +kernel
theorem dX12_readSegment_286 : decode cX12_readSegment 286 = .ok (.getfield 95, 3) := by decide +kernel
theorem dX12_readSegment_289 : decode cX12_readSegment 289 = .ok (.aload_n 0, 1) := by decide +kernel
theorem dX12_readSegment_290 : decode cX12_readSegment 290 = .ok (.getfield 341, 3) := by decide +kernel
theorem dX12_readSegment_293 : decode cX12_readSegment 293 = .ok (.laload, 1) := by decide +kernel
theorem dX12_readSegment_294 : decode cX12_readSegment 294 = .ok (.lcmp, 1) := by decide +kernel
theorem dX12_readSegment_295 : decode cX12_readSegment 295 = .ok (.ifCond .le 15, 3) := by decide +kernel
theorem dX12_readSegment_298 : decode cX12_readSegment 298 = .ok (.aload_n 0, 1) := by decide +kernel
theorem dX12_readSegment_299 : decode cX12_readSegment 299 = .ok (.bipush 6, 2) := by decide +kernel
theorem dX12_readSegment_301 : decode cX12_readSegment 301 = .ok (.lload_n 1, 1) := by decide +kernel
theorem dX12_readSegment_302 : decode cX12_readSegment 302 = .ok (.ldc2_w 386, 3) := by decide +kernel
theorem dX12_readSegment_305 : decode cX12_readSegment 305 = .ok (.ladd, 1) := by decide +kernel
theorem dX12_readSegment_306 : decode cX12_readSegment 306 = .ok (.invokevirtual 321, 3) := by decide +kernel
theorem dX12_readSegment_309 : decode cX12_readSegment 309 = .ok (.ireturn, 1) := by decide +kernel
theorem dX12_readSegment_310 : decode cX12_readSegment 310 = .ok (.iconst 0, 1) := by decide +kernel
theorem dX12_readSegment_311 : decode cX12_readSegment 311 = .ok (.istore 9, 2) := by decide +kernel
theorem dX12_readSegment_313 : decode cX12_readSegment 313 = .ok (.iload 9, 2) := by decide +kernel
theorem dX12_readSegment_315 : decode cX12_readSegment 315 = .ok (.aload_n 0, 1) := by decide +kernel
theorem dX12_readSegment_316 : decode cX12_readSegment 316 = .ok (.getfield 341, 3) := by decide +kernel
theorem dX12_readSegment_319 : decode cX12_readSegment 319 = .ok (.if_icmp .ge 81, 3) := by decide +kernel
theorem dX12_readSegment_322 : decode cX12_readSegment 322 = .ok (.aload_n 0, 1) := by decide +kernel
theorem dX12_readSegment_323 : decode cX12_readSegment 323 = .ok (.getfield 95, 3) := by decide +kernel
theorem dX12_readSegment_326 : decode cX12_readSegment 326 = .ok (.aload_n 0, 1) := by decide +kernel
theorem dX12_readSegment_327 : decode cX12_readSegment 327 = .ok (.getfield 341, 3) := by decide +kernel
theorem dX12_readSegment_330 : decode cX12_readSegment 330 = .ok (.laload, 1) := by decide +kernel
theorem dX12_readSegment_331 : decode cX12_readSegment 331 = .ok (.lconst 0, 1) := by decide +kernel
theorem dX12_readSegment_332 : decode cX12_readSegment 332 = .ok (.lcmp, 1) := by decide +kernel
theorem dX12_readSegment_333 : decode cX12_readSegment 333 = .ok (.ifCond .le 61, 3) := by decide +kernel
theorem dX12_readSegment_336 : decode cX12_readSegment 336 = .ok (.aload_n 0, 1) := by decide +kernel
theorem dX12_readSegment_337 : decode cX12_readSegment 337 = .ok (.getfield 95, 3) := by decide +kernel
theorem dX12_readSegment_340 : decode cX12_readSegment 340 = .ok (.iload 9, 2) := by decide +kernel
theorem dX12_readSegment_342 : decode cX12_readSegment 342 = .ok (.laload, 1) := by decide +kernel
theorem dX12_readSegment_343 : decode cX12_readSegment 343 = .ok (.lconst 0, 1) := by decide +kernel
theorem dX12_readSegment_344 : decode cX12_readSegment 344 = .ok (.lcmp, 1) := by decide +kernel
theorem dX12_readSegment_345 : decode cX12_readSegment 345 = .ok (.ifCond .le 49, 3) := by decide +kernel
theorem dX12_readSegment_348 : decode cX12_readSegment 348 = .ok (.lload 5, 2) := by decide +kernel
theorem dX12_readSegment_350 : decode cX12_readSegment 350 = .ok (.aload_n 0, 1) := by decide +kernel
theorem dX12_readSegment_351 : decode cX12_readSegment 351 = .ok (.getfield 92, 3) := by decide +kernel
theorem dX12_readSegment_354 : decode cX12_readSegment 354 = .ok (.iload 9, 2) := by decide +kernel
theorem dX12_readSegment_356 : decode cX12_readSegment 356 = .ok (.laload, 1) := by decide +kernel
theorem dX12_readSegment_357 : decode cX12_readSegment 357 = .ok (.aload_n 0, 1) := by decide +kernel
theorem dX12_readSegment_358 : decode cX12_readSegment 358 = .ok (.getfield 95, 3) := by decide +kernel
theorem dX12_readSegment_361 : decode cX12_readSegment 361 = .ok (.iload 9, 2) := by decide +kernel
theorem dX12_readSegment_363 : decode cX12_readSegment 363 = .ok (.laload, 1) := by decide +kernel
theorem dX12_readSegment_364 : decode cX12_readSegment 364 = .ok (.ladd, 1) := by decide +kernel
theorem dX12_readSegment_365 : decode cX12_readSegment 365 = .ok (.lcmp, 1) := by decide +kernel
theorem dX12_readSegment_366 : decode cX12_readSegment 366 = .ok (.ifCond .ge 28, 3) := by decide +kernel
theorem dX12_readSegment_369 : decode cX12_readSegment 369 = .ok (.aload_n 0, 1) := by decide +kernel
theorem dX12_readSegment_370 : decode cX12_readSegment 370 = .ok (.getfield 92, 3) := by decide +kernel
theorem dX12_readSegment_373 : decode cX12_readSegment 373 = .ok (.iload 9, 2) := by decide +kernel
theorem dX12_readSegment_375 : decode cX12_readSegment 375 = .ok (.laload, 1) := by decide +kernel
theorem dX12_readSegment_376 : decode cX12_readSegment 376 = .ok (.lload 7, 2) := by decide +kernel
theorem dX12_readSegment_378 : decode cX12_readSegment 378 = .ok (.lcmp, 1) := by decide +kernel
theorem dX12_readSegment_379 : decode cX12_readSegment 379 = .ok (.ifCond .ge 15, 3) := by decide +kernel
theorem dX12_readSegment_382 : decode cX12_readSegment 382 = .ok (.aload_n 0, 1) := by decide +kernel
theorem dX12_readSegment_383 : decode cX12_readSegment 383 = .ok (.bipush 6, 2) := by decide +kernel
theorem dX12_readSegment_385 : decode cX12_readSegment 385 = .ok (.lload_n 1, 1) := by decide +kernel
theorem dX12_readSegment_386 : decode cX12_readSegment 386 = .ok (.ldc2_w 294, 3) := by decide +kernel
theorem dX12_readSegment_389 : decode cX12_readSegment 389 = .ok (.ladd, 1) := by decide +kernel
theorem dX12_readSegment_390 : decode cX12_readSegment 390 = .ok (.invokevirtual 321, 3) := by decide +kernel
theorem dX12_readSegment_393 : decode cX12_readSegment 393 = .ok (.ireturn, 1) := by decide +kernel
theorem dX12_readSegment_394 : decode cX12_readSegment 394 = .ok (.iinc 9 1, 3) := by decide +kernel
theorem dX12_readSegment_397 : decode cX12_readSegment 397 = .ok (.goto (-84), 3) := by decide +kernel
theorem dX12_readSegment_400 : decode cX12_readSegment 400 = .ok (.aload_n 0, 1) := by decide +kernel
theorem dX12_readSegment_401 : decode cX12_readSegment 401 = .ok (.dup, 1) := by decide +kernel
theorem dX12_readSegment_402 : decode cX12_readSegment 402 = .ok (.getfield 347, 3) := by decide +kernel
theorem dX12_readSegment_405 : decode cX12_readSegment 405 = .ok (.aload_n 0, 1) := by decide +kernel
theorem dX12_readSegment_406 : decode cX12_readSegment 406 = .ok (.getfield 95, 3) := by decide +kernel
theorem dX12_readSegment_409 : decode cX12_readSegment 409 = .ok (.aload_n 0, 1) := by decide +kernel
theorem dX12_readSegment_410 : decode cX12_readSegment 410 = .ok (.getfield 341, 3) := by decide +kernel
theorem dX12_readSegment_413 : decode cX12_readSegment 413 = .ok (.laload, 1) := by decide +kernel
theorem dX12_readSegment_414 : decode cX12_readSegment 414 = .ok (.l2i, 1) := by decide +kernel
theorem dX12_readSegment_415 : decode cX12_readSegment 415 = .ok (.iadd, 1) := by decide +kernel
theorem dX12_readSegment_416 : decode cX12_readSegment 416 = .ok (.putfield 347, 3) := by decide +kernel
theorem dX12_readSegment_419 : decode cX12_readSegment 419 = .ok (.lload_n 1, 1) := by decide +kernel
theorem dX12_readSegment_420 : decode cX12_readSegment 420 = .ok (.ldc2_w 375, 3) := by decide +kernel
theorem dX12_readSegment_423 : decode cX12_readSegment 423 = .ok (.ladd, 1) := by decide +kernel
theorem dX12_readSegment_424 : decode cX12_readSegment 424 = .ok (.lstore 9, 2) := by decide +kernel
theorem dX12_readSegment_426 : decode cX12_readSegment 426 = .ok (.lload 9, 2) := by decide +kernel
theorem dX12_readSegment_428 : decode cX12_readSegment 428 = .ok (.lload_n 1, 1) := by decide +kernel
theorem dX12_readSegment_429 : decode cX12_readSegment 429 = .ok (.lload_n 3, 1) := by decide +kernel
theorem dX12_readSegment_430 : decode cX12_readSegment 430 = .ok (.ladd, 1) := by decide +kernel
theorem dX12_readSegment_431 : decode cX12_readSegment 431 = .ok (.lcmp, 1) := by decide +kernel
theorem dX12_readSegment_432 : decode cX12_readSegment 432 = .ok (.ifCond .ge 117, 3) := by decide +kernel
theorem dX12_readSegment_435 : decode cX12_readSegment 435 = .ok (.aload_n 0, 1) := by decide +kernel
theorem dX12_readSegment_436 : decode cX12_readSegment 436 = .ok (.getfield 344, 3) := by decide +kernel
theorem dX12_readSegment_439 : decode cX12_readSegment 439 = .ok (.bipush 16, 2) := by decide +kernel
theorem dX12_readSegment_441 : decode cX12_readSegment 441 = .ok (.if_icmp .ne 11, 3) := by decide +kernel
theorem dX12_readSegment_444 : decode cX12_readSegment 444 = .ok (.aload_n 0, 1) := by decide +kernel
theorem dX12_readSegment_445 : decode cX12_readSegment 445 = .ok (.iconst 3, 1) := by decide +kernel
theorem dX12_readSegment_446 : decode cX12_readSegment 446 = .ok (.lload 9, 2) := by decide +kernel
theorem dX12_readSegment_448 : decode cX12_readSegment 448 = .ok (.invokevirtual 321, 3) := by decide +kernel
theorem dX12_readSegment_451 : decode cX12_readSegment 451 = .ok (.ireturn, 1) := by decide +kernel
theorem dX12_readSegment_452 : decode cX12_readSegment 452 = .ok (.aload_n 0, 1) := by decide +kernel
theorem dX12_readSegment_453 : decode cX12_readSegment 453 = .ok (.lload 9, 2) := by decide +kernel
theorem dX12_readSegment_455 : decode cX12_readSegment 455 = .ok (.ldc2_w 357, 3) := by decide +kernel
theorem dX12_readSegment_458 : decode cX12_readSegment 458 = .ok (.ladd, 1) := by decide +kernel
theorem dX12_readSegment_459 : decode cX12_readSegment 459 = .ok (.invokevirtual 381, 3) := by decide +kernel
theorem dX12_readSegment_462 : decode cX12_readSegment 462 = .ok (.ifCond .eq 16, 3) := by decide +kernel
theorem dX12_readSegment_465 : decode cX12_readSegment 465 = .ok (.aload_n 0, 1) := by decide +kernel
theorem dX12_readSegment_466 : decode cX12_readSegment 466 = .ok (.lload 9, 2) := by decide +kernel
theorem dX12_readSegment_468 : decode cX12_readSegment 468 = .ok (.ldc2_w 384, 3) := by decide +kernel
theorem dX12_readSegment_471 : decode cX12_readSegment 471 = .ok (.ladd, 1) := by decide +kernel
theorem dX12_readSegment_472 : decode cX12_readSegment 472 = .ok (.invokevirtual 381, 3) := by decide +kernel
theorem dX12_readSegment_475 : decode cX12_readSegment 475 = .ok (.ifCond .ne 5, 3) := by decide +kernel
theorem dX12_readSegment_478 : decode cX12_readSegment 478 = .ok (.iconst 0, 1) := by decide +kernel
theorem dX12_readSegment_479 : decode cX12_readSegment 479 = .ok (.ireturn, 1) := by decide +kernel
theorem dX12_readSegment_480 : decode cX12_readSegment 480 = .ok (.aload_n 0, 1) := by decide +kernel
theorem dX12_readSegment_481 : decode cX12_readSegment 481 = .ok (.lload 9, 2) := by decide +kernel
theorem dX12_readSegment_483 : decode cX12_readSegment 483 = .ok (.ldc2_w 357, 3) := by decide +kernel
theorem dX12_readSegment_486 : decode cX12_readSegment 486 = .ok (.ladd, 1) := by decide +kernel
theorem dX12_readSegment_487 : decode cX12_readSegment 487 = .ok (.invokevirtual 316, 3) := by decide +kernel
theorem dX12_readSegment_490 : decode cX12_readSegment 490 = .ok (.lstore 11, 2) := by decide +kernel
theorem dX12_readSegment_492 : decode cX12_readSegment 492 = .ok (.lload 11, 2) := by decide +kernel
theorem dX12_readSegment_494 : decode cX12_readSegment 494 = .ok (.lload 5, 2) := by decide +kernel
theorem dX12_readSegment_496 : decode cX12_readSegment 496 = .ok (.lcmp, 1) := by decide +kernel
theorem dX12_readSegment_497 : decode cX12_readSegment 497 = .ok (.ifCond .lt 22, 3) := by decide +kernel
theorem dX12_readSegment_500 : decode cX12_readSegment 500 = .ok (.lload 11, 2) := by decide +kernel
theorem dX12_readSegment_502 : decode cX12_readSegment 502 = .ok (.aload_n 0, 1) := by decide +kernel
theorem dX12_readSegment_503 : decode cX12_readSegment 503 = .ok (.lload 9, 2) := by decide +kernel
theorem dX12_readSegment_505 : decode cX12_readSegment 505 = .ok (.ldc2_w 384, 3) := by decide +kernel
theorem dX12_readSegment_508 : decode cX12_readSegment 508 = .ok (.ladd, 1) := by decide +kernel
theorem dX12_readSegment_509 : decode cX12_readSegment 509 = .ok (.invokevirtual 316, 3) := by decide +kernel
theorem dX12_readSegment_512 : decode cX12_readSegment 512 = .ok (.ladd, 1) := by decide +kernel
theorem dX12_readSegment_513 : decode cX12_readSegment 513 = .ok (.lload 7, 2) := by decide +kernel
theorem dX12_readSegment_515 : decode cX12_readSegment 515 = .ok (.lcmp, 1) := by decide +kernel
theorem dX12_readSegment_516 : decode cX12_readSegment 516 = .ok (.ifCond .le 12, 3) := by decide +kernel
theorem dX12_readSegment_519 : decode cX12_readSegment 519 = .ok (.aload_n 0, 1) := by decide +kernel
theorem dX12_readSegment_520 : decode cX12_readSegment 520 = .ok (.bipush 7, 2) := by decide +kernel
theorem dX12_readSegment_522 : decode cX12_readSegment 522 = .ok (.lload 9, 2) := by decide +kernel
theorem dX12_readSegment_524 : decode cX12_readSegment 524 = .ok (.invokevirtual 321, 3) := by decide +kernel
theorem dX12_readSegment_527 : decode cX12_readSegment 527 = .ok (.ireturn, 1) := by decide +kernel
theorem dX12_readSegment_528 : decode cX12_readSegment 528 = .ok (.aload_n 0, 1) := by decide +kernel
theorem dX12_readSegment_529 : decode cX12_readSegment 529 = .ok (.dup, 1) := by decide +kernel
theorem dX12_readSegment_530 : decode cX12_readSegment 530 = .ok (.getfield 344, 3) := by decide +kernel
theorem dX12_readSegment_533 : decode cX12_readSegment 533 = .ok (.iconst 1, 1) := by decide +kernel
theorem dX12_readSegment_534 : decode cX12_readSegment 534 = .ok (.iadd, 1) := by decide +kernel
theorem dX12_readSegment_535 : decode cX12_readSegment 535 = .ok (.putfield 344, 3) := by decide +kernel
theorem dX12_readSegment_538 : decode cX12_readSegment 538 = .ok (.lload 9, 2) := by decide +kernel
theorem dX12_readSegment_540 : decode cX12_readSegment 540 = .ok (.ldc2_w 377, 3) := by decide +kernel
theorem dX12_readSegment_543 : decode cX12_readSegment 543 = .ok (.ladd, 1) := by decide +kernel
theorem dX12_readSegment_544 : decode cX12_readSegment 544 = .ok (.lstore 9, 2) := by decide +kernel
theorem dX12_readSegment_546 : decode cX12_readSegment 546 = .ok (.goto (-120), 3) := by decide +kernel
theorem dX12_readSegment_549 : decode cX12_readSegment 549 = .ok (.aload_n 0, 1) := by decide +kernel
theorem dX12_readSegment_550 : decode cX12_readSegment 550 = .ok (.dup, 1) := by decide +kernel
theorem dX12_readSegment_551 : decode cX12_readSegment 551 = .ok (.getfield 341, 3) := by decide +kernel
theorem dX12_readSegment_554 : decode cX12_readSegment 554 = .ok (.iconst 1, 1) := by decide +kernel
theorem dX12_readSegment_555 : decode cX12_readSegment 555 = .ok (.iadd, 1) := by decide +kernel
theorem dX12_readSegment_556 : decode cX12_readSegment 556 = .ok (.putfield 341, 3) := by decide +kernel
theorem dX12_readSegment_559 : decode cX12_readSegment 559 = .ok (.iconst 1, 1) := by decide +kernel
theorem dX12_readSegment_560 : decode cX12_readSegment 560 = .ok (.ireturn, 1) := by decide +kernel
