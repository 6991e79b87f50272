theorem dX12_readTable_0 : decode cX12_readTable 0 = .ok (.aload_n 0, 1) := by decide +kernel
theorem dX12_readTable_1 : decode cX12_readTable 1 = .ok (.getfield 350, 3) := by decide +kernel
theorem dX12_readTable_4 : decode cX12_readTable 4 = .ok (.ifCond .eq 10, 3) := by decide +kernel
theorem dX12_readTable_7 : decode cX12_readTable 7 = .ok (.aload_n 0, 1) := by decide +kernel
theorem dX12_readTable_8 : decode cX12_readTable 8 = .ok (.iconst 3, 1) := by decide +kernel
theorem dX12_readTable_9 : decode cX12_readTable 9 = .ok (.lload_n 1, 1) := by decide +kernel
theorem dX12_readTable_10 : decode cX12_readTable 10 = .ok (.invokevirtual 321, 3) := by decide +kernel
theorem dX12_readTable_13 : decode cX12_readTable 13 = .ok (.ireturn, 1) := by decide +kernel
theorem dX12_readTable_14 : decode cX12_readTable 14 = .ok (.lload_n 3, 1) := by decide +kernel
theorem dX12_readTable_15 : decode cX12_readTable 15 = .ok (.ldc2_w 294, 3) := by decide +kernel
theorem dX12_readTable_18 : decode cX12_readTable 18 = .ok (.lcmp, 1) := by decide +kernel
theorem dX12_readTable_19 : decode cX12_readTable 19 = .ok (.ifCond .eq 14, 3) := by decide +kernel
theorem dX12_readTable_22 : decode cX12_readTable 22 = .ok (.aload_n 0, 1) := by decide +kernel
theorem dX12_readTable_23 : decode cX12_readTable 23 = .ok (.iconst 3, 1) := by decide +kernel
theorem dX12_readTable_24 : decode cX12_readTable 24 = .ok (.lload_n 1, 1) := by decide +kernel
theorem dX12_readTable_25 : decode cX12_readTable 25 = .ok (.ldc2_w 311, 3) := by decide +kernel
theorem dX12_readTable_28 : decode cX12_readTable 28 = .ok (.ladd, 1) := by decide +kernel
theorem dX12_readTable_29 : decode cX12_readTable 29 = .ok (.invokevirtual 321, 3) := by decide +kernel
theorem dX12_readTable_32 : decode cX12_readTable 32 = .ok (.ireturn, 1) := by decide +kernel
theorem dX12_readTable_33 : decode cX12_readTable 33 = .ok (.aload_n 0, 1) := by decide +kernel
theorem dX12_readTable_34 : decode cX12_readTable 34 = .ok (.iconst 1, 1) := by decide +kernel
theorem dX12_readTable_35 : decode cX12_readTable 35 = .ok (.putfield 350, 3) := by decide +kernel
theorem dX12_readTable_38 : decode cX12_readTable 38 = .ok (.aload_n 0, 1) := by decide +kernel
theorem dX12_readTable_39 : decode cX12_readTable 39 = .ok (.aload_n 0, 1) := by decide +kernel
theorem dX12_readTable_40 : decode cX12_readTable 40 = .ok (.lload_n 1, 1) := by decide +kernel
theorem dX12_readTable_41 : decode cX12_readTable 41 = .ok (.ldc2_w 361, 3) := by decide +kernel
theorem dX12_readTable_44 : decode cX12_readTable 44 = .ok (.ladd, 1) := by decide +kernel
theorem dX12_readTable_45 : decode cX12_readTable 45 = .ok (.invokevirtual 307, 3) := by decide +kernel
theorem dX12_readTable_48 : decode cX12_readTable 48 = .ok (.putfield 390, 3) := by decide +kernel
theorem dX12_readTable_51 : decode cX12_readTable 51 = .ok (.aload_n 0, 1) := by decide +kernel
theorem dX12_readTable_52 : decode cX12_readTable 52 = .ok (.aload_n 0, 1) := by decide +kernel
theorem dX12_readTable_53 : decode cX12_readTable 53 = .ok (.lload_n 1, 1) := by decide +kernel
theorem dX12_readTable_54 : decode cX12_readTable 54 = .ok (.ldc2_w 393, 3) := by decide +kernel
theorem dX12_readTable_57 : decode cX12_readTable 57 = .ok (.ladd, 1) := by decide +kernel
theorem dX12_readTable_58 : decode cX12_readTable 58 = .ok (.invokevirtual 307, 3) := by decide +kernel
theorem dX12_readTable_61 : decode cX12_readTable 61 = .ok (.putfield 395, 3) := by decide +kernel
theorem dX12_readTable_64 : decode cX12_readTable 64 = .ok (.aload_n 0, 1) := by decide +kernel
theorem dX12_readTable_65 : decode cX12_readTable 65 = .ok (.aload_n 0, 1) := by decide +kernel
theorem dX12_readTable_66 : decode cX12_readTable 66 = .ok (.lload_n 1, 1) := by decide +kernel
theorem dX12_readTable_67 : decode cX12_readTable 67 = .ok (.ldc2_w 298, 3) := by decide +kernel
theorem dX12_readTable_70 : decode cX12_readTable 70 = .ok (.ladd, 1) := by decide +kernel
theorem dX12_readTable_71 : decode cX12_readTable 71 = .ok (.invokevirtual 307, 3) := by decide +kernel
theorem dX12_readTable_74 : decode cX12_readTable 74 = .ok (.putfield 398, 3) := by decide +kernel
theorem dX12_readTable_77 : decode cX12_readTable 77 = .ok (.aload_n 0, 1) := by decide +kernel
theorem dX12_readTable_78 : decode cX12_readTable 78 = .ok (.aload_n 0, 1) := by decide +kernel
theorem dX12_readTable_79 : decode cX12_readTable 79 = .ok (.lload_n 1, 1) := by decide +kernel
theorem dX12_readTable_80 : decode cX12_readTable 80 = .ok (.ldc2_w 359, 3) := by decide +kernel
theorem dX12_readTable_83 : decode cX12_readTable 83 = .ok (.ladd, 1) := by decide +kernel
theorem dX12_readTable_84 : decode cX12_readTable 84 = .ok (.invokevirtual 307, 3) := by decide +kernel
theorem dX12_readTable_87 : decode cX12_readTable 87 = .ok (.putfield 401, 3) := by decide +kernel
theorem dX12_readTable_90 : decode cX12_readTable 90 = .ok (.aload_n 0, 1) := by decide +kernel
theorem dX12_readTable_91 : decode cX12_readTable 91 = .ok (.getfield 395, 3) := by decide +kernel
theorem dX12_readTable_94 : decode cX12_readTable 94 = .ok (.ldc2_w 379, 3) := by decide +kernel
theorem dX12_readTable_97 : decode cX12_readTable 97 = .ok (.lcmp, 1) := by decide +kernel
theorem dX12_readTable_98 : decode cX12_readTable 98 = .ok (.ifCond .le 14, 3) := by decide +kernel
theorem dX12_readTable_101 : decode cX12_readTable 101 = .ok (.aload_n 0, 1) := by decide +kernel
theorem dX12_readTable_102 : decode cX12_readTable 102 = .ok (.iconst 3, 1) := by decide +kernel
theorem dX12_readTable_103 : decode cX12_readTable 103 = .ok (.lload_n 1, 1) := by decide +kernel
theorem dX12_readTable_104 : decode cX12_readTable 104 = .ok (.ldc2_w 393, 3) := by decide +kernel
theorem dX12_readTable_107 : decode cX12_readTable 107 = .ok (.ladd, 1) := by decide +kernel
theorem dX12_readTable_108 : decode cX12_readTable 108 = .ok (.invokevirtual 321, 3) := by decide +kernel
theorem dX12_readTable_111 : decode cX12_readTable 111 = .ok (.ireturn, 1) := by decide +kernel
theorem dX12_readTable_112 : decode cX12_readTable 112 = .ok (.aload_n 0, 1) := by decide +kernel
theorem dX12_readTable_113 : decode cX12_readTable 113 = .ok (.getfield 390, 3) := by decide +kernel
theorem dX12_readTable_116 : decode cX12_readTable 116 = .ok (.ldc2_w 298, 3) := by decide +kernel
theorem dX12_readTable_119 : decode cX12_readTable 119 = .ok (.aload_n 0, 1) := by decide +kernel
theorem dX12_readTable_120 : decode cX12_readTable 120 = .ok (.getfield 395, 3) := by decide +kernel
theorem dX12_readTable_123 : decode cX12_readTable 123 = .ok (.lmul, 1) := by decide +kernel
theorem dX12_readTable_124 : decode cX12_readTable 124 = .ok (.ladd, 1) := by decide +kernel
theorem dX12_readTable_125 : decode cX12_readTable 125 = .ok (.aload_n 0, 1) := by decide +kernel
theorem dX12_readTable_126 : decode cX12_readTable 126 = .ok (.getfield 253, 3) := by decide +kernel
theorem dX12_readTable_129 : decode cX12_readTable 129 = .ok (.i2l, 1) := by decide +kernel
theorem dX12_readTable_130 : decode cX12_readTable 130 = .ok (.lcmp, 1) := by decide +kernel
theorem dX12_readTable_131 : decode cX12_readTable 131 = .ok (.ifCond .le 14, 3) := by decide +kernel
theorem dX12_readTable_134 : decode cX12_readTable 134 = .ok (.aload_n 0, 1) := by decide +kernel
theorem dX12_readTable_135 : decode cX12_readTable 135 = .ok (.iconst 1, 1) := by decide +kernel
theorem dX12_readTable_136 : decode cX12_readTable 136 = .ok (.lload_n 1, 1) := by decide +kernel
theorem dX12_readTable_137 : decode cX12_readTable 137 = .ok (.ldc2_w 361, 3) := by decide +kernel
theorem dX12_readTable_140 : decode cX12_readTable 140 = .ok (.ladd, 1) := by decide +kernel
theorem dX12_readTable_141 : decode cX12_readTable 141 = .ok (.invokevirtual 321, 3) := by decide +kernel
theorem dX12_readTable_144 : decode cX12_readTable 144 = .ok (.ireturn, 1) := by decide +kernel
theorem dX12_readTable_145 : decode cX12_readTable 145 = .ok (.aload_n 0, 1) := by decide +kernel
theorem dX12_readTable_146 : decode cX12_readTable 146 = .ok (.getfield 398, 3) := by decide +kernel
theorem dX12_readTable_149 : decode cX12_readTable 149 = .ok (.aload_n 0, 1) := by decide +kernel
theorem dX12_readTable_150 : decode cX12_readTable 150 = .ok (.getfield 401, 3) := by decide +kernel
theorem dX12_readTable_153 : decode cX12_readTable 153 = .ok (.ladd, 1) := by decide +kernel
theorem dX12_readTable_154 : decode cX12_readTable 154 = .ok (.aload_n 0, 1) := by decide +kernel
theorem dX12_readTable_155 : decode cX12_readTable 155 = .ok (.getfield 253, 3) := by decide +kernel
theorem dX12_readTable_158 : decode cX12_readTable 158 = .ok (.i2l, 1) := by decide +kernel
theorem dX12_readTable_159 : decode cX12_readTable 159 = .ok (.lcmp, 1) := by decide +kernel
theorem dX12_readTable_160 : decode cX12_readTable 160 = .ok (.ifCond .le 16, 3) := by decide +kernel
theorem dX12_readTable_163 : decode cX12_readTable 163 = .ok (.aload_n 0, 1) := by decide +kernel
theorem dX12_readTable_164 : decode cX12_readTable 164 = .ok (.iconst 1, 1) := by decide +kernel
theorem dX12_readTable_165 : decode cX12_readTable 165 = .ok (.lload_n 1, 1) := by decide +kernel
theorem dX12_readTable_166 : decode cX12_readTable 166 = .ok (.ldc2_w 298, 3) := by decide +kernel
theorem dX12_readTable_169 : decode cX12_readTable 169 = .ok (.ladd, 1) := by decide +kernel
theorem dX12_readTable_170 : decode cX12_readTable 170 = .ok (.invokevirtual 321, 3) := by decide +kernel
theorem dX12_readTable_173 : decode cX12_readTable 173 = .ok (.ifCond .eq 7, 3) := by decide +kernel
theorem dX12_readTable_176 : decode cX12_readTable 176 = .ok (.iconst 1, 1) := by decide +kernel
theorem dX12_readTable_177 : decode cX12_readTable 177 = .ok (.goto 4, 3) := by decide +kernel
theorem dX12_readTable_180 : decode cX12_readTable 180 = .ok (.iconst 0, 1) := by decide +kernel
theorem dX12_readTable_181 : decode cX12_readTable 181 = .ok (.ireturn, 1) := by decide +kernel
theorem dX12_readChains_0 : decode cX12_readChains 0 = .ok (.aload_n 0, 1) := by decide +kernel
theorem dX12_readChains_1 : decode cX12_readChains 1 = .ok (.getfield 354, 3) := by decide +kernel
theorem dX12_readChains_4 : decode cX12_readChains 4 = .ok (.ifCond .eq 10, 3) := by decide +kernel
theorem dX12_readChains_7 : decode cX12_readChains 7 = .ok (.aload_n 0, 1) := by decide +kernel
theorem dX12_readChains_8 : decode cX12_readChains 8 = .ok (.iconst 3, 1) := by decide +kernel
theorem dX12_readChains_9 : decode cX12_readChains 9 = .ok (.lload_n 1, 1) := by decide +kernel
theorem dX12_readChains_10 : decode cX12_readChains 10 = .ok (.invokevirtual 321, 3) := by decide +kernel
theorem dX12_readChains_13 : decode cX12_readChains 13 = .ok (.ireturn, 1) := by decide +kernel
theorem dX12_readChains_14 : decode cX12_readChains 14 = .ok (.lload_n 3, 1) := by decide +kernel
theorem dX12_readChains_15 : decode cX12_readChains 15 = .ok (.ldc2_w 298, 3) := by decide +kernel
theorem dX12_readChains_18 : decode cX12_readChains 18 = .ok (.lcmp, 1) := by decide +kernel
theorem dX12_readChains_19 : decode cX12_readChains 19 = .ok (.ifCond .eq 14, 3) := by decide +kernel
theorem dX12_readChains_22 : decode cX12_readChains 22 = .ok (.aload_n 0, 1) := by decide +kernel
theorem dX12_readChains_23 : decode cX12_readChains 23 = .ok (.iconst 3, 1) := by decide +kernel
theorem dX12_readChains_24 : decode cX12_readChains 24 = .ok (.lload_n 1, 1) := by decide +kernel
theorem dX12_readChains_25 : decode cX12_readChains 25 = .ok (.ldc2_w 311, 3) := by decide +kernel
theorem dX12_readChains_28 : decode cX12_readChains 28 = .ok (.ladd, 1) := by decide +kernel
theorem dX12_readChains_29 : decode cX12_readChains 29 = .ok (.invokevirtual 321, 3) := by decide +kernel
theorem dX12_readChains_32 : decode cX12_readChains 32 = .ok (.ireturn, 1) := by decide +kernel
theorem dX12_readChains_33 : decode cX12_readChains 33 = .ok (.aload_n 0, 1) := by decide +kernel
theorem dX12_readChains_34 : decode cX12_readChains 34 = .ok (.iconst 1, 1) := by decide +kernel
theorem dX12_readChains_35 : decode cX12_readChains 35 = .ok (.putfield 354, 3) := by decide +kernel
theorem dX12_readChains_38 : decode cX12_readChains 38 = .ok (.aload_n 0, 1) := by decide +kernel
theorem dX12_readChains_39 : decode cX12_readChains 39 = .ok (.aload_n 0, 1) := by decide +kernel
theorem dX12_readChains_40 : decode cX12_readChains 40 = .ok (.lload_n 1, 1) := by decide +kernel
theorem dX12_readChains_41 : decode cX12_readChains 41 = .ok (.ldc2_w 361, 3) := by decide +kernel
theorem dX12_readChains_44 : decode cX12_readChains 44 = .ok (.ladd, 1) := by decide +kernel
theorem dX12_readChains_45 : decode cX12_readChains 45 = .ok (.invokevirtual 307, 3) := by decide +kernel
theorem dX12_readChains_48 : decode cX12_readChains 48 = .ok (.putfield 404, 3) := by decide +kernel
theorem dX12_readChains_51 : decode cX12_readChains 51 = .ok (.aload_n 0, 1) := by decide +kernel
theorem dX12_readChains_52 : decode cX12_readChains 52 = .ok (.aload_n 0, 1) := by decide +kernel
theorem dX12_readChains_53 : decode cX12_readChains 53 = .ok (.getfield 404, 3) := by decide +kernel
theorem dX12_readChains_56 : decode cX12_readChains 56 = .ok (.aload_n 0, 1) := by decide +kernel
theorem dX12_readChains_57 : decode cX12_readChains 57 = .ok (.lload_n 1, 1) := by decide +kernel
theorem dX12_readChains_58 : decode cX12_readChains 58 = .ok (.ldc2_w 393, 3) := by decide +kernel
theorem dX12_readChains_61 : decode cX12_readChains 61 = .ok (.ladd, 1) := by decide +kernel
theorem dX12_readChains_62 : decode cX12_readChains 62 = .ok (.invokevirtual 307, 3) := by decide +kernel
theorem dX12_readChains_65 : decode cX12_readChains 65 = .ok (.ladd, 1) := by decide +kernel
theorem dX12_readChains_66 : decode cX12_readChains 66 = .ok (.putfield 407, 3) := by decide +kernel
theorem dX12_readChains_69 : decode cX12_readChains 69 = .ok (.aload_n 0, 1) := by decide +kernel
theorem dX12_readChains_70 : decode cX12_readChains 70 = .ok (.getfield 407, 3) := by decide +kernel
theorem dX12_readChains_73 : decode cX12_readChains 73 = .ok (.aload_n 0, 1) := by decide +kernel
theorem dX12_readChains_74 : decode cX12_readChains 74 = .ok (.getfield 253, 3) := by decide +kernel
theorem dX12_readChains_77 : decode cX12_readChains 77 = .ok (.i2l, 1) := by decide +kernel
theorem dX12_readChains_78 : decode cX12_readChains 78 = .ok (.lcmp, 1) := by decide +kernel
theorem dX12_readChains_79 : decode cX12_readChains 79 = .ok (.ifCond .le 16, 3) := by decide +kernel
theorem dX12_readChains_82 : decode cX12_readChains 82 = .ok (.aload_n 0, 1) := by decide +kernel
theorem dX12_readChains_83 : decode cX12_readChains 83 = .ok (.iconst 1, 1) := by decide +kernel
theorem dX12_readChains_84 : decode cX12_readChains 84 = .ok (.lload_n 1, 1) := by decide +kernel
theorem dX12_readChains_85 : decode cX12_readChains 85 = .ok (.ldc2_w 361, 3) := by decide +kernel
theorem dX12_readChains_88 : decode cX12_readChains 88 = .ok (.ladd, 1) := by decide +kernel
theorem dX12_readChains_89 : decode cX12_readChains 89 = .ok (.invokevirtual 321, 3) := by decide +kernel
theorem dX12_readChains_92 : decode cX12_readChains 92 = .ok (.ifCond .eq 7, 3) := by decide +kernel
theorem dX12_readChains_95 : decode cX12_readChains 95 = .ok (.iconst 1, 1) := by decide +kernel
theorem dX12_readChains_96 : decode cX12_readChains 96 = .ok (.goto 4, 3) := by decide +kernel
theorem dX12_readChains_99 : decode cX12_readChains 99 = .ok (.iconst 0, 1) := by decide +kernel
theorem dX12_readChains_100 : decode cX12_readChains 100 = .ok (.ireturn, 1) := by decide +kernel
theorem dX12_zero_0 : decode cX12_zero 0 = .ok (.lload_n 1, 1) := by decide +kernel
theorem dX12_zero_1 : decode cX12_zero 1 = .ok (.lstore 5, 2) := by decide +kernel
theorem dX12_zero_3 : decode cX12_zero 3 = .ok (.lload 5, 2) := by decide +kernel
theorem dX12_zero_5 : decode cX12_zero 5 = .ok (.lload_n 3, 1) := by decide +kernel
theorem dX12_zero_6 : decode cX12_zero 6 = .ok (.lcmp, 1) := by decide +kernel
theorem dX12_zero_7 : decode cX12_zero 7 = .ok (.ifCond .ge 26, 3) := by decide +kernel
theorem dX12_zero_10 : decode cX12_zero 10 = .ok (.aload_n 0, 1) := by decide +kernel
theorem dX12_zero_11 : decode cX12_zero 11 = .ok (.getfield 77, 3) := by decide +kernel
theorem dX12_zero_14 : decode cX12_zero 14 = .ok (.lload 5, 2) := by decide +kernel
theorem dX12_zero_16 : decode cX12_zero 16 = .ok (.l2i, 1) := by decide +kernel
theorem dX12_zero_17 : decode cX12_zero 17 = .ok (.iaload, 1) := by decide +kernel
theorem dX12_zero_18 : decode cX12_zero 18 = .ok (.ifCond .ne 6, 3) := by decide +kernel
theorem dX12_zero_21 : decode cX12_zero 21 = .ok (.lload 5, 2) := by decide +kernel
theorem dX12_zero_23 : decode cX12_zero 23 = .ok (.lreturn, 1) := by decide +kernel
theorem dX12_zero_24 : decode cX12_zero 24 = .ok (.lload 5, 2) := by decide +kernel
theorem dX12_zero_26 : decode cX12_zero 26 = .ok (.lconst 1, 1) := by decide +kernel
theorem dX12_zero_27 : decode cX12_zero 27 = .ok (.ladd, 1) := by decide +kernel
theorem dX12_zero_28 : decode cX12_zero 28 = .ok (.lstore 5, 2) := by decide +kernel
theorem dX12_zero_30 : decode cX12_zero 30 = .ok (.goto (-27), 3) := by decide +kernel
theorem dX12_zero_33 : decode cX12_zero 33 = .ok (.ldc2_w 86, 3) := by decide +kernel
theorem dX12_zero_36 : decode cX12_zero 36 = .ok (.lreturn, 1) := by decide +kernel
theorem dX12_readsSymbols_0 : decode cX12_readsSymbols 0 = .ok (.aload_n 0, 1) := by decide +kernel
theorem dX12_readsSymbols_1 : decode cX12_readsSymbols 1 = .ok (.getfield 390, 3) := by decide +kernel
theorem dX12_readsSymbols_4 : decode cX12_readsSymbols 4 = .ok (.lstore_n 1, 1) := by decide +kernel
theorem dX12_readsSymbols_5 : decode cX12_readsSymbols 5 = .ok (.aload_n 0, 1) := by decide +kernel
theorem dX12_readsSymbols_6 : decode cX12_readsSymbols 6 = .ok (.getfield 350, 3) := by decide +kernel
theorem dX12_readsSymbols_9 : decode cX12_readsSymbols 9 = .ok (.ifCond .eq 110, 3) := by decide +kernel
theorem dX12_readsSymbols_12 : decode cX12_readsSymbols 12 = .ok (.lload_n 1, 1) := by decide +kernel
theorem dX12_readsSymbols_13 : decode cX12_readsSymbols 13 = .ok (.aload_n 0, 1) := by decide +kernel
theorem dX12_readsSymbols_14 : decode cX12_readsSymbols 14 = .ok (.getfield 390, 3) := by decide +kernel
theorem dX12_readsSymbols_17 : decode cX12_readsSymbols 17 = .ok (.ldc2_w 298, 3) := by decide +kernel
theorem dX12_readsSymbols_20 : decode cX12_readsSymbols 20 = .ok (.aload_n 0, 1) := by decide +kernel
theorem dX12_readsSymbols_21 : decode cX12_readsSymbols 21 = .ok (.getfield 395, 3) := by decide +kernel
theorem dX12_readsSymbols_24 : decode cX12_readsSymbols 24 = .ok (.lmul, 1) := by decide +kernel
theorem dX12_readsSymbols_25 : decode cX12_readsSymbols 25 = .ok (.ladd, 1) := by decide +kernel
theorem dX12_readsSymbols_26 : decode cX12_readsSymbols 26 = .ok (.lcmp, 1) := by decide +kernel
theorem dX12_readsSymbols_27 : decode cX12_readsSymbols 27 = .ok (.ifCond .ge 92, 3) := by decide +kernel
theorem dX12_readsSymbols_30 : decode cX12_readsSymbols 30 = .ok (.aload_n 0, 1) := by decide +kernel
theorem dX12_readsSymbols_31 : decode cX12_readsSymbols 31 = .ok (.aload_n 0, 1) := by decide +kernel
theorem dX12_readsSymbols_32 : decode cX12_readsSymbols 32 = .ok (.getfield 398, 3) := by decide +kernel
theorem dX12_readsSymbols_35 : decode cX12_readsSymbols 35 = .ok (.aload_n 0, 1) := by decide +kernel
theorem dX12_readsSymbols_36 : decode cX12_readsSymbols 36 = .ok (.lload_n 1, 1) := by decide +kernel
theorem dX12_readsSymbols_37 : decode cX12_readsSymbols 37 = .ok (.invokevirtual 307, 3) := by decide +kernel
theorem dX12_readsSymbols_40 : decode cX12_readsSymbols 40 = .ok (.ladd, 1) := by decide +kernel
theorem dX12_readsSymbols_41 : decode cX12_readsSymbols 41 = .ok (.aload_n 0, 1) := by decide +kernel
theorem dX12_readsSymbols_42 : decode cX12_readsSymbols 42 = .ok (.getfield 398, 3) := by decide +kernel
theorem dX12_readsSymbols_45 : decode cX12_readsSymbols 45 = .ok (.aload_n 0, 1) := by decide +kernel
theorem dX12_readsSymbols_46 : decode cX12_readsSymbols 46 = .ok (.getfield 401, 3) := by decide +kernel
theorem dX12_readsSymbols_49 : decode cX12_readsSymbols 49 = .ok (.ladd, 1) := by decide +kernel
theorem dX12_readsSymbols_50 : decode cX12_readsSymbols 50 = .ok (.invokevirtual 410, 3) := by decide +kernel
theorem dX12_readsSymbols_53 : decode cX12_readsSymbols 53 = .ok (.ldc2_w 86, 3) := by decide +kernel
theorem dX12_readsSymbols_56 : decode cX12_readsSymbols 56 = .ok (.lcmp, 1) := by decide +kernel
theorem dX12_readsSymbols_57 : decode cX12_readsSymbols 57 = .ok (.ifCond .ne 11, 3) := by decide +kernel
theorem dX12_readsSymbols_60 : decode cX12_readsSymbols 60 = .ok (.aload_n 0, 1) := by decide +kernel
theorem dX12_readsSymbols_61 : decode cX12_readsSymbols 61 = .ok (.bipush 8, 2) := by decide +kernel
theorem dX12_readsSymbols_63 : decode cX12_readsSymbols 63 = .ok (.lload_n 1, 1) := by decide +kernel
theorem dX12_readsSymbols_64 : decode cX12_readsSymbols 64 = .ok (.invokevirtual 321, 3) := by decide +kernel
theorem dX12_readsSymbols_67 : decode cX12_readsSymbols 67 = .ok (.ireturn, 1) := by decide +kernel
theorem dX12_readsSymbols_68 : decode cX12_readsSymbols 68 = .ok (.aload_n 0, 1) := by decide +kernel
theorem dX12_readsSymbols_69 : decode cX12_readsSymbols 69 = .ok (.getfield 77, 3) := by decide +kernel
theorem dX12_readsSymbols_72 : decode cX12_readsSymbols 72 = .ok (.lload_n 1, 1) := by decide +kernel
theorem dX12_readsSymbols_73 : decode cX12_readsSymbols 73 = .ok (.l2i, 1) := by decide +kernel
theorem dX12_readsSymbols_74 : decode cX12_readsSymbols 74 = .ok (.iconst 5, 1) := by decide +kernel
theorem dX12_readsSymbols_75 : decode cX12_readsSymbols 75 = .ok (.iadd, 1) := by decide +kernel
theorem dX12_readsSymbols_76 : decode cX12_readsSymbols 76 = .ok (.iaload, 1) := by decide +kernel
theorem dX12_readsSymbols_77 : decode cX12_readsSymbols 77 = .ok (.aload_n 0, 1) := by decide +kernel
theorem dX12_readsSymbols_78 : decode cX12_readsSymbols 78 = .ok (.getfield 344, 3) := by decide +kernel
theorem dX12_readsSymbols_81 : decode cX12_readsSymbols 81 = .ok (.if_icmp .le 15, 3) := by decide +kernel
theorem dX12_readsSymbols_84 : decode cX12_readsSymbols 84 = .ok (.aload_n 0, 1) := by decide +kernel
theorem dX12_readsSymbols_85 : decode cX12_readsSymbols 85 = .ok (.bipush 8, 2) := by decide +kernel
theorem dX12_readsSymbols_87 : decode cX12_readsSymbols 87 = .ok (.lload_n 1, 1) := by decide +kernel
theorem dX12_readsSymbols_88 : decode cX12_readsSymbols 88 = .ok (.ldc2_w 414, 3) := by decide +kernel
theorem dX12_readsSymbols_91 : decode cX12_readsSymbols 91 = .ok (.ladd, 1) := by decide +kernel
theorem dX12_readsSymbols_92 : decode cX12_readsSymbols 92 = .ok (.invokevirtual 321, 3) := by decide +kernel
theorem dX12_readsSymbols_95 : decode cX12_readsSymbols 95 = .ok (.ireturn, 1) := by decide +kernel
theorem dX12_readsSymbols_96 : decode cX12_readsSymbols 96 = .ok (.aload_n 0, 1) := by decide +kernel
theorem dX12_readsSymbols_97 : decode cX12_readsSymbols 97 = .ok (.lload_n 1, 1) := by decide +kernel
theorem dX12_readsSymbols_98 : decode cX12_readsSymbols 98 = .ok (.ldc2_w 361, 3) := by decide +kernel
theorem dX12_readsSymbols_101 : decode cX12_readsSymbols 101 = .ok (.ladd, 1) := by decide +kernel
theorem dX12_readsSymbols_102 : decode cX12_readsSymbols 102 = .ok (.invokevirtual 381, 3) := by decide +kernel
theorem dX12_readsSymbols_105 : decode cX12_readsSymbols 105 = .ok (.ifCond .ne 5, 3) := by decide +kernel
theorem dX12_readsSymbols_108 : decode cX12_readsSymbols 108 = .ok (.iconst 0, 1) := by decide +kernel
theorem dX12_readsSymbols_109 : decode cX12_readsSymbols 109 = .ok (.ireturn, 1) := by decide +kernel
theorem dX12_readsSymbols_110 : decode cX12_readsSymbols 110 = .ok (.lload_n 1, 1) := by decide +kernel
theorem dX12_readsSymbols_111 : decode cX12_readsSymbols 111 = .ok (.ldc2_w 298, 3) := by decide +kernel
theorem dX12_readsSymbols_114 : decode cX12_readsSymbols 114 = .ok (.ladd, 1) := by decide +kernel
theorem dX12_readsSymbols_115 : decode cX12_readsSymbols 115 = .ok (.lstore_n 1, 1) := by decide +kernel
theorem dX12_readsSymbols_116 : decode cX12_readsSymbols 116 = .ok (.goto (-111), 3) := by decide +kernel
theorem dX12_readsSymbols_119 : decode cX12_readsSymbols 119 = .ok (.iconst 1, 1) := by decide +kernel
theorem dX12_readsSymbols_120 : decode cX12_readsSymbols 120 = .ok (.ireturn, 1) := by decide +kernel
theorem dX12_readsFixups_0 : decode cX12_readsFixups 0 = .ok (.aload_n 0, 1) := by decide +kernel
theorem dX12_readsFixups_1 : decode cX12_readsFixups 1 = .ok (.iconst 0, 1) := by decide +kernel
theorem dX12_readsFixups_2 : decode cX12_readsFixups 2 = .ok (.putfield 416, 3) := by decide +kernel
theorem dX12_readsFixups_5 : decode cX12_readsFixups 5 = .ok (.aload_n 0, 1) := by decide +kernel
theorem dX12_readsFixups_6 : decode cX12_readsFixups 6 = .ok (.getfield 354, 3) := by decide +kernel
theorem dX12_readsFixups_9 : decode cX12_readsFixups 9 = .ok (.ifCond .ne 5, 3) := by decide +kernel
theorem dX12_readsFixups_12 : decode cX12_readsFixups 12 = .ok (.iconst 1, 1) := by decide +kernel
theorem dX12_readsFixups_13 : decode cX12_readsFixups 13 = .ok (.ireturn, 1) := by decide +kernel
theorem dX12_readsFixups_14 : decode cX12_readsFixups 14 = .ok (.aload_n 0, 1) := by decide +kernel
theorem dX12_readsFixups_15 : decode cX12_readsFixups 15 = .ok (.getfield 404, 3) := by decide +kernel
theorem dX12_readsFixups_18 : decode cX12_readsFixups 18 = .ok (.lstore_n 2, 1) := by decide +kernel
theorem dX12_readsFixups_19 : decode cX12_readsFixups 19 = .ok (.aload_n 0, 1) := by decide +kernel
theorem dX12_readsFixups_20 : decode cX12_readsFixups 20 = .ok (.getfield 407, 3) := by decide +kernel
theorem dX12_readsFixups_23 : decode cX12_readsFixups 23 = .ok (.lload_n 2, 1) := by decide +kernel
theorem dX12_readsFixups_24 : decode cX12_readsFixups 24 = .ok (.lsub, 1) := by decide +kernel
theorem dX12_readsFixups_25 : decode cX12_readsFixups 25 = .ok (.ldc2_w 276, 3) := by decide +kernel
theorem dX12_readsFixups_28 : decode cX12_readsFixups 28 = .ok (.lcmp, 1) := by decide +kernel
theorem dX12_readsFixups_29 : decode cX12_readsFixups 29 = .ok (.ifCond .lt 13, 3) := by decide +kernel
theorem dX12_readsFixups_32 : decode cX12_readsFixups 32 = .ok (.aload_n 0, 1) := by decide +kernel
theorem dX12_readsFixups_33 : decode cX12_readsFixups 33 = .ok (.lload_n 2, 1) := by decide +kernel
theorem dX12_readsFixups_34 : decode cX12_readsFixups 34 = .ok (.invokevirtual 307, 3) := by decide +kernel
theorem dX12_readsFixups_37 : decode cX12_readsFixups 37 = .ok (.lconst 0, 1) := by decide +kernel
theorem dX12_readsFixups_38 : decode cX12_readsFixups 38 = .ok (.lcmp, 1) := by decide +kernel
theorem dX12_readsFixups_39 : decode cX12_readsFixups 39 = .ok (.ifCond .eq 11, 3) := by decide +kernel
theorem dX12_readsFixups_42 : decode cX12_readsFixups 42 = .ok (.aload_n 0, 1) := by decide +kernel
theorem dX12_readsFixups_43 : decode cX12_readsFixups 43 = .ok (.bipush 9, 2) := by decide +kernel
theorem dX12_readsFixups_45 : decode cX12_readsFixups 45 = .ok (.lload_n 2, 1) := by decide +kernel
theorem dX12_readsFixups_46 : decode cX12_readsFixups 46 = .ok (.invokevirtual 321, 3) := by decide +kernel
theorem dX12_readsFixups_49 : decode cX12_readsFixups 49 = .ok (.ireturn, 1) := by decide +kernel
theorem dX12_readsFixups_50 : decode cX12_readsFixups 50 = .ok (.aload_n 0, 1) := by decide +kernel
theorem dX12_readsFixups_51 : decode cX12_readsFixups 51 = .ok (.lload_n 2, 1) := by decide +kernel
theorem dX12_readsFixups_52 : decode cX12_readsFixups 52 = .ok (.ldc2_w 359, 3) := by decide +kernel
theorem dX12_readsFixups_55 : decode cX12_readsFixups 55 = .ok (.ladd, 1) := by decide +kernel
theorem dX12_readsFixups_56 : decode cX12_readsFixups 56 = .ok (.invokevirtual 307, 3) := by decide +kernel
theorem dX12_readsFixups_59 : decode cX12_readsFixups 59 = .ok (.lconst 1, 1) := by decide +kernel
theorem dX12_readsFixups_60 : decode cX12_readsFixups 60 = .ok (.lcmp, 1) := by decide +kernel
theorem dX12_readsFixups_61 : decode cX12_readsFixups 61 = .ok (.ifCond .eq 15, 3) := by decide +kernel
theorem dX12_readsFixups_64 : decode cX12_readsFixups 64 = .ok (.aload_n 0, 1) := by decide +kernel
theorem dX12_readsFixups_65 : decode cX12_readsFixups 65 = .ok (.bipush 9, 2) := by decide +kernel
theorem dX12_readsFixups_67 : decode cX12_readsFixups 67 = .ok (.lload_n 2, 1) := by decide +kernel
theorem dX12_readsFixups_68 : decode cX12_readsFixups 68 = .ok (.ldc2_w 359, 3) := by decide +kernel
theorem dX12_readsFixups_71 : decode cX12_readsFixups 71 = .ok (.ladd, 1) := by decide +kernel
theorem dX12_readsFixups_72 : decode cX12_readsFixups 72 = .ok (.invokevirtual 321, 3) := by decide +kernel
theorem dX12_readsFixups_75 : decode cX12_readsFixups 75 = .ok (.ireturn, 1) := by decide +kernel
theorem dX12_readsFixups_76 : decode cX12_readsFixups 76 = .ok (.aload_n 0, 1) := by decide +kernel
theorem dX12_readsFixups_77 : decode cX12_readsFixups 77 = .ok (.lload_n 2, 1) := by decide +kernel
theorem dX12_readsFixups_78 : decode cX12_readsFixups 78 = .ok (.ldc2_w 294, 3) := by decide +kernel
theorem dX12_readsFixups_81 : decode cX12_readsFixups 81 = .ok (.ladd, 1) := by decide +kernel
theorem dX12_readsFixups_82 : decode cX12_readsFixups 82 = .ok (.invokevirtual 307, 3) := by decide +kernel
theorem dX12_readsFixups_85 : decode cX12_readsFixups 85 = .ok (.lconst 0, 1) := by decide +kernel
theorem dX12_readsFixups_86 : decode cX12_readsFixups 86 = .ok (.lcmp, 1) := by decide +kernel
theorem dX12_readsFixups_87 : decode cX12_readsFixups 87 = .ok (.ifCond .eq 15, 3) := by decide +kernel
theorem dX12_readsFixups_90 : decode cX12_readsFixups 90 = .ok (.aload_n 0, 1) := by decide +kernel
theorem dX12_readsFixups_91 : decode cX12_readsFixups 91 = .ok (.bipush 9, 2) := by decide +kernel
theorem dX12_readsFixups_93 : decode cX12_readsFixups 93 = .ok (.lload_n 2, 1) := by decide +kernel
theorem dX12_readsFixups_94 : decode cX12_readsFixups 94 = .ok (.ldc2_w 294, 3) := by decide +kernel
theorem dX12_readsFixups_97 : decode cX12_readsFixups 97 = .ok (.ladd, 1) := by decide +kernel
theorem dX12_readsFixups_98 : decode cX12_readsFixups 98 = .ok (.invokevirtual 321, 3) := by decide +kernel
theorem dX12_readsFixups_101 : decode cX12_readsFixups 101 = .ok (.ireturn, 1) := by decide +kernel
theorem dX12_readsFixups_102 : decode cX12_readsFixups 102 = .ok (.lload_n 2, 1) := by decide +kernel
theorem dX12_readsFixups_103 : decode cX12_readsFixups 103 = .ok (.aload_n 0, 1) := by decide +kernel
theorem dX12_readsFixups_104 : decode cX12_readsFixups 104 = .ok (.lload_n 2, 1) := by decide +kernel
theorem dX12_readsFixups_105 : decode cX12_readsFixups 105 = .ok (.ldc2_w 311, 3) := by decide +kernel
theorem dX12_readsFixups_108 : decode cX12_readsFixups 108 = .ok (.ladd, 1) := by decide +kernel
theorem dX12_readsFixups_109 : decode cX12_readsFixups 109 = .ok (.invokevirtual 307, 3) := by decide +kernel
theorem dX12_readsFixups_112 : decode cX12_readsFixups 112 = .ok (.ladd, 1) := by decide +kernel
theorem dX12_readsFixups_113 : decode cX12_readsFixups 113 = .ok (.lstore 4, 2) := by decide +kernel
theorem dX12_readsFixups_115 : decode cX12_readsFixups 115 = .ok (.aload_n 0, 1) := by decide +kernel
theorem dX12_readsFixups_116 : decode cX12_readsFixups 116 = .ok (.getfield 407, 3) := by decide +kernel
theorem dX12_readsFixups_119 : decode cX12_readsFixups 119 = .ok (.lload 4, 2) := by decide +kernel
theorem dX12_readsFixups_121 : decode cX12_readsFixups 121 = .ok (.lsub, 1) := by decide +kernel
theorem dX12_readsFixups_122 : decode cX12_readsFixups 122 = .ok (.ldc2_w 311, 3) := by decide +kernel
theorem dX12_readsFixups_125 : decode cX12_readsFixups 125 = .ok (.lcmp, 1) := by decide +kernel
theorem dX12_readsFixups_126 : decode cX12_readsFixups 126 = .ok (.ifCond .ge 15, 3) := by decide +kernel
theorem dX12_readsFixups_129 : decode cX12_readsFixups 129 = .ok (.aload_n 0, 1) := by decide +kernel
theorem dX12_readsFixups_130 : decode cX12_readsFixups 130 = .ok (.bipush 9, 2) := by decide +kernel
theorem dX12_readsFixups_132 : decode cX12_readsFixups 132 = .ok (.lload_n 2, 1) := by decide +kernel
theorem dX12_readsFixups_133 : decode cX12_readsFixups 133 = .ok (.ldc2_w 311, 3) := by decide +kernel
theorem dX12_readsFixups_136 : decode cX12_readsFixups 136 = .ok (.ladd, 1) := by decide +kernel
theorem dX12_readsFixups_137 : decode cX12_readsFixups 137 = .ok (.invokevirtual 321, 3) := by decide +kernel
theorem dX12_readsFixups_140 : decode cX12_readsFixups 140 = .ok (.ireturn, 1) := by decide +kernel
theorem dX12_readsFixups_141 : decode cX12_readsFixups 141 = .ok (.aload_n 0, 1) := by decide +kernel
theorem dX12_readsFixups_142 : decode cX12_readsFixups 142 = .ok (.lload 4, 2) := by decide +kernel
theorem dX12_readsFixups_144 : decode cX12_readsFixups 144 = .ok (.invokevirtual 307, 3) := by decide +kernel
theorem dX12_readsFixups_147 : decode cX12_readsFixups 147 = .ok (.aload_n 0, 1) := by decide +kernel
theorem dX12_readsFixups_148 : decode cX12_readsFixups 148 = .ok (.getfield 341, 3) := by decide +kernel
theorem dX12_readsFixups_151 : decode cX12_readsFixups 151 = .ok (.i2l, 1) := by decide +kernel
theorem dX12_readsFixups_152 : decode cX12_readsFixups 152 = .ok (.lcmp, 1) := by decide +kernel
theorem dX12_readsFixups_153 : decode cX12_readsFixups 153 = .ok (.ifCond .ne 27, 3) := by decide +kernel
theorem dX12_readsFixups_156 : decode cX12_readsFixups 156 = .ok (.aload_n 0, 1) := by decide +kernel
theorem dX12_readsFixups_157 : decode cX12_readsFixups 157 = .ok (.getfield 407, 3) := by decide +kernel
theorem dX12_readsFixups_160 : decode cX12_readsFixups 160 = .ok (.lload 4, 2) := by decide +kernel
theorem dX12_readsFixups_162 : decode cX12_readsFixups 162 = .ok (.lsub, 1) := by decide +kernel
theorem dX12_readsFixups_163 : decode cX12_readsFixups 163 = .ok (.ldc2_w 311, 3) := by decide +kernel
theorem dX12_readsFixups_166 : decode cX12_readsFixups 166 = .ok (.ldc2_w 311, 3) := by decide +kernel
theorem dX12_readsFixups_169 : decode cX12_readsFixups 169 = .ok (.aload_n 0, 1) := by decide +kernel
theorem dX12_readsFixups_170 : decode cX12_readsFixups 170 = .ok (.getfield 341, 3) := by decide +kernel
theorem dX12_readsFixups_173 : decode cX12_readsFixups 173 = .ok (.i2l, 1) := by decide +kernel
theorem dX12_readsFixups_174 : decode cX12_readsFixups 174 = .ok (.lmul, 1) := by decide +kernel
theorem dX12_readsFixups_175 : decode cX12_readsFixups 175 = .ok (.ladd, 1) := by decide +kernel
theorem dX12_readsFixups_176 : decode cX12_readsFixups 176 = .ok (.lcmp, 1) := by decide +kernel
theorem dX12_readsFixups_177 : decode cX12_readsFixups 177 = .ok (.ifCond .ge 12, 3) := by decide +kernel
theorem dX12_readsFixups_180 : decode cX12_readsFixups 180 = .ok (.aload_n 0, 1) := by decide +kernel
theorem dX12_readsFixups_181 : decode cX12_readsFixups 181 = .ok (.bipush 9, 2) := by decide +kernel
theorem dX12_readsFixups_183 : decode cX12_readsFixups 183 = .ok (.lload 4, 2) := by decide +kernel
theorem dX12_readsFixups_185 : decode cX12_readsFixups 185 = .ok (.invokevirtual 321, 3) := by decide +kernel
theorem dX12_readsFixups_188 : decode cX12_readsFixups 188 = .ok (.ireturn, 1) := by decide +kernel
theorem dX12_readsFixups_189 : decode cX12_readsFixups 189 = .ok (.aload_n 0, 1) := by decide +kernel
theorem dX12_readsFixups_190 : decode cX12_readsFixups 190 = .ok (.aload_n 0, 1) := by decide +kernel
theorem dX12_readsFixups_191 : decode cX12_readsFixups 191 = .ok (.lload_n 2, 1) := by decide +kernel
theorem dX12_readsFixups_192 : decode cX12_readsFixups 192 = .ok (.ldc2_w 298, 3) := by decide +kernel
theorem dX12_readsFixups_195 : decode cX12_readsFixups 195 = .ok (.ladd, 1) := by decide +kernel
theorem dX12_readsFixups_196 : decode cX12_readsFixups 196 = .ok (.invokevirtual 307, 3) := by decide +kernel
theorem dX12_readsFixups_199 : decode cX12_readsFixups 199 = .ok (.putfield 419, 3) := by decide +kernel
theorem dX12_readsFixups_202 : decode cX12_readsFixups 202 = .ok (.aload_n 0, 1) := by decide +kernel
theorem dX12_readsFixups_203 : decode cX12_readsFixups 203 = .ok (.lload_n 2, 1) := by decide +kernel
theorem dX12_readsFixups_204 : decode cX12_readsFixups 204 = .ok (.aload_n 0, 1) := by decide +kernel
theorem dX12_readsFixups_205 : decode cX12_readsFixups 205 = .ok (.lload_n 2, 1) := by decide +kernel
theorem dX12_readsFixups_206 : decode cX12_readsFixups 206 = .ok (.ldc2_w 361, 3) := by decide +kernel
theorem dX12_readsFixups_209 : decode cX12_readsFixups 209 = .ok (.ladd, 1) := by decide +kernel
theorem dX12_readsFixups_210 : decode cX12_readsFixups 210 = .ok (.invokevirtual 307, 3) := by decide +kernel
theorem dX12_readsFixups_213 : decode cX12_readsFixups 213 = .ok (.ladd, 1) := by decide +kernel
theorem dX12_readsFixups_214 : decode cX12_readsFixups 214 = .ok (.putfield 422, 3) := by decide +kernel
theorem dX12_readsFixups_217 : decode cX12_readsFixups 217 = .ok (.aload_n 0, 1) := by decide +kernel
theorem dX12_readsFixups_218 : decode cX12_readsFixups 218 = .ok (.lload_n 2, 1) := by decide +kernel
theorem dX12_readsFixups_219 : decode cX12_readsFixups 219 = .ok (.aload_n 0, 1) := by decide +kernel
theorem dX12_readsFixups_220 : decode cX12_readsFixups 220 = .ok (.lload_n 2, 1) := by decide +kernel
theorem dX12_readsFixups_221 : decode cX12_readsFixups 221 = .ok (.ldc2_w 393, 3) := by decide +kernel
theorem dX12_readsFixups_224 : decode cX12_readsFixups 224 = .ok (.ladd, 1) := by decide +kernel
theorem dX12_readsFixups_225 : decode cX12_readsFixups 225 = .ok (.invokevirtual 307, 3) := by decide +kernel
theorem dX12_readsFixups_228 : decode cX12_readsFixups 228 = .ok (.ladd, 1) := by decide +kernel
theorem dX12_readsFixups_229 : decode cX12_readsFixups 229 = .ok (.putfield 425, 3) := by decide +kernel
theorem dX12_readsFixups_232 : decode cX12_readsFixups 232 = .ok (.aload_n 0, 1) := by decide +kernel
theorem dX12_readsFixups_233 : decode cX12_readsFixups 233 = .ok (.getfield 419, 3) := by decide +kernel
theorem dX12_readsFixups_236 : decode cX12_readsFixups 236 = .ok (.ldc2_w 379, 3) := by decide +kernel
theorem dX12_readsFixups_239 : decode cX12_readsFixups 239 = .ok (.lcmp, 1) := by decide +kernel
theorem dX12_readsFixups_240 : decode cX12_readsFixups 240 = .ok (.ifCond .le 15, 3) := by decide +kernel
theorem dX12_readsFixups_243 : decode cX12_readsFixups 243 = .ok (.aload_n 0, 1) := by decide +kernel
theorem dX12_readsFixups_244 : decode cX12_readsFixups 244 = .ok (.bipush 9, 2) := by decide +kernel
theorem dX12_readsFixups_246 : decode cX12_readsFixups 246 = .ok (.lload_n 2, 1) := by decide +kernel
theorem dX12_readsFixups_247 : decode cX12_readsFixups 247 = .ok (.ldc2_w 298, 3) := by decide +kernel
theorem dX12_readsFixups_250 : decode cX12_readsFixups 250 = .ok (.ladd, 1) := by decide +kernel
theorem dX12_readsFixups_251 : decode cX12_readsFixups 251 = .ok (.invokevirtual 321, 3) := by decide +kernel
theorem dX12_readsFixups_254 : decode cX12_readsFixups 254 = .ok (.ireturn, 1) := by decide +kernel
theorem dX12_readsFixups_255 : decode cX12_readsFixups 255 = .ok (.aload_n 0, 1) := by decide +kernel
theorem dX12_readsFixups_256 : decode cX12_readsFixups 256 = .ok (.getfield 422, 3) := by decide +kernel
theorem dX12_readsFixups_259 : decode cX12_readsFixups 259 = .ok (.ldc2_w 311, 3) := by decide +kernel
theorem dX12_readsFixups_262 : decode cX12_readsFixups 262 = .ok (.aload_n 0, 1) := by decide +kernel
theorem dX12_readsFixups_263 : decode cX12_readsFixups 263 = .ok (.getfield 419, 3) := by decide +kernel
theorem dX12_readsFixups_266 : decode cX12_readsFixups 266 = .ok (.lmul, 1) := by decide +kernel
theorem dX12_readsFixups_267 : decode cX12_readsFixups 267 = .ok (.ladd, 1) := by decide +kernel
theorem dX12_readsFixups_268 : decode cX12_readsFixups 268 = .ok (.aload_n 0, 1) := by decide +kernel
theorem dX12_readsFixups_269 : decode cX12_readsFixups 269 = .ok (.getfield 407, 3) := by decide +kernel
theorem dX12_readsFixups_272 : decode cX12_readsFixups 272 = .ok (.lcmp, 1) := by decide +kernel
theorem dX12_readsFixups_273 : decode cX12_readsFixups 273 = .ok (.ifCond .le 15, 3) := by decide +kernel
theorem dX12_readsFixups_276 : decode cX12_readsFixups 276 = .ok (.aload_n 0, 1) := by decide +kernel
theorem dX12_readsFixups_277 : decode cX12_readsFixups 277 = .ok (.bipush 9, 2) := by decide +kernel
theorem dX12_readsFixups_279 : decode cX12_readsFixups 279 = .ok (.lload_n 2, 1) := by decide +kernel
theorem dX12_readsFixups_280 : decode cX12_readsFixups 280 = .ok (.ldc2_w 361, 3) := by decide +kernel
theorem dX12_readsFixups_283 : decode cX12_readsFixups 283 = .ok (.ladd, 1) := by decide +kernel
theorem dX12_readsFixups_284 : decode cX12_readsFixups 284 = .ok (.invokevirtual 321, 3) := by decide +kernel
theorem dX12_readsFixups_287 : decode cX12_readsFixups 287 = .ok (.ireturn, 1) := by decide +kernel
theorem dX12_readsFixups_288 : decode cX12_readsFixups 288 = .ok (.iconst 0, 1) := by decide +kernel
theorem dX12_readsFixups_289 : decode cX12_readsFixups 289 = .ok (.istore 6, 2) := by decide +kernel
theorem dX12_readsFixups_291 : decode cX12_readsFixups 291 = .ok (.iload 6, 2) := by decide +kernel
theorem dX12_readsFixups_293 : decode cX12_readsFixups 293 = .ok (.i2l, 1) := by decide +kernel
theorem dX12_readsFixups_294 : decode cX12_readsFixups 294 = .ok (.aload_n 0, 1) := by decide +kernel
theorem dX12_readsFixups_295 : decode cX12_readsFixups 295 = .ok (.getfield 419, 3) := by decide +kernel
theorem dX12_readsFixups_298 : decode cX12_readsFixups 298 = .ok (.lcmp, 1) := by decide +kernel
theorem dX12_readsFixups_299 : decode cX12_readsFixups 299 = .ok (.ifCond .ge 67, 3) := by decide +kernel
theorem dX12_readsFixups_302 : decode cX12_readsFixups 302 = .ok (.aload_n 0, 1) := by decide +kernel
theorem dX12_readsFixups_303 : decode cX12_readsFixups 303 = .ok (.aload_n 0, 1) := by decide +kernel
theorem dX12_readsFixups_304 : decode cX12_readsFixups 304 = .ok (.getfield 425, 3) := by decide +kernel
theorem dX12_readsFixups_307 : decode cX12_readsFixups 307 = .ok (.aload_n 0, 1) := by decide +kernel
theorem dX12_readsFixups_308 : decode cX12_readsFixups 308 = .ok (.aload_n 0, 1) := by decide +kernel
theorem dX12_readsFixups_309 : decode cX12_readsFixups 309 = .ok (.getfield 422, 3) := by decide +kernel
theorem dX12_readsFixups_312 : decode cX12_readsFixups 312 = .ok (.ldc2_w 311, 3) := by decide +kernel
theorem dX12_readsFixups_315 : decode cX12_readsFixups 315 = .ok (.iload 6, 2) := by decide +kernel
theorem dX12_readsFixups_317 : decode cX12_readsFixups 317 = .ok (.i2l, 1) := by decide +kernel
theorem dX12_readsFixups_318 : decode cX12_readsFixups 318 = .ok (.lmul, 1) := by decide +kernel
theorem dX12_readsFixups_319 : decode cX12_readsFixups 319 = .ok (.ladd, 1) := by decide +kernel
theorem dX12_readsFixups_320 : decode cX12_readsFixups 320 = .ok (.invokevirtual 307, 3) := by decide +kernel
theorem dX12_readsFixups_323 : decode cX12_readsFixups 323 = .ok (.bipush 9, 2) := by decide +kernel
theorem dX12_readsFixups_325 : decode cX12_readsFixups 325 = .ok (.lshr, 1) := by decide +kernel
theorem dX12_readsFixups_326 : decode cX12_readsFixups 326 = .ok (.ladd, 1) := by decide +kernel
theorem dX12_readsFixups_327 : decode cX12_readsFixups 327 = .ok (.aload_n 0, 1) := by decide +kernel
theorem dX12_readsFixups_328 : decode cX12_readsFixups 328 = .ok (.getfield 407, 3) := by decide +kernel
theorem dX12_readsFixups_331 : decode cX12_readsFixups 331 = .ok (.invokevirtual 410, 3) := by decide +kernel
theorem dX12_readsFixups_334 : decode cX12_readsFixups 334 = .ok (.ldc2_w 86, 3) := by decide +kernel
theorem dX12_readsFixups_337 : decode cX12_readsFixups 337 = .ok (.lcmp, 1) := by decide +kernel
theorem dX12_readsFixups_338 : decode cX12_readsFixups 338 = .ok (.ifCond .ne 22, 3) := by decide +kernel
theorem dX12_readsFixups_341 : decode cX12_readsFixups 341 = .ok (.aload_n 0, 1) := by decide +kernel
theorem dX12_readsFixups_342 : decode cX12_readsFixups 342 = .ok (.bipush 9, 2) := by decide +kernel
theorem dX12_readsFixups_344 : decode cX12_readsFixups 344 = .ok (.aload_n 0, 1) := by decide +kernel
theorem dX12_readsFixups_345 : decode cX12_readsFixups 345 = .ok (.getfield 422, 3) := by decide +kernel
theorem dX12_readsFixups_348 : decode cX12_readsFixups 348 = .ok (.ldc2_w 311, 3) := by decide +kernel
theorem dX12_readsFixups_351 : decode cX12_readsFixups 351 = .ok (.iload 6, 2) := by decide +kernel
theorem dX12_readsFixups_353 : decode cX12_readsFixups 353 = .ok (.i2l, 1) := by decide +kernel
theorem dX12_readsFixups_354 : decode cX12_readsFixups 354 = .ok (.lmul, 1) := by decide +kernel
theorem dX12_readsFixups_355 : decode cX12_readsFixups 355 = .ok (.ladd, 1) := by decide +kernel
theorem dX12_readsFixups_356 : decode cX12_readsFixups 356 = .ok (.invokevirtual 321, 3) := by decide +kernel
theorem dX12_readsFixups_359 : decode cX12_readsFixups 359 = .ok (.ireturn, 1) := by decide +kernel
theorem dX12_readsFixups_360 : decode cX12_readsFixups 360 = .ok (.iinc 6 1, 3) := by decide +kernel
theorem dX12_readsFixups_363 : decode cX12_readsFixups 363 = .ok (.goto (-72), 3) := by decide +kernel
theorem dX12_readsFixups_366 : decode cX12_readsFixups 366 = .ok (.iconst 0, 1) := by decide +kernel
theorem dX12_readsFixups_367 : decode cX12_readsFixups 367 = .ok (.istore 6, 2) := by decide +kernel
theorem dX12_readsFixups_369 : decode cX12_readsFixups 369 = .ok (.iload 6, 2) := by decide +kernel
theorem dX12_readsFixups_371 : decode cX12_readsFixups 371 = .ok (.aload_n 0, 1) := by decide +kernel
theorem dX12_readsFixups_372 : decode cX12_readsFixups 372 = .ok (.getfield 341, 3) := by decide +kernel
theorem dX12_readsFixups_375 : decode cX12_readsFixups 375 = .ok (.if_icmp .ge 66, 3) := by decide +kernel
theorem dX12_readsFixups_378 : decode cX12_readsFixups 378 = .ok (.aload_n 0, 1) := by decide +kernel
theorem dX12_readsFixups_379 : decode cX12_readsFixups 379 = .ok (.lload 4, 2) := by decide +kernel
theorem dX12_readsFixups_381 : decode cX12_readsFixups 381 = .ok (.ldc2_w 311, 3) := by decide +kernel
theorem dX12_readsFixups_384 : decode cX12_readsFixups 384 = .ok (.ladd, 1) := by decide +kernel
theorem dX12_readsFixups_385 : decode cX12_readsFixups 385 = .ok (.ldc2_w 311, 3) := by decide +kernel
theorem dX12_readsFixups_388 : decode cX12_readsFixups 388 = .ok (.iload 6, 2) := by decide +kernel
theorem dX12_readsFixups_390 : decode cX12_readsFixups 390 = .ok (.i2l, 1) := by decide +kernel
theorem dX12_readsFixups_391 : decode cX12_readsFixups 391 = .ok (.lmul, 1) := by decide +kernel
theorem dX12_readsFixups_392 : decode cX12_readsFixups 392 = .ok (.ladd, 1) := by decide +kernel
theorem dX12_readsFixups_393 : decode cX12_readsFixups 393 = .ok (.invokevirtual 307, 3) := by decide +kernel
theorem dX12_readsFixups_396 : decode cX12_readsFixups 396 = .ok (.lstore 7, 2) := by decide +kernel
theorem dX12_readsFixups_398 : decode cX12_readsFixups 398 = .ok (.lload 7, 2) := by decide +kernel
theorem dX12_readsFixups_400 : decode cX12_readsFixups 400 = .ok (.lconst 0, 1) := by decide +kernel
theorem dX12_readsFixups_401 : decode cX12_readsFixups 401 = .ok (.lcmp, 1) := by decide +kernel
theorem dX12_readsFixups_402 : decode cX12_readsFixups 402 = .ok (.ifCond .eq 33, 3) := by decide +kernel
theorem dX12_readsFixups_405 : decode cX12_readsFixups 405 = .ok (.aload_n 0, 1) := by decide +kernel
theorem dX12_readsFixups_406 : decode cX12_readsFixups 406 = .ok (.iload 6, 2) := by decide +kernel
theorem dX12_readsFixups_408 : decode cX12_readsFixups 408 = .ok (.lload 4, 2) := by decide +kernel
theorem dX12_readsFixups_410 : decode cX12_readsFixups 410 = .ok (.lload 7, 2) := by decide +kernel
theorem dX12_readsFixups_412 : decode cX12_readsFixups 412 = .ok (.ladd, 1) := by decide +kernel
theorem dX12_readsFixups_413 : decode cX12_readsFixups 413 = .ok (.lload 4, 2) := by decide +kernel
theorem dX12_readsFixups_415 : decode cX12_readsFixups 415 = .ok (.ldc2_w 311, 3) := by decide +kernel
theorem dX12_readsFixups_418 : decode cX12_readsFixups 418 = .ok (.ladd, 1) := by decide +kernel
theorem dX12_readsFixups_419 : decode cX12_readsFixups 419 = .ok (.ldc2_w 311, 3) := by decide +kernel
theorem dX12_readsFixups_422 : decode cX12_readsFixups 422 = .ok (.iload 6, 2) := by decide +kernel
theorem dX12_readsFixups_424 : decode cX12_readsFixups 424 = .ok (.i2l, 1) := by decide +kernel
theorem dX12_readsFixups_425 : decode cX12_readsFixups 425 = .ok (.lmul, 1) := by decide +kernel
theorem dX12_readsFixups_426 : decode cX12_readsFixups 426 = .ok (.ladd, 1) := by decide +kernel
theorem dX12_readsFixups_427 : decode cX12_readsFixups 427 = .ok (.invokevirtual 428, 3) := by decide +kernel
theorem dX12_readsFixups_430 : decode cX12_readsFixups 430 = .ok (.ifCond .ne 5, 3) := by decide +kernel
theorem dX12_readsFixups_433 : decode cX12_readsFixups 433 = .ok (.iconst 0, 1) := by decide +kernel
theorem dX12_readsFixups_434 : decode cX12_readsFixups 434 = .ok (.ireturn, 1) := by decide +kernel
theorem dX12_readsFixups_435 : decode cX12_readsFixups 435 = .ok (.iinc 6 1, 3) := by decide +kernel
theorem dX12_readsFixups_438 : decode cX12_readsFixups 438 = .ok (.goto (-69), 3) := by decide +kernel
theorem dX12_readsFixups_441 : decode cX12_readsFixups 441 = .ok (.iconst 0, 1) := by decide +kernel
theorem dX12_readsFixups_442 : decode cX12_readsFixups 442 = .ok (.istore 6, 2) := by decide +kernel
theorem dX12_readsFixups_444 : decode cX12_readsFixups 444 = .ok (.iload 6, 2) := by decide +kernel
theorem dX12_readsFixups_446 : decode cX12_readsFixups 446 = .ok (.aload_n 0, 1) := by decide +kernel
theorem dX12_readsFixups_447 : decode cX12_readsFixups 447 = .ok (.getfield 341, 3) := by decide +kernel
theorem dX12_readsFixups_450 : decode cX12_readsFixups 450 = .ok (.if_icmp .ge 109, 3) := by decide +kernel
theorem dX12_readsFixups_453 : decode cX12_readsFixups 453 = .ok (.aload_n 0, 1) := by decide +kernel
theorem dX12_readsFixups_454 : decode cX12_readsFixups 454 = .ok (.lload 4, 2) := by decide +kernel
theorem dX12_readsFixups_456 : decode cX12_readsFixups 456 = .ok (.ldc2_w 311, 3) := by decide +kernel
theorem dX12_readsFixups_459 : decode cX12_readsFixups 459 = .ok (.ladd, 1) := by decide +kernel
theorem dX12_readsFixups_460 : decode cX12_readsFixups 460 = .ok (.ldc2_w 311, 3) := by decide +kernel
theorem dX12_readsFixups_463 : decode cX12_readsFixups 463 = .ok (.iload 6, 2) := by decide +kernel
theorem dX12_readsFixups_465 : decode cX12_readsFixups 465 = .ok (.i2l, 1) := by decide +kernel
theorem dX12_readsFixups_466 : decode cX12_readsFixups 466 = .ok (.lmul, 1) := by decide +kernel
theorem dX12_readsFixups_467 : decode cX12_readsFixups 467 = .ok (.ladd, 1) := by decide +kernel
theorem dX12_readsFixups_468 : decode cX12_readsFixups 468 = .ok (.invokevirtual 307, 3) := by decide +kernel
theorem dX12_readsFixups_471 : decode cX12_readsFixups 471 = .ok (.lstore 7, 2) := by decide +kernel
theorem dX12_readsFixups_473 : decode cX12_readsFixups 473 = .ok (.lload 7, 2) := by decide +kernel
theorem dX12_readsFixups_475 : decode cX12_readsFixups 475 = .ok (.lconst 0, 1) := by decide +kernel
theorem dX12_readsFixups_476 : decode cX12_readsFixups 476 = .ok (.lcmp, 1) := by decide +kernel
theorem dX12_readsFixups_477 : decode cX12_readsFixups 477 = .ok (.ifCond .ne 6, 3) := by decide +kernel
theorem dX12_readsFixups_480 : decode cX12_readsFixups 480 = .ok (.goto 73, 3) := by decide +kernel
theorem dX12_readsFixups_483 : decode cX12_readsFixups 483 = .ok (.iconst 0, 1) := by decide +kernel
theorem dX12_readsFixups_484 : decode cX12_readsFixups 484 = .ok (.istore 9, 2) := by decide +kernel
theorem dX12_readsFixups_486 : decode cX12_readsFixups 486 = .ok (.iload 9, 2) := by decide +kernel
theorem dX12_readsFixups_488 : decode cX12_readsFixups 488 = .ok (.aload_n 0, 1) := by decide +kernel
theorem dX12_readsFixups_489 : decode cX12_readsFixups 489 = .ok (.lload 4, 2) := by decide +kernel
theorem dX12_readsFixups_491 : decode cX12_readsFixups 491 = .ok (.lload 7, 2) := by decide +kernel
theorem dX12_readsFixups_493 : decode cX12_readsFixups 493 = .ok (.ladd, 1) := by decide +kernel
theorem dX12_readsFixups_494 : decode cX12_readsFixups 494 = .ok (.ldc2_w 359, 3) := by decide +kernel
theorem dX12_readsFixups_497 : decode cX12_readsFixups 497 = .ok (.ladd, 1) := by decide +kernel
theorem dX12_readsFixups_498 : decode cX12_readsFixups 498 = .ok (.invokevirtual 432, 3) := by decide +kernel
theorem dX12_readsFixups_501 : decode cX12_readsFixups 501 = .ok (.if_icmp .ge 52, 3) := by decide +kernel
theorem dX12_readsFixups_504 : decode cX12_readsFixups 504 = .ok (.aload_n 0, 1) := by decide +kernel
theorem dX12_readsFixups_505 : decode cX12_readsFixups 505 = .ok (.iload 6, 2) := by decide +kernel
theorem dX12_readsFixups_507 : decode cX12_readsFixups 507 = .ok (.iload 9, 2) := by decide +kernel
theorem dX12_readsFixups_509 : decode cX12_readsFixups 509 = .ok (.aload_n 0, 1) := by decide +kernel
theorem dX12_readsFixups_510 : decode cX12_readsFixups 510 = .ok (.lload 4, 2) := by decide +kernel
theorem dX12_readsFixups_512 : decode cX12_readsFixups 512 = .ok (.lload 7, 2) := by decide +kernel
theorem dX12_readsFixups_514 : decode cX12_readsFixups 514 = .ok (.ladd, 1) := by decide +kernel
theorem dX12_readsFixups_515 : decode cX12_readsFixups 515 = .ok (.ldc2_w 311, 3) := by decide +kernel
theorem dX12_readsFixups_518 : decode cX12_readsFixups 518 = .ok (.ladd, 1) := by decide +kernel
theorem dX12_readsFixups_519 : decode cX12_readsFixups 519 = .ok (.invokevirtual 432, 3) := by decide +kernel
theorem dX12_readsFixups_522 : decode cX12_readsFixups 522 = .ok (.lload 4, 2) := by decide +kernel
theorem dX12_readsFixups_524 : decode cX12_readsFixups 524 = .ok (.lload 7, 2) := by decide +kernel
theorem dX12_readsFixups_526 : decode cX12_readsFixups 526 = .ok (.ladd, 1) := by decide +kernel
theorem dX12_readsFixups_527 : decode cX12_readsFixups 527 = .ok (.ldc2_w 436, 3) := by decide +kernel
theorem dX12_readsFixups_530 : decode cX12_readsFixups 530 = .ok (.ladd, 1) := by decide +kernel
theorem dX12_readsFixups_531 : decode cX12_readsFixups 531 = .ok (.ldc2_w 270, 3) := by decide +kernel
theorem dX12_readsFixups_534 : decode cX12_readsFixups 534 = .ok (.iload 9, 2) := by decide +kernel
theorem dX12_readsFixups_536 : decode cX12_readsFixups 536 = .ok (.i2l, 1) := by decide +kernel
theorem dX12_readsFixups_537 : decode cX12_readsFixups 537 = .ok (.lmul, 1) := by decide +kernel
theorem dX12_readsFixups_538 : decode cX12_readsFixups 538 = .ok (.ladd, 1) := by decide +kernel
theorem dX12_readsFixups_539 : decode cX12_readsFixups 539 = .ok (.invokevirtual 438, 3) := by decide +kernel
theorem dX12_readsFixups_542 : decode cX12_readsFixups 542 = .ok (.ifCond .ne 5, 3) := by decide +kernel
theorem dX12_readsFixups_545 : decode cX12_readsFixups 545 = .ok (.iconst 0, 1) := by decide +kernel
theorem dX12_readsFixups_546 : decode cX12_readsFixups 546 = .ok (.ireturn, 1) := by decide +kernel
theorem dX12_readsFixups_547 : decode cX12_readsFixups 547 = .ok (.iinc 9 1, 3) := by decide +kernel
theorem dX12_readsFixups_550 : decode cX12_readsFixups 550 = .ok (.goto (-64), 3) := by decide +kernel
theorem dX12_readsFixups_553 : decode cX12_readsFixups 553 = .ok (.iinc 6 1, 3) := by decide +kernel
theorem dX12_readsFixups_556 : decode cX12_readsFixups 556 = .ok (.goto (-112), 3) := by decide +kernel
theorem dX12_readsFixups_559 : decode cX12_readsFixups 559 = .ok (.iconst 1, 1) := by decide +kernel
theorem dX12_readsFixups_560 : decode cX12_readsFixups 560 = .ok (.ireturn, 1) := by decide +kernel
theorem dX12_readsPages_0 : decode cX12_readsPages 0 = .ok (.aload_n 0, 1) := by decide +kernel
theorem dX12_readsPages_1 : decode cX12_readsPages 1 = .ok (.getfield 407, 3) := by decide +kernel
theorem dX12_readsPages_4 : decode cX12_readsPages 4 = .ok (.lload_n 2, 1) := by decide +kernel
theorem dX12_readsPages_5 : decode cX12_readsPages 5 = .ok (.lsub, 1) := by decide +kernel
theorem dX12_readsPages_6 : decode cX12_readsPages 6 = .ok (.ldc2_w 436, 3) := by decide +kernel
theorem dX12_readsPages_9 : decode cX12_readsPages 9 = .ok (.lcmp, 1) := by decide +kernel
theorem dX12_readsPages_10 : decode cX12_readsPages 10 = .ok (.ifCond .ge 12, 3) := by decide +kernel
theorem dX12_readsPages_13 : decode cX12_readsPages 13 = .ok (.aload_n 0, 1) := by decide +kernel
theorem dX12_readsPages_14 : decode cX12_readsPages 14 = .ok (.bipush 9, 2) := by decide +kernel
theorem dX12_readsPages_16 : decode cX12_readsPages 16 = .ok (.lload 4, 2) := by decide +kernel
theorem dX12_readsPages_18 : decode cX12_readsPages 18 = .ok (.invokevirtual 321, 3) := by decide +kernel
theorem dX12_readsPages_21 : decode cX12_readsPages 21 = .ok (.ireturn, 1) := by decide +kernel
theorem dX12_readsPages_22 : decode cX12_readsPages 22 = .ok (.aload_n 0, 1) := by decide +kernel
theorem dX12_readsPages_23 : decode cX12_readsPages 23 = .ok (.lload_n 2, 1) := by decide +kernel
theorem dX12_readsPages_24 : decode cX12_readsPages 24 = .ok (.ldc2_w 359, 3) := by decide +kernel
theorem dX12_readsPages_27 : decode cX12_readsPages 27 = .ok (.ladd, 1) := by decide +kernel
theorem dX12_readsPages_28 : decode cX12_readsPages 28 = .ok (.invokevirtual 432, 3) := by decide +kernel
theorem dX12_readsPages_31 : decode cX12_readsPages 31 = .ok (.i2l, 1) := by decide +kernel
theorem dX12_readsPages_32 : decode cX12_readsPages 32 = .ok (.lstore 6, 2) := by decide +kernel
theorem dX12_readsPages_34 : decode cX12_readsPages 34 = .ok (.aload_n 0, 1) := by decide +kernel
theorem dX12_readsPages_35 : decode cX12_readsPages 35 = .ok (.lload_n 2, 1) := by decide +kernel
theorem dX12_readsPages_36 : decode cX12_readsPages 36 = .ok (.invokevirtual 307, 3) := by decide +kernel
theorem dX12_readsPages_39 : decode cX12_readsPages 39 = .ok (.ldc2_w 436, 3) := by decide +kernel
theorem dX12_readsPages_42 : decode cX12_readsPages 42 = .ok (.ldc2_w 270, 3) := by decide +kernel
theorem dX12_readsPages_45 : decode cX12_readsPages 45 = .ok (.lload 6, 2) := by decide +kernel
theorem dX12_readsPages_47 : decode cX12_readsPages 47 = .ok (.lmul, 1) := by decide +kernel
theorem dX12_readsPages_48 : decode cX12_readsPages 48 = .ok (.ladd, 1) := by decide +kernel
theorem dX12_readsPages_49 : decode cX12_readsPages 49 = .ok (.lcmp, 1) := by decide +kernel
theorem dX12_readsPages_50 : decode cX12_readsPages 50 = .ok (.ifCond .ne 23, 3) := by decide +kernel
theorem dX12_readsPages_53 : decode cX12_readsPages 53 = .ok (.aload_n 0, 1) := by decide +kernel
theorem dX12_readsPages_54 : decode cX12_readsPages 54 = .ok (.getfield 407, 3) := by decide +kernel
theorem dX12_readsPages_57 : decode cX12_readsPages 57 = .ok (.lload_n 2, 1) := by decide +kernel
theorem dX12_readsPages_58 : decode cX12_readsPages 58 = .ok (.lsub, 1) := by decide +kernel
theorem dX12_readsPages_59 : decode cX12_readsPages 59 = .ok (.ldc2_w 436, 3) := by decide +kernel
theorem dX12_readsPages_62 : decode cX12_readsPages 62 = .ok (.ldc2_w 270, 3) := by decide +kernel
theorem dX12_readsPages_65 : decode cX12_readsPages 65 = .ok (.lload 6, 2) := by decide +kernel
theorem dX12_readsPages_67 : decode cX12_readsPages 67 = .ok (.lmul, 1) := by decide +kernel
theorem dX12_readsPages_68 : decode cX12_readsPages 68 = .ok (.ladd, 1) := by decide +kernel
theorem dX12_readsPages_69 : decode cX12_readsPages 69 = .ok (.lcmp, 1) := by decide +kernel
theorem dX12_readsPages_70 : decode cX12_readsPages 70 = .ok (.ifCond .ge 11, 3) := by decide +kernel
theorem dX12_readsPages_73 : decode cX12_readsPages 73 = .ok (.aload_n 0, 1) := by decide +kernel
theorem dX12_readsPages_74 : decode cX12_readsPages 74 = .ok (.bipush 9, 2) := by decide +kernel
theorem dX12_readsPages_76 : decode cX12_readsPages 76 = .ok (.lload_n 2, 1) := by decide +kernel
theorem dX12_readsPages_77 : decode cX12_readsPages 77 = .ok (.invokevirtual 321, 3) := by decide +kernel
theorem dX12_readsPages_80 : decode cX12_readsPages 80 = .ok (.ireturn, 1) := by decide +kernel
theorem dX12_readsPages_81 : decode cX12_readsPages 81 = .ok (.aload_n 0, 1) := by decide +kernel
theorem dX12_readsPages_82 : decode cX12_readsPages 82 = .ok (.lload_n 2, 1) := by decide +kernel
theorem dX12_readsPages_83 : decode cX12_readsPages 83 = .ok (.ldc2_w 311, 3) := by decide +kernel
theorem dX12_readsPages_86 : decode cX12_readsPages 86 = .ok (.ladd, 1) := by decide +kernel
theorem dX12_readsPages_87 : decode cX12_readsPages 87 = .ok (.invokevirtual 432, 3) := by decide +kernel
theorem dX12_readsPages_90 : decode cX12_readsPages 90 = .ok (.istore 8, 2) := by decide +kernel
theorem dX12_readsPages_92 : decode cX12_readsPages 92 = .ok (.iload 8, 2) := by decide +kernel
theorem dX12_readsPages_94 : decode cX12_readsPages 94 = .ok (.i2l, 1) := by decide +kernel
theorem dX12_readsPages_95 : decode cX12_readsPages 95 = .ok (.invokestatic 170, 3) := by decide +kernel
theorem dX12_readsPages_98 : decode cX12_readsPages 98 = .ok (.ifCond .ne 15, 3) := by decide +kernel
theorem dX12_readsPages_101 : decode cX12_readsPages 101 = .ok (.aload_n 0, 1) := by decide +kernel
theorem dX12_readsPages_102 : decode cX12_readsPages 102 = .ok (.bipush 9, 2) := by decide +kernel
theorem dX12_readsPages_104 : decode cX12_readsPages 104 = .ok (.lload_n 2, 1) := by decide +kernel
theorem dX12_readsPages_105 : decode cX12_readsPages 105 = .ok (.ldc2_w 311, 3) := by decide +kernel
theorem dX12_readsPages_108 : decode cX12_readsPages 108 = .ok (.ladd, 1) := by decide +kernel
theorem dX12_readsPages_109 : decode cX12_readsPages 109 = .ok (.invokevirtual 321, 3) := by decide +kernel
theorem dX12_readsPages_112 : decode cX12_readsPages 112 = .ok (.ireturn, 1) := by decide +kernel
theorem dX12_readsPages_113 : decode cX12_readsPages 113 = .ok (.aload_n 0, 1) := by decide +kernel
theorem dX12_readsPages_114 : decode cX12_readsPages 114 = .ok (.lload_n 2, 1) := by decide +kernel
theorem dX12_readsPages_115 : decode cX12_readsPages 115 = .ok (.ldc2_w 286, 3) := by decide +kernel
theorem dX12_readsPages_118 : decode cX12_readsPages 118 = .ok (.ladd, 1) := by decide +kernel
theorem dX12_readsPages_119 : decode cX12_readsPages 119 = .ok (.invokevirtual 432, 3) := by decide +kernel
theorem dX12_readsPages_122 : decode cX12_readsPages 122 = .ok (.iconst 2, 1) := by decide +kernel
theorem dX12_readsPages_123 : decode cX12_readsPages 123 = .ok (.if_icmp .eq 15, 3) := by decide +kernel
theorem dX12_readsPages_126 : decode cX12_readsPages 126 = .ok (.aload_n 0, 1) := by decide +kernel
theorem dX12_readsPages_127 : decode cX12_readsPages 127 = .ok (.bipush 9, 2) := by decide +kernel
theorem dX12_readsPages_129 : decode cX12_readsPages 129 = .ok (.lload_n 2, 1) := by decide +kernel
theorem dX12_readsPages_130 : decode cX12_readsPages 130 = .ok (.ldc2_w 286, 3) := by decide +kernel
theorem dX12_readsPages_133 : decode cX12_readsPages 133 = .ok (.ladd, 1) := by decide +kernel
theorem dX12_readsPages_134 : decode cX12_readsPages 134 = .ok (.invokevirtual 321, 3) := by decide +kernel
theorem dX12_readsPages_137 : decode cX12_readsPages 137 = .ok (.ireturn, 1) := by decide +kernel
theorem dX12_readsPages_138 : decode cX12_readsPages 138 = .ok (.aload_n 0, 1) := by decide +kernel
theorem dX12_readsPages_139 : decode cX12_readsPages 139 = .ok (.lload_n 2, 1) := by decide +kernel
theorem dX12_readsPages_140 : decode cX12_readsPages 140 = .ok (.ldc2_w 361, 3) := by decide +kernel
theorem dX12_readsPages_143 : decode cX12_readsPages 143 = .ok (.ladd, 1) := by decide +kernel
theorem dX12_readsPages_144 : decode cX12_readsPages 144 = .ok (.invokevirtual 381, 3) := by decide +kernel
theorem dX12_readsPages_147 : decode cX12_readsPages 147 = .ok (.ifCond .ne 5, 3) := by decide +kernel
theorem dX12_readsPages_150 : decode cX12_readsPages 150 = .ok (.iconst 0, 1) := by decide +kernel
theorem dX12_readsPages_151 : decode cX12_readsPages 151 = .ok (.ireturn, 1) := by decide +kernel
theorem dX12_readsPages_152 : decode cX12_readsPages 152 = .ok (.aload_n 0, 1) := by decide +kernel
theorem dX12_readsPages_153 : decode cX12_readsPages 153 = .ok (.lload_n 2, 1) := by decide +kernel
theorem dX12_readsPages_154 : decode cX12_readsPages 154 = .ok (.ldc2_w 361, 3) := by decide +kernel
theorem dX12_readsPages_157 : decode cX12_readsPages 157 = .ok (.ladd, 1) := by decide +kernel
theorem dX12_readsPages_158 : decode cX12_readsPages 158 = .ok (.invokevirtual 316, 3) := by decide +kernel
theorem dX12_readsPages_161 : decode cX12_readsPages 161 = .ok (.aload_n 0, 1) := by decide +kernel
theorem dX12_readsPages_162 : decode cX12_readsPages 162 = .ok (.getfield 92, 3) := by decide +kernel
theorem dX12_readsPages_165 : decode cX12_readsPages 165 = .ok (.iload_n 1, 1) := by decide +kernel
theorem dX12_readsPages_166 : decode cX12_readsPages 166 = .ok (.laload, 1) := by decide +kernel
theorem dX12_readsPages_167 : decode cX12_readsPages 167 = .ok (.aload_n 0, 1) := by decide +kernel
theorem dX12_readsPages_168 : decode cX12_readsPages 168 = .ok (.getfield 92, 3) := by decide +kernel
theorem dX12_readsPages_171 : decode cX12_readsPages 171 = .ok (.iconst 0, 1) := by decide +kernel
theorem dX12_readsPages_172 : decode cX12_readsPages 172 = .ok (.laload, 1) := by decide +kernel
theorem dX12_readsPages_173 : decode cX12_readsPages 173 = .ok (.lsub, 1) := by decide +kernel
theorem dX12_readsPages_174 : decode cX12_readsPages 174 = .ok (.lcmp, 1) := by decide +kernel
theorem dX12_readsPages_175 : decode cX12_readsPages 175 = .ok (.ifCond .eq 15, 3) := by decide +kernel
theorem dX12_readsPages_178 : decode cX12_readsPages 178 = .ok (.aload_n 0, 1) := by decide +kernel
theorem dX12_readsPages_179 : decode cX12_readsPages 179 = .ok (.bipush 9, 2) := by decide +kernel
theorem dX12_readsPages_181 : decode cX12_readsPages 181 = .ok (.lload_n 2, 1) := by decide +kernel
theorem dX12_readsPages_182 : decode cX12_readsPages 182 = .ok (.ldc2_w 361, 3) := by decide +kernel
theorem dX12_readsPages_185 : decode cX12_readsPages 185 = .ok (.ladd, 1) := by decide +kernel
theorem dX12_readsPages_186 : decode cX12_readsPages 186 = .ok (.invokevirtual 321, 3) := by decide +kernel
theorem dX12_readsPages_189 : decode cX12_readsPages 189 = .ok (.ireturn, 1) := by decide +kernel
theorem dX12_readsPages_190 : decode cX12_readsPages 190 = .ok (.lload 6, 2) := by decide +kernel
theorem dX12_readsPages_192 : decode cX12_readsPages 192 = .ok (.aload_n 0, 1) := by decide +kernel
theorem dX12_readsPages_193 : decode cX12_readsPages 193 = .ok (.getfield 95, 3) := by decide +kernel
theorem dX12_readsPages_196 : decode cX12_readsPages 196 = .ok (.iload_n 1, 1) := by decide +kernel
theorem dX12_readsPages_197 : decode cX12_readsPages 197 = .ok (.laload, 1) := by decide +kernel
theorem dX12_readsPages_198 : decode cX12_readsPages 198 = .ok (.iload 8, 2) := by decide +kernel
theorem dX12_readsPages_200 : decode cX12_readsPages 200 = .ok (.i2l, 1) := by decide +kernel
theorem dX12_readsPages_201 : decode cX12_readsPages 201 = .ok (.ladd, 1) := by decide +kernel
theorem dX12_readsPages_202 : decode cX12_readsPages 202 = .ok (.lconst 1, 1) := by decide +kernel
theorem dX12_readsPages_203 : decode cX12_readsPages 203 = .ok (.lsub, 1) := by decide +kernel
theorem dX12_readsPages_204 : decode cX12_readsPages 204 = .ok (.iload 8, 2) := by decide +kernel
theorem dX12_readsPages_206 : decode cX12_readsPages 206 = .ok (.i2l, 1) := by decide +kernel
theorem dX12_readsPages_207 : decode cX12_readsPages 207 = .ok (.ldiv, 1) := by decide +kernel
theorem dX12_readsPages_208 : decode cX12_readsPages 208 = .ok (.lcmp, 1) := by decide +kernel
theorem dX12_readsPages_209 : decode cX12_readsPages 209 = .ok (.ifCond .le 17, 3) := by decide +kernel
theorem dX12_readsPages_212 : decode cX12_readsPages 212 = .ok (.aload_n 0, 1) := by decide +kernel
theorem dX12_readsPages_213 : decode cX12_readsPages 213 = .ok (.bipush 9, 2) := by decide +kernel
theorem dX12_readsPages_215 : decode cX12_readsPages 215 = .ok (.lload_n 2, 1) := by decide +kernel
theorem dX12_readsPages_216 : decode cX12_readsPages 216 = .ok (.ldc2_w 359, 3) := by decide +kernel
theorem dX12_readsPages_219 : decode cX12_readsPages 219 = .ok (.ladd, 1) := by decide +kernel
theorem dX12_readsPages_220 : decode cX12_readsPages 220 = .ok (.invokevirtual 321, 3) := by decide +kernel
theorem dX12_readsPages_223 : decode cX12_readsPages 223 = .ok (.ifCond .eq 7, 3) := by decide +kernel
theorem dX12_readsPages_226 : decode cX12_readsPages 226 = .ok (.iconst 1, 1) := by decide +kernel
theorem dX12_readsPages_227 : decode cX12_readsPages 227 = .ok (.goto 4, 3) := by decide +kernel
theorem dX12_readsPages_230 : decode cX12_readsPages 230 = .ok (.iconst 0, 1) := by decide +kernel
theorem dX12_readsPages_231 : decode cX12_readsPages 231 = .ok (.ireturn, 1) := by decide +kernel
theorem dX12_wordOf_0 : decode cX12_wordOf 0 = .ok (.lconst 0, 1) := by decide +kernel
theorem dX12_wordOf_1 : decode cX12_wordOf 1 = .ok (.lstore 4, 2) := by decide +kernel
theorem dX12_wordOf_3 : decode cX12_wordOf 3 = .ok (.bipush 7, 2) := by decide +kernel
theorem dX12_wordOf_5 : decode cX12_wordOf 5 = .ok (.istore 6, 2) := by decide +kernel
theorem dX12_wordOf_7 : decode cX12_wordOf 7 = .ok (.iload 6, 2) := by decide +kernel
theorem dX12_wordOf_9 : decode cX12_wordOf 9 = .ok (.ifCond .lt 55, 3) := by decide +kernel
theorem dX12_wordOf_12 : decode cX12_wordOf 12 = .ok (.lload 4, 2) := by decide +kernel
theorem dX12_wordOf_14 : decode cX12_wordOf 14 = .ok (.bipush 8, 2) := by decide +kernel
theorem dX12_wordOf_16 : decode cX12_wordOf 16 = .ok (.lshl, 1) := by decide +kernel
theorem dX12_wordOf_17 : decode cX12_wordOf 17 = .ok (.lload_n 2, 1) := by decide +kernel
theorem dX12_wordOf_18 : decode cX12_wordOf 18 = .ok (.iload 6, 2) := by decide +kernel
theorem dX12_wordOf_20 : decode cX12_wordOf 20 = .ok (.i2l, 1) := by decide +kernel
theorem dX12_wordOf_21 : decode cX12_wordOf 21 = .ok (.ladd, 1) := by decide +kernel
theorem dX12_wordOf_22 : decode cX12_wordOf 22 = .ok (.aload_n 0, 1) := by decide +kernel
theorem dX12_wordOf_23 : decode cX12_wordOf 23 = .ok (.getfield 101, 3) := by decide +kernel
theorem dX12_wordOf_26 : decode cX12_wordOf 26 = .ok (.iload_n 1, 1) := by decide +kernel
theorem dX12_wordOf_27 : decode cX12_wordOf 27 = .ok (.laload, 1) := by decide +kernel
theorem dX12_wordOf_28 : decode cX12_wordOf 28 = .ok (.lcmp, 1) := by decide +kernel
theorem dX12_wordOf_29 : decode cX12_wordOf 29 = .ok (.ifCond .ge 24, 3) := by decide +kernel
theorem dX12_wordOf_32 : decode cX12_wordOf 32 = .ok (.aload_n 0, 1) := by decide +kernel
theorem dX12_wordOf_33 : decode cX12_wordOf 33 = .ok (.getfield 77, 3) := by decide +kernel
theorem dX12_wordOf_36 : decode cX12_wordOf 36 = .ok (.aload_n 0, 1) := by decide +kernel
theorem dX12_wordOf_37 : decode cX12_wordOf 37 = .ok (.getfield 98, 3) := by decide +kernel
theorem dX12_wordOf_40 : decode cX12_wordOf 40 = .ok (.iload_n 1, 1) := by decide +kernel
theorem dX12_wordOf_41 : decode cX12_wordOf 41 = .ok (.laload, 1) := by decide +kernel
theorem dX12_wordOf_42 : decode cX12_wordOf 42 = .ok (.lload_n 2, 1) := by decide +kernel
theorem dX12_wordOf_43 : decode cX12_wordOf 43 = .ok (.ladd, 1) := by decide +kernel
theorem dX12_wordOf_44 : decode cX12_wordOf 44 = .ok (.iload 6, 2) := by decide +kernel
theorem dX12_wordOf_46 : decode cX12_wordOf 46 = .ok (.i2l, 1) := by decide +kernel
theorem dX12_wordOf_47 : decode cX12_wordOf 47 = .ok (.ladd, 1) := by decide +kernel
theorem dX12_wordOf_48 : decode cX12_wordOf 48 = .ok (.l2i, 1) := by decide +kernel
theorem dX12_wordOf_49 : decode cX12_wordOf 49 = .ok (.iaload, 1) := by decide +kernel
theorem dX12_wordOf_50 : decode cX12_wordOf 50 = .ok (.goto 4, 3) := by decide +kernel
theorem dX12_wordOf_53 : decode cX12_wordOf 53 = .ok (.iconst 0, 1) := by decide +kernel
theorem dX12_wordOf_54 : decode cX12_wordOf 54 = .ok (.i2l, 1) := by decide +kernel
theorem dX12_wordOf_55 : decode cX12_wordOf 55 = .ok (.lor, 1) := by decide +kernel
theorem dX12_wordOf_56 : decode cX12_wordOf 56 = .ok (.lstore 4, 2) := by decide +kernel
theorem dX12_wordOf_58 : decode cX12_wordOf 58 = .ok (.iinc 6 (-1), 3) := by decide +kernel
theorem dX12_wordOf_61 : decode cX12_wordOf 61 = .ok (.goto (-54), 3) := by decide +kernel
theorem dX12_wordOf_64 : decode cX12_wordOf 64 = .ok (.lload 4, 2) := by decide +kernel
theorem dX12_wordOf_66 : decode cX12_wordOf 66 = .ok (.lreturn, 1) := by decide +kernel
theorem dX12_walks_0 : decode cX12_walks 0 = .ok (.aload_n 0, 1) := by decide +kernel
theorem dX12_walks_1 : decode cX12_walks 1 = .ok (.lload 4, 2) := by decide +kernel
theorem dX12_walks_3 : decode cX12_walks 3 = .ok (.invokevirtual 432, 3) := by decide +kernel
theorem dX12_walks_6 : decode cX12_walks 6 = .ok (.istore 6, 2) := by decide +kernel
theorem dX12_walks_8 : decode cX12_walks 8 = .ok (.iload 6, 2) := by decide +kernel
theorem dX12_walks_10 : decode cX12_walks 10 = .ok (.ldc_w 272, 3) := by decide +kernel
theorem dX12_walks_13 : decode cX12_walks 13 = .ok (.if_icmp .ne 5, 3) := by decide +kernel
theorem dX12_walks_16 : decode cX12_walks 16 = .ok (.iconst 1, 1) := by decide +kernel
theorem dX12_walks_17 : decode cX12_walks 17 = .ok (.ireturn, 1) := by decide +kernel
theorem dX12_walks_18 : decode cX12_walks 18 = .ok (.iload 6, 2) := by decide +kernel
theorem dX12_walks_20 : decode cX12_walks 20 = .ok (.iconst 4, 1) := by decide +kernel
theorem dX12_walks_21 : decode cX12_walks 21 = .ok (.irem, 1) := by decide +kernel
theorem dX12_walks_22 : decode cX12_walks 22 = .ok (.ifCond .ne 15, 3) := by decide +kernel
theorem dX12_walks_25 : decode cX12_walks 25 = .ok (.aload_n 0, 1) := by decide +kernel
theorem dX12_walks_26 : decode cX12_walks 26 = .ok (.iload_n 1, 1) := by decide +kernel
theorem dX12_walks_27 : decode cX12_walks 27 = .ok (.iload_n 2, 1) := by decide +kernel
theorem dX12_walks_28 : decode cX12_walks 28 = .ok (.iload_n 3, 1) := by decide +kernel
theorem dX12_walks_29 : decode cX12_walks 29 = .ok (.iload 6, 2) := by decide +kernel
theorem dX12_walks_31 : decode cX12_walks 31 = .ok (.invokevirtual 442, 3) := by decide +kernel
theorem dX12_walks_34 : decode cX12_walks 34 = .ok (.ifCond .ne 12, 3) := by decide +kernel
theorem dX12_walks_37 : decode cX12_walks 37 = .ok (.aload_n 0, 1) := by decide +kernel
theorem dX12_walks_38 : decode cX12_walks 38 = .ok (.bipush 10, 2) := by decide +kernel
theorem dX12_walks_40 : decode cX12_walks 40 = .ok (.lload 4, 2) := by decide +kernel
theorem dX12_walks_42 : decode cX12_walks 42 = .ok (.invokevirtual 321, 3) := by decide +kernel
theorem dX12_walks_45 : decode cX12_walks 45 = .ok (.ireturn, 1) := by decide +kernel
theorem dX12_walks_46 : decode cX12_walks 46 = .ok (.iconst 1, 1) := by decide +kernel
theorem dX12_walks_47 : decode cX12_walks 47 = .ok (.istore 7, 2) := by decide +kernel
theorem dX12_walks_49 : decode cX12_walks 49 = .ok (.iload 7, 2) := by decide +kernel
theorem dX12_walks_51 : decode cX12_walks 51 = .ok (.ifCond .eq 261, 3) := by decide +kernel
theorem dX12_walks_54 : decode cX12_walks 54 = .ok (.iload_n 2, 1) := by decide +kernel
theorem dX12_walks_55 : decode cX12_walks 55 = .ok (.i2l, 1) := by decide +kernel
theorem dX12_walks_56 : decode cX12_walks 56 = .ok (.iload_n 3, 1) := by decide +kernel
theorem dX12_walks_57 : decode cX12_walks 57 = .ok (.i2l, 1) := by decide +kernel
theorem dX12_walks_58 : decode cX12_walks 58 = .ok (.lmul, 1) := by decide +kernel
theorem dX12_walks_59 : decode cX12_walks 59 = .ok (.iload 6, 2) := by decide +kernel
theorem dX12_walks_61 : decode cX12_walks 61 = .ok (.i2l, 1) := by decide +kernel
theorem dX12_walks_62 : decode cX12_walks 62 = .ok (.ladd, 1) := by decide +kernel
theorem dX12_walks_63 : decode cX12_walks 63 = .ok (.lstore 8, 2) := by decide +kernel
theorem dX12_walks_65 : decode cX12_walks 65 = .ok (.aload_n 0, 1) := by decide +kernel
theorem dX12_walks_66 : decode cX12_walks 66 = .ok (.getfield 92, 3) := by decide +kernel
theorem dX12_walks_69 : decode cX12_walks 69 = .ok (.iload_n 1, 1) := by decide +kernel
theorem dX12_walks_70 : decode cX12_walks 70 = .ok (.laload, 1) := by decide +kernel
theorem dX12_walks_71 : decode cX12_walks 71 = .ok (.lload 8, 2) := by decide +kernel
theorem dX12_walks_73 : decode cX12_walks 73 = .ok (.ladd, 1) := by decide +kernel
theorem dX12_walks_74 : decode cX12_walks 74 = .ok (.aload_n 0, 1) := by decide +kernel
theorem dX12_walks_75 : decode cX12_walks 75 = .ok (.getfield 92, 3) := by decide +kernel
theorem dX12_walks_78 : decode cX12_walks 78 = .ok (.iconst 0, 1) := by decide +kernel
theorem dX12_walks_79 : decode cX12_walks 79 = .ok (.laload, 1) := by decide +kernel
theorem dX12_walks_80 : decode cX12_walks 80 = .ok (.lsub, 1) := by decide +kernel
theorem dX12_walks_81 : decode cX12_walks 81 = .ok (.lstore 10, 2) := by decide +kernel
theorem dX12_walks_83 : decode cX12_walks 83 = .ok (.aload_n 0, 1) := by decide +kernel
theorem dX12_walks_84 : decode cX12_walks 84 = .ok (.iload_n 1, 1) := by decide +kernel
theorem dX12_walks_85 : decode cX12_walks 85 = .ok (.lload 8, 2) := by decide +kernel
theorem dX12_walks_87 : decode cX12_walks 87 = .ok (.invokevirtual 446, 3) := by decide +kernel
theorem dX12_walks_90 : decode cX12_walks 90 = .ok (.lstore 12, 2) := by decide +kernel
theorem dX12_walks_92 : decode cX12_walks 92 = .ok (.lload 12, 2) := by decide +kernel
theorem dX12_walks_94 : decode cX12_walks 94 = .ok (.lconst 0, 1) := by decide +kernel
theorem dX12_walks_95 : decode cX12_walks 95 = .ok (.lcmp, 1) := by decide +kernel
theorem dX12_walks_96 : decode cX12_walks 96 = .ok (.ifCond .ge 7, 3) := by decide +kernel
theorem dX12_walks_99 : decode cX12_walks 99 = .ok (.iconst 1, 1) := by decide +kernel
theorem dX12_walks_100 : decode cX12_walks 100 = .ok (.goto 4, 3) := by decide +kernel
theorem dX12_walks_103 : decode cX12_walks 103 = .ok (.iconst 0, 1) := by decide +kernel
theorem dX12_walks_104 : decode cX12_walks 104 = .ok (.istore 14, 2) := by decide +kernel
theorem dX12_walks_106 : decode cX12_walks 106 = .ok (.lload 12, 2) := by decide +kernel
theorem dX12_walks_108 : decode cX12_walks 108 = .ok (.iload 14, 2) := by decide +kernel
theorem dX12_walks_110 : decode cX12_walks 110 = .ok (.ifCond .eq 9, 3) := by decide +kernel
theorem dX12_walks_113 : decode cX12_walks 113 = .ok (.ldc2_w 450, 3) := by decide +kernel
theorem dX12_walks_116 : decode cX12_walks 116 = .ok (.goto 6, 3) := by decide +kernel
theorem dX12_walks_119 : decode cX12_walks 119 = .ok (.ldc2_w 452, 3) := by decide +kernel
theorem dX12_walks_122 : decode cX12_walks 122 = .ok (.land, 1) := by decide +kernel
theorem dX12_walks_123 : decode cX12_walks 123 = .ok (.lconst 0, 1) := by decide +kernel
theorem dX12_walks_124 : decode cX12_walks 124 = .ok (.lcmp, 1) := by decide +kernel
theorem dX12_walks_125 : decode cX12_walks 125 = .ok (.ifCond .eq 12, 3) := by decide +kernel
theorem dX12_walks_128 : decode cX12_walks 128 = .ok (.aload_n 0, 1) := by decide +kernel
theorem dX12_walks_129 : decode cX12_walks 129 = .ok (.bipush 11, 2) := by decide +kernel
theorem dX12_walks_131 : decode cX12_walks 131 = .ok (.lload 10, 2) := by decide +kernel
theorem dX12_walks_133 : decode cX12_walks 133 = .ok (.invokevirtual 321, 3) := by decide +kernel
theorem dX12_walks_136 : decode cX12_walks 136 = .ok (.ireturn, 1) := by decide +kernel
theorem dX12_walks_137 : decode cX12_walks 137 = .ok (.iload 14, 2) := by decide +kernel
theorem dX12_walks_139 : decode cX12_walks 139 = .ok (.ifCond .eq 26, 3) := by decide +kernel
theorem dX12_walks_142 : decode cX12_walks 142 = .ok (.lload 12, 2) := by decide +kernel
theorem dX12_walks_144 : decode cX12_walks 144 = .ok (.ldc2_w 454, 3) := by decide +kernel
theorem dX12_walks_147 : decode cX12_walks 147 = .ok (.land, 1) := by decide +kernel
theorem dX12_walks_148 : decode cX12_walks 148 = .ok (.aload_n 0, 1) := by decide +kernel
theorem dX12_walks_149 : decode cX12_walks 149 = .ok (.getfield 419, 3) := by decide +kernel
theorem dX12_walks_152 : decode cX12_walks 152 = .ok (.lcmp, 1) := by decide +kernel
theorem dX12_walks_153 : decode cX12_walks 153 = .ok (.ifCond .lt 12, 3) := by decide +kernel
theorem dX12_walks_156 : decode cX12_walks 156 = .ok (.aload_n 0, 1) := by decide +kernel
theorem dX12_walks_157 : decode cX12_walks 157 = .ok (.bipush 11, 2) := by decide +kernel
theorem dX12_walks_159 : decode cX12_walks 159 = .ok (.lload 10, 2) := by decide +kernel
theorem dX12_walks_161 : decode cX12_walks 161 = .ok (.invokevirtual 321, 3) := by decide +kernel
theorem dX12_walks_164 : decode cX12_walks 164 = .ok (.ireturn, 1) := by decide +kernel
theorem dX12_walks_165 : decode cX12_walks 165 = .ok (.iload 14, 2) := by decide +kernel
theorem dX12_walks_167 : decode cX12_walks 167 = .ok (.ifCond .eq 31, 3) := by decide +kernel
theorem dX12_walks_170 : decode cX12_walks 170 = .ok (.aload_n 0, 1) := by decide +kernel
theorem dX12_walks_171 : decode cX12_walks 171 = .ok (.lload 12, 2) := by decide +kernel
theorem dX12_walks_173 : decode cX12_walks 173 = .ok (.invokevirtual 456, 3) := by decide +kernel
theorem dX12_walks_176 : decode cX12_walks 176 = .ok (.ifCond .ne 22, 3) := by decide +kernel
theorem dX12_walks_179 : decode cX12_walks 179 = .ok (.aload_n 0, 1) := by decide +kernel
theorem dX12_walks_180 : decode cX12_walks 180 = .ok (.lload 12, 2) := by decide +kernel
theorem dX12_walks_182 : decode cX12_walks 182 = .ok (.invokevirtual 459, 3) := by decide +kernel
theorem dX12_walks_185 : decode cX12_walks 185 = .ok (.iconst (-1), 1) := by decide +kernel
theorem dX12_walks_186 : decode cX12_walks 186 = .ok (.if_icmp .ne 12, 3) := by decide +kernel
theorem dX12_walks_189 : decode cX12_walks 189 = .ok (.aload_n 0, 1) := by decide +kernel
theorem dX12_walks_190 : decode cX12_walks 190 = .ok (.bipush 12, 2) := by decide +kernel
theorem dX12_walks_192 : decode cX12_walks 192 = .ok (.lload 10, 2) := by decide +kernel
theorem dX12_walks_194 : decode cX12_walks 194 = .ok (.invokevirtual 321, 3) := by decide +kernel
theorem dX12_walks_197 : decode cX12_walks 197 = .ok (.ireturn, 1) := by decide +kernel
theorem dX12_walks_198 : decode cX12_walks 198 = .ok (.aload_n 0, 1) := by decide +kernel
theorem dX12_walks_199 : decode cX12_walks 199 = .ok (.getfield 104, 3) := by decide +kernel
theorem dX12_walks_202 : decode cX12_walks 202 = .ok (.aload_n 0, 1) := by decide +kernel
theorem dX12_walks_203 : decode cX12_walks 203 = .ok (.getfield 416, 3) := by decide +kernel
theorem dX12_walks_206 : decode cX12_walks 206 = .ok (.lload 12, 2) := by decide +kernel
theorem dX12_walks_208 : decode cX12_walks 208 = .ok (.lastore, 1) := by decide +kernel
theorem dX12_walks_209 : decode cX12_walks 209 = .ok (.aload_n 0, 1) := by decide +kernel
theorem dX12_walks_210 : decode cX12_walks 210 = .ok (.getfield 107, 3) := by decide +kernel
theorem dX12_walks_213 : decode cX12_walks 213 = .ok (.aload_n 0, 1) := by decide +kernel
theorem dX12_walks_214 : decode cX12_walks 214 = .ok (.getfield 416, 3) := by decide +kernel
theorem dX12_walks_217 : decode cX12_walks 217 = .ok (.iload_n 1, 1) := by decide +kernel
theorem dX12_walks_218 : decode cX12_walks 218 = .ok (.iastore, 1) := by decide +kernel
theorem dX12_walks_219 : decode cX12_walks 219 = .ok (.aload_n 0, 1) := by decide +kernel
theorem dX12_walks_220 : decode cX12_walks 220 = .ok (.getfield 110, 3) := by decide +kernel
theorem dX12_walks_223 : decode cX12_walks 223 = .ok (.aload_n 0, 1) := by decide +kernel
theorem dX12_walks_224 : decode cX12_walks 224 = .ok (.getfield 416, 3) := by decide +kernel
theorem dX12_walks_227 : decode cX12_walks 227 = .ok (.lload 8, 2) := by decide +kernel
theorem dX12_walks_229 : decode cX12_walks 229 = .ok (.l2i, 1) := by decide +kernel
theorem dX12_walks_230 : decode cX12_walks 230 = .ok (.iastore, 1) := by decide +kernel
theorem dX12_walks_231 : decode cX12_walks 231 = .ok (.aload_n 0, 1) := by decide +kernel
theorem dX12_walks_232 : decode cX12_walks 232 = .ok (.dup, 1) := by decide +kernel
theorem dX12_walks_233 : decode cX12_walks 233 = .ok (.getfield 416, 3) := by decide +kernel
theorem dX12_walks_236 : decode cX12_walks 236 = .ok (.iconst 1, 1) := by decide +kernel
theorem dX12_walks_237 : decode cX12_walks 237 = .ok (.iadd, 1) := by decide +kernel
theorem dX12_walks_238 : decode cX12_walks 238 = .ok (.putfield 416, 3) := by decide +kernel
theorem dX12_walks_241 : decode cX12_walks 241 = .ok (.lload 12, 2) := by decide +kernel
theorem dX12_walks_243 : decode cX12_walks 243 = .ok (.bipush 51, 2) := by decide +kernel
theorem dX12_walks_245 : decode cX12_walks 245 = .ok (.lshr, 1) := by decide +kernel
theorem dX12_walks_246 : decode cX12_walks 246 = .ok (.l2i, 1) := by decide +kernel
theorem dX12_walks_247 : decode cX12_walks 247 = .ok (.sipush 4095, 3) := by decide +kernel
theorem dX12_walks_250 : decode cX12_walks 250 = .ok (.iand, 1) := by decide +kernel
theorem dX12_walks_251 : decode cX12_walks 251 = .ok (.istore 15, 2) := by decide +kernel
theorem dX12_walks_253 : decode cX12_walks 253 = .ok (.iload 15, 2) := by decide +kernel
theorem dX12_walks_255 : decode cX12_walks 255 = .ok (.ifCond .le 7, 3) := by decide +kernel
theorem dX12_walks_258 : decode cX12_walks 258 = .ok (.iconst 1, 1) := by decide +kernel
theorem dX12_walks_259 : decode cX12_walks 259 = .ok (.goto 4, 3) := by decide +kernel
theorem dX12_walks_262 : decode cX12_walks 262 = .ok (.iconst 0, 1) := by decide +kernel
theorem dX12_walks_263 : decode cX12_walks 263 = .ok (.istore 7, 2) := by decide +kernel
theorem dX12_walks_265 : decode cX12_walks 265 = .ok (.iload 7, 2) := by decide +kernel
theorem dX12_walks_267 : decode cX12_walks 267 = .ok (.ifCond .ne 6, 3) := by decide +kernel
theorem dX12_walks_270 : decode cX12_walks 270 = .ok (.goto (-221), 3) := by decide +kernel
theorem dX12_walks_273 : decode cX12_walks 273 = .ok (.iload 6, 2) := by decide +kernel
theorem dX12_walks_275 : decode cX12_walks 275 = .ok (.iconst 4, 1) := by decide +kernel
theorem dX12_walks_276 : decode cX12_walks 276 = .ok (.iload 15, 2) := by decide +kernel
theorem dX12_walks_278 : decode cX12_walks 278 = .ok (.imul, 1) := by decide +kernel
theorem dX12_walks_279 : decode cX12_walks 279 = .ok (.iadd, 1) := by decide +kernel
theorem dX12_walks_280 : decode cX12_walks 280 = .ok (.istore 6, 2) := by decide +kernel
theorem dX12_walks_282 : decode cX12_walks 282 = .ok (.iload 15, 2) := by decide +kernel
theorem dX12_walks_284 : decode cX12_walks 284 = .ok (.iconst 1, 1) := by decide +kernel
theorem dX12_walks_285 : decode cX12_walks 285 = .ok (.if_icmp .eq 15, 3) := by decide +kernel
theorem dX12_walks_288 : decode cX12_walks 288 = .ok (.aload_n 0, 1) := by decide +kernel
theorem dX12_walks_289 : decode cX12_walks 289 = .ok (.iload_n 1, 1) := by decide +kernel
theorem dX12_walks_290 : decode cX12_walks 290 = .ok (.iload_n 2, 1) := by decide +kernel
theorem dX12_walks_291 : decode cX12_walks 291 = .ok (.iload_n 3, 1) := by decide +kernel
theorem dX12_walks_292 : decode cX12_walks 292 = .ok (.iload 6, 2) := by decide +kernel
theorem dX12_walks_294 : decode cX12_walks 294 = .ok (.invokevirtual 442, 3) := by decide +kernel
theorem dX12_walks_297 : decode cX12_walks 297 = .ok (.ifCond .ne 12, 3) := by decide +kernel
theorem dX12_walks_300 : decode cX12_walks 300 = .ok (.aload_n 0, 1) := by decide +kernel
theorem dX12_walks_301 : decode cX12_walks 301 = .ok (.bipush 10, 2) := by decide +kernel
theorem dX12_walks_303 : decode cX12_walks 303 = .ok (.lload 10, 2) := by decide +kernel
theorem dX12_walks_305 : decode cX12_walks 305 = .ok (.invokevirtual 321, 3) := by decide +kernel
theorem dX12_walks_308 : decode cX12_walks 308 = .ok (.ireturn, 1) := by decide +kernel
theorem dX12_walks_309 : decode cX12_walks 309 = .ok (.goto (-260), 3) := by decide +kernel
theorem dX12_walks_312 : decode cX12_walks 312 = .ok (.iconst 1, 1) := by decide +kernel
theorem dX12_walks_313 : decode cX12_walks 313 = .ok (.ireturn, 1) := by decide +kernel
theorem dX12_isWithin_0 : decode cX12_isWithin 0 = .ok (.iload 4, 2) := by decide +kernel
theorem dX12_isWithin_2 : decode cX12_isWithin 2 = .ok (.bipush 8, 2) := by decide +kernel
theorem dX12_isWithin_4 : decode cX12_isWithin 4 = .ok (.iadd, 1) := by decide +kernel
theorem dX12_isWithin_5 : decode cX12_isWithin 5 = .ok (.iload_n 3, 1) := by decide +kernel
theorem dX12_isWithin_6 : decode cX12_isWithin 6 = .ok (.if_icmp .gt 30, 3) := by decide +kernel
theorem dX12_isWithin_9 : decode cX12_isWithin 9 = .ok (.iload_n 2, 1) := by decide +kernel
theorem dX12_isWithin_10 : decode cX12_isWithin 10 = .ok (.i2l, 1) := by decide +kernel
theorem dX12_isWithin_11 : decode cX12_isWithin 11 = .ok (.iload_n 3, 1) := by decide +kernel
theorem dX12_isWithin_12 : decode cX12_isWithin 12 = .ok (.i2l, 1) := by decide +kernel
theorem dX12_isWithin_13 : decode cX12_isWithin 13 = .ok (.lmul, 1) := by decide +kernel
theorem dX12_isWithin_14 : decode cX12_isWithin 14 = .ok (.iload 4, 2) := by decide +kernel
theorem dX12_isWithin_16 : decode cX12_isWithin 16 = .ok (.i2l, 1) := by decide +kernel
theorem dX12_isWithin_17 : decode cX12_isWithin 17 = .ok (.ladd, 1) := by decide +kernel
theorem dX12_isWithin_18 : decode cX12_isWithin 18 = .ok (.ldc2_w 361, 3) := by decide +kernel
theorem dX12_isWithin_21 : decode cX12_isWithin 21 = .ok (.ladd, 1) := by decide +kernel
theorem dX12_isWithin_22 : decode cX12_isWithin 22 = .ok (.aload_n 0, 1) := by decide +kernel
theorem dX12_isWithin_23 : decode cX12_isWithin 23 = .ok (.getfield 95, 3) := by decide +kernel
theorem dX12_isWithin_26 : decode cX12_isWithin 26 = .ok (.iload_n 1, 1) := by decide +kernel
theorem dX12_isWithin_27 : decode cX12_isWithin 27 = .ok (.laload, 1) := by decide +kernel
theorem dX12_isWithin_28 : decode cX12_isWithin 28 = .ok (.lcmp, 1) := by decide +kernel
theorem dX12_isWithin_29 : decode cX12_isWithin 29 = .ok (.ifCond .gt 7, 3) := by decide +kernel
theorem dX12_isWithin_32 : decode cX12_isWithin 32 = .ok (.iconst 1, 1) := by decide +kernel
theorem dX12_isWithin_33 : decode cX12_isWithin 33 = .ok (.goto 4, 3) := by decide +kernel
theorem dX12_isWithin_36 : decode cX12_isWithin 36 = .ok (.iconst 0, 1) := by decide +kernel
theorem dX12_isWithin_37 : decode cX12_isWithin 37 = .ok (.ireturn, 1) := by decide +kernel
theorem dX12_importOf_0 : decode cX12_importOf 0 = .ok (.aload_n 0, 1) := by decide +kernel
theorem dX12_importOf_1 : decode cX12_importOf 1 = .ok (.aload_n 0, 1) := by decide +kernel
theorem dX12_importOf_2 : decode cX12_importOf 2 = .ok (.getfield 422, 3) := by decide +kernel
theorem dX12_importOf_5 : decode cX12_importOf 5 = .ok (.ldc2_w 311, 3) := by decide +kernel
theorem dX12_importOf_8 : decode cX12_importOf 8 = .ok (.lload_n 1, 1) := by decide +kernel
theorem dX12_importOf_9 : decode cX12_importOf 9 = .ok (.ldc2_w 454, 3) := by decide +kernel
theorem dX12_importOf_12 : decode cX12_importOf 12 = .ok (.land, 1) := by decide +kernel
theorem dX12_importOf_13 : decode cX12_importOf 13 = .ok (.lmul, 1) := by decide +kernel
theorem dX12_importOf_14 : decode cX12_importOf 14 = .ok (.ladd, 1) := by decide +kernel
theorem dX12_importOf_15 : decode cX12_importOf 15 = .ok (.invokevirtual 307, 3) := by decide +kernel
theorem dX12_importOf_18 : decode cX12_importOf 18 = .ok (.lreturn, 1) := by decide +kernel
theorem dX12_isWeakImport_0 : decode cX12_isWeakImport 0 = .ok (.aload_n 0, 1) := by decide +kernel
theorem dX12_isWeakImport_1 : decode cX12_isWeakImport 1 = .ok (.lload_n 1, 1) := by decide +kernel
theorem dX12_isWeakImport_2 : decode cX12_isWeakImport 2 = .ok (.invokevirtual 462, 3) := by decide +kernel
theorem dX12_isWeakImport_5 : decode cX12_isWeakImport 5 = .ok (.bipush 8, 2) := by decide +kernel
theorem dX12_isWeakImport_7 : decode cX12_isWeakImport 7 = .ok (.lshr, 1) := by decide +kernel
theorem dX12_isWeakImport_8 : decode cX12_isWeakImport 8 = .ok (.lconst 1, 1) := by decide +kernel
theorem dX12_isWeakImport_9 : decode cX12_isWeakImport 9 = .ok (.land, 1) := by decide +kernel
theorem dX12_isWeakImport_10 : decode cX12_isWeakImport 10 = .ok (.lconst 1, 1) := by decide +kernel
theorem dX12_isWeakImport_11 : decode cX12_isWeakImport 11 = .ok (.lcmp, 1) := by decide +kernel
theorem dX12_isWeakImport_12 : decode cX12_isWeakImport 12 = .ok (.ifCond .ne 7, 3) := by decide +kernel
theorem dX12_isWeakImport_15 : decode cX12_isWeakImport 15 = .ok (.iconst 1, 1) := by decide +kernel
theorem dX12_isWeakImport_16 : decode cX12_isWeakImport 16 = .ok (.goto 4, 3) := by decide +kernel
theorem dX12_isWeakImport_19 : decode cX12_isWeakImport 19 = .ok (.iconst 0, 1) := by decide +kernel
theorem dX12_isWeakImport_20 : decode cX12_isWeakImport 20 = .ok (.ireturn, 1) := by decide +kernel
theorem dX12_exportFor_0 : decode cX12_exportFor 0 = .ok (.aload_n 0, 1) := by decide +kernel
theorem dX12_exportFor_1 : decode cX12_exportFor 1 = .ok (.lload_n 1, 1) := by decide +kernel
theorem dX12_exportFor_2 : decode cX12_exportFor 2 = .ok (.invokevirtual 462, 3) := by decide +kernel
theorem dX12_exportFor_5 : decode cX12_exportFor 5 = .ok (.lstore_n 3, 1) := by decide +kernel
theorem dX12_exportFor_6 : decode cX12_exportFor 6 = .ok (.aload_n 0, 1) := by decide +kernel
theorem dX12_exportFor_7 : decode cX12_exportFor 7 = .ok (.getfield 425, 3) := by decide +kernel
theorem dX12_exportFor_10 : decode cX12_exportFor 10 = .ok (.lload_n 3, 1) := by decide +kernel
theorem dX12_exportFor_11 : decode cX12_exportFor 11 = .ok (.bipush 9, 2) := by decide +kernel
theorem dX12_exportFor_13 : decode cX12_exportFor 13 = .ok (.lshr, 1) := by decide +kernel
theorem dX12_exportFor_14 : decode cX12_exportFor 14 = .ok (.ladd, 1) := by decide +kernel
theorem dX12_exportFor_15 : decode cX12_exportFor 15 = .ok (.lstore 5, 2) := by decide +kernel
theorem dX12_exportFor_17 : decode cX12_exportFor 17 = .ok (.aload_n 0, 1) := by decide +kernel
theorem dX12_exportFor_18 : decode cX12_exportFor 18 = .ok (.lload 5, 2) := by decide +kernel
theorem dX12_exportFor_20 : decode cX12_exportFor 20 = .ok (.aload_n 0, 1) := by decide +kernel
theorem dX12_exportFor_21 : decode cX12_exportFor 21 = .ok (.getfield 407, 3) := by decide +kernel
theorem dX12_exportFor_24 : decode cX12_exportFor 24 = .ok (.invokevirtual 410, 3) := by decide +kernel
theorem dX12_exportFor_27 : decode cX12_exportFor 27 = .ok (.lstore 7, 2) := by decide +kernel
theorem dX12_exportFor_29 : decode cX12_exportFor 29 = .ok (.iconst 0, 1) := by decide +kernel
theorem dX12_exportFor_30 : decode cX12_exportFor 30 = .ok (.istore 9, 2) := by decide +kernel
theorem dX12_exportFor_32 : decode cX12_exportFor 32 = .ok (.iload 9, 2) := by decide +kernel
theorem dX12_exportFor_34 : decode cX12_exportFor 34 = .ok (.aload_n 0, 1) := by decide +kernel
theorem dX12_exportFor_35 : decode cX12_exportFor 35 = .ok (.getfield 300, 3) := by decide +kernel
theorem dX12_exportFor_38 : decode cX12_exportFor 38 = .ok (.if_icmp .ge 123, 3) := by decide +kernel
theorem dX12_exportFor_41 : decode cX12_exportFor 41 = .ok (.aload_n 0, 1) := by decide +kernel
theorem dX12_exportFor_42 : decode cX12_exportFor 42 = .ok (.getfield 71, 3) := by decide +kernel
theorem dX12_exportFor_45 : decode cX12_exportFor 45 = .ok (.iload 9, 2) := by decide +kernel
theorem dX12_exportFor_47 : decode cX12_exportFor 47 = .ok (.iaload, 1) := by decide +kernel
theorem dX12_exportFor_48 : decode cX12_exportFor 48 = .ok (.i2l, 1) := by decide +kernel
theorem dX12_exportFor_49 : decode cX12_exportFor 49 = .ok (.lload_n 3, 1) := by decide +kernel
theorem dX12_exportFor_50 : decode cX12_exportFor 50 = .ok (.ldc2_w 465, 3) := by decide +kernel
theorem dX12_exportFor_53 : decode cX12_exportFor 53 = .ok (.land, 1) := by decide +kernel
theorem dX12_exportFor_54 : decode cX12_exportFor 54 = .ok (.lcmp, 1) := by decide +kernel
theorem dX12_exportFor_55 : decode cX12_exportFor 55 = .ok (.ifCond .ne 26, 3) := by decide +kernel
theorem dX12_exportFor_58 : decode cX12_exportFor 58 = .ok (.aload_n 0, 1) := by decide +kernel
theorem dX12_exportFor_59 : decode cX12_exportFor 59 = .ok (.bipush 52, 2) := by decide +kernel
theorem dX12_exportFor_61 : decode cX12_exportFor 61 = .ok (.iload 9, 2) := by decide +kernel
theorem dX12_exportFor_63 : decode cX12_exportFor 63 = .ok (.iadd, 1) := by decide +kernel
theorem dX12_exportFor_64 : decode cX12_exportFor 64 = .ok (.invokevirtual 241, 3) := by decide +kernel
theorem dX12_exportFor_67 : decode cX12_exportFor 67 = .ok (.i2l, 1) := by decide +kernel
theorem dX12_exportFor_68 : decode cX12_exportFor 68 = .ok (.lload 7, 2) := by decide +kernel
theorem dX12_exportFor_70 : decode cX12_exportFor 70 = .ok (.lload 5, 2) := by decide +kernel
theorem dX12_exportFor_72 : decode cX12_exportFor 72 = .ok (.lsub, 1) := by decide +kernel
theorem dX12_exportFor_73 : decode cX12_exportFor 73 = .ok (.lcmp, 1) := by decide +kernel
theorem dX12_exportFor_74 : decode cX12_exportFor 74 = .ok (.ifCond .ne 7, 3) := by decide +kernel
theorem dX12_exportFor_77 : decode cX12_exportFor 77 = .ok (.iconst 1, 1) := by decide +kernel
theorem dX12_exportFor_78 : decode cX12_exportFor 78 = .ok (.goto 4, 3) := by decide +kernel
theorem dX12_exportFor_81 : decode cX12_exportFor 81 = .ok (.iconst 0, 1) := by decide +kernel
theorem dX12_exportFor_82 : decode cX12_exportFor 82 = .ok (.istore 10, 2) := by decide +kernel
theorem dX12_exportFor_84 : decode cX12_exportFor 84 = .ok (.iconst 0, 1) := by decide +kernel
theorem dX12_exportFor_85 : decode cX12_exportFor 85 = .ok (.istore 11, 2) := by decide +kernel
theorem dX12_exportFor_87 : decode cX12_exportFor 87 = .ok (.iload 11, 2) := by decide +kernel
theorem dX12_exportFor_89 : decode cX12_exportFor 89 = .ok (.i2l, 1) := by decide +kernel
theorem dX12_exportFor_90 : decode cX12_exportFor 90 = .ok (.lload 7, 2) := by decide +kernel
theorem dX12_exportFor_92 : decode cX12_exportFor 92 = .ok (.lload 5, 2) := by decide +kernel
theorem dX12_exportFor_94 : decode cX12_exportFor 94 = .ok (.lsub, 1) := by decide +kernel
theorem dX12_exportFor_95 : decode cX12_exportFor 95 = .ok (.lcmp, 1) := by decide +kernel
theorem dX12_exportFor_96 : decode cX12_exportFor 96 = .ok (.ifCond .ge 51, 3) := by decide +kernel
theorem dX12_exportFor_99 : decode cX12_exportFor 99 = .ok (.iload 10, 2) := by decide +kernel
theorem dX12_exportFor_101 : decode cX12_exportFor 101 = .ok (.ifCond .eq 46, 3) := by decide +kernel
theorem dX12_exportFor_104 : decode cX12_exportFor 104 = .ok (.aload_n 0, 1) := by decide +kernel
theorem dX12_exportFor_105 : decode cX12_exportFor 105 = .ok (.getfield 13, 3) := by decide +kernel
theorem dX12_exportFor_108 : decode cX12_exportFor 108 = .ok (.bipush 16, 2) := by decide +kernel
theorem dX12_exportFor_110 : decode cX12_exportFor 110 = .ok (.bipush 52, 2) := by decide +kernel
theorem dX12_exportFor_112 : decode cX12_exportFor 112 = .ok (.iload 9, 2) := by decide +kernel
theorem dX12_exportFor_114 : decode cX12_exportFor 114 = .ok (.iadd, 1) := by decide +kernel
theorem dX12_exportFor_115 : decode cX12_exportFor 115 = .ok (.imul, 1) := by decide +kernel
theorem dX12_exportFor_116 : decode cX12_exportFor 116 = .ok (.iload 11, 2) := by decide +kernel
theorem dX12_exportFor_118 : decode cX12_exportFor 118 = .ok (.iadd, 1) := by decide +kernel
theorem dX12_exportFor_119 : decode cX12_exportFor 119 = .ok (.iaload, 1) := by decide +kernel
theorem dX12_exportFor_120 : decode cX12_exportFor 120 = .ok (.aload_n 0, 1) := by decide +kernel
theorem dX12_exportFor_121 : decode cX12_exportFor 121 = .ok (.getfield 77, 3) := by decide +kernel
theorem dX12_exportFor_124 : decode cX12_exportFor 124 = .ok (.lload 5, 2) := by decide +kernel
theorem dX12_exportFor_126 : decode cX12_exportFor 126 = .ok (.l2i, 1) := by decide +kernel
theorem dX12_exportFor_127 : decode cX12_exportFor 127 = .ok (.iload 11, 2) := by decide +kernel
theorem dX12_exportFor_129 : decode cX12_exportFor 129 = .ok (.iadd, 1) := by decide +kernel
theorem dX12_exportFor_130 : decode cX12_exportFor 130 = .ok (.iaload, 1) := by decide +kernel
theorem dX12_exportFor_131 : decode cX12_exportFor 131 = .ok (.if_icmp .ne 7, 3) := by decide +kernel
theorem dX12_exportFor_134 : decode cX12_exportFor 134 = .ok (.iconst 1, 1) := by decide +kernel
theorem dX12_exportFor_135 : decode cX12_exportFor 135 = .ok (.goto 4, 3) := by decide +kernel
theorem dX12_exportFor_138 : decode cX12_exportFor 138 = .ok (.iconst 0, 1) := by decide +kernel
theorem dX12_exportFor_139 : decode cX12_exportFor 139 = .ok (.istore 10, 2) := by decide +kernel
theorem dX12_exportFor_141 : decode cX12_exportFor 141 = .ok (.iinc 11 1, 3) := by decide +kernel
theorem dX12_exportFor_144 : decode cX12_exportFor 144 = .ok (.goto (-57), 3) := by decide +kernel
theorem dX12_exportFor_147 : decode cX12_exportFor 147 = .ok (.iload 10, 2) := by decide +kernel
theorem dX12_exportFor_149 : decode cX12_exportFor 149 = .ok (.ifCond .eq 6, 3) := by decide +kernel
theorem dX12_exportFor_152 : decode cX12_exportFor 152 = .ok (.iload 9, 2) := by decide +kernel
theorem dX12_exportFor_154 : decode cX12_exportFor 154 = .ok (.ireturn, 1) := by decide +kernel
theorem dX12_exportFor_155 : decode cX12_exportFor 155 = .ok (.iinc 9 1, 3) := by decide +kernel
theorem dX12_exportFor_158 : decode cX12_exportFor 158 = .ok (.goto (-126), 3) := by decide +kernel
theorem dX12_exportFor_161 : decode cX12_exportFor 161 = .ok (.iconst (-1), 1) := by decide +kernel
theorem dX12_exportFor_162 : decode cX12_exportFor 162 = .ok (.ireturn, 1) := by decide +kernel
theorem dX12_fits_0 : decode cX12_fits 0 = .ok (.iconst 0, 1) := by decide +kernel
theorem dX12_fits_1 : decode cX12_fits 1 = .ok (.istore_n 2, 1) := by decide +kernel
theorem dX12_fits_2 : decode cX12_fits 2 = .ok (.iload_n 2, 1) := by decide +kernel
theorem dX12_fits_3 : decode cX12_fits 3 = .ok (.aload_n 0, 1) := by decide +kernel
theorem dX12_fits_4 : decode cX12_fits 4 = .ok (.getfield 341, 3) := by decide +kernel
theorem dX12_fits_7 : decode cX12_fits 7 = .ok (.if_icmp .ge 67, 3) := by decide +kernel
theorem dX12_fits_10 : decode cX12_fits 10 = .ok (.aload_n 0, 1) := by decide +kernel
theorem dX12_fits_11 : decode cX12_fits 11 = .ok (.getfield 95, 3) := by decide +kernel
theorem dX12_fits_14 : decode cX12_fits 14 = .ok (.iload_n 2, 1) := by decide +kernel
theorem dX12_fits_15 : decode cX12_fits 15 = .ok (.laload, 1) := by decide +kernel
theorem dX12_fits_16 : decode cX12_fits 16 = .ok (.lconst 0, 1) := by decide +kernel
theorem dX12_fits_17 : decode cX12_fits 17 = .ok (.lcmp, 1) := by decide +kernel
theorem dX12_fits_18 : decode cX12_fits 18 = .ok (.ifCond .le 50, 3) := by decide +kernel
theorem dX12_fits_21 : decode cX12_fits 21 = .ok (.aload_n 0, 1) := by decide +kernel
theorem dX12_fits_22 : decode cX12_fits 22 = .ok (.getfield 92, 3) := by decide +kernel
theorem dX12_fits_25 : decode cX12_fits 25 = .ok (.iload_n 2, 1) := by decide +kernel
theorem dX12_fits_26 : decode cX12_fits 26 = .ok (.laload, 1) := by decide +kernel
theorem dX12_fits_27 : decode cX12_fits 27 = .ok (.iload_n 1, 1) := by decide +kernel
theorem dX12_fits_28 : decode cX12_fits 28 = .ok (.i2l, 1) := by decide +kernel
theorem dX12_fits_29 : decode cX12_fits 29 = .ok (.ladd, 1) := by decide +kernel
theorem dX12_fits_30 : decode cX12_fits 30 = .ok (.lconst 0, 1) := by decide +kernel
theorem dX12_fits_31 : decode cX12_fits 31 = .ok (.lcmp, 1) := by decide +kernel
theorem dX12_fits_32 : decode cX12_fits 32 = .ok (.ifCond .lt 28, 3) := by decide +kernel
theorem dX12_fits_35 : decode cX12_fits 35 = .ok (.aload_n 0, 1) := by decide +kernel
theorem dX12_fits_36 : decode cX12_fits 36 = .ok (.getfield 92, 3) := by decide +kernel
theorem dX12_fits_39 : decode cX12_fits 39 = .ok (.iload_n 2, 1) := by decide +kernel
theorem dX12_fits_40 : decode cX12_fits 40 = .ok (.laload, 1) := by decide +kernel
theorem dX12_fits_41 : decode cX12_fits 41 = .ok (.iload_n 1, 1) := by decide +kernel
theorem dX12_fits_42 : decode cX12_fits 42 = .ok (.i2l, 1) := by decide +kernel
theorem dX12_fits_43 : decode cX12_fits 43 = .ok (.ladd, 1) := by decide +kernel
theorem dX12_fits_44 : decode cX12_fits 44 = .ok (.aload_n 0, 1) := by decide +kernel
theorem dX12_fits_45 : decode cX12_fits 45 = .ok (.getfield 95, 3) := by decide +kernel
theorem dX12_fits_48 : decode cX12_fits 48 = .ok (.iload_n 2, 1) := by decide +kernel
theorem dX12_fits_49 : decode cX12_fits 49 = .ok (.laload, 1) := by decide +kernel
theorem dX12_fits_50 : decode cX12_fits 50 = .ok (.ladd, 1) := by decide +kernel
theorem dX12_fits_51 : decode cX12_fits 51 = .ok (.lconst 1, 1) := by decide +kernel
theorem dX12_fits_52 : decode cX12_fits 52 = .ok (.lsub, 1) := by decide +kernel
theorem dX12_fits_53 : decode cX12_fits 53 = .ok (.ldc2_w 319, 3) := by decide +kernel
theorem dX12_fits_56 : decode cX12_fits 56 = .ok (.lcmp, 1) := by decide +kernel
theorem dX12_fits_57 : decode cX12_fits 57 = .ok (.ifCond .le 11, 3) := by decide +kernel
theorem dX12_fits_60 : decode cX12_fits 60 = .ok (.aload_n 0, 1) := by decide +kernel
theorem dX12_fits_61 : decode cX12_fits 61 = .ok (.bipush 13, 2) := by decide +kernel
theorem dX12_fits_63 : decode cX12_fits 63 = .ok (.lconst 0, 1) := by decide +kernel
theorem dX12_fits_64 : decode cX12_fits 64 = .ok (.invokevirtual 321, 3) := by decide +kernel
theorem dX12_fits_67 : decode cX12_fits 67 = .ok (.ireturn, 1) := by decide +kernel
theorem dX12_fits_68 : decode cX12_fits 68 = .ok (.iinc 2 1, 3) := by decide +kernel
theorem dX12_fits_71 : decode cX12_fits 71 = .ok (.goto (-69), 3) := by decide +kernel
theorem dX12_fits_74 : decode cX12_fits 74 = .ok (.iconst 1, 1) := by decide +kernel
theorem dX12_fits_75 : decode cX12_fits 75 = .ok (.ireturn, 1) := by decide +kernel
theorem dX12_keeps_0 : decode cX12_keeps 0 = .ok (.aload_n 0, 1) := by decide +kernel
theorem dX12_keeps_1 : decode cX12_keeps 1 = .ok (.aload_n 0, 1) := by decide +kernel
theorem dX12_keeps_2 : decode cX12_keeps 2 = .ok (.getfield 341, 3) := by decide +kernel
theorem dX12_keeps_5 : decode cX12_keeps 5 = .ok (.putfield 467, 3) := by decide +kernel
theorem dX12_keeps_8 : decode cX12_keeps 8 = .ok (.iconst 0, 1) := by decide +kernel
theorem dX12_keeps_9 : decode cX12_keeps 9 = .ok (.istore_n 2, 1) := by decide +kernel
theorem dX12_keeps_10 : decode cX12_keeps 10 = .ok (.iconst 0, 1) := by decide +kernel
theorem dX12_keeps_11 : decode cX12_keeps 11 = .ok (.istore_n 3, 1) := by decide +kernel
theorem dX12_keeps_12 : decode cX12_keeps 12 = .ok (.iload_n 3, 1) := by decide +kernel
theorem dX12_keeps_13 : decode cX12_keeps 13 = .ok (.aload_n 0, 1) := by decide +kernel
theorem dX12_keeps_14 : decode cX12_keeps 14 = .ok (.getfield 341, 3) := by decide +kernel
theorem dX12_keeps_17 : decode cX12_keeps 17 = .ok (.if_icmp .ge 116, 3) := by decide +kernel
theorem dX12_keeps_20 : decode cX12_keeps 20 = .ok (.aload_n 0, 1) := by decide +kernel
theorem dX12_keeps_21 : decode cX12_keeps 21 = .ok (.getfield 113, 3) := by decide +kernel
theorem dX12_keeps_24 : decode cX12_keeps 24 = .ok (.iload_n 3, 1) := by decide +kernel
theorem dX12_keeps_25 : decode cX12_keeps 25 = .ok (.aload_n 0, 1) := by decide +kernel
theorem dX12_keeps_26 : decode cX12_keeps 26 = .ok (.getfield 92, 3) := by decide +kernel
theorem dX12_keeps_29 : decode cX12_keeps 29 = .ok (.iload_n 3, 1) := by decide +kernel
theorem dX12_keeps_30 : decode cX12_keeps 30 = .ok (.laload, 1) := by decide +kernel
theorem dX12_keeps_31 : decode cX12_keeps 31 = .ok (.iload_n 1, 1) := by decide +kernel
theorem dX12_keeps_32 : decode cX12_keeps 32 = .ok (.i2l, 1) := by decide +kernel
theorem dX12_keeps_33 : decode cX12_keeps 33 = .ok (.ladd, 1) := by decide +kernel
theorem dX12_keeps_34 : decode cX12_keeps 34 = .ok (.lastore, 1) := by decide +kernel
theorem dX12_keeps_35 : decode cX12_keeps 35 = .ok (.aload_n 0, 1) := by decide +kernel
theorem dX12_keeps_36 : decode cX12_keeps 36 = .ok (.getfield 116, 3) := by decide +kernel
theorem dX12_keeps_39 : decode cX12_keeps 39 = .ok (.iload_n 3, 1) := by decide +kernel
theorem dX12_keeps_40 : decode cX12_keeps 40 = .ok (.aload_n 0, 1) := by decide +kernel
theorem dX12_keeps_41 : decode cX12_keeps 41 = .ok (.getfield 95, 3) := by decide +kernel
theorem dX12_keeps_44 : decode cX12_keeps 44 = .ok (.iload_n 3, 1) := by decide +kernel
theorem dX12_keeps_45 : decode cX12_keeps 45 = .ok (.laload, 1) := by decide +kernel
theorem dX12_keeps_46 : decode cX12_keeps 46 = .ok (.lastore, 1) := by decide +kernel
theorem dX12_keeps_47 : decode cX12_keeps 47 = .ok (.aload_n 0, 1) := by decide +kernel
theorem dX12_keeps_48 : decode cX12_keeps 48 = .ok (.getfield 119, 3) := by decide +kernel
theorem dX12_keeps_51 : decode cX12_keeps 51 = .ok (.iload_n 3, 1) := by decide +kernel
theorem dX12_keeps_52 : decode cX12_keeps 52 = .ok (.iload_n 2, 1) := by decide +kernel
theorem dX12_keeps_53 : decode cX12_keeps 53 = .ok (.iastore, 1) := by decide +kernel
theorem dX12_keeps_54 : decode cX12_keeps 54 = .ok (.iconst 0, 1) := by decide +kernel
theorem dX12_keeps_55 : decode cX12_keeps 55 = .ok (.istore 4, 2) := by decide +kernel
theorem dX12_keeps_57 : decode cX12_keeps 57 = .ok (.iload 4, 2) := by decide +kernel
theorem dX12_keeps_59 : decode cX12_keeps 59 = .ok (.i2l, 1) := by decide +kernel
theorem dX12_keeps_60 : decode cX12_keeps 60 = .ok (.aload_n 0, 1) := by decide +kernel
theorem dX12_keeps_61 : decode cX12_keeps 61 = .ok (.getfield 95, 3) := by decide +kernel
theorem dX12_keeps_64 : decode cX12_keeps 64 = .ok (.iload_n 3, 1) := by decide +kernel
theorem dX12_keeps_65 : decode cX12_keeps 65 = .ok (.laload, 1) := by decide +kernel
theorem dX12_keeps_66 : decode cX12_keeps 66 = .ok (.lcmp, 1) := by decide +kernel
theorem dX12_keeps_67 : decode cX12_keeps 67 = .ok (.ifCond .ge 50, 3) := by decide +kernel
theorem dX12_keeps_70 : decode cX12_keeps 70 = .ok (.aload_n 0, 1) := by decide +kernel
theorem dX12_keeps_71 : decode cX12_keeps 71 = .ok (.getfield 122, 3) := by decide +kernel
theorem dX12_keeps_74 : decode cX12_keeps 74 = .ok (.iload_n 2, 1) := by decide +kernel
theorem dX12_keeps_75 : decode cX12_keeps 75 = .ok (.iload 4, 2) := by decide +kernel
theorem dX12_keeps_77 : decode cX12_keeps 77 = .ok (.iadd, 1) := by decide +kernel
theorem dX12_keeps_78 : decode cX12_keeps 78 = .ok (.iload 4, 2) := by decide +kernel
theorem dX12_keeps_80 : decode cX12_keeps 80 = .ok (.i2l, 1) := by decide +kernel
theorem dX12_keeps_81 : decode cX12_keeps 81 = .ok (.aload_n 0, 1) := by decide +kernel
theorem dX12_keeps_82 : decode cX12_keeps 82 = .ok (.getfield 101, 3) := by decide +kernel
theorem dX12_keeps_85 : decode cX12_keeps 85 = .ok (.iload_n 3, 1) := by decide +kernel
theorem dX12_keeps_86 : decode cX12_keeps 86 = .ok (.laload, 1) := by decide +kernel
theorem dX12_keeps_87 : decode cX12_keeps 87 = .ok (.lcmp, 1) := by decide +kernel
theorem dX12_keeps_88 : decode cX12_keeps 88 = .ok (.ifCond .ge 21, 3) := by decide +kernel
theorem dX12_keeps_91 : decode cX12_keeps 91 = .ok (.aload_n 0, 1) := by decide +kernel
theorem dX12_keeps_92 : decode cX12_keeps 92 = .ok (.getfield 77, 3) := by decide +kernel
theorem dX12_keeps_95 : decode cX12_keeps 95 = .ok (.aload_n 0, 1) := by decide +kernel
theorem dX12_keeps_96 : decode cX12_keeps 96 = .ok (.getfield 98, 3) := by decide +kernel
theorem dX12_keeps_99 : decode cX12_keeps 99 = .ok (.iload_n 3, 1) := by decide +kernel
theorem dX12_keeps_100 : decode cX12_keeps 100 = .ok (.laload, 1) := by decide +kernel
theorem dX12_keeps_101 : decode cX12_keeps 101 = .ok (.l2i, 1) := by decide +kernel
theorem dX12_keeps_102 : decode cX12_keeps 102 = .ok (.iload 4, 2) := by decide +kernel
theorem dX12_keeps_104 : decode cX12_keeps 104 = .ok (.iadd, 1) := by decide +kernel
theorem dX12_keeps_105 : decode cX12_keeps 105 = .ok (.iaload, 1) := by decide +kernel
theorem dX12_keeps_106 : decode cX12_keeps 106 = .ok (.goto 4, 3) := by decide +kernel
theorem dX12_keeps_109 : decode cX12_keeps 109 = .ok (.iconst 0, 1) := by decide +kernel
theorem dX12_keeps_110 : decode cX12_keeps 110 = .ok (.iastore, 1) := by decide +kernel
theorem dX12_keeps_111 : decode cX12_keeps 111 = .ok (.iinc 4 1, 3) := by decide +kernel
theorem dX12_keeps_114 : decode cX12_keeps 114 = .ok (.goto (-57), 3) := by decide +kernel
theorem dX12_keeps_117 : decode cX12_keeps 117 = .ok (.iload_n 2, 1) := by decide +kernel
theorem dX12_keeps_118 : decode cX12_keeps 118 = .ok (.aload_n 0, 1) := by decide +kernel
theorem dX12_keeps_119 : decode cX12_keeps 119 = .ok (.getfield 95, 3) := by decide +kernel
theorem dX12_keeps_122 : decode cX12_keeps 122 = .ok (.iload_n 3, 1) := by decide +kernel
theorem dX12_keeps_123 : decode cX12_keeps 123 = .ok (.laload, 1) := by decide +kernel
theorem dX12_keeps_124 : decode cX12_keeps 124 = .ok (.l2i, 1) := by decide +kernel
theorem dX12_keeps_125 : decode cX12_keeps 125 = .ok (.iadd, 1) := by decide +kernel
theorem dX12_keeps_126 : decode cX12_keeps 126 = .ok (.istore_n 2, 1) := by decide +kernel
theorem dX12_keeps_127 : decode cX12_keeps 127 = .ok (.iinc 3 1, 3) := by decide +kernel
theorem dX12_keeps_130 : decode cX12_keeps 130 = .ok (.goto (-118), 3) := by decide +kernel
theorem dX12_keeps_133 : decode cX12_keeps 133 = .ok (.aload_n 0, 1) := by decide +kernel
theorem dX12_keeps_134 : decode cX12_keeps 134 = .ok (.aload_n 0, 1) := by decide +kernel
theorem dX12_keeps_135 : decode cX12_keeps 135 = .ok (.getfield 416, 3) := by decide +kernel
theorem dX12_keeps_138 : decode cX12_keeps 138 = .ok (.putfield 470, 3) := by decide +kernel
theorem dX12_keeps_141 : decode cX12_keeps 141 = .ok (.iconst 0, 1) := by decide +kernel
theorem dX12_keeps_142 : decode cX12_keeps 142 = .ok (.istore_n 3, 1) := by decide +kernel
theorem dX12_keeps_143 : decode cX12_keeps 143 = .ok (.iload_n 3, 1) := by decide +kernel
theorem dX12_keeps_144 : decode cX12_keeps 144 = .ok (.aload_n 0, 1) := by decide +kernel
theorem dX12_keeps_145 : decode cX12_keeps 145 = .ok (.getfield 416, 3) := by decide +kernel
theorem dX12_keeps_148 : decode cX12_keeps 148 = .ok (.if_icmp .ge 238, 3) := by decide +kernel
theorem dX12_keeps_151 : decode cX12_keeps 151 = .ok (.aload_n 0, 1) := by decide +kernel
theorem dX12_keeps_152 : decode cX12_keeps 152 = .ok (.getfield 104, 3) := by decide +kernel
theorem dX12_keeps_155 : decode cX12_keeps 155 = .ok (.iload_n 3, 1) := by decide +kernel
theorem dX12_keeps_156 : decode cX12_keeps 156 = .ok (.laload, 1) := by decide +kernel
theorem dX12_keeps_157 : decode cX12_keeps 157 = .ok (.lstore 4, 2) := by decide +kernel
theorem dX12_keeps_159 : decode cX12_keeps 159 = .ok (.lload 4, 2) := by decide +kernel
theorem dX12_keeps_161 : decode cX12_keeps 161 = .ok (.lconst 0, 1) := by decide +kernel
theorem dX12_keeps_162 : decode cX12_keeps 162 = .ok (.lcmp, 1) := by decide +kernel
theorem dX12_keeps_163 : decode cX12_keeps 163 = .ok (.ifCond .ge 7, 3) := by decide +kernel
theorem dX12_keeps_166 : decode cX12_keeps 166 = .ok (.iconst 1, 1) := by decide +kernel
theorem dX12_keeps_167 : decode cX12_keeps 167 = .ok (.goto 4, 3) := by decide +kernel
theorem dX12_keeps_170 : decode cX12_keeps 170 = .ok (.iconst 0, 1) := by decide +kernel
theorem dX12_keeps_171 : decode cX12_keeps 171 = .ok (.istore 6, 2) := by decide +kernel
theorem dX12_keeps_173 : decode cX12_keeps 173 = .ok (.aload_n 0, 1) := by decide +kernel
theorem dX12_keeps_174 : decode cX12_keeps 174 = .ok (.getfield 125, 3) := by decide +kernel
theorem dX12_keeps_177 : decode cX12_keeps 177 = .ok (.iload_n 3, 1) := by decide +kernel
theorem dX12_keeps_178 : decode cX12_keeps 178 = .ok (.aload_n 0, 1) := by decide +kernel
theorem dX12_keeps_179 : decode cX12_keeps 179 = .ok (.getfield 113, 3) := by decide +kernel
theorem dX12_keeps_182 : decode cX12_keeps 182 = .ok (.aload_n 0, 1) := by decide +kernel
theorem dX12_keeps_183 : decode cX12_keeps 183 = .ok (.getfield 107, 3) := by decide +kernel
theorem dX12_keeps_186 : decode cX12_keeps 186 = .ok (.iload_n 3, 1) := by decide +kernel
theorem dX12_keeps_187 : decode cX12_keeps 187 = .ok (.iaload, 1) := by decide +kernel
theorem dX12_keeps_188 : decode cX12_keeps 188 = .ok (.laload, 1) := by decide +kernel
theorem dX12_keeps_189 : decode cX12_keeps 189 = .ok (.aload_n 0, 1) := by decide +kernel
theorem dX12_keeps_190 : decode cX12_keeps 190 = .ok (.getfield 110, 3) := by decide +kernel
theorem dX12_keeps_193 : decode cX12_keeps 193 = .ok (.iload_n 3, 1) := by decide +kernel
theorem dX12_keeps_194 : decode cX12_keeps 194 = .ok (.iaload, 1) := by decide +kernel
theorem dX12_keeps_195 : decode cX12_keeps 195 = .ok (.i2l, 1) := by decide +kernel
theorem dX12_keeps_196 : decode cX12_keeps 196 = .ok (.ladd, 1) := by decide +kernel
theorem dX12_keeps_197 : decode cX12_keeps 197 = .ok (.lastore, 1) := by decide +kernel
theorem dX12_keeps_198 : decode cX12_keeps 198 = .ok (.aload_n 0, 1) := by decide +kernel
theorem dX12_keeps_199 : decode cX12_keeps 199 = .ok (.getfield 134, 3) := by decide +kernel
theorem dX12_keeps_202 : decode cX12_keeps 202 = .ok (.iload_n 3, 1) := by decide +kernel
theorem dX12_keeps_203 : decode cX12_keeps 203 = .ok (.iload 6, 2) := by decide +kernel
theorem dX12_keeps_205 : decode cX12_keeps 205 = .ok (.bastore, 1) := by decide +kernel
theorem dX12_keeps_206 : decode cX12_keeps 206 = .ok (.aload_n 0, 1) := by decide +kernel
theorem dX12_keeps_207 : decode cX12_keeps 207 = .ok (.getfield 128, 3) := by decide +kernel
theorem dX12_keeps_210 : decode cX12_keeps 210 = .ok (.iload_n 3, 1) := by decide +kernel
theorem dX12_keeps_211 : decode cX12_keeps 211 = .ok (.iload 6, 2) := by decide +kernel
theorem dX12_keeps_213 : decode cX12_keeps 213 = .ok (.ifCond .eq 12, 3) := by decide +kernel
theorem dX12_keeps_216 : decode cX12_keeps 216 = .ok (.lload 4, 2) := by decide +kernel
theorem dX12_keeps_218 : decode cX12_keeps 218 = .ok (.ldc2_w 454, 3) := by decide +kernel
theorem dX12_keeps_221 : decode cX12_keeps 221 = .ok (.land, 1) := by decide +kernel
theorem dX12_keeps_222 : decode cX12_keeps 222 = .ok (.goto 9, 3) := by decide +kernel
theorem dX12_keeps_225 : decode cX12_keeps 225 = .ok (.lload 4, 2) := by decide +kernel
theorem dX12_keeps_227 : decode cX12_keeps 227 = .ok (.ldc2_w 473, 3) := by decide +kernel
theorem dX12_keeps_230 : decode cX12_keeps 230 = .ok (.land, 1) := by decide +kernel
theorem dX12_keeps_231 : decode cX12_keeps 231 = .ok (.lastore, 1) := by decide +kernel
theorem dX12_keeps_232 : decode cX12_keeps 232 = .ok (.aload_n 0, 1) := by decide +kernel
theorem dX12_keeps_233 : decode cX12_keeps 233 = .ok (.getfield 131, 3) := by decide +kernel
theorem dX12_keeps_236 : decode cX12_keeps 236 = .ok (.iload_n 3, 1) := by decide +kernel
theorem dX12_keeps_237 : decode cX12_keeps 237 = .ok (.lload 4, 2) := by decide +kernel
theorem dX12_keeps_239 : decode cX12_keeps 239 = .ok (.iload 6, 2) := by decide +kernel
theorem dX12_keeps_241 : decode cX12_keeps 241 = .ok (.ifCond .eq 8, 3) := by decide +kernel
theorem dX12_keeps_244 : decode cX12_keeps 244 = .ok (.bipush 24, 2) := by decide +kernel
theorem dX12_keeps_246 : decode cX12_keeps 246 = .ok (.goto 5, 3) := by decide +kernel
theorem dX12_keeps_249 : decode cX12_keeps 249 = .ok (.bipush 36, 2) := by decide +kernel
theorem dX12_keeps_251 : decode cX12_keeps 251 = .ok (.lshr, 1) := by decide +kernel
theorem dX12_keeps_252 : decode cX12_keeps 252 = .ok (.l2i, 1) := by decide +kernel
theorem dX12_keeps_253 : decode cX12_keeps 253 = .ok (.sipush 255, 3) := by decide +kernel
theorem dX12_keeps_256 : decode cX12_keeps 256 = .ok (.iand, 1) := by decide +kernel
theorem dX12_keeps_257 : decode cX12_keeps 257 = .ok (.iastore, 1) := by decide +kernel
theorem dX12_keeps_258 : decode cX12_keeps 258 = .ok (.aload_n 0, 1) := by decide +kernel
theorem dX12_keeps_259 : decode cX12_keeps 259 = .ok (.getfield 128, 3) := by decide +kernel
theorem dX12_keeps_262 : decode cX12_keeps 262 = .ok (.iload_n 3, 1) := by decide +kernel
theorem dX12_keeps_263 : decode cX12_keeps 263 = .ok (.laload, 1) := by decide +kernel
theorem dX12_keeps_264 : decode cX12_keeps 264 = .ok (.iload_n 1, 1) := by decide +kernel
theorem dX12_keeps_265 : decode cX12_keeps 265 = .ok (.i2l, 1) := by decide +kernel
theorem dX12_keeps_266 : decode cX12_keeps 266 = .ok (.ladd, 1) := by decide +kernel
theorem dX12_keeps_267 : decode cX12_keeps 267 = .ok (.ldc2_w 475, 3) := by decide +kernel
theorem dX12_keeps_270 : decode cX12_keeps 270 = .ok (.land, 1) := by decide +kernel
theorem dX12_keeps_271 : decode cX12_keeps 271 = .ok (.aload_n 0, 1) := by decide +kernel
theorem dX12_keeps_272 : decode cX12_keeps 272 = .ok (.getfield 131, 3) := by decide +kernel
theorem dX12_keeps_275 : decode cX12_keeps 275 = .ok (.iload_n 3, 1) := by decide +kernel
theorem dX12_keeps_276 : decode cX12_keeps 276 = .ok (.iaload, 1) := by decide +kernel
theorem dX12_keeps_277 : decode cX12_keeps 277 = .ok (.i2l, 1) := by decide +kernel
theorem dX12_keeps_278 : decode cX12_keeps 278 = .ok (.bipush 56, 2) := by decide +kernel
theorem dX12_keeps_280 : decode cX12_keeps 280 = .ok (.lshl, 1) := by decide +kernel
theorem dX12_keeps_281 : decode cX12_keeps 281 = .ok (.lor, 1) := by decide +kernel
theorem dX12_keeps_282 : decode cX12_keeps 282 = .ok (.lstore 7, 2) := by decide +kernel
theorem dX12_keeps_284 : decode cX12_keeps 284 = .ok (.iload 6, 2) := by decide +kernel
theorem dX12_keeps_286 : decode cX12_keeps 286 = .ok (.ifCond .eq 39, 3) := by decide +kernel
theorem dX12_keeps_289 : decode cX12_keeps 289 = .ok (.aload_n 0, 1) := by decide +kernel
theorem dX12_keeps_290 : decode cX12_keeps 290 = .ok (.lload 4, 2) := by decide +kernel
theorem dX12_keeps_292 : decode cX12_keeps 292 = .ok (.invokevirtual 459, 3) := by decide +kernel
theorem dX12_keeps_295 : decode cX12_keeps 295 = .ok (.istore 9, 2) := by decide +kernel
theorem dX12_keeps_297 : decode cX12_keeps 297 = .ok (.iload 9, 2) := by decide +kernel
theorem dX12_keeps_299 : decode cX12_keeps 299 = .ok (.iconst (-1), 1) := by decide +kernel
theorem dX12_keeps_300 : decode cX12_keeps 300 = .ok (.if_icmp .ne 7, 3) := by decide +kernel
theorem dX12_keeps_303 : decode cX12_keeps 303 = .ok (.lconst 0, 1) := by decide +kernel
theorem dX12_keeps_304 : decode cX12_keeps 304 = .ok (.goto 11, 3) := by decide +kernel
theorem dX12_keeps_307 : decode cX12_keeps 307 = .ok (.aload_n 0, 1) := by decide +kernel
theorem dX12_keeps_308 : decode cX12_keeps 308 = .ok (.getfield 74, 3) := by decide +kernel
theorem dX12_keeps_311 : decode cX12_keeps 311 = .ok (.iload 9, 2) := by decide +kernel
theorem dX12_keeps_313 : decode cX12_keeps 313 = .ok (.iaload, 1) := by decide +kernel
theorem dX12_keeps_314 : decode cX12_keeps 314 = .ok (.i2l, 1) := by decide +kernel
theorem dX12_keeps_315 : decode cX12_keeps 315 = .ok (.aload_n 0, 1) := by decide +kernel
theorem dX12_keeps_316 : decode cX12_keeps 316 = .ok (.getfield 131, 3) := by decide +kernel
theorem dX12_keeps_319 : decode cX12_keeps 319 = .ok (.iload_n 3, 1) := by decide +kernel
theorem dX12_keeps_320 : decode cX12_keeps 320 = .ok (.iaload, 1) := by decide +kernel
theorem dX12_keeps_321 : decode cX12_keeps 321 = .ok (.i2l, 1) := by decide +kernel
theorem dX12_keeps_322 : decode cX12_keeps 322 = .ok (.ladd, 1) := by decide +kernel
theorem dX12_keeps_323 : decode cX12_keeps 323 = .ok (.lstore 7, 2) := by decide +kernel
theorem dX12_keeps_325 : decode cX12_keeps 325 = .ok (.iconst 0, 1) := by decide +kernel
theorem dX12_keeps_326 : decode cX12_keeps 326 = .ok (.istore 9, 2) := by decide +kernel
theorem dX12_keeps_328 : decode cX12_keeps 328 = .ok (.iload 9, 2) := by decide +kernel
theorem dX12_keeps_330 : decode cX12_keeps 330 = .ok (.bipush 8, 2) := by decide +kernel
theorem dX12_keeps_332 : decode cX12_keeps 332 = .ok (.if_icmp .ge 48, 3) := by decide +kernel
theorem dX12_keeps_335 : decode cX12_keeps 335 = .ok (.aload_n 0, 1) := by decide +kernel
theorem dX12_keeps_336 : decode cX12_keeps 336 = .ok (.getfield 122, 3) := by decide +kernel
theorem dX12_keeps_339 : decode cX12_keeps 339 = .ok (.aload_n 0, 1) := by decide +kernel
theorem dX12_keeps_340 : decode cX12_keeps 340 = .ok (.getfield 119, 3) := by decide +kernel
theorem dX12_keeps_343 : decode cX12_keeps 343 = .ok (.aload_n 0, 1) := by decide +kernel
theorem dX12_keeps_344 : decode cX12_keeps 344 = .ok (.getfield 107, 3) := by decide +kernel
theorem dX12_keeps_347 : decode cX12_keeps 347 = .ok (.iload_n 3, 1) := by decide +kernel
theorem dX12_keeps_348 : decode cX12_keeps 348 = .ok (.iaload, 1) := by decide +kernel
theorem dX12_keeps_349 : decode cX12_keeps 349 = .ok (.iaload, 1) := by decide +kernel
theorem dX12_keeps_350 : decode cX12_keeps 350 = .ok (.aload_n 0, 1) := by decide +kernel
theorem dX12_keeps_351 : decode cX12_keeps 351 = .ok (.getfield 110, 3) := by decide +kernel
theorem dX12_keeps_354 : decode cX12_keeps 354 = .ok (.iload_n 3, 1) := by decide +kernel
theorem dX12_keeps_355 : decode cX12_keeps 355 = .ok (.iaload, 1) := by decide +kernel
theorem dX12_keeps_356 : decode cX12_keeps 356 = .ok (.iadd, 1) := by decide +kernel
theorem dX12_keeps_357 : decode cX12_keeps 357 = .ok (.iload 9, 2) := by decide +kernel
theorem dX12_keeps_359 : decode cX12_keeps 359 = .ok (.iadd, 1) := by decide +kernel
theorem dX12_keeps_360 : decode cX12_keeps 360 = .ok (.lload 7, 2) := by decide +kernel
theorem dX12_keeps_362 : decode cX12_keeps 362 = .ok (.bipush 8, 2) := by decide +kernel
theorem dX12_keeps_364 : decode cX12_keeps 364 = .ok (.iload 9, 2) := by decide +kernel
theorem dX12_keeps_366 : decode cX12_keeps 366 = .ok (.imul, 1) := by decide +kernel
theorem dX12_keeps_367 : decode cX12_keeps 367 = .ok (.lshr, 1) := by decide +kernel
theorem dX12_keeps_368 : decode cX12_keeps 368 = .ok (.l2i, 1) := by decide +kernel
theorem dX12_keeps_369 : decode cX12_keeps 369 = .ok (.sipush 255, 3) := by decide +kernel
theorem dX12_keeps_372 : decode cX12_keeps 372 = .ok (.iand, 1) := by decide +kernel
theorem dX12_keeps_373 : decode cX12_keeps 373 = .ok (.iastore, 1) := by decide +kernel
theorem dX12_keeps_374 : decode cX12_keeps 374 = .ok (.iinc 9 1, 3) := by decide +kernel
theorem dX12_keeps_377 : decode cX12_keeps 377 = .ok (.goto (-49), 3) := by decide +kernel
theorem dX12_keeps_380 : decode cX12_keeps 380 = .ok (.iinc 3 1, 3) := by decide +kernel
theorem dX12_keeps_383 : decode cX12_keeps 383 = .ok (.goto (-240), 3) := by decide +kernel
theorem dX12_keeps_386 : decode cX12_keeps 386 = .ok (.iconst 0, 1) := by decide +kernel
theorem dX12_keeps_387 : decode cX12_keeps 387 = .ok (.istore_n 3, 1) := by decide +kernel
theorem dX12_keeps_388 : decode cX12_keeps 388 = .ok (.iload_n 3, 1) := by decide +kernel
theorem dX12_keeps_389 : decode cX12_keeps 389 = .ok (.aload_n 0, 1) := by decide +kernel
theorem dX12_keeps_390 : decode cX12_keeps 390 = .ok (.getfield 253, 3) := by decide +kernel
theorem dX12_keeps_393 : decode cX12_keeps 393 = .ok (.if_icmp .ge 21, 3) := by decide +kernel
theorem dX12_keeps_396 : decode cX12_keeps 396 = .ok (.aload_n 0, 1) := by decide +kernel
theorem dX12_keeps_397 : decode cX12_keeps 397 = .ok (.getfield 137, 3) := by decide +kernel
theorem dX12_keeps_400 : decode cX12_keeps 400 = .ok (.iload_n 3, 1) := by decide +kernel
theorem dX12_keeps_401 : decode cX12_keeps 401 = .ok (.aload_n 0, 1) := by decide +kernel
theorem dX12_keeps_402 : decode cX12_keeps 402 = .ok (.getfield 77, 3) := by decide +kernel
theorem dX12_keeps_405 : decode cX12_keeps 405 = .ok (.iload_n 3, 1) := by decide +kernel
theorem dX12_keeps_406 : decode cX12_keeps 406 = .ok (.iaload, 1) := by decide +kernel
theorem dX12_keeps_407 : decode cX12_keeps 407 = .ok (.iastore, 1) := by decide +kernel
theorem dX12_keeps_408 : decode cX12_keeps 408 = .ok (.iinc 3 1, 3) := by decide +kernel
theorem dX12_keeps_411 : decode cX12_keeps 411 = .ok (.goto (-23), 3) := by decide +kernel
theorem dX12_keeps_414 : decode cX12_keeps 414 = .ok (.aload_n 0, 1) := by decide +kernel
theorem dX12_keeps_415 : decode cX12_keeps 415 = .ok (.aload_n 0, 1) := by decide +kernel
theorem dX12_keeps_416 : decode cX12_keeps 416 = .ok (.getfield 350, 3) := by decide +kernel
theorem dX12_keeps_419 : decode cX12_keeps 419 = .ok (.ifCond .eq 11, 3) := by decide +kernel
theorem dX12_keeps_422 : decode cX12_keeps 422 = .ok (.aload_n 0, 1) := by decide +kernel
theorem dX12_keeps_423 : decode cX12_keeps 423 = .ok (.getfield 395, 3) := by decide +kernel
theorem dX12_keeps_426 : decode cX12_keeps 426 = .ok (.l2i, 1) := by decide +kernel
theorem dX12_keeps_427 : decode cX12_keeps 427 = .ok (.goto 4, 3) := by decide +kernel
theorem dX12_keeps_430 : decode cX12_keeps 430 = .ok (.iconst 0, 1) := by decide +kernel
theorem dX12_keeps_431 : decode cX12_keeps 431 = .ok (.putfield 477, 3) := by decide +kernel
theorem dX12_keeps_434 : decode cX12_keeps 434 = .ok (.iconst 0, 1) := by decide +kernel
theorem dX12_keeps_435 : decode cX12_keeps 435 = .ok (.istore_n 3, 1) := by decide +kernel
theorem dX12_keeps_436 : decode cX12_keeps 436 = .ok (.iload_n 3, 1) := by decide +kernel
theorem dX12_keeps_437 : decode cX12_keeps 437 = .ok (.aload_n 0, 1) := by decide +kernel
theorem dX12_keeps_438 : decode cX12_keeps 438 = .ok (.getfield 477, 3) := by decide +kernel
theorem dX12_keeps_441 : decode cX12_keeps 441 = .ok (.if_icmp .ge 93, 3) := by decide +kernel
theorem dX12_keeps_444 : decode cX12_keeps 444 = .ok (.aload_n 0, 1) := by decide +kernel
theorem dX12_keeps_445 : decode cX12_keeps 445 = .ok (.getfield 390, 3) := by decide +kernel
theorem dX12_keeps_448 : decode cX12_keeps 448 = .ok (.ldc2_w 298, 3) := by decide +kernel
theorem dX12_keeps_451 : decode cX12_keeps 451 = .ok (.iload_n 3, 1) := by decide +kernel
theorem dX12_keeps_452 : decode cX12_keeps 452 = .ok (.i2l, 1) := by decide +kernel
theorem dX12_keeps_453 : decode cX12_keeps 453 = .ok (.lmul, 1) := by decide +kernel
theorem dX12_keeps_454 : decode cX12_keeps 454 = .ok (.ladd, 1) := by decide +kernel
theorem dX12_keeps_455 : decode cX12_keeps 455 = .ok (.lstore 4, 2) := by decide +kernel
theorem dX12_keeps_457 : decode cX12_keeps 457 = .ok (.aload_n 0, 1) := by decide +kernel
theorem dX12_keeps_458 : decode cX12_keeps 458 = .ok (.getfield 140, 3) := by decide +kernel
theorem dX12_keeps_461 : decode cX12_keeps 461 = .ok (.iload_n 3, 1) := by decide +kernel
theorem dX12_keeps_462 : decode cX12_keeps 462 = .ok (.aload_n 0, 1) := by decide +kernel
theorem dX12_keeps_463 : decode cX12_keeps 463 = .ok (.getfield 398, 3) := by decide +kernel
theorem dX12_keeps_466 : decode cX12_keeps 466 = .ok (.aload_n 0, 1) := by decide +kernel
theorem dX12_keeps_467 : decode cX12_keeps 467 = .ok (.lload 4, 2) := by decide +kernel
theorem dX12_keeps_469 : decode cX12_keeps 469 = .ok (.invokevirtual 307, 3) := by decide +kernel
theorem dX12_keeps_472 : decode cX12_keeps 472 = .ok (.ladd, 1) := by decide +kernel
theorem dX12_keeps_473 : decode cX12_keeps 473 = .ok (.l2i, 1) := by decide +kernel
theorem dX12_keeps_474 : decode cX12_keeps 474 = .ok (.iastore, 1) := by decide +kernel
theorem dX12_keeps_475 : decode cX12_keeps 475 = .ok (.aload_n 0, 1) := by decide +kernel
theorem dX12_keeps_476 : decode cX12_keeps 476 = .ok (.getfield 143, 3) := by decide +kernel
theorem dX12_keeps_479 : decode cX12_keeps 479 = .ok (.iload_n 3, 1) := by decide +kernel
theorem dX12_keeps_480 : decode cX12_keeps 480 = .ok (.aload_n 0, 1) := by decide +kernel
theorem dX12_keeps_481 : decode cX12_keeps 481 = .ok (.aload_n 0, 1) := by decide +kernel
theorem dX12_keeps_482 : decode cX12_keeps 482 = .ok (.getfield 140, 3) := by decide +kernel
theorem dX12_keeps_485 : decode cX12_keeps 485 = .ok (.iload_n 3, 1) := by decide +kernel
theorem dX12_keeps_486 : decode cX12_keeps 486 = .ok (.iaload, 1) := by decide +kernel
theorem dX12_keeps_487 : decode cX12_keeps 487 = .ok (.i2l, 1) := by decide +kernel
theorem dX12_keeps_488 : decode cX12_keeps 488 = .ok (.aload_n 0, 1) := by decide +kernel
theorem dX12_keeps_489 : decode cX12_keeps 489 = .ok (.getfield 398, 3) := by decide +kernel
theorem dX12_keeps_492 : decode cX12_keeps 492 = .ok (.aload_n 0, 1) := by decide +kernel
theorem dX12_keeps_493 : decode cX12_keeps 493 = .ok (.getfield 401, 3) := by decide +kernel
theorem dX12_keeps_496 : decode cX12_keeps 496 = .ok (.ladd, 1) := by decide +kernel
theorem dX12_keeps_497 : decode cX12_keeps 497 = .ok (.invokevirtual 410, 3) := by decide +kernel
theorem dX12_keeps_500 : decode cX12_keeps 500 = .ok (.l2i, 1) := by decide +kernel
theorem dX12_keeps_501 : decode cX12_keeps 501 = .ok (.aload_n 0, 1) := by decide +kernel
theorem dX12_keeps_502 : decode cX12_keeps 502 = .ok (.getfield 140, 3) := by decide +kernel
theorem dX12_keeps_505 : decode cX12_keeps 505 = .ok (.iload_n 3, 1) := by decide +kernel
theorem dX12_keeps_506 : decode cX12_keeps 506 = .ok (.iaload, 1) := by decide +kernel
theorem dX12_keeps_507 : decode cX12_keeps 507 = .ok (.isub, 1) := by decide +kernel
theorem dX12_keeps_508 : decode cX12_keeps 508 = .ok (.iastore, 1) := by decide +kernel
theorem dX12_keeps_509 : decode cX12_keeps 509 = .ok (.aload_n 0, 1) := by decide +kernel
theorem dX12_keeps_510 : decode cX12_keeps 510 = .ok (.getfield 146, 3) := by decide +kernel
theorem dX12_keeps_513 : decode cX12_keeps 513 = .ok (.iload_n 3, 1) := by decide +kernel
theorem dX12_keeps_514 : decode cX12_keeps 514 = .ok (.aload_n 0, 1) := by decide +kernel
theorem dX12_keeps_515 : decode cX12_keeps 515 = .ok (.lload 4, 2) := by decide +kernel
theorem dX12_keeps_517 : decode cX12_keeps 517 = .ok (.ldc2_w 361, 3) := by decide +kernel
theorem dX12_keeps_520 : decode cX12_keeps 520 = .ok (.ladd, 1) := by decide +kernel
theorem dX12_keeps_521 : decode cX12_keeps 521 = .ok (.invokevirtual 316, 3) := by decide +kernel
theorem dX12_keeps_524 : decode cX12_keeps 524 = .ok (.l2i, 1) := by decide +kernel
theorem dX12_keeps_525 : decode cX12_keeps 525 = .ok (.iload_n 1, 1) := by decide +kernel
theorem dX12_keeps_526 : decode cX12_keeps 526 = .ok (.iadd, 1) := by decide +kernel
theorem dX12_keeps_527 : decode cX12_keeps 527 = .ok (.iastore, 1) := by decide +kernel
theorem dX12_keeps_528 : decode cX12_keeps 528 = .ok (.iinc 3 1, 3) := by decide +kernel
theorem dX12_keeps_531 : decode cX12_keeps 531 = .ok (.goto (-95), 3) := by decide +kernel
theorem dX12_keeps_534 : decode cX12_keeps 534 = .ok (.return_, 1) := by decide +kernel
