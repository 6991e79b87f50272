theorem dX10_addSegmentCommand_0 : decode cX10_addSegmentCommand 0 = .ok (.aload_n 0, 1) := by decide +kernel
theorem dX10_addSegmentCommand_1 : decode cX10_addSegmentCommand 1 = .ok (.getfield 9, 3) := by decide +kernel
theorem dX10_addSegmentCommand_4 : decode cX10_addSegmentCommand 4 = .ok (.iload_n 1, 1) := by decide +kernel
theorem dX10_addSegmentCommand_5 : decode cX10_addSegmentCommand 5 = .ok (.invokevirtual 140, 3) := by decide +kernel
theorem dX10_addSegmentCommand_8 : decode cX10_addSegmentCommand 8 = .ok (.istore_n 2, 1) := by decide +kernel
theorem dX10_addSegmentCommand_9 : decode cX10_addSegmentCommand 9 = .ok (.aload_n 0, 1) := by decide +kernel
theorem dX10_addSegmentCommand_10 : decode cX10_addSegmentCommand 10 = .ok (.getfield 15, 3) := by decide +kernel
theorem dX10_addSegmentCommand_13 : decode cX10_addSegmentCommand 13 = .ok (.iconst 4, 1) := by decide +kernel
theorem dX10_addSegmentCommand_14 : decode cX10_addSegmentCommand 14 = .ok (.ldc2_w 143, 3) := by decide +kernel
theorem dX10_addSegmentCommand_17 : decode cX10_addSegmentCommand 17 = .ok (.invokevirtual 130, 3) := by decide +kernel
theorem dX10_addSegmentCommand_20 : decode cX10_addSegmentCommand 20 = .ok (.aload_n 0, 1) := by decide +kernel
theorem dX10_addSegmentCommand_21 : decode cX10_addSegmentCommand 21 = .ok (.getfield 15, 3) := by decide +kernel
theorem dX10_addSegmentCommand_24 : decode cX10_addSegmentCommand 24 = .ok (.iconst 4, 1) := by decide +kernel
theorem dX10_addSegmentCommand_25 : decode cX10_addSegmentCommand 25 = .ok (.bipush 72, 2) := by decide +kernel
theorem dX10_addSegmentCommand_27 : decode cX10_addSegmentCommand 27 = .ok (.bipush 80, 2) := by decide +kernel
theorem dX10_addSegmentCommand_29 : decode cX10_addSegmentCommand 29 = .ok (.iload_n 2, 1) := by decide +kernel
theorem dX10_addSegmentCommand_30 : decode cX10_addSegmentCommand 30 = .ok (.imul, 1) := by decide +kernel
theorem dX10_addSegmentCommand_31 : decode cX10_addSegmentCommand 31 = .ok (.iadd, 1) := by decide +kernel
theorem dX10_addSegmentCommand_32 : decode cX10_addSegmentCommand 32 = .ok (.i2l, 1) := by decide +kernel
theorem dX10_addSegmentCommand_33 : decode cX10_addSegmentCommand 33 = .ok (.invokevirtual 130, 3) := by decide +kernel
theorem dX10_addSegmentCommand_36 : decode cX10_addSegmentCommand 36 = .ok (.aload_n 0, 1) := by decide +kernel
theorem dX10_addSegmentCommand_37 : decode cX10_addSegmentCommand 37 = .ok (.getfield 9, 3) := by decide +kernel
theorem dX10_addSegmentCommand_40 : decode cX10_addSegmentCommand 40 = .ok (.getfield 67, 3) := by decide +kernel
theorem dX10_addSegmentCommand_43 : decode cX10_addSegmentCommand 43 = .ok (.aload_n 0, 1) := by decide +kernel
theorem dX10_addSegmentCommand_44 : decode cX10_addSegmentCommand 44 = .ok (.getfield 15, 3) := by decide +kernel
theorem dX10_addSegmentCommand_47 : decode cX10_addSegmentCommand 47 = .ok (.iload_n 1, 1) := by decide +kernel
theorem dX10_addSegmentCommand_48 : decode cX10_addSegmentCommand 48 = .ok (.invokevirtual 145, 3) := by decide +kernel
theorem dX10_addSegmentCommand_51 : decode cX10_addSegmentCommand 51 = .ok (.aload_n 0, 1) := by decide +kernel
theorem dX10_addSegmentCommand_52 : decode cX10_addSegmentCommand 52 = .ok (.getfield 15, 3) := by decide +kernel
theorem dX10_addSegmentCommand_55 : decode cX10_addSegmentCommand 55 = .ok (.bipush 8, 2) := by decide +kernel
theorem dX10_addSegmentCommand_57 : decode cX10_addSegmentCommand 57 = .ok (.aload_n 0, 1) := by decide +kernel
theorem dX10_addSegmentCommand_58 : decode cX10_addSegmentCommand 58 = .ok (.getfield 9, 3) := by decide +kernel
theorem dX10_addSegmentCommand_61 : decode cX10_addSegmentCommand 61 = .ok (.iload_n 1, 1) := by decide +kernel
theorem dX10_addSegmentCommand_62 : decode cX10_addSegmentCommand 62 = .ok (.invokevirtual 149, 3) := by decide +kernel
theorem dX10_addSegmentCommand_65 : decode cX10_addSegmentCommand 65 = .ok (.i2l, 1) := by decide +kernel
theorem dX10_addSegmentCommand_66 : decode cX10_addSegmentCommand 66 = .ok (.invokevirtual 130, 3) := by decide +kernel
theorem dX10_addSegmentCommand_69 : decode cX10_addSegmentCommand 69 = .ok (.aload_n 0, 1) := by decide +kernel
theorem dX10_addSegmentCommand_70 : decode cX10_addSegmentCommand 70 = .ok (.getfield 15, 3) := by decide +kernel
theorem dX10_addSegmentCommand_73 : decode cX10_addSegmentCommand 73 = .ok (.bipush 8, 2) := by decide +kernel
theorem dX10_addSegmentCommand_75 : decode cX10_addSegmentCommand 75 = .ok (.aload_n 0, 1) := by decide +kernel
theorem dX10_addSegmentCommand_76 : decode cX10_addSegmentCommand 76 = .ok (.getfield 9, 3) := by decide +kernel
theorem dX10_addSegmentCommand_79 : decode cX10_addSegmentCommand 79 = .ok (.iload_n 1, 1) := by decide +kernel
theorem dX10_addSegmentCommand_80 : decode cX10_addSegmentCommand 80 = .ok (.invokevirtual 105, 3) := by decide +kernel
theorem dX10_addSegmentCommand_83 : decode cX10_addSegmentCommand 83 = .ok (.i2l, 1) := by decide +kernel
theorem dX10_addSegmentCommand_84 : decode cX10_addSegmentCommand 84 = .ok (.invokevirtual 130, 3) := by decide +kernel
theorem dX10_addSegmentCommand_87 : decode cX10_addSegmentCommand 87 = .ok (.aload_n 0, 1) := by decide +kernel
theorem dX10_addSegmentCommand_88 : decode cX10_addSegmentCommand 88 = .ok (.getfield 15, 3) := by decide +kernel
theorem dX10_addSegmentCommand_91 : decode cX10_addSegmentCommand 91 = .ok (.bipush 8, 2) := by decide +kernel
theorem dX10_addSegmentCommand_93 : decode cX10_addSegmentCommand 93 = .ok (.aload_n 0, 1) := by decide +kernel
theorem dX10_addSegmentCommand_94 : decode cX10_addSegmentCommand 94 = .ok (.getfield 19, 3) := by decide +kernel
theorem dX10_addSegmentCommand_97 : decode cX10_addSegmentCommand 97 = .ok (.iload_n 1, 1) := by decide +kernel
theorem dX10_addSegmentCommand_98 : decode cX10_addSegmentCommand 98 = .ok (.iaload, 1) := by decide +kernel
theorem dX10_addSegmentCommand_99 : decode cX10_addSegmentCommand 99 = .ok (.i2l, 1) := by decide +kernel
theorem dX10_addSegmentCommand_100 : decode cX10_addSegmentCommand 100 = .ok (.invokevirtual 130, 3) := by decide +kernel
theorem dX10_addSegmentCommand_103 : decode cX10_addSegmentCommand 103 = .ok (.aload_n 0, 1) := by decide +kernel
theorem dX10_addSegmentCommand_104 : decode cX10_addSegmentCommand 104 = .ok (.getfield 15, 3) := by decide +kernel
theorem dX10_addSegmentCommand_107 : decode cX10_addSegmentCommand 107 = .ok (.bipush 8, 2) := by decide +kernel
theorem dX10_addSegmentCommand_109 : decode cX10_addSegmentCommand 109 = .ok (.aload_n 0, 1) := by decide +kernel
theorem dX10_addSegmentCommand_110 : decode cX10_addSegmentCommand 110 = .ok (.getfield 9, 3) := by decide +kernel
theorem dX10_addSegmentCommand_113 : decode cX10_addSegmentCommand 113 = .ok (.getfield 98, 3) := by decide +kernel
theorem dX10_addSegmentCommand_116 : decode cX10_addSegmentCommand 116 = .ok (.iload_n 1, 1) := by decide +kernel
theorem dX10_addSegmentCommand_117 : decode cX10_addSegmentCommand 117 = .ok (.iaload, 1) := by decide +kernel
theorem dX10_addSegmentCommand_118 : decode cX10_addSegmentCommand 118 = .ok (.i2l, 1) := by decide +kernel
theorem dX10_addSegmentCommand_119 : decode cX10_addSegmentCommand 119 = .ok (.invokevirtual 130, 3) := by decide +kernel
theorem dX10_addSegmentCommand_122 : decode cX10_addSegmentCommand 122 = .ok (.aload_n 0, 1) := by decide +kernel
theorem dX10_addSegmentCommand_123 : decode cX10_addSegmentCommand 123 = .ok (.getfield 15, 3) := by decide +kernel
theorem dX10_addSegmentCommand_126 : decode cX10_addSegmentCommand 126 = .ok (.iconst 4, 1) := by decide +kernel
theorem dX10_addSegmentCommand_127 : decode cX10_addSegmentCommand 127 = .ok (.ldc2_w 152, 3) := by decide +kernel
theorem dX10_addSegmentCommand_130 : decode cX10_addSegmentCommand 130 = .ok (.invokevirtual 130, 3) := by decide +kernel
theorem dX10_addSegmentCommand_133 : decode cX10_addSegmentCommand 133 = .ok (.aload_n 0, 1) := by decide +kernel
theorem dX10_addSegmentCommand_134 : decode cX10_addSegmentCommand 134 = .ok (.getfield 15, 3) := by decide +kernel
theorem dX10_addSegmentCommand_137 : decode cX10_addSegmentCommand 137 = .ok (.iconst 4, 1) := by decide +kernel
theorem dX10_addSegmentCommand_138 : decode cX10_addSegmentCommand 138 = .ok (.aload_n 0, 1) := by decide +kernel
theorem dX10_addSegmentCommand_139 : decode cX10_addSegmentCommand 139 = .ok (.getfield 9, 3) := by decide +kernel
theorem dX10_addSegmentCommand_142 : decode cX10_addSegmentCommand 142 = .ok (.getfield 154, 3) := by decide +kernel
theorem dX10_addSegmentCommand_145 : decode cX10_addSegmentCommand 145 = .ok (.iload_n 1, 1) := by decide +kernel
theorem dX10_addSegmentCommand_146 : decode cX10_addSegmentCommand 146 = .ok (.iaload, 1) := by decide +kernel
theorem dX10_addSegmentCommand_147 : decode cX10_addSegmentCommand 147 = .ok (.i2l, 1) := by decide +kernel
theorem dX10_addSegmentCommand_148 : decode cX10_addSegmentCommand 148 = .ok (.invokevirtual 130, 3) := by decide +kernel
theorem dX10_addSegmentCommand_151 : decode cX10_addSegmentCommand 151 = .ok (.aload_n 0, 1) := by decide +kernel
theorem dX10_addSegmentCommand_152 : decode cX10_addSegmentCommand 152 = .ok (.getfield 15, 3) := by decide +kernel
theorem dX10_addSegmentCommand_155 : decode cX10_addSegmentCommand 155 = .ok (.iconst 4, 1) := by decide +kernel
theorem dX10_addSegmentCommand_156 : decode cX10_addSegmentCommand 156 = .ok (.iload_n 2, 1) := by decide +kernel
theorem dX10_addSegmentCommand_157 : decode cX10_addSegmentCommand 157 = .ok (.i2l, 1) := by decide +kernel
theorem dX10_addSegmentCommand_158 : decode cX10_addSegmentCommand 158 = .ok (.invokevirtual 130, 3) := by decide +kernel
theorem dX10_addSegmentCommand_161 : decode cX10_addSegmentCommand 161 = .ok (.aload_n 0, 1) := by decide +kernel
theorem dX10_addSegmentCommand_162 : decode cX10_addSegmentCommand 162 = .ok (.getfield 15, 3) := by decide +kernel
theorem dX10_addSegmentCommand_165 : decode cX10_addSegmentCommand 165 = .ok (.iconst 4, 1) := by decide +kernel
theorem dX10_addSegmentCommand_166 : decode cX10_addSegmentCommand 166 = .ok (.lconst 0, 1) := by decide +kernel
theorem dX10_addSegmentCommand_167 : decode cX10_addSegmentCommand 167 = .ok (.invokevirtual 130, 3) := by decide +kernel
theorem dX10_addSegmentCommand_170 : decode cX10_addSegmentCommand 170 = .ok (.return_, 1) := by decide +kernel
theorem dX10_addSectionsOf_0 : decode cX10_addSectionsOf 0 = .ok (.iconst 0, 1) := by decide +kernel
theorem dX10_addSectionsOf_1 : decode cX10_addSectionsOf 1 = .ok (.istore_n 2, 1) := by decide +kernel
theorem dX10_addSectionsOf_2 : decode cX10_addSectionsOf 2 = .ok (.iload_n 2, 1) := by decide +kernel
theorem dX10_addSectionsOf_3 : decode cX10_addSectionsOf 3 = .ok (.aload_n 0, 1) := by decide +kernel
theorem dX10_addSectionsOf_4 : decode cX10_addSectionsOf 4 = .ok (.getfield 9, 3) := by decide +kernel
theorem dX10_addSectionsOf_7 : decode cX10_addSectionsOf 7 = .ok (.getfield 92, 3) := by decide +kernel
theorem dX10_addSectionsOf_10 : decode cX10_addSectionsOf 10 = .ok (.getfield 51, 3) := by decide +kernel
theorem dX10_addSectionsOf_13 : decode cX10_addSectionsOf 13 = .ok (.if_icmp .ge 133, 3) := by decide +kernel
theorem dX10_addSectionsOf_16 : decode cX10_addSectionsOf 16 = .ok (.aload_n 0, 1) := by decide +kernel
theorem dX10_addSectionsOf_17 : decode cX10_addSectionsOf 17 = .ok (.getfield 9, 3) := by decide +kernel
theorem dX10_addSectionsOf_20 : decode cX10_addSectionsOf 20 = .ok (.getfield 157, 3) := by decide +kernel
theorem dX10_addSectionsOf_23 : decode cX10_addSectionsOf 23 = .ok (.iload_n 2, 1) := by decide +kernel
theorem dX10_addSectionsOf_24 : decode cX10_addSectionsOf 24 = .ok (.iaload, 1) := by decide +kernel
theorem dX10_addSectionsOf_25 : decode cX10_addSectionsOf 25 = .ok (.iload_n 1, 1) := by decide +kernel
theorem dX10_addSectionsOf_26 : decode cX10_addSectionsOf 26 = .ok (.if_icmp .ne 114, 3) := by decide +kernel
theorem dX10_addSectionsOf_29 : decode cX10_addSectionsOf 29 = .ok (.aload_n 0, 1) := by decide +kernel
theorem dX10_addSectionsOf_30 : decode cX10_addSectionsOf 30 = .ok (.getfield 9, 3) := by decide +kernel
theorem dX10_addSectionsOf_33 : decode cX10_addSectionsOf 33 = .ok (.getfield 92, 3) := by decide +kernel
theorem dX10_addSectionsOf_36 : decode cX10_addSectionsOf 36 = .ok (.aload_n 0, 1) := by decide +kernel
theorem dX10_addSectionsOf_37 : decode cX10_addSectionsOf 37 = .ok (.getfield 15, 3) := by decide +kernel
theorem dX10_addSectionsOf_40 : decode cX10_addSectionsOf 40 = .ok (.iload_n 2, 1) := by decide +kernel
theorem dX10_addSectionsOf_41 : decode cX10_addSectionsOf 41 = .ok (.invokevirtual 145, 3) := by decide +kernel
theorem dX10_addSectionsOf_44 : decode cX10_addSectionsOf 44 = .ok (.aload_n 0, 1) := by decide +kernel
theorem dX10_addSectionsOf_45 : decode cX10_addSectionsOf 45 = .ok (.getfield 9, 3) := by decide +kernel
theorem dX10_addSectionsOf_48 : decode cX10_addSectionsOf 48 = .ok (.getfield 67, 3) := by decide +kernel
theorem dX10_addSectionsOf_51 : decode cX10_addSectionsOf 51 = .ok (.aload_n 0, 1) := by decide +kernel
theorem dX10_addSectionsOf_52 : decode cX10_addSectionsOf 52 = .ok (.getfield 15, 3) := by decide +kernel
theorem dX10_addSectionsOf_55 : decode cX10_addSectionsOf 55 = .ok (.iload_n 1, 1) := by decide +kernel
theorem dX10_addSectionsOf_56 : decode cX10_addSectionsOf 56 = .ok (.invokevirtual 145, 3) := by decide +kernel
theorem dX10_addSectionsOf_59 : decode cX10_addSectionsOf 59 = .ok (.aload_n 0, 1) := by decide +kernel
theorem dX10_addSectionsOf_60 : decode cX10_addSectionsOf 60 = .ok (.getfield 15, 3) := by decide +kernel
theorem dX10_addSectionsOf_63 : decode cX10_addSectionsOf 63 = .ok (.bipush 8, 2) := by decide +kernel
theorem dX10_addSectionsOf_65 : decode cX10_addSectionsOf 65 = .ok (.aload_n 0, 1) := by decide +kernel
theorem dX10_addSectionsOf_66 : decode cX10_addSectionsOf 66 = .ok (.getfield 9, 3) := by decide +kernel
theorem dX10_addSectionsOf_69 : decode cX10_addSectionsOf 69 = .ok (.iload_n 1, 1) := by decide +kernel
theorem dX10_addSectionsOf_70 : decode cX10_addSectionsOf 70 = .ok (.invokevirtual 149, 3) := by decide +kernel
theorem dX10_addSectionsOf_73 : decode cX10_addSectionsOf 73 = .ok (.aload_n 0, 1) := by decide +kernel
theorem dX10_addSectionsOf_74 : decode cX10_addSectionsOf 74 = .ok (.getfield 9, 3) := by decide +kernel
theorem dX10_addSectionsOf_77 : decode cX10_addSectionsOf 77 = .ok (.getfield 160, 3) := by decide +kernel
theorem dX10_addSectionsOf_80 : decode cX10_addSectionsOf 80 = .ok (.iload_n 2, 1) := by decide +kernel
theorem dX10_addSectionsOf_81 : decode cX10_addSectionsOf 81 = .ok (.iaload, 1) := by decide +kernel
theorem dX10_addSectionsOf_82 : decode cX10_addSectionsOf 82 = .ok (.iadd, 1) := by decide +kernel
theorem dX10_addSectionsOf_83 : decode cX10_addSectionsOf 83 = .ok (.i2l, 1) := by decide +kernel
theorem dX10_addSectionsOf_84 : decode cX10_addSectionsOf 84 = .ok (.invokevirtual 130, 3) := by decide +kernel
theorem dX10_addSectionsOf_87 : decode cX10_addSectionsOf 87 = .ok (.aload_n 0, 1) := by decide +kernel
theorem dX10_addSectionsOf_88 : decode cX10_addSectionsOf 88 = .ok (.getfield 15, 3) := by decide +kernel
theorem dX10_addSectionsOf_91 : decode cX10_addSectionsOf 91 = .ok (.bipush 8, 2) := by decide +kernel
theorem dX10_addSectionsOf_93 : decode cX10_addSectionsOf 93 = .ok (.aload_n 0, 1) := by decide +kernel
theorem dX10_addSectionsOf_94 : decode cX10_addSectionsOf 94 = .ok (.getfield 9, 3) := by decide +kernel
theorem dX10_addSectionsOf_97 : decode cX10_addSectionsOf 97 = .ok (.getfield 163, 3) := by decide +kernel
theorem dX10_addSectionsOf_100 : decode cX10_addSectionsOf 100 = .ok (.iload_n 2, 1) := by decide +kernel
theorem dX10_addSectionsOf_101 : decode cX10_addSectionsOf 101 = .ok (.iaload, 1) := by decide +kernel
theorem dX10_addSectionsOf_102 : decode cX10_addSectionsOf 102 = .ok (.i2l, 1) := by decide +kernel
theorem dX10_addSectionsOf_103 : decode cX10_addSectionsOf 103 = .ok (.invokevirtual 130, 3) := by decide +kernel
theorem dX10_addSectionsOf_106 : decode cX10_addSectionsOf 106 = .ok (.aload_n 0, 1) := by decide +kernel
theorem dX10_addSectionsOf_107 : decode cX10_addSectionsOf 107 = .ok (.getfield 15, 3) := by decide +kernel
theorem dX10_addSectionsOf_110 : decode cX10_addSectionsOf 110 = .ok (.iconst 4, 1) := by decide +kernel
theorem dX10_addSectionsOf_111 : decode cX10_addSectionsOf 111 = .ok (.aload_n 0, 1) := by decide +kernel
theorem dX10_addSectionsOf_112 : decode cX10_addSectionsOf 112 = .ok (.getfield 19, 3) := by decide +kernel
theorem dX10_addSectionsOf_115 : decode cX10_addSectionsOf 115 = .ok (.iload_n 1, 1) := by decide +kernel
theorem dX10_addSectionsOf_116 : decode cX10_addSectionsOf 116 = .ok (.iaload, 1) := by decide +kernel
theorem dX10_addSectionsOf_117 : decode cX10_addSectionsOf 117 = .ok (.aload_n 0, 1) := by decide +kernel
theorem dX10_addSectionsOf_118 : decode cX10_addSectionsOf 118 = .ok (.getfield 9, 3) := by decide +kernel
theorem dX10_addSectionsOf_121 : decode cX10_addSectionsOf 121 = .ok (.getfield 160, 3) := by decide +kernel
theorem dX10_addSectionsOf_124 : decode cX10_addSectionsOf 124 = .ok (.iload_n 2, 1) := by decide +kernel
theorem dX10_addSectionsOf_125 : decode cX10_addSectionsOf 125 = .ok (.iaload, 1) := by decide +kernel
theorem dX10_addSectionsOf_126 : decode cX10_addSectionsOf 126 = .ok (.iadd, 1) := by decide +kernel
theorem dX10_addSectionsOf_127 : decode cX10_addSectionsOf 127 = .ok (.i2l, 1) := by decide +kernel
theorem dX10_addSectionsOf_128 : decode cX10_addSectionsOf 128 = .ok (.invokevirtual 130, 3) := by decide +kernel
theorem dX10_addSectionsOf_131 : decode cX10_addSectionsOf 131 = .ok (.aload_n 0, 1) := by decide +kernel
theorem dX10_addSectionsOf_132 : decode cX10_addSectionsOf 132 = .ok (.getfield 15, 3) := by decide +kernel
theorem dX10_addSectionsOf_135 : decode cX10_addSectionsOf 135 = .ok (.bipush 28, 2) := by decide +kernel
theorem dX10_addSectionsOf_137 : decode cX10_addSectionsOf 137 = .ok (.invokevirtual 166, 3) := by decide +kernel
theorem dX10_addSectionsOf_140 : decode cX10_addSectionsOf 140 = .ok (.iinc 2 1, 3) := by decide +kernel
theorem dX10_addSectionsOf_143 : decode cX10_addSectionsOf 143 = .ok (.goto (-141), 3) := by decide +kernel
theorem dX10_addSectionsOf_146 : decode cX10_addSectionsOf 146 = .ok (.return_, 1) := by decide +kernel
theorem dX10_addTableCommands_0 : decode cX10_addTableCommands 0 = .ok (.aload_n 0, 1) := by decide +kernel
theorem dX10_addTableCommands_1 : decode cX10_addTableCommands 1 = .ok (.getfield 15, 3) := by decide +kernel
theorem dX10_addTableCommands_4 : decode cX10_addTableCommands 4 = .ok (.iconst 4, 1) := by decide +kernel
theorem dX10_addTableCommands_5 : decode cX10_addTableCommands 5 = .ok (.ldc2_w 169, 3) := by decide +kernel
theorem dX10_addTableCommands_8 : decode cX10_addTableCommands 8 = .ok (.invokevirtual 130, 3) := by decide +kernel
theorem dX10_addTableCommands_11 : decode cX10_addTableCommands 11 = .ok (.aload_n 0, 1) := by decide +kernel
theorem dX10_addTableCommands_12 : decode cX10_addTableCommands 12 = .ok (.getfield 15, 3) := by decide +kernel
theorem dX10_addTableCommands_15 : decode cX10_addTableCommands 15 = .ok (.iconst 4, 1) := by decide +kernel
theorem dX10_addTableCommands_16 : decode cX10_addTableCommands 16 = .ok (.ldc2_w 171, 3) := by decide +kernel
theorem dX10_addTableCommands_19 : decode cX10_addTableCommands 19 = .ok (.invokevirtual 130, 3) := by decide +kernel
theorem dX10_addTableCommands_22 : decode cX10_addTableCommands 22 = .ok (.aload_n 0, 1) := by decide +kernel
theorem dX10_addTableCommands_23 : decode cX10_addTableCommands 23 = .ok (.getfield 15, 3) := by decide +kernel
theorem dX10_addTableCommands_26 : decode cX10_addTableCommands 26 = .ok (.iconst 4, 1) := by decide +kernel
theorem dX10_addTableCommands_27 : decode cX10_addTableCommands 27 = .ok (.aload_n 0, 1) := by decide +kernel
theorem dX10_addTableCommands_28 : decode cX10_addTableCommands 28 = .ok (.getfield 43, 3) := by decide +kernel
theorem dX10_addTableCommands_31 : decode cX10_addTableCommands 31 = .ok (.i2l, 1) := by decide +kernel
theorem dX10_addTableCommands_32 : decode cX10_addTableCommands 32 = .ok (.invokevirtual 130, 3) := by decide +kernel
theorem dX10_addTableCommands_35 : decode cX10_addTableCommands 35 = .ok (.aload_n 0, 1) := by decide +kernel
theorem dX10_addTableCommands_36 : decode cX10_addTableCommands 36 = .ok (.getfield 15, 3) := by decide +kernel
theorem dX10_addTableCommands_39 : decode cX10_addTableCommands 39 = .ok (.iconst 4, 1) := by decide +kernel
theorem dX10_addTableCommands_40 : decode cX10_addTableCommands 40 = .ok (.aload_n 0, 1) := by decide +kernel
theorem dX10_addTableCommands_41 : decode cX10_addTableCommands 41 = .ok (.getfield 9, 3) := by decide +kernel
theorem dX10_addTableCommands_44 : decode cX10_addTableCommands 44 = .ok (.getfield 46, 3) := by decide +kernel
theorem dX10_addTableCommands_47 : decode cX10_addTableCommands 47 = .ok (.getfield 51, 3) := by decide +kernel
theorem dX10_addTableCommands_50 : decode cX10_addTableCommands 50 = .ok (.i2l, 1) := by decide +kernel
theorem dX10_addTableCommands_51 : decode cX10_addTableCommands 51 = .ok (.invokevirtual 130, 3) := by decide +kernel
theorem dX10_addTableCommands_54 : decode cX10_addTableCommands 54 = .ok (.aload_n 0, 1) := by decide +kernel
theorem dX10_addTableCommands_55 : decode cX10_addTableCommands 55 = .ok (.getfield 15, 3) := by decide +kernel
theorem dX10_addTableCommands_58 : decode cX10_addTableCommands 58 = .ok (.iconst 4, 1) := by decide +kernel
theorem dX10_addTableCommands_59 : decode cX10_addTableCommands 59 = .ok (.aload_n 0, 1) := by decide +kernel
theorem dX10_addTableCommands_60 : decode cX10_addTableCommands 60 = .ok (.getfield 56, 3) := by decide +kernel
theorem dX10_addTableCommands_63 : decode cX10_addTableCommands 63 = .ok (.i2l, 1) := by decide +kernel
theorem dX10_addTableCommands_64 : decode cX10_addTableCommands 64 = .ok (.invokevirtual 130, 3) := by decide +kernel
theorem dX10_addTableCommands_67 : decode cX10_addTableCommands 67 = .ok (.aload_n 0, 1) := by decide +kernel
theorem dX10_addTableCommands_68 : decode cX10_addTableCommands 68 = .ok (.getfield 15, 3) := by decide +kernel
theorem dX10_addTableCommands_71 : decode cX10_addTableCommands 71 = .ok (.iconst 4, 1) := by decide +kernel
theorem dX10_addTableCommands_72 : decode cX10_addTableCommands 72 = .ok (.iconst 1, 1) := by decide +kernel
theorem dX10_addTableCommands_73 : decode cX10_addTableCommands 73 = .ok (.aload_n 0, 1) := by decide +kernel
theorem dX10_addTableCommands_74 : decode cX10_addTableCommands 74 = .ok (.getfield 9, 3) := by decide +kernel
theorem dX10_addTableCommands_77 : decode cX10_addTableCommands 77 = .ok (.getfield 46, 3) := by decide +kernel
theorem dX10_addTableCommands_80 : decode cX10_addTableCommands 80 = .ok (.invokevirtual 124, 3) := by decide +kernel
theorem dX10_addTableCommands_83 : decode cX10_addTableCommands 83 = .ok (.iadd, 1) := by decide +kernel
theorem dX10_addTableCommands_84 : decode cX10_addTableCommands 84 = .ok (.i2l, 1) := by decide +kernel
theorem dX10_addTableCommands_85 : decode cX10_addTableCommands 85 = .ok (.invokevirtual 130, 3) := by decide +kernel
theorem dX10_addTableCommands_88 : decode cX10_addTableCommands 88 = .ok (.aload_n 0, 1) := by decide +kernel
theorem dX10_addTableCommands_89 : decode cX10_addTableCommands 89 = .ok (.getfield 15, 3) := by decide +kernel
theorem dX10_addTableCommands_92 : decode cX10_addTableCommands 92 = .ok (.iconst 4, 1) := by decide +kernel
theorem dX10_addTableCommands_93 : decode cX10_addTableCommands 93 = .ok (.ldc2_w 173, 3) := by decide +kernel
theorem dX10_addTableCommands_96 : decode cX10_addTableCommands 96 = .ok (.invokevirtual 130, 3) := by decide +kernel
theorem dX10_addTableCommands_99 : decode cX10_addTableCommands 99 = .ok (.aload_n 0, 1) := by decide +kernel
theorem dX10_addTableCommands_100 : decode cX10_addTableCommands 100 = .ok (.getfield 15, 3) := by decide +kernel
theorem dX10_addTableCommands_103 : decode cX10_addTableCommands 103 = .ok (.iconst 4, 1) := by decide +kernel
theorem dX10_addTableCommands_104 : decode cX10_addTableCommands 104 = .ok (.ldc2_w 175, 3) := by decide +kernel
theorem dX10_addTableCommands_107 : decode cX10_addTableCommands 107 = .ok (.invokevirtual 130, 3) := by decide +kernel
theorem dX10_addTableCommands_110 : decode cX10_addTableCommands 110 = .ok (.aload_n 0, 1) := by decide +kernel
theorem dX10_addTableCommands_111 : decode cX10_addTableCommands 111 = .ok (.getfield 15, 3) := by decide +kernel
theorem dX10_addTableCommands_114 : decode cX10_addTableCommands 114 = .ok (.iconst 4, 1) := by decide +kernel
theorem dX10_addTableCommands_115 : decode cX10_addTableCommands 115 = .ok (.aload_n 0, 1) := by decide +kernel
theorem dX10_addTableCommands_116 : decode cX10_addTableCommands 116 = .ok (.getfield 32, 3) := by decide +kernel
theorem dX10_addTableCommands_119 : decode cX10_addTableCommands 119 = .ok (.i2l, 1) := by decide +kernel
theorem dX10_addTableCommands_120 : decode cX10_addTableCommands 120 = .ok (.invokevirtual 130, 3) := by decide +kernel
theorem dX10_addTableCommands_123 : decode cX10_addTableCommands 123 = .ok (.aload_n 0, 1) := by decide +kernel
theorem dX10_addTableCommands_124 : decode cX10_addTableCommands 124 = .ok (.getfield 15, 3) := by decide +kernel
theorem dX10_addTableCommands_127 : decode cX10_addTableCommands 127 = .ok (.iconst 4, 1) := by decide +kernel
theorem dX10_addTableCommands_128 : decode cX10_addTableCommands 128 = .ok (.aload_n 0, 1) := by decide +kernel
theorem dX10_addTableCommands_129 : decode cX10_addTableCommands 129 = .ok (.getfield 36, 3) := by decide +kernel
theorem dX10_addTableCommands_132 : decode cX10_addTableCommands 132 = .ok (.i2l, 1) := by decide +kernel
theorem dX10_addTableCommands_133 : decode cX10_addTableCommands 133 = .ok (.invokevirtual 130, 3) := by decide +kernel
theorem dX10_addTableCommands_136 : decode cX10_addTableCommands 136 = .ok (.return_, 1) := by decide +kernel
theorem dX10_addContents_0 : decode cX10_addContents 0 = .ok (.aload_n 0, 1) := by decide +kernel
theorem dX10_addContents_1 : decode cX10_addContents 1 = .ok (.getfield 15, 3) := by decide +kernel
theorem dX10_addContents_4 : decode cX10_addContents 4 = .ok (.bipush 8, 2) := by decide +kernel
theorem dX10_addContents_6 : decode cX10_addContents 6 = .ok (.invokevirtual 177, 3) := by decide +kernel
theorem dX10_addContents_9 : decode cX10_addContents 9 = .ok (.aload_n 0, 1) := by decide +kernel
theorem dX10_addContents_10 : decode cX10_addContents 10 = .ok (.getfield 15, 3) := by decide +kernel
theorem dX10_addContents_13 : decode cX10_addContents 13 = .ok (.aload_n 0, 1) := by decide +kernel
theorem dX10_addContents_14 : decode cX10_addContents 14 = .ok (.getfield 9, 3) := by decide +kernel
theorem dX10_addContents_17 : decode cX10_addContents 17 = .ok (.getfield 180, 3) := by decide +kernel
theorem dX10_addContents_20 : decode cX10_addContents 20 = .ok (.iload_n 1, 1) := by decide +kernel
theorem dX10_addContents_21 : decode cX10_addContents 21 = .ok (.sipush 1024, 3) := by decide +kernel
theorem dX10_addContents_24 : decode cX10_addContents 24 = .ok (.imul, 1) := by decide +kernel
theorem dX10_addContents_25 : decode cX10_addContents 25 = .ok (.aload_n 0, 1) := by decide +kernel
theorem dX10_addContents_26 : decode cX10_addContents 26 = .ok (.getfield 9, 3) := by decide +kernel
theorem dX10_addContents_29 : decode cX10_addContents 29 = .ok (.getfield 98, 3) := by decide +kernel
theorem dX10_addContents_32 : decode cX10_addContents 32 = .ok (.iload_n 1, 1) := by decide +kernel
theorem dX10_addContents_33 : decode cX10_addContents 33 = .ok (.iaload, 1) := by decide +kernel
theorem dX10_addContents_34 : decode cX10_addContents 34 = .ok (.invokevirtual 184, 3) := by decide +kernel
theorem dX10_addContents_37 : decode cX10_addContents 37 = .ok (.iconst 0, 1) := by decide +kernel
theorem dX10_addContents_38 : decode cX10_addContents 38 = .ok (.istore_n 2, 1) := by decide +kernel
theorem dX10_addContents_39 : decode cX10_addContents 39 = .ok (.iload_n 2, 1) := by decide +kernel
theorem dX10_addContents_40 : decode cX10_addContents 40 = .ok (.aload_n 0, 1) := by decide +kernel
theorem dX10_addContents_41 : decode cX10_addContents 41 = .ok (.getfield 9, 3) := by decide +kernel
theorem dX10_addContents_44 : decode cX10_addContents 44 = .ok (.getfield 98, 3) := by decide +kernel
theorem dX10_addContents_47 : decode cX10_addContents 47 = .ok (.iload_n 1, 1) := by decide +kernel
theorem dX10_addContents_48 : decode cX10_addContents 48 = .ok (.iaload, 1) := by decide +kernel
theorem dX10_addContents_49 : decode cX10_addContents 49 = .ok (.if_icmp .ge 44, 3) := by decide +kernel
theorem dX10_addContents_52 : decode cX10_addContents 52 = .ok (.aload_n 0, 1) := by decide +kernel
theorem dX10_addContents_53 : decode cX10_addContents 53 = .ok (.getfield 9, 3) := by decide +kernel
theorem dX10_addContents_56 : decode cX10_addContents 56 = .ok (.iload_n 1, 1) := by decide +kernel
theorem dX10_addContents_57 : decode cX10_addContents 57 = .ok (.iload_n 2, 1) := by decide +kernel
theorem dX10_addContents_58 : decode cX10_addContents 58 = .ok (.invokevirtual 188, 3) := by decide +kernel
theorem dX10_addContents_61 : decode cX10_addContents 61 = .ok (.ifCond .eq 26, 3) := by decide +kernel
theorem dX10_addContents_64 : decode cX10_addContents 64 = .ok (.aload_n 0, 1) := by decide +kernel
theorem dX10_addContents_65 : decode cX10_addContents 65 = .ok (.getfield 15, 3) := by decide +kernel
theorem dX10_addContents_68 : decode cX10_addContents 68 = .ok (.aload_n 0, 1) := by decide +kernel
theorem dX10_addContents_69 : decode cX10_addContents 69 = .ok (.getfield 19, 3) := by decide +kernel
theorem dX10_addContents_72 : decode cX10_addContents 72 = .ok (.iload_n 1, 1) := by decide +kernel
theorem dX10_addContents_73 : decode cX10_addContents 73 = .ok (.iaload, 1) := by decide +kernel
theorem dX10_addContents_74 : decode cX10_addContents 74 = .ok (.iload_n 2, 1) := by decide +kernel
theorem dX10_addContents_75 : decode cX10_addContents 75 = .ok (.iadd, 1) := by decide +kernel
theorem dX10_addContents_76 : decode cX10_addContents 76 = .ok (.bipush 8, 2) := by decide +kernel
theorem dX10_addContents_78 : decode cX10_addContents 78 = .ok (.aload_n 0, 1) := by decide +kernel
theorem dX10_addContents_79 : decode cX10_addContents 79 = .ok (.iload_n 1, 1) := by decide +kernel
theorem dX10_addContents_80 : decode cX10_addContents 80 = .ok (.iload_n 2, 1) := by decide +kernel
theorem dX10_addContents_81 : decode cX10_addContents 81 = .ok (.invokevirtual 192, 3) := by decide +kernel
theorem dX10_addContents_84 : decode cX10_addContents 84 = .ok (.invokevirtual 196, 3) := by decide +kernel
theorem dX10_addContents_87 : decode cX10_addContents 87 = .ok (.iinc 2 4, 3) := by decide +kernel
theorem dX10_addContents_90 : decode cX10_addContents 90 = .ok (.goto (-51), 3) := by decide +kernel
theorem dX10_addContents_93 : decode cX10_addContents 93 = .ok (.return_, 1) := by decide +kernel
theorem dX10_threaded_0 : decode cX10_threaded 0 = .ok (.iload_n 2, 1) := by decide +kernel
theorem dX10_threaded_1 : decode cX10_threaded 1 = .ok (.iconst 1, 1) := by decide +kernel
theorem dX10_threaded_2 : decode cX10_threaded 2 = .ok (.iadd, 1) := by decide +kernel
theorem dX10_threaded_3 : decode cX10_threaded 3 = .ok (.aload_n 0, 1) := by decide +kernel
theorem dX10_threaded_4 : decode cX10_threaded 4 = .ok (.getfield 9, 3) := by decide +kernel
theorem dX10_threaded_7 : decode cX10_threaded 7 = .ok (.getfield 109, 3) := by decide +kernel
theorem dX10_threaded_10 : decode cX10_threaded 10 = .ok (.invokestatic 39, 3) := by decide +kernel
theorem dX10_threaded_13 : decode cX10_threaded 13 = .ok (.istore_n 3, 1) := by decide +kernel
theorem dX10_threaded_14 : decode cX10_threaded 14 = .ok (.aload_n 0, 1) := by decide +kernel
theorem dX10_threaded_15 : decode cX10_threaded 15 = .ok (.getfield 9, 3) := by decide +kernel
theorem dX10_threaded_18 : decode cX10_threaded 18 = .ok (.iload_n 1, 1) := by decide +kernel
theorem dX10_threaded_19 : decode cX10_threaded 19 = .ok (.iload_n 2, 1) := by decide +kernel
theorem dX10_threaded_20 : decode cX10_threaded 20 = .ok (.iconst 4, 1) := by decide +kernel
theorem dX10_threaded_21 : decode cX10_threaded 21 = .ok (.iadd, 1) := by decide +kernel
theorem dX10_threaded_22 : decode cX10_threaded 22 = .ok (.iload_n 3, 1) := by decide +kernel
theorem dX10_threaded_23 : decode cX10_threaded 23 = .ok (.invokevirtual 101, 3) := by decide +kernel
theorem dX10_threaded_26 : decode cX10_threaded 26 = .ok (.istore 4, 2) := by decide +kernel
theorem dX10_threaded_28 : decode cX10_threaded 28 = .ok (.iload 4, 2) := by decide +kernel
theorem dX10_threaded_30 : decode cX10_threaded 30 = .ok (.iconst (-1), 1) := by decide +kernel
theorem dX10_threaded_31 : decode cX10_threaded 31 = .ok (.if_icmp .ne 7, 3) := by decide +kernel
theorem dX10_threaded_34 : decode cX10_threaded 34 = .ok (.lconst 0, 1) := by decide +kernel
theorem dX10_threaded_35 : decode cX10_threaded 35 = .ok (.goto 10, 3) := by decide +kernel
theorem dX10_threaded_38 : decode cX10_threaded 38 = .ok (.iload 4, 2) := by decide +kernel
theorem dX10_threaded_40 : decode cX10_threaded 40 = .ok (.iload_n 2, 1) := by decide +kernel
theorem dX10_threaded_41 : decode cX10_threaded 41 = .ok (.isub, 1) := by decide +kernel
theorem dX10_threaded_42 : decode cX10_threaded 42 = .ok (.iconst 4, 1) := by decide +kernel
theorem dX10_threaded_43 : decode cX10_threaded 43 = .ok (.idiv, 1) := by decide +kernel
theorem dX10_threaded_44 : decode cX10_threaded 44 = .ok (.i2l, 1) := by decide +kernel
theorem dX10_threaded_45 : decode cX10_threaded 45 = .ok (.lstore 5, 2) := by decide +kernel
theorem dX10_threaded_47 : decode cX10_threaded 47 = .ok (.aload_n 0, 1) := by decide +kernel
theorem dX10_threaded_48 : decode cX10_threaded 48 = .ok (.getfield 9, 3) := by decide +kernel
theorem dX10_threaded_51 : decode cX10_threaded 51 = .ok (.iload_n 1, 1) := by decide +kernel
theorem dX10_threaded_52 : decode cX10_threaded 52 = .ok (.iload_n 2, 1) := by decide +kernel
theorem dX10_threaded_53 : decode cX10_threaded 53 = .ok (.invokevirtual 200, 3) := by decide +kernel
theorem dX10_threaded_56 : decode cX10_threaded 56 = .ok (.lload 5, 2) := by decide +kernel
theorem dX10_threaded_58 : decode cX10_threaded 58 = .ok (.bipush 51, 2) := by decide +kernel
theorem dX10_threaded_60 : decode cX10_threaded 60 = .ok (.lshl, 1) := by decide +kernel
theorem dX10_threaded_61 : decode cX10_threaded 61 = .ok (.lor, 1) := by decide +kernel
theorem dX10_threaded_62 : decode cX10_threaded 62 = .ok (.lreturn, 1) := by decide +kernel
theorem dX10_addFixups_0 : decode cX10_addFixups 0 = .ok (.aload_n 0, 1) := by decide +kernel
theorem dX10_addFixups_1 : decode cX10_addFixups 1 = .ok (.getfield 15, 3) := by decide +kernel
theorem dX10_addFixups_4 : decode cX10_addFixups 4 = .ok (.bipush 8, 2) := by decide +kernel
theorem dX10_addFixups_6 : decode cX10_addFixups 6 = .ok (.invokevirtual 177, 3) := by decide +kernel
theorem dX10_addFixups_9 : decode cX10_addFixups 9 = .ok (.aload_n 0, 1) := by decide +kernel
theorem dX10_addFixups_10 : decode cX10_addFixups 10 = .ok (.getfield 15, 3) := by decide +kernel
theorem dX10_addFixups_13 : decode cX10_addFixups 13 = .ok (.iconst 4, 1) := by decide +kernel
theorem dX10_addFixups_14 : decode cX10_addFixups 14 = .ok (.lconst 0, 1) := by decide +kernel
theorem dX10_addFixups_15 : decode cX10_addFixups 15 = .ok (.invokevirtual 130, 3) := by decide +kernel
theorem dX10_addFixups_18 : decode cX10_addFixups 18 = .ok (.aload_n 0, 1) := by decide +kernel
theorem dX10_addFixups_19 : decode cX10_addFixups 19 = .ok (.getfield 15, 3) := by decide +kernel
theorem dX10_addFixups_22 : decode cX10_addFixups 22 = .ok (.iconst 4, 1) := by decide +kernel
theorem dX10_addFixups_23 : decode cX10_addFixups 23 = .ok (.ldc2_w 203, 3) := by decide +kernel
theorem dX10_addFixups_26 : decode cX10_addFixups 26 = .ok (.invokevirtual 130, 3) := by decide +kernel
theorem dX10_addFixups_29 : decode cX10_addFixups 29 = .ok (.aload_n 0, 1) := by decide +kernel
theorem dX10_addFixups_30 : decode cX10_addFixups 30 = .ok (.getfield 15, 3) := by decide +kernel
theorem dX10_addFixups_33 : decode cX10_addFixups 33 = .ok (.iconst 4, 1) := by decide +kernel
theorem dX10_addFixups_34 : decode cX10_addFixups 34 = .ok (.aload_n 0, 1) := by decide +kernel
theorem dX10_addFixups_35 : decode cX10_addFixups 35 = .ok (.getfield 115, 3) := by decide +kernel
theorem dX10_addFixups_38 : decode cX10_addFixups 38 = .ok (.i2l, 1) := by decide +kernel
theorem dX10_addFixups_39 : decode cX10_addFixups 39 = .ok (.invokevirtual 130, 3) := by decide +kernel
theorem dX10_addFixups_42 : decode cX10_addFixups 42 = .ok (.aload_n 0, 1) := by decide +kernel
theorem dX10_addFixups_43 : decode cX10_addFixups 43 = .ok (.getfield 15, 3) := by decide +kernel
theorem dX10_addFixups_46 : decode cX10_addFixups 46 = .ok (.iconst 4, 1) := by decide +kernel
theorem dX10_addFixups_47 : decode cX10_addFixups 47 = .ok (.aload_n 0, 1) := by decide +kernel
theorem dX10_addFixups_48 : decode cX10_addFixups 48 = .ok (.getfield 121, 3) := by decide +kernel
theorem dX10_addFixups_51 : decode cX10_addFixups 51 = .ok (.i2l, 1) := by decide +kernel
theorem dX10_addFixups_52 : decode cX10_addFixups 52 = .ok (.invokevirtual 130, 3) := by decide +kernel
theorem dX10_addFixups_55 : decode cX10_addFixups 55 = .ok (.aload_n 0, 1) := by decide +kernel
theorem dX10_addFixups_56 : decode cX10_addFixups 56 = .ok (.getfield 15, 3) := by decide +kernel
theorem dX10_addFixups_59 : decode cX10_addFixups 59 = .ok (.iconst 4, 1) := by decide +kernel
theorem dX10_addFixups_60 : decode cX10_addFixups 60 = .ok (.aload_n 0, 1) := by decide +kernel
theorem dX10_addFixups_61 : decode cX10_addFixups 61 = .ok (.getfield 9, 3) := by decide +kernel
theorem dX10_addFixups_64 : decode cX10_addFixups 64 = .ok (.getfield 118, 3) := by decide +kernel
theorem dX10_addFixups_67 : decode cX10_addFixups 67 = .ok (.getfield 51, 3) := by decide +kernel
theorem dX10_addFixups_70 : decode cX10_addFixups 70 = .ok (.i2l, 1) := by decide +kernel
theorem dX10_addFixups_71 : decode cX10_addFixups 71 = .ok (.invokevirtual 130, 3) := by decide +kernel
theorem dX10_addFixups_74 : decode cX10_addFixups 74 = .ok (.aload_n 0, 1) := by decide +kernel
theorem dX10_addFixups_75 : decode cX10_addFixups 75 = .ok (.getfield 15, 3) := by decide +kernel
theorem dX10_addFixups_78 : decode cX10_addFixups 78 = .ok (.iconst 4, 1) := by decide +kernel
theorem dX10_addFixups_79 : decode cX10_addFixups 79 = .ok (.lconst 1, 1) := by decide +kernel
theorem dX10_addFixups_80 : decode cX10_addFixups 80 = .ok (.invokevirtual 130, 3) := by decide +kernel
theorem dX10_addFixups_83 : decode cX10_addFixups 83 = .ok (.aload_n 0, 1) := by decide +kernel
theorem dX10_addFixups_84 : decode cX10_addFixups 84 = .ok (.getfield 15, 3) := by decide +kernel
theorem dX10_addFixups_87 : decode cX10_addFixups 87 = .ok (.iconst 4, 1) := by decide +kernel
theorem dX10_addFixups_88 : decode cX10_addFixups 88 = .ok (.lconst 0, 1) := by decide +kernel
theorem dX10_addFixups_89 : decode cX10_addFixups 89 = .ok (.invokevirtual 130, 3) := by decide +kernel
theorem dX10_addFixups_92 : decode cX10_addFixups 92 = .ok (.aload_n 0, 1) := by decide +kernel
theorem dX10_addFixups_93 : decode cX10_addFixups 93 = .ok (.getfield 15, 3) := by decide +kernel
theorem dX10_addFixups_96 : decode cX10_addFixups 96 = .ok (.iconst 4, 1) := by decide +kernel
theorem dX10_addFixups_97 : decode cX10_addFixups 97 = .ok (.aload_n 0, 1) := by decide +kernel
theorem dX10_addFixups_98 : decode cX10_addFixups 98 = .ok (.getfield 9, 3) := by decide +kernel
theorem dX10_addFixups_101 : decode cX10_addFixups 101 = .ok (.getfield 67, 3) := by decide +kernel
theorem dX10_addFixups_104 : decode cX10_addFixups 104 = .ok (.getfield 51, 3) := by decide +kernel
theorem dX10_addFixups_107 : decode cX10_addFixups 107 = .ok (.i2l, 1) := by decide +kernel
theorem dX10_addFixups_108 : decode cX10_addFixups 108 = .ok (.invokevirtual 130, 3) := by decide +kernel
theorem dX10_addFixups_111 : decode cX10_addFixups 111 = .ok (.iconst 0, 1) := by decide +kernel
theorem dX10_addFixups_112 : decode cX10_addFixups 112 = .ok (.istore_n 1, 1) := by decide +kernel
theorem dX10_addFixups_113 : decode cX10_addFixups 113 = .ok (.iload_n 1, 1) := by decide +kernel
theorem dX10_addFixups_114 : decode cX10_addFixups 114 = .ok (.aload_n 0, 1) := by decide +kernel
theorem dX10_addFixups_115 : decode cX10_addFixups 115 = .ok (.getfield 9, 3) := by decide +kernel
theorem dX10_addFixups_118 : decode cX10_addFixups 118 = .ok (.getfield 67, 3) := by decide +kernel
theorem dX10_addFixups_121 : decode cX10_addFixups 121 = .ok (.getfield 51, 3) := by decide +kernel
theorem dX10_addFixups_124 : decode cX10_addFixups 124 = .ok (.if_icmp .ge 24, 3) := by decide +kernel
theorem dX10_addFixups_127 : decode cX10_addFixups 127 = .ok (.aload_n 0, 1) := by decide +kernel
theorem dX10_addFixups_128 : decode cX10_addFixups 128 = .ok (.getfield 15, 3) := by decide +kernel
theorem dX10_addFixups_131 : decode cX10_addFixups 131 = .ok (.iconst 4, 1) := by decide +kernel
theorem dX10_addFixups_132 : decode cX10_addFixups 132 = .ok (.aload_n 0, 1) := by decide +kernel
theorem dX10_addFixups_133 : decode cX10_addFixups 133 = .ok (.getfield 23, 3) := by decide +kernel
theorem dX10_addFixups_136 : decode cX10_addFixups 136 = .ok (.iload_n 1, 1) := by decide +kernel
theorem dX10_addFixups_137 : decode cX10_addFixups 137 = .ok (.iaload, 1) := by decide +kernel
theorem dX10_addFixups_138 : decode cX10_addFixups 138 = .ok (.i2l, 1) := by decide +kernel
theorem dX10_addFixups_139 : decode cX10_addFixups 139 = .ok (.invokevirtual 130, 3) := by decide +kernel
theorem dX10_addFixups_142 : decode cX10_addFixups 142 = .ok (.iinc 1 1, 3) := by decide +kernel
theorem dX10_addFixups_145 : decode cX10_addFixups 145 = .ok (.goto (-32), 3) := by decide +kernel
theorem dX10_addFixups_148 : decode cX10_addFixups 148 = .ok (.iconst 0, 1) := by decide +kernel
theorem dX10_addFixups_149 : decode cX10_addFixups 149 = .ok (.istore_n 1, 1) := by decide +kernel
theorem dX10_addFixups_150 : decode cX10_addFixups 150 = .ok (.iload_n 1, 1) := by decide +kernel
theorem dX10_addFixups_151 : decode cX10_addFixups 151 = .ok (.aload_n 0, 1) := by decide +kernel
theorem dX10_addFixups_152 : decode cX10_addFixups 152 = .ok (.getfield 9, 3) := by decide +kernel
theorem dX10_addFixups_155 : decode cX10_addFixups 155 = .ok (.getfield 67, 3) := by decide +kernel
theorem dX10_addFixups_158 : decode cX10_addFixups 158 = .ok (.getfield 51, 3) := by decide +kernel
theorem dX10_addFixups_161 : decode cX10_addFixups 161 = .ok (.if_icmp .ge 23, 3) := by decide +kernel
theorem dX10_addFixups_164 : decode cX10_addFixups 164 = .ok (.aload_n 0, 1) := by decide +kernel
theorem dX10_addFixups_165 : decode cX10_addFixups 165 = .ok (.getfield 23, 3) := by decide +kernel
theorem dX10_addFixups_168 : decode cX10_addFixups 168 = .ok (.iload_n 1, 1) := by decide +kernel
theorem dX10_addFixups_169 : decode cX10_addFixups 169 = .ok (.iaload, 1) := by decide +kernel
theorem dX10_addFixups_170 : decode cX10_addFixups 170 = .ok (.ifCond .eq 8, 3) := by decide +kernel
theorem dX10_addFixups_173 : decode cX10_addFixups 173 = .ok (.aload_n 0, 1) := by decide +kernel
theorem dX10_addFixups_174 : decode cX10_addFixups 174 = .ok (.iload_n 1, 1) := by decide +kernel
theorem dX10_addFixups_175 : decode cX10_addFixups 175 = .ok (.invokevirtual 205, 3) := by decide +kernel
theorem dX10_addFixups_178 : decode cX10_addFixups 178 = .ok (.iinc 1 1, 3) := by decide +kernel
theorem dX10_addFixups_181 : decode cX10_addFixups 181 = .ok (.goto (-31), 3) := by decide +kernel
theorem dX10_addFixups_184 : decode cX10_addFixups 184 = .ok (.aload_n 0, 1) := by decide +kernel
theorem dX10_addFixups_185 : decode cX10_addFixups 185 = .ok (.getfield 15, 3) := by decide +kernel
theorem dX10_addFixups_188 : decode cX10_addFixups 188 = .ok (.iconst 4, 1) := by decide +kernel
theorem dX10_addFixups_189 : decode cX10_addFixups 189 = .ok (.invokevirtual 177, 3) := by decide +kernel
theorem dX10_addFixups_192 : decode cX10_addFixups 192 = .ok (.aload_n 0, 1) := by decide +kernel
theorem dX10_addFixups_193 : decode cX10_addFixups 193 = .ok (.invokevirtual 208, 3) := by decide +kernel
theorem dX10_addFixups_196 : decode cX10_addFixups 196 = .ok (.aload_n 0, 1) := by decide +kernel
theorem dX10_addFixups_197 : decode cX10_addFixups 197 = .ok (.getfield 9, 3) := by decide +kernel
theorem dX10_addFixups_200 : decode cX10_addFixups 200 = .ok (.getfield 118, 3) := by decide +kernel
theorem dX10_addFixups_203 : decode cX10_addFixups 203 = .ok (.aload_n 0, 1) := by decide +kernel
theorem dX10_addFixups_204 : decode cX10_addFixups 204 = .ok (.getfield 15, 3) := by decide +kernel
theorem dX10_addFixups_207 : decode cX10_addFixups 207 = .ok (.invokevirtual 211, 3) := by decide +kernel
theorem dX10_addFixups_210 : decode cX10_addFixups 210 = .ok (.return_, 1) := by decide +kernel
theorem dX10_addPages_0 : decode cX10_addPages 0 = .ok (.aload_n 0, 1) := by decide +kernel
theorem dX10_addPages_1 : decode cX10_addPages 1 = .ok (.getfield 9, 3) := by decide +kernel
theorem dX10_addPages_4 : decode cX10_addPages 4 = .ok (.iload_n 1, 1) := by decide +kernel
theorem dX10_addPages_5 : decode cX10_addPages 5 = .ok (.invokevirtual 105, 3) := by decide +kernel
theorem dX10_addPages_8 : decode cX10_addPages 8 = .ok (.aload_n 0, 1) := by decide +kernel
theorem dX10_addPages_9 : decode cX10_addPages 9 = .ok (.getfield 9, 3) := by decide +kernel
theorem dX10_addPages_12 : decode cX10_addPages 12 = .ok (.getfield 109, 3) := by decide +kernel
theorem dX10_addPages_15 : decode cX10_addPages 15 = .ok (.invokestatic 112, 3) := by decide +kernel
theorem dX10_addPages_18 : decode cX10_addPages 18 = .ok (.istore_n 2, 1) := by decide +kernel
theorem dX10_addPages_19 : decode cX10_addPages 19 = .ok (.aload_n 0, 1) := by decide +kernel
theorem dX10_addPages_20 : decode cX10_addPages 20 = .ok (.getfield 15, 3) := by decide +kernel
theorem dX10_addPages_23 : decode cX10_addPages 23 = .ok (.iconst 4, 1) := by decide +kernel
theorem dX10_addPages_24 : decode cX10_addPages 24 = .ok (.invokevirtual 177, 3) := by decide +kernel
theorem dX10_addPages_27 : decode cX10_addPages 27 = .ok (.aload_n 0, 1) := by decide +kernel
theorem dX10_addPages_28 : decode cX10_addPages 28 = .ok (.getfield 15, 3) := by decide +kernel
theorem dX10_addPages_31 : decode cX10_addPages 31 = .ok (.iconst 4, 1) := by decide +kernel
theorem dX10_addPages_32 : decode cX10_addPages 32 = .ok (.bipush 22, 2) := by decide +kernel
theorem dX10_addPages_34 : decode cX10_addPages 34 = .ok (.iconst 2, 1) := by decide +kernel
theorem dX10_addPages_35 : decode cX10_addPages 35 = .ok (.iload_n 2, 1) := by decide +kernel
theorem dX10_addPages_36 : decode cX10_addPages 36 = .ok (.imul, 1) := by decide +kernel
theorem dX10_addPages_37 : decode cX10_addPages 37 = .ok (.iadd, 1) := by decide +kernel
theorem dX10_addPages_38 : decode cX10_addPages 38 = .ok (.i2l, 1) := by decide +kernel
theorem dX10_addPages_39 : decode cX10_addPages 39 = .ok (.invokevirtual 130, 3) := by decide +kernel
theorem dX10_addPages_42 : decode cX10_addPages 42 = .ok (.aload_n 0, 1) := by decide +kernel
theorem dX10_addPages_43 : decode cX10_addPages 43 = .ok (.getfield 15, 3) := by decide +kernel
theorem dX10_addPages_46 : decode cX10_addPages 46 = .ok (.iconst 2, 1) := by decide +kernel
theorem dX10_addPages_47 : decode cX10_addPages 47 = .ok (.aload_n 0, 1) := by decide +kernel
theorem dX10_addPages_48 : decode cX10_addPages 48 = .ok (.getfield 9, 3) := by decide +kernel
theorem dX10_addPages_51 : decode cX10_addPages 51 = .ok (.getfield 109, 3) := by decide +kernel
theorem dX10_addPages_54 : decode cX10_addPages 54 = .ok (.i2l, 1) := by decide +kernel
theorem dX10_addPages_55 : decode cX10_addPages 55 = .ok (.invokevirtual 130, 3) := by decide +kernel
theorem dX10_addPages_58 : decode cX10_addPages 58 = .ok (.aload_n 0, 1) := by decide +kernel
theorem dX10_addPages_59 : decode cX10_addPages 59 = .ok (.getfield 15, 3) := by decide +kernel
theorem dX10_addPages_62 : decode cX10_addPages 62 = .ok (.iconst 2, 1) := by decide +kernel
theorem dX10_addPages_63 : decode cX10_addPages 63 = .ok (.ldc2_w 169, 3) := by decide +kernel
theorem dX10_addPages_66 : decode cX10_addPages 66 = .ok (.invokevirtual 130, 3) := by decide +kernel
theorem dX10_addPages_69 : decode cX10_addPages 69 = .ok (.aload_n 0, 1) := by decide +kernel
theorem dX10_addPages_70 : decode cX10_addPages 70 = .ok (.getfield 15, 3) := by decide +kernel
theorem dX10_addPages_73 : decode cX10_addPages 73 = .ok (.bipush 8, 2) := by decide +kernel
theorem dX10_addPages_75 : decode cX10_addPages 75 = .ok (.aload_n 0, 1) := by decide +kernel
theorem dX10_addPages_76 : decode cX10_addPages 76 = .ok (.getfield 9, 3) := by decide +kernel
theorem dX10_addPages_79 : decode cX10_addPages 79 = .ok (.iload_n 1, 1) := by decide +kernel
theorem dX10_addPages_80 : decode cX10_addPages 80 = .ok (.invokevirtual 149, 3) := by decide +kernel
theorem dX10_addPages_83 : decode cX10_addPages 83 = .ok (.aload_n 0, 1) := by decide +kernel
theorem dX10_addPages_84 : decode cX10_addPages 84 = .ok (.getfield 9, 3) := by decide +kernel
theorem dX10_addPages_87 : decode cX10_addPages 87 = .ok (.getfield 215, 3) := by decide +kernel
theorem dX10_addPages_90 : decode cX10_addPages 90 = .ok (.isub, 1) := by decide +kernel
theorem dX10_addPages_91 : decode cX10_addPages 91 = .ok (.i2l, 1) := by decide +kernel
theorem dX10_addPages_92 : decode cX10_addPages 92 = .ok (.invokevirtual 130, 3) := by decide +kernel
theorem dX10_addPages_95 : decode cX10_addPages 95 = .ok (.aload_n 0, 1) := by decide +kernel
theorem dX10_addPages_96 : decode cX10_addPages 96 = .ok (.getfield 15, 3) := by decide +kernel
theorem dX10_addPages_99 : decode cX10_addPages 99 = .ok (.iconst 4, 1) := by decide +kernel
theorem dX10_addPages_100 : decode cX10_addPages 100 = .ok (.lconst 0, 1) := by decide +kernel
theorem dX10_addPages_101 : decode cX10_addPages 101 = .ok (.invokevirtual 130, 3) := by decide +kernel
theorem dX10_addPages_104 : decode cX10_addPages 104 = .ok (.aload_n 0, 1) := by decide +kernel
theorem dX10_addPages_105 : decode cX10_addPages 105 = .ok (.getfield 15, 3) := by decide +kernel
theorem dX10_addPages_108 : decode cX10_addPages 108 = .ok (.iconst 2, 1) := by decide +kernel
theorem dX10_addPages_109 : decode cX10_addPages 109 = .ok (.iload_n 2, 1) := by decide +kernel
theorem dX10_addPages_110 : decode cX10_addPages 110 = .ok (.i2l, 1) := by decide +kernel
theorem dX10_addPages_111 : decode cX10_addPages 111 = .ok (.invokevirtual 130, 3) := by decide +kernel
theorem dX10_addPages_114 : decode cX10_addPages 114 = .ok (.iconst 0, 1) := by decide +kernel
theorem dX10_addPages_115 : decode cX10_addPages 115 = .ok (.istore_n 3, 1) := by decide +kernel
theorem dX10_addPages_116 : decode cX10_addPages 116 = .ok (.iload_n 3, 1) := by decide +kernel
theorem dX10_addPages_117 : decode cX10_addPages 117 = .ok (.iload_n 2, 1) := by decide +kernel
theorem dX10_addPages_118 : decode cX10_addPages 118 = .ok (.if_icmp .ge 68, 3) := by decide +kernel
theorem dX10_addPages_121 : decode cX10_addPages 121 = .ok (.iload_n 3, 1) := by decide +kernel
theorem dX10_addPages_122 : decode cX10_addPages 122 = .ok (.aload_n 0, 1) := by decide +kernel
theorem dX10_addPages_123 : decode cX10_addPages 123 = .ok (.getfield 9, 3) := by decide +kernel
theorem dX10_addPages_126 : decode cX10_addPages 126 = .ok (.getfield 109, 3) := by decide +kernel
theorem dX10_addPages_129 : decode cX10_addPages 129 = .ok (.imul, 1) := by decide +kernel
theorem dX10_addPages_130 : decode cX10_addPages 130 = .ok (.istore 4, 2) := by decide +kernel
theorem dX10_addPages_132 : decode cX10_addPages 132 = .ok (.aload_n 0, 1) := by decide +kernel
theorem dX10_addPages_133 : decode cX10_addPages 133 = .ok (.getfield 9, 3) := by decide +kernel
theorem dX10_addPages_136 : decode cX10_addPages 136 = .ok (.iload_n 1, 1) := by decide +kernel
theorem dX10_addPages_137 : decode cX10_addPages 137 = .ok (.iload 4, 2) := by decide +kernel
theorem dX10_addPages_139 : decode cX10_addPages 139 = .ok (.iload 4, 2) := by decide +kernel
theorem dX10_addPages_141 : decode cX10_addPages 141 = .ok (.aload_n 0, 1) := by decide +kernel
theorem dX10_addPages_142 : decode cX10_addPages 142 = .ok (.getfield 9, 3) := by decide +kernel
theorem dX10_addPages_145 : decode cX10_addPages 145 = .ok (.getfield 109, 3) := by decide +kernel
theorem dX10_addPages_148 : decode cX10_addPages 148 = .ok (.iadd, 1) := by decide +kernel
theorem dX10_addPages_149 : decode cX10_addPages 149 = .ok (.invokevirtual 101, 3) := by decide +kernel
theorem dX10_addPages_152 : decode cX10_addPages 152 = .ok (.istore 5, 2) := by decide +kernel
theorem dX10_addPages_154 : decode cX10_addPages 154 = .ok (.aload_n 0, 1) := by decide +kernel
theorem dX10_addPages_155 : decode cX10_addPages 155 = .ok (.getfield 15, 3) := by decide +kernel
theorem dX10_addPages_158 : decode cX10_addPages 158 = .ok (.iconst 2, 1) := by decide +kernel
theorem dX10_addPages_159 : decode cX10_addPages 159 = .ok (.iload 5, 2) := by decide +kernel
theorem dX10_addPages_161 : decode cX10_addPages 161 = .ok (.iconst (-1), 1) := by decide +kernel
theorem dX10_addPages_162 : decode cX10_addPages 162 = .ok (.if_icmp .ne 9, 3) := by decide +kernel
theorem dX10_addPages_165 : decode cX10_addPages 165 = .ok (.ldc2_w 218, 3) := by decide +kernel
theorem dX10_addPages_168 : decode cX10_addPages 168 = .ok (.goto 9, 3) := by decide +kernel
theorem dX10_addPages_171 : decode cX10_addPages 171 = .ok (.iload 5, 2) := by decide +kernel
theorem dX10_addPages_173 : decode cX10_addPages 173 = .ok (.iload 4, 2) := by decide +kernel
theorem dX10_addPages_175 : decode cX10_addPages 175 = .ok (.isub, 1) := by decide +kernel
theorem dX10_addPages_176 : decode cX10_addPages 176 = .ok (.i2l, 1) := by decide +kernel
theorem dX10_addPages_177 : decode cX10_addPages 177 = .ok (.invokevirtual 130, 3) := by decide +kernel
theorem dX10_addPages_180 : decode cX10_addPages 180 = .ok (.iinc 3 1, 3) := by decide +kernel
theorem dX10_addPages_183 : decode cX10_addPages 183 = .ok (.goto (-67), 3) := by decide +kernel
theorem dX10_addPages_186 : decode cX10_addPages 186 = .ok (.return_, 1) := by decide +kernel
theorem dX10_addImports_0 : decode cX10_addImports 0 = .ok (.iconst 0, 1) := by decide +kernel
theorem dX10_addImports_1 : decode cX10_addImports 1 = .ok (.istore_n 1, 1) := by decide +kernel
theorem dX10_addImports_2 : decode cX10_addImports 2 = .ok (.iconst 0, 1) := by decide +kernel
theorem dX10_addImports_3 : decode cX10_addImports 3 = .ok (.istore_n 2, 1) := by decide +kernel
theorem dX10_addImports_4 : decode cX10_addImports 4 = .ok (.iload_n 2, 1) := by decide +kernel
theorem dX10_addImports_5 : decode cX10_addImports 5 = .ok (.aload_n 0, 1) := by decide +kernel
theorem dX10_addImports_6 : decode cX10_addImports 6 = .ok (.getfield 9, 3) := by decide +kernel
theorem dX10_addImports_9 : decode cX10_addImports 9 = .ok (.getfield 118, 3) := by decide +kernel
theorem dX10_addImports_12 : decode cX10_addImports 12 = .ok (.getfield 51, 3) := by decide +kernel
theorem dX10_addImports_15 : decode cX10_addImports 15 = .ok (.if_icmp .ge 72, 3) := by decide +kernel
theorem dX10_addImports_18 : decode cX10_addImports 18 = .ok (.aload_n 0, 1) := by decide +kernel
theorem dX10_addImports_19 : decode cX10_addImports 19 = .ok (.getfield 9, 3) := by decide +kernel
theorem dX10_addImports_22 : decode cX10_addImports 22 = .ok (.getfield 220, 3) := by decide +kernel
theorem dX10_addImports_25 : decode cX10_addImports 25 = .ok (.iload_n 2, 1) := by decide +kernel
theorem dX10_addImports_26 : decode cX10_addImports 26 = .ok (.baload, 1) := by decide +kernel
theorem dX10_addImports_27 : decode cX10_addImports 27 = .ok (.ifCond .eq 7, 3) := by decide +kernel
theorem dX10_addImports_30 : decode cX10_addImports 30 = .ok (.iconst 1, 1) := by decide +kernel
theorem dX10_addImports_31 : decode cX10_addImports 31 = .ok (.goto 4, 3) := by decide +kernel
theorem dX10_addImports_34 : decode cX10_addImports 34 = .ok (.iconst 0, 1) := by decide +kernel
theorem dX10_addImports_35 : decode cX10_addImports 35 = .ok (.istore_n 3, 1) := by decide +kernel
theorem dX10_addImports_36 : decode cX10_addImports 36 = .ok (.aload_n 0, 1) := by decide +kernel
theorem dX10_addImports_37 : decode cX10_addImports 37 = .ok (.getfield 15, 3) := by decide +kernel
theorem dX10_addImports_40 : decode cX10_addImports 40 = .ok (.iconst 4, 1) := by decide +kernel
theorem dX10_addImports_41 : decode cX10_addImports 41 = .ok (.aload_n 0, 1) := by decide +kernel
theorem dX10_addImports_42 : decode cX10_addImports 42 = .ok (.getfield 9, 3) := by decide +kernel
theorem dX10_addImports_45 : decode cX10_addImports 45 = .ok (.getfield 224, 3) := by decide +kernel
theorem dX10_addImports_48 : decode cX10_addImports 48 = .ok (.iload_n 2, 1) := by decide +kernel
theorem dX10_addImports_49 : decode cX10_addImports 49 = .ok (.iaload, 1) := by decide +kernel
theorem dX10_addImports_50 : decode cX10_addImports 50 = .ok (.iload_n 3, 1) := by decide +kernel
theorem dX10_addImports_51 : decode cX10_addImports 51 = .ok (.bipush 8, 2) := by decide +kernel
theorem dX10_addImports_53 : decode cX10_addImports 53 = .ok (.ishl, 1) := by decide +kernel
theorem dX10_addImports_54 : decode cX10_addImports 54 = .ok (.ior, 1) := by decide +kernel
theorem dX10_addImports_55 : decode cX10_addImports 55 = .ok (.iload_n 1, 1) := by decide +kernel
theorem dX10_addImports_56 : decode cX10_addImports 56 = .ok (.bipush 9, 2) := by decide +kernel
theorem dX10_addImports_58 : decode cX10_addImports 58 = .ok (.ishl, 1) := by decide +kernel
theorem dX10_addImports_59 : decode cX10_addImports 59 = .ok (.ior, 1) := by decide +kernel
theorem dX10_addImports_60 : decode cX10_addImports 60 = .ok (.i2l, 1) := by decide +kernel
theorem dX10_addImports_61 : decode cX10_addImports 61 = .ok (.invokevirtual 130, 3) := by decide +kernel
theorem dX10_addImports_64 : decode cX10_addImports 64 = .ok (.iload_n 1, 1) := by decide +kernel
theorem dX10_addImports_65 : decode cX10_addImports 65 = .ok (.aload_n 0, 1) := by decide +kernel
theorem dX10_addImports_66 : decode cX10_addImports 66 = .ok (.getfield 9, 3) := by decide +kernel
theorem dX10_addImports_69 : decode cX10_addImports 69 = .ok (.getfield 118, 3) := by decide +kernel
theorem dX10_addImports_72 : decode cX10_addImports 72 = .ok (.getfield 227, 3) := by decide +kernel
theorem dX10_addImports_75 : decode cX10_addImports 75 = .ok (.iload_n 2, 1) := by decide +kernel
theorem dX10_addImports_76 : decode cX10_addImports 76 = .ok (.iaload, 1) := by decide +kernel
theorem dX10_addImports_77 : decode cX10_addImports 77 = .ok (.iconst 1, 1) := by decide +kernel
theorem dX10_addImports_78 : decode cX10_addImports 78 = .ok (.iadd, 1) := by decide +kernel
theorem dX10_addImports_79 : decode cX10_addImports 79 = .ok (.iadd, 1) := by decide +kernel
theorem dX10_addImports_80 : decode cX10_addImports 80 = .ok (.istore_n 1, 1) := by decide +kernel
theorem dX10_addImports_81 : decode cX10_addImports 81 = .ok (.iinc 2 1, 3) := by decide +kernel
theorem dX10_addImports_84 : decode cX10_addImports 84 = .ok (.goto (-80), 3) := by decide +kernel
theorem dX10_addImports_87 : decode cX10_addImports 87 = .ok (.return_, 1) := by decide +kernel
theorem dX10_addSymbols_0 : decode cX10_addSymbols 0 = .ok (.aload_n 0, 1) := by decide +kernel
theorem dX10_addSymbols_1 : decode cX10_addSymbols 1 = .ok (.getfield 15, 3) := by decide +kernel
theorem dX10_addSymbols_4 : decode cX10_addSymbols 4 = .ok (.bipush 8, 2) := by decide +kernel
theorem dX10_addSymbols_6 : decode cX10_addSymbols 6 = .ok (.invokevirtual 177, 3) := by decide +kernel
theorem dX10_addSymbols_9 : decode cX10_addSymbols 9 = .ok (.iconst 1, 1) := by decide +kernel
theorem dX10_addSymbols_10 : decode cX10_addSymbols 10 = .ok (.istore_n 1, 1) := by decide +kernel
theorem dX10_addSymbols_11 : decode cX10_addSymbols 11 = .ok (.iconst 0, 1) := by decide +kernel
theorem dX10_addSymbols_12 : decode cX10_addSymbols 12 = .ok (.istore_n 2, 1) := by decide +kernel
theorem dX10_addSymbols_13 : decode cX10_addSymbols 13 = .ok (.iload_n 2, 1) := by decide +kernel
theorem dX10_addSymbols_14 : decode cX10_addSymbols 14 = .ok (.aload_n 0, 1) := by decide +kernel
theorem dX10_addSymbols_15 : decode cX10_addSymbols 15 = .ok (.getfield 9, 3) := by decide +kernel
theorem dX10_addSymbols_18 : decode cX10_addSymbols 18 = .ok (.getfield 46, 3) := by decide +kernel
theorem dX10_addSymbols_21 : decode cX10_addSymbols 21 = .ok (.getfield 51, 3) := by decide +kernel
theorem dX10_addSymbols_24 : decode cX10_addSymbols 24 = .ok (.if_icmp .ge 130, 3) := by decide +kernel
theorem dX10_addSymbols_27 : decode cX10_addSymbols 27 = .ok (.aload_n 0, 1) := by decide +kernel
theorem dX10_addSymbols_28 : decode cX10_addSymbols 28 = .ok (.getfield 9, 3) := by decide +kernel
theorem dX10_addSymbols_31 : decode cX10_addSymbols 31 = .ok (.getfield 230, 3) := by decide +kernel
theorem dX10_addSymbols_34 : decode cX10_addSymbols 34 = .ok (.iload_n 2, 1) := by decide +kernel
theorem dX10_addSymbols_35 : decode cX10_addSymbols 35 = .ok (.iaload, 1) := by decide +kernel
theorem dX10_addSymbols_36 : decode cX10_addSymbols 36 = .ok (.istore_n 3, 1) := by decide +kernel
theorem dX10_addSymbols_37 : decode cX10_addSymbols 37 = .ok (.aload_n 0, 1) := by decide +kernel
theorem dX10_addSymbols_38 : decode cX10_addSymbols 38 = .ok (.getfield 9, 3) := by decide +kernel
theorem dX10_addSymbols_41 : decode cX10_addSymbols 41 = .ok (.getfield 160, 3) := by decide +kernel
theorem dX10_addSymbols_44 : decode cX10_addSymbols 44 = .ok (.iload_n 3, 1) := by decide +kernel
theorem dX10_addSymbols_45 : decode cX10_addSymbols 45 = .ok (.iconst 1, 1) := by decide +kernel
theorem dX10_addSymbols_46 : decode cX10_addSymbols 46 = .ok (.isub, 1) := by decide +kernel
theorem dX10_addSymbols_47 : decode cX10_addSymbols 47 = .ok (.iaload, 1) := by decide +kernel
theorem dX10_addSymbols_48 : decode cX10_addSymbols 48 = .ok (.aload_n 0, 1) := by decide +kernel
theorem dX10_addSymbols_49 : decode cX10_addSymbols 49 = .ok (.getfield 9, 3) := by decide +kernel
theorem dX10_addSymbols_52 : decode cX10_addSymbols 52 = .ok (.getfield 233, 3) := by decide +kernel
theorem dX10_addSymbols_55 : decode cX10_addSymbols 55 = .ok (.iload_n 2, 1) := by decide +kernel
theorem dX10_addSymbols_56 : decode cX10_addSymbols 56 = .ok (.iaload, 1) := by decide +kernel
theorem dX10_addSymbols_57 : decode cX10_addSymbols 57 = .ok (.iadd, 1) := by decide +kernel
theorem dX10_addSymbols_58 : decode cX10_addSymbols 58 = .ok (.istore 4, 2) := by decide +kernel
theorem dX10_addSymbols_60 : decode cX10_addSymbols 60 = .ok (.aload_n 0, 1) := by decide +kernel
theorem dX10_addSymbols_61 : decode cX10_addSymbols 61 = .ok (.getfield 15, 3) := by decide +kernel
theorem dX10_addSymbols_64 : decode cX10_addSymbols 64 = .ok (.iconst 4, 1) := by decide +kernel
theorem dX10_addSymbols_65 : decode cX10_addSymbols 65 = .ok (.iload_n 1, 1) := by decide +kernel
theorem dX10_addSymbols_66 : decode cX10_addSymbols 66 = .ok (.i2l, 1) := by decide +kernel
theorem dX10_addSymbols_67 : decode cX10_addSymbols 67 = .ok (.invokevirtual 130, 3) := by decide +kernel
theorem dX10_addSymbols_70 : decode cX10_addSymbols 70 = .ok (.aload_n 0, 1) := by decide +kernel
theorem dX10_addSymbols_71 : decode cX10_addSymbols 71 = .ok (.getfield 15, 3) := by decide +kernel
theorem dX10_addSymbols_74 : decode cX10_addSymbols 74 = .ok (.iconst 1, 1) := by decide +kernel
theorem dX10_addSymbols_75 : decode cX10_addSymbols 75 = .ok (.ldc2_w 236, 3) := by decide +kernel
theorem dX10_addSymbols_78 : decode cX10_addSymbols 78 = .ok (.invokevirtual 130, 3) := by decide +kernel
theorem dX10_addSymbols_81 : decode cX10_addSymbols 81 = .ok (.aload_n 0, 1) := by decide +kernel
theorem dX10_addSymbols_82 : decode cX10_addSymbols 82 = .ok (.getfield 15, 3) := by decide +kernel
theorem dX10_addSymbols_85 : decode cX10_addSymbols 85 = .ok (.iconst 1, 1) := by decide +kernel
theorem dX10_addSymbols_86 : decode cX10_addSymbols 86 = .ok (.iload_n 3, 1) := by decide +kernel
theorem dX10_addSymbols_87 : decode cX10_addSymbols 87 = .ok (.i2l, 1) := by decide +kernel
theorem dX10_addSymbols_88 : decode cX10_addSymbols 88 = .ok (.invokevirtual 130, 3) := by decide +kernel
theorem dX10_addSymbols_91 : decode cX10_addSymbols 91 = .ok (.aload_n 0, 1) := by decide +kernel
theorem dX10_addSymbols_92 : decode cX10_addSymbols 92 = .ok (.getfield 15, 3) := by decide +kernel
theorem dX10_addSymbols_95 : decode cX10_addSymbols 95 = .ok (.iconst 2, 1) := by decide +kernel
theorem dX10_addSymbols_96 : decode cX10_addSymbols 96 = .ok (.lconst 0, 1) := by decide +kernel
theorem dX10_addSymbols_97 : decode cX10_addSymbols 97 = .ok (.invokevirtual 130, 3) := by decide +kernel
theorem dX10_addSymbols_100 : decode cX10_addSymbols 100 = .ok (.aload_n 0, 1) := by decide +kernel
theorem dX10_addSymbols_101 : decode cX10_addSymbols 101 = .ok (.getfield 15, 3) := by decide +kernel
theorem dX10_addSymbols_104 : decode cX10_addSymbols 104 = .ok (.bipush 8, 2) := by decide +kernel
theorem dX10_addSymbols_106 : decode cX10_addSymbols 106 = .ok (.aload_n 0, 1) := by decide +kernel
theorem dX10_addSymbols_107 : decode cX10_addSymbols 107 = .ok (.getfield 9, 3) := by decide +kernel
theorem dX10_addSymbols_110 : decode cX10_addSymbols 110 = .ok (.aload_n 0, 1) := by decide +kernel
theorem dX10_addSymbols_111 : decode cX10_addSymbols 111 = .ok (.getfield 9, 3) := by decide +kernel
theorem dX10_addSymbols_114 : decode cX10_addSymbols 114 = .ok (.getfield 157, 3) := by decide +kernel
theorem dX10_addSymbols_117 : decode cX10_addSymbols 117 = .ok (.iload_n 3, 1) := by decide +kernel
theorem dX10_addSymbols_118 : decode cX10_addSymbols 118 = .ok (.iconst 1, 1) := by decide +kernel
theorem dX10_addSymbols_119 : decode cX10_addSymbols 119 = .ok (.isub, 1) := by decide +kernel
theorem dX10_addSymbols_120 : decode cX10_addSymbols 120 = .ok (.iaload, 1) := by decide +kernel
theorem dX10_addSymbols_121 : decode cX10_addSymbols 121 = .ok (.invokevirtual 149, 3) := by decide +kernel
theorem dX10_addSymbols_124 : decode cX10_addSymbols 124 = .ok (.iload 4, 2) := by decide +kernel
theorem dX10_addSymbols_126 : decode cX10_addSymbols 126 = .ok (.iadd, 1) := by decide +kernel
theorem dX10_addSymbols_127 : decode cX10_addSymbols 127 = .ok (.i2l, 1) := by decide +kernel
theorem dX10_addSymbols_128 : decode cX10_addSymbols 128 = .ok (.invokevirtual 130, 3) := by decide +kernel
theorem dX10_addSymbols_131 : decode cX10_addSymbols 131 = .ok (.iload_n 1, 1) := by decide +kernel
theorem dX10_addSymbols_132 : decode cX10_addSymbols 132 = .ok (.aload_n 0, 1) := by decide +kernel
theorem dX10_addSymbols_133 : decode cX10_addSymbols 133 = .ok (.getfield 9, 3) := by decide +kernel
theorem dX10_addSymbols_136 : decode cX10_addSymbols 136 = .ok (.getfield 46, 3) := by decide +kernel
theorem dX10_addSymbols_139 : decode cX10_addSymbols 139 = .ok (.getfield 227, 3) := by decide +kernel
theorem dX10_addSymbols_142 : decode cX10_addSymbols 142 = .ok (.iload_n 2, 1) := by decide +kernel
theorem dX10_addSymbols_143 : decode cX10_addSymbols 143 = .ok (.iaload, 1) := by decide +kernel
theorem dX10_addSymbols_144 : decode cX10_addSymbols 144 = .ok (.iconst 1, 1) := by decide +kernel
theorem dX10_addSymbols_145 : decode cX10_addSymbols 145 = .ok (.iadd, 1) := by decide +kernel
theorem dX10_addSymbols_146 : decode cX10_addSymbols 146 = .ok (.iadd, 1) := by decide +kernel
theorem dX10_addSymbols_147 : decode cX10_addSymbols 147 = .ok (.istore_n 1, 1) := by decide +kernel
theorem dX10_addSymbols_148 : decode cX10_addSymbols 148 = .ok (.iinc 2 1, 3) := by decide +kernel
theorem dX10_addSymbols_151 : decode cX10_addSymbols 151 = .ok (.goto (-138), 3) := by decide +kernel
theorem dX10_addSymbols_154 : decode cX10_addSymbols 154 = .ok (.return_, 1) := by decide +kernel
theorem dX10_addStrings_0 : decode cX10_addStrings 0 = .ok (.aload_n 0, 1) := by decide +kernel
theorem dX10_addStrings_1 : decode cX10_addStrings 1 = .ok (.getfield 15, 3) := by decide +kernel
theorem dX10_addStrings_4 : decode cX10_addStrings 4 = .ok (.bipush 8, 2) := by decide +kernel
theorem dX10_addStrings_6 : decode cX10_addStrings 6 = .ok (.invokevirtual 177, 3) := by decide +kernel
theorem dX10_addStrings_9 : decode cX10_addStrings 9 = .ok (.aload_n 0, 1) := by decide +kernel
theorem dX10_addStrings_10 : decode cX10_addStrings 10 = .ok (.getfield 15, 3) := by decide +kernel
theorem dX10_addStrings_13 : decode cX10_addStrings 13 = .ok (.iconst 1, 1) := by decide +kernel
theorem dX10_addStrings_14 : decode cX10_addStrings 14 = .ok (.invokevirtual 166, 3) := by decide +kernel
theorem dX10_addStrings_17 : decode cX10_addStrings 17 = .ok (.aload_n 0, 1) := by decide +kernel
theorem dX10_addStrings_18 : decode cX10_addStrings 18 = .ok (.getfield 9, 3) := by decide +kernel
theorem dX10_addStrings_21 : decode cX10_addStrings 21 = .ok (.getfield 46, 3) := by decide +kernel
theorem dX10_addStrings_24 : decode cX10_addStrings 24 = .ok (.aload_n 0, 1) := by decide +kernel
theorem dX10_addStrings_25 : decode cX10_addStrings 25 = .ok (.getfield 15, 3) := by decide +kernel
theorem dX10_addStrings_28 : decode cX10_addStrings 28 = .ok (.invokevirtual 211, 3) := by decide +kernel
theorem dX10_addStrings_31 : decode cX10_addStrings 31 = .ok (.return_, 1) := by decide +kernel
theorem dX11_init_0 : decode cX11_init 0 = .ok (.aload_n 0, 1) := by decide +kernel
theorem dX11_init_1 : decode cX11_init 1 = .ok (.invokespecial 3, 3) := by decide +kernel
theorem dX11_init_4 : decode cX11_init 4 = .ok (.aload_n 0, 1) := by decide +kernel
theorem dX11_init_5 : decode cX11_init 5 = .ok (.new 9, 3) := by decide +kernel
theorem dX11_init_8 : decode cX11_init 8 = .ok (.dup, 1) := by decide +kernel
theorem dX11_init_9 : decode cX11_init 9 = .ok (.sipush 1040, 3) := by decide +kernel
theorem dX11_init_12 : decode cX11_init 12 = .ok (.invokespecial 11, 3) := by decide +kernel
theorem dX11_init_15 : decode cX11_init 15 = .ok (.putfield 14, 3) := by decide +kernel
theorem dX11_init_18 : decode cX11_init 18 = .ok (.aload_n 0, 1) := by decide +kernel
theorem dX11_init_19 : decode cX11_init 19 = .ok (.new 9, 3) := by decide +kernel
theorem dX11_init_22 : decode cX11_init 22 = .ok (.dup, 1) := by decide +kernel
theorem dX11_init_23 : decode cX11_init 23 = .ok (.sipush 6400, 3) := by decide +kernel
theorem dX11_init_26 : decode cX11_init 26 = .ok (.invokespecial 11, 3) := by decide +kernel
theorem dX11_init_29 : decode cX11_init 29 = .ok (.putfield 18, 3) := by decide +kernel
theorem dX11_init_32 : decode cX11_init 32 = .ok (.aload_n 0, 1) := by decide +kernel
theorem dX11_init_33 : decode cX11_init 33 = .ok (.new 21, 3) := by decide +kernel
theorem dX11_init_36 : decode cX11_init 36 = .ok (.dup, 1) := by decide +kernel
theorem dX11_init_37 : decode cX11_init 37 = .ok (.invokespecial 23, 3) := by decide +kernel
theorem dX11_init_40 : decode cX11_init 40 = .ok (.putfield 24, 3) := by decide +kernel
theorem dX11_init_43 : decode cX11_init 43 = .ok (.aload_n 0, 1) := by decide +kernel
theorem dX11_init_44 : decode cX11_init 44 = .ok (.new 28, 3) := by decide +kernel
theorem dX11_init_47 : decode cX11_init 47 = .ok (.dup, 1) := by decide +kernel
theorem dX11_init_48 : decode cX11_init 48 = .ok (.aload_n 0, 1) := by decide +kernel
theorem dX11_init_49 : decode cX11_init 49 = .ok (.getfield 24, 3) := by decide +kernel
theorem dX11_init_52 : decode cX11_init 52 = .ok (.aload_n 0, 1) := by decide +kernel
theorem dX11_init_53 : decode cX11_init 53 = .ok (.getfield 18, 3) := by decide +kernel
theorem dX11_init_56 : decode cX11_init 56 = .ok (.invokespecial 30, 3) := by decide +kernel
theorem dX11_init_59 : decode cX11_init 59 = .ok (.putfield 33, 3) := by decide +kernel
theorem dX11_init_62 : decode cX11_init 62 = .ok (.aload_n 0, 1) := by decide +kernel
theorem dX11_init_63 : decode cX11_init 63 = .ok (.new 37, 3) := by decide +kernel
theorem dX11_init_66 : decode cX11_init 66 = .ok (.dup, 1) := by decide +kernel
theorem dX11_init_67 : decode cX11_init 67 = .ok (.invokespecial 39, 3) := by decide +kernel
theorem dX11_init_70 : decode cX11_init 70 = .ok (.putfield 40, 3) := by decide +kernel
theorem dX11_init_73 : decode cX11_init 73 = .ok (.aload_n 0, 1) := by decide +kernel
theorem dX11_init_74 : decode cX11_init 74 = .ok (.new 44, 3) := by decide +kernel
theorem dX11_init_77 : decode cX11_init 77 = .ok (.dup, 1) := by decide +kernel
theorem dX11_init_78 : decode cX11_init 78 = .ok (.invokespecial 46, 3) := by decide +kernel
theorem dX11_init_81 : decode cX11_init 81 = .ok (.putfield 47, 3) := by decide +kernel
theorem dX11_init_84 : decode cX11_init 84 = .ok (.aload_n 0, 1) := by decide +kernel
theorem dX11_init_85 : decode cX11_init 85 = .ok (.new 51, 3) := by decide +kernel
theorem dX11_init_88 : decode cX11_init 88 = .ok (.dup, 1) := by decide +kernel
theorem dX11_init_89 : decode cX11_init 89 = .ok (.aload_n 0, 1) := by decide +kernel
theorem dX11_init_90 : decode cX11_init 90 = .ok (.getfield 18, 3) := by decide +kernel
theorem dX11_init_93 : decode cX11_init 93 = .ok (.aload_n 0, 1) := by decide +kernel
theorem dX11_init_94 : decode cX11_init 94 = .ok (.getfield 47, 3) := by decide +kernel
theorem dX11_init_97 : decode cX11_init 97 = .ok (.invokespecial 53, 3) := by decide +kernel
theorem dX11_init_100 : decode cX11_init 100 = .ok (.putfield 56, 3) := by decide +kernel
theorem dX11_init_103 : decode cX11_init 103 = .ok (.aload_n 0, 1) := by decide +kernel
theorem dX11_init_104 : decode cX11_init 104 = .ok (.new 60, 3) := by decide +kernel
theorem dX11_init_107 : decode cX11_init 107 = .ok (.dup, 1) := by decide +kernel
theorem dX11_init_108 : decode cX11_init 108 = .ok (.aload_n 0, 1) := by decide +kernel
theorem dX11_init_109 : decode cX11_init 109 = .ok (.getfield 18, 3) := by decide +kernel
theorem dX11_init_112 : decode cX11_init 112 = .ok (.aload_n 0, 1) := by decide +kernel
theorem dX11_init_113 : decode cX11_init 113 = .ok (.getfield 47, 3) := by decide +kernel
theorem dX11_init_116 : decode cX11_init 116 = .ok (.aload_n 0, 1) := by decide +kernel
theorem dX11_init_117 : decode cX11_init 117 = .ok (.getfield 40, 3) := by decide +kernel
theorem dX11_init_120 : decode cX11_init 120 = .ok (.aload_n 0, 1) := by decide +kernel
theorem dX11_init_121 : decode cX11_init 121 = .ok (.getfield 56, 3) := by decide +kernel
theorem dX11_init_124 : decode cX11_init 124 = .ok (.invokespecial 62, 3) := by decide +kernel
theorem dX11_init_127 : decode cX11_init 127 = .ok (.putfield 65, 3) := by decide +kernel
theorem dX11_init_130 : decode cX11_init 130 = .ok (.aload_n 0, 1) := by decide +kernel
theorem dX11_init_131 : decode cX11_init 131 = .ok (.new 69, 3) := by decide +kernel
theorem dX11_init_134 : decode cX11_init 134 = .ok (.dup, 1) := by decide +kernel
theorem dX11_init_135 : decode cX11_init 135 = .ok (.invokespecial 71, 3) := by decide +kernel
theorem dX11_init_138 : decode cX11_init 138 = .ok (.putfield 72, 3) := by decide +kernel
theorem dX11_init_141 : decode cX11_init 141 = .ok (.return_, 1) := by decide +kernel
theorem dX11_feed_0 : decode cX11_feed 0 = .ok (.aload_n 0, 1) := by decide +kernel
theorem dX11_feed_1 : decode cX11_feed 1 = .ok (.getfield 14, 3) := by decide +kernel
theorem dX11_feed_4 : decode cX11_feed 4 = .ok (.getfield 76, 3) := by decide +kernel
theorem dX11_feed_7 : decode cX11_feed 7 = .ok (.bipush 20, 2) := by decide +kernel
theorem dX11_feed_9 : decode cX11_feed 9 = .ok (.iadd, 1) := by decide +kernel
theorem dX11_feed_10 : decode cX11_feed 10 = .ok (.sipush 1040, 3) := by decide +kernel
theorem dX11_feed_13 : decode cX11_feed 13 = .ok (.if_icmp .le 5, 3) := by decide +kernel
theorem dX11_feed_16 : decode cX11_feed 16 = .ok (.iconst (-1), 1) := by decide +kernel
theorem dX11_feed_17 : decode cX11_feed 17 = .ok (.ireturn, 1) := by decide +kernel
theorem dX11_feed_18 : decode cX11_feed 18 = .ok (.aload_n 0, 1) := by decide +kernel
theorem dX11_feed_19 : decode cX11_feed 19 = .ok (.iload_n 1, 1) := by decide +kernel
theorem dX11_feed_20 : decode cX11_feed 20 = .ok (.invokevirtual 80, 3) := by decide +kernel
theorem dX11_feed_23 : decode cX11_feed 23 = .ok (.aload_n 0, 1) := by decide +kernel
theorem dX11_feed_24 : decode cX11_feed 24 = .ok (.iload_n 2, 1) := by decide +kernel
theorem dX11_feed_25 : decode cX11_feed 25 = .ok (.invokevirtual 80, 3) := by decide +kernel
theorem dX11_feed_28 : decode cX11_feed 28 = .ok (.aload_n 0, 1) := by decide +kernel
theorem dX11_feed_29 : decode cX11_feed 29 = .ok (.iload_n 3, 1) := by decide +kernel
theorem dX11_feed_30 : decode cX11_feed 30 = .ok (.invokevirtual 80, 3) := by decide +kernel
theorem dX11_feed_33 : decode cX11_feed 33 = .ok (.aload_n 0, 1) := by decide +kernel
theorem dX11_feed_34 : decode cX11_feed 34 = .ok (.iload 4, 2) := by decide +kernel
theorem dX11_feed_36 : decode cX11_feed 36 = .ok (.invokevirtual 80, 3) := by decide +kernel
theorem dX11_feed_39 : decode cX11_feed 39 = .ok (.aload_n 0, 1) := by decide +kernel
theorem dX11_feed_40 : decode cX11_feed 40 = .ok (.iload 5, 2) := by decide +kernel
theorem dX11_feed_42 : decode cX11_feed 42 = .ok (.invokevirtual 80, 3) := by decide +kernel
theorem dX11_feed_45 : decode cX11_feed 45 = .ok (.aload_n 0, 1) := by decide +kernel
theorem dX11_feed_46 : decode cX11_feed 46 = .ok (.getfield 14, 3) := by decide +kernel
theorem dX11_feed_49 : decode cX11_feed 49 = .ok (.getfield 76, 3) := by decide +kernel
theorem dX11_feed_52 : decode cX11_feed 52 = .ok (.ireturn, 1) := by decide +kernel
theorem dX11_feedNumber_0 : decode cX11_feedNumber 0 = .ok (.bipush 24, 2) := by decide +kernel
theorem dX11_feedNumber_2 : decode cX11_feedNumber 2 = .ok (.istore_n 2, 1) := by decide +kernel
theorem dX11_feedNumber_3 : decode cX11_feedNumber 3 = .ok (.iload_n 2, 1) := by decide +kernel
theorem dX11_feedNumber_4 : decode cX11_feedNumber 4 = .ok (.ifCond .lt 21, 3) := by decide +kernel
theorem dX11_feedNumber_7 : decode cX11_feedNumber 7 = .ok (.aload_n 0, 1) := by decide +kernel
theorem dX11_feedNumber_8 : decode cX11_feedNumber 8 = .ok (.getfield 14, 3) := by decide +kernel
theorem dX11_feedNumber_11 : decode cX11_feedNumber 11 = .ok (.iconst 1, 1) := by decide +kernel
theorem dX11_feedNumber_12 : decode cX11_feedNumber 12 = .ok (.iload_n 1, 1) := by decide +kernel
theorem dX11_feedNumber_13 : decode cX11_feedNumber 13 = .ok (.iload_n 2, 1) := by decide +kernel
theorem dX11_feedNumber_14 : decode cX11_feedNumber 14 = .ok (.iushr, 1) := by decide +kernel
theorem dX11_feedNumber_15 : decode cX11_feedNumber 15 = .ok (.i2l, 1) := by decide +kernel
theorem dX11_feedNumber_16 : decode cX11_feedNumber 16 = .ok (.invokevirtual 83, 3) := by decide +kernel
theorem dX11_feedNumber_19 : decode cX11_feedNumber 19 = .ok (.iinc 2 (-8), 3) := by decide +kernel
theorem dX11_feedNumber_22 : decode cX11_feedNumber 22 = .ok (.goto (-19), 3) := by decide +kernel
theorem dX11_feedNumber_25 : decode cX11_feedNumber 25 = .ok (.return_, 1) := by decide +kernel
theorem dX11_end_0 : decode cX11_end 0 = .ok (.aload_n 0, 1) := by decide +kernel
theorem dX11_end_1 : decode cX11_end 1 = .ok (.getfield 14, 3) := by decide +kernel
theorem dX11_end_4 : decode cX11_end 4 = .ok (.iload_n 1, 1) := by decide +kernel
theorem dX11_end_5 : decode cX11_end 5 = .ok (.invokevirtual 87, 3) := by decide +kernel
theorem dX11_end_8 : decode cX11_end 8 = .ok (.ireturn, 1) := by decide +kernel
theorem dX11_anew_0 : decode cX11_anew 0 = .ok (.iload_n 1, 1) := by decide +kernel
theorem dX11_anew_1 : decode cX11_anew 1 = .ok (.ifCond .lt 24, 3) := by decide +kernel
theorem dX11_anew_4 : decode cX11_anew 4 = .ok (.iload_n 1, 1) := by decide +kernel
theorem dX11_anew_5 : decode cX11_anew 5 = .ok (.ldc 91, 2) := by decide +kernel
theorem dX11_anew_7 : decode cX11_anew 7 = .ok (.if_icmp .gt 18, 3) := by decide +kernel
theorem dX11_anew_10 : decode cX11_anew 10 = .ok (.iload_n 1, 1) := by decide +kernel
theorem dX11_anew_11 : decode cX11_anew 11 = .ok (.sipush 4096, 3) := by decide +kernel
theorem dX11_anew_14 : decode cX11_anew 14 = .ok (.irem, 1) := by decide +kernel
theorem dX11_anew_15 : decode cX11_anew 15 = .ok (.ifCond .ne 10, 3) := by decide +kernel
theorem dX11_anew_18 : decode cX11_anew 18 = .ok (.iload_n 2, 1) := by decide +kernel
theorem dX11_anew_19 : decode cX11_anew 19 = .ok (.invokestatic 92, 3) := by decide +kernel
theorem dX11_anew_22 : decode cX11_anew 22 = .ok (.ifCond .ne 5, 3) := by decide +kernel
theorem dX11_anew_25 : decode cX11_anew 25 = .ok (.iconst 0, 1) := by decide +kernel
theorem dX11_anew_26 : decode cX11_anew 26 = .ok (.ireturn, 1) := by decide +kernel
theorem dX11_anew_27 : decode cX11_anew 27 = .ok (.aload_n 0, 1) := by decide +kernel
theorem dX11_anew_28 : decode cX11_anew 28 = .ok (.getfield 24, 3) := by decide +kernel
theorem dX11_anew_31 : decode cX11_anew 31 = .ok (.iload_n 1, 1) := by decide +kernel
theorem dX11_anew_32 : decode cX11_anew 32 = .ok (.iload_n 2, 1) := by decide +kernel
theorem dX11_anew_33 : decode cX11_anew 33 = .ok (.invokevirtual 95, 3) := by decide +kernel
theorem dX11_anew_36 : decode cX11_anew 36 = .ok (.iconst 1, 1) := by decide +kernel
theorem dX11_anew_37 : decode cX11_anew 37 = .ok (.ireturn, 1) := by decide +kernel
theorem dX11_segment_0 : decode cX11_segment 0 = .ok (.aload_n 0, 1) := by decide +kernel
theorem dX11_segment_1 : decode cX11_segment 1 = .ok (.getfield 24, 3) := by decide +kernel
theorem dX11_segment_4 : decode cX11_segment 4 = .ok (.aload_n 0, 1) := by decide +kernel
theorem dX11_segment_5 : decode cX11_segment 5 = .ok (.getfield 14, 3) := by decide +kernel
theorem dX11_segment_8 : decode cX11_segment 8 = .ok (.iload_n 1, 1) := by decide +kernel
theorem dX11_segment_9 : decode cX11_segment 9 = .ok (.iload_n 2, 1) := by decide +kernel
theorem dX11_segment_10 : decode cX11_segment 10 = .ok (.invokevirtual 99, 3) := by decide +kernel
theorem dX11_segment_13 : decode cX11_segment 13 = .ok (.istore_n 3, 1) := by decide +kernel
theorem dX11_segment_14 : decode cX11_segment 14 = .ok (.aload_n 0, 1) := by decide +kernel
theorem dX11_segment_15 : decode cX11_segment 15 = .ok (.getfield 14, 3) := by decide +kernel
theorem dX11_segment_18 : decode cX11_segment 18 = .ok (.invokevirtual 103, 3) := by decide +kernel
theorem dX11_segment_21 : decode cX11_segment 21 = .ok (.iload_n 3, 1) := by decide +kernel
theorem dX11_segment_22 : decode cX11_segment 22 = .ok (.ireturn, 1) := by decide +kernel
theorem dX11_fill_0 : decode cX11_fill 0 = .ok (.aload_n 0, 1) := by decide +kernel
theorem dX11_fill_1 : decode cX11_fill 1 = .ok (.getfield 24, 3) := by decide +kernel
theorem dX11_fill_4 : decode cX11_fill 4 = .ok (.aload_n 0, 1) := by decide +kernel
theorem dX11_fill_5 : decode cX11_fill 5 = .ok (.getfield 14, 3) := by decide +kernel
theorem dX11_fill_8 : decode cX11_fill 8 = .ok (.iload_n 1, 1) := by decide +kernel
theorem dX11_fill_9 : decode cX11_fill 9 = .ok (.iload_n 2, 1) := by decide +kernel
theorem dX11_fill_10 : decode cX11_fill 10 = .ok (.invokevirtual 106, 3) := by decide +kernel
theorem dX11_fill_13 : decode cX11_fill 13 = .ok (.istore_n 3, 1) := by decide +kernel
theorem dX11_fill_14 : decode cX11_fill 14 = .ok (.aload_n 0, 1) := by decide +kernel
theorem dX11_fill_15 : decode cX11_fill 15 = .ok (.getfield 14, 3) := by decide +kernel
theorem dX11_fill_18 : decode cX11_fill 18 = .ok (.invokevirtual 103, 3) := by decide +kernel
theorem dX11_fill_21 : decode cX11_fill 21 = .ok (.iload_n 3, 1) := by decide +kernel
theorem dX11_fill_22 : decode cX11_fill 22 = .ok (.ireturn, 1) := by decide +kernel
theorem dX11_section_0 : decode cX11_section 0 = .ok (.aload_n 0, 1) := by decide +kernel
theorem dX11_section_1 : decode cX11_section 1 = .ok (.getfield 24, 3) := by decide +kernel
theorem dX11_section_4 : decode cX11_section 4 = .ok (.aload_n 0, 1) := by decide +kernel
theorem dX11_section_5 : decode cX11_section 5 = .ok (.getfield 14, 3) := by decide +kernel
theorem dX11_section_8 : decode cX11_section 8 = .ok (.iload_n 1, 1) := by decide +kernel
theorem dX11_section_9 : decode cX11_section 9 = .ok (.iload_n 2, 1) := by decide +kernel
theorem dX11_section_10 : decode cX11_section 10 = .ok (.iload_n 3, 1) := by decide +kernel
theorem dX11_section_11 : decode cX11_section 11 = .ok (.invokevirtual 110, 3) := by decide +kernel
theorem dX11_section_14 : decode cX11_section 14 = .ok (.istore 4, 2) := by decide +kernel
theorem dX11_section_16 : decode cX11_section 16 = .ok (.aload_n 0, 1) := by decide +kernel
theorem dX11_section_17 : decode cX11_section 17 = .ok (.getfield 14, 3) := by decide +kernel
theorem dX11_section_20 : decode cX11_section 20 = .ok (.invokevirtual 103, 3) := by decide +kernel
theorem dX11_section_23 : decode cX11_section 23 = .ok (.iload 4, 2) := by decide +kernel
theorem dX11_section_25 : decode cX11_section 25 = .ok (.ireturn, 1) := by decide +kernel
theorem dX11_symbol_0 : decode cX11_symbol 0 = .ok (.aload_n 0, 1) := by decide +kernel
theorem dX11_symbol_1 : decode cX11_symbol 1 = .ok (.getfield 24, 3) := by decide +kernel
theorem dX11_symbol_4 : decode cX11_symbol 4 = .ok (.aload_n 0, 1) := by decide +kernel
theorem dX11_symbol_5 : decode cX11_symbol 5 = .ok (.getfield 14, 3) := by decide +kernel
theorem dX11_symbol_8 : decode cX11_symbol 8 = .ok (.iload_n 1, 1) := by decide +kernel
theorem dX11_symbol_9 : decode cX11_symbol 9 = .ok (.iload_n 2, 1) := by decide +kernel
theorem dX11_symbol_10 : decode cX11_symbol 10 = .ok (.invokevirtual 114, 3) := by decide +kernel
theorem dX11_symbol_13 : decode cX11_symbol 13 = .ok (.istore_n 3, 1) := by decide +kernel
theorem dX11_symbol_14 : decode cX11_symbol 14 = .ok (.aload_n 0, 1) := by decide +kernel
theorem dX11_symbol_15 : decode cX11_symbol 15 = .ok (.getfield 14, 3) := by decide +kernel
theorem dX11_symbol_18 : decode cX11_symbol 18 = .ok (.invokevirtual 103, 3) := by decide +kernel
theorem dX11_symbol_21 : decode cX11_symbol 21 = .ok (.iload_n 3, 1) := by decide +kernel
theorem dX11_symbol_22 : decode cX11_symbol 22 = .ok (.ireturn, 1) := by decide +kernel
theorem dX11_imports_0 : decode cX11_imports 0 = .ok (.aload_n 0, 1) := by decide +kernel
theorem dX11_imports_1 : decode cX11_imports 1 = .ok (.getfield 24, 3) := by decide +kernel
theorem dX11_imports_4 : decode cX11_imports 4 = .ok (.aload_n 0, 1) := by decide +kernel
theorem dX11_imports_5 : decode cX11_imports 5 = .ok (.getfield 14, 3) := by decide +kernel
theorem dX11_imports_8 : decode cX11_imports 8 = .ok (.iload_n 1, 1) := by decide +kernel
theorem dX11_imports_9 : decode cX11_imports 9 = .ok (.iload_n 2, 1) := by decide +kernel
theorem dX11_imports_10 : decode cX11_imports 10 = .ok (.invokevirtual 117, 3) := by decide +kernel
theorem dX11_imports_13 : decode cX11_imports 13 = .ok (.istore_n 3, 1) := by decide +kernel
theorem dX11_imports_14 : decode cX11_imports 14 = .ok (.aload_n 0, 1) := by decide +kernel
theorem dX11_imports_15 : decode cX11_imports 15 = .ok (.getfield 14, 3) := by decide +kernel
theorem dX11_imports_18 : decode cX11_imports 18 = .ok (.invokevirtual 103, 3) := by decide +kernel
theorem dX11_imports_21 : decode cX11_imports 21 = .ok (.iload_n 3, 1) := by decide +kernel
theorem dX11_imports_22 : decode cX11_imports 22 = .ok (.ireturn, 1) := by decide +kernel
theorem dX11_rebase_0 : decode cX11_rebase 0 = .ok (.lload_n 3, 1) := by decide +kernel
theorem dX11_rebase_1 : decode cX11_rebase 1 = .ok (.lconst 0, 1) := by decide +kernel
theorem dX11_rebase_2 : decode cX11_rebase 2 = .ok (.lcmp, 1) := by decide +kernel
theorem dX11_rebase_3 : decode cX11_rebase 3 = .ok (.ifCond .lt 19, 3) := by decide +kernel
theorem dX11_rebase_6 : decode cX11_rebase 6 = .ok (.lload_n 3, 1) := by decide +kernel
theorem dX11_rebase_7 : decode cX11_rebase 7 = .ok (.ldc2_w 121, 3) := by decide +kernel
theorem dX11_rebase_10 : decode cX11_rebase 10 = .ok (.lcmp, 1) := by decide +kernel
theorem dX11_rebase_11 : decode cX11_rebase 11 = .ok (.ifCond .gt 11, 3) := by decide +kernel
theorem dX11_rebase_14 : decode cX11_rebase 14 = .ok (.iload 5, 2) := by decide +kernel
theorem dX11_rebase_16 : decode cX11_rebase 16 = .ok (.invokestatic 123, 3) := by decide +kernel
theorem dX11_rebase_19 : decode cX11_rebase 19 = .ok (.ifCond .ne 5, 3) := by decide +kernel
theorem dX11_rebase_22 : decode cX11_rebase 22 = .ok (.iconst 0, 1) := by decide +kernel
theorem dX11_rebase_23 : decode cX11_rebase 23 = .ok (.ireturn, 1) := by decide +kernel
theorem dX11_rebase_24 : decode cX11_rebase 24 = .ok (.aload_n 0, 1) := by decide +kernel
theorem dX11_rebase_25 : decode cX11_rebase 25 = .ok (.getfield 24, 3) := by decide +kernel
theorem dX11_rebase_28 : decode cX11_rebase 28 = .ok (.iload_n 1, 1) := by decide +kernel
theorem dX11_rebase_29 : decode cX11_rebase 29 = .ok (.iload_n 2, 1) := by decide +kernel
theorem dX11_rebase_30 : decode cX11_rebase 30 = .ok (.lload_n 3, 1) := by decide +kernel
theorem dX11_rebase_31 : decode cX11_rebase 31 = .ok (.iload 5, 2) := by decide +kernel
theorem dX11_rebase_33 : decode cX11_rebase 33 = .ok (.i2l, 1) := by decide +kernel
theorem dX11_rebase_34 : decode cX11_rebase 34 = .ok (.bipush 36, 2) := by decide +kernel
theorem dX11_rebase_36 : decode cX11_rebase 36 = .ok (.lshl, 1) := by decide +kernel
theorem dX11_rebase_37 : decode cX11_rebase 37 = .ok (.lor, 1) := by decide +kernel
theorem dX11_rebase_38 : decode cX11_rebase 38 = .ok (.invokevirtual 126, 3) := by decide +kernel
theorem dX11_rebase_41 : decode cX11_rebase 41 = .ok (.ireturn, 1) := by decide +kernel
theorem dX11_bind_0 : decode cX11_bind 0 = .ok (.aload_n 0, 1) := by decide +kernel
theorem dX11_bind_1 : decode cX11_bind 1 = .ok (.getfield 24, 3) := by decide +kernel
theorem dX11_bind_4 : decode cX11_bind 4 = .ok (.getfield 130, 3) := by decide +kernel
theorem dX11_bind_7 : decode cX11_bind 7 = .ok (.iload_n 3, 1) := by decide +kernel
theorem dX11_bind_8 : decode cX11_bind 8 = .ok (.invokevirtual 134, 3) := by decide +kernel
theorem dX11_bind_11 : decode cX11_bind 11 = .ok (.ifCond .eq 11, 3) := by decide +kernel
theorem dX11_bind_14 : decode cX11_bind 14 = .ok (.iload 4, 2) := by decide +kernel
theorem dX11_bind_16 : decode cX11_bind 16 = .ok (.invokestatic 123, 3) := by decide +kernel
theorem dX11_bind_19 : decode cX11_bind 19 = .ok (.ifCond .ne 5, 3) := by decide +kernel
theorem dX11_bind_22 : decode cX11_bind 22 = .ok (.iconst 0, 1) := by decide +kernel
theorem dX11_bind_23 : decode cX11_bind 23 = .ok (.ireturn, 1) := by decide +kernel
theorem dX11_bind_24 : decode cX11_bind 24 = .ok (.aload_n 0, 1) := by decide +kernel
theorem dX11_bind_25 : decode cX11_bind 25 = .ok (.getfield 24, 3) := by decide +kernel
theorem dX11_bind_28 : decode cX11_bind 28 = .ok (.iload_n 1, 1) := by decide +kernel
theorem dX11_bind_29 : decode cX11_bind 29 = .ok (.iload_n 2, 1) := by decide +kernel
theorem dX11_bind_30 : decode cX11_bind 30 = .ok (.ldc2_w 139, 3) := by decide +kernel
theorem dX11_bind_33 : decode cX11_bind 33 = .ok (.iload 4, 2) := by decide +kernel
theorem dX11_bind_35 : decode cX11_bind 35 = .ok (.i2l, 1) := by decide +kernel
theorem dX11_bind_36 : decode cX11_bind 36 = .ok (.bipush 24, 2) := by decide +kernel
theorem dX11_bind_38 : decode cX11_bind 38 = .ok (.lshl, 1) := by decide +kernel
theorem dX11_bind_39 : decode cX11_bind 39 = .ok (.lor, 1) := by decide +kernel
theorem dX11_bind_40 : decode cX11_bind 40 = .ok (.iload_n 3, 1) := by decide +kernel
theorem dX11_bind_41 : decode cX11_bind 41 = .ok (.i2l, 1) := by decide +kernel
theorem dX11_bind_42 : decode cX11_bind 42 = .ok (.lor, 1) := by decide +kernel
theorem dX11_bind_43 : decode cX11_bind 43 = .ok (.invokevirtual 126, 3) := by decide +kernel
theorem dX11_bind_46 : decode cX11_bind 46 = .ok (.ireturn, 1) := by decide +kernel
theorem dX11_drop_0 : decode cX11_drop 0 = .ok (.aload_n 0, 1) := by decide +kernel
theorem dX11_drop_1 : decode cX11_drop 1 = .ok (.getfield 24, 3) := by decide +kernel
theorem dX11_drop_4 : decode cX11_drop 4 = .ok (.iload_n 1, 1) := by decide +kernel
theorem dX11_drop_5 : decode cX11_drop 5 = .ok (.iload_n 2, 1) := by decide +kernel
theorem dX11_drop_6 : decode cX11_drop 6 = .ok (.invokevirtual 141, 3) := by decide +kernel
theorem dX11_drop_9 : decode cX11_drop 9 = .ok (.ireturn, 1) := by decide +kernel
theorem dX11_write_0 : decode cX11_write 0 = .ok (.aload_n 0, 1) := by decide +kernel
theorem dX11_write_1 : decode cX11_write 1 = .ok (.getfield 33, 3) := by decide +kernel
theorem dX11_write_4 : decode cX11_write 4 = .ok (.invokevirtual 145, 3) := by decide +kernel
theorem dX11_write_7 : decode cX11_write 7 = .ok (.aload_n 0, 1) := by decide +kernel
theorem dX11_write_8 : decode cX11_write 8 = .ok (.getfield 18, 3) := by decide +kernel
theorem dX11_write_11 : decode cX11_write 11 = .ok (.getfield 76, 3) := by decide +kernel
theorem dX11_write_14 : decode cX11_write 14 = .ok (.ireturn, 1) := by decide +kernel
theorem dX11_image_0 : decode cX11_image 0 = .ok (.aload_n 0, 1) := by decide +kernel
theorem dX11_image_1 : decode cX11_image 1 = .ok (.getfield 18, 3) := by decide +kernel
theorem dX11_image_4 : decode cX11_image 4 = .ok (.iload_n 1, 1) := by decide +kernel
theorem dX11_image_5 : decode cX11_image 5 = .ok (.invokevirtual 148, 3) := by decide +kernel
theorem dX11_image_8 : decode cX11_image 8 = .ok (.ifCond .eq 14, 3) := by decide +kernel
theorem dX11_image_11 : decode cX11_image 11 = .ok (.aload_n 0, 1) := by decide +kernel
theorem dX11_image_12 : decode cX11_image 12 = .ok (.getfield 18, 3) := by decide +kernel
theorem dX11_image_15 : decode cX11_image 15 = .ok (.iload_n 1, 1) := by decide +kernel
theorem dX11_image_16 : decode cX11_image 16 = .ok (.invokevirtual 149, 3) := by decide +kernel
theorem dX11_image_19 : decode cX11_image 19 = .ok (.goto 4, 3) := by decide +kernel
theorem dX11_image_22 : decode cX11_image 22 = .ok (.iconst (-1), 1) := by decide +kernel
theorem dX11_image_23 : decode cX11_image 23 = .ok (.ireturn, 1) := by decide +kernel
theorem dX11_damage_0 : decode cX11_damage 0 = .ok (.aload_n 0, 1) := by decide +kernel
theorem dX11_damage_1 : decode cX11_damage 1 = .ok (.getfield 18, 3) := by decide +kernel
theorem dX11_damage_4 : decode cX11_damage 4 = .ok (.iload_n 1, 1) := by decide +kernel
theorem dX11_damage_5 : decode cX11_damage 5 = .ok (.invokevirtual 148, 3) := by decide +kernel
theorem dX11_damage_8 : decode cX11_damage 8 = .ok (.ifCond .eq 10, 3) := by decide +kernel
theorem dX11_damage_11 : decode cX11_damage 11 = .ok (.iload_n 2, 1) := by decide +kernel
theorem dX11_damage_12 : decode cX11_damage 12 = .ok (.invokestatic 123, 3) := by decide +kernel
theorem dX11_damage_15 : decode cX11_damage 15 = .ok (.ifCond .ne 5, 3) := by decide +kernel
theorem dX11_damage_18 : decode cX11_damage 18 = .ok (.iconst 0, 1) := by decide +kernel
theorem dX11_damage_19 : decode cX11_damage 19 = .ok (.ireturn, 1) := by decide +kernel
theorem dX11_damage_20 : decode cX11_damage 20 = .ok (.aload_n 0, 1) := by decide +kernel
theorem dX11_damage_21 : decode cX11_damage 21 = .ok (.getfield 18, 3) := by decide +kernel
theorem dX11_damage_24 : decode cX11_damage 24 = .ok (.iload_n 1, 1) := by decide +kernel
theorem dX11_damage_25 : decode cX11_damage 25 = .ok (.iconst 1, 1) := by decide +kernel
theorem dX11_damage_26 : decode cX11_damage 26 = .ok (.iload_n 2, 1) := by decide +kernel
theorem dX11_damage_27 : decode cX11_damage 27 = .ok (.i2l, 1) := by decide +kernel
theorem dX11_damage_28 : decode cX11_damage 28 = .ok (.invokevirtual 153, 3) := by decide +kernel
theorem dX11_damage_31 : decode cX11_damage 31 = .ok (.iconst 1, 1) := by decide +kernel
theorem dX11_damage_32 : decode cX11_damage 32 = .ok (.ireturn, 1) := by decide +kernel
theorem dX11_cut_0 : decode cX11_cut 0 = .ok (.aload_n 0, 1) := by decide +kernel
theorem dX11_cut_1 : decode cX11_cut 1 = .ok (.getfield 18, 3) := by decide +kernel
theorem dX11_cut_4 : decode cX11_cut 4 = .ok (.iload_n 1, 1) := by decide +kernel
theorem dX11_cut_5 : decode cX11_cut 5 = .ok (.invokevirtual 87, 3) := by decide +kernel
theorem dX11_cut_8 : decode cX11_cut 8 = .ok (.ireturn, 1) := by decide +kernel
theorem dX11_export_0 : decode cX11_export 0 = .ok (.aload_n 0, 1) := by decide +kernel
theorem dX11_export_1 : decode cX11_export 1 = .ok (.getfield 40, 3) := by decide +kernel
theorem dX11_export_4 : decode cX11_export 4 = .ok (.aload_n 0, 1) := by decide +kernel
theorem dX11_export_5 : decode cX11_export 5 = .ok (.getfield 14, 3) := by decide +kernel
theorem dX11_export_8 : decode cX11_export 8 = .ok (.iload_n 1, 1) := by decide +kernel
theorem dX11_export_9 : decode cX11_export 9 = .ok (.iload_n 2, 1) := by decide +kernel
theorem dX11_export_10 : decode cX11_export 10 = .ok (.invokevirtual 157, 3) := by decide +kernel
theorem dX11_export_13 : decode cX11_export 13 = .ok (.istore_n 3, 1) := by decide +kernel
theorem dX11_export_14 : decode cX11_export 14 = .ok (.aload_n 0, 1) := by decide +kernel
theorem dX11_export_15 : decode cX11_export 15 = .ok (.getfield 14, 3) := by decide +kernel
theorem dX11_export_18 : decode cX11_export 18 = .ok (.invokevirtual 103, 3) := by decide +kernel
theorem dX11_export_21 : decode cX11_export 21 = .ok (.iload_n 3, 1) := by decide +kernel
theorem dX11_export_22 : decode cX11_export 22 = .ok (.ireturn, 1) := by decide +kernel
theorem dX11_load_0 : decode cX11_load 0 = .ok (.aload_n 0, 1) := by decide +kernel
theorem dX11_load_1 : decode cX11_load 1 = .ok (.getfield 47, 3) := by decide +kernel
theorem dX11_load_4 : decode cX11_load 4 = .ok (.invokevirtual 159, 3) := by decide +kernel
theorem dX11_load_7 : decode cX11_load 7 = .ok (.aload_n 0, 1) := by decide +kernel
theorem dX11_load_8 : decode cX11_load 8 = .ok (.getfield 56, 3) := by decide +kernel
theorem dX11_load_11 : decode cX11_load 11 = .ok (.invokevirtual 160, 3) := by decide +kernel
theorem dX11_load_14 : decode cX11_load 14 = .ok (.ifCond .eq 65, 3) := by decide +kernel
theorem dX11_load_17 : decode cX11_load 17 = .ok (.aload_n 0, 1) := by decide +kernel
theorem dX11_load_18 : decode cX11_load 18 = .ok (.getfield 65, 3) := by decide +kernel
theorem dX11_load_21 : decode cX11_load 21 = .ok (.invokevirtual 164, 3) := by decide +kernel
theorem dX11_load_24 : decode cX11_load 24 = .ok (.ifCond .eq 55, 3) := by decide +kernel
theorem dX11_load_27 : decode cX11_load 27 = .ok (.aload_n 0, 1) := by decide +kernel
theorem dX11_load_28 : decode cX11_load 28 = .ok (.getfield 47, 3) := by decide +kernel
theorem dX11_load_31 : decode cX11_load 31 = .ok (.aload_n 0, 1) := by decide +kernel
theorem dX11_load_32 : decode cX11_load 32 = .ok (.getfield 56, 3) := by decide +kernel
theorem dX11_load_35 : decode cX11_load 35 = .ok (.getfield 165, 3) := by decide +kernel
theorem dX11_load_38 : decode cX11_load 38 = .ok (.iload_n 1, 1) := by decide +kernel
theorem dX11_load_39 : decode cX11_load 39 = .ok (.invokevirtual 169, 3) := by decide +kernel
theorem dX11_load_42 : decode cX11_load 42 = .ok (.bipush 13, 2) := by decide +kernel
theorem dX11_load_44 : decode cX11_load 44 = .ok (.iconst 0, 1) := by decide +kernel
theorem dX11_load_45 : decode cX11_load 45 = .ok (.invokevirtual 174, 3) := by decide +kernel
theorem dX11_load_48 : decode cX11_load 48 = .ok (.ifCond .eq 31, 3) := by decide +kernel
theorem dX11_load_51 : decode cX11_load 51 = .ok (.aload_n 0, 1) := by decide +kernel
theorem dX11_load_52 : decode cX11_load 52 = .ok (.getfield 72, 3) := by decide +kernel
theorem dX11_load_55 : decode cX11_load 55 = .ok (.aload_n 0, 1) := by decide +kernel
theorem dX11_load_56 : decode cX11_load 56 = .ok (.getfield 18, 3) := by decide +kernel
theorem dX11_load_59 : decode cX11_load 59 = .ok (.aload_n 0, 1) := by decide +kernel
theorem dX11_load_60 : decode cX11_load 60 = .ok (.getfield 56, 3) := by decide +kernel
theorem dX11_load_63 : decode cX11_load 63 = .ok (.iload_n 1, 1) := by decide +kernel
theorem dX11_load_64 : decode cX11_load 64 = .ok (.invokevirtual 178, 3) := by decide +kernel
theorem dX11_load_67 : decode cX11_load 67 = .ok (.aload_n 0, 1) := by decide +kernel
theorem dX11_load_68 : decode cX11_load 68 = .ok (.getfield 72, 3) := by decide +kernel
theorem dX11_load_71 : decode cX11_load 71 = .ok (.aload_n 0, 1) := by decide +kernel
theorem dX11_load_72 : decode cX11_load 72 = .ok (.getfield 65, 3) := by decide +kernel
theorem dX11_load_75 : decode cX11_load 75 = .ok (.iload_n 1, 1) := by decide +kernel
theorem dX11_load_76 : decode cX11_load 76 = .ok (.invokevirtual 182, 3) := by decide +kernel
theorem dX11_load_79 : decode cX11_load 79 = .ok (.aload_n 0, 1) := by decide +kernel
theorem dX11_load_80 : decode cX11_load 80 = .ok (.getfield 47, 3) := by decide +kernel
theorem dX11_load_83 : decode cX11_load 83 = .ok (.getfield 186, 3) := by decide +kernel
theorem dX11_load_86 : decode cX11_load 86 = .ok (.ireturn, 1) := by decide +kernel
theorem dX11_place_0 : decode cX11_place 0 = .ok (.aload_n 0, 1) := by decide +kernel
theorem dX11_place_1 : decode cX11_place 1 = .ok (.getfield 47, 3) := by decide +kernel
theorem dX11_place_4 : decode cX11_place 4 = .ok (.getfield 189, 3) := by decide +kernel
theorem dX11_place_7 : decode cX11_place 7 = .ok (.ireturn, 1) := by decide +kernel
theorem dX11_memory_0 : decode cX11_memory 0 = .ok (.aload_n 0, 1) := by decide +kernel
theorem dX11_memory_1 : decode cX11_memory 1 = .ok (.getfield 72, 3) := by decide +kernel
theorem dX11_memory_4 : decode cX11_memory 4 = .ok (.getfield 192, 3) := by decide +kernel
theorem dX11_memory_7 : decode cX11_memory 7 = .ok (.iload_n 1, 1) := by decide +kernel
theorem dX11_memory_8 : decode cX11_memory 8 = .ok (.iconst 1, 1) := by decide +kernel
theorem dX11_memory_9 : decode cX11_memory 9 = .ok (.invokevirtual 193, 3) := by decide +kernel
theorem dX11_memory_12 : decode cX11_memory 12 = .ok (.istore_n 2, 1) := by decide +kernel
theorem dX11_memory_13 : decode cX11_memory 13 = .ok (.iload_n 2, 1) := by decide +kernel
theorem dX11_memory_14 : decode cX11_memory 14 = .ok (.iconst (-1), 1) := by decide +kernel
theorem dX11_memory_15 : decode cX11_memory 15 = .ok (.if_icmp .ne 7, 3) := by decide +kernel
theorem dX11_memory_18 : decode cX11_memory 18 = .ok (.iconst (-1), 1) := by decide +kernel
theorem dX11_memory_19 : decode cX11_memory 19 = .ok (.goto 14, 3) := by decide +kernel
theorem dX11_memory_22 : decode cX11_memory 22 = .ok (.aload_n 0, 1) := by decide +kernel
theorem dX11_memory_23 : decode cX11_memory 23 = .ok (.getfield 72, 3) := by decide +kernel
theorem dX11_memory_26 : decode cX11_memory 26 = .ok (.getfield 197, 3) := by decide +kernel
theorem dX11_memory_29 : decode cX11_memory 29 = .ok (.iload_n 2, 1) := by decide +kernel
theorem dX11_memory_30 : decode cX11_memory 30 = .ok (.invokevirtual 149, 3) := by decide +kernel
theorem dX11_memory_33 : decode cX11_memory 33 = .ok (.ireturn, 1) := by decide +kernel
theorem dX11_pointer_0 : decode cX11_pointer 0 = .ok (.aload_n 0, 1) := by decide +kernel
theorem dX11_pointer_1 : decode cX11_pointer 1 = .ok (.getfield 72, 3) := by decide +kernel
theorem dX11_pointer_4 : decode cX11_pointer 4 = .ok (.getfield 192, 3) := by decide +kernel
theorem dX11_pointer_7 : decode cX11_pointer 7 = .ok (.iload_n 1, 1) := by decide +kernel
theorem dX11_pointer_8 : decode cX11_pointer 8 = .ok (.bipush 8, 2) := by decide +kernel
theorem dX11_pointer_10 : decode cX11_pointer 10 = .ok (.invokevirtual 193, 3) := by decide +kernel
theorem dX11_pointer_13 : decode cX11_pointer 13 = .ok (.istore_n 2, 1) := by decide +kernel
theorem dX11_pointer_14 : decode cX11_pointer 14 = .ok (.iload_n 2, 1) := by decide +kernel
theorem dX11_pointer_15 : decode cX11_pointer 15 = .ok (.iconst (-1), 1) := by decide +kernel
theorem dX11_pointer_16 : decode cX11_pointer 16 = .ok (.if_icmp .ne 11, 3) := by decide +kernel
theorem dX11_pointer_19 : decode cX11_pointer 19 = .ok (.new 200, 3) := by decide +kernel
theorem dX11_pointer_22 : decode cX11_pointer 22 = .ok (.dup, 1) := by decide +kernel
theorem dX11_pointer_23 : decode cX11_pointer 23 = .ok (.invokespecial 202, 3) := by decide +kernel
theorem dX11_pointer_26 : decode cX11_pointer 26 = .ok (.athrow, 1) := by decide +kernel
theorem dX11_pointer_27 : decode cX11_pointer 27 = .ok (.aload_n 0, 1) := by decide +kernel
theorem dX11_pointer_28 : decode cX11_pointer 28 = .ok (.getfield 72, 3) := by decide +kernel
theorem dX11_pointer_31 : decode cX11_pointer 31 = .ok (.getfield 197, 3) := by decide +kernel
theorem dX11_pointer_34 : decode cX11_pointer 34 = .ok (.iload_n 2, 1) := by decide +kernel
theorem dX11_pointer_35 : decode cX11_pointer 35 = .ok (.bipush 8, 2) := by decide +kernel
theorem dX11_pointer_37 : decode cX11_pointer 37 = .ok (.invokevirtual 203, 3) := by decide +kernel
theorem dX11_pointer_40 : decode cX11_pointer 40 = .ok (.lreturn, 1) := by decide +kernel
theorem dX11_visit_0 : decode cX11_visit 0 = .ok (.aload_n 0, 1) := by decide +kernel
theorem dX11_visit_1 : decode cX11_visit 1 = .ok (.getfield 72, 3) := by decide +kernel
theorem dX11_visit_4 : decode cX11_visit 4 = .ok (.getfield 207, 3) := by decide +kernel
theorem dX11_visit_7 : decode cX11_visit 7 = .ok (.astore_n 3, 1) := by decide +kernel
theorem dX11_visit_8 : decode cX11_visit 8 = .ok (.aload_n 3, 1) := by decide +kernel
theorem dX11_visit_9 : decode cX11_visit 9 = .ok (.iload_n 1, 1) := by decide +kernel
theorem dX11_visit_10 : decode cX11_visit 10 = .ok (.invokevirtual 211, 3) := by decide +kernel
theorem dX11_visit_13 : decode cX11_visit 13 = .ok (.ifCond .ne 11, 3) := by decide +kernel
theorem dX11_visit_16 : decode cX11_visit 16 = .ok (.new 200, 3) := by decide +kernel
theorem dX11_visit_19 : decode cX11_visit 19 = .ok (.dup, 1) := by decide +kernel
theorem dX11_visit_20 : decode cX11_visit 20 = .ok (.invokespecial 202, 3) := by decide +kernel
theorem dX11_visit_23 : decode cX11_visit 23 = .ok (.athrow, 1) := by decide +kernel
theorem dX11_visit_24 : decode cX11_visit 24 = .ok (.aload_n 3, 1) := by decide +kernel
theorem dX11_visit_25 : decode cX11_visit 25 = .ok (.getfield 214, 3) := by decide +kernel
theorem dX11_visit_28 : decode cX11_visit 28 = .ok (.iload_n 1, 1) := by decide +kernel
theorem dX11_visit_29 : decode cX11_visit 29 = .ok (.laload, 1) := by decide +kernel
theorem dX11_visit_30 : decode cX11_visit 30 = .ok (.lstore 4, 2) := by decide +kernel
theorem dX11_visit_32 : decode cX11_visit 32 = .ok (.iload_n 2, 1) := by decide +kernel
theorem dX11_visit_33 : decode cX11_visit 33 = .ok (.tableswitch 65 0 3 #[31, 39, 53, 59], 31) := by decide +kernel
theorem dX11_visit_64 : decode cX11_visit 64 = .ok (.aload_n 3, 1) := by decide +kernel
theorem dX11_visit_65 : decode cX11_visit 65 = .ok (.getfield 218, 3) := by decide +kernel
theorem dX11_visit_68 : decode cX11_visit 68 = .ok (.iload_n 1, 1) := by decide +kernel
theorem dX11_visit_69 : decode cX11_visit 69 = .ok (.iaload, 1) := by decide +kernel
theorem dX11_visit_70 : decode cX11_visit 70 = .ok (.i2l, 1) := by decide +kernel
theorem dX11_visit_71 : decode cX11_visit 71 = .ok (.lreturn, 1) := by decide +kernel
theorem dX11_visit_72 : decode cX11_visit 72 = .ok (.lload 4, 2) := by decide +kernel
theorem dX11_visit_74 : decode cX11_visit 74 = .ok (.invokestatic 222, 3) := by decide +kernel
theorem dX11_visit_77 : decode cX11_visit 77 = .ok (.ifCond .eq 7, 3) := by decide +kernel
theorem dX11_visit_80 : decode cX11_visit 80 = .ok (.lconst 1, 1) := by decide +kernel
theorem dX11_visit_81 : decode cX11_visit 81 = .ok (.goto 4, 3) := by decide +kernel
theorem dX11_visit_84 : decode cX11_visit 84 = .ok (.lconst 0, 1) := by decide +kernel
theorem dX11_visit_85 : decode cX11_visit 85 = .ok (.lreturn, 1) := by decide +kernel
theorem dX11_visit_86 : decode cX11_visit 86 = .ok (.lload 4, 2) := by decide +kernel
theorem dX11_visit_88 : decode cX11_visit 88 = .ok (.invokestatic 226, 3) := by decide +kernel
theorem dX11_visit_91 : decode cX11_visit 91 = .ok (.lreturn, 1) := by decide +kernel
theorem dX11_visit_92 : decode cX11_visit 92 = .ok (.lload 4, 2) := by decide +kernel
theorem dX11_visit_94 : decode cX11_visit 94 = .ok (.invokestatic 230, 3) := by decide +kernel
theorem dX11_visit_97 : decode cX11_visit 97 = .ok (.lreturn, 1) := by decide +kernel
theorem dX11_visit_98 : decode cX11_visit 98 = .ok (.new 200, 3) := by decide +kernel
theorem dX11_visit_101 : decode cX11_visit 101 = .ok (.dup, 1) := by decide +kernel
theorem dX11_visit_102 : decode cX11_visit 102 = .ok (.invokespecial 202, 3) := by decide +kernel
theorem dX11_visit_105 : decode cX11_visit 105 = .ok (.athrow, 1) := by decide +kernel
theorem dX11_find_0 : decode cX11_find 0 = .ok (.aload_n 0, 1) := by decide +kernel
theorem dX11_find_1 : decode cX11_find 1 = .ok (.getfield 72, 3) := by decide +kernel
theorem dX11_find_4 : decode cX11_find 4 = .ok (.aload_n 0, 1) := by decide +kernel
theorem dX11_find_5 : decode cX11_find 5 = .ok (.getfield 14, 3) := by decide +kernel
theorem dX11_find_8 : decode cX11_find 8 = .ok (.invokevirtual 233, 3) := by decide +kernel
theorem dX11_find_11 : decode cX11_find 11 = .ok (.istore_n 1, 1) := by decide +kernel
theorem dX11_find_12 : decode cX11_find 12 = .ok (.aload_n 0, 1) := by decide +kernel
theorem dX11_find_13 : decode cX11_find 13 = .ok (.getfield 14, 3) := by decide +kernel
theorem dX11_find_16 : decode cX11_find 16 = .ok (.invokevirtual 103, 3) := by decide +kernel
theorem dX11_find_19 : decode cX11_find 19 = .ok (.iload_n 1, 1) := by decide +kernel
theorem dX11_find_20 : decode cX11_find 20 = .ok (.ireturn, 1) := by decide +kernel
theorem dX11_count_0 : decode cX11_count 0 = .ok (.iload_n 1, 1) := by decide +kernel
theorem dX11_count_1 : decode cX11_count 1 = .ok (.tableswitch 168 0 10 #[59, 70, 81, 92, 103, 111, 119, 130, 141, 152, 160], 59) := by decide +kernel
theorem dX11_count_60 : decode cX11_count 60 = .ok (.aload_n 0, 1) := by decide +kernel
theorem dX11_count_61 : decode cX11_count 61 = .ok (.getfield 24, 3) := by decide +kernel
theorem dX11_count_64 : decode cX11_count 64 = .ok (.getfield 237, 3) := by decide +kernel
theorem dX11_count_67 : decode cX11_count 67 = .ok (.getfield 239, 3) := by decide +kernel
theorem dX11_count_70 : decode cX11_count 70 = .ok (.ireturn, 1) := by decide +kernel
theorem dX11_count_71 : decode cX11_count 71 = .ok (.aload_n 0, 1) := by decide +kernel
theorem dX11_count_72 : decode cX11_count 72 = .ok (.getfield 24, 3) := by decide +kernel
theorem dX11_count_75 : decode cX11_count 75 = .ok (.getfield 242, 3) := by decide +kernel
theorem dX11_count_78 : decode cX11_count 78 = .ok (.getfield 239, 3) := by decide +kernel
theorem dX11_count_81 : decode cX11_count 81 = .ok (.ireturn, 1) := by decide +kernel
theorem dX11_count_82 : decode cX11_count 82 = .ok (.aload_n 0, 1) := by decide +kernel
theorem dX11_count_83 : decode cX11_count 83 = .ok (.getfield 24, 3) := by decide +kernel
theorem dX11_count_86 : decode cX11_count 86 = .ok (.getfield 245, 3) := by decide +kernel
theorem dX11_count_89 : decode cX11_count 89 = .ok (.getfield 239, 3) := by decide +kernel
theorem dX11_count_92 : decode cX11_count 92 = .ok (.ireturn, 1) := by decide +kernel
theorem dX11_count_93 : decode cX11_count 93 = .ok (.aload_n 0, 1) := by decide +kernel
theorem dX11_count_94 : decode cX11_count 94 = .ok (.getfield 24, 3) := by decide +kernel
theorem dX11_count_97 : decode cX11_count 97 = .ok (.getfield 130, 3) := by decide +kernel
theorem dX11_count_100 : decode cX11_count 100 = .ok (.getfield 239, 3) := by decide +kernel
theorem dX11_count_103 : decode cX11_count 103 = .ok (.ireturn, 1) := by decide +kernel
theorem dX11_count_104 : decode cX11_count 104 = .ok (.aload_n 0, 1) := by decide +kernel
theorem dX11_count_105 : decode cX11_count 105 = .ok (.getfield 24, 3) := by decide +kernel
theorem dX11_count_108 : decode cX11_count 108 = .ok (.getfield 248, 3) := by decide +kernel
theorem dX11_count_111 : decode cX11_count 111 = .ok (.ireturn, 1) := by decide +kernel
theorem dX11_count_112 : decode cX11_count 112 = .ok (.aload_n 0, 1) := by decide +kernel
theorem dX11_count_113 : decode cX11_count 113 = .ok (.getfield 18, 3) := by decide +kernel
theorem dX11_count_116 : decode cX11_count 116 = .ok (.getfield 76, 3) := by decide +kernel
theorem dX11_count_119 : decode cX11_count 119 = .ok (.ireturn, 1) := by decide +kernel
theorem dX11_count_120 : decode cX11_count 120 = .ok (.aload_n 0, 1) := by decide +kernel
theorem dX11_count_121 : decode cX11_count 121 = .ok (.getfield 40, 3) := by decide +kernel
theorem dX11_count_124 : decode cX11_count 124 = .ok (.getfield 251, 3) := by decide +kernel
theorem dX11_count_127 : decode cX11_count 127 = .ok (.getfield 239, 3) := by decide +kernel
theorem dX11_count_130 : decode cX11_count 130 = .ok (.ireturn, 1) := by decide +kernel
theorem dX11_count_131 : decode cX11_count 131 = .ok (.aload_n 0, 1) := by decide +kernel
theorem dX11_count_132 : decode cX11_count 132 = .ok (.getfield 72, 3) := by decide +kernel
theorem dX11_count_135 : decode cX11_count 135 = .ok (.getfield 192, 3) := by decide +kernel
theorem dX11_count_138 : decode cX11_count 138 = .ok (.getfield 254, 3) := by decide +kernel
theorem dX11_count_141 : decode cX11_count 141 = .ok (.ireturn, 1) := by decide +kernel
theorem dX11_count_142 : decode cX11_count 142 = .ok (.aload_n 0, 1) := by decide +kernel
theorem dX11_count_143 : decode cX11_count 143 = .ok (.getfield 72, 3) := by decide +kernel
theorem dX11_count_146 : decode cX11_count 146 = .ok (.getfield 207, 3) := by decide +kernel
theorem dX11_count_149 : decode cX11_count 149 = .ok (.getfield 255, 3) := by decide +kernel
theorem dX11_count_152 : decode cX11_count 152 = .ok (.ireturn, 1) := by decide +kernel
theorem dX11_count_153 : decode cX11_count 153 = .ok (.aload_n 0, 1) := by decide +kernel
theorem dX11_count_154 : decode cX11_count 154 = .ok (.getfield 72, 3) := by decide +kernel
theorem dX11_count_157 : decode cX11_count 157 = .ok (.getfield 256, 3) := by decide +kernel
theorem dX11_count_160 : decode cX11_count 160 = .ok (.ireturn, 1) := by decide +kernel
theorem dX11_count_161 : decode cX11_count 161 = .ok (.aload_n 0, 1) := by decide +kernel
theorem dX11_count_162 : decode cX11_count 162 = .ok (.getfield 14, 3) := by decide +kernel
theorem dX11_count_165 : decode cX11_count 165 = .ok (.getfield 76, 3) := by decide +kernel
theorem dX11_count_168 : decode cX11_count 168 = .ok (.ireturn, 1) := by decide +kernel
theorem dX11_count_169 : decode cX11_count 169 = .ok (.iconst (-1), 1) := by decide +kernel
theorem dX11_count_170 : decode cX11_count 170 = .ok (.ireturn, 1) := by decide +kernel
theorem dX11_isByte_0 : decode cX11_isByte 0 = .ok (.iload_n 0, 1) := by decide +kernel
theorem dX11_isByte_1 : decode cX11_isByte 1 = .ok (.ifCond .lt 14, 3) := by decide +kernel
theorem dX11_isByte_4 : decode cX11_isByte 4 = .ok (.iload_n 0, 1) := by decide +kernel
theorem dX11_isByte_5 : decode cX11_isByte 5 = .ok (.sipush 255, 3) := by decide +kernel
theorem dX11_isByte_8 : decode cX11_isByte 8 = .ok (.if_icmp .gt 7, 3) := by decide +kernel
theorem dX11_isByte_11 : decode cX11_isByte 11 = .ok (.iconst 1, 1) := by decide +kernel
theorem dX11_isByte_12 : decode cX11_isByte 12 = .ok (.goto 4, 3) := by decide +kernel
theorem dX11_isByte_15 : decode cX11_isByte 15 = .ok (.iconst 0, 1) := by decide +kernel
theorem dX11_isByte_16 : decode cX11_isByte 16 = .ok (.ireturn, 1) := by decide +kernel
theorem dX11_isLibrary_0 : decode cX11_isLibrary 0 = .ok (.iload_n 0, 1) := by decide +kernel
theorem dX11_isLibrary_1 : decode cX11_isLibrary 1 = .ok (.iconst 1, 1) := by decide +kernel
theorem dX11_isLibrary_2 : decode cX11_isLibrary 2 = .ok (.if_icmp .lt 12, 3) := by decide +kernel
theorem dX11_isLibrary_5 : decode cX11_isLibrary 5 = .ok (.iload_n 0, 1) := by decide +kernel
theorem dX11_isLibrary_6 : decode cX11_isLibrary 6 = .ok (.iconst 3, 1) := by decide +kernel
theorem dX11_isLibrary_7 : decode cX11_isLibrary 7 = .ok (.if_icmp .gt 7, 3) := by decide +kernel
theorem dX11_isLibrary_10 : decode cX11_isLibrary 10 = .ok (.iconst 1, 1) := by decide +kernel
theorem dX11_isLibrary_11 : decode cX11_isLibrary 11 = .ok (.goto 4, 3) := by decide +kernel
theorem dX11_isLibrary_14 : decode cX11_isLibrary 14 = .ok (.iconst 0, 1) := by decide +kernel
theorem dX11_isLibrary_15 : decode cX11_isLibrary 15 = .ok (.ireturn, 1) := by decide +kernel
theorem dX11_isPage_0 : decode cX11_isPage 0 = .ok (.iload_n 0, 1) := by decide +kernel
theorem dX11_isPage_1 : decode cX11_isPage 1 = .ok (.sipush 256, 3) := by decide +kernel
theorem dX11_isPage_4 : decode cX11_isPage 4 = .ok (.if_icmp .lt 22, 3) := by decide +kernel
theorem dX11_isPage_7 : decode cX11_isPage 7 = .ok (.iload_n 0, 1) := by decide +kernel
theorem dX11_isPage_8 : decode cX11_isPage 8 = .ok (.sipush 4096, 3) := by decide +kernel
theorem dX11_isPage_11 : decode cX11_isPage 11 = .ok (.if_icmp .gt 15, 3) := by decide +kernel
theorem dX11_isPage_14 : decode cX11_isPage 14 = .ok (.iload_n 0, 1) := by decide +kernel
theorem dX11_isPage_15 : decode cX11_isPage 15 = .ok (.iload_n 0, 1) := by decide +kernel
theorem dX11_isPage_16 : decode cX11_isPage 16 = .ok (.iconst 1, 1) := by decide +kernel
theorem dX11_isPage_17 : decode cX11_isPage 17 = .ok (.isub, 1) := by decide +kernel
theorem dX11_isPage_18 : decode cX11_isPage 18 = .ok (.iand, 1) := by decide +kernel
theorem dX11_isPage_19 : decode cX11_isPage 19 = .ok (.ifCond .ne 7, 3) := by decide +kernel
theorem dX11_isPage_22 : decode cX11_isPage 22 = .ok (.iconst 1, 1) := by decide +kernel
theorem dX11_isPage_23 : decode cX11_isPage 23 = .ok (.goto 4, 3) := by decide +kernel
theorem dX11_isPage_26 : decode cX11_isPage 26 = .ok (.iconst 0, 1) := by decide +kernel
theorem dX11_isPage_27 : decode cX11_isPage 27 = .ok (.ireturn, 1) := by decide +kernel
theorem dX11_pagesIn_0 : decode cX11_pagesIn 0 = .ok (.iload_n 1, 1) := by decide +kernel
theorem dX11_pagesIn_1 : decode cX11_pagesIn 1 = .ok (.iconst 1, 1) := by decide +kernel
theorem dX11_pagesIn_2 : decode cX11_pagesIn 2 = .ok (.if_icmp .ge 7, 3) := by decide +kernel
theorem dX11_pagesIn_5 : decode cX11_pagesIn 5 = .ok (.iconst 0, 1) := by decide +kernel
theorem dX11_pagesIn_6 : decode cX11_pagesIn 6 = .ok (.goto 10, 3) := by decide +kernel
theorem dX11_pagesIn_9 : decode cX11_pagesIn 9 = .ok (.iload_n 0, 1) := by decide +kernel
theorem dX11_pagesIn_10 : decode cX11_pagesIn 10 = .ok (.iload_n 1, 1) := by decide +kernel
theorem dX11_pagesIn_11 : decode cX11_pagesIn 11 = .ok (.iadd, 1) := by decide +kernel
theorem dX11_pagesIn_12 : decode cX11_pagesIn 12 = .ok (.iconst 1, 1) := by decide +kernel
theorem dX11_pagesIn_13 : decode cX11_pagesIn 13 = .ok (.isub, 1) := by decide +kernel
theorem dX11_pagesIn_14 : decode cX11_pagesIn 14 = .ok (.iload_n 1, 1) := by decide +kernel
theorem dX11_pagesIn_15 : decode cX11_pagesIn 15 = .ok (.idiv, 1) := by decide +kernel
theorem dX11_pagesIn_16 : decode cX11_pagesIn 16 = .ok (.ireturn, 1) := by decide +kernel
theorem dX11_filledUp_0 : decode cX11_filledUp 0 = .ok (.iload_n 0, 1) := by decide +kernel
theorem dX11_filledUp_1 : decode cX11_filledUp 1 = .ok (.iload_n 1, 1) := by decide +kernel
theorem dX11_filledUp_2 : decode cX11_filledUp 2 = .ok (.iadd, 1) := by decide +kernel
theorem dX11_filledUp_3 : decode cX11_filledUp 3 = .ok (.iconst 1, 1) := by decide +kernel
theorem dX11_filledUp_4 : decode cX11_filledUp 4 = .ok (.isub, 1) := by decide +kernel
theorem dX11_filledUp_5 : decode cX11_filledUp 5 = .ok (.iload_n 1, 1) := by decide +kernel
theorem dX11_filledUp_6 : decode cX11_filledUp 6 = .ok (.ineg, 1) := by decide +kernel
theorem dX11_filledUp_7 : decode cX11_filledUp 7 = .ok (.iand, 1) := by decide +kernel
theorem dX11_filledUp_8 : decode cX11_filledUp 8 = .ok (.ireturn, 1) := by decide +kernel
theorem dX12_init_0 : decode cX12_init 0 = .ok (.aload_n 0, 1) := by decide +kernel
theorem dX12_init_1 : decode cX12_init 1 = .ok (.invokespecial 1, 3) := by decide +kernel
theorem dX12_init_4 : decode cX12_init 4 = .ok (.aload_n 0, 1) := by decide +kernel
theorem dX12_init_5 : decode cX12_init 5 = .ok (.sipush 1040, 3) := by decide +kernel
theorem dX12_init_8 : decode cX12_init 8 = .ok (.newarray .int, 2) := by decide +kernel
theorem dX12_init_10 : decode cX12_init 10 = .ok (.putfield 7, 3) := by decide +kernel
theorem dX12_init_13 : decode cX12_init 13 = .ok (.aload_n 0, 1) := by decide +kernel
theorem dX12_init_14 : decode cX12_init 14 = .ok (.sipush 1312, 3) := by decide +kernel
theorem dX12_init_17 : decode cX12_init 17 = .ok (.newarray .int, 2) := by decide +kernel
theorem dX12_init_19 : decode cX12_init 19 = .ok (.putfield 13, 3) := by decide +kernel
theorem dX12_init_22 : decode cX12_init 22 = .ok (.aload_n 0, 1) := by decide +kernel
theorem dX12_init_23 : decode cX12_init 23 = .ok (.ldc 16, 2) := by decide +kernel
theorem dX12_init_25 : decode cX12_init 25 = .ok (.putfield 17, 3) := by decide +kernel
theorem dX12_init_28 : decode cX12_init 28 = .ok (.aload_n 0, 1) := by decide +kernel
theorem dX12_init_29 : decode cX12_init 29 = .ok (.sipush 256, 3) := by decide +kernel
theorem dX12_init_32 : decode cX12_init 32 = .ok (.putfield 21, 3) := by decide +kernel
theorem dX12_init_35 : decode cX12_init 35 = .ok (.aload_n 0, 1) := by decide +kernel
theorem dX12_init_36 : decode cX12_init 36 = .ok (.iconst 4, 1) := by decide +kernel
theorem dX12_init_37 : decode cX12_init 37 = .ok (.newarray .int, 2) := by decide +kernel
theorem dX12_init_39 : decode cX12_init 39 = .ok (.putfield 24, 3) := by decide +kernel
theorem dX12_init_42 : decode cX12_init 42 = .ok (.aload_n 0, 1) := by decide +kernel
theorem dX12_init_43 : decode cX12_init 43 = .ok (.iconst 4, 1) := by decide +kernel
theorem dX12_init_44 : decode cX12_init 44 = .ok (.newarray .int, 2) := by decide +kernel
theorem dX12_init_46 : decode cX12_init 46 = .ok (.putfield 27, 3) := by decide +kernel
theorem dX12_init_49 : decode cX12_init 49 = .ok (.aload_n 0, 1) := by decide +kernel
theorem dX12_init_50 : decode cX12_init 50 = .ok (.sipush 4096, 3) := by decide +kernel
theorem dX12_init_53 : decode cX12_init 53 = .ok (.newarray .int, 2) := by decide +kernel
theorem dX12_init_55 : decode cX12_init 55 = .ok (.putfield 30, 3) := by decide +kernel
theorem dX12_init_58 : decode cX12_init 58 = .ok (.aload_n 0, 1) := by decide +kernel
theorem dX12_init_59 : decode cX12_init 59 = .ok (.bipush 9, 2) := by decide +kernel
theorem dX12_init_61 : decode cX12_init 61 = .ok (.newarray .int, 2) := by decide +kernel
theorem dX12_init_63 : decode cX12_init 63 = .ok (.putfield 33, 3) := by decide +kernel
theorem dX12_init_66 : decode cX12_init 66 = .ok (.aload_n 0, 1) := by decide +kernel
theorem dX12_init_67 : decode cX12_init 67 = .ok (.bipush 9, 2) := by decide +kernel
theorem dX12_init_69 : decode cX12_init 69 = .ok (.newarray .int, 2) := by decide +kernel
theorem dX12_init_71 : decode cX12_init 71 = .ok (.putfield 36, 3) := by decide +kernel
theorem dX12_init_74 : decode cX12_init 74 = .ok (.aload_n 0, 1) := by decide +kernel
theorem dX12_init_75 : decode cX12_init 75 = .ok (.bipush 9, 2) := by decide +kernel
theorem dX12_init_77 : decode cX12_init 77 = .ok (.newarray .int, 2) := by decide +kernel
theorem dX12_init_79 : decode cX12_init 79 = .ok (.putfield 39, 3) := by decide +kernel
theorem dX12_init_82 : decode cX12_init 82 = .ok (.aload_n 0, 1) := by decide +kernel
theorem dX12_init_83 : decode cX12_init 83 = .ok (.bipush 20, 2) := by decide +kernel
theorem dX12_init_85 : decode cX12_init 85 = .ok (.newarray .int, 2) := by decide +kernel
theorem dX12_init_87 : decode cX12_init 87 = .ok (.putfield 42, 3) := by decide +kernel
theorem dX12_init_90 : decode cX12_init 90 = .ok (.aload_n 0, 1) := by decide +kernel
theorem dX12_init_91 : decode cX12_init 91 = .ok (.bipush 20, 2) := by decide +kernel
theorem dX12_init_93 : decode cX12_init 93 = .ok (.newarray .int, 2) := by decide +kernel
theorem dX12_init_95 : decode cX12_init 95 = .ok (.putfield 45, 3) := by decide +kernel
theorem dX12_init_98 : decode cX12_init 98 = .ok (.aload_n 0, 1) := by decide +kernel
theorem dX12_init_99 : decode cX12_init 99 = .ok (.bipush 20, 2) := by decide +kernel
theorem dX12_init_101 : decode cX12_init 101 = .ok (.newarray .int, 2) := by decide +kernel
theorem dX12_init_103 : decode cX12_init 103 = .ok (.putfield 48, 3) := by decide +kernel
theorem dX12_init_106 : decode cX12_init 106 = .ok (.aload_n 0, 1) := by decide +kernel
theorem dX12_init_107 : decode cX12_init 107 = .ok (.bipush 20, 2) := by decide +kernel
theorem dX12_init_109 : decode cX12_init 109 = .ok (.newarray .boolean, 2) := by decide +kernel
theorem dX12_init_111 : decode cX12_init 111 = .ok (.putfield 51, 3) := by decide +kernel
theorem dX12_init_114 : decode cX12_init 114 = .ok (.aload_n 0, 1) := by decide +kernel
theorem dX12_init_115 : decode cX12_init 115 = .ok (.bipush 101, 2) := by decide +kernel
theorem dX12_init_117 : decode cX12_init 117 = .ok (.newarray .int, 2) := by decide +kernel
theorem dX12_init_119 : decode cX12_init 119 = .ok (.putfield 55, 3) := by decide +kernel
theorem dX12_init_122 : decode cX12_init 122 = .ok (.aload_n 0, 1) := by decide +kernel
theorem dX12_init_123 : decode cX12_init 123 = .ok (.bipush 101, 2) := by decide +kernel
theorem dX12_init_125 : decode cX12_init 125 = .ok (.newarray .int, 2) := by decide +kernel
theorem dX12_init_127 : decode cX12_init 127 = .ok (.putfield 58, 3) := by decide +kernel
theorem dX12_init_130 : decode cX12_init 130 = .ok (.aload_n 0, 1) := by decide +kernel
theorem dX12_init_131 : decode cX12_init 131 = .ok (.bipush 101, 2) := by decide +kernel
theorem dX12_init_133 : decode cX12_init 133 = .ok (.newarray .int, 2) := by decide +kernel
theorem dX12_init_135 : decode cX12_init 135 = .ok (.putfield 61, 3) := by decide +kernel
theorem dX12_init_138 : decode cX12_init 138 = .ok (.aload_n 0, 1) := by decide +kernel
theorem dX12_init_139 : decode cX12_init 139 = .ok (.bipush 101, 2) := by decide +kernel
theorem dX12_init_141 : decode cX12_init 141 = .ok (.newarray .long, 2) := by decide +kernel
theorem dX12_init_143 : decode cX12_init 143 = .ok (.putfield 64, 3) := by decide +kernel
theorem dX12_init_146 : decode cX12_init 146 = .ok (.aload_n 0, 1) := by decide +kernel
theorem dX12_init_147 : decode cX12_init 147 = .ok (.bipush 101, 2) := by decide +kernel
theorem dX12_init_149 : decode cX12_init 149 = .ok (.newarray .boolean, 2) := by decide +kernel
theorem dX12_init_151 : decode cX12_init 151 = .ok (.putfield 68, 3) := by decide +kernel
theorem dX12_init_154 : decode cX12_init 154 = .ok (.aload_n 0, 1) := by decide +kernel
theorem dX12_init_155 : decode cX12_init 155 = .ok (.bipush 30, 2) := by decide +kernel
theorem dX12_init_157 : decode cX12_init 157 = .ok (.newarray .int, 2) := by decide +kernel
theorem dX12_init_159 : decode cX12_init 159 = .ok (.putfield 71, 3) := by decide +kernel
theorem dX12_init_162 : decode cX12_init 162 = .ok (.aload_n 0, 1) := by decide +kernel
theorem dX12_init_163 : decode cX12_init 163 = .ok (.bipush 30, 2) := by decide +kernel
theorem dX12_init_165 : decode cX12_init 165 = .ok (.newarray .int, 2) := by decide +kernel
theorem dX12_init_167 : decode cX12_init 167 = .ok (.putfield 74, 3) := by decide +kernel
theorem dX12_init_170 : decode cX12_init 170 = .ok (.aload_n 0, 1) := by decide +kernel
theorem dX12_init_171 : decode cX12_init 171 = .ok (.sipush 9000, 3) := by decide +kernel
theorem dX12_init_174 : decode cX12_init 174 = .ok (.newarray .int, 2) := by decide +kernel
theorem dX12_init_176 : decode cX12_init 176 = .ok (.putfield 77, 3) := by decide +kernel
theorem dX12_init_179 : decode cX12_init 179 = .ok (.aload_n 0, 1) := by decide +kernel
theorem dX12_init_180 : decode cX12_init 180 = .ok (.iconst 4, 1) := by decide +kernel
theorem dX12_init_181 : decode cX12_init 181 = .ok (.newarray .int, 2) := by decide +kernel
theorem dX12_init_183 : decode cX12_init 183 = .ok (.putfield 80, 3) := by decide +kernel
theorem dX12_init_186 : decode cX12_init 186 = .ok (.aload_n 0, 1) := by decide +kernel
theorem dX12_init_187 : decode cX12_init 187 = .ok (.iconst 4, 1) := by decide +kernel
theorem dX12_init_188 : decode cX12_init 188 = .ok (.newarray .int, 2) := by decide +kernel
theorem dX12_init_190 : decode cX12_init 190 = .ok (.putfield 83, 3) := by decide +kernel
theorem dX12_init_193 : decode cX12_init 193 = .ok (.aload_n 0, 1) := by decide +kernel
theorem dX12_init_194 : decode cX12_init 194 = .ok (.ldc2_w 86, 3) := by decide +kernel
theorem dX12_init_197 : decode cX12_init 197 = .ok (.putfield 88, 3) := by decide +kernel
theorem dX12_init_200 : decode cX12_init 200 = .ok (.aload_n 0, 1) := by decide +kernel
theorem dX12_init_201 : decode cX12_init 201 = .ok (.iconst 4, 1) := by decide +kernel
theorem dX12_init_202 : decode cX12_init 202 = .ok (.newarray .long, 2) := by decide +kernel
theorem dX12_init_204 : decode cX12_init 204 = .ok (.putfield 92, 3) := by decide +kernel
theorem dX12_init_207 : decode cX12_init 207 = .ok (.aload_n 0, 1) := by decide +kernel
theorem dX12_init_208 : decode cX12_init 208 = .ok (.iconst 4, 1) := by decide +kernel
theorem dX12_init_209 : decode cX12_init 209 = .ok (.newarray .long, 2) := by decide +kernel
theorem dX12_init_211 : decode cX12_init 211 = .ok (.putfield 95, 3) := by decide +kernel
theorem dX12_init_214 : decode cX12_init 214 = .ok (.aload_n 0, 1) := by decide +kernel
theorem dX12_init_215 : decode cX12_init 215 = .ok (.iconst 4, 1) := by decide +kernel
theorem dX12_init_216 : decode cX12_init 216 = .ok (.newarray .long, 2) := by decide +kernel
theorem dX12_init_218 : decode cX12_init 218 = .ok (.putfield 98, 3) := by decide +kernel
theorem dX12_init_221 : decode cX12_init 221 = .ok (.aload_n 0, 1) := by decide +kernel
theorem dX12_init_222 : decode cX12_init 222 = .ok (.iconst 4, 1) := by decide +kernel
theorem dX12_init_223 : decode cX12_init 223 = .ok (.newarray .long, 2) := by decide +kernel
theorem dX12_init_225 : decode cX12_init 225 = .ok (.putfield 101, 3) := by decide +kernel
theorem dX12_init_228 : decode cX12_init 228 = .ok (.aload_n 0, 1) := by decide +kernel
theorem dX12_init_229 : decode cX12_init 229 = .ok (.sipush 2100, 3) := by decide +kernel
theorem dX12_init_232 : decode cX12_init 232 = .ok (.newarray .long, 2) := by decide +kernel
theorem dX12_init_234 : decode cX12_init 234 = .ok (.putfield 104, 3) := by decide +kernel
theorem dX12_init_237 : decode cX12_init 237 = .ok (.aload_n 0, 1) := by decide +kernel
theorem dX12_init_238 : decode cX12_init 238 = .ok (.sipush 2100, 3) := by decide +kernel
theorem dX12_init_241 : decode cX12_init 241 = .ok (.newarray .int, 2) := by decide +kernel
theorem dX12_init_243 : decode cX12_init 243 = .ok (.putfield 107, 3) := by decide +kernel
theorem dX12_init_246 : decode cX12_init 246 = .ok (.aload_n 0, 1) := by decide +kernel
theorem dX12_init_247 : decode cX12_init 247 = .ok (.sipush 2100, 3) := by decide +kernel
theorem dX12_init_250 : decode cX12_init 250 = .ok (.newarray .int, 2) := by decide +kernel
theorem dX12_init_252 : decode cX12_init 252 = .ok (.putfield 110, 3) := by decide +kernel
theorem dX12_init_255 : decode cX12_init 255 = .ok (.aload_n 0, 1) := by decide +kernel
theorem dX12_init_256 : decode cX12_init 256 = .ok (.iconst 4, 1) := by decide +kernel
theorem dX12_init_257 : decode cX12_init 257 = .ok (.newarray .long, 2) := by decide +kernel
theorem dX12_init_259 : decode cX12_init 259 = .ok (.putfield 113, 3) := by decide +kernel
theorem dX12_init_262 : decode cX12_init 262 = .ok (.aload_n 0, 1) := by decide +kernel
theorem dX12_init_263 : decode cX12_init 263 = .ok (.iconst 4, 1) := by decide +kernel
theorem dX12_init_264 : decode cX12_init 264 = .ok (.newarray .long, 2) := by decide +kernel
theorem dX12_init_266 : decode cX12_init 266 = .ok (.putfield 116, 3) := by decide +kernel
theorem dX12_init_269 : decode cX12_init 269 = .ok (.aload_n 0, 1) := by decide +kernel
theorem dX12_init_270 : decode cX12_init 270 = .ok (.iconst 4, 1) := by decide +kernel
theorem dX12_init_271 : decode cX12_init 271 = .ok (.newarray .int, 2) := by decide +kernel
theorem dX12_init_273 : decode cX12_init 273 = .ok (.putfield 119, 3) := by decide +kernel
theorem dX12_init_276 : decode cX12_init 276 = .ok (.aload_n 0, 1) := by decide +kernel
theorem dX12_init_277 : decode cX12_init 277 = .ok (.sipush 16384, 3) := by decide +kernel
theorem dX12_init_280 : decode cX12_init 280 = .ok (.newarray .int, 2) := by decide +kernel
theorem dX12_init_282 : decode cX12_init 282 = .ok (.putfield 122, 3) := by decide +kernel
theorem dX12_init_285 : decode cX12_init 285 = .ok (.aload_n 0, 1) := by decide +kernel
theorem dX12_init_286 : decode cX12_init 286 = .ok (.sipush 2100, 3) := by decide +kernel
theorem dX12_init_289 : decode cX12_init 289 = .ok (.newarray .long, 2) := by decide +kernel
theorem dX12_init_291 : decode cX12_init 291 = .ok (.putfield 125, 3) := by decide +kernel
theorem dX12_init_294 : decode cX12_init 294 = .ok (.aload_n 0, 1) := by decide +kernel
theorem dX12_init_295 : decode cX12_init 295 = .ok (.sipush 2100, 3) := by decide +kernel
theorem dX12_init_298 : decode cX12_init 298 = .ok (.newarray .long, 2) := by decide +kernel
theorem dX12_init_300 : decode cX12_init 300 = .ok (.putfield 128, 3) := by decide +kernel
theorem dX12_init_303 : decode cX12_init 303 = .ok (.aload_n 0, 1) := by decide +kernel
theorem dX12_init_304 : decode cX12_init 304 = .ok (.sipush 2100, 3) := by decide +kernel
theorem dX12_init_307 : decode cX12_init 307 = .ok (.newarray .int, 2) := by decide +kernel
theorem dX12_init_309 : decode cX12_init 309 = .ok (.putfield 131, 3) := by decide +kernel
theorem dX12_init_312 : decode cX12_init 312 = .ok (.aload_n 0, 1) := by decide +kernel
theorem dX12_init_313 : decode cX12_init 313 = .ok (.sipush 2100, 3) := by decide +kernel
theorem dX12_init_316 : decode cX12_init 316 = .ok (.newarray .boolean, 2) := by decide +kernel
theorem dX12_init_318 : decode cX12_init 318 = .ok (.putfield 134, 3) := by decide +kernel
theorem dX12_init_321 : decode cX12_init 321 = .ok (.aload_n 0, 1) := by decide +kernel
theorem dX12_init_322 : decode cX12_init 322 = .ok (.sipush 9000, 3) := by decide +kernel
theorem dX12_init_325 : decode cX12_init 325 = .ok (.newarray .int, 2) := by decide +kernel
theorem dX12_init_327 : decode cX12_init 327 = .ok (.putfield 137, 3) := by decide +kernel
theorem dX12_init_330 : decode cX12_init 330 = .ok (.aload_n 0, 1) := by decide +kernel
theorem dX12_init_331 : decode cX12_init 331 = .ok (.bipush 64, 2) := by decide +kernel
theorem dX12_init_333 : decode cX12_init 333 = .ok (.newarray .int, 2) := by decide +kernel
theorem dX12_init_335 : decode cX12_init 335 = .ok (.putfield 140, 3) := by decide +kernel
theorem dX12_init_338 : decode cX12_init 338 = .ok (.aload_n 0, 1) := by decide +kernel
theorem dX12_init_339 : decode cX12_init 339 = .ok (.bipush 64, 2) := by decide +kernel
theorem dX12_init_341 : decode cX12_init 341 = .ok (.newarray .int, 2) := by decide +kernel
theorem dX12_init_343 : decode cX12_init 343 = .ok (.putfield 143, 3) := by decide +kernel
theorem dX12_init_346 : decode cX12_init 346 = .ok (.aload_n 0, 1) := by decide +kernel
theorem dX12_init_347 : decode cX12_init 347 = .ok (.bipush 64, 2) := by decide +kernel
theorem dX12_init_349 : decode cX12_init 349 = .ok (.newarray .int, 2) := by decide +kernel
theorem dX12_init_351 : decode cX12_init 351 = .ok (.putfield 146, 3) := by decide +kernel
theorem dX12_init_354 : decode cX12_init 354 = .ok (.return_, 1) := by decide +kernel
