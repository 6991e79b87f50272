theorem dX0_init_0 : decode cX0_init 0 = .ok (.aload_n 0, 1) := by decide +kernel
theorem dX0_init_1 : decode cX0_init 1 = .ok (.invokespecial 3, 3) := by decide +kernel
theorem dX0_init_4 : decode cX0_init 4 = .ok (.aload_n 0, 1) := by decide +kernel
theorem dX0_init_5 : decode cX0_init 5 = .ok (.aload_n 1, 1) := by decide +kernel
theorem dX0_init_6 : decode cX0_init 6 = .ok (.putfield 9, 3) := by decide +kernel
theorem dX0_init_9 : decode cX0_init 9 = .ok (.aload_n 0, 1) := by decide +kernel
theorem dX0_init_10 : decode cX0_init 10 = .ok (.aload_n 2, 1) := by decide +kernel
theorem dX0_init_11 : decode cX0_init 11 = .ok (.putfield 15, 3) := by decide +kernel
theorem dX0_init_14 : decode cX0_init 14 = .ok (.aload_n 0, 1) := by decide +kernel
theorem dX0_init_15 : decode cX0_init 15 = .ok (.new 19, 3) := by decide +kernel
theorem dX0_init_18 : decode cX0_init 18 = .ok (.dup, 1) := by decide +kernel
theorem dX0_init_19 : decode cX0_init 19 = .ok (.invokespecial 21, 3) := by decide +kernel
theorem dX0_init_22 : decode cX0_init 22 = .ok (.putfield 22, 3) := by decide +kernel
theorem dX0_init_25 : decode cX0_init 25 = .ok (.return_, 1) := by decide +kernel
theorem dX0_hold_0 : decode cX0_hold 0 = .ok (.aload_n 0, 1) := by decide +kernel
theorem dX0_hold_1 : decode cX0_hold 1 = .ok (.invokevirtual 26, 3) := by decide +kernel
theorem dX0_hold_4 : decode cX0_hold 4 = .ok (.aload_n 0, 1) := by decide +kernel
theorem dX0_hold_5 : decode cX0_hold 5 = .ok (.invokevirtual 29, 3) := by decide +kernel
theorem dX0_hold_8 : decode cX0_hold 8 = .ok (.ifCond .eq 21, 3) := by decide +kernel
theorem dX0_hold_11 : decode cX0_hold 11 = .ok (.aload_n 0, 1) := by decide +kernel
theorem dX0_hold_12 : decode cX0_hold 12 = .ok (.invokevirtual 33, 3) := by decide +kernel
theorem dX0_hold_15 : decode cX0_hold 15 = .ok (.ifCond .eq 14, 3) := by decide +kernel
theorem dX0_hold_18 : decode cX0_hold 18 = .ok (.aload_n 0, 1) := by decide +kernel
theorem dX0_hold_19 : decode cX0_hold 19 = .ok (.invokevirtual 36, 3) := by decide +kernel
theorem dX0_hold_22 : decode cX0_hold 22 = .ok (.ifCond .eq 7, 3) := by decide +kernel
theorem dX0_hold_25 : decode cX0_hold 25 = .ok (.iconst 1, 1) := by decide +kernel
theorem dX0_hold_26 : decode cX0_hold 26 = .ok (.goto 4, 3) := by decide +kernel
theorem dX0_hold_29 : decode cX0_hold 29 = .ok (.iconst 0, 1) := by decide +kernel
theorem dX0_hold_30 : decode cX0_hold 30 = .ok (.ireturn, 1) := by decide +kernel
theorem dX0_forget_0 : decode cX0_forget 0 = .ok (.aload_n 0, 1) := by decide +kernel
theorem dX0_forget_1 : decode cX0_forget 1 = .ok (.getfield 22, 3) := by decide +kernel
theorem dX0_forget_4 : decode cX0_forget 4 = .ok (.invokevirtual 39, 3) := by decide +kernel
theorem dX0_forget_7 : decode cX0_forget 7 = .ok (.aload_n 0, 1) := by decide +kernel
theorem dX0_forget_8 : decode cX0_forget 8 = .ok (.iconst 0, 1) := by decide +kernel
theorem dX0_forget_9 : decode cX0_forget 9 = .ok (.putfield 42, 3) := by decide +kernel
theorem dX0_forget_12 : decode cX0_forget 12 = .ok (.aload_n 0, 1) := by decide +kernel
theorem dX0_forget_13 : decode cX0_forget 13 = .ok (.iconst 0, 1) := by decide +kernel
theorem dX0_forget_14 : decode cX0_forget 14 = .ok (.putfield 46, 3) := by decide +kernel
theorem dX0_forget_17 : decode cX0_forget 17 = .ok (.aload_n 0, 1) := by decide +kernel
theorem dX0_forget_18 : decode cX0_forget 18 = .ok (.iconst 0, 1) := by decide +kernel
theorem dX0_forget_19 : decode cX0_forget 19 = .ok (.putfield 50, 3) := by decide +kernel
theorem dX0_forget_22 : decode cX0_forget 22 = .ok (.aload_n 0, 1) := by decide +kernel
theorem dX0_forget_23 : decode cX0_forget 23 = .ok (.iconst 0, 1) := by decide +kernel
theorem dX0_forget_24 : decode cX0_forget 24 = .ok (.putfield 53, 3) := by decide +kernel
theorem dX0_forget_27 : decode cX0_forget 27 = .ok (.aload_n 0, 1) := by decide +kernel
theorem dX0_forget_28 : decode cX0_forget 28 = .ok (.iconst 0, 1) := by decide +kernel
theorem dX0_forget_29 : decode cX0_forget 29 = .ok (.putfield 56, 3) := by decide +kernel
theorem dX0_forget_32 : decode cX0_forget 32 = .ok (.aload_n 0, 1) := by decide +kernel
theorem dX0_forget_33 : decode cX0_forget 33 = .ok (.iconst 0, 1) := by decide +kernel
theorem dX0_forget_34 : decode cX0_forget 34 = .ok (.putfield 59, 3) := by decide +kernel
theorem dX0_forget_37 : decode cX0_forget 37 = .ok (.aload_n 0, 1) := by decide +kernel
theorem dX0_forget_38 : decode cX0_forget 38 = .ok (.iconst 0, 1) := by decide +kernel
theorem dX0_forget_39 : decode cX0_forget 39 = .ok (.putfield 62, 3) := by decide +kernel
theorem dX0_forget_42 : decode cX0_forget 42 = .ok (.aload_n 0, 1) := by decide +kernel
theorem dX0_forget_43 : decode cX0_forget 43 = .ok (.iconst 0, 1) := by decide +kernel
theorem dX0_forget_44 : decode cX0_forget 44 = .ok (.putfield 65, 3) := by decide +kernel
theorem dX0_forget_47 : decode cX0_forget 47 = .ok (.aload_n 0, 1) := by decide +kernel
theorem dX0_forget_48 : decode cX0_forget 48 = .ok (.iconst 0, 1) := by decide +kernel
theorem dX0_forget_49 : decode cX0_forget 49 = .ok (.putfield 68, 3) := by decide +kernel
theorem dX0_forget_52 : decode cX0_forget 52 = .ok (.return_, 1) := by decide +kernel
theorem dX0_headHolds_0 : decode cX0_headHolds 0 = .ok (.aload_n 0, 1) := by decide +kernel
theorem dX0_headHolds_1 : decode cX0_headHolds 1 = .ok (.getfield 15, 3) := by decide +kernel
theorem dX0_headHolds_4 : decode cX0_headHolds 4 = .ok (.aload_n 0, 1) := by decide +kernel
theorem dX0_headHolds_5 : decode cX0_headHolds 5 = .ok (.getfield 9, 3) := by decide +kernel
theorem dX0_headHolds_8 : decode cX0_headHolds 8 = .ok (.getfield 71, 3) := by decide +kernel
theorem dX0_headHolds_11 : decode cX0_headHolds 11 = .ok (.bipush 32, 2) := by decide +kernel
theorem dX0_headHolds_13 : decode cX0_headHolds 13 = .ok (.if_icmp .lt 7, 3) := by decide +kernel
theorem dX0_headHolds_16 : decode cX0_headHolds 16 = .ok (.iconst 1, 1) := by decide +kernel
theorem dX0_headHolds_17 : decode cX0_headHolds 17 = .ok (.goto 4, 3) := by decide +kernel
theorem dX0_headHolds_20 : decode cX0_headHolds 20 = .ok (.iconst 0, 1) := by decide +kernel
theorem dX0_headHolds_21 : decode cX0_headHolds 21 = .ok (.iconst 1, 1) := by decide +kernel
theorem dX0_headHolds_22 : decode cX0_headHolds 22 = .ok (.aload_n 0, 1) := by decide +kernel
theorem dX0_headHolds_23 : decode cX0_headHolds 23 = .ok (.getfield 9, 3) := by decide +kernel
theorem dX0_headHolds_26 : decode cX0_headHolds 26 = .ok (.getfield 71, 3) := by decide +kernel
theorem dX0_headHolds_29 : decode cX0_headHolds 29 = .ok (.invokevirtual 76, 3) := by decide +kernel
theorem dX0_headHolds_32 : decode cX0_headHolds 32 = .ok (.ifCond .eq 107, 3) := by decide +kernel
theorem dX0_headHolds_35 : decode cX0_headHolds 35 = .ok (.aload_n 0, 1) := by decide +kernel
theorem dX0_headHolds_36 : decode cX0_headHolds 36 = .ok (.getfield 15, 3) := by decide +kernel
theorem dX0_headHolds_39 : decode cX0_headHolds 39 = .ok (.aload_n 0, 1) := by decide +kernel
theorem dX0_headHolds_40 : decode cX0_headHolds 40 = .ok (.iconst 0, 1) := by decide +kernel
theorem dX0_headHolds_41 : decode cX0_headHolds 41 = .ok (.invokevirtual 82, 3) := by decide +kernel
theorem dX0_headHolds_44 : decode cX0_headHolds 44 = .ok (.ldc2_w 86, 3) := by decide +kernel
theorem dX0_headHolds_47 : decode cX0_headHolds 47 = .ok (.lcmp, 1) := by decide +kernel
theorem dX0_headHolds_48 : decode cX0_headHolds 48 = .ok (.ifCond .ne 7, 3) := by decide +kernel
theorem dX0_headHolds_51 : decode cX0_headHolds 51 = .ok (.iconst 1, 1) := by decide +kernel
theorem dX0_headHolds_52 : decode cX0_headHolds 52 = .ok (.goto 4, 3) := by decide +kernel
theorem dX0_headHolds_55 : decode cX0_headHolds 55 = .ok (.iconst 0, 1) := by decide +kernel
theorem dX0_headHolds_56 : decode cX0_headHolds 56 = .ok (.iconst 2, 1) := by decide +kernel
theorem dX0_headHolds_57 : decode cX0_headHolds 57 = .ok (.iconst 0, 1) := by decide +kernel
theorem dX0_headHolds_58 : decode cX0_headHolds 58 = .ok (.invokevirtual 76, 3) := by decide +kernel
theorem dX0_headHolds_61 : decode cX0_headHolds 61 = .ok (.ifCond .eq 78, 3) := by decide +kernel
theorem dX0_headHolds_64 : decode cX0_headHolds 64 = .ok (.aload_n 0, 1) := by decide +kernel
theorem dX0_headHolds_65 : decode cX0_headHolds 65 = .ok (.getfield 15, 3) := by decide +kernel
theorem dX0_headHolds_68 : decode cX0_headHolds 68 = .ok (.aload_n 0, 1) := by decide +kernel
theorem dX0_headHolds_69 : decode cX0_headHolds 69 = .ok (.bipush 16, 2) := by decide +kernel
theorem dX0_headHolds_71 : decode cX0_headHolds 71 = .ok (.invokevirtual 82, 3) := by decide +kernel
theorem dX0_headHolds_74 : decode cX0_headHolds 74 = .ok (.ldc2_w 88, 3) := by decide +kernel
theorem dX0_headHolds_77 : decode cX0_headHolds 77 = .ok (.lcmp, 1) := by decide +kernel
theorem dX0_headHolds_78 : decode cX0_headHolds 78 = .ok (.ifCond .gt 7, 3) := by decide +kernel
theorem dX0_headHolds_81 : decode cX0_headHolds 81 = .ok (.iconst 1, 1) := by decide +kernel
theorem dX0_headHolds_82 : decode cX0_headHolds 82 = .ok (.goto 4, 3) := by decide +kernel
theorem dX0_headHolds_85 : decode cX0_headHolds 85 = .ok (.iconst 0, 1) := by decide +kernel
theorem dX0_headHolds_86 : decode cX0_headHolds 86 = .ok (.iconst 3, 1) := by decide +kernel
theorem dX0_headHolds_87 : decode cX0_headHolds 87 = .ok (.bipush 16, 2) := by decide +kernel
theorem dX0_headHolds_89 : decode cX0_headHolds 89 = .ok (.invokevirtual 76, 3) := by decide +kernel
theorem dX0_headHolds_92 : decode cX0_headHolds 92 = .ok (.ifCond .eq 47, 3) := by decide +kernel
theorem dX0_headHolds_95 : decode cX0_headHolds 95 = .ok (.aload_n 0, 1) := by decide +kernel
theorem dX0_headHolds_96 : decode cX0_headHolds 96 = .ok (.getfield 15, 3) := by decide +kernel
theorem dX0_headHolds_99 : decode cX0_headHolds 99 = .ok (.ldc2_w 90, 3) := by decide +kernel
theorem dX0_headHolds_102 : decode cX0_headHolds 102 = .ok (.aload_n 0, 1) := by decide +kernel
theorem dX0_headHolds_103 : decode cX0_headHolds 103 = .ok (.bipush 20, 2) := by decide +kernel
theorem dX0_headHolds_105 : decode cX0_headHolds 105 = .ok (.invokevirtual 82, 3) := by decide +kernel
theorem dX0_headHolds_108 : decode cX0_headHolds 108 = .ok (.ladd, 1) := by decide +kernel
theorem dX0_headHolds_109 : decode cX0_headHolds 109 = .ok (.aload_n 0, 1) := by decide +kernel
theorem dX0_headHolds_110 : decode cX0_headHolds 110 = .ok (.getfield 9, 3) := by decide +kernel
theorem dX0_headHolds_113 : decode cX0_headHolds 113 = .ok (.getfield 71, 3) := by decide +kernel
theorem dX0_headHolds_116 : decode cX0_headHolds 116 = .ok (.i2l, 1) := by decide +kernel
theorem dX0_headHolds_117 : decode cX0_headHolds 117 = .ok (.lcmp, 1) := by decide +kernel
theorem dX0_headHolds_118 : decode cX0_headHolds 118 = .ok (.ifCond .gt 7, 3) := by decide +kernel
theorem dX0_headHolds_121 : decode cX0_headHolds 121 = .ok (.iconst 1, 1) := by decide +kernel
theorem dX0_headHolds_122 : decode cX0_headHolds 122 = .ok (.goto 4, 3) := by decide +kernel
theorem dX0_headHolds_125 : decode cX0_headHolds 125 = .ok (.iconst 0, 1) := by decide +kernel
theorem dX0_headHolds_126 : decode cX0_headHolds 126 = .ok (.iconst 1, 1) := by decide +kernel
theorem dX0_headHolds_127 : decode cX0_headHolds 127 = .ok (.bipush 20, 2) := by decide +kernel
theorem dX0_headHolds_129 : decode cX0_headHolds 129 = .ok (.invokevirtual 76, 3) := by decide +kernel
theorem dX0_headHolds_132 : decode cX0_headHolds 132 = .ok (.ifCond .eq 7, 3) := by decide +kernel
theorem dX0_headHolds_135 : decode cX0_headHolds 135 = .ok (.iconst 1, 1) := by decide +kernel
theorem dX0_headHolds_136 : decode cX0_headHolds 136 = .ok (.goto 4, 3) := by decide +kernel
theorem dX0_headHolds_139 : decode cX0_headHolds 139 = .ok (.iconst 0, 1) := by decide +kernel
theorem dX0_headHolds_140 : decode cX0_headHolds 140 = .ok (.ireturn, 1) := by decide +kernel
theorem dX0_commandsHold_0 : decode cX0_commandsHold 0 = .ok (.aload_n 0, 1) := by decide +kernel
theorem dX0_commandsHold_1 : decode cX0_commandsHold 1 = .ok (.bipush 16, 2) := by decide +kernel
theorem dX0_commandsHold_3 : decode cX0_commandsHold 3 = .ok (.invokevirtual 82, 3) := by decide +kernel
theorem dX0_commandsHold_6 : decode cX0_commandsHold 6 = .ok (.l2i, 1) := by decide +kernel
theorem dX0_commandsHold_7 : decode cX0_commandsHold 7 = .ok (.istore_n 1, 1) := by decide +kernel
theorem dX0_commandsHold_8 : decode cX0_commandsHold 8 = .ok (.bipush 32, 2) := by decide +kernel
theorem dX0_commandsHold_10 : decode cX0_commandsHold 10 = .ok (.aload_n 0, 1) := by decide +kernel
theorem dX0_commandsHold_11 : decode cX0_commandsHold 11 = .ok (.bipush 20, 2) := by decide +kernel
theorem dX0_commandsHold_13 : decode cX0_commandsHold 13 = .ok (.invokevirtual 82, 3) := by decide +kernel
theorem dX0_commandsHold_16 : decode cX0_commandsHold 16 = .ok (.l2i, 1) := by decide +kernel
theorem dX0_commandsHold_17 : decode cX0_commandsHold 17 = .ok (.iadd, 1) := by decide +kernel
theorem dX0_commandsHold_18 : decode cX0_commandsHold 18 = .ok (.istore_n 2, 1) := by decide +kernel
theorem dX0_commandsHold_19 : decode cX0_commandsHold 19 = .ok (.bipush 32, 2) := by decide +kernel
theorem dX0_commandsHold_21 : decode cX0_commandsHold 21 = .ok (.istore_n 3, 1) := by decide +kernel
theorem dX0_commandsHold_22 : decode cX0_commandsHold 22 = .ok (.iconst 0, 1) := by decide +kernel
theorem dX0_commandsHold_23 : decode cX0_commandsHold 23 = .ok (.istore 4, 2) := by decide +kernel
theorem dX0_commandsHold_25 : decode cX0_commandsHold 25 = .ok (.iload 4, 2) := by decide +kernel
theorem dX0_commandsHold_27 : decode cX0_commandsHold 27 = .ok (.iload_n 1, 1) := by decide +kernel
theorem dX0_commandsHold_28 : decode cX0_commandsHold 28 = .ok (.if_icmp .ge 39, 3) := by decide +kernel
theorem dX0_commandsHold_31 : decode cX0_commandsHold 31 = .ok (.aload_n 0, 1) := by decide +kernel
theorem dX0_commandsHold_32 : decode cX0_commandsHold 32 = .ok (.iload_n 3, 1) := by decide +kernel
theorem dX0_commandsHold_33 : decode cX0_commandsHold 33 = .ok (.iload_n 2, 1) := by decide +kernel
theorem dX0_commandsHold_34 : decode cX0_commandsHold 34 = .ok (.invokevirtual 92, 3) := by decide +kernel
theorem dX0_commandsHold_37 : decode cX0_commandsHold 37 = .ok (.ifCond .eq 11, 3) := by decide +kernel
theorem dX0_commandsHold_40 : decode cX0_commandsHold 40 = .ok (.aload_n 0, 1) := by decide +kernel
theorem dX0_commandsHold_41 : decode cX0_commandsHold 41 = .ok (.iload_n 3, 1) := by decide +kernel
theorem dX0_commandsHold_42 : decode cX0_commandsHold 42 = .ok (.invokevirtual 96, 3) := by decide +kernel
theorem dX0_commandsHold_45 : decode cX0_commandsHold 45 = .ok (.ifCond .ne 5, 3) := by decide +kernel
theorem dX0_commandsHold_48 : decode cX0_commandsHold 48 = .ok (.iconst 0, 1) := by decide +kernel
theorem dX0_commandsHold_49 : decode cX0_commandsHold 49 = .ok (.ireturn, 1) := by decide +kernel
theorem dX0_commandsHold_50 : decode cX0_commandsHold 50 = .ok (.iload_n 3, 1) := by decide +kernel
theorem dX0_commandsHold_51 : decode cX0_commandsHold 51 = .ok (.aload_n 0, 1) := by decide +kernel
theorem dX0_commandsHold_52 : decode cX0_commandsHold 52 = .ok (.iload_n 3, 1) := by decide +kernel
theorem dX0_commandsHold_53 : decode cX0_commandsHold 53 = .ok (.iconst 4, 1) := by decide +kernel
theorem dX0_commandsHold_54 : decode cX0_commandsHold 54 = .ok (.iadd, 1) := by decide +kernel
theorem dX0_commandsHold_55 : decode cX0_commandsHold 55 = .ok (.invokevirtual 82, 3) := by decide +kernel
theorem dX0_commandsHold_58 : decode cX0_commandsHold 58 = .ok (.l2i, 1) := by decide +kernel
theorem dX0_commandsHold_59 : decode cX0_commandsHold 59 = .ok (.iadd, 1) := by decide +kernel
theorem dX0_commandsHold_60 : decode cX0_commandsHold 60 = .ok (.istore_n 3, 1) := by decide +kernel
theorem dX0_commandsHold_61 : decode cX0_commandsHold 61 = .ok (.iinc 4 1, 3) := by decide +kernel
theorem dX0_commandsHold_64 : decode cX0_commandsHold 64 = .ok (.goto (-39), 3) := by decide +kernel
theorem dX0_commandsHold_67 : decode cX0_commandsHold 67 = .ok (.aload_n 0, 1) := by decide +kernel
theorem dX0_commandsHold_68 : decode cX0_commandsHold 68 = .ok (.getfield 15, 3) := by decide +kernel
theorem dX0_commandsHold_71 : decode cX0_commandsHold 71 = .ok (.iload_n 3, 1) := by decide +kernel
theorem dX0_commandsHold_72 : decode cX0_commandsHold 72 = .ok (.iload_n 2, 1) := by decide +kernel
theorem dX0_commandsHold_73 : decode cX0_commandsHold 73 = .ok (.if_icmp .ne 7, 3) := by decide +kernel
theorem dX0_commandsHold_76 : decode cX0_commandsHold 76 = .ok (.iconst 1, 1) := by decide +kernel
theorem dX0_commandsHold_77 : decode cX0_commandsHold 77 = .ok (.goto 4, 3) := by decide +kernel
theorem dX0_commandsHold_80 : decode cX0_commandsHold 80 = .ok (.iconst 0, 1) := by decide +kernel
theorem dX0_commandsHold_81 : decode cX0_commandsHold 81 = .ok (.iconst 3, 1) := by decide +kernel
theorem dX0_commandsHold_82 : decode cX0_commandsHold 82 = .ok (.iload_n 3, 1) := by decide +kernel
theorem dX0_commandsHold_83 : decode cX0_commandsHold 83 = .ok (.invokevirtual 76, 3) := by decide +kernel
theorem dX0_commandsHold_86 : decode cX0_commandsHold 86 = .ok (.ireturn, 1) := by decide +kernel
theorem dX0_sizeHolds_0 : decode cX0_sizeHolds 0 = .ok (.aload_n 0, 1) := by decide +kernel
theorem dX0_sizeHolds_1 : decode cX0_sizeHolds 1 = .ok (.iload_n 1, 1) := by decide +kernel
theorem dX0_sizeHolds_2 : decode cX0_sizeHolds 2 = .ok (.iconst 4, 1) := by decide +kernel
theorem dX0_sizeHolds_3 : decode cX0_sizeHolds 3 = .ok (.iadd, 1) := by decide +kernel
theorem dX0_sizeHolds_4 : decode cX0_sizeHolds 4 = .ok (.invokevirtual 82, 3) := by decide +kernel
theorem dX0_sizeHolds_7 : decode cX0_sizeHolds 7 = .ok (.lstore_n 3, 1) := by decide +kernel
theorem dX0_sizeHolds_8 : decode cX0_sizeHolds 8 = .ok (.aload_n 0, 1) := by decide +kernel
theorem dX0_sizeHolds_9 : decode cX0_sizeHolds 9 = .ok (.getfield 15, 3) := by decide +kernel
theorem dX0_sizeHolds_12 : decode cX0_sizeHolds 12 = .ok (.iload_n 2, 1) := by decide +kernel
theorem dX0_sizeHolds_13 : decode cX0_sizeHolds 13 = .ok (.iload_n 1, 1) := by decide +kernel
theorem dX0_sizeHolds_14 : decode cX0_sizeHolds 14 = .ok (.isub, 1) := by decide +kernel
theorem dX0_sizeHolds_15 : decode cX0_sizeHolds 15 = .ok (.bipush 8, 2) := by decide +kernel
theorem dX0_sizeHolds_17 : decode cX0_sizeHolds 17 = .ok (.if_icmp .lt 7, 3) := by decide +kernel
theorem dX0_sizeHolds_20 : decode cX0_sizeHolds 20 = .ok (.iconst 1, 1) := by decide +kernel
theorem dX0_sizeHolds_21 : decode cX0_sizeHolds 21 = .ok (.goto 4, 3) := by decide +kernel
theorem dX0_sizeHolds_24 : decode cX0_sizeHolds 24 = .ok (.iconst 0, 1) := by decide +kernel
theorem dX0_sizeHolds_25 : decode cX0_sizeHolds 25 = .ok (.iconst 3, 1) := by decide +kernel
theorem dX0_sizeHolds_26 : decode cX0_sizeHolds 26 = .ok (.iload_n 1, 1) := by decide +kernel
theorem dX0_sizeHolds_27 : decode cX0_sizeHolds 27 = .ok (.invokevirtual 76, 3) := by decide +kernel
theorem dX0_sizeHolds_30 : decode cX0_sizeHolds 30 = .ok (.ifCond .eq 54, 3) := by decide +kernel
theorem dX0_sizeHolds_33 : decode cX0_sizeHolds 33 = .ok (.aload_n 0, 1) := by decide +kernel
theorem dX0_sizeHolds_34 : decode cX0_sizeHolds 34 = .ok (.getfield 15, 3) := by decide +kernel
theorem dX0_sizeHolds_37 : decode cX0_sizeHolds 37 = .ok (.lload_n 3, 1) := by decide +kernel
theorem dX0_sizeHolds_38 : decode cX0_sizeHolds 38 = .ok (.ldc2_w 100, 3) := by decide +kernel
theorem dX0_sizeHolds_41 : decode cX0_sizeHolds 41 = .ok (.lcmp, 1) := by decide +kernel
theorem dX0_sizeHolds_42 : decode cX0_sizeHolds 42 = .ok (.ifCond .lt 27, 3) := by decide +kernel
theorem dX0_sizeHolds_45 : decode cX0_sizeHolds 45 = .ok (.lload_n 3, 1) := by decide +kernel
theorem dX0_sizeHolds_46 : decode cX0_sizeHolds 46 = .ok (.ldc2_w 100, 3) := by decide +kernel
theorem dX0_sizeHolds_49 : decode cX0_sizeHolds 49 = .ok (.lrem, 1) := by decide +kernel
theorem dX0_sizeHolds_50 : decode cX0_sizeHolds 50 = .ok (.lconst 0, 1) := by decide +kernel
theorem dX0_sizeHolds_51 : decode cX0_sizeHolds 51 = .ok (.lcmp, 1) := by decide +kernel
theorem dX0_sizeHolds_52 : decode cX0_sizeHolds 52 = .ok (.ifCond .ne 17, 3) := by decide +kernel
theorem dX0_sizeHolds_55 : decode cX0_sizeHolds 55 = .ok (.iload_n 1, 1) := by decide +kernel
theorem dX0_sizeHolds_56 : decode cX0_sizeHolds 56 = .ok (.i2l, 1) := by decide +kernel
theorem dX0_sizeHolds_57 : decode cX0_sizeHolds 57 = .ok (.lload_n 3, 1) := by decide +kernel
theorem dX0_sizeHolds_58 : decode cX0_sizeHolds 58 = .ok (.ladd, 1) := by decide +kernel
theorem dX0_sizeHolds_59 : decode cX0_sizeHolds 59 = .ok (.iload_n 2, 1) := by decide +kernel
theorem dX0_sizeHolds_60 : decode cX0_sizeHolds 60 = .ok (.i2l, 1) := by decide +kernel
theorem dX0_sizeHolds_61 : decode cX0_sizeHolds 61 = .ok (.lcmp, 1) := by decide +kernel
theorem dX0_sizeHolds_62 : decode cX0_sizeHolds 62 = .ok (.ifCond .gt 7, 3) := by decide +kernel
theorem dX0_sizeHolds_65 : decode cX0_sizeHolds 65 = .ok (.iconst 1, 1) := by decide +kernel
theorem dX0_sizeHolds_66 : decode cX0_sizeHolds 66 = .ok (.goto 4, 3) := by decide +kernel
theorem dX0_sizeHolds_69 : decode cX0_sizeHolds 69 = .ok (.iconst 0, 1) := by decide +kernel
theorem dX0_sizeHolds_70 : decode cX0_sizeHolds 70 = .ok (.iconst 3, 1) := by decide +kernel
theorem dX0_sizeHolds_71 : decode cX0_sizeHolds 71 = .ok (.iload_n 1, 1) := by decide +kernel
theorem dX0_sizeHolds_72 : decode cX0_sizeHolds 72 = .ok (.iconst 4, 1) := by decide +kernel
theorem dX0_sizeHolds_73 : decode cX0_sizeHolds 73 = .ok (.iadd, 1) := by decide +kernel
theorem dX0_sizeHolds_74 : decode cX0_sizeHolds 74 = .ok (.invokevirtual 76, 3) := by decide +kernel
theorem dX0_sizeHolds_77 : decode cX0_sizeHolds 77 = .ok (.ifCond .eq 7, 3) := by decide +kernel
theorem dX0_sizeHolds_80 : decode cX0_sizeHolds 80 = .ok (.iconst 1, 1) := by decide +kernel
theorem dX0_sizeHolds_81 : decode cX0_sizeHolds 81 = .ok (.goto 4, 3) := by decide +kernel
theorem dX0_sizeHolds_84 : decode cX0_sizeHolds 84 = .ok (.iconst 0, 1) := by decide +kernel
theorem dX0_sizeHolds_85 : decode cX0_sizeHolds 85 = .ok (.ireturn, 1) := by decide +kernel
theorem dX0_commandHolds_0 : decode cX0_commandHolds 0 = .ok (.aload_n 0, 1) := by decide +kernel
theorem dX0_commandHolds_1 : decode cX0_commandHolds 1 = .ok (.iload_n 1, 1) := by decide +kernel
theorem dX0_commandHolds_2 : decode cX0_commandHolds 2 = .ok (.invokevirtual 82, 3) := by decide +kernel
theorem dX0_commandHolds_5 : decode cX0_commandHolds 5 = .ok (.lstore_n 2, 1) := by decide +kernel
theorem dX0_commandHolds_6 : decode cX0_commandHolds 6 = .ok (.lload_n 2, 1) := by decide +kernel
theorem dX0_commandHolds_7 : decode cX0_commandHolds 7 = .ok (.ldc2_w 102, 3) := by decide +kernel
theorem dX0_commandHolds_10 : decode cX0_commandHolds 10 = .ok (.lcmp, 1) := by decide +kernel
theorem dX0_commandHolds_11 : decode cX0_commandHolds 11 = .ok (.ifCond .ne 33, 3) := by decide +kernel
theorem dX0_commandHolds_14 : decode cX0_commandHolds 14 = .ok (.aload_n 0, 1) := by decide +kernel
theorem dX0_commandHolds_15 : decode cX0_commandHolds 15 = .ok (.iload_n 1, 1) := by decide +kernel
theorem dX0_commandHolds_16 : decode cX0_commandHolds 16 = .ok (.invokevirtual 104, 3) := by decide +kernel
theorem dX0_commandHolds_19 : decode cX0_commandHolds 19 = .ok (.ifCond .eq 23, 3) := by decide +kernel
theorem dX0_commandHolds_22 : decode cX0_commandHolds 22 = .ok (.aload_n 0, 1) := by decide +kernel
theorem dX0_commandHolds_23 : decode cX0_commandHolds 23 = .ok (.iload_n 1, 1) := by decide +kernel
theorem dX0_commandHolds_24 : decode cX0_commandHolds 24 = .ok (.invokevirtual 107, 3) := by decide +kernel
theorem dX0_commandHolds_27 : decode cX0_commandHolds 27 = .ok (.ifCond .eq 15, 3) := by decide +kernel
theorem dX0_commandHolds_30 : decode cX0_commandHolds 30 = .ok (.aload_n 0, 1) := by decide +kernel
theorem dX0_commandHolds_31 : decode cX0_commandHolds 31 = .ok (.iload_n 1, 1) := by decide +kernel
theorem dX0_commandHolds_32 : decode cX0_commandHolds 32 = .ok (.invokevirtual 110, 3) := by decide +kernel
theorem dX0_commandHolds_35 : decode cX0_commandHolds 35 = .ok (.ifCond .eq 7, 3) := by decide +kernel
theorem dX0_commandHolds_38 : decode cX0_commandHolds 38 = .ok (.iconst 1, 1) := by decide +kernel
theorem dX0_commandHolds_39 : decode cX0_commandHolds 39 = .ok (.goto 4, 3) := by decide +kernel
theorem dX0_commandHolds_42 : decode cX0_commandHolds 42 = .ok (.iconst 0, 1) := by decide +kernel
theorem dX0_commandHolds_43 : decode cX0_commandHolds 43 = .ok (.ireturn, 1) := by decide +kernel
theorem dX0_commandHolds_44 : decode cX0_commandHolds 44 = .ok (.lload_n 2, 1) := by decide +kernel
theorem dX0_commandHolds_45 : decode cX0_commandHolds 45 = .ok (.ldc2_w 113, 3) := by decide +kernel
theorem dX0_commandHolds_48 : decode cX0_commandHolds 48 = .ok (.lcmp, 1) := by decide +kernel
theorem dX0_commandHolds_49 : decode cX0_commandHolds 49 = .ok (.ifCond .ne 9, 3) := by decide +kernel
theorem dX0_commandHolds_52 : decode cX0_commandHolds 52 = .ok (.aload_n 0, 1) := by decide +kernel
theorem dX0_commandHolds_53 : decode cX0_commandHolds 53 = .ok (.iload_n 1, 1) := by decide +kernel
theorem dX0_commandHolds_54 : decode cX0_commandHolds 54 = .ok (.invokevirtual 115, 3) := by decide +kernel
theorem dX0_commandHolds_57 : decode cX0_commandHolds 57 = .ok (.ireturn, 1) := by decide +kernel
theorem dX0_commandHolds_58 : decode cX0_commandHolds 58 = .ok (.lload_n 2, 1) := by decide +kernel
theorem dX0_commandHolds_59 : decode cX0_commandHolds 59 = .ok (.ldc2_w 118, 3) := by decide +kernel
theorem dX0_commandHolds_62 : decode cX0_commandHolds 62 = .ok (.lcmp, 1) := by decide +kernel
theorem dX0_commandHolds_63 : decode cX0_commandHolds 63 = .ok (.ifCond .ne 9, 3) := by decide +kernel
theorem dX0_commandHolds_66 : decode cX0_commandHolds 66 = .ok (.aload_n 0, 1) := by decide +kernel
theorem dX0_commandHolds_67 : decode cX0_commandHolds 67 = .ok (.iload_n 1, 1) := by decide +kernel
theorem dX0_commandHolds_68 : decode cX0_commandHolds 68 = .ok (.invokevirtual 120, 3) := by decide +kernel
theorem dX0_commandHolds_71 : decode cX0_commandHolds 71 = .ok (.ireturn, 1) := by decide +kernel
theorem dX0_commandHolds_72 : decode cX0_commandHolds 72 = .ok (.aload_n 0, 1) := by decide +kernel
theorem dX0_commandHolds_73 : decode cX0_commandHolds 73 = .ok (.getfield 15, 3) := by decide +kernel
theorem dX0_commandHolds_76 : decode cX0_commandHolds 76 = .ok (.lload_n 2, 1) := by decide +kernel
theorem dX0_commandHolds_77 : decode cX0_commandHolds 77 = .ok (.ldc2_w 123, 3) := by decide +kernel
theorem dX0_commandHolds_80 : decode cX0_commandHolds 80 = .ok (.land, 1) := by decide +kernel
theorem dX0_commandHolds_81 : decode cX0_commandHolds 81 = .ok (.lconst 0, 1) := by decide +kernel
theorem dX0_commandHolds_82 : decode cX0_commandHolds 82 = .ok (.lcmp, 1) := by decide +kernel
theorem dX0_commandHolds_83 : decode cX0_commandHolds 83 = .ok (.ifCond .ne 7, 3) := by decide +kernel
theorem dX0_commandHolds_86 : decode cX0_commandHolds 86 = .ok (.iconst 1, 1) := by decide +kernel
theorem dX0_commandHolds_87 : decode cX0_commandHolds 87 = .ok (.goto 4, 3) := by decide +kernel
theorem dX0_commandHolds_90 : decode cX0_commandHolds 90 = .ok (.iconst 0, 1) := by decide +kernel
theorem dX0_commandHolds_91 : decode cX0_commandHolds 91 = .ok (.iconst 4, 1) := by decide +kernel
theorem dX0_commandHolds_92 : decode cX0_commandHolds 92 = .ok (.iload_n 1, 1) := by decide +kernel
theorem dX0_commandHolds_93 : decode cX0_commandHolds 93 = .ok (.invokevirtual 76, 3) := by decide +kernel
theorem dX0_commandHolds_96 : decode cX0_commandHolds 96 = .ok (.ireturn, 1) := by decide +kernel
theorem dX0_segmentHolds_0 : decode cX0_segmentHolds 0 = .ok (.aload_n 0, 1) := by decide +kernel
theorem dX0_segmentHolds_1 : decode cX0_segmentHolds 1 = .ok (.iload_n 1, 1) := by decide +kernel
theorem dX0_segmentHolds_2 : decode cX0_segmentHolds 2 = .ok (.iconst 4, 1) := by decide +kernel
theorem dX0_segmentHolds_3 : decode cX0_segmentHolds 3 = .ok (.iadd, 1) := by decide +kernel
theorem dX0_segmentHolds_4 : decode cX0_segmentHolds 4 = .ok (.invokevirtual 82, 3) := by decide +kernel
theorem dX0_segmentHolds_7 : decode cX0_segmentHolds 7 = .ok (.lstore_n 2, 1) := by decide +kernel
theorem dX0_segmentHolds_8 : decode cX0_segmentHolds 8 = .ok (.aload_n 0, 1) := by decide +kernel
theorem dX0_segmentHolds_9 : decode cX0_segmentHolds 9 = .ok (.getfield 15, 3) := by decide +kernel
theorem dX0_segmentHolds_12 : decode cX0_segmentHolds 12 = .ok (.aload_n 0, 1) := by decide +kernel
theorem dX0_segmentHolds_13 : decode cX0_segmentHolds 13 = .ok (.getfield 22, 3) := by decide +kernel
theorem dX0_segmentHolds_16 : decode cX0_segmentHolds 16 = .ok (.getfield 125, 3) := by decide +kernel
theorem dX0_segmentHolds_19 : decode cX0_segmentHolds 19 = .ok (.iconst 4, 1) := by decide +kernel
theorem dX0_segmentHolds_20 : decode cX0_segmentHolds 20 = .ok (.if_icmp .ge 7, 3) := by decide +kernel
theorem dX0_segmentHolds_23 : decode cX0_segmentHolds 23 = .ok (.iconst 1, 1) := by decide +kernel
theorem dX0_segmentHolds_24 : decode cX0_segmentHolds 24 = .ok (.goto 4, 3) := by decide +kernel
theorem dX0_segmentHolds_27 : decode cX0_segmentHolds 27 = .ok (.iconst 0, 1) := by decide +kernel
theorem dX0_segmentHolds_28 : decode cX0_segmentHolds 28 = .ok (.iconst 3, 1) := by decide +kernel
theorem dX0_segmentHolds_29 : decode cX0_segmentHolds 29 = .ok (.iload_n 1, 1) := by decide +kernel
theorem dX0_segmentHolds_30 : decode cX0_segmentHolds 30 = .ok (.invokevirtual 76, 3) := by decide +kernel
theorem dX0_segmentHolds_33 : decode cX0_segmentHolds 33 = .ok (.ifCond .eq 118, 3) := by decide +kernel
theorem dX0_segmentHolds_36 : decode cX0_segmentHolds 36 = .ok (.aload_n 0, 1) := by decide +kernel
theorem dX0_segmentHolds_37 : decode cX0_segmentHolds 37 = .ok (.getfield 15, 3) := by decide +kernel
theorem dX0_segmentHolds_40 : decode cX0_segmentHolds 40 = .ok (.lload_n 2, 1) := by decide +kernel
theorem dX0_segmentHolds_41 : decode cX0_segmentHolds 41 = .ok (.ldc2_w 128, 3) := by decide +kernel
theorem dX0_segmentHolds_44 : decode cX0_segmentHolds 44 = .ok (.lcmp, 1) := by decide +kernel
theorem dX0_segmentHolds_45 : decode cX0_segmentHolds 45 = .ok (.ifCond .lt 7, 3) := by decide +kernel
theorem dX0_segmentHolds_48 : decode cX0_segmentHolds 48 = .ok (.iconst 1, 1) := by decide +kernel
theorem dX0_segmentHolds_49 : decode cX0_segmentHolds 49 = .ok (.goto 4, 3) := by decide +kernel
theorem dX0_segmentHolds_52 : decode cX0_segmentHolds 52 = .ok (.iconst 0, 1) := by decide +kernel
theorem dX0_segmentHolds_53 : decode cX0_segmentHolds 53 = .ok (.iconst 3, 1) := by decide +kernel
theorem dX0_segmentHolds_54 : decode cX0_segmentHolds 54 = .ok (.iload_n 1, 1) := by decide +kernel
theorem dX0_segmentHolds_55 : decode cX0_segmentHolds 55 = .ok (.iconst 4, 1) := by decide +kernel
theorem dX0_segmentHolds_56 : decode cX0_segmentHolds 56 = .ok (.iadd, 1) := by decide +kernel
theorem dX0_segmentHolds_57 : decode cX0_segmentHolds 57 = .ok (.invokevirtual 76, 3) := by decide +kernel
theorem dX0_segmentHolds_60 : decode cX0_segmentHolds 60 = .ok (.ifCond .eq 91, 3) := by decide +kernel
theorem dX0_segmentHolds_63 : decode cX0_segmentHolds 63 = .ok (.aload_n 0, 1) := by decide +kernel
theorem dX0_segmentHolds_64 : decode cX0_segmentHolds 64 = .ok (.getfield 15, 3) := by decide +kernel
theorem dX0_segmentHolds_67 : decode cX0_segmentHolds 67 = .ok (.lload_n 2, 1) := by decide +kernel
theorem dX0_segmentHolds_68 : decode cX0_segmentHolds 68 = .ok (.ldc2_w 128, 3) := by decide +kernel
theorem dX0_segmentHolds_71 : decode cX0_segmentHolds 71 = .ok (.ldc2_w 130, 3) := by decide +kernel
theorem dX0_segmentHolds_74 : decode cX0_segmentHolds 74 = .ok (.aload_n 0, 1) := by decide +kernel
theorem dX0_segmentHolds_75 : decode cX0_segmentHolds 75 = .ok (.iload_n 1, 1) := by decide +kernel
theorem dX0_segmentHolds_76 : decode cX0_segmentHolds 76 = .ok (.bipush 64, 2) := by decide +kernel
theorem dX0_segmentHolds_78 : decode cX0_segmentHolds 78 = .ok (.iadd, 1) := by decide +kernel
theorem dX0_segmentHolds_79 : decode cX0_segmentHolds 79 = .ok (.invokevirtual 82, 3) := by decide +kernel
theorem dX0_segmentHolds_82 : decode cX0_segmentHolds 82 = .ok (.lmul, 1) := by decide +kernel
theorem dX0_segmentHolds_83 : decode cX0_segmentHolds 83 = .ok (.ladd, 1) := by decide +kernel
theorem dX0_segmentHolds_84 : decode cX0_segmentHolds 84 = .ok (.lcmp, 1) := by decide +kernel
theorem dX0_segmentHolds_85 : decode cX0_segmentHolds 85 = .ok (.ifCond .ne 7, 3) := by decide +kernel
theorem dX0_segmentHolds_88 : decode cX0_segmentHolds 88 = .ok (.iconst 1, 1) := by decide +kernel
theorem dX0_segmentHolds_89 : decode cX0_segmentHolds 89 = .ok (.goto 4, 3) := by decide +kernel
theorem dX0_segmentHolds_92 : decode cX0_segmentHolds 92 = .ok (.iconst 0, 1) := by decide +kernel
theorem dX0_segmentHolds_93 : decode cX0_segmentHolds 93 = .ok (.iconst 3, 1) := by decide +kernel
theorem dX0_segmentHolds_94 : decode cX0_segmentHolds 94 = .ok (.iload_n 1, 1) := by decide +kernel
theorem dX0_segmentHolds_95 : decode cX0_segmentHolds 95 = .ok (.iconst 4, 1) := by decide +kernel
theorem dX0_segmentHolds_96 : decode cX0_segmentHolds 96 = .ok (.iadd, 1) := by decide +kernel
theorem dX0_segmentHolds_97 : decode cX0_segmentHolds 97 = .ok (.invokevirtual 76, 3) := by decide +kernel
theorem dX0_segmentHolds_100 : decode cX0_segmentHolds 100 = .ok (.ifCond .eq 51, 3) := by decide +kernel
theorem dX0_segmentHolds_103 : decode cX0_segmentHolds 103 = .ok (.aload_n 0, 1) := by decide +kernel
theorem dX0_segmentHolds_104 : decode cX0_segmentHolds 104 = .ok (.iload_n 1, 1) := by decide +kernel
theorem dX0_segmentHolds_105 : decode cX0_segmentHolds 105 = .ok (.bipush 24, 2) := by decide +kernel
theorem dX0_segmentHolds_107 : decode cX0_segmentHolds 107 = .ok (.iadd, 1) := by decide +kernel
theorem dX0_segmentHolds_108 : decode cX0_segmentHolds 108 = .ok (.invokevirtual 132, 3) := by decide +kernel
theorem dX0_segmentHolds_111 : decode cX0_segmentHolds 111 = .ok (.ifCond .eq 40, 3) := by decide +kernel
theorem dX0_segmentHolds_114 : decode cX0_segmentHolds 114 = .ok (.aload_n 0, 1) := by decide +kernel
theorem dX0_segmentHolds_115 : decode cX0_segmentHolds 115 = .ok (.iload_n 1, 1) := by decide +kernel
theorem dX0_segmentHolds_116 : decode cX0_segmentHolds 116 = .ok (.bipush 32, 2) := by decide +kernel
theorem dX0_segmentHolds_118 : decode cX0_segmentHolds 118 = .ok (.iadd, 1) := by decide +kernel
theorem dX0_segmentHolds_119 : decode cX0_segmentHolds 119 = .ok (.invokevirtual 132, 3) := by decide +kernel
theorem dX0_segmentHolds_122 : decode cX0_segmentHolds 122 = .ok (.ifCond .eq 29, 3) := by decide +kernel
theorem dX0_segmentHolds_125 : decode cX0_segmentHolds 125 = .ok (.aload_n 0, 1) := by decide +kernel
theorem dX0_segmentHolds_126 : decode cX0_segmentHolds 126 = .ok (.iload_n 1, 1) := by decide +kernel
theorem dX0_segmentHolds_127 : decode cX0_segmentHolds 127 = .ok (.bipush 40, 2) := by decide +kernel
theorem dX0_segmentHolds_129 : decode cX0_segmentHolds 129 = .ok (.iadd, 1) := by decide +kernel
theorem dX0_segmentHolds_130 : decode cX0_segmentHolds 130 = .ok (.invokevirtual 132, 3) := by decide +kernel
theorem dX0_segmentHolds_133 : decode cX0_segmentHolds 133 = .ok (.ifCond .eq 18, 3) := by decide +kernel
theorem dX0_segmentHolds_136 : decode cX0_segmentHolds 136 = .ok (.aload_n 0, 1) := by decide +kernel
theorem dX0_segmentHolds_137 : decode cX0_segmentHolds 137 = .ok (.iload_n 1, 1) := by decide +kernel
theorem dX0_segmentHolds_138 : decode cX0_segmentHolds 138 = .ok (.bipush 48, 2) := by decide +kernel
theorem dX0_segmentHolds_140 : decode cX0_segmentHolds 140 = .ok (.iadd, 1) := by decide +kernel
theorem dX0_segmentHolds_141 : decode cX0_segmentHolds 141 = .ok (.invokevirtual 132, 3) := by decide +kernel
theorem dX0_segmentHolds_144 : decode cX0_segmentHolds 144 = .ok (.ifCond .eq 7, 3) := by decide +kernel
theorem dX0_segmentHolds_147 : decode cX0_segmentHolds 147 = .ok (.iconst 1, 1) := by decide +kernel
theorem dX0_segmentHolds_148 : decode cX0_segmentHolds 148 = .ok (.goto 4, 3) := by decide +kernel
theorem dX0_segmentHolds_151 : decode cX0_segmentHolds 151 = .ok (.iconst 0, 1) := by decide +kernel
theorem dX0_segmentHolds_152 : decode cX0_segmentHolds 152 = .ok (.ireturn, 1) := by decide +kernel
theorem dX0_spanHolds_0 : decode cX0_spanHolds 0 = .ok (.aload_n 0, 1) := by decide +kernel
theorem dX0_spanHolds_1 : decode cX0_spanHolds 1 = .ok (.iload_n 1, 1) := by decide +kernel
theorem dX0_spanHolds_2 : decode cX0_spanHolds 2 = .ok (.bipush 24, 2) := by decide +kernel
theorem dX0_spanHolds_4 : decode cX0_spanHolds 4 = .ok (.iadd, 1) := by decide +kernel
theorem dX0_spanHolds_5 : decode cX0_spanHolds 5 = .ok (.invokevirtual 135, 3) := by decide +kernel
theorem dX0_spanHolds_8 : decode cX0_spanHolds 8 = .ok (.lstore_n 2, 1) := by decide +kernel
theorem dX0_spanHolds_9 : decode cX0_spanHolds 9 = .ok (.aload_n 0, 1) := by decide +kernel
theorem dX0_spanHolds_10 : decode cX0_spanHolds 10 = .ok (.iload_n 1, 1) := by decide +kernel
theorem dX0_spanHolds_11 : decode cX0_spanHolds 11 = .ok (.bipush 32, 2) := by decide +kernel
theorem dX0_spanHolds_13 : decode cX0_spanHolds 13 = .ok (.iadd, 1) := by decide +kernel
theorem dX0_spanHolds_14 : decode cX0_spanHolds 14 = .ok (.invokevirtual 135, 3) := by decide +kernel
theorem dX0_spanHolds_17 : decode cX0_spanHolds 17 = .ok (.lstore 4, 2) := by decide +kernel
theorem dX0_spanHolds_19 : decode cX0_spanHolds 19 = .ok (.aload_n 0, 1) := by decide +kernel
theorem dX0_spanHolds_20 : decode cX0_spanHolds 20 = .ok (.iload_n 1, 1) := by decide +kernel
theorem dX0_spanHolds_21 : decode cX0_spanHolds 21 = .ok (.bipush 40, 2) := by decide +kernel
theorem dX0_spanHolds_23 : decode cX0_spanHolds 23 = .ok (.iadd, 1) := by decide +kernel
theorem dX0_spanHolds_24 : decode cX0_spanHolds 24 = .ok (.invokevirtual 135, 3) := by decide +kernel
theorem dX0_spanHolds_27 : decode cX0_spanHolds 27 = .ok (.lstore 6, 2) := by decide +kernel
theorem dX0_spanHolds_29 : decode cX0_spanHolds 29 = .ok (.aload_n 0, 1) := by decide +kernel
theorem dX0_spanHolds_30 : decode cX0_spanHolds 30 = .ok (.iload_n 1, 1) := by decide +kernel
theorem dX0_spanHolds_31 : decode cX0_spanHolds 31 = .ok (.bipush 48, 2) := by decide +kernel
theorem dX0_spanHolds_33 : decode cX0_spanHolds 33 = .ok (.iadd, 1) := by decide +kernel
theorem dX0_spanHolds_34 : decode cX0_spanHolds 34 = .ok (.invokevirtual 135, 3) := by decide +kernel
theorem dX0_spanHolds_37 : decode cX0_spanHolds 37 = .ok (.lstore 8, 2) := by decide +kernel
theorem dX0_spanHolds_39 : decode cX0_spanHolds 39 = .ok (.aload_n 0, 1) := by decide +kernel
theorem dX0_spanHolds_40 : decode cX0_spanHolds 40 = .ok (.getfield 15, 3) := by decide +kernel
theorem dX0_spanHolds_43 : decode cX0_spanHolds 43 = .ok (.aload_n 0, 1) := by decide +kernel
theorem dX0_spanHolds_44 : decode cX0_spanHolds 44 = .ok (.getfield 22, 3) := by decide +kernel
theorem dX0_spanHolds_47 : decode cX0_spanHolds 47 = .ok (.invokevirtual 138, 3) := by decide +kernel
theorem dX0_spanHolds_50 : decode cX0_spanHolds 50 = .ok (.i2l, 1) := by decide +kernel
theorem dX0_spanHolds_51 : decode cX0_spanHolds 51 = .ok (.lload 4, 2) := by decide +kernel
theorem dX0_spanHolds_53 : decode cX0_spanHolds 53 = .ok (.ladd, 1) := by decide +kernel
theorem dX0_spanHolds_54 : decode cX0_spanHolds 54 = .ok (.ldc2_w 142, 3) := by decide +kernel
theorem dX0_spanHolds_57 : decode cX0_spanHolds 57 = .ok (.lcmp, 1) := by decide +kernel
theorem dX0_spanHolds_58 : decode cX0_spanHolds 58 = .ok (.ifCond .gt 7, 3) := by decide +kernel
theorem dX0_spanHolds_61 : decode cX0_spanHolds 61 = .ok (.iconst 1, 1) := by decide +kernel
theorem dX0_spanHolds_62 : decode cX0_spanHolds 62 = .ok (.goto 4, 3) := by decide +kernel
theorem dX0_spanHolds_65 : decode cX0_spanHolds 65 = .ok (.iconst 0, 1) := by decide +kernel
theorem dX0_spanHolds_66 : decode cX0_spanHolds 66 = .ok (.iconst 5, 1) := by decide +kernel
theorem dX0_spanHolds_67 : decode cX0_spanHolds 67 = .ok (.iload_n 1, 1) := by decide +kernel
theorem dX0_spanHolds_68 : decode cX0_spanHolds 68 = .ok (.bipush 32, 2) := by decide +kernel
theorem dX0_spanHolds_70 : decode cX0_spanHolds 70 = .ok (.iadd, 1) := by decide +kernel
theorem dX0_spanHolds_71 : decode cX0_spanHolds 71 = .ok (.invokevirtual 76, 3) := by decide +kernel
theorem dX0_spanHolds_74 : decode cX0_spanHolds 74 = .ok (.ifCond .eq 154, 3) := by decide +kernel
theorem dX0_spanHolds_77 : decode cX0_spanHolds 77 = .ok (.aload_n 0, 1) := by decide +kernel
theorem dX0_spanHolds_78 : decode cX0_spanHolds 78 = .ok (.getfield 15, 3) := by decide +kernel
theorem dX0_spanHolds_81 : decode cX0_spanHolds 81 = .ok (.lload_n 2, 1) := by decide +kernel
theorem dX0_spanHolds_82 : decode cX0_spanHolds 82 = .ok (.lload 4, 2) := by decide +kernel
theorem dX0_spanHolds_84 : decode cX0_spanHolds 84 = .ok (.ladd, 1) := by decide +kernel
theorem dX0_spanHolds_85 : decode cX0_spanHolds 85 = .ok (.ldc2_w 144, 3) := by decide +kernel
theorem dX0_spanHolds_88 : decode cX0_spanHolds 88 = .ok (.lcmp, 1) := by decide +kernel
theorem dX0_spanHolds_89 : decode cX0_spanHolds 89 = .ok (.ifCond .gt 7, 3) := by decide +kernel
theorem dX0_spanHolds_92 : decode cX0_spanHolds 92 = .ok (.iconst 1, 1) := by decide +kernel
theorem dX0_spanHolds_93 : decode cX0_spanHolds 93 = .ok (.goto 4, 3) := by decide +kernel
theorem dX0_spanHolds_96 : decode cX0_spanHolds 96 = .ok (.iconst 0, 1) := by decide +kernel
theorem dX0_spanHolds_97 : decode cX0_spanHolds 97 = .ok (.iconst 5, 1) := by decide +kernel
theorem dX0_spanHolds_98 : decode cX0_spanHolds 98 = .ok (.iload_n 1, 1) := by decide +kernel
theorem dX0_spanHolds_99 : decode cX0_spanHolds 99 = .ok (.bipush 24, 2) := by decide +kernel
theorem dX0_spanHolds_101 : decode cX0_spanHolds 101 = .ok (.iadd, 1) := by decide +kernel
theorem dX0_spanHolds_102 : decode cX0_spanHolds 102 = .ok (.invokevirtual 76, 3) := by decide +kernel
theorem dX0_spanHolds_105 : decode cX0_spanHolds 105 = .ok (.ifCond .eq 123, 3) := by decide +kernel
theorem dX0_spanHolds_108 : decode cX0_spanHolds 108 = .ok (.aload_n 0, 1) := by decide +kernel
theorem dX0_spanHolds_109 : decode cX0_spanHolds 109 = .ok (.getfield 15, 3) := by decide +kernel
theorem dX0_spanHolds_112 : decode cX0_spanHolds 112 = .ok (.lload 6, 2) := by decide +kernel
theorem dX0_spanHolds_114 : decode cX0_spanHolds 114 = .ok (.lload 8, 2) := by decide +kernel
theorem dX0_spanHolds_116 : decode cX0_spanHolds 116 = .ok (.ladd, 1) := by decide +kernel
theorem dX0_spanHolds_117 : decode cX0_spanHolds 117 = .ok (.aload_n 0, 1) := by decide +kernel
theorem dX0_spanHolds_118 : decode cX0_spanHolds 118 = .ok (.getfield 9, 3) := by decide +kernel
theorem dX0_spanHolds_121 : decode cX0_spanHolds 121 = .ok (.getfield 71, 3) := by decide +kernel
theorem dX0_spanHolds_124 : decode cX0_spanHolds 124 = .ok (.i2l, 1) := by decide +kernel
theorem dX0_spanHolds_125 : decode cX0_spanHolds 125 = .ok (.lcmp, 1) := by decide +kernel
theorem dX0_spanHolds_126 : decode cX0_spanHolds 126 = .ok (.ifCond .gt 7, 3) := by decide +kernel
theorem dX0_spanHolds_129 : decode cX0_spanHolds 129 = .ok (.iconst 1, 1) := by decide +kernel
theorem dX0_spanHolds_130 : decode cX0_spanHolds 130 = .ok (.goto 4, 3) := by decide +kernel
theorem dX0_spanHolds_133 : decode cX0_spanHolds 133 = .ok (.iconst 0, 1) := by decide +kernel
theorem dX0_spanHolds_134 : decode cX0_spanHolds 134 = .ok (.iconst 1, 1) := by decide +kernel
theorem dX0_spanHolds_135 : decode cX0_spanHolds 135 = .ok (.iload_n 1, 1) := by decide +kernel
theorem dX0_spanHolds_136 : decode cX0_spanHolds 136 = .ok (.bipush 40, 2) := by decide +kernel
theorem dX0_spanHolds_138 : decode cX0_spanHolds 138 = .ok (.iadd, 1) := by decide +kernel
theorem dX0_spanHolds_139 : decode cX0_spanHolds 139 = .ok (.invokevirtual 76, 3) := by decide +kernel
theorem dX0_spanHolds_142 : decode cX0_spanHolds 142 = .ok (.ifCond .eq 86, 3) := by decide +kernel
theorem dX0_spanHolds_145 : decode cX0_spanHolds 145 = .ok (.aload_n 0, 1) := by decide +kernel
theorem dX0_spanHolds_146 : decode cX0_spanHolds 146 = .ok (.getfield 15, 3) := by decide +kernel
theorem dX0_spanHolds_149 : decode cX0_spanHolds 149 = .ok (.lload 8, 2) := by decide +kernel
theorem dX0_spanHolds_151 : decode cX0_spanHolds 151 = .ok (.lload 4, 2) := by decide +kernel
theorem dX0_spanHolds_153 : decode cX0_spanHolds 153 = .ok (.lcmp, 1) := by decide +kernel
theorem dX0_spanHolds_154 : decode cX0_spanHolds 154 = .ok (.ifCond .gt 7, 3) := by decide +kernel
theorem dX0_spanHolds_157 : decode cX0_spanHolds 157 = .ok (.iconst 1, 1) := by decide +kernel
theorem dX0_spanHolds_158 : decode cX0_spanHolds 158 = .ok (.goto 4, 3) := by decide +kernel
theorem dX0_spanHolds_161 : decode cX0_spanHolds 161 = .ok (.iconst 0, 1) := by decide +kernel
theorem dX0_spanHolds_162 : decode cX0_spanHolds 162 = .ok (.bipush 6, 2) := by decide +kernel
theorem dX0_spanHolds_164 : decode cX0_spanHolds 164 = .ok (.iload_n 1, 1) := by decide +kernel
theorem dX0_spanHolds_165 : decode cX0_spanHolds 165 = .ok (.bipush 48, 2) := by decide +kernel
theorem dX0_spanHolds_167 : decode cX0_spanHolds 167 = .ok (.iadd, 1) := by decide +kernel
theorem dX0_spanHolds_168 : decode cX0_spanHolds 168 = .ok (.invokevirtual 76, 3) := by decide +kernel
theorem dX0_spanHolds_171 : decode cX0_spanHolds 171 = .ok (.ifCond .eq 57, 3) := by decide +kernel
theorem dX0_spanHolds_174 : decode cX0_spanHolds 174 = .ok (.aload_n 0, 1) := by decide +kernel
theorem dX0_spanHolds_175 : decode cX0_spanHolds 175 = .ok (.getfield 15, 3) := by decide +kernel
theorem dX0_spanHolds_178 : decode cX0_spanHolds 178 = .ok (.aload_n 0, 1) := by decide +kernel
theorem dX0_spanHolds_179 : decode cX0_spanHolds 179 = .ok (.getfield 22, 3) := by decide +kernel
theorem dX0_spanHolds_182 : decode cX0_spanHolds 182 = .ok (.lload_n 2, 1) := by decide +kernel
theorem dX0_spanHolds_183 : decode cX0_spanHolds 183 = .ok (.lload 4, 2) := by decide +kernel
theorem dX0_spanHolds_185 : decode cX0_spanHolds 185 = .ok (.invokevirtual 146, 3) := by decide +kernel
theorem dX0_spanHolds_188 : decode cX0_spanHolds 188 = .ok (.ifCond .ne 7, 3) := by decide +kernel
theorem dX0_spanHolds_191 : decode cX0_spanHolds 191 = .ok (.iconst 1, 1) := by decide +kernel
theorem dX0_spanHolds_192 : decode cX0_spanHolds 192 = .ok (.goto 4, 3) := by decide +kernel
theorem dX0_spanHolds_195 : decode cX0_spanHolds 195 = .ok (.iconst 0, 1) := by decide +kernel
theorem dX0_spanHolds_196 : decode cX0_spanHolds 196 = .ok (.bipush 6, 2) := by decide +kernel
theorem dX0_spanHolds_198 : decode cX0_spanHolds 198 = .ok (.iload_n 1, 1) := by decide +kernel
theorem dX0_spanHolds_199 : decode cX0_spanHolds 199 = .ok (.bipush 24, 2) := by decide +kernel
theorem dX0_spanHolds_201 : decode cX0_spanHolds 201 = .ok (.iadd, 1) := by decide +kernel
theorem dX0_spanHolds_202 : decode cX0_spanHolds 202 = .ok (.invokevirtual 76, 3) := by decide +kernel
theorem dX0_spanHolds_205 : decode cX0_spanHolds 205 = .ok (.ifCond .eq 23, 3) := by decide +kernel
theorem dX0_spanHolds_208 : decode cX0_spanHolds 208 = .ok (.aload_n 0, 1) := by decide +kernel
theorem dX0_spanHolds_209 : decode cX0_spanHolds 209 = .ok (.getfield 22, 3) := by decide +kernel
theorem dX0_spanHolds_212 : decode cX0_spanHolds 212 = .ok (.lload_n 2, 1) := by decide +kernel
theorem dX0_spanHolds_213 : decode cX0_spanHolds 213 = .ok (.l2i, 1) := by decide +kernel
theorem dX0_spanHolds_214 : decode cX0_spanHolds 214 = .ok (.lload 4, 2) := by decide +kernel
theorem dX0_spanHolds_216 : decode cX0_spanHolds 216 = .ok (.l2i, 1) := by decide +kernel
theorem dX0_spanHolds_217 : decode cX0_spanHolds 217 = .ok (.lload 6, 2) := by decide +kernel
theorem dX0_spanHolds_219 : decode cX0_spanHolds 219 = .ok (.l2i, 1) := by decide +kernel
theorem dX0_spanHolds_220 : decode cX0_spanHolds 220 = .ok (.lload 8, 2) := by decide +kernel
theorem dX0_spanHolds_222 : decode cX0_spanHolds 222 = .ok (.l2i, 1) := by decide +kernel
theorem dX0_spanHolds_223 : decode cX0_spanHolds 223 = .ok (.invokevirtual 150, 3) := by decide +kernel
theorem dX0_spanHolds_226 : decode cX0_spanHolds 226 = .ok (.iconst 1, 1) := by decide +kernel
theorem dX0_spanHolds_227 : decode cX0_spanHolds 227 = .ok (.ireturn, 1) := by decide +kernel
theorem dX0_spanHolds_228 : decode cX0_spanHolds 228 = .ok (.iconst 0, 1) := by decide +kernel
theorem dX0_spanHolds_229 : decode cX0_spanHolds 229 = .ok (.ireturn, 1) := by decide +kernel
theorem dX0_sectionsHold_0 : decode cX0_sectionsHold 0 = .ok (.aload_n 0, 1) := by decide +kernel
theorem dX0_sectionsHold_1 : decode cX0_sectionsHold 1 = .ok (.iload_n 1, 1) := by decide +kernel
theorem dX0_sectionsHold_2 : decode cX0_sectionsHold 2 = .ok (.bipush 24, 2) := by decide +kernel
theorem dX0_sectionsHold_4 : decode cX0_sectionsHold 4 = .ok (.iadd, 1) := by decide +kernel
theorem dX0_sectionsHold_5 : decode cX0_sectionsHold 5 = .ok (.invokevirtual 135, 3) := by decide +kernel
theorem dX0_sectionsHold_8 : decode cX0_sectionsHold 8 = .ok (.lstore_n 2, 1) := by decide +kernel
theorem dX0_sectionsHold_9 : decode cX0_sectionsHold 9 = .ok (.lload_n 2, 1) := by decide +kernel
theorem dX0_sectionsHold_10 : decode cX0_sectionsHold 10 = .ok (.aload_n 0, 1) := by decide +kernel
theorem dX0_sectionsHold_11 : decode cX0_sectionsHold 11 = .ok (.iload_n 1, 1) := by decide +kernel
theorem dX0_sectionsHold_12 : decode cX0_sectionsHold 12 = .ok (.bipush 32, 2) := by decide +kernel
theorem dX0_sectionsHold_14 : decode cX0_sectionsHold 14 = .ok (.iadd, 1) := by decide +kernel
theorem dX0_sectionsHold_15 : decode cX0_sectionsHold 15 = .ok (.invokevirtual 135, 3) := by decide +kernel
theorem dX0_sectionsHold_18 : decode cX0_sectionsHold 18 = .ok (.ladd, 1) := by decide +kernel
theorem dX0_sectionsHold_19 : decode cX0_sectionsHold 19 = .ok (.lstore 4, 2) := by decide +kernel
theorem dX0_sectionsHold_21 : decode cX0_sectionsHold 21 = .ok (.aload_n 0, 1) := by decide +kernel
theorem dX0_sectionsHold_22 : decode cX0_sectionsHold 22 = .ok (.iload_n 1, 1) := by decide +kernel
theorem dX0_sectionsHold_23 : decode cX0_sectionsHold 23 = .ok (.bipush 64, 2) := by decide +kernel
theorem dX0_sectionsHold_25 : decode cX0_sectionsHold 25 = .ok (.iadd, 1) := by decide +kernel
theorem dX0_sectionsHold_26 : decode cX0_sectionsHold 26 = .ok (.invokevirtual 82, 3) := by decide +kernel
theorem dX0_sectionsHold_29 : decode cX0_sectionsHold 29 = .ok (.l2i, 1) := by decide +kernel
theorem dX0_sectionsHold_30 : decode cX0_sectionsHold 30 = .ok (.istore 6, 2) := by decide +kernel
theorem dX0_sectionsHold_32 : decode cX0_sectionsHold 32 = .ok (.iconst 0, 1) := by decide +kernel
theorem dX0_sectionsHold_33 : decode cX0_sectionsHold 33 = .ok (.istore 7, 2) := by decide +kernel
theorem dX0_sectionsHold_35 : decode cX0_sectionsHold 35 = .ok (.iload 7, 2) := by decide +kernel
theorem dX0_sectionsHold_37 : decode cX0_sectionsHold 37 = .ok (.iload 6, 2) := by decide +kernel
theorem dX0_sectionsHold_39 : decode cX0_sectionsHold 39 = .ok (.if_icmp .ge 145, 3) := by decide +kernel
theorem dX0_sectionsHold_42 : decode cX0_sectionsHold 42 = .ok (.iload_n 1, 1) := by decide +kernel
theorem dX0_sectionsHold_43 : decode cX0_sectionsHold 43 = .ok (.bipush 72, 2) := by decide +kernel
theorem dX0_sectionsHold_45 : decode cX0_sectionsHold 45 = .ok (.iadd, 1) := by decide +kernel
theorem dX0_sectionsHold_46 : decode cX0_sectionsHold 46 = .ok (.bipush 80, 2) := by decide +kernel
theorem dX0_sectionsHold_48 : decode cX0_sectionsHold 48 = .ok (.iload 7, 2) := by decide +kernel
theorem dX0_sectionsHold_50 : decode cX0_sectionsHold 50 = .ok (.imul, 1) := by decide +kernel
theorem dX0_sectionsHold_51 : decode cX0_sectionsHold 51 = .ok (.iadd, 1) := by decide +kernel
theorem dX0_sectionsHold_52 : decode cX0_sectionsHold 52 = .ok (.istore 8, 2) := by decide +kernel
theorem dX0_sectionsHold_54 : decode cX0_sectionsHold 54 = .ok (.aload_n 0, 1) := by decide +kernel
theorem dX0_sectionsHold_55 : decode cX0_sectionsHold 55 = .ok (.getfield 15, 3) := by decide +kernel
theorem dX0_sectionsHold_58 : decode cX0_sectionsHold 58 = .ok (.aload_n 0, 1) := by decide +kernel
theorem dX0_sectionsHold_59 : decode cX0_sectionsHold 59 = .ok (.getfield 42, 3) := by decide +kernel
theorem dX0_sectionsHold_62 : decode cX0_sectionsHold 62 = .ok (.bipush 16, 2) := by decide +kernel
theorem dX0_sectionsHold_64 : decode cX0_sectionsHold 64 = .ok (.if_icmp .ge 7, 3) := by decide +kernel
theorem dX0_sectionsHold_67 : decode cX0_sectionsHold 67 = .ok (.iconst 1, 1) := by decide +kernel
theorem dX0_sectionsHold_68 : decode cX0_sectionsHold 68 = .ok (.goto 4, 3) := by decide +kernel
theorem dX0_sectionsHold_71 : decode cX0_sectionsHold 71 = .ok (.iconst 0, 1) := by decide +kernel
theorem dX0_sectionsHold_72 : decode cX0_sectionsHold 72 = .ok (.iconst 3, 1) := by decide +kernel
theorem dX0_sectionsHold_73 : decode cX0_sectionsHold 73 = .ok (.iload 8, 2) := by decide +kernel
theorem dX0_sectionsHold_75 : decode cX0_sectionsHold 75 = .ok (.invokevirtual 76, 3) := by decide +kernel
theorem dX0_sectionsHold_78 : decode cX0_sectionsHold 78 = .ok (.ifCond .eq 27, 3) := by decide +kernel
theorem dX0_sectionsHold_81 : decode cX0_sectionsHold 81 = .ok (.aload_n 0, 1) := by decide +kernel
theorem dX0_sectionsHold_82 : decode cX0_sectionsHold 82 = .ok (.iload 8, 2) := by decide +kernel
theorem dX0_sectionsHold_84 : decode cX0_sectionsHold 84 = .ok (.bipush 32, 2) := by decide +kernel
theorem dX0_sectionsHold_86 : decode cX0_sectionsHold 86 = .ok (.iadd, 1) := by decide +kernel
theorem dX0_sectionsHold_87 : decode cX0_sectionsHold 87 = .ok (.invokevirtual 132, 3) := by decide +kernel
theorem dX0_sectionsHold_90 : decode cX0_sectionsHold 90 = .ok (.ifCond .eq 15, 3) := by decide +kernel
theorem dX0_sectionsHold_93 : decode cX0_sectionsHold 93 = .ok (.aload_n 0, 1) := by decide +kernel
theorem dX0_sectionsHold_94 : decode cX0_sectionsHold 94 = .ok (.iload 8, 2) := by decide +kernel
theorem dX0_sectionsHold_96 : decode cX0_sectionsHold 96 = .ok (.bipush 40, 2) := by decide +kernel
theorem dX0_sectionsHold_98 : decode cX0_sectionsHold 98 = .ok (.iadd, 1) := by decide +kernel
theorem dX0_sectionsHold_99 : decode cX0_sectionsHold 99 = .ok (.invokevirtual 132, 3) := by decide +kernel
theorem dX0_sectionsHold_102 : decode cX0_sectionsHold 102 = .ok (.ifCond .ne 5, 3) := by decide +kernel
theorem dX0_sectionsHold_105 : decode cX0_sectionsHold 105 = .ok (.iconst 0, 1) := by decide +kernel
theorem dX0_sectionsHold_106 : decode cX0_sectionsHold 106 = .ok (.ireturn, 1) := by decide +kernel
theorem dX0_sectionsHold_107 : decode cX0_sectionsHold 107 = .ok (.aload_n 0, 1) := by decide +kernel
theorem dX0_sectionsHold_108 : decode cX0_sectionsHold 108 = .ok (.iload 8, 2) := by decide +kernel
theorem dX0_sectionsHold_110 : decode cX0_sectionsHold 110 = .ok (.bipush 32, 2) := by decide +kernel
theorem dX0_sectionsHold_112 : decode cX0_sectionsHold 112 = .ok (.iadd, 1) := by decide +kernel
theorem dX0_sectionsHold_113 : decode cX0_sectionsHold 113 = .ok (.invokevirtual 135, 3) := by decide +kernel
theorem dX0_sectionsHold_116 : decode cX0_sectionsHold 116 = .ok (.lstore 9, 2) := by decide +kernel
theorem dX0_sectionsHold_118 : decode cX0_sectionsHold 118 = .ok (.lload 9, 2) := by decide +kernel
theorem dX0_sectionsHold_120 : decode cX0_sectionsHold 120 = .ok (.lload_n 2, 1) := by decide +kernel
theorem dX0_sectionsHold_121 : decode cX0_sectionsHold 121 = .ok (.lcmp, 1) := by decide +kernel
theorem dX0_sectionsHold_122 : decode cX0_sectionsHold 122 = .ok (.ifCond .lt 25, 3) := by decide +kernel
theorem dX0_sectionsHold_125 : decode cX0_sectionsHold 125 = .ok (.lload 9, 2) := by decide +kernel
theorem dX0_sectionsHold_127 : decode cX0_sectionsHold 127 = .ok (.aload_n 0, 1) := by decide +kernel
theorem dX0_sectionsHold_128 : decode cX0_sectionsHold 128 = .ok (.iload 8, 2) := by decide +kernel
theorem dX0_sectionsHold_130 : decode cX0_sectionsHold 130 = .ok (.bipush 40, 2) := by decide +kernel
theorem dX0_sectionsHold_132 : decode cX0_sectionsHold 132 = .ok (.iadd, 1) := by decide +kernel
theorem dX0_sectionsHold_133 : decode cX0_sectionsHold 133 = .ok (.invokevirtual 135, 3) := by decide +kernel
theorem dX0_sectionsHold_136 : decode cX0_sectionsHold 136 = .ok (.ladd, 1) := by decide +kernel
theorem dX0_sectionsHold_137 : decode cX0_sectionsHold 137 = .ok (.lload 4, 2) := by decide +kernel
theorem dX0_sectionsHold_139 : decode cX0_sectionsHold 139 = .ok (.lcmp, 1) := by decide +kernel
theorem dX0_sectionsHold_140 : decode cX0_sectionsHold 140 = .ok (.ifCond .gt 7, 3) := by decide +kernel
theorem dX0_sectionsHold_143 : decode cX0_sectionsHold 143 = .ok (.iconst 1, 1) := by decide +kernel
theorem dX0_sectionsHold_144 : decode cX0_sectionsHold 144 = .ok (.goto 4, 3) := by decide +kernel
theorem dX0_sectionsHold_147 : decode cX0_sectionsHold 147 = .ok (.iconst 0, 1) := by decide +kernel
theorem dX0_sectionsHold_148 : decode cX0_sectionsHold 148 = .ok (.istore 11, 2) := by decide +kernel
theorem dX0_sectionsHold_150 : decode cX0_sectionsHold 150 = .ok (.aload_n 0, 1) := by decide +kernel
theorem dX0_sectionsHold_151 : decode cX0_sectionsHold 151 = .ok (.getfield 15, 3) := by decide +kernel
theorem dX0_sectionsHold_154 : decode cX0_sectionsHold 154 = .ok (.iload 11, 2) := by decide +kernel
theorem dX0_sectionsHold_156 : decode cX0_sectionsHold 156 = .ok (.bipush 7, 2) := by decide +kernel
theorem dX0_sectionsHold_158 : decode cX0_sectionsHold 158 = .ok (.iload 8, 2) := by decide +kernel
theorem dX0_sectionsHold_160 : decode cX0_sectionsHold 160 = .ok (.invokevirtual 76, 3) := by decide +kernel
theorem dX0_sectionsHold_163 : decode cX0_sectionsHold 163 = .ok (.ifCond .ne 5, 3) := by decide +kernel
theorem dX0_sectionsHold_166 : decode cX0_sectionsHold 166 = .ok (.iconst 0, 1) := by decide +kernel
theorem dX0_sectionsHold_167 : decode cX0_sectionsHold 167 = .ok (.ireturn, 1) := by decide +kernel
theorem dX0_sectionsHold_168 : decode cX0_sectionsHold 168 = .ok (.aload_n 0, 1) := by decide +kernel
theorem dX0_sectionsHold_169 : decode cX0_sectionsHold 169 = .ok (.dup, 1) := by decide +kernel
theorem dX0_sectionsHold_170 : decode cX0_sectionsHold 170 = .ok (.getfield 42, 3) := by decide +kernel
theorem dX0_sectionsHold_173 : decode cX0_sectionsHold 173 = .ok (.iconst 1, 1) := by decide +kernel
theorem dX0_sectionsHold_174 : decode cX0_sectionsHold 174 = .ok (.iadd, 1) := by decide +kernel
theorem dX0_sectionsHold_175 : decode cX0_sectionsHold 175 = .ok (.putfield 42, 3) := by decide +kernel
theorem dX0_sectionsHold_178 : decode cX0_sectionsHold 178 = .ok (.iinc 7 1, 3) := by decide +kernel
theorem dX0_sectionsHold_181 : decode cX0_sectionsHold 181 = .ok (.goto (-146), 3) := by decide +kernel
theorem dX0_sectionsHold_184 : decode cX0_sectionsHold 184 = .ok (.iconst 1, 1) := by decide +kernel
theorem dX0_sectionsHold_185 : decode cX0_sectionsHold 185 = .ok (.ireturn, 1) := by decide +kernel
theorem dX0_symtabHolds_0 : decode cX0_symtabHolds 0 = .ok (.aload_n 0, 1) := by decide +kernel
theorem dX0_symtabHolds_1 : decode cX0_symtabHolds 1 = .ok (.iload_n 1, 1) := by decide +kernel
theorem dX0_symtabHolds_2 : decode cX0_symtabHolds 2 = .ok (.bipush 12, 2) := by decide +kernel
theorem dX0_symtabHolds_4 : decode cX0_symtabHolds 4 = .ok (.iadd, 1) := by decide +kernel
theorem dX0_symtabHolds_5 : decode cX0_symtabHolds 5 = .ok (.invokevirtual 82, 3) := by decide +kernel
theorem dX0_symtabHolds_8 : decode cX0_symtabHolds 8 = .ok (.lstore_n 2, 1) := by decide +kernel
theorem dX0_symtabHolds_9 : decode cX0_symtabHolds 9 = .ok (.aload_n 0, 1) := by decide +kernel
theorem dX0_symtabHolds_10 : decode cX0_symtabHolds 10 = .ok (.getfield 15, 3) := by decide +kernel
theorem dX0_symtabHolds_13 : decode cX0_symtabHolds 13 = .ok (.aload_n 0, 1) := by decide +kernel
theorem dX0_symtabHolds_14 : decode cX0_symtabHolds 14 = .ok (.getfield 46, 3) := by decide +kernel
theorem dX0_symtabHolds_17 : decode cX0_symtabHolds 17 = .ok (.ifCond .ne 7, 3) := by decide +kernel
theorem dX0_symtabHolds_20 : decode cX0_symtabHolds 20 = .ok (.iconst 1, 1) := by decide +kernel
theorem dX0_symtabHolds_21 : decode cX0_symtabHolds 21 = .ok (.goto 4, 3) := by decide +kernel
theorem dX0_symtabHolds_24 : decode cX0_symtabHolds 24 = .ok (.iconst 0, 1) := by decide +kernel
theorem dX0_symtabHolds_25 : decode cX0_symtabHolds 25 = .ok (.iconst 3, 1) := by decide +kernel
theorem dX0_symtabHolds_26 : decode cX0_symtabHolds 26 = .ok (.iload_n 1, 1) := by decide +kernel
theorem dX0_symtabHolds_27 : decode cX0_symtabHolds 27 = .ok (.invokevirtual 76, 3) := by decide +kernel
theorem dX0_symtabHolds_30 : decode cX0_symtabHolds 30 = .ok (.ifCond .eq 211, 3) := by decide +kernel
theorem dX0_symtabHolds_33 : decode cX0_symtabHolds 33 = .ok (.aload_n 0, 1) := by decide +kernel
theorem dX0_symtabHolds_34 : decode cX0_symtabHolds 34 = .ok (.getfield 15, 3) := by decide +kernel
theorem dX0_symtabHolds_37 : decode cX0_symtabHolds 37 = .ok (.aload_n 0, 1) := by decide +kernel
theorem dX0_symtabHolds_38 : decode cX0_symtabHolds 38 = .ok (.iload_n 1, 1) := by decide +kernel
theorem dX0_symtabHolds_39 : decode cX0_symtabHolds 39 = .ok (.iconst 4, 1) := by decide +kernel
theorem dX0_symtabHolds_40 : decode cX0_symtabHolds 40 = .ok (.iadd, 1) := by decide +kernel
theorem dX0_symtabHolds_41 : decode cX0_symtabHolds 41 = .ok (.invokevirtual 82, 3) := by decide +kernel
theorem dX0_symtabHolds_44 : decode cX0_symtabHolds 44 = .ok (.ldc2_w 154, 3) := by decide +kernel
theorem dX0_symtabHolds_47 : decode cX0_symtabHolds 47 = .ok (.lcmp, 1) := by decide +kernel
theorem dX0_symtabHolds_48 : decode cX0_symtabHolds 48 = .ok (.ifCond .ne 7, 3) := by decide +kernel
theorem dX0_symtabHolds_51 : decode cX0_symtabHolds 51 = .ok (.iconst 1, 1) := by decide +kernel
theorem dX0_symtabHolds_52 : decode cX0_symtabHolds 52 = .ok (.goto 4, 3) := by decide +kernel
theorem dX0_symtabHolds_55 : decode cX0_symtabHolds 55 = .ok (.iconst 0, 1) := by decide +kernel
theorem dX0_symtabHolds_56 : decode cX0_symtabHolds 56 = .ok (.iconst 3, 1) := by decide +kernel
theorem dX0_symtabHolds_57 : decode cX0_symtabHolds 57 = .ok (.iload_n 1, 1) := by decide +kernel
theorem dX0_symtabHolds_58 : decode cX0_symtabHolds 58 = .ok (.iconst 4, 1) := by decide +kernel
theorem dX0_symtabHolds_59 : decode cX0_symtabHolds 59 = .ok (.iadd, 1) := by decide +kernel
theorem dX0_symtabHolds_60 : decode cX0_symtabHolds 60 = .ok (.invokevirtual 76, 3) := by decide +kernel
theorem dX0_symtabHolds_63 : decode cX0_symtabHolds 63 = .ok (.ifCond .eq 178, 3) := by decide +kernel
theorem dX0_symtabHolds_66 : decode cX0_symtabHolds 66 = .ok (.aload_n 0, 1) := by decide +kernel
theorem dX0_symtabHolds_67 : decode cX0_symtabHolds 67 = .ok (.getfield 15, 3) := by decide +kernel
theorem dX0_symtabHolds_70 : decode cX0_symtabHolds 70 = .ok (.lload_n 2, 1) := by decide +kernel
theorem dX0_symtabHolds_71 : decode cX0_symtabHolds 71 = .ok (.ldc2_w 156, 3) := by decide +kernel
theorem dX0_symtabHolds_74 : decode cX0_symtabHolds 74 = .ok (.lcmp, 1) := by decide +kernel
theorem dX0_symtabHolds_75 : decode cX0_symtabHolds 75 = .ok (.ifCond .gt 7, 3) := by decide +kernel
theorem dX0_symtabHolds_78 : decode cX0_symtabHolds 78 = .ok (.iconst 1, 1) := by decide +kernel
theorem dX0_symtabHolds_79 : decode cX0_symtabHolds 79 = .ok (.goto 4, 3) := by decide +kernel
theorem dX0_symtabHolds_82 : decode cX0_symtabHolds 82 = .ok (.iconst 0, 1) := by decide +kernel
theorem dX0_symtabHolds_83 : decode cX0_symtabHolds 83 = .ok (.iconst 3, 1) := by decide +kernel
theorem dX0_symtabHolds_84 : decode cX0_symtabHolds 84 = .ok (.iload_n 1, 1) := by decide +kernel
theorem dX0_symtabHolds_85 : decode cX0_symtabHolds 85 = .ok (.bipush 12, 2) := by decide +kernel
theorem dX0_symtabHolds_87 : decode cX0_symtabHolds 87 = .ok (.iadd, 1) := by decide +kernel
theorem dX0_symtabHolds_88 : decode cX0_symtabHolds 88 = .ok (.invokevirtual 76, 3) := by decide +kernel
theorem dX0_symtabHolds_91 : decode cX0_symtabHolds 91 = .ok (.ifCond .eq 150, 3) := by decide +kernel
theorem dX0_symtabHolds_94 : decode cX0_symtabHolds 94 = .ok (.aload_n 0, 1) := by decide +kernel
theorem dX0_symtabHolds_95 : decode cX0_symtabHolds 95 = .ok (.getfield 15, 3) := by decide +kernel
theorem dX0_symtabHolds_98 : decode cX0_symtabHolds 98 = .ok (.aload_n 0, 1) := by decide +kernel
theorem dX0_symtabHolds_99 : decode cX0_symtabHolds 99 = .ok (.iload_n 1, 1) := by decide +kernel
theorem dX0_symtabHolds_100 : decode cX0_symtabHolds 100 = .ok (.bipush 8, 2) := by decide +kernel
theorem dX0_symtabHolds_102 : decode cX0_symtabHolds 102 = .ok (.iadd, 1) := by decide +kernel
theorem dX0_symtabHolds_103 : decode cX0_symtabHolds 103 = .ok (.invokevirtual 82, 3) := by decide +kernel
theorem dX0_symtabHolds_106 : decode cX0_symtabHolds 106 = .ok (.ldc2_w 88, 3) := by decide +kernel
theorem dX0_symtabHolds_109 : decode cX0_symtabHolds 109 = .ok (.lload_n 2, 1) := by decide +kernel
theorem dX0_symtabHolds_110 : decode cX0_symtabHolds 110 = .ok (.lmul, 1) := by decide +kernel
theorem dX0_symtabHolds_111 : decode cX0_symtabHolds 111 = .ok (.ladd, 1) := by decide +kernel
theorem dX0_symtabHolds_112 : decode cX0_symtabHolds 112 = .ok (.aload_n 0, 1) := by decide +kernel
theorem dX0_symtabHolds_113 : decode cX0_symtabHolds 113 = .ok (.getfield 9, 3) := by decide +kernel
theorem dX0_symtabHolds_116 : decode cX0_symtabHolds 116 = .ok (.getfield 71, 3) := by decide +kernel
theorem dX0_symtabHolds_119 : decode cX0_symtabHolds 119 = .ok (.i2l, 1) := by decide +kernel
theorem dX0_symtabHolds_120 : decode cX0_symtabHolds 120 = .ok (.lcmp, 1) := by decide +kernel
theorem dX0_symtabHolds_121 : decode cX0_symtabHolds 121 = .ok (.ifCond .gt 7, 3) := by decide +kernel
theorem dX0_symtabHolds_124 : decode cX0_symtabHolds 124 = .ok (.iconst 1, 1) := by decide +kernel
theorem dX0_symtabHolds_125 : decode cX0_symtabHolds 125 = .ok (.goto 4, 3) := by decide +kernel
theorem dX0_symtabHolds_128 : decode cX0_symtabHolds 128 = .ok (.iconst 0, 1) := by decide +kernel
theorem dX0_symtabHolds_129 : decode cX0_symtabHolds 129 = .ok (.iconst 1, 1) := by decide +kernel
theorem dX0_symtabHolds_130 : decode cX0_symtabHolds 130 = .ok (.iload_n 1, 1) := by decide +kernel
theorem dX0_symtabHolds_131 : decode cX0_symtabHolds 131 = .ok (.bipush 8, 2) := by decide +kernel
theorem dX0_symtabHolds_133 : decode cX0_symtabHolds 133 = .ok (.iadd, 1) := by decide +kernel
theorem dX0_symtabHolds_134 : decode cX0_symtabHolds 134 = .ok (.invokevirtual 76, 3) := by decide +kernel
theorem dX0_symtabHolds_137 : decode cX0_symtabHolds 137 = .ok (.ifCond .eq 104, 3) := by decide +kernel
theorem dX0_symtabHolds_140 : decode cX0_symtabHolds 140 = .ok (.aload_n 0, 1) := by decide +kernel
theorem dX0_symtabHolds_141 : decode cX0_symtabHolds 141 = .ok (.getfield 15, 3) := by decide +kernel
theorem dX0_symtabHolds_144 : decode cX0_symtabHolds 144 = .ok (.aload_n 0, 1) := by decide +kernel
theorem dX0_symtabHolds_145 : decode cX0_symtabHolds 145 = .ok (.iload_n 1, 1) := by decide +kernel
theorem dX0_symtabHolds_146 : decode cX0_symtabHolds 146 = .ok (.bipush 16, 2) := by decide +kernel
theorem dX0_symtabHolds_148 : decode cX0_symtabHolds 148 = .ok (.iadd, 1) := by decide +kernel
theorem dX0_symtabHolds_149 : decode cX0_symtabHolds 149 = .ok (.invokevirtual 82, 3) := by decide +kernel
theorem dX0_symtabHolds_152 : decode cX0_symtabHolds 152 = .ok (.aload_n 0, 1) := by decide +kernel
theorem dX0_symtabHolds_153 : decode cX0_symtabHolds 153 = .ok (.iload_n 1, 1) := by decide +kernel
theorem dX0_symtabHolds_154 : decode cX0_symtabHolds 154 = .ok (.bipush 20, 2) := by decide +kernel
theorem dX0_symtabHolds_156 : decode cX0_symtabHolds 156 = .ok (.iadd, 1) := by decide +kernel
theorem dX0_symtabHolds_157 : decode cX0_symtabHolds 157 = .ok (.invokevirtual 82, 3) := by decide +kernel
theorem dX0_symtabHolds_160 : decode cX0_symtabHolds 160 = .ok (.ladd, 1) := by decide +kernel
theorem dX0_symtabHolds_161 : decode cX0_symtabHolds 161 = .ok (.aload_n 0, 1) := by decide +kernel
theorem dX0_symtabHolds_162 : decode cX0_symtabHolds 162 = .ok (.getfield 9, 3) := by decide +kernel
theorem dX0_symtabHolds_165 : decode cX0_symtabHolds 165 = .ok (.getfield 71, 3) := by decide +kernel
theorem dX0_symtabHolds_168 : decode cX0_symtabHolds 168 = .ok (.i2l, 1) := by decide +kernel
theorem dX0_symtabHolds_169 : decode cX0_symtabHolds 169 = .ok (.lcmp, 1) := by decide +kernel
theorem dX0_symtabHolds_170 : decode cX0_symtabHolds 170 = .ok (.ifCond .gt 7, 3) := by decide +kernel
theorem dX0_symtabHolds_173 : decode cX0_symtabHolds 173 = .ok (.iconst 1, 1) := by decide +kernel
theorem dX0_symtabHolds_174 : decode cX0_symtabHolds 174 = .ok (.goto 4, 3) := by decide +kernel
theorem dX0_symtabHolds_177 : decode cX0_symtabHolds 177 = .ok (.iconst 0, 1) := by decide +kernel
theorem dX0_symtabHolds_178 : decode cX0_symtabHolds 178 = .ok (.iconst 1, 1) := by decide +kernel
theorem dX0_symtabHolds_179 : decode cX0_symtabHolds 179 = .ok (.iload_n 1, 1) := by decide +kernel
theorem dX0_symtabHolds_180 : decode cX0_symtabHolds 180 = .ok (.bipush 16, 2) := by decide +kernel
theorem dX0_symtabHolds_182 : decode cX0_symtabHolds 182 = .ok (.iadd, 1) := by decide +kernel
theorem dX0_symtabHolds_183 : decode cX0_symtabHolds 183 = .ok (.invokevirtual 76, 3) := by decide +kernel
theorem dX0_symtabHolds_186 : decode cX0_symtabHolds 186 = .ok (.ifCond .eq 55, 3) := by decide +kernel
theorem dX0_symtabHolds_189 : decode cX0_symtabHolds 189 = .ok (.aload_n 0, 1) := by decide +kernel
theorem dX0_symtabHolds_190 : decode cX0_symtabHolds 190 = .ok (.iconst 1, 1) := by decide +kernel
theorem dX0_symtabHolds_191 : decode cX0_symtabHolds 191 = .ok (.putfield 46, 3) := by decide +kernel
theorem dX0_symtabHolds_194 : decode cX0_symtabHolds 194 = .ok (.aload_n 0, 1) := by decide +kernel
theorem dX0_symtabHolds_195 : decode cX0_symtabHolds 195 = .ok (.aload_n 0, 1) := by decide +kernel
theorem dX0_symtabHolds_196 : decode cX0_symtabHolds 196 = .ok (.iload_n 1, 1) := by decide +kernel
theorem dX0_symtabHolds_197 : decode cX0_symtabHolds 197 = .ok (.bipush 8, 2) := by decide +kernel
theorem dX0_symtabHolds_199 : decode cX0_symtabHolds 199 = .ok (.iadd, 1) := by decide +kernel
theorem dX0_symtabHolds_200 : decode cX0_symtabHolds 200 = .ok (.invokevirtual 82, 3) := by decide +kernel
theorem dX0_symtabHolds_203 : decode cX0_symtabHolds 203 = .ok (.l2i, 1) := by decide +kernel
theorem dX0_symtabHolds_204 : decode cX0_symtabHolds 204 = .ok (.putfield 53, 3) := by decide +kernel
theorem dX0_symtabHolds_207 : decode cX0_symtabHolds 207 = .ok (.aload_n 0, 1) := by decide +kernel
theorem dX0_symtabHolds_208 : decode cX0_symtabHolds 208 = .ok (.lload_n 2, 1) := by decide +kernel
theorem dX0_symtabHolds_209 : decode cX0_symtabHolds 209 = .ok (.l2i, 1) := by decide +kernel
theorem dX0_symtabHolds_210 : decode cX0_symtabHolds 210 = .ok (.putfield 50, 3) := by decide +kernel
theorem dX0_symtabHolds_213 : decode cX0_symtabHolds 213 = .ok (.aload_n 0, 1) := by decide +kernel
theorem dX0_symtabHolds_214 : decode cX0_symtabHolds 214 = .ok (.aload_n 0, 1) := by decide +kernel
theorem dX0_symtabHolds_215 : decode cX0_symtabHolds 215 = .ok (.iload_n 1, 1) := by decide +kernel
theorem dX0_symtabHolds_216 : decode cX0_symtabHolds 216 = .ok (.bipush 16, 2) := by decide +kernel
theorem dX0_symtabHolds_218 : decode cX0_symtabHolds 218 = .ok (.iadd, 1) := by decide +kernel
theorem dX0_symtabHolds_219 : decode cX0_symtabHolds 219 = .ok (.invokevirtual 82, 3) := by decide +kernel
theorem dX0_symtabHolds_222 : decode cX0_symtabHolds 222 = .ok (.l2i, 1) := by decide +kernel
theorem dX0_symtabHolds_223 : decode cX0_symtabHolds 223 = .ok (.putfield 56, 3) := by decide +kernel
theorem dX0_symtabHolds_226 : decode cX0_symtabHolds 226 = .ok (.aload_n 0, 1) := by decide +kernel
theorem dX0_symtabHolds_227 : decode cX0_symtabHolds 227 = .ok (.aload_n 0, 1) := by decide +kernel
theorem dX0_symtabHolds_228 : decode cX0_symtabHolds 228 = .ok (.iload_n 1, 1) := by decide +kernel
theorem dX0_symtabHolds_229 : decode cX0_symtabHolds 229 = .ok (.bipush 20, 2) := by decide +kernel
theorem dX0_symtabHolds_231 : decode cX0_symtabHolds 231 = .ok (.iadd, 1) := by decide +kernel
theorem dX0_symtabHolds_232 : decode cX0_symtabHolds 232 = .ok (.invokevirtual 82, 3) := by decide +kernel
theorem dX0_symtabHolds_235 : decode cX0_symtabHolds 235 = .ok (.l2i, 1) := by decide +kernel
theorem dX0_symtabHolds_236 : decode cX0_symtabHolds 236 = .ok (.putfield 59, 3) := by decide +kernel
theorem dX0_symtabHolds_239 : decode cX0_symtabHolds 239 = .ok (.iconst 1, 1) := by decide +kernel
theorem dX0_symtabHolds_240 : decode cX0_symtabHolds 240 = .ok (.ireturn, 1) := by decide +kernel
theorem dX0_symtabHolds_241 : decode cX0_symtabHolds 241 = .ok (.iconst 0, 1) := by decide +kernel
theorem dX0_symtabHolds_242 : decode cX0_symtabHolds 242 = .ok (.ireturn, 1) := by decide +kernel
theorem dX0_chainsHold_0 : decode cX0_chainsHold 0 = .ok (.aload_n 0, 1) := by decide +kernel
theorem dX0_chainsHold_1 : decode cX0_chainsHold 1 = .ok (.getfield 15, 3) := by decide +kernel
theorem dX0_chainsHold_4 : decode cX0_chainsHold 4 = .ok (.aload_n 0, 1) := by decide +kernel
theorem dX0_chainsHold_5 : decode cX0_chainsHold 5 = .ok (.getfield 62, 3) := by decide +kernel
theorem dX0_chainsHold_8 : decode cX0_chainsHold 8 = .ok (.ifCond .ne 7, 3) := by decide +kernel
theorem dX0_chainsHold_11 : decode cX0_chainsHold 11 = .ok (.iconst 1, 1) := by decide +kernel
theorem dX0_chainsHold_12 : decode cX0_chainsHold 12 = .ok (.goto 4, 3) := by decide +kernel
theorem dX0_chainsHold_15 : decode cX0_chainsHold 15 = .ok (.iconst 0, 1) := by decide +kernel
theorem dX0_chainsHold_16 : decode cX0_chainsHold 16 = .ok (.iconst 3, 1) := by decide +kernel
theorem dX0_chainsHold_17 : decode cX0_chainsHold 17 = .ok (.iload_n 1, 1) := by decide +kernel
theorem dX0_chainsHold_18 : decode cX0_chainsHold 18 = .ok (.invokevirtual 76, 3) := by decide +kernel
theorem dX0_chainsHold_21 : decode cX0_chainsHold 21 = .ok (.ifCond .eq 118, 3) := by decide +kernel
theorem dX0_chainsHold_24 : decode cX0_chainsHold 24 = .ok (.aload_n 0, 1) := by decide +kernel
theorem dX0_chainsHold_25 : decode cX0_chainsHold 25 = .ok (.getfield 15, 3) := by decide +kernel
theorem dX0_chainsHold_28 : decode cX0_chainsHold 28 = .ok (.aload_n 0, 1) := by decide +kernel
theorem dX0_chainsHold_29 : decode cX0_chainsHold 29 = .ok (.iload_n 1, 1) := by decide +kernel
theorem dX0_chainsHold_30 : decode cX0_chainsHold 30 = .ok (.iconst 4, 1) := by decide +kernel
theorem dX0_chainsHold_31 : decode cX0_chainsHold 31 = .ok (.iadd, 1) := by decide +kernel
theorem dX0_chainsHold_32 : decode cX0_chainsHold 32 = .ok (.invokevirtual 82, 3) := by decide +kernel
theorem dX0_chainsHold_35 : decode cX0_chainsHold 35 = .ok (.ldc2_w 88, 3) := by decide +kernel
theorem dX0_chainsHold_38 : decode cX0_chainsHold 38 = .ok (.lcmp, 1) := by decide +kernel
theorem dX0_chainsHold_39 : decode cX0_chainsHold 39 = .ok (.ifCond .ne 7, 3) := by decide +kernel
theorem dX0_chainsHold_42 : decode cX0_chainsHold 42 = .ok (.iconst 1, 1) := by decide +kernel
theorem dX0_chainsHold_43 : decode cX0_chainsHold 43 = .ok (.goto 4, 3) := by decide +kernel
theorem dX0_chainsHold_46 : decode cX0_chainsHold 46 = .ok (.iconst 0, 1) := by decide +kernel
theorem dX0_chainsHold_47 : decode cX0_chainsHold 47 = .ok (.iconst 3, 1) := by decide +kernel
theorem dX0_chainsHold_48 : decode cX0_chainsHold 48 = .ok (.iload_n 1, 1) := by decide +kernel
theorem dX0_chainsHold_49 : decode cX0_chainsHold 49 = .ok (.iconst 4, 1) := by decide +kernel
theorem dX0_chainsHold_50 : decode cX0_chainsHold 50 = .ok (.iadd, 1) := by decide +kernel
theorem dX0_chainsHold_51 : decode cX0_chainsHold 51 = .ok (.invokevirtual 76, 3) := by decide +kernel
theorem dX0_chainsHold_54 : decode cX0_chainsHold 54 = .ok (.ifCond .eq 85, 3) := by decide +kernel
theorem dX0_chainsHold_57 : decode cX0_chainsHold 57 = .ok (.aload_n 0, 1) := by decide +kernel
theorem dX0_chainsHold_58 : decode cX0_chainsHold 58 = .ok (.getfield 15, 3) := by decide +kernel
theorem dX0_chainsHold_61 : decode cX0_chainsHold 61 = .ok (.aload_n 0, 1) := by decide +kernel
theorem dX0_chainsHold_62 : decode cX0_chainsHold 62 = .ok (.iload_n 1, 1) := by decide +kernel
theorem dX0_chainsHold_63 : decode cX0_chainsHold 63 = .ok (.bipush 8, 2) := by decide +kernel
theorem dX0_chainsHold_65 : decode cX0_chainsHold 65 = .ok (.iadd, 1) := by decide +kernel
theorem dX0_chainsHold_66 : decode cX0_chainsHold 66 = .ok (.invokevirtual 82, 3) := by decide +kernel
theorem dX0_chainsHold_69 : decode cX0_chainsHold 69 = .ok (.aload_n 0, 1) := by decide +kernel
theorem dX0_chainsHold_70 : decode cX0_chainsHold 70 = .ok (.iload_n 1, 1) := by decide +kernel
theorem dX0_chainsHold_71 : decode cX0_chainsHold 71 = .ok (.bipush 12, 2) := by decide +kernel
theorem dX0_chainsHold_73 : decode cX0_chainsHold 73 = .ok (.iadd, 1) := by decide +kernel
theorem dX0_chainsHold_74 : decode cX0_chainsHold 74 = .ok (.invokevirtual 82, 3) := by decide +kernel
theorem dX0_chainsHold_77 : decode cX0_chainsHold 77 = .ok (.ladd, 1) := by decide +kernel
theorem dX0_chainsHold_78 : decode cX0_chainsHold 78 = .ok (.aload_n 0, 1) := by decide +kernel
theorem dX0_chainsHold_79 : decode cX0_chainsHold 79 = .ok (.getfield 9, 3) := by decide +kernel
theorem dX0_chainsHold_82 : decode cX0_chainsHold 82 = .ok (.getfield 71, 3) := by decide +kernel
theorem dX0_chainsHold_85 : decode cX0_chainsHold 85 = .ok (.i2l, 1) := by decide +kernel
theorem dX0_chainsHold_86 : decode cX0_chainsHold 86 = .ok (.lcmp, 1) := by decide +kernel
theorem dX0_chainsHold_87 : decode cX0_chainsHold 87 = .ok (.ifCond .gt 7, 3) := by decide +kernel
theorem dX0_chainsHold_90 : decode cX0_chainsHold 90 = .ok (.iconst 1, 1) := by decide +kernel
theorem dX0_chainsHold_91 : decode cX0_chainsHold 91 = .ok (.goto 4, 3) := by decide +kernel
theorem dX0_chainsHold_94 : decode cX0_chainsHold 94 = .ok (.iconst 0, 1) := by decide +kernel
theorem dX0_chainsHold_95 : decode cX0_chainsHold 95 = .ok (.iconst 1, 1) := by decide +kernel
theorem dX0_chainsHold_96 : decode cX0_chainsHold 96 = .ok (.iload_n 1, 1) := by decide +kernel
theorem dX0_chainsHold_97 : decode cX0_chainsHold 97 = .ok (.bipush 8, 2) := by decide +kernel
theorem dX0_chainsHold_99 : decode cX0_chainsHold 99 = .ok (.iadd, 1) := by decide +kernel
theorem dX0_chainsHold_100 : decode cX0_chainsHold 100 = .ok (.invokevirtual 76, 3) := by decide +kernel
theorem dX0_chainsHold_103 : decode cX0_chainsHold 103 = .ok (.ifCond .eq 36, 3) := by decide +kernel
theorem dX0_chainsHold_106 : decode cX0_chainsHold 106 = .ok (.aload_n 0, 1) := by decide +kernel
theorem dX0_chainsHold_107 : decode cX0_chainsHold 107 = .ok (.iconst 1, 1) := by decide +kernel
theorem dX0_chainsHold_108 : decode cX0_chainsHold 108 = .ok (.putfield 62, 3) := by decide +kernel
theorem dX0_chainsHold_111 : decode cX0_chainsHold 111 = .ok (.aload_n 0, 1) := by decide +kernel
theorem dX0_chainsHold_112 : decode cX0_chainsHold 112 = .ok (.aload_n 0, 1) := by decide +kernel
theorem dX0_chainsHold_113 : decode cX0_chainsHold 113 = .ok (.iload_n 1, 1) := by decide +kernel
theorem dX0_chainsHold_114 : decode cX0_chainsHold 114 = .ok (.bipush 8, 2) := by decide +kernel
theorem dX0_chainsHold_116 : decode cX0_chainsHold 116 = .ok (.iadd, 1) := by decide +kernel
theorem dX0_chainsHold_117 : decode cX0_chainsHold 117 = .ok (.invokevirtual 82, 3) := by decide +kernel
theorem dX0_chainsHold_120 : decode cX0_chainsHold 120 = .ok (.l2i, 1) := by decide +kernel
theorem dX0_chainsHold_121 : decode cX0_chainsHold 121 = .ok (.putfield 65, 3) := by decide +kernel
theorem dX0_chainsHold_124 : decode cX0_chainsHold 124 = .ok (.aload_n 0, 1) := by decide +kernel
theorem dX0_chainsHold_125 : decode cX0_chainsHold 125 = .ok (.aload_n 0, 1) := by decide +kernel
theorem dX0_chainsHold_126 : decode cX0_chainsHold 126 = .ok (.iload_n 1, 1) := by decide +kernel
theorem dX0_chainsHold_127 : decode cX0_chainsHold 127 = .ok (.bipush 12, 2) := by decide +kernel
theorem dX0_chainsHold_129 : decode cX0_chainsHold 129 = .ok (.iadd, 1) := by decide +kernel
theorem dX0_chainsHold_130 : decode cX0_chainsHold 130 = .ok (.invokevirtual 82, 3) := by decide +kernel
theorem dX0_chainsHold_133 : decode cX0_chainsHold 133 = .ok (.l2i, 1) := by decide +kernel
theorem dX0_chainsHold_134 : decode cX0_chainsHold 134 = .ok (.putfield 68, 3) := by decide +kernel
theorem dX0_chainsHold_137 : decode cX0_chainsHold 137 = .ok (.iconst 1, 1) := by decide +kernel
theorem dX0_chainsHold_138 : decode cX0_chainsHold 138 = .ok (.ireturn, 1) := by decide +kernel
theorem dX0_chainsHold_139 : decode cX0_chainsHold 139 = .ok (.iconst 0, 1) := by decide +kernel
theorem dX0_chainsHold_140 : decode cX0_chainsHold 140 = .ok (.ireturn, 1) := by decide +kernel
theorem dX0_symbolsHold_0 : decode cX0_symbolsHold 0 = .ok (.aload_n 0, 1) := by decide +kernel
theorem dX0_symbolsHold_1 : decode cX0_symbolsHold 1 = .ok (.getfield 9, 3) := by decide +kernel
theorem dX0_symbolsHold_4 : decode cX0_symbolsHold 4 = .ok (.aload_n 0, 1) := by decide +kernel
theorem dX0_symbolsHold_5 : decode cX0_symbolsHold 5 = .ok (.getfield 56, 3) := by decide +kernel
theorem dX0_symbolsHold_8 : decode cX0_symbolsHold 8 = .ok (.aload_n 0, 1) := by decide +kernel
theorem dX0_symbolsHold_9 : decode cX0_symbolsHold 9 = .ok (.getfield 56, 3) := by decide +kernel
theorem dX0_symbolsHold_12 : decode cX0_symbolsHold 12 = .ok (.aload_n 0, 1) := by decide +kernel
theorem dX0_symbolsHold_13 : decode cX0_symbolsHold 13 = .ok (.getfield 59, 3) := by decide +kernel
theorem dX0_symbolsHold_16 : decode cX0_symbolsHold 16 = .ok (.iadd, 1) := by decide +kernel
theorem dX0_symbolsHold_17 : decode cX0_symbolsHold 17 = .ok (.invokevirtual 158, 3) := by decide +kernel
theorem dX0_symbolsHold_20 : decode cX0_symbolsHold 20 = .ok (.istore_n 1, 1) := by decide +kernel
theorem dX0_symbolsHold_21 : decode cX0_symbolsHold 21 = .ok (.iconst 0, 1) := by decide +kernel
theorem dX0_symbolsHold_22 : decode cX0_symbolsHold 22 = .ok (.istore_n 2, 1) := by decide +kernel
theorem dX0_symbolsHold_23 : decode cX0_symbolsHold 23 = .ok (.iload_n 2, 1) := by decide +kernel
theorem dX0_symbolsHold_24 : decode cX0_symbolsHold 24 = .ok (.aload_n 0, 1) := by decide +kernel
theorem dX0_symbolsHold_25 : decode cX0_symbolsHold 25 = .ok (.getfield 50, 3) := by decide +kernel
theorem dX0_symbolsHold_28 : decode cX0_symbolsHold 28 = .ok (.if_icmp .ge 104, 3) := by decide +kernel
theorem dX0_symbolsHold_31 : decode cX0_symbolsHold 31 = .ok (.aload_n 0, 1) := by decide +kernel
theorem dX0_symbolsHold_32 : decode cX0_symbolsHold 32 = .ok (.getfield 53, 3) := by decide +kernel
theorem dX0_symbolsHold_35 : decode cX0_symbolsHold 35 = .ok (.bipush 16, 2) := by decide +kernel
theorem dX0_symbolsHold_37 : decode cX0_symbolsHold 37 = .ok (.iload_n 2, 1) := by decide +kernel
theorem dX0_symbolsHold_38 : decode cX0_symbolsHold 38 = .ok (.imul, 1) := by decide +kernel
theorem dX0_symbolsHold_39 : decode cX0_symbolsHold 39 = .ok (.iadd, 1) := by decide +kernel
theorem dX0_symbolsHold_40 : decode cX0_symbolsHold 40 = .ok (.istore_n 3, 1) := by decide +kernel
theorem dX0_symbolsHold_41 : decode cX0_symbolsHold 41 = .ok (.aload_n 0, 1) := by decide +kernel
theorem dX0_symbolsHold_42 : decode cX0_symbolsHold 42 = .ok (.getfield 15, 3) := by decide +kernel
theorem dX0_symbolsHold_45 : decode cX0_symbolsHold 45 = .ok (.aload_n 0, 1) := by decide +kernel
theorem dX0_symbolsHold_46 : decode cX0_symbolsHold 46 = .ok (.getfield 56, 3) := by decide +kernel
theorem dX0_symbolsHold_49 : decode cX0_symbolsHold 49 = .ok (.i2l, 1) := by decide +kernel
theorem dX0_symbolsHold_50 : decode cX0_symbolsHold 50 = .ok (.aload_n 0, 1) := by decide +kernel
theorem dX0_symbolsHold_51 : decode cX0_symbolsHold 51 = .ok (.iload_n 3, 1) := by decide +kernel
theorem dX0_symbolsHold_52 : decode cX0_symbolsHold 52 = .ok (.invokevirtual 82, 3) := by decide +kernel
theorem dX0_symbolsHold_55 : decode cX0_symbolsHold 55 = .ok (.ladd, 1) := by decide +kernel
theorem dX0_symbolsHold_56 : decode cX0_symbolsHold 56 = .ok (.iload_n 1, 1) := by decide +kernel
theorem dX0_symbolsHold_57 : decode cX0_symbolsHold 57 = .ok (.i2l, 1) := by decide +kernel
theorem dX0_symbolsHold_58 : decode cX0_symbolsHold 58 = .ok (.lcmp, 1) := by decide +kernel
theorem dX0_symbolsHold_59 : decode cX0_symbolsHold 59 = .ok (.ifCond .gt 7, 3) := by decide +kernel
theorem dX0_symbolsHold_62 : decode cX0_symbolsHold 62 = .ok (.iconst 1, 1) := by decide +kernel
theorem dX0_symbolsHold_63 : decode cX0_symbolsHold 63 = .ok (.goto 4, 3) := by decide +kernel
theorem dX0_symbolsHold_66 : decode cX0_symbolsHold 66 = .ok (.iconst 0, 1) := by decide +kernel
theorem dX0_symbolsHold_67 : decode cX0_symbolsHold 67 = .ok (.bipush 8, 2) := by decide +kernel
theorem dX0_symbolsHold_69 : decode cX0_symbolsHold 69 = .ok (.iload_n 3, 1) := by decide +kernel
theorem dX0_symbolsHold_70 : decode cX0_symbolsHold 70 = .ok (.invokevirtual 76, 3) := by decide +kernel
theorem dX0_symbolsHold_73 : decode cX0_symbolsHold 73 = .ok (.ifCond .eq 51, 3) := by decide +kernel
theorem dX0_symbolsHold_76 : decode cX0_symbolsHold 76 = .ok (.aload_n 0, 1) := by decide +kernel
theorem dX0_symbolsHold_77 : decode cX0_symbolsHold 77 = .ok (.getfield 15, 3) := by decide +kernel
theorem dX0_symbolsHold_80 : decode cX0_symbolsHold 80 = .ok (.aload_n 0, 1) := by decide +kernel
theorem dX0_symbolsHold_81 : decode cX0_symbolsHold 81 = .ok (.getfield 9, 3) := by decide +kernel
theorem dX0_symbolsHold_84 : decode cX0_symbolsHold 84 = .ok (.iload_n 3, 1) := by decide +kernel
theorem dX0_symbolsHold_85 : decode cX0_symbolsHold 85 = .ok (.iconst 5, 1) := by decide +kernel
theorem dX0_symbolsHold_86 : decode cX0_symbolsHold 86 = .ok (.iadd, 1) := by decide +kernel
theorem dX0_symbolsHold_87 : decode cX0_symbolsHold 87 = .ok (.invokevirtual 162, 3) := by decide +kernel
theorem dX0_symbolsHold_90 : decode cX0_symbolsHold 90 = .ok (.aload_n 0, 1) := by decide +kernel
theorem dX0_symbolsHold_91 : decode cX0_symbolsHold 91 = .ok (.getfield 42, 3) := by decide +kernel
theorem dX0_symbolsHold_94 : decode cX0_symbolsHold 94 = .ok (.if_icmp .gt 7, 3) := by decide +kernel
theorem dX0_symbolsHold_97 : decode cX0_symbolsHold 97 = .ok (.iconst 1, 1) := by decide +kernel
theorem dX0_symbolsHold_98 : decode cX0_symbolsHold 98 = .ok (.goto 4, 3) := by decide +kernel
theorem dX0_symbolsHold_101 : decode cX0_symbolsHold 101 = .ok (.iconst 0, 1) := by decide +kernel
theorem dX0_symbolsHold_102 : decode cX0_symbolsHold 102 = .ok (.bipush 8, 2) := by decide +kernel
theorem dX0_symbolsHold_104 : decode cX0_symbolsHold 104 = .ok (.iload_n 3, 1) := by decide +kernel
theorem dX0_symbolsHold_105 : decode cX0_symbolsHold 105 = .ok (.iconst 5, 1) := by decide +kernel
theorem dX0_symbolsHold_106 : decode cX0_symbolsHold 106 = .ok (.iadd, 1) := by decide +kernel
theorem dX0_symbolsHold_107 : decode cX0_symbolsHold 107 = .ok (.invokevirtual 76, 3) := by decide +kernel
theorem dX0_symbolsHold_110 : decode cX0_symbolsHold 110 = .ok (.ifCond .eq 14, 3) := by decide +kernel
theorem dX0_symbolsHold_113 : decode cX0_symbolsHold 113 = .ok (.aload_n 0, 1) := by decide +kernel
theorem dX0_symbolsHold_114 : decode cX0_symbolsHold 114 = .ok (.iload_n 3, 1) := by decide +kernel
theorem dX0_symbolsHold_115 : decode cX0_symbolsHold 115 = .ok (.bipush 8, 2) := by decide +kernel
theorem dX0_symbolsHold_117 : decode cX0_symbolsHold 117 = .ok (.iadd, 1) := by decide +kernel
theorem dX0_symbolsHold_118 : decode cX0_symbolsHold 118 = .ok (.invokevirtual 132, 3) := by decide +kernel
theorem dX0_symbolsHold_121 : decode cX0_symbolsHold 121 = .ok (.ifCond .ne 5, 3) := by decide +kernel
theorem dX0_symbolsHold_124 : decode cX0_symbolsHold 124 = .ok (.iconst 0, 1) := by decide +kernel
theorem dX0_symbolsHold_125 : decode cX0_symbolsHold 125 = .ok (.ireturn, 1) := by decide +kernel
theorem dX0_symbolsHold_126 : decode cX0_symbolsHold 126 = .ok (.iinc 2 1, 3) := by decide +kernel
theorem dX0_symbolsHold_129 : decode cX0_symbolsHold 129 = .ok (.goto (-106), 3) := by decide +kernel
theorem dX0_symbolsHold_132 : decode cX0_symbolsHold 132 = .ok (.iconst 1, 1) := by decide +kernel
theorem dX0_symbolsHold_133 : decode cX0_symbolsHold 133 = .ok (.ireturn, 1) := by decide +kernel
theorem dX0_numberHolds_0 : decode cX0_numberHolds 0 = .ok (.aload_n 0, 1) := by decide +kernel
theorem dX0_numberHolds_1 : decode cX0_numberHolds 1 = .ok (.iload_n 1, 1) := by decide +kernel
theorem dX0_numberHolds_2 : decode cX0_numberHolds 2 = .ok (.invokevirtual 135, 3) := by decide +kernel
theorem dX0_numberHolds_5 : decode cX0_numberHolds 5 = .ok (.lstore_n 2, 1) := by decide +kernel
theorem dX0_numberHolds_6 : decode cX0_numberHolds 6 = .ok (.aload_n 0, 1) := by decide +kernel
theorem dX0_numberHolds_7 : decode cX0_numberHolds 7 = .ok (.getfield 15, 3) := by decide +kernel
theorem dX0_numberHolds_10 : decode cX0_numberHolds 10 = .ok (.lload_n 2, 1) := by decide +kernel
theorem dX0_numberHolds_11 : decode cX0_numberHolds 11 = .ok (.lconst 0, 1) := by decide +kernel
theorem dX0_numberHolds_12 : decode cX0_numberHolds 12 = .ok (.lcmp, 1) := by decide +kernel
theorem dX0_numberHolds_13 : decode cX0_numberHolds 13 = .ok (.ifCond .lt 15, 3) := by decide +kernel
theorem dX0_numberHolds_16 : decode cX0_numberHolds 16 = .ok (.lload_n 2, 1) := by decide +kernel
theorem dX0_numberHolds_17 : decode cX0_numberHolds 17 = .ok (.ldc2_w 144, 3) := by decide +kernel
theorem dX0_numberHolds_20 : decode cX0_numberHolds 20 = .ok (.lcmp, 1) := by decide +kernel
theorem dX0_numberHolds_21 : decode cX0_numberHolds 21 = .ok (.ifCond .gt 7, 3) := by decide +kernel
theorem dX0_numberHolds_24 : decode cX0_numberHolds 24 = .ok (.iconst 1, 1) := by decide +kernel
theorem dX0_numberHolds_25 : decode cX0_numberHolds 25 = .ok (.goto 4, 3) := by decide +kernel
theorem dX0_numberHolds_28 : decode cX0_numberHolds 28 = .ok (.iconst 0, 1) := by decide +kernel
theorem dX0_numberHolds_29 : decode cX0_numberHolds 29 = .ok (.iconst 5, 1) := by decide +kernel
theorem dX0_numberHolds_30 : decode cX0_numberHolds 30 = .ok (.iload_n 1, 1) := by decide +kernel
theorem dX0_numberHolds_31 : decode cX0_numberHolds 31 = .ok (.invokevirtual 76, 3) := by decide +kernel
theorem dX0_numberHolds_34 : decode cX0_numberHolds 34 = .ok (.ireturn, 1) := by decide +kernel
theorem dX0_u4_0 : decode cX0_u4 0 = .ok (.aload_n 0, 1) := by decide +kernel
theorem dX0_u4_1 : decode cX0_u4 1 = .ok (.getfield 9, 3) := by decide +kernel
theorem dX0_u4_4 : decode cX0_u4 4 = .ok (.iload_n 1, 1) := by decide +kernel
theorem dX0_u4_5 : decode cX0_u4 5 = .ok (.iconst 4, 1) := by decide +kernel
theorem dX0_u4_6 : decode cX0_u4 6 = .ok (.invokevirtual 166, 3) := by decide +kernel
theorem dX0_u4_9 : decode cX0_u4 9 = .ok (.lreturn, 1) := by decide +kernel
theorem dX0_u8_0 : decode cX0_u8 0 = .ok (.aload_n 0, 1) := by decide +kernel
theorem dX0_u8_1 : decode cX0_u8 1 = .ok (.getfield 9, 3) := by decide +kernel
theorem dX0_u8_4 : decode cX0_u8 4 = .ok (.iload_n 1, 1) := by decide +kernel
theorem dX0_u8_5 : decode cX0_u8 5 = .ok (.bipush 8, 2) := by decide +kernel
theorem dX0_u8_7 : decode cX0_u8 7 = .ok (.invokevirtual 166, 3) := by decide +kernel
theorem dX0_u8_10 : decode cX0_u8 10 = .ok (.lreturn, 1) := by decide +kernel
theorem dX1_init_0 : decode cX1_init 0 = .ok (.aload_n 0, 1) := by decide +kernel
theorem dX1_init_1 : decode cX1_init 1 = .ok (.invokespecial 3, 3) := by decide +kernel
theorem dX1_init_4 : decode cX1_init 4 = .ok (.aload_n 0, 1) := by decide +kernel
theorem dX1_init_5 : decode cX1_init 5 = .ok (.new 9, 3) := by decide +kernel
theorem dX1_init_8 : decode cX1_init 8 = .ok (.dup, 1) := by decide +kernel
theorem dX1_init_9 : decode cX1_init 9 = .ok (.bipush 30, 2) := by decide +kernel
theorem dX1_init_11 : decode cX1_init 11 = .ok (.invokespecial 11, 3) := by decide +kernel
theorem dX1_init_14 : decode cX1_init 14 = .ok (.putfield 14, 3) := by decide +kernel
theorem dX1_init_17 : decode cX1_init 17 = .ok (.aload_n 0, 1) := by decide +kernel
theorem dX1_init_18 : decode cX1_init 18 = .ok (.bipush 30, 2) := by decide +kernel
theorem dX1_init_20 : decode cX1_init 20 = .ok (.newarray .int, 2) := by decide +kernel
theorem dX1_init_22 : decode cX1_init 22 = .ok (.putfield 20, 3) := by decide +kernel
theorem dX1_init_25 : decode cX1_init 25 = .ok (.aload_n 0, 1) := by decide +kernel
theorem dX1_init_26 : decode cX1_init 26 = .ok (.bipush 30, 2) := by decide +kernel
theorem dX1_init_28 : decode cX1_init 28 = .ok (.newarray .int, 2) := by decide +kernel
theorem dX1_init_30 : decode cX1_init 30 = .ok (.putfield 24, 3) := by decide +kernel
theorem dX1_init_33 : decode cX1_init 33 = .ok (.return_, 1) := by decide +kernel
theorem dX1_put_0 : decode cX1_put 0 = .ok (.aload_n 1, 1) := by decide +kernel
theorem dX1_put_1 : decode cX1_put 1 = .ok (.invokevirtual 27, 3) := by decide +kernel
theorem dX1_put_4 : decode cX1_put 4 = .ok (.ifCond .eq 14, 3) := by decide +kernel
theorem dX1_put_7 : decode cX1_put 7 = .ok (.iload_n 2, 1) := by decide +kernel
theorem dX1_put_8 : decode cX1_put 8 = .ok (.invokestatic 33, 3) := by decide +kernel
theorem dX1_put_11 : decode cX1_put 11 = .ok (.ifCond .eq 7, 3) := by decide +kernel
theorem dX1_put_14 : decode cX1_put 14 = .ok (.iload_n 3, 1) := by decide +kernel
theorem dX1_put_15 : decode cX1_put 15 = .ok (.ifCond .ge 5, 3) := by decide +kernel
theorem dX1_put_18 : decode cX1_put 18 = .ok (.iconst 0, 1) := by decide +kernel
theorem dX1_put_19 : decode cX1_put 19 = .ok (.ireturn, 1) := by decide +kernel
theorem dX1_put_20 : decode cX1_put 20 = .ok (.aload_n 0, 1) := by decide +kernel
theorem dX1_put_21 : decode cX1_put 21 = .ok (.iload_n 2, 1) := by decide +kernel
theorem dX1_put_22 : decode cX1_put 22 = .ok (.aload_n 1, 1) := by decide +kernel
theorem dX1_put_23 : decode cX1_put 23 = .ok (.iconst 0, 1) := by decide +kernel
theorem dX1_put_24 : decode cX1_put 24 = .ok (.invokevirtual 37, 3) := by decide +kernel
theorem dX1_put_27 : decode cX1_put 27 = .ok (.istore 4, 2) := by decide +kernel
theorem dX1_put_29 : decode cX1_put 29 = .ok (.iload 4, 2) := by decide +kernel
theorem dX1_put_31 : decode cX1_put 31 = .ok (.iconst (-1), 1) := by decide +kernel
theorem dX1_put_32 : decode cX1_put 32 = .ok (.if_icmp .ne 13, 3) := by decide +kernel
theorem dX1_put_35 : decode cX1_put 35 = .ok (.aload_n 0, 1) := by decide +kernel
theorem dX1_put_36 : decode cX1_put 36 = .ok (.getfield 14, 3) := by decide +kernel
theorem dX1_put_39 : decode cX1_put 39 = .ok (.aload_n 1, 1) := by decide +kernel
theorem dX1_put_40 : decode cX1_put 40 = .ok (.invokevirtual 41, 3) := by decide +kernel
theorem dX1_put_43 : decode cX1_put 43 = .ok (.istore 4, 2) := by decide +kernel
theorem dX1_put_45 : decode cX1_put 45 = .ok (.iload 4, 2) := by decide +kernel
theorem dX1_put_47 : decode cX1_put 47 = .ok (.iconst (-1), 1) := by decide +kernel
theorem dX1_put_48 : decode cX1_put 48 = .ok (.if_icmp .ne 5, 3) := by decide +kernel
theorem dX1_put_51 : decode cX1_put 51 = .ok (.iconst 0, 1) := by decide +kernel
theorem dX1_put_52 : decode cX1_put 52 = .ok (.ireturn, 1) := by decide +kernel
theorem dX1_put_53 : decode cX1_put 53 = .ok (.aload_n 0, 1) := by decide +kernel
theorem dX1_put_54 : decode cX1_put 54 = .ok (.getfield 20, 3) := by decide +kernel
theorem dX1_put_57 : decode cX1_put 57 = .ok (.iload 4, 2) := by decide +kernel
theorem dX1_put_59 : decode cX1_put 59 = .ok (.iload_n 2, 1) := by decide +kernel
theorem dX1_put_60 : decode cX1_put 60 = .ok (.iastore, 1) := by decide +kernel
theorem dX1_put_61 : decode cX1_put 61 = .ok (.aload_n 0, 1) := by decide +kernel
theorem dX1_put_62 : decode cX1_put 62 = .ok (.getfield 24, 3) := by decide +kernel
theorem dX1_put_65 : decode cX1_put 65 = .ok (.iload 4, 2) := by decide +kernel
theorem dX1_put_67 : decode cX1_put 67 = .ok (.iload_n 3, 1) := by decide +kernel
theorem dX1_put_68 : decode cX1_put 68 = .ok (.iastore, 1) := by decide +kernel
theorem dX1_put_69 : decode cX1_put 69 = .ok (.iconst 1, 1) := by decide +kernel
theorem dX1_put_70 : decode cX1_put 70 = .ok (.ireturn, 1) := by decide +kernel
theorem dX1_indexOf_0 : decode cX1_indexOf 0 = .ok (.iconst 0, 1) := by decide +kernel
theorem dX1_indexOf_1 : decode cX1_indexOf 1 = .ok (.istore 4, 2) := by decide +kernel
theorem dX1_indexOf_3 : decode cX1_indexOf 3 = .ok (.iload 4, 2) := by decide +kernel
theorem dX1_indexOf_5 : decode cX1_indexOf 5 = .ok (.aload_n 0, 1) := by decide +kernel
theorem dX1_indexOf_6 : decode cX1_indexOf 6 = .ok (.getfield 14, 3) := by decide +kernel
theorem dX1_indexOf_9 : decode cX1_indexOf 9 = .ok (.getfield 45, 3) := by decide +kernel
theorem dX1_indexOf_12 : decode cX1_indexOf 12 = .ok (.if_icmp .ge 53, 3) := by decide +kernel
theorem dX1_indexOf_15 : decode cX1_indexOf 15 = .ok (.aload_n 0, 1) := by decide +kernel
theorem dX1_indexOf_16 : decode cX1_indexOf 16 = .ok (.getfield 20, 3) := by decide +kernel
theorem dX1_indexOf_19 : decode cX1_indexOf 19 = .ok (.iload 4, 2) := by decide +kernel
theorem dX1_indexOf_21 : decode cX1_indexOf 21 = .ok (.iaload, 1) := by decide +kernel
theorem dX1_indexOf_22 : decode cX1_indexOf 22 = .ok (.iload_n 1, 1) := by decide +kernel
theorem dX1_indexOf_23 : decode cX1_indexOf 23 = .ok (.if_icmp .ne 36, 3) := by decide +kernel
theorem dX1_indexOf_26 : decode cX1_indexOf 26 = .ok (.aload_n 2, 1) := by decide +kernel
theorem dX1_indexOf_27 : decode cX1_indexOf 27 = .ok (.iload_n 3, 1) := by decide +kernel
theorem dX1_indexOf_28 : decode cX1_indexOf 28 = .ok (.aload_n 0, 1) := by decide +kernel
theorem dX1_indexOf_29 : decode cX1_indexOf 29 = .ok (.getfield 14, 3) := by decide +kernel
theorem dX1_indexOf_32 : decode cX1_indexOf 32 = .ok (.getfield 49, 3) := by decide +kernel
theorem dX1_indexOf_35 : decode cX1_indexOf 35 = .ok (.iload 4, 2) := by decide +kernel
theorem dX1_indexOf_37 : decode cX1_indexOf 37 = .ok (.bipush 16, 2) := by decide +kernel
theorem dX1_indexOf_39 : decode cX1_indexOf 39 = .ok (.imul, 1) := by decide +kernel
theorem dX1_indexOf_40 : decode cX1_indexOf 40 = .ok (.aload_n 0, 1) := by decide +kernel
theorem dX1_indexOf_41 : decode cX1_indexOf 41 = .ok (.getfield 14, 3) := by decide +kernel
theorem dX1_indexOf_44 : decode cX1_indexOf 44 = .ok (.getfield 53, 3) := by decide +kernel
theorem dX1_indexOf_47 : decode cX1_indexOf 47 = .ok (.iload 4, 2) := by decide +kernel
theorem dX1_indexOf_49 : decode cX1_indexOf 49 = .ok (.iaload, 1) := by decide +kernel
theorem dX1_indexOf_50 : decode cX1_indexOf 50 = .ok (.invokevirtual 56, 3) := by decide +kernel
theorem dX1_indexOf_53 : decode cX1_indexOf 53 = .ok (.ifCond .eq 6, 3) := by decide +kernel
theorem dX1_indexOf_56 : decode cX1_indexOf 56 = .ok (.iload 4, 2) := by decide +kernel
theorem dX1_indexOf_58 : decode cX1_indexOf 58 = .ok (.ireturn, 1) := by decide +kernel
theorem dX1_indexOf_59 : decode cX1_indexOf 59 = .ok (.iinc 4 1, 3) := by decide +kernel
theorem dX1_indexOf_62 : decode cX1_indexOf 62 = .ok (.goto (-59), 3) := by decide +kernel
theorem dX1_indexOf_65 : decode cX1_indexOf 65 = .ok (.iconst (-1), 1) := by decide +kernel
theorem dX1_indexOf_66 : decode cX1_indexOf 66 = .ok (.ireturn, 1) := by decide +kernel
theorem dX1_addressOf_0 : decode cX1_addressOf 0 = .ok (.aload_n 0, 1) := by decide +kernel
theorem dX1_addressOf_1 : decode cX1_addressOf 1 = .ok (.iload_n 1, 1) := by decide +kernel
theorem dX1_addressOf_2 : decode cX1_addressOf 2 = .ok (.aload_n 2, 1) := by decide +kernel
theorem dX1_addressOf_3 : decode cX1_addressOf 3 = .ok (.iload_n 3, 1) := by decide +kernel
theorem dX1_addressOf_4 : decode cX1_addressOf 4 = .ok (.invokevirtual 37, 3) := by decide +kernel
theorem dX1_addressOf_7 : decode cX1_addressOf 7 = .ok (.istore 4, 2) := by decide +kernel
theorem dX1_addressOf_9 : decode cX1_addressOf 9 = .ok (.iload 4, 2) := by decide +kernel
theorem dX1_addressOf_11 : decode cX1_addressOf 11 = .ok (.iconst (-1), 1) := by decide +kernel
theorem dX1_addressOf_12 : decode cX1_addressOf 12 = .ok (.if_icmp .ne 7, 3) := by decide +kernel
theorem dX1_addressOf_15 : decode cX1_addressOf 15 = .ok (.iconst (-1), 1) := by decide +kernel
theorem dX1_addressOf_16 : decode cX1_addressOf 16 = .ok (.goto 10, 3) := by decide +kernel
theorem dX1_addressOf_19 : decode cX1_addressOf 19 = .ok (.aload_n 0, 1) := by decide +kernel
theorem dX1_addressOf_20 : decode cX1_addressOf 20 = .ok (.getfield 24, 3) := by decide +kernel
theorem dX1_addressOf_23 : decode cX1_addressOf 23 = .ok (.iload 4, 2) := by decide +kernel
theorem dX1_addressOf_25 : decode cX1_addressOf 25 = .ok (.iaload, 1) := by decide +kernel
theorem dX1_addressOf_26 : decode cX1_addressOf 26 = .ok (.ireturn, 1) := by decide +kernel
theorem dX2_init_0 : decode cX2_init 0 = .ok (.aload_n 0, 1) := by decide +kernel
theorem dX2_init_1 : decode cX2_init 1 = .ok (.invokespecial 3, 3) := by decide +kernel
theorem dX2_init_4 : decode cX2_init 4 = .ok (.aload_n 0, 1) := by decide +kernel
theorem dX2_init_5 : decode cX2_init 5 = .ok (.invokevirtual 9, 3) := by decide +kernel
theorem dX2_init_8 : decode cX2_init 8 = .ok (.return_, 1) := by decide +kernel
theorem dX2_clear_0 : decode cX2_clear 0 = .ok (.aload_n 0, 1) := by decide +kernel
theorem dX2_clear_1 : decode cX2_clear 1 = .ok (.iconst 0, 1) := by decide +kernel
theorem dX2_clear_2 : decode cX2_clear 2 = .ok (.putfield 14, 3) := by decide +kernel
theorem dX2_clear_5 : decode cX2_clear 5 = .ok (.aload_n 0, 1) := by decide +kernel
theorem dX2_clear_6 : decode cX2_clear 6 = .ok (.iconst (-1), 1) := by decide +kernel
theorem dX2_clear_7 : decode cX2_clear 7 = .ok (.putfield 18, 3) := by decide +kernel
theorem dX2_clear_10 : decode cX2_clear 10 = .ok (.return_, 1) := by decide +kernel
theorem dX2_unless_0 : decode cX2_unless 0 = .ok (.iload_n 1, 1) := by decide +kernel
theorem dX2_unless_1 : decode cX2_unless 1 = .ok (.ifCond .ne 13, 3) := by decide +kernel
theorem dX2_unless_4 : decode cX2_unless 4 = .ok (.aload_n 0, 1) := by decide +kernel
theorem dX2_unless_5 : decode cX2_unless 5 = .ok (.iload_n 2, 1) := by decide +kernel
theorem dX2_unless_6 : decode cX2_unless 6 = .ok (.putfield 14, 3) := by decide +kernel
theorem dX2_unless_9 : decode cX2_unless 9 = .ok (.aload_n 0, 1) := by decide +kernel
theorem dX2_unless_10 : decode cX2_unless 10 = .ok (.iload_n 3, 1) := by decide +kernel
theorem dX2_unless_11 : decode cX2_unless 11 = .ok (.putfield 18, 3) := by decide +kernel
theorem dX2_unless_14 : decode cX2_unless 14 = .ok (.iload_n 1, 1) := by decide +kernel
theorem dX2_unless_15 : decode cX2_unless 15 = .ok (.ireturn, 1) := by decide +kernel
theorem dX3_init_0 : decode cX3_init 0 = .ok (.aload_n 0, 1) := by decide +kernel
theorem dX3_init_1 : decode cX3_init 1 = .ok (.invokespecial 3, 3) := by decide +kernel
theorem dX3_init_4 : decode cX3_init 4 = .ok (.aload_n 0, 1) := by decide +kernel
theorem dX3_init_5 : decode cX3_init 5 = .ok (.aload_n 1, 1) := by decide +kernel
theorem dX3_init_6 : decode cX3_init 6 = .ok (.putfield 9, 3) := by decide +kernel
theorem dX3_init_9 : decode cX3_init 9 = .ok (.aload_n 0, 1) := by decide +kernel
theorem dX3_init_10 : decode cX3_init 10 = .ok (.aload_n 2, 1) := by decide +kernel
theorem dX3_init_11 : decode cX3_init 11 = .ok (.putfield 15, 3) := by decide +kernel
theorem dX3_init_14 : decode cX3_init 14 = .ok (.aload_n 0, 1) := by decide +kernel
theorem dX3_init_15 : decode cX3_init 15 = .ok (.aload_n 3, 1) := by decide +kernel
theorem dX3_init_16 : decode cX3_init 16 = .ok (.putfield 19, 3) := by decide +kernel
theorem dX3_init_19 : decode cX3_init 19 = .ok (.aload_n 0, 1) := by decide +kernel
theorem dX3_init_20 : decode cX3_init 20 = .ok (.aload 4, 2) := by decide +kernel
theorem dX3_init_22 : decode cX3_init 22 = .ok (.putfield 23, 3) := by decide +kernel
theorem dX3_init_25 : decode cX3_init 25 = .ok (.aload_n 0, 1) := by decide +kernel
theorem dX3_init_26 : decode cX3_init 26 = .ok (.aload 4, 2) := by decide +kernel
theorem dX3_init_28 : decode cX3_init 28 = .ok (.getfield 27, 3) := by decide +kernel
theorem dX3_init_31 : decode cX3_init 31 = .ok (.putfield 33, 3) := by decide +kernel
theorem dX3_init_34 : decode cX3_init 34 = .ok (.aload_n 0, 1) := by decide +kernel
theorem dX3_init_35 : decode cX3_init 35 = .ok (.new 34, 3) := by decide +kernel
theorem dX3_init_38 : decode cX3_init 38 = .ok (.dup, 1) := by decide +kernel
theorem dX3_init_39 : decode cX3_init 39 = .ok (.invokespecial 36, 3) := by decide +kernel
theorem dX3_init_42 : decode cX3_init 42 = .ok (.putfield 37, 3) := by decide +kernel
theorem dX3_init_45 : decode cX3_init 45 = .ok (.aload_n 0, 1) := by decide +kernel
theorem dX3_init_46 : decode cX3_init 46 = .ok (.iconst 4, 1) := by decide +kernel
theorem dX3_init_47 : decode cX3_init 47 = .ok (.newarray .int, 2) := by decide +kernel
theorem dX3_init_49 : decode cX3_init 49 = .ok (.putfield 41, 3) := by decide +kernel
theorem dX3_init_52 : decode cX3_init 52 = .ok (.aload_n 0, 1) := by decide +kernel
theorem dX3_init_53 : decode cX3_init 53 = .ok (.bipush 64, 2) := by decide +kernel
theorem dX3_init_55 : decode cX3_init 55 = .ok (.newarray .boolean, 2) := by decide +kernel
theorem dX3_init_57 : decode cX3_init 57 = .ok (.putfield 45, 3) := by decide +kernel
theorem dX3_init_60 : decode cX3_init 60 = .ok (.aload_n 0, 1) := by decide +kernel
theorem dX3_init_61 : decode cX3_init 61 = .ok (.bipush 64, 2) := by decide +kernel
theorem dX3_init_63 : decode cX3_init 63 = .ok (.newarray .int, 2) := by decide +kernel
theorem dX3_init_65 : decode cX3_init 65 = .ok (.putfield 49, 3) := by decide +kernel
theorem dX3_init_68 : decode cX3_init 68 = .ok (.return_, 1) := by decide +kernel
theorem dX3_hold_0 : decode cX3_hold 0 = .ok (.aload_n 0, 1) := by decide +kernel
theorem dX3_hold_1 : decode cX3_hold 1 = .ok (.getfield 37, 3) := by decide +kernel
theorem dX3_hold_4 : decode cX3_hold 4 = .ok (.invokevirtual 52, 3) := by decide +kernel
theorem dX3_hold_7 : decode cX3_hold 7 = .ok (.aload_n 0, 1) := by decide +kernel
theorem dX3_hold_8 : decode cX3_hold 8 = .ok (.iconst 0, 1) := by decide +kernel
theorem dX3_hold_9 : decode cX3_hold 9 = .ok (.putfield 55, 3) := by decide +kernel
theorem dX3_hold_12 : decode cX3_hold 12 = .ok (.aload_n 0, 1) := by decide +kernel
theorem dX3_hold_13 : decode cX3_hold 13 = .ok (.getfield 23, 3) := by decide +kernel
theorem dX3_hold_16 : decode cX3_hold 16 = .ok (.getfield 59, 3) := by decide +kernel
theorem dX3_hold_19 : decode cX3_hold 19 = .ok (.ifCond .ne 5, 3) := by decide +kernel
theorem dX3_hold_22 : decode cX3_hold 22 = .ok (.iconst 1, 1) := by decide +kernel
theorem dX3_hold_23 : decode cX3_hold 23 = .ok (.ireturn, 1) := by decide +kernel
theorem dX3_hold_24 : decode cX3_hold 24 = .ok (.aload_n 0, 1) := by decide +kernel
theorem dX3_hold_25 : decode cX3_hold 25 = .ok (.aload_n 0, 1) := by decide +kernel
theorem dX3_hold_26 : decode cX3_hold 26 = .ok (.getfield 23, 3) := by decide +kernel
theorem dX3_hold_29 : decode cX3_hold 29 = .ok (.getfield 63, 3) := by decide +kernel
theorem dX3_hold_32 : decode cX3_hold 32 = .ok (.putfield 66, 3) := by decide +kernel
theorem dX3_hold_35 : decode cX3_hold 35 = .ok (.aload_n 0, 1) := by decide +kernel
theorem dX3_hold_36 : decode cX3_hold 36 = .ok (.aload_n 0, 1) := by decide +kernel
theorem dX3_hold_37 : decode cX3_hold 37 = .ok (.getfield 23, 3) := by decide +kernel
theorem dX3_hold_40 : decode cX3_hold 40 = .ok (.getfield 69, 3) := by decide +kernel
theorem dX3_hold_43 : decode cX3_hold 43 = .ok (.putfield 72, 3) := by decide +kernel
theorem dX3_hold_46 : decode cX3_hold 46 = .ok (.aload_n 0, 1) := by decide +kernel
theorem dX3_hold_47 : decode cX3_hold 47 = .ok (.invokevirtual 75, 3) := by decide +kernel
theorem dX3_hold_50 : decode cX3_hold 50 = .ok (.ifCond .eq 35, 3) := by decide +kernel
theorem dX3_hold_53 : decode cX3_hold 53 = .ok (.aload_n 0, 1) := by decide +kernel
theorem dX3_hold_54 : decode cX3_hold 54 = .ok (.invokevirtual 79, 3) := by decide +kernel
theorem dX3_hold_57 : decode cX3_hold 57 = .ok (.ifCond .eq 28, 3) := by decide +kernel
theorem dX3_hold_60 : decode cX3_hold 60 = .ok (.aload_n 0, 1) := by decide +kernel
theorem dX3_hold_61 : decode cX3_hold 61 = .ok (.invokevirtual 82, 3) := by decide +kernel
theorem dX3_hold_64 : decode cX3_hold 64 = .ok (.ifCond .eq 21, 3) := by decide +kernel
theorem dX3_hold_67 : decode cX3_hold 67 = .ok (.aload_n 0, 1) := by decide +kernel
theorem dX3_hold_68 : decode cX3_hold 68 = .ok (.invokevirtual 85, 3) := by decide +kernel
theorem dX3_hold_71 : decode cX3_hold 71 = .ok (.ifCond .eq 14, 3) := by decide +kernel
theorem dX3_hold_74 : decode cX3_hold 74 = .ok (.aload_n 0, 1) := by decide +kernel
theorem dX3_hold_75 : decode cX3_hold 75 = .ok (.invokevirtual 88, 3) := by decide +kernel
theorem dX3_hold_78 : decode cX3_hold 78 = .ok (.ifCond .eq 7, 3) := by decide +kernel
theorem dX3_hold_81 : decode cX3_hold 81 = .ok (.iconst 1, 1) := by decide +kernel
theorem dX3_hold_82 : decode cX3_hold 82 = .ok (.goto 4, 3) := by decide +kernel
theorem dX3_hold_85 : decode cX3_hold 85 = .ok (.iconst 0, 1) := by decide +kernel
theorem dX3_hold_86 : decode cX3_hold 86 = .ok (.ireturn, 1) := by decide +kernel
theorem dX3_headHolds_0 : decode cX3_headHolds 0 = .ok (.aload_n 0, 1) := by decide +kernel
theorem dX3_headHolds_1 : decode cX3_headHolds 1 = .ok (.aload_n 0, 1) := by decide +kernel
theorem dX3_headHolds_2 : decode cX3_headHolds 2 = .ok (.getfield 72, 3) := by decide +kernel
theorem dX3_headHolds_5 : decode cX3_headHolds 5 = .ok (.bipush 28, 2) := by decide +kernel
theorem dX3_headHolds_7 : decode cX3_headHolds 7 = .ok (.if_icmp .lt 20, 3) := by decide +kernel
theorem dX3_headHolds_10 : decode cX3_headHolds 10 = .ok (.aload_n 0, 1) := by decide +kernel
theorem dX3_headHolds_11 : decode cX3_headHolds 11 = .ok (.aload_n 0, 1) := by decide +kernel
theorem dX3_headHolds_12 : decode cX3_headHolds 12 = .ok (.getfield 66, 3) := by decide +kernel
theorem dX3_headHolds_15 : decode cX3_headHolds 15 = .ok (.invokevirtual 91, 3) := by decide +kernel
theorem dX3_headHolds_18 : decode cX3_headHolds 18 = .ok (.lconst 0, 1) := by decide +kernel
theorem dX3_headHolds_19 : decode cX3_headHolds 19 = .ok (.lcmp, 1) := by decide +kernel
theorem dX3_headHolds_20 : decode cX3_headHolds 20 = .ok (.ifCond .ne 7, 3) := by decide +kernel
theorem dX3_headHolds_23 : decode cX3_headHolds 23 = .ok (.iconst 1, 1) := by decide +kernel
theorem dX3_headHolds_24 : decode cX3_headHolds 24 = .ok (.goto 4, 3) := by decide +kernel
theorem dX3_headHolds_27 : decode cX3_headHolds 27 = .ok (.iconst 0, 1) := by decide +kernel
theorem dX3_headHolds_28 : decode cX3_headHolds 28 = .ok (.aload_n 0, 1) := by decide +kernel
theorem dX3_headHolds_29 : decode cX3_headHolds 29 = .ok (.getfield 66, 3) := by decide +kernel
theorem dX3_headHolds_32 : decode cX3_headHolds 32 = .ok (.invokevirtual 95, 3) := by decide +kernel
theorem dX3_headHolds_35 : decode cX3_headHolds 35 = .ok (.ifCond .eq 77, 3) := by decide +kernel
theorem dX3_headHolds_38 : decode cX3_headHolds 38 = .ok (.aload_n 0, 1) := by decide +kernel
theorem dX3_headHolds_39 : decode cX3_headHolds 39 = .ok (.aload_n 0, 1) := by decide +kernel
theorem dX3_headHolds_40 : decode cX3_headHolds 40 = .ok (.aload_n 0, 1) := by decide +kernel
theorem dX3_headHolds_41 : decode cX3_headHolds 41 = .ok (.getfield 66, 3) := by decide +kernel
theorem dX3_headHolds_44 : decode cX3_headHolds 44 = .ok (.bipush 20, 2) := by decide +kernel
theorem dX3_headHolds_46 : decode cX3_headHolds 46 = .ok (.iadd, 1) := by decide +kernel
theorem dX3_headHolds_47 : decode cX3_headHolds 47 = .ok (.invokevirtual 91, 3) := by decide +kernel
theorem dX3_headHolds_50 : decode cX3_headHolds 50 = .ok (.lconst 1, 1) := by decide +kernel
theorem dX3_headHolds_51 : decode cX3_headHolds 51 = .ok (.lcmp, 1) := by decide +kernel
theorem dX3_headHolds_52 : decode cX3_headHolds 52 = .ok (.ifCond .ne 7, 3) := by decide +kernel
theorem dX3_headHolds_55 : decode cX3_headHolds 55 = .ok (.iconst 1, 1) := by decide +kernel
theorem dX3_headHolds_56 : decode cX3_headHolds 56 = .ok (.goto 4, 3) := by decide +kernel
theorem dX3_headHolds_59 : decode cX3_headHolds 59 = .ok (.iconst 0, 1) := by decide +kernel
theorem dX3_headHolds_60 : decode cX3_headHolds 60 = .ok (.aload_n 0, 1) := by decide +kernel
theorem dX3_headHolds_61 : decode cX3_headHolds 61 = .ok (.getfield 66, 3) := by decide +kernel
theorem dX3_headHolds_64 : decode cX3_headHolds 64 = .ok (.bipush 20, 2) := by decide +kernel
theorem dX3_headHolds_66 : decode cX3_headHolds 66 = .ok (.iadd, 1) := by decide +kernel
theorem dX3_headHolds_67 : decode cX3_headHolds 67 = .ok (.invokevirtual 95, 3) := by decide +kernel
theorem dX3_headHolds_70 : decode cX3_headHolds 70 = .ok (.ifCond .eq 42, 3) := by decide +kernel
theorem dX3_headHolds_73 : decode cX3_headHolds 73 = .ok (.aload_n 0, 1) := by decide +kernel
theorem dX3_headHolds_74 : decode cX3_headHolds 74 = .ok (.aload_n 0, 1) := by decide +kernel
theorem dX3_headHolds_75 : decode cX3_headHolds 75 = .ok (.aload_n 0, 1) := by decide +kernel
theorem dX3_headHolds_76 : decode cX3_headHolds 76 = .ok (.getfield 66, 3) := by decide +kernel
theorem dX3_headHolds_79 : decode cX3_headHolds 79 = .ok (.bipush 24, 2) := by decide +kernel
theorem dX3_headHolds_81 : decode cX3_headHolds 81 = .ok (.iadd, 1) := by decide +kernel
theorem dX3_headHolds_82 : decode cX3_headHolds 82 = .ok (.invokevirtual 91, 3) := by decide +kernel
theorem dX3_headHolds_85 : decode cX3_headHolds 85 = .ok (.lconst 0, 1) := by decide +kernel
theorem dX3_headHolds_86 : decode cX3_headHolds 86 = .ok (.lcmp, 1) := by decide +kernel
theorem dX3_headHolds_87 : decode cX3_headHolds 87 = .ok (.ifCond .ne 7, 3) := by decide +kernel
theorem dX3_headHolds_90 : decode cX3_headHolds 90 = .ok (.iconst 1, 1) := by decide +kernel
theorem dX3_headHolds_91 : decode cX3_headHolds 91 = .ok (.goto 4, 3) := by decide +kernel
theorem dX3_headHolds_94 : decode cX3_headHolds 94 = .ok (.iconst 0, 1) := by decide +kernel
theorem dX3_headHolds_95 : decode cX3_headHolds 95 = .ok (.aload_n 0, 1) := by decide +kernel
theorem dX3_headHolds_96 : decode cX3_headHolds 96 = .ok (.getfield 66, 3) := by decide +kernel
theorem dX3_headHolds_99 : decode cX3_headHolds 99 = .ok (.bipush 24, 2) := by decide +kernel
theorem dX3_headHolds_101 : decode cX3_headHolds 101 = .ok (.iadd, 1) := by decide +kernel
theorem dX3_headHolds_102 : decode cX3_headHolds 102 = .ok (.invokevirtual 95, 3) := by decide +kernel
theorem dX3_headHolds_105 : decode cX3_headHolds 105 = .ok (.ifCond .eq 7, 3) := by decide +kernel
theorem dX3_headHolds_108 : decode cX3_headHolds 108 = .ok (.iconst 1, 1) := by decide +kernel
theorem dX3_headHolds_109 : decode cX3_headHolds 109 = .ok (.goto 4, 3) := by decide +kernel
theorem dX3_headHolds_112 : decode cX3_headHolds 112 = .ok (.iconst 0, 1) := by decide +kernel
theorem dX3_headHolds_113 : decode cX3_headHolds 113 = .ok (.ireturn, 1) := by decide +kernel
theorem dX3_startsHold_0 : decode cX3_startsHold 0 = .ok (.aload_n 0, 1) := by decide +kernel
theorem dX3_startsHold_1 : decode cX3_startsHold 1 = .ok (.aload_n 0, 1) := by decide +kernel
theorem dX3_startsHold_2 : decode cX3_startsHold 2 = .ok (.getfield 66, 3) := by decide +kernel
theorem dX3_startsHold_5 : decode cX3_startsHold 5 = .ok (.iconst 4, 1) := by decide +kernel
theorem dX3_startsHold_6 : decode cX3_startsHold 6 = .ok (.iadd, 1) := by decide +kernel
theorem dX3_startsHold_7 : decode cX3_startsHold 7 = .ok (.invokevirtual 91, 3) := by decide +kernel
theorem dX3_startsHold_10 : decode cX3_startsHold 10 = .ok (.lstore_n 1, 1) := by decide +kernel
theorem dX3_startsHold_11 : decode cX3_startsHold 11 = .ok (.aload_n 0, 1) := by decide +kernel
theorem dX3_startsHold_12 : decode cX3_startsHold 12 = .ok (.lload_n 1, 1) := by decide +kernel
theorem dX3_startsHold_13 : decode cX3_startsHold 13 = .ok (.ldc2_w 99, 3) := by decide +kernel
theorem dX3_startsHold_16 : decode cX3_startsHold 16 = .ok (.ladd, 1) := by decide +kernel
theorem dX3_startsHold_17 : decode cX3_startsHold 17 = .ok (.aload_n 0, 1) := by decide +kernel
theorem dX3_startsHold_18 : decode cX3_startsHold 18 = .ok (.getfield 72, 3) := by decide +kernel
theorem dX3_startsHold_21 : decode cX3_startsHold 21 = .ok (.i2l, 1) := by decide +kernel
theorem dX3_startsHold_22 : decode cX3_startsHold 22 = .ok (.lcmp, 1) := by decide +kernel
theorem dX3_startsHold_23 : decode cX3_startsHold 23 = .ok (.ifCond .gt 7, 3) := by decide +kernel
theorem dX3_startsHold_26 : decode cX3_startsHold 26 = .ok (.iconst 1, 1) := by decide +kernel
theorem dX3_startsHold_27 : decode cX3_startsHold 27 = .ok (.goto 4, 3) := by decide +kernel
theorem dX3_startsHold_30 : decode cX3_startsHold 30 = .ok (.iconst 0, 1) := by decide +kernel
theorem dX3_startsHold_31 : decode cX3_startsHold 31 = .ok (.aload_n 0, 1) := by decide +kernel
theorem dX3_startsHold_32 : decode cX3_startsHold 32 = .ok (.getfield 66, 3) := by decide +kernel
theorem dX3_startsHold_35 : decode cX3_startsHold 35 = .ok (.iconst 4, 1) := by decide +kernel
theorem dX3_startsHold_36 : decode cX3_startsHold 36 = .ok (.iadd, 1) := by decide +kernel
theorem dX3_startsHold_37 : decode cX3_startsHold 37 = .ok (.invokevirtual 95, 3) := by decide +kernel
theorem dX3_startsHold_40 : decode cX3_startsHold 40 = .ok (.ifCond .ne 5, 3) := by decide +kernel
theorem dX3_startsHold_43 : decode cX3_startsHold 43 = .ok (.iconst 0, 1) := by decide +kernel
theorem dX3_startsHold_44 : decode cX3_startsHold 44 = .ok (.ireturn, 1) := by decide +kernel
theorem dX3_startsHold_45 : decode cX3_startsHold 45 = .ok (.aload_n 0, 1) := by decide +kernel
theorem dX3_startsHold_46 : decode cX3_startsHold 46 = .ok (.lload_n 1, 1) := by decide +kernel
theorem dX3_startsHold_47 : decode cX3_startsHold 47 = .ok (.l2i, 1) := by decide +kernel
theorem dX3_startsHold_48 : decode cX3_startsHold 48 = .ok (.putfield 101, 3) := by decide +kernel
theorem dX3_startsHold_51 : decode cX3_startsHold 51 = .ok (.aload_n 0, 1) := by decide +kernel
theorem dX3_startsHold_52 : decode cX3_startsHold 52 = .ok (.aload_n 0, 1) := by decide +kernel
theorem dX3_startsHold_53 : decode cX3_startsHold 53 = .ok (.aload_n 0, 1) := by decide +kernel
theorem dX3_startsHold_54 : decode cX3_startsHold 54 = .ok (.getfield 66, 3) := by decide +kernel
theorem dX3_startsHold_57 : decode cX3_startsHold 57 = .ok (.aload_n 0, 1) := by decide +kernel
theorem dX3_startsHold_58 : decode cX3_startsHold 58 = .ok (.getfield 101, 3) := by decide +kernel
theorem dX3_startsHold_61 : decode cX3_startsHold 61 = .ok (.iadd, 1) := by decide +kernel
theorem dX3_startsHold_62 : decode cX3_startsHold 62 = .ok (.invokevirtual 91, 3) := by decide +kernel
theorem dX3_startsHold_65 : decode cX3_startsHold 65 = .ok (.aload_n 0, 1) := by decide +kernel
theorem dX3_startsHold_66 : decode cX3_startsHold 66 = .ok (.getfield 33, 3) := by decide +kernel
theorem dX3_startsHold_69 : decode cX3_startsHold 69 = .ok (.getfield 104, 3) := by decide +kernel
theorem dX3_startsHold_72 : decode cX3_startsHold 72 = .ok (.i2l, 1) := by decide +kernel
theorem dX3_startsHold_73 : decode cX3_startsHold 73 = .ok (.lcmp, 1) := by decide +kernel
theorem dX3_startsHold_74 : decode cX3_startsHold 74 = .ok (.ifCond .ne 32, 3) := by decide +kernel
theorem dX3_startsHold_77 : decode cX3_startsHold 77 = .ok (.lload_n 1, 1) := by decide +kernel
theorem dX3_startsHold_78 : decode cX3_startsHold 78 = .ok (.ldc2_w 99, 3) := by decide +kernel
theorem dX3_startsHold_81 : decode cX3_startsHold 81 = .ok (.ladd, 1) := by decide +kernel
theorem dX3_startsHold_82 : decode cX3_startsHold 82 = .ok (.iconst 4, 1) := by decide +kernel
theorem dX3_startsHold_83 : decode cX3_startsHold 83 = .ok (.aload_n 0, 1) := by decide +kernel
theorem dX3_startsHold_84 : decode cX3_startsHold 84 = .ok (.getfield 33, 3) := by decide +kernel
theorem dX3_startsHold_87 : decode cX3_startsHold 87 = .ok (.getfield 104, 3) := by decide +kernel
theorem dX3_startsHold_90 : decode cX3_startsHold 90 = .ok (.imul, 1) := by decide +kernel
theorem dX3_startsHold_91 : decode cX3_startsHold 91 = .ok (.i2l, 1) := by decide +kernel
theorem dX3_startsHold_92 : decode cX3_startsHold 92 = .ok (.ladd, 1) := by decide +kernel
theorem dX3_startsHold_93 : decode cX3_startsHold 93 = .ok (.aload_n 0, 1) := by decide +kernel
theorem dX3_startsHold_94 : decode cX3_startsHold 94 = .ok (.getfield 72, 3) := by decide +kernel
theorem dX3_startsHold_97 : decode cX3_startsHold 97 = .ok (.i2l, 1) := by decide +kernel
theorem dX3_startsHold_98 : decode cX3_startsHold 98 = .ok (.lcmp, 1) := by decide +kernel
theorem dX3_startsHold_99 : decode cX3_startsHold 99 = .ok (.ifCond .gt 7, 3) := by decide +kernel
theorem dX3_startsHold_102 : decode cX3_startsHold 102 = .ok (.iconst 1, 1) := by decide +kernel
theorem dX3_startsHold_103 : decode cX3_startsHold 103 = .ok (.goto 4, 3) := by decide +kernel
theorem dX3_startsHold_106 : decode cX3_startsHold 106 = .ok (.iconst 0, 1) := by decide +kernel
theorem dX3_startsHold_107 : decode cX3_startsHold 107 = .ok (.aload_n 0, 1) := by decide +kernel
theorem dX3_startsHold_108 : decode cX3_startsHold 108 = .ok (.getfield 66, 3) := by decide +kernel
theorem dX3_startsHold_111 : decode cX3_startsHold 111 = .ok (.aload_n 0, 1) := by decide +kernel
theorem dX3_startsHold_112 : decode cX3_startsHold 112 = .ok (.getfield 101, 3) := by decide +kernel
theorem dX3_startsHold_115 : decode cX3_startsHold 115 = .ok (.iadd, 1) := by decide +kernel
theorem dX3_startsHold_116 : decode cX3_startsHold 116 = .ok (.invokevirtual 95, 3) := by decide +kernel
theorem dX3_startsHold_119 : decode cX3_startsHold 119 = .ok (.ireturn, 1) := by decide +kernel
