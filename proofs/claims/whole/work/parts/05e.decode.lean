theorem dX12_thrown_0 : decode cX12_thrown 0 = .ok (.aload_n 0, 1) := by decide +kernel
theorem dX12_thrown_1 : decode cX12_thrown 1 = .ok (.getfield 149, 3) := by decide +kernel
theorem dX12_thrown_4 : decode cX12_thrown 4 = .ok (.ireturn, 1) := by decide +kernel
theorem dX12_come_0 : decode cX12_come 0 = .ok (.bipush 24, 2) := by decide +kernel
theorem dX12_come_2 : decode cX12_come 2 = .ok (.istore_n 2, 1) := by decide +kernel
theorem dX12_come_3 : decode cX12_come 3 = .ok (.iload_n 2, 1) := by decide +kernel
theorem dX12_come_4 : decode cX12_come 4 = .ok (.ifCond .lt 35, 3) := by decide +kernel
theorem dX12_come_7 : decode cX12_come 7 = .ok (.aload_n 0, 1) := by decide +kernel
theorem dX12_come_8 : decode cX12_come 8 = .ok (.getfield 7, 3) := by decide +kernel
theorem dX12_come_11 : decode cX12_come 11 = .ok (.aload_n 0, 1) := by decide +kernel
theorem dX12_come_12 : decode cX12_come 12 = .ok (.getfield 152, 3) := by decide +kernel
theorem dX12_come_15 : decode cX12_come 15 = .ok (.iload_n 1, 1) := by decide +kernel
theorem dX12_come_16 : decode cX12_come 16 = .ok (.iload_n 2, 1) := by decide +kernel
theorem dX12_come_17 : decode cX12_come 17 = .ok (.iushr, 1) := by decide +kernel
theorem dX12_come_18 : decode cX12_come 18 = .ok (.sipush 255, 3) := by decide +kernel
theorem dX12_come_21 : decode cX12_come 21 = .ok (.iand, 1) := by decide +kernel
theorem dX12_come_22 : decode cX12_come 22 = .ok (.iastore, 1) := by decide +kernel
theorem dX12_come_23 : decode cX12_come 23 = .ok (.aload_n 0, 1) := by decide +kernel
theorem dX12_come_24 : decode cX12_come 24 = .ok (.dup, 1) := by decide +kernel
theorem dX12_come_25 : decode cX12_come 25 = .ok (.getfield 152, 3) := by decide +kernel
theorem dX12_come_28 : decode cX12_come 28 = .ok (.iconst 1, 1) := by decide +kernel
theorem dX12_come_29 : decode cX12_come 29 = .ok (.iadd, 1) := by decide +kernel
theorem dX12_come_30 : decode cX12_come 30 = .ok (.putfield 152, 3) := by decide +kernel
theorem dX12_come_33 : decode cX12_come 33 = .ok (.iinc 2 (-8), 3) := by decide +kernel
theorem dX12_come_36 : decode cX12_come 36 = .ok (.goto (-33), 3) := by decide +kernel
theorem dX12_come_39 : decode cX12_come 39 = .ok (.return_, 1) := by decide +kernel
theorem dX12_feed_0 : decode cX12_feed 0 = .ok (.aload_n 0, 1) := by decide +kernel
theorem dX12_feed_1 : decode cX12_feed 1 = .ok (.iconst 0, 1) := by decide +kernel
theorem dX12_feed_2 : decode cX12_feed 2 = .ok (.putfield 149, 3) := by decide +kernel
theorem dX12_feed_5 : decode cX12_feed 5 = .ok (.aload_n 0, 1) := by decide +kernel
theorem dX12_feed_6 : decode cX12_feed 6 = .ok (.getfield 152, 3) := by decide +kernel
theorem dX12_feed_9 : decode cX12_feed 9 = .ok (.bipush 20, 2) := by decide +kernel
theorem dX12_feed_11 : decode cX12_feed 11 = .ok (.iadd, 1) := by decide +kernel
theorem dX12_feed_12 : decode cX12_feed 12 = .ok (.sipush 1040, 3) := by decide +kernel
theorem dX12_feed_15 : decode cX12_feed 15 = .ok (.if_icmp .le 5, 3) := by decide +kernel
theorem dX12_feed_18 : decode cX12_feed 18 = .ok (.iconst (-1), 1) := by decide +kernel
theorem dX12_feed_19 : decode cX12_feed 19 = .ok (.ireturn, 1) := by decide +kernel
theorem dX12_feed_20 : decode cX12_feed 20 = .ok (.aload_n 0, 1) := by decide +kernel
theorem dX12_feed_21 : decode cX12_feed 21 = .ok (.iload_n 1, 1) := by decide +kernel
theorem dX12_feed_22 : decode cX12_feed 22 = .ok (.invokevirtual 155, 3) := by decide +kernel
theorem dX12_feed_25 : decode cX12_feed 25 = .ok (.aload_n 0, 1) := by decide +kernel
theorem dX12_feed_26 : decode cX12_feed 26 = .ok (.iload_n 2, 1) := by decide +kernel
theorem dX12_feed_27 : decode cX12_feed 27 = .ok (.invokevirtual 155, 3) := by decide +kernel
theorem dX12_feed_30 : decode cX12_feed 30 = .ok (.aload_n 0, 1) := by decide +kernel
theorem dX12_feed_31 : decode cX12_feed 31 = .ok (.iload_n 3, 1) := by decide +kernel
theorem dX12_feed_32 : decode cX12_feed 32 = .ok (.invokevirtual 155, 3) := by decide +kernel
theorem dX12_feed_35 : decode cX12_feed 35 = .ok (.aload_n 0, 1) := by decide +kernel
theorem dX12_feed_36 : decode cX12_feed 36 = .ok (.iload 4, 2) := by decide +kernel
theorem dX12_feed_38 : decode cX12_feed 38 = .ok (.invokevirtual 155, 3) := by decide +kernel
theorem dX12_feed_41 : decode cX12_feed 41 = .ok (.aload_n 0, 1) := by decide +kernel
theorem dX12_feed_42 : decode cX12_feed 42 = .ok (.iload 5, 2) := by decide +kernel
theorem dX12_feed_44 : decode cX12_feed 44 = .ok (.invokevirtual 155, 3) := by decide +kernel
theorem dX12_feed_47 : decode cX12_feed 47 = .ok (.aload_n 0, 1) := by decide +kernel
theorem dX12_feed_48 : decode cX12_feed 48 = .ok (.getfield 152, 3) := by decide +kernel
theorem dX12_feed_51 : decode cX12_feed 51 = .ok (.ireturn, 1) := by decide +kernel
theorem dX12_end_0 : decode cX12_end 0 = .ok (.aload_n 0, 1) := by decide +kernel
theorem dX12_end_1 : decode cX12_end 1 = .ok (.iconst 0, 1) := by decide +kernel
theorem dX12_end_2 : decode cX12_end 2 = .ok (.putfield 149, 3) := by decide +kernel
theorem dX12_end_5 : decode cX12_end 5 = .ok (.iload_n 1, 1) := by decide +kernel
theorem dX12_end_6 : decode cX12_end 6 = .ok (.ifCond .lt 11, 3) := by decide +kernel
theorem dX12_end_9 : decode cX12_end 9 = .ok (.iload_n 1, 1) := by decide +kernel
theorem dX12_end_10 : decode cX12_end 10 = .ok (.aload_n 0, 1) := by decide +kernel
theorem dX12_end_11 : decode cX12_end 11 = .ok (.getfield 152, 3) := by decide +kernel
theorem dX12_end_14 : decode cX12_end 14 = .ok (.if_icmp .le 5, 3) := by decide +kernel
theorem dX12_end_17 : decode cX12_end 17 = .ok (.iconst 0, 1) := by decide +kernel
theorem dX12_end_18 : decode cX12_end 18 = .ok (.ireturn, 1) := by decide +kernel
theorem dX12_end_19 : decode cX12_end 19 = .ok (.aload_n 0, 1) := by decide +kernel
theorem dX12_end_20 : decode cX12_end 20 = .ok (.iload_n 1, 1) := by decide +kernel
theorem dX12_end_21 : decode cX12_end 21 = .ok (.putfield 152, 3) := by decide +kernel
theorem dX12_end_24 : decode cX12_end 24 = .ok (.iconst 1, 1) := by decide +kernel
theorem dX12_end_25 : decode cX12_end 25 = .ok (.ireturn, 1) := by decide +kernel
theorem dX12_takes_0 : decode cX12_takes 0 = .ok (.aload_n 0, 1) := by decide +kernel
theorem dX12_takes_1 : decode cX12_takes 1 = .ok (.getfield 152, 3) := by decide +kernel
theorem dX12_takes_4 : decode cX12_takes 4 = .ok (.istore_n 2, 1) := by decide +kernel
theorem dX12_takes_5 : decode cX12_takes 5 = .ok (.aload_n 0, 1) := by decide +kernel
theorem dX12_takes_6 : decode cX12_takes 6 = .ok (.iconst 0, 1) := by decide +kernel
theorem dX12_takes_7 : decode cX12_takes 7 = .ok (.putfield 152, 3) := by decide +kernel
theorem dX12_takes_10 : decode cX12_takes 10 = .ok (.iload_n 2, 1) := by decide +kernel
theorem dX12_takes_11 : decode cX12_takes 11 = .ok (.iconst 1, 1) := by decide +kernel
theorem dX12_takes_12 : decode cX12_takes 12 = .ok (.if_icmp .lt 13, 3) := by decide +kernel
theorem dX12_takes_15 : decode cX12_takes 15 = .ok (.iload_n 2, 1) := by decide +kernel
theorem dX12_takes_16 : decode cX12_takes 16 = .ok (.bipush 16, 2) := by decide +kernel
theorem dX12_takes_18 : decode cX12_takes 18 = .ok (.if_icmp .gt 7, 3) := by decide +kernel
theorem dX12_takes_21 : decode cX12_takes 21 = .ok (.iconst 1, 1) := by decide +kernel
theorem dX12_takes_22 : decode cX12_takes 22 = .ok (.goto 4, 3) := by decide +kernel
theorem dX12_takes_25 : decode cX12_takes 25 = .ok (.iconst 0, 1) := by decide +kernel
theorem dX12_takes_26 : decode cX12_takes 26 = .ok (.istore_n 3, 1) := by decide +kernel
theorem dX12_takes_27 : decode cX12_takes 27 = .ok (.iconst 0, 1) := by decide +kernel
theorem dX12_takes_28 : decode cX12_takes 28 = .ok (.istore 4, 2) := by decide +kernel
theorem dX12_takes_30 : decode cX12_takes 30 = .ok (.iload 4, 2) := by decide +kernel
theorem dX12_takes_32 : decode cX12_takes 32 = .ok (.iload_n 2, 1) := by decide +kernel
theorem dX12_takes_33 : decode cX12_takes 33 = .ok (.if_icmp .ge 43, 3) := by decide +kernel
theorem dX12_takes_36 : decode cX12_takes 36 = .ok (.iload_n 3, 1) := by decide +kernel
theorem dX12_takes_37 : decode cX12_takes 37 = .ok (.ifCond .eq 39, 3) := by decide +kernel
theorem dX12_takes_40 : decode cX12_takes 40 = .ok (.aload_n 0, 1) := by decide +kernel
theorem dX12_takes_41 : decode cX12_takes 41 = .ok (.getfield 7, 3) := by decide +kernel
theorem dX12_takes_44 : decode cX12_takes 44 = .ok (.iload 4, 2) := by decide +kernel
theorem dX12_takes_46 : decode cX12_takes 46 = .ok (.iaload, 1) := by decide +kernel
theorem dX12_takes_47 : decode cX12_takes 47 = .ok (.bipush 32, 2) := by decide +kernel
theorem dX12_takes_49 : decode cX12_takes 49 = .ok (.if_icmp .le 19, 3) := by decide +kernel
theorem dX12_takes_52 : decode cX12_takes 52 = .ok (.aload_n 0, 1) := by decide +kernel
theorem dX12_takes_53 : decode cX12_takes 53 = .ok (.getfield 7, 3) := by decide +kernel
theorem dX12_takes_56 : decode cX12_takes 56 = .ok (.iload 4, 2) := by decide +kernel
theorem dX12_takes_58 : decode cX12_takes 58 = .ok (.iaload, 1) := by decide +kernel
theorem dX12_takes_59 : decode cX12_takes 59 = .ok (.bipush 127, 2) := by decide +kernel
theorem dX12_takes_61 : decode cX12_takes 61 = .ok (.if_icmp .ge 7, 3) := by decide +kernel
theorem dX12_takes_64 : decode cX12_takes 64 = .ok (.iconst 1, 1) := by decide +kernel
theorem dX12_takes_65 : decode cX12_takes 65 = .ok (.goto 4, 3) := by decide +kernel
theorem dX12_takes_68 : decode cX12_takes 68 = .ok (.iconst 0, 1) := by decide +kernel
theorem dX12_takes_69 : decode cX12_takes 69 = .ok (.istore_n 3, 1) := by decide +kernel
theorem dX12_takes_70 : decode cX12_takes 70 = .ok (.iinc 4 1, 3) := by decide +kernel
theorem dX12_takes_73 : decode cX12_takes 73 = .ok (.goto (-43), 3) := by decide +kernel
theorem dX12_takes_76 : decode cX12_takes 76 = .ok (.iconst 0, 1) := by decide +kernel
theorem dX12_takes_77 : decode cX12_takes 77 = .ok (.istore 4, 2) := by decide +kernel
theorem dX12_takes_79 : decode cX12_takes 79 = .ok (.iload 4, 2) := by decide +kernel
theorem dX12_takes_81 : decode cX12_takes 81 = .ok (.bipush 16, 2) := by decide +kernel
theorem dX12_takes_83 : decode cX12_takes 83 = .ok (.if_icmp .ge 42, 3) := by decide +kernel
theorem dX12_takes_86 : decode cX12_takes 86 = .ok (.iload_n 3, 1) := by decide +kernel
theorem dX12_takes_87 : decode cX12_takes 87 = .ok (.ifCond .eq 38, 3) := by decide +kernel
theorem dX12_takes_90 : decode cX12_takes 90 = .ok (.aload_n 0, 1) := by decide +kernel
theorem dX12_takes_91 : decode cX12_takes 91 = .ok (.getfield 13, 3) := by decide +kernel
theorem dX12_takes_94 : decode cX12_takes 94 = .ok (.bipush 16, 2) := by decide +kernel
theorem dX12_takes_96 : decode cX12_takes 96 = .ok (.iload_n 1, 1) := by decide +kernel
theorem dX12_takes_97 : decode cX12_takes 97 = .ok (.imul, 1) := by decide +kernel
theorem dX12_takes_98 : decode cX12_takes 98 = .ok (.iload 4, 2) := by decide +kernel
theorem dX12_takes_100 : decode cX12_takes 100 = .ok (.iadd, 1) := by decide +kernel
theorem dX12_takes_101 : decode cX12_takes 101 = .ok (.iload 4, 2) := by decide +kernel
theorem dX12_takes_103 : decode cX12_takes 103 = .ok (.iload_n 2, 1) := by decide +kernel
theorem dX12_takes_104 : decode cX12_takes 104 = .ok (.if_icmp .ge 13, 3) := by decide +kernel
theorem dX12_takes_107 : decode cX12_takes 107 = .ok (.aload_n 0, 1) := by decide +kernel
theorem dX12_takes_108 : decode cX12_takes 108 = .ok (.getfield 7, 3) := by decide +kernel
theorem dX12_takes_111 : decode cX12_takes 111 = .ok (.iload 4, 2) := by decide +kernel
theorem dX12_takes_113 : decode cX12_takes 113 = .ok (.iaload, 1) := by decide +kernel
theorem dX12_takes_114 : decode cX12_takes 114 = .ok (.goto 4, 3) := by decide +kernel
theorem dX12_takes_117 : decode cX12_takes 117 = .ok (.iconst 0, 1) := by decide +kernel
theorem dX12_takes_118 : decode cX12_takes 118 = .ok (.iastore, 1) := by decide +kernel
theorem dX12_takes_119 : decode cX12_takes 119 = .ok (.iinc 4 1, 3) := by decide +kernel
theorem dX12_takes_122 : decode cX12_takes 122 = .ok (.goto (-43), 3) := by decide +kernel
theorem dX12_takes_125 : decode cX12_takes 125 = .ok (.iload_n 3, 1) := by decide +kernel
theorem dX12_takes_126 : decode cX12_takes 126 = .ok (.ireturn, 1) := by decide +kernel
theorem dX12_longOf_0 : decode cX12_longOf 0 = .ok (.iconst 0, 1) := by decide +kernel
theorem dX12_longOf_1 : decode cX12_longOf 1 = .ok (.istore_n 2, 1) := by decide +kernel
theorem dX12_longOf_2 : decode cX12_longOf 2 = .ok (.iload_n 2, 1) := by decide +kernel
theorem dX12_longOf_3 : decode cX12_longOf 3 = .ok (.bipush 16, 2) := by decide +kernel
theorem dX12_longOf_5 : decode cX12_longOf 5 = .ok (.if_icmp .ge 23, 3) := by decide +kernel
theorem dX12_longOf_8 : decode cX12_longOf 8 = .ok (.aload_n 0, 1) := by decide +kernel
theorem dX12_longOf_9 : decode cX12_longOf 9 = .ok (.getfield 13, 3) := by decide +kernel
theorem dX12_longOf_12 : decode cX12_longOf 12 = .ok (.bipush 16, 2) := by decide +kernel
theorem dX12_longOf_14 : decode cX12_longOf 14 = .ok (.iload_n 1, 1) := by decide +kernel
theorem dX12_longOf_15 : decode cX12_longOf 15 = .ok (.imul, 1) := by decide +kernel
theorem dX12_longOf_16 : decode cX12_longOf 16 = .ok (.iload_n 2, 1) := by decide +kernel
theorem dX12_longOf_17 : decode cX12_longOf 17 = .ok (.iadd, 1) := by decide +kernel
theorem dX12_longOf_18 : decode cX12_longOf 18 = .ok (.iaload, 1) := by decide +kernel
theorem dX12_longOf_19 : decode cX12_longOf 19 = .ok (.ifCond .eq 9, 3) := by decide +kernel
theorem dX12_longOf_22 : decode cX12_longOf 22 = .ok (.iinc 2 1, 3) := by decide +kernel
theorem dX12_longOf_25 : decode cX12_longOf 25 = .ok (.goto (-23), 3) := by decide +kernel
theorem dX12_longOf_28 : decode cX12_longOf 28 = .ok (.iload_n 2, 1) := by decide +kernel
theorem dX12_longOf_29 : decode cX12_longOf 29 = .ok (.ireturn, 1) := by decide +kernel
theorem dX12_isPage_0 : decode cX12_isPage 0 = .ok (.lload_n 0, 1) := by decide +kernel
theorem dX12_isPage_1 : decode cX12_isPage 1 = .ok (.ldc2_w 159, 3) := by decide +kernel
theorem dX12_isPage_4 : decode cX12_isPage 4 = .ok (.lcmp, 1) := by decide +kernel
theorem dX12_isPage_5 : decode cX12_isPage 5 = .ok (.ifCond .eq 35, 3) := by decide +kernel
theorem dX12_isPage_8 : decode cX12_isPage 8 = .ok (.lload_n 0, 1) := by decide +kernel
theorem dX12_isPage_9 : decode cX12_isPage 9 = .ok (.ldc2_w 161, 3) := by decide +kernel
theorem dX12_isPage_12 : decode cX12_isPage 12 = .ok (.lcmp, 1) := by decide +kernel
theorem dX12_isPage_13 : decode cX12_isPage 13 = .ok (.ifCond .eq 27, 3) := by decide +kernel
theorem dX12_isPage_16 : decode cX12_isPage 16 = .ok (.lload_n 0, 1) := by decide +kernel
theorem dX12_isPage_17 : decode cX12_isPage 17 = .ok (.ldc2_w 163, 3) := by decide +kernel
theorem dX12_isPage_20 : decode cX12_isPage 20 = .ok (.lcmp, 1) := by decide +kernel
theorem dX12_isPage_21 : decode cX12_isPage 21 = .ok (.ifCond .eq 19, 3) := by decide +kernel
theorem dX12_isPage_24 : decode cX12_isPage 24 = .ok (.lload_n 0, 1) := by decide +kernel
theorem dX12_isPage_25 : decode cX12_isPage 25 = .ok (.ldc2_w 165, 3) := by decide +kernel
theorem dX12_isPage_28 : decode cX12_isPage 28 = .ok (.lcmp, 1) := by decide +kernel
theorem dX12_isPage_29 : decode cX12_isPage 29 = .ok (.ifCond .eq 11, 3) := by decide +kernel
theorem dX12_isPage_32 : decode cX12_isPage 32 = .ok (.lload_n 0, 1) := by decide +kernel
theorem dX12_isPage_33 : decode cX12_isPage 33 = .ok (.ldc2_w 167, 3) := by decide +kernel
theorem dX12_isPage_36 : decode cX12_isPage 36 = .ok (.lcmp, 1) := by decide +kernel
theorem dX12_isPage_37 : decode cX12_isPage 37 = .ok (.ifCond .ne 7, 3) := by decide +kernel
theorem dX12_isPage_40 : decode cX12_isPage 40 = .ok (.iconst 1, 1) := by decide +kernel
theorem dX12_isPage_41 : decode cX12_isPage 41 = .ok (.goto 4, 3) := by decide +kernel
theorem dX12_isPage_44 : decode cX12_isPage 44 = .ok (.iconst 0, 1) := by decide +kernel
theorem dX12_isPage_45 : decode cX12_isPage 45 = .ok (.ireturn, 1) := by decide +kernel
theorem dX12_anew_0 : decode cX12_anew 0 = .ok (.aload_n 0, 1) := by decide +kernel
theorem dX12_anew_1 : decode cX12_anew 1 = .ok (.iconst 0, 1) := by decide +kernel
theorem dX12_anew_2 : decode cX12_anew 2 = .ok (.putfield 149, 3) := by decide +kernel
theorem dX12_anew_5 : decode cX12_anew 5 = .ok (.iload_n 1, 1) := by decide +kernel
theorem dX12_anew_6 : decode cX12_anew 6 = .ok (.ifCond .lt 25, 3) := by decide +kernel
theorem dX12_anew_9 : decode cX12_anew 9 = .ok (.iload_n 1, 1) := by decide +kernel
theorem dX12_anew_10 : decode cX12_anew 10 = .ok (.ldc 169, 2) := by decide +kernel
theorem dX12_anew_12 : decode cX12_anew 12 = .ok (.if_icmp .gt 19, 3) := by decide +kernel
theorem dX12_anew_15 : decode cX12_anew 15 = .ok (.iload_n 1, 1) := by decide +kernel
theorem dX12_anew_16 : decode cX12_anew 16 = .ok (.sipush 4096, 3) := by decide +kernel
theorem dX12_anew_19 : decode cX12_anew 19 = .ok (.irem, 1) := by decide +kernel
theorem dX12_anew_20 : decode cX12_anew 20 = .ok (.ifCond .ne 11, 3) := by decide +kernel
theorem dX12_anew_23 : decode cX12_anew 23 = .ok (.iload_n 2, 1) := by decide +kernel
theorem dX12_anew_24 : decode cX12_anew 24 = .ok (.i2l, 1) := by decide +kernel
theorem dX12_anew_25 : decode cX12_anew 25 = .ok (.invokestatic 170, 3) := by decide +kernel
theorem dX12_anew_28 : decode cX12_anew 28 = .ok (.ifCond .ne 5, 3) := by decide +kernel
theorem dX12_anew_31 : decode cX12_anew 31 = .ok (.iconst 0, 1) := by decide +kernel
theorem dX12_anew_32 : decode cX12_anew 32 = .ok (.ireturn, 1) := by decide +kernel
theorem dX12_anew_33 : decode cX12_anew 33 = .ok (.aload_n 0, 1) := by decide +kernel
theorem dX12_anew_34 : decode cX12_anew 34 = .ok (.iload_n 1, 1) := by decide +kernel
theorem dX12_anew_35 : decode cX12_anew 35 = .ok (.putfield 17, 3) := by decide +kernel
theorem dX12_anew_38 : decode cX12_anew 38 = .ok (.aload_n 0, 1) := by decide +kernel
theorem dX12_anew_39 : decode cX12_anew 39 = .ok (.iload_n 2, 1) := by decide +kernel
theorem dX12_anew_40 : decode cX12_anew 40 = .ok (.putfield 21, 3) := by decide +kernel
theorem dX12_anew_43 : decode cX12_anew 43 = .ok (.aload_n 0, 1) := by decide +kernel
theorem dX12_anew_44 : decode cX12_anew 44 = .ok (.iconst 0, 1) := by decide +kernel
theorem dX12_anew_45 : decode cX12_anew 45 = .ok (.putfield 174, 3) := by decide +kernel
theorem dX12_anew_48 : decode cX12_anew 48 = .ok (.aload_n 0, 1) := by decide +kernel
theorem dX12_anew_49 : decode cX12_anew 49 = .ok (.iconst 0, 1) := by decide +kernel
theorem dX12_anew_50 : decode cX12_anew 50 = .ok (.putfield 177, 3) := by decide +kernel
theorem dX12_anew_53 : decode cX12_anew 53 = .ok (.aload_n 0, 1) := by decide +kernel
theorem dX12_anew_54 : decode cX12_anew 54 = .ok (.iconst 0, 1) := by decide +kernel
theorem dX12_anew_55 : decode cX12_anew 55 = .ok (.putfield 180, 3) := by decide +kernel
theorem dX12_anew_58 : decode cX12_anew 58 = .ok (.aload_n 0, 1) := by decide +kernel
theorem dX12_anew_59 : decode cX12_anew 59 = .ok (.iconst 0, 1) := by decide +kernel
theorem dX12_anew_60 : decode cX12_anew 60 = .ok (.putfield 183, 3) := by decide +kernel
theorem dX12_anew_63 : decode cX12_anew 63 = .ok (.aload_n 0, 1) := by decide +kernel
theorem dX12_anew_64 : decode cX12_anew 64 = .ok (.iconst 0, 1) := by decide +kernel
theorem dX12_anew_65 : decode cX12_anew 65 = .ok (.putfield 186, 3) := by decide +kernel
theorem dX12_anew_68 : decode cX12_anew 68 = .ok (.iconst 1, 1) := by decide +kernel
theorem dX12_anew_69 : decode cX12_anew 69 = .ok (.ireturn, 1) := by decide +kernel
theorem dX12_segment_0 : decode cX12_segment 0 = .ok (.aload_n 0, 1) := by decide +kernel
theorem dX12_segment_1 : decode cX12_segment 1 = .ok (.iconst 0, 1) := by decide +kernel
theorem dX12_segment_2 : decode cX12_segment 2 = .ok (.putfield 149, 3) := by decide +kernel
theorem dX12_segment_5 : decode cX12_segment 5 = .ok (.aload_n 0, 1) := by decide +kernel
theorem dX12_segment_6 : decode cX12_segment 6 = .ok (.getfield 174, 3) := by decide +kernel
theorem dX12_segment_9 : decode cX12_segment 9 = .ok (.iconst 4, 1) := by decide +kernel
theorem dX12_segment_10 : decode cX12_segment 10 = .ok (.if_icmp .ge 29, 3) := by decide +kernel
theorem dX12_segment_13 : decode cX12_segment 13 = .ok (.iload_n 1, 1) := by decide +kernel
theorem dX12_segment_14 : decode cX12_segment 14 = .ok (.iconst 1, 1) := by decide +kernel
theorem dX12_segment_15 : decode cX12_segment 15 = .ok (.if_icmp .lt 24, 3) := by decide +kernel
theorem dX12_segment_18 : decode cX12_segment 18 = .ok (.iload_n 1, 1) := by decide +kernel
theorem dX12_segment_19 : decode cX12_segment 19 = .ok (.sipush 1024, 3) := by decide +kernel
theorem dX12_segment_22 : decode cX12_segment 22 = .ok (.if_icmp .gt 17, 3) := by decide +kernel
theorem dX12_segment_25 : decode cX12_segment 25 = .ok (.iload_n 2, 1) := by decide +kernel
theorem dX12_segment_26 : decode cX12_segment 26 = .ok (.ifCond .lt 13, 3) := by decide +kernel
theorem dX12_segment_29 : decode cX12_segment 29 = .ok (.iload_n 2, 1) := by decide +kernel
theorem dX12_segment_30 : decode cX12_segment 30 = .ok (.bipush 7, 2) := by decide +kernel
theorem dX12_segment_32 : decode cX12_segment 32 = .ok (.if_icmp .gt 7, 3) := by decide +kernel
theorem dX12_segment_35 : decode cX12_segment 35 = .ok (.iconst 1, 1) := by decide +kernel
theorem dX12_segment_36 : decode cX12_segment 36 = .ok (.goto 4, 3) := by decide +kernel
theorem dX12_segment_39 : decode cX12_segment 39 = .ok (.iconst 0, 1) := by decide +kernel
theorem dX12_segment_40 : decode cX12_segment 40 = .ok (.istore_n 3, 1) := by decide +kernel
theorem dX12_segment_41 : decode cX12_segment 41 = .ok (.iload_n 3, 1) := by decide +kernel
theorem dX12_segment_42 : decode cX12_segment 42 = .ok (.ifCond .ne 10, 3) := by decide +kernel
theorem dX12_segment_45 : decode cX12_segment 45 = .ok (.aload_n 0, 1) := by decide +kernel
theorem dX12_segment_46 : decode cX12_segment 46 = .ok (.iconst 0, 1) := by decide +kernel
theorem dX12_segment_47 : decode cX12_segment 47 = .ok (.putfield 152, 3) := by decide +kernel
theorem dX12_segment_50 : decode cX12_segment 50 = .ok (.iconst (-1), 1) := by decide +kernel
theorem dX12_segment_51 : decode cX12_segment 51 = .ok (.ireturn, 1) := by decide +kernel
theorem dX12_segment_52 : decode cX12_segment 52 = .ok (.aload_n 0, 1) := by decide +kernel
theorem dX12_segment_53 : decode cX12_segment 53 = .ok (.aload_n 0, 1) := by decide +kernel
theorem dX12_segment_54 : decode cX12_segment 54 = .ok (.getfield 174, 3) := by decide +kernel
theorem dX12_segment_57 : decode cX12_segment 57 = .ok (.invokevirtual 189, 3) := by decide +kernel
theorem dX12_segment_60 : decode cX12_segment 60 = .ok (.ifCond .ne 5, 3) := by decide +kernel
theorem dX12_segment_63 : decode cX12_segment 63 = .ok (.iconst (-1), 1) := by decide +kernel
theorem dX12_segment_64 : decode cX12_segment 64 = .ok (.ireturn, 1) := by decide +kernel
theorem dX12_segment_65 : decode cX12_segment 65 = .ok (.aload_n 0, 1) := by decide +kernel
theorem dX12_segment_66 : decode cX12_segment 66 = .ok (.getfield 24, 3) := by decide +kernel
theorem dX12_segment_69 : decode cX12_segment 69 = .ok (.aload_n 0, 1) := by decide +kernel
theorem dX12_segment_70 : decode cX12_segment 70 = .ok (.getfield 174, 3) := by decide +kernel
theorem dX12_segment_73 : decode cX12_segment 73 = .ok (.iload_n 1, 1) := by decide +kernel
theorem dX12_segment_74 : decode cX12_segment 74 = .ok (.iastore, 1) := by decide +kernel
theorem dX12_segment_75 : decode cX12_segment 75 = .ok (.aload_n 0, 1) := by decide +kernel
theorem dX12_segment_76 : decode cX12_segment 76 = .ok (.getfield 27, 3) := by decide +kernel
theorem dX12_segment_79 : decode cX12_segment 79 = .ok (.aload_n 0, 1) := by decide +kernel
theorem dX12_segment_80 : decode cX12_segment 80 = .ok (.getfield 174, 3) := by decide +kernel
theorem dX12_segment_83 : decode cX12_segment 83 = .ok (.iload_n 2, 1) := by decide +kernel
theorem dX12_segment_84 : decode cX12_segment 84 = .ok (.iastore, 1) := by decide +kernel
theorem dX12_segment_85 : decode cX12_segment 85 = .ok (.iconst 0, 1) := by decide +kernel
theorem dX12_segment_86 : decode cX12_segment 86 = .ok (.istore 4, 2) := by decide +kernel
theorem dX12_segment_88 : decode cX12_segment 88 = .ok (.iload 4, 2) := by decide +kernel
theorem dX12_segment_90 : decode cX12_segment 90 = .ok (.sipush 1024, 3) := by decide +kernel
theorem dX12_segment_93 : decode cX12_segment 93 = .ok (.if_icmp .ge 26, 3) := by decide +kernel
theorem dX12_segment_96 : decode cX12_segment 96 = .ok (.aload_n 0, 1) := by decide +kernel
theorem dX12_segment_97 : decode cX12_segment 97 = .ok (.getfield 30, 3) := by decide +kernel
theorem dX12_segment_100 : decode cX12_segment 100 = .ok (.sipush 1024, 3) := by decide +kernel
theorem dX12_segment_103 : decode cX12_segment 103 = .ok (.aload_n 0, 1) := by decide +kernel
theorem dX12_segment_104 : decode cX12_segment 104 = .ok (.getfield 174, 3) := by decide +kernel
theorem dX12_segment_107 : decode cX12_segment 107 = .ok (.imul, 1) := by decide +kernel
theorem dX12_segment_108 : decode cX12_segment 108 = .ok (.iload 4, 2) := by decide +kernel
theorem dX12_segment_110 : decode cX12_segment 110 = .ok (.iadd, 1) := by decide +kernel
theorem dX12_segment_111 : decode cX12_segment 111 = .ok (.iconst 0, 1) := by decide +kernel
theorem dX12_segment_112 : decode cX12_segment 112 = .ok (.iastore, 1) := by decide +kernel
theorem dX12_segment_113 : decode cX12_segment 113 = .ok (.iinc 4 1, 3) := by decide +kernel
theorem dX12_segment_116 : decode cX12_segment 116 = .ok (.goto (-28), 3) := by decide +kernel
theorem dX12_segment_119 : decode cX12_segment 119 = .ok (.aload_n 0, 1) := by decide +kernel
theorem dX12_segment_120 : decode cX12_segment 120 = .ok (.dup, 1) := by decide +kernel
theorem dX12_segment_121 : decode cX12_segment 121 = .ok (.getfield 174, 3) := by decide +kernel
theorem dX12_segment_124 : decode cX12_segment 124 = .ok (.iconst 1, 1) := by decide +kernel
theorem dX12_segment_125 : decode cX12_segment 125 = .ok (.iadd, 1) := by decide +kernel
theorem dX12_segment_126 : decode cX12_segment 126 = .ok (.putfield 174, 3) := by decide +kernel
theorem dX12_segment_129 : decode cX12_segment 129 = .ok (.aload_n 0, 1) := by decide +kernel
theorem dX12_segment_130 : decode cX12_segment 130 = .ok (.getfield 174, 3) := by decide +kernel
theorem dX12_segment_133 : decode cX12_segment 133 = .ok (.iconst 1, 1) := by decide +kernel
theorem dX12_segment_134 : decode cX12_segment 134 = .ok (.isub, 1) := by decide +kernel
theorem dX12_segment_135 : decode cX12_segment 135 = .ok (.ireturn, 1) := by decide +kernel
theorem dX12_isSegment_0 : decode cX12_isSegment 0 = .ok (.iload_n 1, 1) := by decide +kernel
theorem dX12_isSegment_1 : decode cX12_isSegment 1 = .ok (.ifCond .lt 15, 3) := by decide +kernel
theorem dX12_isSegment_4 : decode cX12_isSegment 4 = .ok (.iload_n 1, 1) := by decide +kernel
theorem dX12_isSegment_5 : decode cX12_isSegment 5 = .ok (.aload_n 0, 1) := by decide +kernel
theorem dX12_isSegment_6 : decode cX12_isSegment 6 = .ok (.getfield 174, 3) := by decide +kernel
theorem dX12_isSegment_9 : decode cX12_isSegment 9 = .ok (.if_icmp .ge 7, 3) := by decide +kernel
theorem dX12_isSegment_12 : decode cX12_isSegment 12 = .ok (.iconst 1, 1) := by decide +kernel
theorem dX12_isSegment_13 : decode cX12_isSegment 13 = .ok (.goto 4, 3) := by decide +kernel
theorem dX12_isSegment_16 : decode cX12_isSegment 16 = .ok (.iconst 0, 1) := by decide +kernel
theorem dX12_isSegment_17 : decode cX12_isSegment 17 = .ok (.ireturn, 1) := by decide +kernel
theorem dX12_fill_0 : decode cX12_fill 0 = .ok (.aload_n 0, 1) := by decide +kernel
theorem dX12_fill_1 : decode cX12_fill 1 = .ok (.iconst 0, 1) := by decide +kernel
theorem dX12_fill_2 : decode cX12_fill 2 = .ok (.putfield 149, 3) := by decide +kernel
theorem dX12_fill_5 : decode cX12_fill 5 = .ok (.aload_n 0, 1) := by decide +kernel
theorem dX12_fill_6 : decode cX12_fill 6 = .ok (.getfield 152, 3) := by decide +kernel
theorem dX12_fill_9 : decode cX12_fill 9 = .ok (.istore_n 3, 1) := by decide +kernel
theorem dX12_fill_10 : decode cX12_fill 10 = .ok (.aload_n 0, 1) := by decide +kernel
theorem dX12_fill_11 : decode cX12_fill 11 = .ok (.iconst 0, 1) := by decide +kernel
theorem dX12_fill_12 : decode cX12_fill 12 = .ok (.putfield 152, 3) := by decide +kernel
theorem dX12_fill_15 : decode cX12_fill 15 = .ok (.aload_n 0, 1) := by decide +kernel
theorem dX12_fill_16 : decode cX12_fill 16 = .ok (.iload_n 1, 1) := by decide +kernel
theorem dX12_fill_17 : decode cX12_fill 17 = .ok (.invokevirtual 193, 3) := by decide +kernel
theorem dX12_fill_20 : decode cX12_fill 20 = .ok (.ifCond .eq 19, 3) := by decide +kernel
theorem dX12_fill_23 : decode cX12_fill 23 = .ok (.iload_n 2, 1) := by decide +kernel
theorem dX12_fill_24 : decode cX12_fill 24 = .ok (.ifCond .lt 15, 3) := by decide +kernel
theorem dX12_fill_27 : decode cX12_fill 27 = .ok (.iload_n 2, 1) := by decide +kernel
theorem dX12_fill_28 : decode cX12_fill 28 = .ok (.aload_n 0, 1) := by decide +kernel
theorem dX12_fill_29 : decode cX12_fill 29 = .ok (.getfield 24, 3) := by decide +kernel
theorem dX12_fill_32 : decode cX12_fill 32 = .ok (.iload_n 1, 1) := by decide +kernel
theorem dX12_fill_33 : decode cX12_fill 33 = .ok (.iaload, 1) := by decide +kernel
theorem dX12_fill_34 : decode cX12_fill 34 = .ok (.iload_n 3, 1) := by decide +kernel
theorem dX12_fill_35 : decode cX12_fill 35 = .ok (.isub, 1) := by decide +kernel
theorem dX12_fill_36 : decode cX12_fill 36 = .ok (.if_icmp .le 5, 3) := by decide +kernel
theorem dX12_fill_39 : decode cX12_fill 39 = .ok (.iconst 0, 1) := by decide +kernel
theorem dX12_fill_40 : decode cX12_fill 40 = .ok (.ireturn, 1) := by decide +kernel
theorem dX12_fill_41 : decode cX12_fill 41 = .ok (.iconst 0, 1) := by decide +kernel
theorem dX12_fill_42 : decode cX12_fill 42 = .ok (.istore 4, 2) := by decide +kernel
theorem dX12_fill_44 : decode cX12_fill 44 = .ok (.iload 4, 2) := by decide +kernel
theorem dX12_fill_46 : decode cX12_fill 46 = .ok (.iload_n 3, 1) := by decide +kernel
theorem dX12_fill_47 : decode cX12_fill 47 = .ok (.if_icmp .ge 31, 3) := by decide +kernel
theorem dX12_fill_50 : decode cX12_fill 50 = .ok (.aload_n 0, 1) := by decide +kernel
theorem dX12_fill_51 : decode cX12_fill 51 = .ok (.getfield 30, 3) := by decide +kernel
theorem dX12_fill_54 : decode cX12_fill 54 = .ok (.sipush 1024, 3) := by decide +kernel
theorem dX12_fill_57 : decode cX12_fill 57 = .ok (.iload_n 1, 1) := by decide +kernel
theorem dX12_fill_58 : decode cX12_fill 58 = .ok (.imul, 1) := by decide +kernel
theorem dX12_fill_59 : decode cX12_fill 59 = .ok (.iload_n 2, 1) := by decide +kernel
theorem dX12_fill_60 : decode cX12_fill 60 = .ok (.iadd, 1) := by decide +kernel
theorem dX12_fill_61 : decode cX12_fill 61 = .ok (.iload 4, 2) := by decide +kernel
theorem dX12_fill_63 : decode cX12_fill 63 = .ok (.iadd, 1) := by decide +kernel
theorem dX12_fill_64 : decode cX12_fill 64 = .ok (.aload_n 0, 1) := by decide +kernel
theorem dX12_fill_65 : decode cX12_fill 65 = .ok (.getfield 7, 3) := by decide +kernel
theorem dX12_fill_68 : decode cX12_fill 68 = .ok (.iload 4, 2) := by decide +kernel
theorem dX12_fill_70 : decode cX12_fill 70 = .ok (.iaload, 1) := by decide +kernel
theorem dX12_fill_71 : decode cX12_fill 71 = .ok (.iastore, 1) := by decide +kernel
theorem dX12_fill_72 : decode cX12_fill 72 = .ok (.iinc 4 1, 3) := by decide +kernel
theorem dX12_fill_75 : decode cX12_fill 75 = .ok (.goto (-31), 3) := by decide +kernel
theorem dX12_fill_78 : decode cX12_fill 78 = .ok (.iconst 1, 1) := by decide +kernel
theorem dX12_fill_79 : decode cX12_fill 79 = .ok (.ireturn, 1) := by decide +kernel
theorem dX12_section_0 : decode cX12_section 0 = .ok (.aload_n 0, 1) := by decide +kernel
theorem dX12_section_1 : decode cX12_section 1 = .ok (.iconst 0, 1) := by decide +kernel
theorem dX12_section_2 : decode cX12_section 2 = .ok (.putfield 149, 3) := by decide +kernel
theorem dX12_section_5 : decode cX12_section 5 = .ok (.aload_n 0, 1) := by decide +kernel
theorem dX12_section_6 : decode cX12_section 6 = .ok (.getfield 177, 3) := by decide +kernel
theorem dX12_section_9 : decode cX12_section 9 = .ok (.bipush 8, 2) := by decide +kernel
theorem dX12_section_11 : decode cX12_section 11 = .ok (.if_icmp .ge 49, 3) := by decide +kernel
theorem dX12_section_14 : decode cX12_section 14 = .ok (.aload_n 0, 1) := by decide +kernel
theorem dX12_section_15 : decode cX12_section 15 = .ok (.iload_n 1, 1) := by decide +kernel
theorem dX12_section_16 : decode cX12_section 16 = .ok (.invokevirtual 193, 3) := by decide +kernel
theorem dX12_section_19 : decode cX12_section 19 = .ok (.ifCond .eq 41, 3) := by decide +kernel
theorem dX12_section_22 : decode cX12_section 22 = .ok (.iload_n 2, 1) := by decide +kernel
theorem dX12_section_23 : decode cX12_section 23 = .ok (.ifCond .lt 37, 3) := by decide +kernel
theorem dX12_section_26 : decode cX12_section 26 = .ok (.iload_n 3, 1) := by decide +kernel
theorem dX12_section_27 : decode cX12_section 27 = .ok (.ifCond .lt 33, 3) := by decide +kernel
theorem dX12_section_30 : decode cX12_section 30 = .ok (.iload_n 2, 1) := by decide +kernel
theorem dX12_section_31 : decode cX12_section 31 = .ok (.sipush 1024, 3) := by decide +kernel
theorem dX12_section_34 : decode cX12_section 34 = .ok (.if_icmp .gt 26, 3) := by decide +kernel
theorem dX12_section_37 : decode cX12_section 37 = .ok (.iload_n 3, 1) := by decide +kernel
theorem dX12_section_38 : decode cX12_section 38 = .ok (.sipush 1024, 3) := by decide +kernel
theorem dX12_section_41 : decode cX12_section 41 = .ok (.if_icmp .gt 19, 3) := by decide +kernel
theorem dX12_section_44 : decode cX12_section 44 = .ok (.iload_n 2, 1) := by decide +kernel
theorem dX12_section_45 : decode cX12_section 45 = .ok (.iload_n 3, 1) := by decide +kernel
theorem dX12_section_46 : decode cX12_section 46 = .ok (.iadd, 1) := by decide +kernel
theorem dX12_section_47 : decode cX12_section 47 = .ok (.aload_n 0, 1) := by decide +kernel
theorem dX12_section_48 : decode cX12_section 48 = .ok (.getfield 24, 3) := by decide +kernel
theorem dX12_section_51 : decode cX12_section 51 = .ok (.iload_n 1, 1) := by decide +kernel
theorem dX12_section_52 : decode cX12_section 52 = .ok (.iaload, 1) := by decide +kernel
theorem dX12_section_53 : decode cX12_section 53 = .ok (.if_icmp .gt 7, 3) := by decide +kernel
theorem dX12_section_56 : decode cX12_section 56 = .ok (.iconst 1, 1) := by decide +kernel
theorem dX12_section_57 : decode cX12_section 57 = .ok (.goto 4, 3) := by decide +kernel
theorem dX12_section_60 : decode cX12_section 60 = .ok (.iconst 0, 1) := by decide +kernel
theorem dX12_section_61 : decode cX12_section 61 = .ok (.istore 4, 2) := by decide +kernel
theorem dX12_section_63 : decode cX12_section 63 = .ok (.iload 4, 2) := by decide +kernel
theorem dX12_section_65 : decode cX12_section 65 = .ok (.ifCond .ne 10, 3) := by decide +kernel
theorem dX12_section_68 : decode cX12_section 68 = .ok (.aload_n 0, 1) := by decide +kernel
theorem dX12_section_69 : decode cX12_section 69 = .ok (.iconst 0, 1) := by decide +kernel
theorem dX12_section_70 : decode cX12_section 70 = .ok (.putfield 152, 3) := by decide +kernel
theorem dX12_section_73 : decode cX12_section 73 = .ok (.iconst (-1), 1) := by decide +kernel
theorem dX12_section_74 : decode cX12_section 74 = .ok (.ireturn, 1) := by decide +kernel
theorem dX12_section_75 : decode cX12_section 75 = .ok (.aload_n 0, 1) := by decide +kernel
theorem dX12_section_76 : decode cX12_section 76 = .ok (.iconst 4, 1) := by decide +kernel
theorem dX12_section_77 : decode cX12_section 77 = .ok (.aload_n 0, 1) := by decide +kernel
theorem dX12_section_78 : decode cX12_section 78 = .ok (.getfield 177, 3) := by decide +kernel
theorem dX12_section_81 : decode cX12_section 81 = .ok (.iadd, 1) := by decide +kernel
theorem dX12_section_82 : decode cX12_section 82 = .ok (.invokevirtual 189, 3) := by decide +kernel
theorem dX12_section_85 : decode cX12_section 85 = .ok (.ifCond .ne 5, 3) := by decide +kernel
theorem dX12_section_88 : decode cX12_section 88 = .ok (.iconst (-1), 1) := by decide +kernel
theorem dX12_section_89 : decode cX12_section 89 = .ok (.ireturn, 1) := by decide +kernel
theorem dX12_section_90 : decode cX12_section 90 = .ok (.aload_n 0, 1) := by decide +kernel
theorem dX12_section_91 : decode cX12_section 91 = .ok (.dup, 1) := by decide +kernel
theorem dX12_section_92 : decode cX12_section 92 = .ok (.getfield 177, 3) := by decide +kernel
theorem dX12_section_95 : decode cX12_section 95 = .ok (.iconst 1, 1) := by decide +kernel
theorem dX12_section_96 : decode cX12_section 96 = .ok (.iadd, 1) := by decide +kernel
theorem dX12_section_97 : decode cX12_section 97 = .ok (.putfield 177, 3) := by decide +kernel
theorem dX12_section_100 : decode cX12_section 100 = .ok (.aload_n 0, 1) := by decide +kernel
theorem dX12_section_101 : decode cX12_section 101 = .ok (.getfield 33, 3) := by decide +kernel
theorem dX12_section_104 : decode cX12_section 104 = .ok (.aload_n 0, 1) := by decide +kernel
theorem dX12_section_105 : decode cX12_section 105 = .ok (.getfield 177, 3) := by decide +kernel
theorem dX12_section_108 : decode cX12_section 108 = .ok (.iload_n 1, 1) := by decide +kernel
theorem dX12_section_109 : decode cX12_section 109 = .ok (.iastore, 1) := by decide +kernel
theorem dX12_section_110 : decode cX12_section 110 = .ok (.aload_n 0, 1) := by decide +kernel
theorem dX12_section_111 : decode cX12_section 111 = .ok (.getfield 36, 3) := by decide +kernel
theorem dX12_section_114 : decode cX12_section 114 = .ok (.aload_n 0, 1) := by decide +kernel
theorem dX12_section_115 : decode cX12_section 115 = .ok (.getfield 177, 3) := by decide +kernel
theorem dX12_section_118 : decode cX12_section 118 = .ok (.iload_n 2, 1) := by decide +kernel
theorem dX12_section_119 : decode cX12_section 119 = .ok (.iastore, 1) := by decide +kernel
theorem dX12_section_120 : decode cX12_section 120 = .ok (.aload_n 0, 1) := by decide +kernel
theorem dX12_section_121 : decode cX12_section 121 = .ok (.getfield 39, 3) := by decide +kernel
theorem dX12_section_124 : decode cX12_section 124 = .ok (.aload_n 0, 1) := by decide +kernel
theorem dX12_section_125 : decode cX12_section 125 = .ok (.getfield 177, 3) := by decide +kernel
theorem dX12_section_128 : decode cX12_section 128 = .ok (.iload_n 3, 1) := by decide +kernel
theorem dX12_section_129 : decode cX12_section 129 = .ok (.iastore, 1) := by decide +kernel
theorem dX12_section_130 : decode cX12_section 130 = .ok (.aload_n 0, 1) := by decide +kernel
theorem dX12_section_131 : decode cX12_section 131 = .ok (.getfield 177, 3) := by decide +kernel
theorem dX12_section_134 : decode cX12_section 134 = .ok (.ireturn, 1) := by decide +kernel
theorem dX12_symbol_0 : decode cX12_symbol 0 = .ok (.aload_n 0, 1) := by decide +kernel
theorem dX12_symbol_1 : decode cX12_symbol 1 = .ok (.iconst 0, 1) := by decide +kernel
theorem dX12_symbol_2 : decode cX12_symbol 2 = .ok (.putfield 149, 3) := by decide +kernel
theorem dX12_symbol_5 : decode cX12_symbol 5 = .ok (.aload_n 0, 1) := by decide +kernel
theorem dX12_symbol_6 : decode cX12_symbol 6 = .ok (.getfield 180, 3) := by decide +kernel
theorem dX12_symbol_9 : decode cX12_symbol 9 = .ok (.bipush 20, 2) := by decide +kernel
theorem dX12_symbol_11 : decode cX12_symbol 11 = .ok (.if_icmp .ge 34, 3) := by decide +kernel
theorem dX12_symbol_14 : decode cX12_symbol 14 = .ok (.iload_n 1, 1) := by decide +kernel
theorem dX12_symbol_15 : decode cX12_symbol 15 = .ok (.iconst 1, 1) := by decide +kernel
theorem dX12_symbol_16 : decode cX12_symbol 16 = .ok (.if_icmp .lt 29, 3) := by decide +kernel
theorem dX12_symbol_19 : decode cX12_symbol 19 = .ok (.iload_n 1, 1) := by decide +kernel
theorem dX12_symbol_20 : decode cX12_symbol 20 = .ok (.aload_n 0, 1) := by decide +kernel
theorem dX12_symbol_21 : decode cX12_symbol 21 = .ok (.getfield 177, 3) := by decide +kernel
theorem dX12_symbol_24 : decode cX12_symbol 24 = .ok (.if_icmp .gt 21, 3) := by decide +kernel
theorem dX12_symbol_27 : decode cX12_symbol 27 = .ok (.iload_n 2, 1) := by decide +kernel
theorem dX12_symbol_28 : decode cX12_symbol 28 = .ok (.ifCond .lt 17, 3) := by decide +kernel
theorem dX12_symbol_31 : decode cX12_symbol 31 = .ok (.iload_n 2, 1) := by decide +kernel
theorem dX12_symbol_32 : decode cX12_symbol 32 = .ok (.aload_n 0, 1) := by decide +kernel
theorem dX12_symbol_33 : decode cX12_symbol 33 = .ok (.getfield 39, 3) := by decide +kernel
theorem dX12_symbol_36 : decode cX12_symbol 36 = .ok (.iload_n 1, 1) := by decide +kernel
theorem dX12_symbol_37 : decode cX12_symbol 37 = .ok (.iaload, 1) := by decide +kernel
theorem dX12_symbol_38 : decode cX12_symbol 38 = .ok (.if_icmp .gt 7, 3) := by decide +kernel
theorem dX12_symbol_41 : decode cX12_symbol 41 = .ok (.iconst 1, 1) := by decide +kernel
theorem dX12_symbol_42 : decode cX12_symbol 42 = .ok (.goto 4, 3) := by decide +kernel
theorem dX12_symbol_45 : decode cX12_symbol 45 = .ok (.iconst 0, 1) := by decide +kernel
theorem dX12_symbol_46 : decode cX12_symbol 46 = .ok (.istore_n 3, 1) := by decide +kernel
theorem dX12_symbol_47 : decode cX12_symbol 47 = .ok (.iload_n 3, 1) := by decide +kernel
theorem dX12_symbol_48 : decode cX12_symbol 48 = .ok (.ifCond .ne 10, 3) := by decide +kernel
theorem dX12_symbol_51 : decode cX12_symbol 51 = .ok (.aload_n 0, 1) := by decide +kernel
theorem dX12_symbol_52 : decode cX12_symbol 52 = .ok (.iconst 0, 1) := by decide +kernel
theorem dX12_symbol_53 : decode cX12_symbol 53 = .ok (.putfield 152, 3) := by decide +kernel
theorem dX12_symbol_56 : decode cX12_symbol 56 = .ok (.iconst (-1), 1) := by decide +kernel
theorem dX12_symbol_57 : decode cX12_symbol 57 = .ok (.ireturn, 1) := by decide +kernel
theorem dX12_symbol_58 : decode cX12_symbol 58 = .ok (.aload_n 0, 1) := by decide +kernel
theorem dX12_symbol_59 : decode cX12_symbol 59 = .ok (.bipush 12, 2) := by decide +kernel
theorem dX12_symbol_61 : decode cX12_symbol 61 = .ok (.aload_n 0, 1) := by decide +kernel
theorem dX12_symbol_62 : decode cX12_symbol 62 = .ok (.getfield 180, 3) := by decide +kernel
theorem dX12_symbol_65 : decode cX12_symbol 65 = .ok (.iadd, 1) := by decide +kernel
theorem dX12_symbol_66 : decode cX12_symbol 66 = .ok (.invokevirtual 189, 3) := by decide +kernel
theorem dX12_symbol_69 : decode cX12_symbol 69 = .ok (.ifCond .ne 5, 3) := by decide +kernel
theorem dX12_symbol_72 : decode cX12_symbol 72 = .ok (.iconst (-1), 1) := by decide +kernel
theorem dX12_symbol_73 : decode cX12_symbol 73 = .ok (.ireturn, 1) := by decide +kernel
theorem dX12_symbol_74 : decode cX12_symbol 74 = .ok (.aload_n 0, 1) := by decide +kernel
theorem dX12_symbol_75 : decode cX12_symbol 75 = .ok (.getfield 42, 3) := by decide +kernel
theorem dX12_symbol_78 : decode cX12_symbol 78 = .ok (.aload_n 0, 1) := by decide +kernel
theorem dX12_symbol_79 : decode cX12_symbol 79 = .ok (.getfield 180, 3) := by decide +kernel
theorem dX12_symbol_82 : decode cX12_symbol 82 = .ok (.iload_n 1, 1) := by decide +kernel
theorem dX12_symbol_83 : decode cX12_symbol 83 = .ok (.iastore, 1) := by decide +kernel
theorem dX12_symbol_84 : decode cX12_symbol 84 = .ok (.aload_n 0, 1) := by decide +kernel
theorem dX12_symbol_85 : decode cX12_symbol 85 = .ok (.getfield 45, 3) := by decide +kernel
theorem dX12_symbol_88 : decode cX12_symbol 88 = .ok (.aload_n 0, 1) := by decide +kernel
theorem dX12_symbol_89 : decode cX12_symbol 89 = .ok (.getfield 180, 3) := by decide +kernel
theorem dX12_symbol_92 : decode cX12_symbol 92 = .ok (.iload_n 2, 1) := by decide +kernel
theorem dX12_symbol_93 : decode cX12_symbol 93 = .ok (.iastore, 1) := by decide +kernel
theorem dX12_symbol_94 : decode cX12_symbol 94 = .ok (.aload_n 0, 1) := by decide +kernel
theorem dX12_symbol_95 : decode cX12_symbol 95 = .ok (.dup, 1) := by decide +kernel
theorem dX12_symbol_96 : decode cX12_symbol 96 = .ok (.getfield 180, 3) := by decide +kernel
theorem dX12_symbol_99 : decode cX12_symbol 99 = .ok (.iconst 1, 1) := by decide +kernel
theorem dX12_symbol_100 : decode cX12_symbol 100 = .ok (.iadd, 1) := by decide +kernel
theorem dX12_symbol_101 : decode cX12_symbol 101 = .ok (.putfield 180, 3) := by decide +kernel
theorem dX12_symbol_104 : decode cX12_symbol 104 = .ok (.aload_n 0, 1) := by decide +kernel
theorem dX12_symbol_105 : decode cX12_symbol 105 = .ok (.getfield 180, 3) := by decide +kernel
theorem dX12_symbol_108 : decode cX12_symbol 108 = .ok (.iconst 1, 1) := by decide +kernel
theorem dX12_symbol_109 : decode cX12_symbol 109 = .ok (.isub, 1) := by decide +kernel
theorem dX12_symbol_110 : decode cX12_symbol 110 = .ok (.ireturn, 1) := by decide +kernel
theorem dX12_imports_0 : decode cX12_imports 0 = .ok (.aload_n 0, 1) := by decide +kernel
theorem dX12_imports_1 : decode cX12_imports 1 = .ok (.iconst 0, 1) := by decide +kernel
theorem dX12_imports_2 : decode cX12_imports 2 = .ok (.putfield 149, 3) := by decide +kernel
theorem dX12_imports_5 : decode cX12_imports 5 = .ok (.aload_n 0, 1) := by decide +kernel
theorem dX12_imports_6 : decode cX12_imports 6 = .ok (.getfield 183, 3) := by decide +kernel
theorem dX12_imports_9 : decode cX12_imports 9 = .ok (.bipush 20, 2) := by decide +kernel
theorem dX12_imports_11 : decode cX12_imports 11 = .ok (.if_icmp .eq 13, 3) := by decide +kernel
theorem dX12_imports_14 : decode cX12_imports 14 = .ok (.iload_n 1, 1) := by decide +kernel
theorem dX12_imports_15 : decode cX12_imports 15 = .ok (.iconst 1, 1) := by decide +kernel
theorem dX12_imports_16 : decode cX12_imports 16 = .ok (.if_icmp .lt 8, 3) := by decide +kernel
theorem dX12_imports_19 : decode cX12_imports 19 = .ok (.iload_n 1, 1) := by decide +kernel
theorem dX12_imports_20 : decode cX12_imports 20 = .ok (.iconst 3, 1) := by decide +kernel
theorem dX12_imports_21 : decode cX12_imports 21 = .ok (.if_icmp .le 10, 3) := by decide +kernel
theorem dX12_imports_24 : decode cX12_imports 24 = .ok (.aload_n 0, 1) := by decide +kernel
theorem dX12_imports_25 : decode cX12_imports 25 = .ok (.iconst 0, 1) := by decide +kernel
theorem dX12_imports_26 : decode cX12_imports 26 = .ok (.putfield 152, 3) := by decide +kernel
theorem dX12_imports_29 : decode cX12_imports 29 = .ok (.iconst (-1), 1) := by decide +kernel
theorem dX12_imports_30 : decode cX12_imports 30 = .ok (.ireturn, 1) := by decide +kernel
theorem dX12_imports_31 : decode cX12_imports 31 = .ok (.aload_n 0, 1) := by decide +kernel
theorem dX12_imports_32 : decode cX12_imports 32 = .ok (.bipush 32, 2) := by decide +kernel
theorem dX12_imports_34 : decode cX12_imports 34 = .ok (.aload_n 0, 1) := by decide +kernel
theorem dX12_imports_35 : decode cX12_imports 35 = .ok (.getfield 183, 3) := by decide +kernel
theorem dX12_imports_38 : decode cX12_imports 38 = .ok (.iadd, 1) := by decide +kernel
theorem dX12_imports_39 : decode cX12_imports 39 = .ok (.invokevirtual 189, 3) := by decide +kernel
theorem dX12_imports_42 : decode cX12_imports 42 = .ok (.ifCond .ne 5, 3) := by decide +kernel
theorem dX12_imports_45 : decode cX12_imports 45 = .ok (.iconst (-1), 1) := by decide +kernel
theorem dX12_imports_46 : decode cX12_imports 46 = .ok (.ireturn, 1) := by decide +kernel
theorem dX12_imports_47 : decode cX12_imports 47 = .ok (.aload_n 0, 1) := by decide +kernel
theorem dX12_imports_48 : decode cX12_imports 48 = .ok (.getfield 48, 3) := by decide +kernel
theorem dX12_imports_51 : decode cX12_imports 51 = .ok (.aload_n 0, 1) := by decide +kernel
theorem dX12_imports_52 : decode cX12_imports 52 = .ok (.getfield 183, 3) := by decide +kernel
theorem dX12_imports_55 : decode cX12_imports 55 = .ok (.iload_n 1, 1) := by decide +kernel
theorem dX12_imports_56 : decode cX12_imports 56 = .ok (.iastore, 1) := by decide +kernel
theorem dX12_imports_57 : decode cX12_imports 57 = .ok (.aload_n 0, 1) := by decide +kernel
theorem dX12_imports_58 : decode cX12_imports 58 = .ok (.getfield 51, 3) := by decide +kernel
theorem dX12_imports_61 : decode cX12_imports 61 = .ok (.aload_n 0, 1) := by decide +kernel
theorem dX12_imports_62 : decode cX12_imports 62 = .ok (.getfield 183, 3) := by decide +kernel
theorem dX12_imports_65 : decode cX12_imports 65 = .ok (.iload_n 2, 1) := by decide +kernel
theorem dX12_imports_66 : decode cX12_imports 66 = .ok (.bastore, 1) := by decide +kernel
theorem dX12_imports_67 : decode cX12_imports 67 = .ok (.aload_n 0, 1) := by decide +kernel
theorem dX12_imports_68 : decode cX12_imports 68 = .ok (.dup, 1) := by decide +kernel
theorem dX12_imports_69 : decode cX12_imports 69 = .ok (.getfield 183, 3) := by decide +kernel
theorem dX12_imports_72 : decode cX12_imports 72 = .ok (.iconst 1, 1) := by decide +kernel
theorem dX12_imports_73 : decode cX12_imports 73 = .ok (.iadd, 1) := by decide +kernel
theorem dX12_imports_74 : decode cX12_imports 74 = .ok (.putfield 183, 3) := by decide +kernel
theorem dX12_imports_77 : decode cX12_imports 77 = .ok (.aload_n 0, 1) := by decide +kernel
theorem dX12_imports_78 : decode cX12_imports 78 = .ok (.getfield 183, 3) := by decide +kernel
theorem dX12_imports_81 : decode cX12_imports 81 = .ok (.iconst 1, 1) := by decide +kernel
theorem dX12_imports_82 : decode cX12_imports 82 = .ok (.isub, 1) := by decide +kernel
theorem dX12_imports_83 : decode cX12_imports 83 = .ok (.ireturn, 1) := by decide +kernel
theorem dX12_pointerAtPlace_0 : decode cX12_pointerAtPlace 0 = .ok (.iconst 0, 1) := by decide +kernel
theorem dX12_pointerAtPlace_1 : decode cX12_pointerAtPlace 1 = .ok (.istore_n 3, 1) := by decide +kernel
theorem dX12_pointerAtPlace_2 : decode cX12_pointerAtPlace 2 = .ok (.iload_n 3, 1) := by decide +kernel
theorem dX12_pointerAtPlace_3 : decode cX12_pointerAtPlace 3 = .ok (.aload_n 0, 1) := by decide +kernel
theorem dX12_pointerAtPlace_4 : decode cX12_pointerAtPlace 4 = .ok (.getfield 186, 3) := by decide +kernel
theorem dX12_pointerAtPlace_7 : decode cX12_pointerAtPlace 7 = .ok (.if_icmp .ge 31, 3) := by decide +kernel
theorem dX12_pointerAtPlace_10 : decode cX12_pointerAtPlace 10 = .ok (.aload_n 0, 1) := by decide +kernel
theorem dX12_pointerAtPlace_11 : decode cX12_pointerAtPlace 11 = .ok (.getfield 55, 3) := by decide +kernel
theorem dX12_pointerAtPlace_14 : decode cX12_pointerAtPlace 14 = .ok (.iload_n 3, 1) := by decide +kernel
theorem dX12_pointerAtPlace_15 : decode cX12_pointerAtPlace 15 = .ok (.iaload, 1) := by decide +kernel
theorem dX12_pointerAtPlace_16 : decode cX12_pointerAtPlace 16 = .ok (.iload_n 1, 1) := by decide +kernel
theorem dX12_pointerAtPlace_17 : decode cX12_pointerAtPlace 17 = .ok (.if_icmp .ne 15, 3) := by decide +kernel
theorem dX12_pointerAtPlace_20 : decode cX12_pointerAtPlace 20 = .ok (.aload_n 0, 1) := by decide +kernel
theorem dX12_pointerAtPlace_21 : decode cX12_pointerAtPlace 21 = .ok (.getfield 58, 3) := by decide +kernel
theorem dX12_pointerAtPlace_24 : decode cX12_pointerAtPlace 24 = .ok (.iload_n 3, 1) := by decide +kernel
theorem dX12_pointerAtPlace_25 : decode cX12_pointerAtPlace 25 = .ok (.iaload, 1) := by decide +kernel
theorem dX12_pointerAtPlace_26 : decode cX12_pointerAtPlace 26 = .ok (.iload_n 2, 1) := by decide +kernel
theorem dX12_pointerAtPlace_27 : decode cX12_pointerAtPlace 27 = .ok (.if_icmp .ne 5, 3) := by decide +kernel
theorem dX12_pointerAtPlace_30 : decode cX12_pointerAtPlace 30 = .ok (.iload_n 3, 1) := by decide +kernel
theorem dX12_pointerAtPlace_31 : decode cX12_pointerAtPlace 31 = .ok (.ireturn, 1) := by decide +kernel
theorem dX12_pointerAtPlace_32 : decode cX12_pointerAtPlace 32 = .ok (.iinc 3 1, 3) := by decide +kernel
theorem dX12_pointerAtPlace_35 : decode cX12_pointerAtPlace 35 = .ok (.goto (-33), 3) := by decide +kernel
theorem dX12_pointerAtPlace_38 : decode cX12_pointerAtPlace 38 = .ok (.iconst (-1), 1) := by decide +kernel
theorem dX12_pointerAtPlace_39 : decode cX12_pointerAtPlace 39 = .ok (.ireturn, 1) := by decide +kernel
theorem dX12_gone_0 : decode cX12_gone 0 = .ok (.aload_n 0, 1) := by decide +kernel
theorem dX12_gone_1 : decode cX12_gone 1 = .ok (.dup, 1) := by decide +kernel
theorem dX12_gone_2 : decode cX12_gone 2 = .ok (.getfield 186, 3) := by decide +kernel
theorem dX12_gone_5 : decode cX12_gone 5 = .ok (.iconst 1, 1) := by decide +kernel
theorem dX12_gone_6 : decode cX12_gone 6 = .ok (.isub, 1) := by decide +kernel
theorem dX12_gone_7 : decode cX12_gone 7 = .ok (.putfield 186, 3) := by decide +kernel
theorem dX12_gone_10 : decode cX12_gone 10 = .ok (.iload_n 1, 1) := by decide +kernel
theorem dX12_gone_11 : decode cX12_gone 11 = .ok (.istore_n 2, 1) := by decide +kernel
theorem dX12_gone_12 : decode cX12_gone 12 = .ok (.iload_n 2, 1) := by decide +kernel
theorem dX12_gone_13 : decode cX12_gone 13 = .ok (.aload_n 0, 1) := by decide +kernel
theorem dX12_gone_14 : decode cX12_gone 14 = .ok (.getfield 186, 3) := by decide +kernel
theorem dX12_gone_17 : decode cX12_gone 17 = .ok (.if_icmp .ge 17, 3) := by decide +kernel
theorem dX12_gone_20 : decode cX12_gone 20 = .ok (.aload_n 0, 1) := by decide +kernel
theorem dX12_gone_21 : decode cX12_gone 21 = .ok (.iload_n 2, 1) := by decide +kernel
theorem dX12_gone_22 : decode cX12_gone 22 = .ok (.iconst 1, 1) := by decide +kernel
theorem dX12_gone_23 : decode cX12_gone 23 = .ok (.iadd, 1) := by decide +kernel
theorem dX12_gone_24 : decode cX12_gone 24 = .ok (.iload_n 2, 1) := by decide +kernel
theorem dX12_gone_25 : decode cX12_gone 25 = .ok (.invokevirtual 196, 3) := by decide +kernel
theorem dX12_gone_28 : decode cX12_gone 28 = .ok (.iinc 2 1, 3) := by decide +kernel
theorem dX12_gone_31 : decode cX12_gone 31 = .ok (.goto (-19), 3) := by decide +kernel
theorem dX12_gone_34 : decode cX12_gone 34 = .ok (.return_, 1) := by decide +kernel
theorem dX12_move_0 : decode cX12_move 0 = .ok (.aload_n 0, 1) := by decide +kernel
theorem dX12_move_1 : decode cX12_move 1 = .ok (.getfield 55, 3) := by decide +kernel
theorem dX12_move_4 : decode cX12_move 4 = .ok (.iload_n 2, 1) := by decide +kernel
theorem dX12_move_5 : decode cX12_move 5 = .ok (.aload_n 0, 1) := by decide +kernel
theorem dX12_move_6 : decode cX12_move 6 = .ok (.getfield 55, 3) := by decide +kernel
theorem dX12_move_9 : decode cX12_move 9 = .ok (.iload_n 1, 1) := by decide +kernel
theorem dX12_move_10 : decode cX12_move 10 = .ok (.iaload, 1) := by decide +kernel
theorem dX12_move_11 : decode cX12_move 11 = .ok (.iastore, 1) := by decide +kernel
theorem dX12_move_12 : decode cX12_move 12 = .ok (.aload_n 0, 1) := by decide +kernel
theorem dX12_move_13 : decode cX12_move 13 = .ok (.getfield 58, 3) := by decide +kernel
theorem dX12_move_16 : decode cX12_move 16 = .ok (.iload_n 2, 1) := by decide +kernel
theorem dX12_move_17 : decode cX12_move 17 = .ok (.aload_n 0, 1) := by decide +kernel
theorem dX12_move_18 : decode cX12_move 18 = .ok (.getfield 58, 3) := by decide +kernel
theorem dX12_move_21 : decode cX12_move 21 = .ok (.iload_n 1, 1) := by decide +kernel
theorem dX12_move_22 : decode cX12_move 22 = .ok (.iaload, 1) := by decide +kernel
theorem dX12_move_23 : decode cX12_move 23 = .ok (.iastore, 1) := by decide +kernel
theorem dX12_move_24 : decode cX12_move 24 = .ok (.aload_n 0, 1) := by decide +kernel
theorem dX12_move_25 : decode cX12_move 25 = .ok (.getfield 64, 3) := by decide +kernel
theorem dX12_move_28 : decode cX12_move 28 = .ok (.iload_n 2, 1) := by decide +kernel
theorem dX12_move_29 : decode cX12_move 29 = .ok (.aload_n 0, 1) := by decide +kernel
theorem dX12_move_30 : decode cX12_move 30 = .ok (.getfield 64, 3) := by decide +kernel
theorem dX12_move_33 : decode cX12_move 33 = .ok (.iload_n 1, 1) := by decide +kernel
theorem dX12_move_34 : decode cX12_move 34 = .ok (.laload, 1) := by decide +kernel
theorem dX12_move_35 : decode cX12_move 35 = .ok (.lastore, 1) := by decide +kernel
theorem dX12_move_36 : decode cX12_move 36 = .ok (.aload_n 0, 1) := by decide +kernel
theorem dX12_move_37 : decode cX12_move 37 = .ok (.getfield 61, 3) := by decide +kernel
theorem dX12_move_40 : decode cX12_move 40 = .ok (.iload_n 2, 1) := by decide +kernel
theorem dX12_move_41 : decode cX12_move 41 = .ok (.aload_n 0, 1) := by decide +kernel
theorem dX12_move_42 : decode cX12_move 42 = .ok (.getfield 61, 3) := by decide +kernel
theorem dX12_move_45 : decode cX12_move 45 = .ok (.iload_n 1, 1) := by decide +kernel
theorem dX12_move_46 : decode cX12_move 46 = .ok (.iaload, 1) := by decide +kernel
theorem dX12_move_47 : decode cX12_move 47 = .ok (.iastore, 1) := by decide +kernel
theorem dX12_move_48 : decode cX12_move 48 = .ok (.aload_n 0, 1) := by decide +kernel
theorem dX12_move_49 : decode cX12_move 49 = .ok (.getfield 68, 3) := by decide +kernel
theorem dX12_move_52 : decode cX12_move 52 = .ok (.iload_n 2, 1) := by decide +kernel
theorem dX12_move_53 : decode cX12_move 53 = .ok (.aload_n 0, 1) := by decide +kernel
theorem dX12_move_54 : decode cX12_move 54 = .ok (.getfield 68, 3) := by decide +kernel
theorem dX12_move_57 : decode cX12_move 57 = .ok (.iload_n 1, 1) := by decide +kernel
theorem dX12_move_58 : decode cX12_move 58 = .ok (.baload, 1) := by decide +kernel
theorem dX12_move_59 : decode cX12_move 59 = .ok (.bastore, 1) := by decide +kernel
theorem dX12_move_60 : decode cX12_move 60 = .ok (.return_, 1) := by decide +kernel
theorem dX12_points_0 : decode cX12_points 0 = .ok (.aload_n 0, 1) := by decide +kernel
theorem dX12_points_1 : decode cX12_points 1 = .ok (.iconst 0, 1) := by decide +kernel
theorem dX12_points_2 : decode cX12_points 2 = .ok (.putfield 149, 3) := by decide +kernel
theorem dX12_points_5 : decode cX12_points 5 = .ok (.aload_n 0, 1) := by decide +kernel
theorem dX12_points_6 : decode cX12_points 6 = .ok (.iload_n 1, 1) := by decide +kernel
theorem dX12_points_7 : decode cX12_points 7 = .ok (.invokevirtual 193, 3) := by decide +kernel
theorem dX12_points_10 : decode cX12_points 10 = .ok (.ifCond .eq 57, 3) := by decide +kernel
theorem dX12_points_13 : decode cX12_points 13 = .ok (.iload_n 2, 1) := by decide +kernel
theorem dX12_points_14 : decode cX12_points 14 = .ok (.ifCond .lt 53, 3) := by decide +kernel
theorem dX12_points_17 : decode cX12_points 17 = .ok (.iload_n 2, 1) := by decide +kernel
theorem dX12_points_18 : decode cX12_points 18 = .ok (.iconst 4, 1) := by decide +kernel
theorem dX12_points_19 : decode cX12_points 19 = .ok (.irem, 1) := by decide +kernel
theorem dX12_points_20 : decode cX12_points 20 = .ok (.ifCond .ne 47, 3) := by decide +kernel
theorem dX12_points_23 : decode cX12_points 23 = .ok (.iload_n 2, 1) := by decide +kernel
theorem dX12_points_24 : decode cX12_points 24 = .ok (.aload_n 0, 1) := by decide +kernel
theorem dX12_points_25 : decode cX12_points 25 = .ok (.getfield 24, 3) := by decide +kernel
theorem dX12_points_28 : decode cX12_points 28 = .ok (.iload_n 1, 1) := by decide +kernel
theorem dX12_points_29 : decode cX12_points 29 = .ok (.iaload, 1) := by decide +kernel
theorem dX12_points_30 : decode cX12_points 30 = .ok (.bipush 8, 2) := by decide +kernel
theorem dX12_points_32 : decode cX12_points 32 = .ok (.isub, 1) := by decide +kernel
theorem dX12_points_33 : decode cX12_points 33 = .ok (.if_icmp .gt 34, 3) := by decide +kernel
theorem dX12_points_36 : decode cX12_points 36 = .ok (.iload_n 2, 1) := by decide +kernel
theorem dX12_points_37 : decode cX12_points 37 = .ok (.aload_n 0, 1) := by decide +kernel
theorem dX12_points_38 : decode cX12_points 38 = .ok (.getfield 21, 3) := by decide +kernel
theorem dX12_points_41 : decode cX12_points 41 = .ok (.idiv, 1) := by decide +kernel
theorem dX12_points_42 : decode cX12_points 42 = .ok (.iload_n 2, 1) := by decide +kernel
theorem dX12_points_43 : decode cX12_points 43 = .ok (.bipush 7, 2) := by decide +kernel
theorem dX12_points_45 : decode cX12_points 45 = .ok (.iadd, 1) := by decide +kernel
theorem dX12_points_46 : decode cX12_points 46 = .ok (.aload_n 0, 1) := by decide +kernel
theorem dX12_points_47 : decode cX12_points 47 = .ok (.getfield 21, 3) := by decide +kernel
theorem dX12_points_50 : decode cX12_points 50 = .ok (.idiv, 1) := by decide +kernel
theorem dX12_points_51 : decode cX12_points 51 = .ok (.if_icmp .ne 16, 3) := by decide +kernel
theorem dX12_points_54 : decode cX12_points 54 = .ok (.iload 5, 2) := by decide +kernel
theorem dX12_points_56 : decode cX12_points 56 = .ok (.ifCond .lt 11, 3) := by decide +kernel
theorem dX12_points_59 : decode cX12_points 59 = .ok (.iload 5, 2) := by decide +kernel
theorem dX12_points_61 : decode cX12_points 61 = .ok (.sipush 255, 3) := by decide +kernel
theorem dX12_points_64 : decode cX12_points 64 = .ok (.if_icmp .le 5, 3) := by decide +kernel
theorem dX12_points_67 : decode cX12_points 67 = .ok (.iconst 0, 1) := by decide +kernel
theorem dX12_points_68 : decode cX12_points 68 = .ok (.ireturn, 1) := by decide +kernel
theorem dX12_points_69 : decode cX12_points 69 = .ok (.aload_n 0, 1) := by decide +kernel
theorem dX12_points_70 : decode cX12_points 70 = .ok (.iload_n 1, 1) := by decide +kernel
theorem dX12_points_71 : decode cX12_points 71 = .ok (.iload_n 2, 1) := by decide +kernel
theorem dX12_points_72 : decode cX12_points 72 = .ok (.invokevirtual 200, 3) := by decide +kernel
theorem dX12_points_75 : decode cX12_points 75 = .ok (.istore 7, 2) := by decide +kernel
theorem dX12_points_77 : decode cX12_points 77 = .ok (.iload 7, 2) := by decide +kernel
theorem dX12_points_79 : decode cX12_points 79 = .ok (.iconst (-1), 1) := by decide +kernel
theorem dX12_points_80 : decode cX12_points 80 = .ok (.if_icmp .ne 14, 3) := by decide +kernel
theorem dX12_points_83 : decode cX12_points 83 = .ok (.aload_n 0, 1) := by decide +kernel
theorem dX12_points_84 : decode cX12_points 84 = .ok (.getfield 186, 3) := by decide +kernel
theorem dX12_points_87 : decode cX12_points 87 = .ok (.bipush 100, 2) := by decide +kernel
theorem dX12_points_89 : decode cX12_points 89 = .ok (.if_icmp .ne 5, 3) := by decide +kernel
theorem dX12_points_92 : decode cX12_points 92 = .ok (.iconst 0, 1) := by decide +kernel
theorem dX12_points_93 : decode cX12_points 93 = .ok (.ireturn, 1) := by decide +kernel
theorem dX12_points_94 : decode cX12_points 94 = .ok (.iconst 0, 1) := by decide +kernel
theorem dX12_points_95 : decode cX12_points 95 = .ok (.istore 8, 2) := by decide +kernel
theorem dX12_points_97 : decode cX12_points 97 = .ok (.iload 8, 2) := by decide +kernel
theorem dX12_points_99 : decode cX12_points 99 = .ok (.aload_n 0, 1) := by decide +kernel
theorem dX12_points_100 : decode cX12_points 100 = .ok (.getfield 186, 3) := by decide +kernel
theorem dX12_points_103 : decode cX12_points 103 = .ok (.if_icmp .ge 57, 3) := by decide +kernel
theorem dX12_points_106 : decode cX12_points 106 = .ok (.aload_n 0, 1) := by decide +kernel
theorem dX12_points_107 : decode cX12_points 107 = .ok (.getfield 55, 3) := by decide +kernel
theorem dX12_points_110 : decode cX12_points 110 = .ok (.iload 8, 2) := by decide +kernel
theorem dX12_points_112 : decode cX12_points 112 = .ok (.iaload, 1) := by decide +kernel
theorem dX12_points_113 : decode cX12_points 113 = .ok (.iload_n 1, 1) := by decide +kernel
theorem dX12_points_114 : decode cX12_points 114 = .ok (.if_icmp .ne 40, 3) := by decide +kernel
theorem dX12_points_117 : decode cX12_points 117 = .ok (.iload 8, 2) := by decide +kernel
theorem dX12_points_119 : decode cX12_points 119 = .ok (.iload 7, 2) := by decide +kernel
theorem dX12_points_121 : decode cX12_points 121 = .ok (.if_icmp .eq 33, 3) := by decide +kernel
theorem dX12_points_124 : decode cX12_points 124 = .ok (.aload_n 0, 1) := by decide +kernel
theorem dX12_points_125 : decode cX12_points 125 = .ok (.getfield 58, 3) := by decide +kernel
theorem dX12_points_128 : decode cX12_points 128 = .ok (.iload 8, 2) := by decide +kernel
theorem dX12_points_130 : decode cX12_points 130 = .ok (.iaload, 1) := by decide +kernel
theorem dX12_points_131 : decode cX12_points 131 = .ok (.iload_n 2, 1) := by decide +kernel
theorem dX12_points_132 : decode cX12_points 132 = .ok (.bipush 8, 2) := by decide +kernel
theorem dX12_points_134 : decode cX12_points 134 = .ok (.isub, 1) := by decide +kernel
theorem dX12_points_135 : decode cX12_points 135 = .ok (.if_icmp .le 19, 3) := by decide +kernel
theorem dX12_points_138 : decode cX12_points 138 = .ok (.aload_n 0, 1) := by decide +kernel
theorem dX12_points_139 : decode cX12_points 139 = .ok (.getfield 58, 3) := by decide +kernel
theorem dX12_points_142 : decode cX12_points 142 = .ok (.iload 8, 2) := by decide +kernel
theorem dX12_points_144 : decode cX12_points 144 = .ok (.iaload, 1) := by decide +kernel
theorem dX12_points_145 : decode cX12_points 145 = .ok (.iload_n 2, 1) := by decide +kernel
theorem dX12_points_146 : decode cX12_points 146 = .ok (.bipush 8, 2) := by decide +kernel
theorem dX12_points_148 : decode cX12_points 148 = .ok (.iadd, 1) := by decide +kernel
theorem dX12_points_149 : decode cX12_points 149 = .ok (.if_icmp .ge 5, 3) := by decide +kernel
theorem dX12_points_152 : decode cX12_points 152 = .ok (.iconst 0, 1) := by decide +kernel
theorem dX12_points_153 : decode cX12_points 153 = .ok (.ireturn, 1) := by decide +kernel
theorem dX12_points_154 : decode cX12_points 154 = .ok (.iinc 8 1, 3) := by decide +kernel
theorem dX12_points_157 : decode cX12_points 157 = .ok (.goto (-60), 3) := by decide +kernel
theorem dX12_points_160 : decode cX12_points 160 = .ok (.iload 7, 2) := by decide +kernel
theorem dX12_points_162 : decode cX12_points 162 = .ok (.iconst (-1), 1) := by decide +kernel
theorem dX12_points_163 : decode cX12_points 163 = .ok (.if_icmp .eq 9, 3) := by decide +kernel
theorem dX12_points_166 : decode cX12_points 166 = .ok (.aload_n 0, 1) := by decide +kernel
theorem dX12_points_167 : decode cX12_points 167 = .ok (.iload 7, 2) := by decide +kernel
theorem dX12_points_169 : decode cX12_points 169 = .ok (.invokevirtual 204, 3) := by decide +kernel
theorem dX12_points_172 : decode cX12_points 172 = .ok (.aload_n 0, 1) := by decide +kernel
theorem dX12_points_173 : decode cX12_points 173 = .ok (.getfield 186, 3) := by decide +kernel
theorem dX12_points_176 : decode cX12_points 176 = .ok (.istore 8, 2) := by decide +kernel
theorem dX12_points_178 : decode cX12_points 178 = .ok (.iload 8, 2) := by decide +kernel
theorem dX12_points_180 : decode cX12_points 180 = .ok (.ifCond .le 58, 3) := by decide +kernel
theorem dX12_points_183 : decode cX12_points 183 = .ok (.aload_n 0, 1) := by decide +kernel
theorem dX12_points_184 : decode cX12_points 184 = .ok (.getfield 55, 3) := by decide +kernel
theorem dX12_points_187 : decode cX12_points 187 = .ok (.iload 8, 2) := by decide +kernel
theorem dX12_points_189 : decode cX12_points 189 = .ok (.iconst 1, 1) := by decide +kernel
theorem dX12_points_190 : decode cX12_points 190 = .ok (.isub, 1) := by decide +kernel
theorem dX12_points_191 : decode cX12_points 191 = .ok (.iaload, 1) := by decide +kernel
theorem dX12_points_192 : decode cX12_points 192 = .ok (.iload_n 1, 1) := by decide +kernel
theorem dX12_points_193 : decode cX12_points 193 = .ok (.if_icmp .gt 29, 3) := by decide +kernel
theorem dX12_points_196 : decode cX12_points 196 = .ok (.aload_n 0, 1) := by decide +kernel
theorem dX12_points_197 : decode cX12_points 197 = .ok (.getfield 55, 3) := by decide +kernel
theorem dX12_points_200 : decode cX12_points 200 = .ok (.iload 8, 2) := by decide +kernel
theorem dX12_points_202 : decode cX12_points 202 = .ok (.iconst 1, 1) := by decide +kernel
theorem dX12_points_203 : decode cX12_points 203 = .ok (.isub, 1) := by decide +kernel
theorem dX12_points_204 : decode cX12_points 204 = .ok (.iaload, 1) := by decide +kernel
theorem dX12_points_205 : decode cX12_points 205 = .ok (.iload_n 1, 1) := by decide +kernel
theorem dX12_points_206 : decode cX12_points 206 = .ok (.if_icmp .ne 32, 3) := by decide +kernel
theorem dX12_points_209 : decode cX12_points 209 = .ok (.aload_n 0, 1) := by decide +kernel
theorem dX12_points_210 : decode cX12_points 210 = .ok (.getfield 58, 3) := by decide +kernel
theorem dX12_points_213 : decode cX12_points 213 = .ok (.iload 8, 2) := by decide +kernel
theorem dX12_points_215 : decode cX12_points 215 = .ok (.iconst 1, 1) := by decide +kernel
theorem dX12_points_216 : decode cX12_points 216 = .ok (.isub, 1) := by decide +kernel
theorem dX12_points_217 : decode cX12_points 217 = .ok (.iaload, 1) := by decide +kernel
theorem dX12_points_218 : decode cX12_points 218 = .ok (.iload_n 2, 1) := by decide +kernel
theorem dX12_points_219 : decode cX12_points 219 = .ok (.if_icmp .le 19, 3) := by decide +kernel
theorem dX12_points_222 : decode cX12_points 222 = .ok (.aload_n 0, 1) := by decide +kernel
theorem dX12_points_223 : decode cX12_points 223 = .ok (.iload 8, 2) := by decide +kernel
theorem dX12_points_225 : decode cX12_points 225 = .ok (.iconst 1, 1) := by decide +kernel
theorem dX12_points_226 : decode cX12_points 226 = .ok (.isub, 1) := by decide +kernel
theorem dX12_points_227 : decode cX12_points 227 = .ok (.iload 8, 2) := by decide +kernel
theorem dX12_points_229 : decode cX12_points 229 = .ok (.invokevirtual 196, 3) := by decide +kernel
theorem dX12_points_232 : decode cX12_points 232 = .ok (.iinc 8 (-1), 3) := by decide +kernel
theorem dX12_points_235 : decode cX12_points 235 = .ok (.goto (-57), 3) := by decide +kernel
theorem dX12_points_238 : decode cX12_points 238 = .ok (.aload_n 0, 1) := by decide +kernel
theorem dX12_points_239 : decode cX12_points 239 = .ok (.getfield 55, 3) := by decide +kernel
theorem dX12_points_242 : decode cX12_points 242 = .ok (.iload 8, 2) := by decide +kernel
theorem dX12_points_244 : decode cX12_points 244 = .ok (.iload_n 1, 1) := by decide +kernel
theorem dX12_points_245 : decode cX12_points 245 = .ok (.iastore, 1) := by decide +kernel
theorem dX12_points_246 : decode cX12_points 246 = .ok (.aload_n 0, 1) := by decide +kernel
theorem dX12_points_247 : decode cX12_points 247 = .ok (.getfield 58, 3) := by decide +kernel
theorem dX12_points_250 : decode cX12_points 250 = .ok (.iload 8, 2) := by decide +kernel
theorem dX12_points_252 : decode cX12_points 252 = .ok (.iload_n 2, 1) := by decide +kernel
theorem dX12_points_253 : decode cX12_points 253 = .ok (.iastore, 1) := by decide +kernel
theorem dX12_points_254 : decode cX12_points 254 = .ok (.aload_n 0, 1) := by decide +kernel
theorem dX12_points_255 : decode cX12_points 255 = .ok (.getfield 64, 3) := by decide +kernel
theorem dX12_points_258 : decode cX12_points 258 = .ok (.iload 8, 2) := by decide +kernel
theorem dX12_points_260 : decode cX12_points 260 = .ok (.lload_n 3, 1) := by decide +kernel
theorem dX12_points_261 : decode cX12_points 261 = .ok (.lastore, 1) := by decide +kernel
theorem dX12_points_262 : decode cX12_points 262 = .ok (.aload_n 0, 1) := by decide +kernel
theorem dX12_points_263 : decode cX12_points 263 = .ok (.getfield 61, 3) := by decide +kernel
theorem dX12_points_266 : decode cX12_points 266 = .ok (.iload 8, 2) := by decide +kernel
theorem dX12_points_268 : decode cX12_points 268 = .ok (.iload 5, 2) := by decide +kernel
theorem dX12_points_270 : decode cX12_points 270 = .ok (.iastore, 1) := by decide +kernel
theorem dX12_points_271 : decode cX12_points 271 = .ok (.aload_n 0, 1) := by decide +kernel
theorem dX12_points_272 : decode cX12_points 272 = .ok (.getfield 68, 3) := by decide +kernel
theorem dX12_points_275 : decode cX12_points 275 = .ok (.iload 8, 2) := by decide +kernel
theorem dX12_points_277 : decode cX12_points 277 = .ok (.iload 6, 2) := by decide +kernel
theorem dX12_points_279 : decode cX12_points 279 = .ok (.bastore, 1) := by decide +kernel
theorem dX12_points_280 : decode cX12_points 280 = .ok (.aload_n 0, 1) := by decide +kernel
theorem dX12_points_281 : decode cX12_points 281 = .ok (.dup, 1) := by decide +kernel
theorem dX12_points_282 : decode cX12_points 282 = .ok (.getfield 186, 3) := by decide +kernel
theorem dX12_points_285 : decode cX12_points 285 = .ok (.iconst 1, 1) := by decide +kernel
theorem dX12_points_286 : decode cX12_points 286 = .ok (.iadd, 1) := by decide +kernel
theorem dX12_points_287 : decode cX12_points 287 = .ok (.putfield 186, 3) := by decide +kernel
theorem dX12_points_290 : decode cX12_points 290 = .ok (.iconst 1, 1) := by decide +kernel
theorem dX12_points_291 : decode cX12_points 291 = .ok (.ireturn, 1) := by decide +kernel
theorem dX12_rebase_0 : decode cX12_rebase 0 = .ok (.aload_n 0, 1) := by decide +kernel
theorem dX12_rebase_1 : decode cX12_rebase 1 = .ok (.iconst 0, 1) := by decide +kernel
theorem dX12_rebase_2 : decode cX12_rebase 2 = .ok (.putfield 149, 3) := by decide +kernel
theorem dX12_rebase_5 : decode cX12_rebase 5 = .ok (.lload_n 3, 1) := by decide +kernel
theorem dX12_rebase_6 : decode cX12_rebase 6 = .ok (.lconst 0, 1) := by decide +kernel
theorem dX12_rebase_7 : decode cX12_rebase 7 = .ok (.lcmp, 1) := by decide +kernel
theorem dX12_rebase_8 : decode cX12_rebase 8 = .ok (.ifCond .lt 28, 3) := by decide +kernel
theorem dX12_rebase_11 : decode cX12_rebase 11 = .ok (.lload_n 3, 1) := by decide +kernel
theorem dX12_rebase_12 : decode cX12_rebase 12 = .ok (.ldc2_w 207, 3) := by decide +kernel
theorem dX12_rebase_15 : decode cX12_rebase 15 = .ok (.lcmp, 1) := by decide +kernel
theorem dX12_rebase_16 : decode cX12_rebase 16 = .ok (.ifCond .ge 20, 3) := by decide +kernel
theorem dX12_rebase_19 : decode cX12_rebase 19 = .ok (.aload_n 0, 1) := by decide +kernel
theorem dX12_rebase_20 : decode cX12_rebase 20 = .ok (.iload_n 1, 1) := by decide +kernel
theorem dX12_rebase_21 : decode cX12_rebase 21 = .ok (.iload_n 2, 1) := by decide +kernel
theorem dX12_rebase_22 : decode cX12_rebase 22 = .ok (.lload_n 3, 1) := by decide +kernel
theorem dX12_rebase_23 : decode cX12_rebase 23 = .ok (.iload 5, 2) := by decide +kernel
theorem dX12_rebase_25 : decode cX12_rebase 25 = .ok (.iconst 0, 1) := by decide +kernel
theorem dX12_rebase_26 : decode cX12_rebase 26 = .ok (.invokevirtual 209, 3) := by decide +kernel
theorem dX12_rebase_29 : decode cX12_rebase 29 = .ok (.ifCond .eq 7, 3) := by decide +kernel
theorem dX12_rebase_32 : decode cX12_rebase 32 = .ok (.iconst 1, 1) := by decide +kernel
theorem dX12_rebase_33 : decode cX12_rebase 33 = .ok (.goto 4, 3) := by decide +kernel
theorem dX12_rebase_36 : decode cX12_rebase 36 = .ok (.iconst 0, 1) := by decide +kernel
theorem dX12_rebase_37 : decode cX12_rebase 37 = .ok (.ireturn, 1) := by decide +kernel
theorem dX12_bind_0 : decode cX12_bind 0 = .ok (.aload_n 0, 1) := by decide +kernel
theorem dX12_bind_1 : decode cX12_bind 1 = .ok (.iconst 0, 1) := by decide +kernel
theorem dX12_bind_2 : decode cX12_bind 2 = .ok (.putfield 149, 3) := by decide +kernel
theorem dX12_bind_5 : decode cX12_bind 5 = .ok (.iload_n 3, 1) := by decide +kernel
theorem dX12_bind_6 : decode cX12_bind 6 = .ok (.ifCond .lt 29, 3) := by decide +kernel
theorem dX12_bind_9 : decode cX12_bind 9 = .ok (.iload_n 3, 1) := by decide +kernel
theorem dX12_bind_10 : decode cX12_bind 10 = .ok (.aload_n 0, 1) := by decide +kernel
theorem dX12_bind_11 : decode cX12_bind 11 = .ok (.getfield 183, 3) := by decide +kernel
theorem dX12_bind_14 : decode cX12_bind 14 = .ok (.if_icmp .ge 21, 3) := by decide +kernel
theorem dX12_bind_17 : decode cX12_bind 17 = .ok (.aload_n 0, 1) := by decide +kernel
theorem dX12_bind_18 : decode cX12_bind 18 = .ok (.iload_n 1, 1) := by decide +kernel
theorem dX12_bind_19 : decode cX12_bind 19 = .ok (.iload_n 2, 1) := by decide +kernel
theorem dX12_bind_20 : decode cX12_bind 20 = .ok (.iload_n 3, 1) := by decide +kernel
theorem dX12_bind_21 : decode cX12_bind 21 = .ok (.i2l, 1) := by decide +kernel
theorem dX12_bind_22 : decode cX12_bind 22 = .ok (.iload 4, 2) := by decide +kernel
theorem dX12_bind_24 : decode cX12_bind 24 = .ok (.iconst 1, 1) := by decide +kernel
theorem dX12_bind_25 : decode cX12_bind 25 = .ok (.invokevirtual 209, 3) := by decide +kernel
theorem dX12_bind_28 : decode cX12_bind 28 = .ok (.ifCond .eq 7, 3) := by decide +kernel
theorem dX12_bind_31 : decode cX12_bind 31 = .ok (.iconst 1, 1) := by decide +kernel
theorem dX12_bind_32 : decode cX12_bind 32 = .ok (.goto 4, 3) := by decide +kernel
theorem dX12_bind_35 : decode cX12_bind 35 = .ok (.iconst 0, 1) := by decide +kernel
theorem dX12_bind_36 : decode cX12_bind 36 = .ok (.ireturn, 1) := by decide +kernel
theorem dX12_drop_0 : decode cX12_drop 0 = .ok (.aload_n 0, 1) := by decide +kernel
theorem dX12_drop_1 : decode cX12_drop 1 = .ok (.iconst 0, 1) := by decide +kernel
theorem dX12_drop_2 : decode cX12_drop 2 = .ok (.putfield 149, 3) := by decide +kernel
theorem dX12_drop_5 : decode cX12_drop 5 = .ok (.aload_n 0, 1) := by decide +kernel
theorem dX12_drop_6 : decode cX12_drop 6 = .ok (.iload_n 1, 1) := by decide +kernel
theorem dX12_drop_7 : decode cX12_drop 7 = .ok (.iload_n 2, 1) := by decide +kernel
theorem dX12_drop_8 : decode cX12_drop 8 = .ok (.invokevirtual 200, 3) := by decide +kernel
theorem dX12_drop_11 : decode cX12_drop 11 = .ok (.istore_n 3, 1) := by decide +kernel
theorem dX12_drop_12 : decode cX12_drop 12 = .ok (.iload_n 3, 1) := by decide +kernel
theorem dX12_drop_13 : decode cX12_drop 13 = .ok (.iconst (-1), 1) := by decide +kernel
theorem dX12_drop_14 : decode cX12_drop 14 = .ok (.if_icmp .ne 5, 3) := by decide +kernel
theorem dX12_drop_17 : decode cX12_drop 17 = .ok (.iconst 0, 1) := by decide +kernel
theorem dX12_drop_18 : decode cX12_drop 18 = .ok (.ireturn, 1) := by decide +kernel
theorem dX12_drop_19 : decode cX12_drop 19 = .ok (.aload_n 0, 1) := by decide +kernel
theorem dX12_drop_20 : decode cX12_drop 20 = .ok (.iload_n 3, 1) := by decide +kernel
theorem dX12_drop_21 : decode cX12_drop 21 = .ok (.invokevirtual 204, 3) := by decide +kernel
theorem dX12_drop_24 : decode cX12_drop 24 = .ok (.iconst 1, 1) := by decide +kernel
theorem dX12_drop_25 : decode cX12_drop 25 = .ok (.ireturn, 1) := by decide +kernel
theorem dX12_put_0 : decode cX12_put 0 = .ok (.iconst 0, 1) := by decide +kernel
theorem dX12_put_1 : decode cX12_put 1 = .ok (.istore 4, 2) := by decide +kernel
theorem dX12_put_3 : decode cX12_put 3 = .ok (.iload 4, 2) := by decide +kernel
theorem dX12_put_5 : decode cX12_put 5 = .ok (.iload_n 3, 1) := by decide +kernel
theorem dX12_put_6 : decode cX12_put 6 = .ok (.if_icmp .ge 40, 3) := by decide +kernel
theorem dX12_put_9 : decode cX12_put 9 = .ok (.aload_n 0, 1) := by decide +kernel
theorem dX12_put_10 : decode cX12_put 10 = .ok (.getfield 77, 3) := by decide +kernel
theorem dX12_put_13 : decode cX12_put 13 = .ok (.aload_n 0, 1) := by decide +kernel
theorem dX12_put_14 : decode cX12_put 14 = .ok (.getfield 213, 3) := by decide +kernel
theorem dX12_put_17 : decode cX12_put 17 = .ok (.lload_n 1, 1) := by decide +kernel
theorem dX12_put_18 : decode cX12_put 18 = .ok (.bipush 8, 2) := by decide +kernel
theorem dX12_put_20 : decode cX12_put 20 = .ok (.iload 4, 2) := by decide +kernel
theorem dX12_put_22 : decode cX12_put 22 = .ok (.imul, 1) := by decide +kernel
theorem dX12_put_23 : decode cX12_put 23 = .ok (.lshr, 1) := by decide +kernel
theorem dX12_put_24 : decode cX12_put 24 = .ok (.l2i, 1) := by decide +kernel
theorem dX12_put_25 : decode cX12_put 25 = .ok (.sipush 255, 3) := by decide +kernel
theorem dX12_put_28 : decode cX12_put 28 = .ok (.iand, 1) := by decide +kernel
theorem dX12_put_29 : decode cX12_put 29 = .ok (.iastore, 1) := by decide +kernel
theorem dX12_put_30 : decode cX12_put 30 = .ok (.aload_n 0, 1) := by decide +kernel
theorem dX12_put_31 : decode cX12_put 31 = .ok (.dup, 1) := by decide +kernel
theorem dX12_put_32 : decode cX12_put 32 = .ok (.getfield 213, 3) := by decide +kernel
theorem dX12_put_35 : decode cX12_put 35 = .ok (.iconst 1, 1) := by decide +kernel
theorem dX12_put_36 : decode cX12_put 36 = .ok (.iadd, 1) := by decide +kernel
theorem dX12_put_37 : decode cX12_put 37 = .ok (.putfield 213, 3) := by decide +kernel
theorem dX12_put_40 : decode cX12_put 40 = .ok (.iinc 4 1, 3) := by decide +kernel
theorem dX12_put_43 : decode cX12_put 43 = .ok (.goto (-40), 3) := by decide +kernel
theorem dX12_put_46 : decode cX12_put 46 = .ok (.return_, 1) := by decide +kernel
theorem dX12_putFours_0 : decode cX12_putFours 0 = .ok (.aload_n 0, 1) := by decide +kernel
theorem dX12_putFours_1 : decode cX12_putFours 1 = .ok (.lload_n 1, 1) := by decide +kernel
theorem dX12_putFours_2 : decode cX12_putFours 2 = .ok (.iconst 4, 1) := by decide +kernel
theorem dX12_putFours_3 : decode cX12_putFours 3 = .ok (.invokevirtual 216, 3) := by decide +kernel
theorem dX12_putFours_6 : decode cX12_putFours 6 = .ok (.aload_n 0, 1) := by decide +kernel
theorem dX12_putFours_7 : decode cX12_putFours 7 = .ok (.lload_n 3, 1) := by decide +kernel
theorem dX12_putFours_8 : decode cX12_putFours 8 = .ok (.iconst 4, 1) := by decide +kernel
theorem dX12_putFours_9 : decode cX12_putFours 9 = .ok (.invokevirtual 216, 3) := by decide +kernel
theorem dX12_putFours_12 : decode cX12_putFours 12 = .ok (.aload_n 0, 1) := by decide +kernel
theorem dX12_putFours_13 : decode cX12_putFours 13 = .ok (.lload 5, 2) := by decide +kernel
theorem dX12_putFours_15 : decode cX12_putFours 15 = .ok (.iconst 4, 1) := by decide +kernel
theorem dX12_putFours_16 : decode cX12_putFours 16 = .ok (.invokevirtual 216, 3) := by decide +kernel
theorem dX12_putFours_19 : decode cX12_putFours 19 = .ok (.aload_n 0, 1) := by decide +kernel
theorem dX12_putFours_20 : decode cX12_putFours 20 = .ok (.lload 7, 2) := by decide +kernel
theorem dX12_putFours_22 : decode cX12_putFours 22 = .ok (.iconst 4, 1) := by decide +kernel
theorem dX12_putFours_23 : decode cX12_putFours 23 = .ok (.invokevirtual 216, 3) := by decide +kernel
theorem dX12_putFours_26 : decode cX12_putFours 26 = .ok (.return_, 1) := by decide +kernel
theorem dX12_putName_0 : decode cX12_putName 0 = .ok (.iconst 0, 1) := by decide +kernel
theorem dX12_putName_1 : decode cX12_putName 1 = .ok (.istore_n 3, 1) := by decide +kernel
theorem dX12_putName_2 : decode cX12_putName 2 = .ok (.iload_n 3, 1) := by decide +kernel
theorem dX12_putName_3 : decode cX12_putName 3 = .ok (.iload_n 2, 1) := by decide +kernel
theorem dX12_putName_4 : decode cX12_putName 4 = .ok (.if_icmp .ge 26, 3) := by decide +kernel
theorem dX12_putName_7 : decode cX12_putName 7 = .ok (.aload_n 0, 1) := by decide +kernel
theorem dX12_putName_8 : decode cX12_putName 8 = .ok (.aload_n 0, 1) := by decide +kernel
theorem dX12_putName_9 : decode cX12_putName 9 = .ok (.getfield 13, 3) := by decide +kernel
theorem dX12_putName_12 : decode cX12_putName 12 = .ok (.bipush 16, 2) := by decide +kernel
theorem dX12_putName_14 : decode cX12_putName 14 = .ok (.iload_n 1, 1) := by decide +kernel
theorem dX12_putName_15 : decode cX12_putName 15 = .ok (.imul, 1) := by decide +kernel
theorem dX12_putName_16 : decode cX12_putName 16 = .ok (.iload_n 3, 1) := by decide +kernel
theorem dX12_putName_17 : decode cX12_putName 17 = .ok (.iadd, 1) := by decide +kernel
theorem dX12_putName_18 : decode cX12_putName 18 = .ok (.iaload, 1) := by decide +kernel
theorem dX12_putName_19 : decode cX12_putName 19 = .ok (.i2l, 1) := by decide +kernel
theorem dX12_putName_20 : decode cX12_putName 20 = .ok (.iconst 1, 1) := by decide +kernel
theorem dX12_putName_21 : decode cX12_putName 21 = .ok (.invokevirtual 216, 3) := by decide +kernel
theorem dX12_putName_24 : decode cX12_putName 24 = .ok (.iinc 3 1, 3) := by decide +kernel
theorem dX12_putName_27 : decode cX12_putName 27 = .ok (.goto (-25), 3) := by decide +kernel
theorem dX12_putName_30 : decode cX12_putName 30 = .ok (.return_, 1) := by decide +kernel
theorem dX12_even_0 : decode cX12_even 0 = .ok (.aload_n 0, 1) := by decide +kernel
theorem dX12_even_1 : decode cX12_even 1 = .ok (.getfield 213, 3) := by decide +kernel
theorem dX12_even_4 : decode cX12_even 4 = .ok (.iload_n 1, 1) := by decide +kernel
theorem dX12_even_5 : decode cX12_even 5 = .ok (.irem, 1) := by decide +kernel
theorem dX12_even_6 : decode cX12_even 6 = .ok (.ifCond .eq 12, 3) := by decide +kernel
theorem dX12_even_9 : decode cX12_even 9 = .ok (.aload_n 0, 1) := by decide +kernel
theorem dX12_even_10 : decode cX12_even 10 = .ok (.lconst 0, 1) := by decide +kernel
theorem dX12_even_11 : decode cX12_even 11 = .ok (.iconst 1, 1) := by decide +kernel
theorem dX12_even_12 : decode cX12_even 12 = .ok (.invokevirtual 216, 3) := by decide +kernel
theorem dX12_even_15 : decode cX12_even 15 = .ok (.goto (-15), 3) := by decide +kernel
theorem dX12_even_18 : decode cX12_even 18 = .ok (.return_, 1) := by decide +kernel
theorem dX12_spanOf_0 : decode cX12_spanOf 0 = .ok (.aload_n 0, 1) := by decide +kernel
theorem dX12_spanOf_1 : decode cX12_spanOf 1 = .ok (.getfield 24, 3) := by decide +kernel
theorem dX12_spanOf_4 : decode cX12_spanOf 4 = .ok (.iload_n 1, 1) := by decide +kernel
theorem dX12_spanOf_5 : decode cX12_spanOf 5 = .ok (.iaload, 1) := by decide +kernel
theorem dX12_spanOf_6 : decode cX12_spanOf 6 = .ok (.aload_n 0, 1) := by decide +kernel
theorem dX12_spanOf_7 : decode cX12_spanOf 7 = .ok (.getfield 21, 3) := by decide +kernel
theorem dX12_spanOf_10 : decode cX12_spanOf 10 = .ok (.iadd, 1) := by decide +kernel
theorem dX12_spanOf_11 : decode cX12_spanOf 11 = .ok (.iconst 1, 1) := by decide +kernel
theorem dX12_spanOf_12 : decode cX12_spanOf 12 = .ok (.isub, 1) := by decide +kernel
theorem dX12_spanOf_13 : decode cX12_spanOf 13 = .ok (.aload_n 0, 1) := by decide +kernel
theorem dX12_spanOf_14 : decode cX12_spanOf 14 = .ok (.getfield 21, 3) := by decide +kernel
theorem dX12_spanOf_17 : decode cX12_spanOf 17 = .ok (.idiv, 1) := by decide +kernel
theorem dX12_spanOf_18 : decode cX12_spanOf 18 = .ok (.aload_n 0, 1) := by decide +kernel
theorem dX12_spanOf_19 : decode cX12_spanOf 19 = .ok (.getfield 21, 3) := by decide +kernel
theorem dX12_spanOf_22 : decode cX12_spanOf 22 = .ok (.imul, 1) := by decide +kernel
theorem dX12_spanOf_23 : decode cX12_spanOf 23 = .ok (.ireturn, 1) := by decide +kernel
theorem dX12_addressOf_0 : decode cX12_addressOf 0 = .ok (.aload_n 0, 1) := by decide +kernel
theorem dX12_addressOf_1 : decode cX12_addressOf 1 = .ok (.getfield 17, 3) := by decide +kernel
theorem dX12_addressOf_4 : decode cX12_addressOf 4 = .ok (.istore_n 2, 1) := by decide +kernel
theorem dX12_addressOf_5 : decode cX12_addressOf 5 = .ok (.iconst 0, 1) := by decide +kernel
theorem dX12_addressOf_6 : decode cX12_addressOf 6 = .ok (.istore_n 3, 1) := by decide +kernel
theorem dX12_addressOf_7 : decode cX12_addressOf 7 = .ok (.iload_n 3, 1) := by decide +kernel
theorem dX12_addressOf_8 : decode cX12_addressOf 8 = .ok (.iload_n 1, 1) := by decide +kernel
theorem dX12_addressOf_9 : decode cX12_addressOf 9 = .ok (.if_icmp .ge 17, 3) := by decide +kernel
theorem dX12_addressOf_12 : decode cX12_addressOf 12 = .ok (.iload_n 2, 1) := by decide +kernel
theorem dX12_addressOf_13 : decode cX12_addressOf 13 = .ok (.aload_n 0, 1) := by decide +kernel
theorem dX12_addressOf_14 : decode cX12_addressOf 14 = .ok (.iload_n 3, 1) := by decide +kernel
theorem dX12_addressOf_15 : decode cX12_addressOf 15 = .ok (.invokevirtual 220, 3) := by decide +kernel
theorem dX12_addressOf_18 : decode cX12_addressOf 18 = .ok (.iadd, 1) := by decide +kernel
theorem dX12_addressOf_19 : decode cX12_addressOf 19 = .ok (.istore_n 2, 1) := by decide +kernel
theorem dX12_addressOf_20 : decode cX12_addressOf 20 = .ok (.iinc 3 1, 3) := by decide +kernel
theorem dX12_addressOf_23 : decode cX12_addressOf 23 = .ok (.goto (-16), 3) := by decide +kernel
theorem dX12_addressOf_26 : decode cX12_addressOf 26 = .ok (.iload_n 2, 1) := by decide +kernel
theorem dX12_addressOf_27 : decode cX12_addressOf 27 = .ok (.ireturn, 1) := by decide +kernel
theorem dX12_sectionsOf_0 : decode cX12_sectionsOf 0 = .ok (.iconst 0, 1) := by decide +kernel
theorem dX12_sectionsOf_1 : decode cX12_sectionsOf 1 = .ok (.istore_n 2, 1) := by decide +kernel
theorem dX12_sectionsOf_2 : decode cX12_sectionsOf 2 = .ok (.iconst 1, 1) := by decide +kernel
theorem dX12_sectionsOf_3 : decode cX12_sectionsOf 3 = .ok (.istore_n 3, 1) := by decide +kernel
theorem dX12_sectionsOf_4 : decode cX12_sectionsOf 4 = .ok (.iload_n 3, 1) := by decide +kernel
theorem dX12_sectionsOf_5 : decode cX12_sectionsOf 5 = .ok (.aload_n 0, 1) := by decide +kernel
theorem dX12_sectionsOf_6 : decode cX12_sectionsOf 6 = .ok (.getfield 177, 3) := by decide +kernel
theorem dX12_sectionsOf_9 : decode cX12_sectionsOf 9 = .ok (.if_icmp .gt 22, 3) := by decide +kernel
theorem dX12_sectionsOf_12 : decode cX12_sectionsOf 12 = .ok (.aload_n 0, 1) := by decide +kernel
theorem dX12_sectionsOf_13 : decode cX12_sectionsOf 13 = .ok (.getfield 33, 3) := by decide +kernel
theorem dX12_sectionsOf_16 : decode cX12_sectionsOf 16 = .ok (.iload_n 3, 1) := by decide +kernel
theorem dX12_sectionsOf_17 : decode cX12_sectionsOf 17 = .ok (.iaload, 1) := by decide +kernel
theorem dX12_sectionsOf_18 : decode cX12_sectionsOf 18 = .ok (.iload_n 1, 1) := by decide +kernel
theorem dX12_sectionsOf_19 : decode cX12_sectionsOf 19 = .ok (.if_icmp .ne 6, 3) := by decide +kernel
theorem dX12_sectionsOf_22 : decode cX12_sectionsOf 22 = .ok (.iinc 2 1, 3) := by decide +kernel
theorem dX12_sectionsOf_25 : decode cX12_sectionsOf 25 = .ok (.iinc 3 1, 3) := by decide +kernel
theorem dX12_sectionsOf_28 : decode cX12_sectionsOf 28 = .ok (.goto (-24), 3) := by decide +kernel
theorem dX12_sectionsOf_31 : decode cX12_sectionsOf 31 = .ok (.iload_n 2, 1) := by decide +kernel
theorem dX12_sectionsOf_32 : decode cX12_sectionsOf 32 = .ok (.ireturn, 1) := by decide +kernel
theorem dX12_write_0 : decode cX12_write 0 = .ok (.aload_n 0, 1) := by decide +kernel
theorem dX12_write_1 : decode cX12_write 1 = .ok (.iconst 0, 1) := by decide +kernel
theorem dX12_write_2 : decode cX12_write 2 = .ok (.putfield 149, 3) := by decide +kernel
theorem dX12_write_5 : decode cX12_write 5 = .ok (.bipush 40, 2) := by decide +kernel
theorem dX12_write_7 : decode cX12_write 7 = .ok (.istore_n 1, 1) := by decide +kernel
theorem dX12_write_8 : decode cX12_write 8 = .ok (.iconst 0, 1) := by decide +kernel
theorem dX12_write_9 : decode cX12_write 9 = .ok (.istore_n 2, 1) := by decide +kernel
theorem dX12_write_10 : decode cX12_write 10 = .ok (.iload_n 2, 1) := by decide +kernel
theorem dX12_write_11 : decode cX12_write 11 = .ok (.aload_n 0, 1) := by decide +kernel
theorem dX12_write_12 : decode cX12_write 12 = .ok (.getfield 174, 3) := by decide +kernel
theorem dX12_write_15 : decode cX12_write 15 = .ok (.if_icmp .ge 23, 3) := by decide +kernel
theorem dX12_write_18 : decode cX12_write 18 = .ok (.iload_n 1, 1) := by decide +kernel
theorem dX12_write_19 : decode cX12_write 19 = .ok (.bipush 72, 2) := by decide +kernel
theorem dX12_write_21 : decode cX12_write 21 = .ok (.bipush 80, 2) := by decide +kernel
theorem dX12_write_23 : decode cX12_write 23 = .ok (.aload_n 0, 1) := by decide +kernel
theorem dX12_write_24 : decode cX12_write 24 = .ok (.iload_n 2, 1) := by decide +kernel
theorem dX12_write_25 : decode cX12_write 25 = .ok (.invokevirtual 224, 3) := by decide +kernel
theorem dX12_write_28 : decode cX12_write 28 = .ok (.imul, 1) := by decide +kernel
theorem dX12_write_29 : decode cX12_write 29 = .ok (.iadd, 1) := by decide +kernel
theorem dX12_write_30 : decode cX12_write 30 = .ok (.iadd, 1) := by decide +kernel
theorem dX12_write_31 : decode cX12_write 31 = .ok (.istore_n 1, 1) := by decide +kernel
theorem dX12_write_32 : decode cX12_write 32 = .ok (.iinc 2 1, 3) := by decide +kernel
theorem dX12_write_35 : decode cX12_write 35 = .ok (.goto (-25), 3) := by decide +kernel
theorem dX12_write_38 : decode cX12_write 38 = .ok (.aload_n 0, 1) := by decide +kernel
theorem dX12_write_39 : decode cX12_write 39 = .ok (.bipush 32, 2) := by decide +kernel
theorem dX12_write_41 : decode cX12_write 41 = .ok (.iload_n 1, 1) := by decide +kernel
theorem dX12_write_42 : decode cX12_write 42 = .ok (.iadd, 1) := by decide +kernel
theorem dX12_write_43 : decode cX12_write 43 = .ok (.putfield 213, 3) := by decide +kernel
theorem dX12_write_46 : decode cX12_write 46 = .ok (.iconst 0, 1) := by decide +kernel
theorem dX12_write_47 : decode cX12_write 47 = .ok (.istore_n 2, 1) := by decide +kernel
theorem dX12_write_48 : decode cX12_write 48 = .ok (.iload_n 2, 1) := by decide +kernel
theorem dX12_write_49 : decode cX12_write 49 = .ok (.aload_n 0, 1) := by decide +kernel
theorem dX12_write_50 : decode cX12_write 50 = .ok (.getfield 174, 3) := by decide +kernel
theorem dX12_write_53 : decode cX12_write 53 = .ok (.if_icmp .ge 61, 3) := by decide +kernel
theorem dX12_write_56 : decode cX12_write 56 = .ok (.aload_n 0, 1) := by decide +kernel
theorem dX12_write_57 : decode cX12_write 57 = .ok (.bipush 8, 2) := by decide +kernel
theorem dX12_write_59 : decode cX12_write 59 = .ok (.invokevirtual 227, 3) := by decide +kernel
theorem dX12_write_62 : decode cX12_write 62 = .ok (.aload_n 0, 1) := by decide +kernel
theorem dX12_write_63 : decode cX12_write 63 = .ok (.getfield 80, 3) := by decide +kernel
theorem dX12_write_66 : decode cX12_write 66 = .ok (.iload_n 2, 1) := by decide +kernel
theorem dX12_write_67 : decode cX12_write 67 = .ok (.aload_n 0, 1) := by decide +kernel
theorem dX12_write_68 : decode cX12_write 68 = .ok (.getfield 213, 3) := by decide +kernel
theorem dX12_write_71 : decode cX12_write 71 = .ok (.iastore, 1) := by decide +kernel
theorem dX12_write_72 : decode cX12_write 72 = .ok (.iconst 0, 1) := by decide +kernel
theorem dX12_write_73 : decode cX12_write 73 = .ok (.istore_n 3, 1) := by decide +kernel
theorem dX12_write_74 : decode cX12_write 74 = .ok (.iload_n 3, 1) := by decide +kernel
theorem dX12_write_75 : decode cX12_write 75 = .ok (.aload_n 0, 1) := by decide +kernel
theorem dX12_write_76 : decode cX12_write 76 = .ok (.getfield 24, 3) := by decide +kernel
theorem dX12_write_79 : decode cX12_write 79 = .ok (.iload_n 2, 1) := by decide +kernel
theorem dX12_write_80 : decode cX12_write 80 = .ok (.iaload, 1) := by decide +kernel
theorem dX12_write_81 : decode cX12_write 81 = .ok (.if_icmp .ge 27, 3) := by decide +kernel
theorem dX12_write_84 : decode cX12_write 84 = .ok (.aload_n 0, 1) := by decide +kernel
theorem dX12_write_85 : decode cX12_write 85 = .ok (.aload_n 0, 1) := by decide +kernel
theorem dX12_write_86 : decode cX12_write 86 = .ok (.getfield 30, 3) := by decide +kernel
theorem dX12_write_89 : decode cX12_write 89 = .ok (.sipush 1024, 3) := by decide +kernel
theorem dX12_write_92 : decode cX12_write 92 = .ok (.iload_n 2, 1) := by decide +kernel
theorem dX12_write_93 : decode cX12_write 93 = .ok (.imul, 1) := by decide +kernel
theorem dX12_write_94 : decode cX12_write 94 = .ok (.iload_n 3, 1) := by decide +kernel
theorem dX12_write_95 : decode cX12_write 95 = .ok (.iadd, 1) := by decide +kernel
theorem dX12_write_96 : decode cX12_write 96 = .ok (.iaload, 1) := by decide +kernel
theorem dX12_write_97 : decode cX12_write 97 = .ok (.i2l, 1) := by decide +kernel
theorem dX12_write_98 : decode cX12_write 98 = .ok (.iconst 1, 1) := by decide +kernel
theorem dX12_write_99 : decode cX12_write 99 = .ok (.invokevirtual 216, 3) := by decide +kernel
theorem dX12_write_102 : decode cX12_write 102 = .ok (.iinc 3 1, 3) := by decide +kernel
theorem dX12_write_105 : decode cX12_write 105 = .ok (.goto (-31), 3) := by decide +kernel
theorem dX12_write_108 : decode cX12_write 108 = .ok (.iinc 2 1, 3) := by decide +kernel
theorem dX12_write_111 : decode cX12_write 111 = .ok (.goto (-63), 3) := by decide +kernel
theorem dX12_write_114 : decode cX12_write 114 = .ok (.aload_n 0, 1) := by decide +kernel
theorem dX12_write_115 : decode cX12_write 115 = .ok (.bipush 8, 2) := by decide +kernel
theorem dX12_write_117 : decode cX12_write 117 = .ok (.invokevirtual 227, 3) := by decide +kernel
theorem dX12_write_120 : decode cX12_write 120 = .ok (.aload_n 0, 1) := by decide +kernel
theorem dX12_write_121 : decode cX12_write 121 = .ok (.invokevirtual 230, 3) := by decide +kernel
theorem dX12_write_124 : decode cX12_write 124 = .ok (.aload_n 0, 1) := by decide +kernel
theorem dX12_write_125 : decode cX12_write 125 = .ok (.bipush 8, 2) := by decide +kernel
theorem dX12_write_127 : decode cX12_write 127 = .ok (.invokevirtual 227, 3) := by decide +kernel
theorem dX12_write_130 : decode cX12_write 130 = .ok (.aload_n 0, 1) := by decide +kernel
theorem dX12_write_131 : decode cX12_write 131 = .ok (.aload_n 0, 1) := by decide +kernel
theorem dX12_write_132 : decode cX12_write 132 = .ok (.getfield 213, 3) := by decide +kernel
theorem dX12_write_135 : decode cX12_write 135 = .ok (.putfield 233, 3) := by decide +kernel
theorem dX12_write_138 : decode cX12_write 138 = .ok (.iconst 1, 1) := by decide +kernel
theorem dX12_write_139 : decode cX12_write 139 = .ok (.istore_n 2, 1) := by decide +kernel
theorem dX12_write_140 : decode cX12_write 140 = .ok (.iconst 0, 1) := by decide +kernel
theorem dX12_write_141 : decode cX12_write 141 = .ok (.istore_n 3, 1) := by decide +kernel
theorem dX12_write_142 : decode cX12_write 142 = .ok (.iload_n 3, 1) := by decide +kernel
theorem dX12_write_143 : decode cX12_write 143 = .ok (.aload_n 0, 1) := by decide +kernel
theorem dX12_write_144 : decode cX12_write 144 = .ok (.getfield 180, 3) := by decide +kernel
theorem dX12_write_147 : decode cX12_write 147 = .ok (.if_icmp .ge 92, 3) := by decide +kernel
theorem dX12_write_150 : decode cX12_write 150 = .ok (.aload_n 0, 1) := by decide +kernel
theorem dX12_write_151 : decode cX12_write 151 = .ok (.getfield 42, 3) := by decide +kernel
theorem dX12_write_154 : decode cX12_write 154 = .ok (.iload_n 3, 1) := by decide +kernel
theorem dX12_write_155 : decode cX12_write 155 = .ok (.iaload, 1) := by decide +kernel
theorem dX12_write_156 : decode cX12_write 156 = .ok (.istore 4, 2) := by decide +kernel
theorem dX12_write_158 : decode cX12_write 158 = .ok (.aload_n 0, 1) := by decide +kernel
theorem dX12_write_159 : decode cX12_write 159 = .ok (.iload_n 2, 1) := by decide +kernel
theorem dX12_write_160 : decode cX12_write 160 = .ok (.i2l, 1) := by decide +kernel
theorem dX12_write_161 : decode cX12_write 161 = .ok (.iconst 4, 1) := by decide +kernel
theorem dX12_write_162 : decode cX12_write 162 = .ok (.invokevirtual 216, 3) := by decide +kernel
theorem dX12_write_165 : decode cX12_write 165 = .ok (.aload_n 0, 1) := by decide +kernel
theorem dX12_write_166 : decode cX12_write 166 = .ok (.ldc2_w 236, 3) := by decide +kernel
theorem dX12_write_169 : decode cX12_write 169 = .ok (.iconst 1, 1) := by decide +kernel
theorem dX12_write_170 : decode cX12_write 170 = .ok (.invokevirtual 216, 3) := by decide +kernel
theorem dX12_write_173 : decode cX12_write 173 = .ok (.aload_n 0, 1) := by decide +kernel
theorem dX12_write_174 : decode cX12_write 174 = .ok (.iload 4, 2) := by decide +kernel
theorem dX12_write_176 : decode cX12_write 176 = .ok (.i2l, 1) := by decide +kernel
theorem dX12_write_177 : decode cX12_write 177 = .ok (.iconst 1, 1) := by decide +kernel
theorem dX12_write_178 : decode cX12_write 178 = .ok (.invokevirtual 216, 3) := by decide +kernel
theorem dX12_write_181 : decode cX12_write 181 = .ok (.aload_n 0, 1) := by decide +kernel
theorem dX12_write_182 : decode cX12_write 182 = .ok (.lconst 0, 1) := by decide +kernel
theorem dX12_write_183 : decode cX12_write 183 = .ok (.iconst 2, 1) := by decide +kernel
theorem dX12_write_184 : decode cX12_write 184 = .ok (.invokevirtual 216, 3) := by decide +kernel
theorem dX12_write_187 : decode cX12_write 187 = .ok (.aload_n 0, 1) := by decide +kernel
theorem dX12_write_188 : decode cX12_write 188 = .ok (.aload_n 0, 1) := by decide +kernel
theorem dX12_write_189 : decode cX12_write 189 = .ok (.aload_n 0, 1) := by decide +kernel
theorem dX12_write_190 : decode cX12_write 190 = .ok (.getfield 33, 3) := by decide +kernel
theorem dX12_write_193 : decode cX12_write 193 = .ok (.iload 4, 2) := by decide +kernel
theorem dX12_write_195 : decode cX12_write 195 = .ok (.iaload, 1) := by decide +kernel
theorem dX12_write_196 : decode cX12_write 196 = .ok (.invokevirtual 238, 3) := by decide +kernel
theorem dX12_write_199 : decode cX12_write 199 = .ok (.aload_n 0, 1) := by decide +kernel
theorem dX12_write_200 : decode cX12_write 200 = .ok (.getfield 36, 3) := by decide +kernel
theorem dX12_write_203 : decode cX12_write 203 = .ok (.iload 4, 2) := by decide +kernel
theorem dX12_write_205 : decode cX12_write 205 = .ok (.iaload, 1) := by decide +kernel
theorem dX12_write_206 : decode cX12_write 206 = .ok (.iadd, 1) := by decide +kernel
theorem dX12_write_207 : decode cX12_write 207 = .ok (.aload_n 0, 1) := by decide +kernel
theorem dX12_write_208 : decode cX12_write 208 = .ok (.getfield 45, 3) := by decide +kernel
theorem dX12_write_211 : decode cX12_write 211 = .ok (.iload_n 3, 1) := by decide +kernel
theorem dX12_write_212 : decode cX12_write 212 = .ok (.iaload, 1) := by decide +kernel
theorem dX12_write_213 : decode cX12_write 213 = .ok (.iadd, 1) := by decide +kernel
theorem dX12_write_214 : decode cX12_write 214 = .ok (.i2l, 1) := by decide +kernel
theorem dX12_write_215 : decode cX12_write 215 = .ok (.bipush 8, 2) := by decide +kernel
theorem dX12_write_217 : decode cX12_write 217 = .ok (.invokevirtual 216, 3) := by decide +kernel
theorem dX12_write_220 : decode cX12_write 220 = .ok (.iload_n 2, 1) := by decide +kernel
theorem dX12_write_221 : decode cX12_write 221 = .ok (.aload_n 0, 1) := by decide +kernel
theorem dX12_write_222 : decode cX12_write 222 = .ok (.bipush 12, 2) := by decide +kernel
theorem dX12_write_224 : decode cX12_write 224 = .ok (.iload_n 3, 1) := by decide +kernel
theorem dX12_write_225 : decode cX12_write 225 = .ok (.iadd, 1) := by decide +kernel
theorem dX12_write_226 : decode cX12_write 226 = .ok (.invokevirtual 241, 3) := by decide +kernel
theorem dX12_write_229 : decode cX12_write 229 = .ok (.iconst 1, 1) := by decide +kernel
theorem dX12_write_230 : decode cX12_write 230 = .ok (.iadd, 1) := by decide +kernel
theorem dX12_write_231 : decode cX12_write 231 = .ok (.iadd, 1) := by decide +kernel
theorem dX12_write_232 : decode cX12_write 232 = .ok (.istore_n 2, 1) := by decide +kernel
theorem dX12_write_233 : decode cX12_write 233 = .ok (.iinc 3 1, 3) := by decide +kernel
theorem dX12_write_236 : decode cX12_write 236 = .ok (.goto (-94), 3) := by decide +kernel
theorem dX12_write_239 : decode cX12_write 239 = .ok (.aload_n 0, 1) := by decide +kernel
theorem dX12_write_240 : decode cX12_write 240 = .ok (.bipush 8, 2) := by decide +kernel
theorem dX12_write_242 : decode cX12_write 242 = .ok (.invokevirtual 227, 3) := by decide +kernel
theorem dX12_write_245 : decode cX12_write 245 = .ok (.aload_n 0, 1) := by decide +kernel
theorem dX12_write_246 : decode cX12_write 246 = .ok (.aload_n 0, 1) := by decide +kernel
theorem dX12_write_247 : decode cX12_write 247 = .ok (.getfield 213, 3) := by decide +kernel
theorem dX12_write_250 : decode cX12_write 250 = .ok (.putfield 244, 3) := by decide +kernel
theorem dX12_write_253 : decode cX12_write 253 = .ok (.aload_n 0, 1) := by decide +kernel
theorem dX12_write_254 : decode cX12_write 254 = .ok (.lconst 0, 1) := by decide +kernel
theorem dX12_write_255 : decode cX12_write 255 = .ok (.iconst 1, 1) := by decide +kernel
theorem dX12_write_256 : decode cX12_write 256 = .ok (.invokevirtual 216, 3) := by decide +kernel
theorem dX12_write_259 : decode cX12_write 259 = .ok (.iconst 0, 1) := by decide +kernel
theorem dX12_write_260 : decode cX12_write 260 = .ok (.istore_n 3, 1) := by decide +kernel
theorem dX12_write_261 : decode cX12_write 261 = .ok (.iload_n 3, 1) := by decide +kernel
theorem dX12_write_262 : decode cX12_write 262 = .ok (.aload_n 0, 1) := by decide +kernel
theorem dX12_write_263 : decode cX12_write 263 = .ok (.getfield 180, 3) := by decide +kernel
theorem dX12_write_266 : decode cX12_write 266 = .ok (.if_icmp .ge 31, 3) := by decide +kernel
theorem dX12_write_269 : decode cX12_write 269 = .ok (.aload_n 0, 1) := by decide +kernel
theorem dX12_write_270 : decode cX12_write 270 = .ok (.bipush 12, 2) := by decide +kernel
theorem dX12_write_272 : decode cX12_write 272 = .ok (.iload_n 3, 1) := by decide +kernel
theorem dX12_write_273 : decode cX12_write 273 = .ok (.iadd, 1) := by decide +kernel
theorem dX12_write_274 : decode cX12_write 274 = .ok (.aload_n 0, 1) := by decide +kernel
theorem dX12_write_275 : decode cX12_write 275 = .ok (.bipush 12, 2) := by decide +kernel
theorem dX12_write_277 : decode cX12_write 277 = .ok (.iload_n 3, 1) := by decide +kernel
theorem dX12_write_278 : decode cX12_write 278 = .ok (.iadd, 1) := by decide +kernel
theorem dX12_write_279 : decode cX12_write 279 = .ok (.invokevirtual 241, 3) := by decide +kernel
theorem dX12_write_282 : decode cX12_write 282 = .ok (.invokevirtual 247, 3) := by decide +kernel
theorem dX12_write_285 : decode cX12_write 285 = .ok (.aload_n 0, 1) := by decide +kernel
theorem dX12_write_286 : decode cX12_write 286 = .ok (.lconst 0, 1) := by decide +kernel
theorem dX12_write_287 : decode cX12_write 287 = .ok (.iconst 1, 1) := by decide +kernel
theorem dX12_write_288 : decode cX12_write 288 = .ok (.invokevirtual 216, 3) := by decide +kernel
theorem dX12_write_291 : decode cX12_write 291 = .ok (.iinc 3 1, 3) := by decide +kernel
theorem dX12_write_294 : decode cX12_write 294 = .ok (.goto (-33), 3) := by decide +kernel
theorem dX12_write_297 : decode cX12_write 297 = .ok (.aload_n 0, 1) := by decide +kernel
theorem dX12_write_298 : decode cX12_write 298 = .ok (.aload_n 0, 1) := by decide +kernel
theorem dX12_write_299 : decode cX12_write 299 = .ok (.getfield 213, 3) := by decide +kernel
theorem dX12_write_302 : decode cX12_write 302 = .ok (.aload_n 0, 1) := by decide +kernel
theorem dX12_write_303 : decode cX12_write 303 = .ok (.getfield 244, 3) := by decide +kernel
theorem dX12_write_306 : decode cX12_write 306 = .ok (.isub, 1) := by decide +kernel
theorem dX12_write_307 : decode cX12_write 307 = .ok (.putfield 250, 3) := by decide +kernel
theorem dX12_write_310 : decode cX12_write 310 = .ok (.aload_n 0, 1) := by decide +kernel
theorem dX12_write_311 : decode cX12_write 311 = .ok (.aload_n 0, 1) := by decide +kernel
theorem dX12_write_312 : decode cX12_write 312 = .ok (.getfield 213, 3) := by decide +kernel
theorem dX12_write_315 : decode cX12_write 315 = .ok (.putfield 253, 3) := by decide +kernel
theorem dX12_write_318 : decode cX12_write 318 = .ok (.aload_n 0, 1) := by decide +kernel
theorem dX12_write_319 : decode cX12_write 319 = .ok (.invokevirtual 256, 3) := by decide +kernel
theorem dX12_write_322 : decode cX12_write 322 = .ok (.aload_n 0, 1) := by decide +kernel
theorem dX12_write_323 : decode cX12_write 323 = .ok (.iconst 0, 1) := by decide +kernel
theorem dX12_write_324 : decode cX12_write 324 = .ok (.putfield 213, 3) := by decide +kernel
theorem dX12_write_327 : decode cX12_write 327 = .ok (.aload_n 0, 1) := by decide +kernel
theorem dX12_write_328 : decode cX12_write 328 = .ok (.iload_n 1, 1) := by decide +kernel
theorem dX12_write_329 : decode cX12_write 329 = .ok (.invokevirtual 259, 3) := by decide +kernel
theorem dX12_write_332 : decode cX12_write 332 = .ok (.aload_n 0, 1) := by decide +kernel
theorem dX12_write_333 : decode cX12_write 333 = .ok (.getfield 253, 3) := by decide +kernel
theorem dX12_write_336 : decode cX12_write 336 = .ok (.ireturn, 1) := by decide +kernel
theorem dX12_writePointers_0 : decode cX12_writePointers 0 = .ok (.iconst 0, 1) := by decide +kernel
theorem dX12_writePointers_1 : decode cX12_writePointers 1 = .ok (.istore_n 1, 1) := by decide +kernel
theorem dX12_writePointers_2 : decode cX12_writePointers 2 = .ok (.iload_n 1, 1) := by decide +kernel
theorem dX12_writePointers_3 : decode cX12_writePointers 3 = .ok (.aload_n 0, 1) := by decide +kernel
theorem dX12_writePointers_4 : decode cX12_writePointers 4 = .ok (.getfield 186, 3) := by decide +kernel
theorem dX12_writePointers_7 : decode cX12_writePointers 7 = .ok (.if_icmp .ge 165, 3) := by decide +kernel
theorem dX12_writePointers_10 : decode cX12_writePointers 10 = .ok (.iconst 0, 1) := by decide +kernel
theorem dX12_writePointers_11 : decode cX12_writePointers 11 = .ok (.istore_n 2, 1) := by decide +kernel
theorem dX12_writePointers_12 : decode cX12_writePointers 12 = .ok (.iload_n 1, 1) := by decide +kernel
theorem dX12_writePointers_13 : decode cX12_writePointers 13 = .ok (.iconst 1, 1) := by decide +kernel
theorem dX12_writePointers_14 : decode cX12_writePointers 14 = .ok (.iadd, 1) := by decide +kernel
theorem dX12_writePointers_15 : decode cX12_writePointers 15 = .ok (.aload_n 0, 1) := by decide +kernel
theorem dX12_writePointers_16 : decode cX12_writePointers 16 = .ok (.getfield 186, 3) := by decide +kernel
theorem dX12_writePointers_19 : decode cX12_writePointers 19 = .ok (.if_icmp .ge 65, 3) := by decide +kernel
theorem dX12_writePointers_22 : decode cX12_writePointers 22 = .ok (.aload_n 0, 1) := by decide +kernel
theorem dX12_writePointers_23 : decode cX12_writePointers 23 = .ok (.getfield 55, 3) := by decide +kernel
theorem dX12_writePointers_26 : decode cX12_writePointers 26 = .ok (.iload_n 1, 1) := by decide +kernel
theorem dX12_writePointers_27 : decode cX12_writePointers 27 = .ok (.iconst 1, 1) := by decide +kernel
theorem dX12_writePointers_28 : decode cX12_writePointers 28 = .ok (.iadd, 1) := by decide +kernel
theorem dX12_writePointers_29 : decode cX12_writePointers 29 = .ok (.iaload, 1) := by decide +kernel
theorem dX12_writePointers_30 : decode cX12_writePointers 30 = .ok (.aload_n 0, 1) := by decide +kernel
theorem dX12_writePointers_31 : decode cX12_writePointers 31 = .ok (.getfield 55, 3) := by decide +kernel
theorem dX12_writePointers_34 : decode cX12_writePointers 34 = .ok (.iload_n 1, 1) := by decide +kernel
theorem dX12_writePointers_35 : decode cX12_writePointers 35 = .ok (.iaload, 1) := by decide +kernel
theorem dX12_writePointers_36 : decode cX12_writePointers 36 = .ok (.if_icmp .ne 48, 3) := by decide +kernel
theorem dX12_writePointers_39 : decode cX12_writePointers 39 = .ok (.aload_n 0, 1) := by decide +kernel
theorem dX12_writePointers_40 : decode cX12_writePointers 40 = .ok (.getfield 58, 3) := by decide +kernel
theorem dX12_writePointers_43 : decode cX12_writePointers 43 = .ok (.iload_n 1, 1) := by decide +kernel
theorem dX12_writePointers_44 : decode cX12_writePointers 44 = .ok (.iconst 1, 1) := by decide +kernel
theorem dX12_writePointers_45 : decode cX12_writePointers 45 = .ok (.iadd, 1) := by decide +kernel
theorem dX12_writePointers_46 : decode cX12_writePointers 46 = .ok (.iaload, 1) := by decide +kernel
theorem dX12_writePointers_47 : decode cX12_writePointers 47 = .ok (.aload_n 0, 1) := by decide +kernel
theorem dX12_writePointers_48 : decode cX12_writePointers 48 = .ok (.getfield 21, 3) := by decide +kernel
theorem dX12_writePointers_51 : decode cX12_writePointers 51 = .ok (.idiv, 1) := by decide +kernel
theorem dX12_writePointers_52 : decode cX12_writePointers 52 = .ok (.aload_n 0, 1) := by decide +kernel
theorem dX12_writePointers_53 : decode cX12_writePointers 53 = .ok (.getfield 58, 3) := by decide +kernel
theorem dX12_writePointers_56 : decode cX12_writePointers 56 = .ok (.iload_n 1, 1) := by decide +kernel
theorem dX12_writePointers_57 : decode cX12_writePointers 57 = .ok (.iaload, 1) := by decide +kernel
theorem dX12_writePointers_58 : decode cX12_writePointers 58 = .ok (.aload_n 0, 1) := by decide +kernel
theorem dX12_writePointers_59 : decode cX12_writePointers 59 = .ok (.getfield 21, 3) := by decide +kernel
theorem dX12_writePointers_62 : decode cX12_writePointers 62 = .ok (.idiv, 1) := by decide +kernel
theorem dX12_writePointers_63 : decode cX12_writePointers 63 = .ok (.if_icmp .ne 21, 3) := by decide +kernel
theorem dX12_writePointers_66 : decode cX12_writePointers 66 = .ok (.aload_n 0, 1) := by decide +kernel
theorem dX12_writePointers_67 : decode cX12_writePointers 67 = .ok (.getfield 58, 3) := by decide +kernel
theorem dX12_writePointers_70 : decode cX12_writePointers 70 = .ok (.iload_n 1, 1) := by decide +kernel
theorem dX12_writePointers_71 : decode cX12_writePointers 71 = .ok (.iconst 1, 1) := by decide +kernel
theorem dX12_writePointers_72 : decode cX12_writePointers 72 = .ok (.iadd, 1) := by decide +kernel
theorem dX12_writePointers_73 : decode cX12_writePointers 73 = .ok (.iaload, 1) := by decide +kernel
theorem dX12_writePointers_74 : decode cX12_writePointers 74 = .ok (.aload_n 0, 1) := by decide +kernel
theorem dX12_writePointers_75 : decode cX12_writePointers 75 = .ok (.getfield 58, 3) := by decide +kernel
theorem dX12_writePointers_78 : decode cX12_writePointers 78 = .ok (.iload_n 1, 1) := by decide +kernel
theorem dX12_writePointers_79 : decode cX12_writePointers 79 = .ok (.iaload, 1) := by decide +kernel
theorem dX12_writePointers_80 : decode cX12_writePointers 80 = .ok (.isub, 1) := by decide +kernel
theorem dX12_writePointers_81 : decode cX12_writePointers 81 = .ok (.iconst 4, 1) := by decide +kernel
theorem dX12_writePointers_82 : decode cX12_writePointers 82 = .ok (.idiv, 1) := by decide +kernel
theorem dX12_writePointers_83 : decode cX12_writePointers 83 = .ok (.istore_n 2, 1) := by decide +kernel
theorem dX12_writePointers_84 : decode cX12_writePointers 84 = .ok (.aload_n 0, 1) := by decide +kernel
theorem dX12_writePointers_85 : decode cX12_writePointers 85 = .ok (.getfield 64, 3) := by decide +kernel
theorem dX12_writePointers_88 : decode cX12_writePointers 88 = .ok (.iload_n 1, 1) := by decide +kernel
theorem dX12_writePointers_89 : decode cX12_writePointers 89 = .ok (.laload, 1) := by decide +kernel
theorem dX12_writePointers_90 : decode cX12_writePointers 90 = .ok (.aload_n 0, 1) := by decide +kernel
theorem dX12_writePointers_91 : decode cX12_writePointers 91 = .ok (.getfield 61, 3) := by decide +kernel
theorem dX12_writePointers_94 : decode cX12_writePointers 94 = .ok (.iload_n 1, 1) := by decide +kernel
theorem dX12_writePointers_95 : decode cX12_writePointers 95 = .ok (.iaload, 1) := by decide +kernel
theorem dX12_writePointers_96 : decode cX12_writePointers 96 = .ok (.i2l, 1) := by decide +kernel
theorem dX12_writePointers_97 : decode cX12_writePointers 97 = .ok (.aload_n 0, 1) := by decide +kernel
theorem dX12_writePointers_98 : decode cX12_writePointers 98 = .ok (.getfield 68, 3) := by decide +kernel
theorem dX12_writePointers_101 : decode cX12_writePointers 101 = .ok (.iload_n 1, 1) := by decide +kernel
theorem dX12_writePointers_102 : decode cX12_writePointers 102 = .ok (.baload, 1) := by decide +kernel
theorem dX12_writePointers_103 : decode cX12_writePointers 103 = .ok (.ifCond .eq 8, 3) := by decide +kernel
theorem dX12_writePointers_106 : decode cX12_writePointers 106 = .ok (.bipush 24, 2) := by decide +kernel
theorem dX12_writePointers_108 : decode cX12_writePointers 108 = .ok (.goto 5, 3) := by decide +kernel
theorem dX12_writePointers_111 : decode cX12_writePointers 111 = .ok (.bipush 36, 2) := by decide +kernel
theorem dX12_writePointers_113 : decode cX12_writePointers 113 = .ok (.lshl, 1) := by decide +kernel
theorem dX12_writePointers_114 : decode cX12_writePointers 114 = .ok (.lor, 1) := by decide +kernel
theorem dX12_writePointers_115 : decode cX12_writePointers 115 = .ok (.iload_n 2, 1) := by decide +kernel
theorem dX12_writePointers_116 : decode cX12_writePointers 116 = .ok (.i2l, 1) := by decide +kernel
theorem dX12_writePointers_117 : decode cX12_writePointers 117 = .ok (.bipush 51, 2) := by decide +kernel
theorem dX12_writePointers_119 : decode cX12_writePointers 119 = .ok (.lshl, 1) := by decide +kernel
theorem dX12_writePointers_120 : decode cX12_writePointers 120 = .ok (.lor, 1) := by decide +kernel
theorem dX12_writePointers_121 : decode cX12_writePointers 121 = .ok (.lstore_n 3, 1) := by decide +kernel
theorem dX12_writePointers_122 : decode cX12_writePointers 122 = .ok (.aload_n 0, 1) := by decide +kernel
theorem dX12_writePointers_123 : decode cX12_writePointers 123 = .ok (.getfield 68, 3) := by decide +kernel
theorem dX12_writePointers_126 : decode cX12_writePointers 126 = .ok (.iload_n 1, 1) := by decide +kernel
theorem dX12_writePointers_127 : decode cX12_writePointers 127 = .ok (.baload, 1) := by decide +kernel
theorem dX12_writePointers_128 : decode cX12_writePointers 128 = .ok (.ifCond .eq 9, 3) := by decide +kernel
theorem dX12_writePointers_131 : decode cX12_writePointers 131 = .ok (.lload_n 3, 1) := by decide +kernel
theorem dX12_writePointers_132 : decode cX12_writePointers 132 = .ok (.ldc2_w 262, 3) := by decide +kernel
theorem dX12_writePointers_135 : decode cX12_writePointers 135 = .ok (.lor, 1) := by decide +kernel
theorem dX12_writePointers_136 : decode cX12_writePointers 136 = .ok (.lstore_n 3, 1) := by decide +kernel
theorem dX12_writePointers_137 : decode cX12_writePointers 137 = .ok (.aload_n 0, 1) := by decide +kernel
theorem dX12_writePointers_138 : decode cX12_writePointers 138 = .ok (.aload_n 0, 1) := by decide +kernel
theorem dX12_writePointers_139 : decode cX12_writePointers 139 = .ok (.getfield 80, 3) := by decide +kernel
theorem dX12_writePointers_142 : decode cX12_writePointers 142 = .ok (.aload_n 0, 1) := by decide +kernel
theorem dX12_writePointers_143 : decode cX12_writePointers 143 = .ok (.getfield 55, 3) := by decide +kernel
theorem dX12_writePointers_146 : decode cX12_writePointers 146 = .ok (.iload_n 1, 1) := by decide +kernel
theorem dX12_writePointers_147 : decode cX12_writePointers 147 = .ok (.iaload, 1) := by decide +kernel
theorem dX12_writePointers_148 : decode cX12_writePointers 148 = .ok (.iaload, 1) := by decide +kernel
theorem dX12_writePointers_149 : decode cX12_writePointers 149 = .ok (.aload_n 0, 1) := by decide +kernel
theorem dX12_writePointers_150 : decode cX12_writePointers 150 = .ok (.getfield 58, 3) := by decide +kernel
theorem dX12_writePointers_153 : decode cX12_writePointers 153 = .ok (.iload_n 1, 1) := by decide +kernel
theorem dX12_writePointers_154 : decode cX12_writePointers 154 = .ok (.iaload, 1) := by decide +kernel
theorem dX12_writePointers_155 : decode cX12_writePointers 155 = .ok (.iadd, 1) := by decide +kernel
theorem dX12_writePointers_156 : decode cX12_writePointers 156 = .ok (.putfield 213, 3) := by decide +kernel
theorem dX12_writePointers_159 : decode cX12_writePointers 159 = .ok (.aload_n 0, 1) := by decide +kernel
theorem dX12_writePointers_160 : decode cX12_writePointers 160 = .ok (.lload_n 3, 1) := by decide +kernel
theorem dX12_writePointers_161 : decode cX12_writePointers 161 = .ok (.bipush 8, 2) := by decide +kernel
theorem dX12_writePointers_163 : decode cX12_writePointers 163 = .ok (.invokevirtual 216, 3) := by decide +kernel
theorem dX12_writePointers_166 : decode cX12_writePointers 166 = .ok (.iinc 1 1, 3) := by decide +kernel
theorem dX12_writePointers_169 : decode cX12_writePointers 169 = .ok (.goto (-167), 3) := by decide +kernel
theorem dX12_writePointers_172 : decode cX12_writePointers 172 = .ok (.return_, 1) := by decide +kernel
