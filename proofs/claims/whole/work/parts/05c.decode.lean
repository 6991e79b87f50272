theorem dX6_fillUp_0 : decode cX6_fillUp 0 = .ok (.aload_n 0, 1) := by decide +kernel
theorem dX6_fillUp_1 : decode cX6_fillUp 1 = .ok (.aload_n 0, 1) := by decide +kernel
theorem dX6_fillUp_2 : decode cX6_fillUp 2 = .ok (.getfield 15, 3) := by decide +kernel
theorem dX6_fillUp_5 : decode cX6_fillUp 5 = .ok (.iload_n 1, 1) := by decide +kernel
theorem dX6_fillUp_6 : decode cX6_fillUp 6 = .ok (.invokestatic 39, 3) := by decide +kernel
theorem dX6_fillUp_9 : decode cX6_fillUp 9 = .ok (.aload_n 0, 1) := by decide +kernel
theorem dX6_fillUp_10 : decode cX6_fillUp 10 = .ok (.getfield 15, 3) := by decide +kernel
theorem dX6_fillUp_13 : decode cX6_fillUp 13 = .ok (.isub, 1) := by decide +kernel
theorem dX6_fillUp_14 : decode cX6_fillUp 14 = .ok (.invokevirtual 43, 3) := by decide +kernel
theorem dX6_fillUp_17 : decode cX6_fillUp 17 = .ok (.return_, 1) := by decide +kernel
theorem dX6_lastZero_0 : decode cX6_lastZero 0 = .ok (.iload_n 2, 1) := by decide +kernel
theorem dX6_lastZero_1 : decode cX6_lastZero 1 = .ok (.iconst 1, 1) := by decide +kernel
theorem dX6_lastZero_2 : decode cX6_lastZero 2 = .ok (.isub, 1) := by decide +kernel
theorem dX6_lastZero_3 : decode cX6_lastZero 3 = .ok (.istore_n 3, 1) := by decide +kernel
theorem dX6_lastZero_4 : decode cX6_lastZero 4 = .ok (.iload_n 3, 1) := by decide +kernel
theorem dX6_lastZero_5 : decode cX6_lastZero 5 = .ok (.iload_n 1, 1) := by decide +kernel
theorem dX6_lastZero_6 : decode cX6_lastZero 6 = .ok (.if_icmp .lt 19, 3) := by decide +kernel
theorem dX6_lastZero_9 : decode cX6_lastZero 9 = .ok (.aload_n 0, 1) := by decide +kernel
theorem dX6_lastZero_10 : decode cX6_lastZero 10 = .ok (.iload_n 3, 1) := by decide +kernel
theorem dX6_lastZero_11 : decode cX6_lastZero 11 = .ok (.invokevirtual 47, 3) := by decide +kernel
theorem dX6_lastZero_14 : decode cX6_lastZero 14 = .ok (.ifCond .ne 5, 3) := by decide +kernel
theorem dX6_lastZero_17 : decode cX6_lastZero 17 = .ok (.iload_n 3, 1) := by decide +kernel
theorem dX6_lastZero_18 : decode cX6_lastZero 18 = .ok (.ireturn, 1) := by decide +kernel
theorem dX6_lastZero_19 : decode cX6_lastZero 19 = .ok (.iinc 3 (-1), 3) := by decide +kernel
theorem dX6_lastZero_22 : decode cX6_lastZero 22 = .ok (.goto (-18), 3) := by decide +kernel
theorem dX6_lastZero_25 : decode cX6_lastZero 25 = .ok (.iconst (-1), 1) := by decide +kernel
theorem dX6_lastZero_26 : decode cX6_lastZero 26 = .ok (.ireturn, 1) := by decide +kernel
theorem dX6_isName_0 : decode cX6_isName 0 = .ok (.aload_n 0, 1) := by decide +kernel
theorem dX6_isName_1 : decode cX6_isName 1 = .ok (.getfield 15, 3) := by decide +kernel
theorem dX6_isName_4 : decode cX6_isName 4 = .ok (.iconst 1, 1) := by decide +kernel
theorem dX6_isName_5 : decode cX6_isName 5 = .ok (.if_icmp .lt 12, 3) := by decide +kernel
theorem dX6_isName_8 : decode cX6_isName 8 = .ok (.aload_n 0, 1) := by decide +kernel
theorem dX6_isName_9 : decode cX6_isName 9 = .ok (.getfield 15, 3) := by decide +kernel
theorem dX6_isName_12 : decode cX6_isName 12 = .ok (.bipush 16, 2) := by decide +kernel
theorem dX6_isName_14 : decode cX6_isName 14 = .ok (.if_icmp .le 5, 3) := by decide +kernel
theorem dX6_isName_17 : decode cX6_isName 17 = .ok (.iconst 0, 1) := by decide +kernel
theorem dX6_isName_18 : decode cX6_isName 18 = .ok (.ireturn, 1) := by decide +kernel
theorem dX6_isName_19 : decode cX6_isName 19 = .ok (.iconst 0, 1) := by decide +kernel
theorem dX6_isName_20 : decode cX6_isName 20 = .ok (.istore_n 1, 1) := by decide +kernel
theorem dX6_isName_21 : decode cX6_isName 21 = .ok (.iload_n 1, 1) := by decide +kernel
theorem dX6_isName_22 : decode cX6_isName 22 = .ok (.aload_n 0, 1) := by decide +kernel
theorem dX6_isName_23 : decode cX6_isName 23 = .ok (.getfield 15, 3) := by decide +kernel
theorem dX6_isName_26 : decode cX6_isName 26 = .ok (.if_icmp .ge 33, 3) := by decide +kernel
theorem dX6_isName_29 : decode cX6_isName 29 = .ok (.aload_n 0, 1) := by decide +kernel
theorem dX6_isName_30 : decode cX6_isName 30 = .ok (.getfield 9, 3) := by decide +kernel
theorem dX6_isName_33 : decode cX6_isName 33 = .ok (.iload_n 1, 1) := by decide +kernel
theorem dX6_isName_34 : decode cX6_isName 34 = .ok (.baload, 1) := by decide +kernel
theorem dX6_isName_35 : decode cX6_isName 35 = .ok (.bipush 33, 2) := by decide +kernel
theorem dX6_isName_37 : decode cX6_isName 37 = .ok (.if_icmp .lt 14, 3) := by decide +kernel
theorem dX6_isName_40 : decode cX6_isName 40 = .ok (.aload_n 0, 1) := by decide +kernel
theorem dX6_isName_41 : decode cX6_isName 41 = .ok (.getfield 9, 3) := by decide +kernel
theorem dX6_isName_44 : decode cX6_isName 44 = .ok (.iload_n 1, 1) := by decide +kernel
theorem dX6_isName_45 : decode cX6_isName 45 = .ok (.baload, 1) := by decide +kernel
theorem dX6_isName_46 : decode cX6_isName 46 = .ok (.bipush 126, 2) := by decide +kernel
theorem dX6_isName_48 : decode cX6_isName 48 = .ok (.if_icmp .le 5, 3) := by decide +kernel
theorem dX6_isName_51 : decode cX6_isName 51 = .ok (.iconst 0, 1) := by decide +kernel
theorem dX6_isName_52 : decode cX6_isName 52 = .ok (.ireturn, 1) := by decide +kernel
theorem dX6_isName_53 : decode cX6_isName 53 = .ok (.iinc 1 1, 3) := by decide +kernel
theorem dX6_isName_56 : decode cX6_isName 56 = .ok (.goto (-35), 3) := by decide +kernel
theorem dX6_isName_59 : decode cX6_isName 59 = .ok (.iconst 1, 1) := by decide +kernel
theorem dX6_isName_60 : decode cX6_isName 60 = .ok (.ireturn, 1) := by decide +kernel
theorem dX6_reads_0 : decode cX6_reads 0 = .ok (.iload_n 3, 1) := by decide +kernel
theorem dX6_reads_1 : decode cX6_reads 1 = .ok (.ifCond .lt 17, 3) := by decide +kernel
theorem dX6_reads_4 : decode cX6_reads 4 = .ok (.iload 4, 2) := by decide +kernel
theorem dX6_reads_6 : decode cX6_reads 6 = .ok (.ifCond .lt 12, 3) := by decide +kernel
theorem dX6_reads_9 : decode cX6_reads 9 = .ok (.iload 4, 2) := by decide +kernel
theorem dX6_reads_11 : decode cX6_reads 11 = .ok (.aload_n 2, 1) := by decide +kernel
theorem dX6_reads_12 : decode cX6_reads 12 = .ok (.arraylength, 1) := by decide +kernel
theorem dX6_reads_13 : decode cX6_reads 13 = .ok (.iload_n 3, 1) := by decide +kernel
theorem dX6_reads_14 : decode cX6_reads 14 = .ok (.isub, 1) := by decide +kernel
theorem dX6_reads_15 : decode cX6_reads 15 = .ok (.if_icmp .le 5, 3) := by decide +kernel
theorem dX6_reads_18 : decode cX6_reads 18 = .ok (.iconst 0, 1) := by decide +kernel
theorem dX6_reads_19 : decode cX6_reads 19 = .ok (.ireturn, 1) := by decide +kernel
theorem dX6_reads_20 : decode cX6_reads 20 = .ok (.iconst 0, 1) := by decide +kernel
theorem dX6_reads_21 : decode cX6_reads 21 = .ok (.istore 5, 2) := by decide +kernel
theorem dX6_reads_23 : decode cX6_reads 23 = .ok (.iload 5, 2) := by decide +kernel
theorem dX6_reads_25 : decode cX6_reads 25 = .ok (.iload 4, 2) := by decide +kernel
theorem dX6_reads_27 : decode cX6_reads 27 = .ok (.if_icmp .ge 41, 3) := by decide +kernel
theorem dX6_reads_30 : decode cX6_reads 30 = .ok (.aload_n 2, 1) := by decide +kernel
theorem dX6_reads_31 : decode cX6_reads 31 = .ok (.iload_n 3, 1) := by decide +kernel
theorem dX6_reads_32 : decode cX6_reads 32 = .ok (.iload 5, 2) := by decide +kernel
theorem dX6_reads_34 : decode cX6_reads 34 = .ok (.iadd, 1) := by decide +kernel
theorem dX6_reads_35 : decode cX6_reads 35 = .ok (.baload, 1) := by decide +kernel
theorem dX6_reads_36 : decode cX6_reads 36 = .ok (.ifCond .eq 24, 3) := by decide +kernel
theorem dX6_reads_39 : decode cX6_reads 39 = .ok (.aload_n 0, 1) := by decide +kernel
theorem dX6_reads_40 : decode cX6_reads 40 = .ok (.iload_n 1, 1) := by decide +kernel
theorem dX6_reads_41 : decode cX6_reads 41 = .ok (.iload 5, 2) := by decide +kernel
theorem dX6_reads_43 : decode cX6_reads 43 = .ok (.iadd, 1) := by decide +kernel
theorem dX6_reads_44 : decode cX6_reads 44 = .ok (.invokevirtual 47, 3) := by decide +kernel
theorem dX6_reads_47 : decode cX6_reads 47 = .ok (.aload_n 2, 1) := by decide +kernel
theorem dX6_reads_48 : decode cX6_reads 48 = .ok (.iload_n 3, 1) := by decide +kernel
theorem dX6_reads_49 : decode cX6_reads 49 = .ok (.iload 5, 2) := by decide +kernel
theorem dX6_reads_51 : decode cX6_reads 51 = .ok (.iadd, 1) := by decide +kernel
theorem dX6_reads_52 : decode cX6_reads 52 = .ok (.baload, 1) := by decide +kernel
theorem dX6_reads_53 : decode cX6_reads 53 = .ok (.sipush 255, 3) := by decide +kernel
theorem dX6_reads_56 : decode cX6_reads 56 = .ok (.iand, 1) := by decide +kernel
theorem dX6_reads_57 : decode cX6_reads 57 = .ok (.if_icmp .eq 5, 3) := by decide +kernel
theorem dX6_reads_60 : decode cX6_reads 60 = .ok (.iconst 0, 1) := by decide +kernel
theorem dX6_reads_61 : decode cX6_reads 61 = .ok (.ireturn, 1) := by decide +kernel
theorem dX6_reads_62 : decode cX6_reads 62 = .ok (.iinc 5 1, 3) := by decide +kernel
theorem dX6_reads_65 : decode cX6_reads 65 = .ok (.goto (-42), 3) := by decide +kernel
theorem dX6_reads_68 : decode cX6_reads 68 = .ok (.aload_n 0, 1) := by decide +kernel
theorem dX6_reads_69 : decode cX6_reads 69 = .ok (.iload_n 1, 1) := by decide +kernel
theorem dX6_reads_70 : decode cX6_reads 70 = .ok (.iload 4, 2) := by decide +kernel
theorem dX6_reads_72 : decode cX6_reads 72 = .ok (.iadd, 1) := by decide +kernel
theorem dX6_reads_73 : decode cX6_reads 73 = .ok (.invokevirtual 47, 3) := by decide +kernel
theorem dX6_reads_76 : decode cX6_reads 76 = .ok (.ifCond .ne 7, 3) := by decide +kernel
theorem dX6_reads_79 : decode cX6_reads 79 = .ok (.iconst 1, 1) := by decide +kernel
theorem dX6_reads_80 : decode cX6_reads 80 = .ok (.goto 4, 3) := by decide +kernel
theorem dX6_reads_83 : decode cX6_reads 83 = .ok (.iconst 0, 1) := by decide +kernel
theorem dX6_reads_84 : decode cX6_reads 84 = .ok (.ireturn, 1) := by decide +kernel
theorem dX7_init_0 : decode cX7_init 0 = .ok (.aload_n 0, 1) := by decide +kernel
theorem dX7_init_1 : decode cX7_init 1 = .ok (.invokespecial 3, 3) := by decide +kernel
theorem dX7_init_4 : decode cX7_init 4 = .ok (.aload_n 0, 1) := by decide +kernel
theorem dX7_init_5 : decode cX7_init 5 = .ok (.iconst 4, 1) := by decide +kernel
theorem dX7_init_6 : decode cX7_init 6 = .ok (.newarray .int, 2) := by decide +kernel
theorem dX7_init_8 : decode cX7_init 8 = .ok (.putfield 9, 3) := by decide +kernel
theorem dX7_init_11 : decode cX7_init 11 = .ok (.aload_n 0, 1) := by decide +kernel
theorem dX7_init_12 : decode cX7_init 12 = .ok (.iconst 4, 1) := by decide +kernel
theorem dX7_init_13 : decode cX7_init 13 = .ok (.newarray .int, 2) := by decide +kernel
theorem dX7_init_15 : decode cX7_init 15 = .ok (.putfield 15, 3) := by decide +kernel
theorem dX7_init_18 : decode cX7_init 18 = .ok (.aload_n 0, 1) := by decide +kernel
theorem dX7_init_19 : decode cX7_init 19 = .ok (.iconst 4, 1) := by decide +kernel
theorem dX7_init_20 : decode cX7_init 20 = .ok (.newarray .int, 2) := by decide +kernel
theorem dX7_init_22 : decode cX7_init 22 = .ok (.putfield 18, 3) := by decide +kernel
theorem dX7_init_25 : decode cX7_init 25 = .ok (.aload_n 0, 1) := by decide +kernel
theorem dX7_init_26 : decode cX7_init 26 = .ok (.iconst 4, 1) := by decide +kernel
theorem dX7_init_27 : decode cX7_init 27 = .ok (.newarray .int, 2) := by decide +kernel
theorem dX7_init_29 : decode cX7_init 29 = .ok (.putfield 21, 3) := by decide +kernel
theorem dX7_init_32 : decode cX7_init 32 = .ok (.aload_n 0, 1) := by decide +kernel
theorem dX7_init_33 : decode cX7_init 33 = .ok (.iconst 0, 1) := by decide +kernel
theorem dX7_init_34 : decode cX7_init 34 = .ok (.putfield 24, 3) := by decide +kernel
theorem dX7_init_37 : decode cX7_init 37 = .ok (.return_, 1) := by decide +kernel
theorem dX7_clear_0 : decode cX7_clear 0 = .ok (.aload_n 0, 1) := by decide +kernel
theorem dX7_clear_1 : decode cX7_clear 1 = .ok (.iconst 0, 1) := by decide +kernel
theorem dX7_clear_2 : decode cX7_clear 2 = .ok (.putfield 24, 3) := by decide +kernel
theorem dX7_clear_5 : decode cX7_clear 5 = .ok (.return_, 1) := by decide +kernel
theorem dX7_add_0 : decode cX7_add 0 = .ok (.aload_n 0, 1) := by decide +kernel
theorem dX7_add_1 : decode cX7_add 1 = .ok (.getfield 24, 3) := by decide +kernel
theorem dX7_add_4 : decode cX7_add 4 = .ok (.iconst 4, 1) := by decide +kernel
theorem dX7_add_5 : decode cX7_add 5 = .ok (.if_icmp .ge 54, 3) := by decide +kernel
theorem dX7_add_8 : decode cX7_add 8 = .ok (.aload_n 0, 1) := by decide +kernel
theorem dX7_add_9 : decode cX7_add 9 = .ok (.getfield 9, 3) := by decide +kernel
theorem dX7_add_12 : decode cX7_add 12 = .ok (.aload_n 0, 1) := by decide +kernel
theorem dX7_add_13 : decode cX7_add 13 = .ok (.getfield 24, 3) := by decide +kernel
theorem dX7_add_16 : decode cX7_add 16 = .ok (.iload_n 1, 1) := by decide +kernel
theorem dX7_add_17 : decode cX7_add 17 = .ok (.iastore, 1) := by decide +kernel
theorem dX7_add_18 : decode cX7_add 18 = .ok (.aload_n 0, 1) := by decide +kernel
theorem dX7_add_19 : decode cX7_add 19 = .ok (.getfield 15, 3) := by decide +kernel
theorem dX7_add_22 : decode cX7_add 22 = .ok (.aload_n 0, 1) := by decide +kernel
theorem dX7_add_23 : decode cX7_add 23 = .ok (.getfield 24, 3) := by decide +kernel
theorem dX7_add_26 : decode cX7_add 26 = .ok (.iload_n 2, 1) := by decide +kernel
theorem dX7_add_27 : decode cX7_add 27 = .ok (.iastore, 1) := by decide +kernel
theorem dX7_add_28 : decode cX7_add 28 = .ok (.aload_n 0, 1) := by decide +kernel
theorem dX7_add_29 : decode cX7_add 29 = .ok (.getfield 18, 3) := by decide +kernel
theorem dX7_add_32 : decode cX7_add 32 = .ok (.aload_n 0, 1) := by decide +kernel
theorem dX7_add_33 : decode cX7_add 33 = .ok (.getfield 24, 3) := by decide +kernel
theorem dX7_add_36 : decode cX7_add 36 = .ok (.iload_n 3, 1) := by decide +kernel
theorem dX7_add_37 : decode cX7_add 37 = .ok (.iastore, 1) := by decide +kernel
theorem dX7_add_38 : decode cX7_add 38 = .ok (.aload_n 0, 1) := by decide +kernel
theorem dX7_add_39 : decode cX7_add 39 = .ok (.getfield 21, 3) := by decide +kernel
theorem dX7_add_42 : decode cX7_add 42 = .ok (.aload_n 0, 1) := by decide +kernel
theorem dX7_add_43 : decode cX7_add 43 = .ok (.getfield 24, 3) := by decide +kernel
theorem dX7_add_46 : decode cX7_add 46 = .ok (.iload 4, 2) := by decide +kernel
theorem dX7_add_48 : decode cX7_add 48 = .ok (.iastore, 1) := by decide +kernel
theorem dX7_add_49 : decode cX7_add 49 = .ok (.aload_n 0, 1) := by decide +kernel
theorem dX7_add_50 : decode cX7_add 50 = .ok (.dup, 1) := by decide +kernel
theorem dX7_add_51 : decode cX7_add 51 = .ok (.getfield 24, 3) := by decide +kernel
theorem dX7_add_54 : decode cX7_add 54 = .ok (.iconst 1, 1) := by decide +kernel
theorem dX7_add_55 : decode cX7_add 55 = .ok (.iadd, 1) := by decide +kernel
theorem dX7_add_56 : decode cX7_add 56 = .ok (.putfield 24, 3) := by decide +kernel
theorem dX7_add_59 : decode cX7_add 59 = .ok (.return_, 1) := by decide +kernel
theorem dX7_spanOfAll_0 : decode cX7_spanOfAll 0 = .ok (.iconst 0, 1) := by decide +kernel
theorem dX7_spanOfAll_1 : decode cX7_spanOfAll 1 = .ok (.istore_n 1, 1) := by decide +kernel
theorem dX7_spanOfAll_2 : decode cX7_spanOfAll 2 = .ok (.iconst 0, 1) := by decide +kernel
theorem dX7_spanOfAll_3 : decode cX7_spanOfAll 3 = .ok (.istore_n 2, 1) := by decide +kernel
theorem dX7_spanOfAll_4 : decode cX7_spanOfAll 4 = .ok (.iload_n 2, 1) := by decide +kernel
theorem dX7_spanOfAll_5 : decode cX7_spanOfAll 5 = .ok (.aload_n 0, 1) := by decide +kernel
theorem dX7_spanOfAll_6 : decode cX7_spanOfAll 6 = .ok (.getfield 24, 3) := by decide +kernel
theorem dX7_spanOfAll_9 : decode cX7_spanOfAll 9 = .ok (.if_icmp .ge 18, 3) := by decide +kernel
theorem dX7_spanOfAll_12 : decode cX7_spanOfAll 12 = .ok (.iload_n 1, 1) := by decide +kernel
theorem dX7_spanOfAll_13 : decode cX7_spanOfAll 13 = .ok (.aload_n 0, 1) := by decide +kernel
theorem dX7_spanOfAll_14 : decode cX7_spanOfAll 14 = .ok (.getfield 15, 3) := by decide +kernel
theorem dX7_spanOfAll_17 : decode cX7_spanOfAll 17 = .ok (.iload_n 2, 1) := by decide +kernel
theorem dX7_spanOfAll_18 : decode cX7_spanOfAll 18 = .ok (.iaload, 1) := by decide +kernel
theorem dX7_spanOfAll_19 : decode cX7_spanOfAll 19 = .ok (.iadd, 1) := by decide +kernel
theorem dX7_spanOfAll_20 : decode cX7_spanOfAll 20 = .ok (.istore_n 1, 1) := by decide +kernel
theorem dX7_spanOfAll_21 : decode cX7_spanOfAll 21 = .ok (.iinc 2 1, 3) := by decide +kernel
theorem dX7_spanOfAll_24 : decode cX7_spanOfAll 24 = .ok (.goto (-20), 3) := by decide +kernel
theorem dX7_spanOfAll_27 : decode cX7_spanOfAll 27 = .ok (.iload_n 1, 1) := by decide +kernel
theorem dX7_spanOfAll_28 : decode cX7_spanOfAll 28 = .ok (.ireturn, 1) := by decide +kernel
theorem dX7_shareByte_0 : decode cX7_shareByte 0 = .ok (.iconst 0, 1) := by decide +kernel
theorem dX7_shareByte_1 : decode cX7_shareByte 1 = .ok (.istore 5, 2) := by decide +kernel
theorem dX7_shareByte_3 : decode cX7_shareByte 3 = .ok (.iload 5, 2) := by decide +kernel
theorem dX7_shareByte_5 : decode cX7_shareByte 5 = .ok (.aload_n 0, 1) := by decide +kernel
theorem dX7_shareByte_6 : decode cX7_shareByte 6 = .ok (.getfield 24, 3) := by decide +kernel
theorem dX7_shareByte_9 : decode cX7_shareByte 9 = .ok (.if_icmp .ge 54, 3) := by decide +kernel
theorem dX7_shareByte_12 : decode cX7_shareByte 12 = .ok (.lload_n 1, 1) := by decide +kernel
theorem dX7_shareByte_13 : decode cX7_shareByte 13 = .ok (.lload_n 3, 1) := by decide +kernel
theorem dX7_shareByte_14 : decode cX7_shareByte 14 = .ok (.ladd, 1) := by decide +kernel
theorem dX7_shareByte_15 : decode cX7_shareByte 15 = .ok (.aload_n 0, 1) := by decide +kernel
theorem dX7_shareByte_16 : decode cX7_shareByte 16 = .ok (.getfield 9, 3) := by decide +kernel
theorem dX7_shareByte_19 : decode cX7_shareByte 19 = .ok (.iload 5, 2) := by decide +kernel
theorem dX7_shareByte_21 : decode cX7_shareByte 21 = .ok (.iaload, 1) := by decide +kernel
theorem dX7_shareByte_22 : decode cX7_shareByte 22 = .ok (.i2l, 1) := by decide +kernel
theorem dX7_shareByte_23 : decode cX7_shareByte 23 = .ok (.aload_n 0, 1) := by decide +kernel
theorem dX7_shareByte_24 : decode cX7_shareByte 24 = .ok (.getfield 15, 3) := by decide +kernel
theorem dX7_shareByte_27 : decode cX7_shareByte 27 = .ok (.iload 5, 2) := by decide +kernel
theorem dX7_shareByte_29 : decode cX7_shareByte 29 = .ok (.iaload, 1) := by decide +kernel
theorem dX7_shareByte_30 : decode cX7_shareByte 30 = .ok (.i2l, 1) := by decide +kernel
theorem dX7_shareByte_31 : decode cX7_shareByte 31 = .ok (.ladd, 1) := by decide +kernel
theorem dX7_shareByte_32 : decode cX7_shareByte 32 = .ok (.invokestatic 28, 3) := by decide +kernel
theorem dX7_shareByte_35 : decode cX7_shareByte 35 = .ok (.lstore 6, 2) := by decide +kernel
theorem dX7_shareByte_37 : decode cX7_shareByte 37 = .ok (.lload_n 1, 1) := by decide +kernel
theorem dX7_shareByte_38 : decode cX7_shareByte 38 = .ok (.aload_n 0, 1) := by decide +kernel
theorem dX7_shareByte_39 : decode cX7_shareByte 39 = .ok (.getfield 9, 3) := by decide +kernel
theorem dX7_shareByte_42 : decode cX7_shareByte 42 = .ok (.iload 5, 2) := by decide +kernel
theorem dX7_shareByte_44 : decode cX7_shareByte 44 = .ok (.iaload, 1) := by decide +kernel
theorem dX7_shareByte_45 : decode cX7_shareByte 45 = .ok (.i2l, 1) := by decide +kernel
theorem dX7_shareByte_46 : decode cX7_shareByte 46 = .ok (.invokestatic 34, 3) := by decide +kernel
theorem dX7_shareByte_49 : decode cX7_shareByte 49 = .ok (.lload 6, 2) := by decide +kernel
theorem dX7_shareByte_51 : decode cX7_shareByte 51 = .ok (.lcmp, 1) := by decide +kernel
theorem dX7_shareByte_52 : decode cX7_shareByte 52 = .ok (.ifCond .ge 5, 3) := by decide +kernel
theorem dX7_shareByte_55 : decode cX7_shareByte 55 = .ok (.iconst 1, 1) := by decide +kernel
theorem dX7_shareByte_56 : decode cX7_shareByte 56 = .ok (.ireturn, 1) := by decide +kernel
theorem dX7_shareByte_57 : decode cX7_shareByte 57 = .ok (.iinc 5 1, 3) := by decide +kernel
theorem dX7_shareByte_60 : decode cX7_shareByte 60 = .ok (.goto (-57), 3) := by decide +kernel
theorem dX7_shareByte_63 : decode cX7_shareByte 63 = .ok (.iconst 0, 1) := by decide +kernel
theorem dX7_shareByte_64 : decode cX7_shareByte 64 = .ok (.ireturn, 1) := by decide +kernel
theorem dX7_fitWith_0 : decode cX7_fitWith 0 = .ok (.iconst 0, 1) := by decide +kernel
theorem dX7_fitWith_1 : decode cX7_fitWith 1 = .ok (.istore_n 2, 1) := by decide +kernel
theorem dX7_fitWith_2 : decode cX7_fitWith 2 = .ok (.iload_n 2, 1) := by decide +kernel
theorem dX7_fitWith_3 : decode cX7_fitWith 3 = .ok (.aload_n 0, 1) := by decide +kernel
theorem dX7_fitWith_4 : decode cX7_fitWith 4 = .ok (.getfield 24, 3) := by decide +kernel
theorem dX7_fitWith_7 : decode cX7_fitWith 7 = .ok (.if_icmp .ge 55, 3) := by decide +kernel
theorem dX7_fitWith_10 : decode cX7_fitWith 10 = .ok (.aload_n 0, 1) := by decide +kernel
theorem dX7_fitWith_11 : decode cX7_fitWith 11 = .ok (.getfield 9, 3) := by decide +kernel
theorem dX7_fitWith_14 : decode cX7_fitWith 14 = .ok (.iload_n 2, 1) := by decide +kernel
theorem dX7_fitWith_15 : decode cX7_fitWith 15 = .ok (.iaload, 1) := by decide +kernel
theorem dX7_fitWith_16 : decode cX7_fitWith 16 = .ok (.i2l, 1) := by decide +kernel
theorem dX7_fitWith_17 : decode cX7_fitWith 17 = .ok (.iload_n 1, 1) := by decide +kernel
theorem dX7_fitWith_18 : decode cX7_fitWith 18 = .ok (.i2l, 1) := by decide +kernel
theorem dX7_fitWith_19 : decode cX7_fitWith 19 = .ok (.ladd, 1) := by decide +kernel
theorem dX7_fitWith_20 : decode cX7_fitWith 20 = .ok (.lstore_n 3, 1) := by decide +kernel
theorem dX7_fitWith_21 : decode cX7_fitWith 21 = .ok (.aload_n 0, 1) := by decide +kernel
theorem dX7_fitWith_22 : decode cX7_fitWith 22 = .ok (.getfield 15, 3) := by decide +kernel
theorem dX7_fitWith_25 : decode cX7_fitWith 25 = .ok (.iload_n 2, 1) := by decide +kernel
theorem dX7_fitWith_26 : decode cX7_fitWith 26 = .ok (.iaload, 1) := by decide +kernel
theorem dX7_fitWith_27 : decode cX7_fitWith 27 = .ok (.ifCond .le 29, 3) := by decide +kernel
theorem dX7_fitWith_30 : decode cX7_fitWith 30 = .ok (.lload_n 3, 1) := by decide +kernel
theorem dX7_fitWith_31 : decode cX7_fitWith 31 = .ok (.lconst 0, 1) := by decide +kernel
theorem dX7_fitWith_32 : decode cX7_fitWith 32 = .ok (.lcmp, 1) := by decide +kernel
theorem dX7_fitWith_33 : decode cX7_fitWith 33 = .ok (.ifCond .lt 21, 3) := by decide +kernel
theorem dX7_fitWith_36 : decode cX7_fitWith 36 = .ok (.lload_n 3, 1) := by decide +kernel
theorem dX7_fitWith_37 : decode cX7_fitWith 37 = .ok (.aload_n 0, 1) := by decide +kernel
theorem dX7_fitWith_38 : decode cX7_fitWith 38 = .ok (.getfield 15, 3) := by decide +kernel
theorem dX7_fitWith_41 : decode cX7_fitWith 41 = .ok (.iload_n 2, 1) := by decide +kernel
theorem dX7_fitWith_42 : decode cX7_fitWith 42 = .ok (.iaload, 1) := by decide +kernel
theorem dX7_fitWith_43 : decode cX7_fitWith 43 = .ok (.i2l, 1) := by decide +kernel
theorem dX7_fitWith_44 : decode cX7_fitWith 44 = .ok (.ladd, 1) := by decide +kernel
theorem dX7_fitWith_45 : decode cX7_fitWith 45 = .ok (.lconst 1, 1) := by decide +kernel
theorem dX7_fitWith_46 : decode cX7_fitWith 46 = .ok (.lsub, 1) := by decide +kernel
theorem dX7_fitWith_47 : decode cX7_fitWith 47 = .ok (.ldc2_w 37, 3) := by decide +kernel
theorem dX7_fitWith_50 : decode cX7_fitWith 50 = .ok (.lcmp, 1) := by decide +kernel
theorem dX7_fitWith_51 : decode cX7_fitWith 51 = .ok (.ifCond .le 5, 3) := by decide +kernel
theorem dX7_fitWith_54 : decode cX7_fitWith 54 = .ok (.iconst 0, 1) := by decide +kernel
theorem dX7_fitWith_55 : decode cX7_fitWith 55 = .ok (.ireturn, 1) := by decide +kernel
theorem dX7_fitWith_56 : decode cX7_fitWith 56 = .ok (.iinc 2 1, 3) := by decide +kernel
theorem dX7_fitWith_59 : decode cX7_fitWith 59 = .ok (.goto (-57), 3) := by decide +kernel
theorem dX7_fitWith_62 : decode cX7_fitWith 62 = .ok (.iconst 1, 1) := by decide +kernel
theorem dX7_fitWith_63 : decode cX7_fitWith 63 = .ok (.ireturn, 1) := by decide +kernel
theorem dX7_placeOf_0 : decode cX7_placeOf 0 = .ok (.iconst 0, 1) := by decide +kernel
theorem dX7_placeOf_1 : decode cX7_placeOf 1 = .ok (.istore_n 3, 1) := by decide +kernel
theorem dX7_placeOf_2 : decode cX7_placeOf 2 = .ok (.iload_n 3, 1) := by decide +kernel
theorem dX7_placeOf_3 : decode cX7_placeOf 3 = .ok (.aload_n 0, 1) := by decide +kernel
theorem dX7_placeOf_4 : decode cX7_placeOf 4 = .ok (.getfield 24, 3) := by decide +kernel
theorem dX7_placeOf_7 : decode cX7_placeOf 7 = .ok (.if_icmp .ge 55, 3) := by decide +kernel
theorem dX7_placeOf_10 : decode cX7_placeOf 10 = .ok (.iload_n 1, 1) := by decide +kernel
theorem dX7_placeOf_11 : decode cX7_placeOf 11 = .ok (.i2l, 1) := by decide +kernel
theorem dX7_placeOf_12 : decode cX7_placeOf 12 = .ok (.aload_n 0, 1) := by decide +kernel
theorem dX7_placeOf_13 : decode cX7_placeOf 13 = .ok (.getfield 9, 3) := by decide +kernel
theorem dX7_placeOf_16 : decode cX7_placeOf 16 = .ok (.iload_n 3, 1) := by decide +kernel
theorem dX7_placeOf_17 : decode cX7_placeOf 17 = .ok (.iaload, 1) := by decide +kernel
theorem dX7_placeOf_18 : decode cX7_placeOf 18 = .ok (.i2l, 1) := by decide +kernel
theorem dX7_placeOf_19 : decode cX7_placeOf 19 = .ok (.lsub, 1) := by decide +kernel
theorem dX7_placeOf_20 : decode cX7_placeOf 20 = .ok (.lstore 4, 2) := by decide +kernel
theorem dX7_placeOf_22 : decode cX7_placeOf 22 = .ok (.lload 4, 2) := by decide +kernel
theorem dX7_placeOf_24 : decode cX7_placeOf 24 = .ok (.lconst 0, 1) := by decide +kernel
theorem dX7_placeOf_25 : decode cX7_placeOf 25 = .ok (.lcmp, 1) := by decide +kernel
theorem dX7_placeOf_26 : decode cX7_placeOf 26 = .ok (.ifCond .lt 30, 3) := by decide +kernel
theorem dX7_placeOf_29 : decode cX7_placeOf 29 = .ok (.lload 4, 2) := by decide +kernel
theorem dX7_placeOf_31 : decode cX7_placeOf 31 = .ok (.iload_n 2, 1) := by decide +kernel
theorem dX7_placeOf_32 : decode cX7_placeOf 32 = .ok (.i2l, 1) := by decide +kernel
theorem dX7_placeOf_33 : decode cX7_placeOf 33 = .ok (.ladd, 1) := by decide +kernel
theorem dX7_placeOf_34 : decode cX7_placeOf 34 = .ok (.aload_n 0, 1) := by decide +kernel
theorem dX7_placeOf_35 : decode cX7_placeOf 35 = .ok (.getfield 15, 3) := by decide +kernel
theorem dX7_placeOf_38 : decode cX7_placeOf 38 = .ok (.iload_n 3, 1) := by decide +kernel
theorem dX7_placeOf_39 : decode cX7_placeOf 39 = .ok (.iaload, 1) := by decide +kernel
theorem dX7_placeOf_40 : decode cX7_placeOf 40 = .ok (.i2l, 1) := by decide +kernel
theorem dX7_placeOf_41 : decode cX7_placeOf 41 = .ok (.lcmp, 1) := by decide +kernel
theorem dX7_placeOf_42 : decode cX7_placeOf 42 = .ok (.ifCond .gt 14, 3) := by decide +kernel
theorem dX7_placeOf_45 : decode cX7_placeOf 45 = .ok (.aload_n 0, 1) := by decide +kernel
theorem dX7_placeOf_46 : decode cX7_placeOf 46 = .ok (.getfield 18, 3) := by decide +kernel
theorem dX7_placeOf_49 : decode cX7_placeOf 49 = .ok (.iload_n 3, 1) := by decide +kernel
theorem dX7_placeOf_50 : decode cX7_placeOf 50 = .ok (.iaload, 1) := by decide +kernel
theorem dX7_placeOf_51 : decode cX7_placeOf 51 = .ok (.lload 4, 2) := by decide +kernel
theorem dX7_placeOf_53 : decode cX7_placeOf 53 = .ok (.l2i, 1) := by decide +kernel
theorem dX7_placeOf_54 : decode cX7_placeOf 54 = .ok (.iadd, 1) := by decide +kernel
theorem dX7_placeOf_55 : decode cX7_placeOf 55 = .ok (.ireturn, 1) := by decide +kernel
theorem dX7_placeOf_56 : decode cX7_placeOf 56 = .ok (.iinc 3 1, 3) := by decide +kernel
theorem dX7_placeOf_59 : decode cX7_placeOf 59 = .ok (.goto (-57), 3) := by decide +kernel
theorem dX7_placeOf_62 : decode cX7_placeOf 62 = .ok (.iconst (-1), 1) := by decide +kernel
theorem dX7_placeOf_63 : decode cX7_placeOf 63 = .ok (.ireturn, 1) := by decide +kernel
theorem dX7_pointerBits_0 : decode cX7_pointerBits 0 = .ok (.lconst 0, 1) := by decide +kernel
theorem dX7_pointerBits_1 : decode cX7_pointerBits 1 = .ok (.lstore 4, 2) := by decide +kernel
theorem dX7_pointerBits_3 : decode cX7_pointerBits 3 = .ok (.iload_n 3, 1) := by decide +kernel
theorem dX7_pointerBits_4 : decode cX7_pointerBits 4 = .ok (.bipush 8, 2) := by decide +kernel
theorem dX7_pointerBits_6 : decode cX7_pointerBits 6 = .ok (.iadd, 1) := by decide +kernel
theorem dX7_pointerBits_7 : decode cX7_pointerBits 7 = .ok (.iconst 1, 1) := by decide +kernel
theorem dX7_pointerBits_8 : decode cX7_pointerBits 8 = .ok (.isub, 1) := by decide +kernel
theorem dX7_pointerBits_9 : decode cX7_pointerBits 9 = .ok (.istore 6, 2) := by decide +kernel
theorem dX7_pointerBits_11 : decode cX7_pointerBits 11 = .ok (.iload 6, 2) := by decide +kernel
theorem dX7_pointerBits_13 : decode cX7_pointerBits 13 = .ok (.iload_n 3, 1) := by decide +kernel
theorem dX7_pointerBits_14 : decode cX7_pointerBits 14 = .ok (.if_icmp .lt 46, 3) := by decide +kernel
theorem dX7_pointerBits_17 : decode cX7_pointerBits 17 = .ok (.lload 4, 2) := by decide +kernel
theorem dX7_pointerBits_19 : decode cX7_pointerBits 19 = .ok (.bipush 8, 2) := by decide +kernel
theorem dX7_pointerBits_21 : decode cX7_pointerBits 21 = .ok (.lshl, 1) := by decide +kernel
theorem dX7_pointerBits_22 : decode cX7_pointerBits 22 = .ok (.iload 6, 2) := by decide +kernel
theorem dX7_pointerBits_24 : decode cX7_pointerBits 24 = .ok (.aload_n 0, 1) := by decide +kernel
theorem dX7_pointerBits_25 : decode cX7_pointerBits 25 = .ok (.getfield 21, 3) := by decide +kernel
theorem dX7_pointerBits_28 : decode cX7_pointerBits 28 = .ok (.iload_n 2, 1) := by decide +kernel
theorem dX7_pointerBits_29 : decode cX7_pointerBits 29 = .ok (.iaload, 1) := by decide +kernel
theorem dX7_pointerBits_30 : decode cX7_pointerBits 30 = .ok (.if_icmp .ge 19, 3) := by decide +kernel
theorem dX7_pointerBits_33 : decode cX7_pointerBits 33 = .ok (.aload_n 1, 1) := by decide +kernel
theorem dX7_pointerBits_34 : decode cX7_pointerBits 34 = .ok (.aload_n 0, 1) := by decide +kernel
theorem dX7_pointerBits_35 : decode cX7_pointerBits 35 = .ok (.getfield 18, 3) := by decide +kernel
theorem dX7_pointerBits_38 : decode cX7_pointerBits 38 = .ok (.iload_n 2, 1) := by decide +kernel
theorem dX7_pointerBits_39 : decode cX7_pointerBits 39 = .ok (.iaload, 1) := by decide +kernel
theorem dX7_pointerBits_40 : decode cX7_pointerBits 40 = .ok (.iload 6, 2) := by decide +kernel
theorem dX7_pointerBits_42 : decode cX7_pointerBits 42 = .ok (.iadd, 1) := by decide +kernel
theorem dX7_pointerBits_43 : decode cX7_pointerBits 43 = .ok (.invokevirtual 39, 3) := by decide +kernel
theorem dX7_pointerBits_46 : decode cX7_pointerBits 46 = .ok (.goto 4, 3) := by decide +kernel
theorem dX7_pointerBits_49 : decode cX7_pointerBits 49 = .ok (.iconst 0, 1) := by decide +kernel
theorem dX7_pointerBits_50 : decode cX7_pointerBits 50 = .ok (.i2l, 1) := by decide +kernel
theorem dX7_pointerBits_51 : decode cX7_pointerBits 51 = .ok (.lor, 1) := by decide +kernel
theorem dX7_pointerBits_52 : decode cX7_pointerBits 52 = .ok (.lstore 4, 2) := by decide +kernel
theorem dX7_pointerBits_54 : decode cX7_pointerBits 54 = .ok (.iinc 6 (-1), 3) := by decide +kernel
theorem dX7_pointerBits_57 : decode cX7_pointerBits 57 = .ok (.goto (-46), 3) := by decide +kernel
theorem dX7_pointerBits_60 : decode cX7_pointerBits 60 = .ok (.lload 4, 2) := by decide +kernel
theorem dX7_pointerBits_62 : decode cX7_pointerBits 62 = .ok (.lreturn, 1) := by decide +kernel
theorem dX8_init_0 : decode cX8_init 0 = .ok (.aload_n 0, 1) := by decide +kernel
theorem dX8_init_1 : decode cX8_init 1 = .ok (.invokespecial 3, 3) := by decide +kernel
theorem dX8_init_4 : decode cX8_init 4 = .ok (.aload_n 0, 1) := by decide +kernel
theorem dX8_init_5 : decode cX8_init 5 = .ok (.ldc 9, 2) := by decide +kernel
theorem dX8_init_7 : decode cX8_init 7 = .ok (.putfield 10, 3) := by decide +kernel
theorem dX8_init_10 : decode cX8_init 10 = .ok (.aload_n 0, 1) := by decide +kernel
theorem dX8_init_11 : decode cX8_init 11 = .ok (.sipush 256, 3) := by decide +kernel
theorem dX8_init_14 : decode cX8_init 14 = .ok (.putfield 16, 3) := by decide +kernel
theorem dX8_init_17 : decode cX8_init 17 = .ok (.aload_n 0, 1) := by decide +kernel
theorem dX8_init_18 : decode cX8_init 18 = .ok (.new 19, 3) := by decide +kernel
theorem dX8_init_21 : decode cX8_init 21 = .ok (.dup, 1) := by decide +kernel
theorem dX8_init_22 : decode cX8_init 22 = .ok (.iconst 4, 1) := by decide +kernel
theorem dX8_init_23 : decode cX8_init 23 = .ok (.invokespecial 21, 3) := by decide +kernel
theorem dX8_init_26 : decode cX8_init 26 = .ok (.putfield 24, 3) := by decide +kernel
theorem dX8_init_29 : decode cX8_init 29 = .ok (.aload_n 0, 1) := by decide +kernel
theorem dX8_init_30 : decode cX8_init 30 = .ok (.iconst 4, 1) := by decide +kernel
theorem dX8_init_31 : decode cX8_init 31 = .ok (.newarray .int, 2) := by decide +kernel
theorem dX8_init_33 : decode cX8_init 33 = .ok (.putfield 28, 3) := by decide +kernel
theorem dX8_init_36 : decode cX8_init 36 = .ok (.aload_n 0, 1) := by decide +kernel
theorem dX8_init_37 : decode cX8_init 37 = .ok (.iconst 4, 1) := by decide +kernel
theorem dX8_init_38 : decode cX8_init 38 = .ok (.newarray .int, 2) := by decide +kernel
theorem dX8_init_40 : decode cX8_init 40 = .ok (.putfield 32, 3) := by decide +kernel
theorem dX8_init_43 : decode cX8_init 43 = .ok (.aload_n 0, 1) := by decide +kernel
theorem dX8_init_44 : decode cX8_init 44 = .ok (.sipush 4096, 3) := by decide +kernel
theorem dX8_init_47 : decode cX8_init 47 = .ok (.newarray .byte, 2) := by decide +kernel
theorem dX8_init_49 : decode cX8_init 49 = .ok (.putfield 35, 3) := by decide +kernel
theorem dX8_init_52 : decode cX8_init 52 = .ok (.aload_n 0, 1) := by decide +kernel
theorem dX8_init_53 : decode cX8_init 53 = .ok (.new 19, 3) := by decide +kernel
theorem dX8_init_56 : decode cX8_init 56 = .ok (.dup, 1) := by decide +kernel
theorem dX8_init_57 : decode cX8_init 57 = .ok (.bipush 8, 2) := by decide +kernel
theorem dX8_init_59 : decode cX8_init 59 = .ok (.invokespecial 21, 3) := by decide +kernel
theorem dX8_init_62 : decode cX8_init 62 = .ok (.putfield 39, 3) := by decide +kernel
theorem dX8_init_65 : decode cX8_init 65 = .ok (.aload_n 0, 1) := by decide +kernel
theorem dX8_init_66 : decode cX8_init 66 = .ok (.bipush 8, 2) := by decide +kernel
theorem dX8_init_68 : decode cX8_init 68 = .ok (.newarray .int, 2) := by decide +kernel
theorem dX8_init_70 : decode cX8_init 70 = .ok (.putfield 42, 3) := by decide +kernel
theorem dX8_init_73 : decode cX8_init 73 = .ok (.aload_n 0, 1) := by decide +kernel
theorem dX8_init_74 : decode cX8_init 74 = .ok (.bipush 8, 2) := by decide +kernel
theorem dX8_init_76 : decode cX8_init 76 = .ok (.newarray .int, 2) := by decide +kernel
theorem dX8_init_78 : decode cX8_init 78 = .ok (.putfield 45, 3) := by decide +kernel
theorem dX8_init_81 : decode cX8_init 81 = .ok (.aload_n 0, 1) := by decide +kernel
theorem dX8_init_82 : decode cX8_init 82 = .ok (.bipush 8, 2) := by decide +kernel
theorem dX8_init_84 : decode cX8_init 84 = .ok (.newarray .int, 2) := by decide +kernel
theorem dX8_init_86 : decode cX8_init 86 = .ok (.putfield 48, 3) := by decide +kernel
theorem dX8_init_89 : decode cX8_init 89 = .ok (.aload_n 0, 1) := by decide +kernel
theorem dX8_init_90 : decode cX8_init 90 = .ok (.new 19, 3) := by decide +kernel
theorem dX8_init_93 : decode cX8_init 93 = .ok (.dup, 1) := by decide +kernel
theorem dX8_init_94 : decode cX8_init 94 = .ok (.bipush 20, 2) := by decide +kernel
theorem dX8_init_96 : decode cX8_init 96 = .ok (.invokespecial 21, 3) := by decide +kernel
theorem dX8_init_99 : decode cX8_init 99 = .ok (.putfield 51, 3) := by decide +kernel
theorem dX8_init_102 : decode cX8_init 102 = .ok (.aload_n 0, 1) := by decide +kernel
theorem dX8_init_103 : decode cX8_init 103 = .ok (.bipush 20, 2) := by decide +kernel
theorem dX8_init_105 : decode cX8_init 105 = .ok (.newarray .int, 2) := by decide +kernel
theorem dX8_init_107 : decode cX8_init 107 = .ok (.putfield 54, 3) := by decide +kernel
theorem dX8_init_110 : decode cX8_init 110 = .ok (.aload_n 0, 1) := by decide +kernel
theorem dX8_init_111 : decode cX8_init 111 = .ok (.bipush 20, 2) := by decide +kernel
theorem dX8_init_113 : decode cX8_init 113 = .ok (.newarray .int, 2) := by decide +kernel
theorem dX8_init_115 : decode cX8_init 115 = .ok (.putfield 57, 3) := by decide +kernel
theorem dX8_init_118 : decode cX8_init 118 = .ok (.aload_n 0, 1) := by decide +kernel
theorem dX8_init_119 : decode cX8_init 119 = .ok (.new 19, 3) := by decide +kernel
theorem dX8_init_122 : decode cX8_init 122 = .ok (.dup, 1) := by decide +kernel
theorem dX8_init_123 : decode cX8_init 123 = .ok (.bipush 20, 2) := by decide +kernel
theorem dX8_init_125 : decode cX8_init 125 = .ok (.invokespecial 21, 3) := by decide +kernel
theorem dX8_init_128 : decode cX8_init 128 = .ok (.putfield 60, 3) := by decide +kernel
theorem dX8_init_131 : decode cX8_init 131 = .ok (.aload_n 0, 1) := by decide +kernel
theorem dX8_init_132 : decode cX8_init 132 = .ok (.bipush 20, 2) := by decide +kernel
theorem dX8_init_134 : decode cX8_init 134 = .ok (.newarray .int, 2) := by decide +kernel
theorem dX8_init_136 : decode cX8_init 136 = .ok (.putfield 63, 3) := by decide +kernel
theorem dX8_init_139 : decode cX8_init 139 = .ok (.aload_n 0, 1) := by decide +kernel
theorem dX8_init_140 : decode cX8_init 140 = .ok (.bipush 20, 2) := by decide +kernel
theorem dX8_init_142 : decode cX8_init 142 = .ok (.newarray .boolean, 2) := by decide +kernel
theorem dX8_init_144 : decode cX8_init 144 = .ok (.putfield 66, 3) := by decide +kernel
theorem dX8_init_147 : decode cX8_init 147 = .ok (.aload_n 0, 1) := by decide +kernel
theorem dX8_init_148 : decode cX8_init 148 = .ok (.sipush 1024, 3) := by decide +kernel
theorem dX8_init_151 : decode cX8_init 151 = .ok (.newarray .boolean, 2) := by decide +kernel
theorem dX8_init_153 : decode cX8_init 153 = .ok (.putfield 70, 3) := by decide +kernel
theorem dX8_init_156 : decode cX8_init 156 = .ok (.aload_n 0, 1) := by decide +kernel
theorem dX8_init_157 : decode cX8_init 157 = .ok (.sipush 1024, 3) := by decide +kernel
theorem dX8_init_160 : decode cX8_init 160 = .ok (.newarray .long, 2) := by decide +kernel
theorem dX8_init_162 : decode cX8_init 162 = .ok (.putfield 73, 3) := by decide +kernel
theorem dX8_init_165 : decode cX8_init 165 = .ok (.aload_n 0, 1) := by decide +kernel
theorem dX8_init_166 : decode cX8_init 166 = .ok (.iconst 0, 1) := by decide +kernel
theorem dX8_init_167 : decode cX8_init 167 = .ok (.putfield 77, 3) := by decide +kernel
theorem dX8_init_170 : decode cX8_init 170 = .ok (.return_, 1) := by decide +kernel
theorem dX8_forget_0 : decode cX8_forget 0 = .ok (.aload_n 0, 1) := by decide +kernel
theorem dX8_forget_1 : decode cX8_forget 1 = .ok (.iload_n 1, 1) := by decide +kernel
theorem dX8_forget_2 : decode cX8_forget 2 = .ok (.putfield 10, 3) := by decide +kernel
theorem dX8_forget_5 : decode cX8_forget 5 = .ok (.aload_n 0, 1) := by decide +kernel
theorem dX8_forget_6 : decode cX8_forget 6 = .ok (.iload_n 2, 1) := by decide +kernel
theorem dX8_forget_7 : decode cX8_forget 7 = .ok (.putfield 16, 3) := by decide +kernel
theorem dX8_forget_10 : decode cX8_forget 10 = .ok (.aload_n 0, 1) := by decide +kernel
theorem dX8_forget_11 : decode cX8_forget 11 = .ok (.getfield 24, 3) := by decide +kernel
theorem dX8_forget_14 : decode cX8_forget 14 = .ok (.invokevirtual 80, 3) := by decide +kernel
theorem dX8_forget_17 : decode cX8_forget 17 = .ok (.aload_n 0, 1) := by decide +kernel
theorem dX8_forget_18 : decode cX8_forget 18 = .ok (.getfield 39, 3) := by decide +kernel
theorem dX8_forget_21 : decode cX8_forget 21 = .ok (.invokevirtual 80, 3) := by decide +kernel
theorem dX8_forget_24 : decode cX8_forget 24 = .ok (.aload_n 0, 1) := by decide +kernel
theorem dX8_forget_25 : decode cX8_forget 25 = .ok (.getfield 51, 3) := by decide +kernel
theorem dX8_forget_28 : decode cX8_forget 28 = .ok (.invokevirtual 80, 3) := by decide +kernel
theorem dX8_forget_31 : decode cX8_forget 31 = .ok (.aload_n 0, 1) := by decide +kernel
theorem dX8_forget_32 : decode cX8_forget 32 = .ok (.getfield 60, 3) := by decide +kernel
theorem dX8_forget_35 : decode cX8_forget 35 = .ok (.invokevirtual 80, 3) := by decide +kernel
theorem dX8_forget_38 : decode cX8_forget 38 = .ok (.iconst 0, 1) := by decide +kernel
theorem dX8_forget_39 : decode cX8_forget 39 = .ok (.istore_n 3, 1) := by decide +kernel
theorem dX8_forget_40 : decode cX8_forget 40 = .ok (.iload_n 3, 1) := by decide +kernel
theorem dX8_forget_41 : decode cX8_forget 41 = .ok (.aload_n 0, 1) := by decide +kernel
theorem dX8_forget_42 : decode cX8_forget 42 = .ok (.getfield 70, 3) := by decide +kernel
theorem dX8_forget_45 : decode cX8_forget 45 = .ok (.arraylength, 1) := by decide +kernel
theorem dX8_forget_46 : decode cX8_forget 46 = .ok (.if_icmp .ge 16, 3) := by decide +kernel
theorem dX8_forget_49 : decode cX8_forget 49 = .ok (.aload_n 0, 1) := by decide +kernel
theorem dX8_forget_50 : decode cX8_forget 50 = .ok (.getfield 70, 3) := by decide +kernel
theorem dX8_forget_53 : decode cX8_forget 53 = .ok (.iload_n 3, 1) := by decide +kernel
theorem dX8_forget_54 : decode cX8_forget 54 = .ok (.iconst 0, 1) := by decide +kernel
theorem dX8_forget_55 : decode cX8_forget 55 = .ok (.bastore, 1) := by decide +kernel
theorem dX8_forget_56 : decode cX8_forget 56 = .ok (.iinc 3 1, 3) := by decide +kernel
theorem dX8_forget_59 : decode cX8_forget 59 = .ok (.goto (-19), 3) := by decide +kernel
theorem dX8_forget_62 : decode cX8_forget 62 = .ok (.aload_n 0, 1) := by decide +kernel
theorem dX8_forget_63 : decode cX8_forget 63 = .ok (.iconst 0, 1) := by decide +kernel
theorem dX8_forget_64 : decode cX8_forget 64 = .ok (.putfield 77, 3) := by decide +kernel
theorem dX8_forget_67 : decode cX8_forget 67 = .ok (.return_, 1) := by decide +kernel
theorem dX8_addSegment_0 : decode cX8_addSegment 0 = .ok (.aload_n 0, 1) := by decide +kernel
theorem dX8_addSegment_1 : decode cX8_addSegment 1 = .ok (.getfield 24, 3) := by decide +kernel
theorem dX8_addSegment_4 : decode cX8_addSegment 4 = .ok (.aload_n 1, 1) := by decide +kernel
theorem dX8_addSegment_5 : decode cX8_addSegment 5 = .ok (.invokevirtual 83, 3) := by decide +kernel
theorem dX8_addSegment_8 : decode cX8_addSegment 8 = .ok (.ifCond .eq 25, 3) := by decide +kernel
theorem dX8_addSegment_11 : decode cX8_addSegment 11 = .ok (.iload_n 2, 1) := by decide +kernel
theorem dX8_addSegment_12 : decode cX8_addSegment 12 = .ok (.iconst 1, 1) := by decide +kernel
theorem dX8_addSegment_13 : decode cX8_addSegment 13 = .ok (.if_icmp .lt 20, 3) := by decide +kernel
theorem dX8_addSegment_16 : decode cX8_addSegment 16 = .ok (.iload_n 2, 1) := by decide +kernel
theorem dX8_addSegment_17 : decode cX8_addSegment 17 = .ok (.sipush 1024, 3) := by decide +kernel
theorem dX8_addSegment_20 : decode cX8_addSegment 20 = .ok (.if_icmp .gt 13, 3) := by decide +kernel
theorem dX8_addSegment_23 : decode cX8_addSegment 23 = .ok (.iload_n 3, 1) := by decide +kernel
theorem dX8_addSegment_24 : decode cX8_addSegment 24 = .ok (.ifCond .lt 9, 3) := by decide +kernel
theorem dX8_addSegment_27 : decode cX8_addSegment 27 = .ok (.iload_n 3, 1) := by decide +kernel
theorem dX8_addSegment_28 : decode cX8_addSegment 28 = .ok (.bipush 7, 2) := by decide +kernel
theorem dX8_addSegment_30 : decode cX8_addSegment 30 = .ok (.if_icmp .le 5, 3) := by decide +kernel
theorem dX8_addSegment_33 : decode cX8_addSegment 33 = .ok (.iconst (-1), 1) := by decide +kernel
theorem dX8_addSegment_34 : decode cX8_addSegment 34 = .ok (.ireturn, 1) := by decide +kernel
theorem dX8_addSegment_35 : decode cX8_addSegment 35 = .ok (.aload_n 0, 1) := by decide +kernel
theorem dX8_addSegment_36 : decode cX8_addSegment 36 = .ok (.getfield 24, 3) := by decide +kernel
theorem dX8_addSegment_39 : decode cX8_addSegment 39 = .ok (.aload_n 1, 1) := by decide +kernel
theorem dX8_addSegment_40 : decode cX8_addSegment 40 = .ok (.invokevirtual 87, 3) := by decide +kernel
theorem dX8_addSegment_43 : decode cX8_addSegment 43 = .ok (.istore 4, 2) := by decide +kernel
theorem dX8_addSegment_45 : decode cX8_addSegment 45 = .ok (.aload_n 0, 1) := by decide +kernel
theorem dX8_addSegment_46 : decode cX8_addSegment 46 = .ok (.getfield 28, 3) := by decide +kernel
theorem dX8_addSegment_49 : decode cX8_addSegment 49 = .ok (.iload 4, 2) := by decide +kernel
theorem dX8_addSegment_51 : decode cX8_addSegment 51 = .ok (.iload_n 2, 1) := by decide +kernel
theorem dX8_addSegment_52 : decode cX8_addSegment 52 = .ok (.iastore, 1) := by decide +kernel
theorem dX8_addSegment_53 : decode cX8_addSegment 53 = .ok (.aload_n 0, 1) := by decide +kernel
theorem dX8_addSegment_54 : decode cX8_addSegment 54 = .ok (.getfield 32, 3) := by decide +kernel
theorem dX8_addSegment_57 : decode cX8_addSegment 57 = .ok (.iload 4, 2) := by decide +kernel
theorem dX8_addSegment_59 : decode cX8_addSegment 59 = .ok (.iload_n 3, 1) := by decide +kernel
theorem dX8_addSegment_60 : decode cX8_addSegment 60 = .ok (.iastore, 1) := by decide +kernel
theorem dX8_addSegment_61 : decode cX8_addSegment 61 = .ok (.aload_n 0, 1) := by decide +kernel
theorem dX8_addSegment_62 : decode cX8_addSegment 62 = .ok (.getfield 35, 3) := by decide +kernel
theorem dX8_addSegment_65 : decode cX8_addSegment 65 = .ok (.iload 4, 2) := by decide +kernel
theorem dX8_addSegment_67 : decode cX8_addSegment 67 = .ok (.sipush 1024, 3) := by decide +kernel
theorem dX8_addSegment_70 : decode cX8_addSegment 70 = .ok (.imul, 1) := by decide +kernel
theorem dX8_addSegment_71 : decode cX8_addSegment 71 = .ok (.iload 4, 2) := by decide +kernel
theorem dX8_addSegment_73 : decode cX8_addSegment 73 = .ok (.iconst 1, 1) := by decide +kernel
theorem dX8_addSegment_74 : decode cX8_addSegment 74 = .ok (.iadd, 1) := by decide +kernel
theorem dX8_addSegment_75 : decode cX8_addSegment 75 = .ok (.sipush 1024, 3) := by decide +kernel
theorem dX8_addSegment_78 : decode cX8_addSegment 78 = .ok (.imul, 1) := by decide +kernel
theorem dX8_addSegment_79 : decode cX8_addSegment 79 = .ok (.iconst 0, 1) := by decide +kernel
theorem dX8_addSegment_80 : decode cX8_addSegment 80 = .ok (.invokestatic 91, 3) := by decide +kernel
theorem dX8_addSegment_83 : decode cX8_addSegment 83 = .ok (.iload 4, 2) := by decide +kernel
theorem dX8_addSegment_85 : decode cX8_addSegment 85 = .ok (.ireturn, 1) := by decide +kernel
theorem dX8_setContents_0 : decode cX8_setContents 0 = .ok (.aload_n 0, 1) := by decide +kernel
theorem dX8_setContents_1 : decode cX8_setContents 1 = .ok (.getfield 24, 3) := by decide +kernel
theorem dX8_setContents_4 : decode cX8_setContents 4 = .ok (.iload_n 2, 1) := by decide +kernel
theorem dX8_setContents_5 : decode cX8_setContents 5 = .ok (.invokevirtual 97, 3) := by decide +kernel
theorem dX8_setContents_8 : decode cX8_setContents 8 = .ok (.ifCond .eq 22, 3) := by decide +kernel
theorem dX8_setContents_11 : decode cX8_setContents 11 = .ok (.iload_n 3, 1) := by decide +kernel
theorem dX8_setContents_12 : decode cX8_setContents 12 = .ok (.ifCond .lt 18, 3) := by decide +kernel
theorem dX8_setContents_15 : decode cX8_setContents 15 = .ok (.iload_n 3, 1) := by decide +kernel
theorem dX8_setContents_16 : decode cX8_setContents 16 = .ok (.aload_n 0, 1) := by decide +kernel
theorem dX8_setContents_17 : decode cX8_setContents 17 = .ok (.getfield 28, 3) := by decide +kernel
theorem dX8_setContents_20 : decode cX8_setContents 20 = .ok (.iload_n 2, 1) := by decide +kernel
theorem dX8_setContents_21 : decode cX8_setContents 21 = .ok (.iaload, 1) := by decide +kernel
theorem dX8_setContents_22 : decode cX8_setContents 22 = .ok (.aload_n 1, 1) := by decide +kernel
theorem dX8_setContents_23 : decode cX8_setContents 23 = .ok (.getfield 101, 3) := by decide +kernel
theorem dX8_setContents_26 : decode cX8_setContents 26 = .ok (.isub, 1) := by decide +kernel
theorem dX8_setContents_27 : decode cX8_setContents 27 = .ok (.if_icmp .le 5, 3) := by decide +kernel
theorem dX8_setContents_30 : decode cX8_setContents 30 = .ok (.iconst 0, 1) := by decide +kernel
theorem dX8_setContents_31 : decode cX8_setContents 31 = .ok (.ireturn, 1) := by decide +kernel
theorem dX8_setContents_32 : decode cX8_setContents 32 = .ok (.aload_n 1, 1) := by decide +kernel
theorem dX8_setContents_33 : decode cX8_setContents 33 = .ok (.getfield 106, 3) := by decide +kernel
theorem dX8_setContents_36 : decode cX8_setContents 36 = .ok (.iconst 0, 1) := by decide +kernel
theorem dX8_setContents_37 : decode cX8_setContents 37 = .ok (.aload_n 0, 1) := by decide +kernel
theorem dX8_setContents_38 : decode cX8_setContents 38 = .ok (.getfield 35, 3) := by decide +kernel
theorem dX8_setContents_41 : decode cX8_setContents 41 = .ok (.iload_n 2, 1) := by decide +kernel
theorem dX8_setContents_42 : decode cX8_setContents 42 = .ok (.sipush 1024, 3) := by decide +kernel
theorem dX8_setContents_45 : decode cX8_setContents 45 = .ok (.imul, 1) := by decide +kernel
theorem dX8_setContents_46 : decode cX8_setContents 46 = .ok (.iload_n 3, 1) := by decide +kernel
theorem dX8_setContents_47 : decode cX8_setContents 47 = .ok (.iadd, 1) := by decide +kernel
theorem dX8_setContents_48 : decode cX8_setContents 48 = .ok (.aload_n 1, 1) := by decide +kernel
theorem dX8_setContents_49 : decode cX8_setContents 49 = .ok (.getfield 101, 3) := by decide +kernel
theorem dX8_setContents_52 : decode cX8_setContents 52 = .ok (.invokestatic 109, 3) := by decide +kernel
theorem dX8_setContents_55 : decode cX8_setContents 55 = .ok (.iconst 1, 1) := by decide +kernel
theorem dX8_setContents_56 : decode cX8_setContents 56 = .ok (.ireturn, 1) := by decide +kernel
theorem dX8_addSection_0 : decode cX8_addSection 0 = .ok (.aload_n 0, 1) := by decide +kernel
theorem dX8_addSection_1 : decode cX8_addSection 1 = .ok (.getfield 39, 3) := by decide +kernel
theorem dX8_addSection_4 : decode cX8_addSection 4 = .ok (.aload_n 1, 1) := by decide +kernel
theorem dX8_addSection_5 : decode cX8_addSection 5 = .ok (.invokevirtual 83, 3) := by decide +kernel
theorem dX8_addSection_8 : decode cX8_addSection 8 = .ok (.ifCond .eq 14, 3) := by decide +kernel
theorem dX8_addSection_11 : decode cX8_addSection 11 = .ok (.aload_n 0, 1) := by decide +kernel
theorem dX8_addSection_12 : decode cX8_addSection 12 = .ok (.getfield 24, 3) := by decide +kernel
theorem dX8_addSection_15 : decode cX8_addSection 15 = .ok (.iload_n 2, 1) := by decide +kernel
theorem dX8_addSection_16 : decode cX8_addSection 16 = .ok (.invokevirtual 97, 3) := by decide +kernel
theorem dX8_addSection_19 : decode cX8_addSection 19 = .ok (.ifCond .ne 5, 3) := by decide +kernel
theorem dX8_addSection_22 : decode cX8_addSection 22 = .ok (.iconst (-1), 1) := by decide +kernel
theorem dX8_addSection_23 : decode cX8_addSection 23 = .ok (.ireturn, 1) := by decide +kernel
theorem dX8_addSection_24 : decode cX8_addSection 24 = .ok (.iload_n 3, 1) := by decide +kernel
theorem dX8_addSection_25 : decode cX8_addSection 25 = .ok (.ifCond .lt 25, 3) := by decide +kernel
theorem dX8_addSection_28 : decode cX8_addSection 28 = .ok (.iload 4, 2) := by decide +kernel
theorem dX8_addSection_30 : decode cX8_addSection 30 = .ok (.ifCond .lt 20, 3) := by decide +kernel
theorem dX8_addSection_33 : decode cX8_addSection 33 = .ok (.iload_n 3, 1) := by decide +kernel
theorem dX8_addSection_34 : decode cX8_addSection 34 = .ok (.i2l, 1) := by decide +kernel
theorem dX8_addSection_35 : decode cX8_addSection 35 = .ok (.iload 4, 2) := by decide +kernel
theorem dX8_addSection_37 : decode cX8_addSection 37 = .ok (.i2l, 1) := by decide +kernel
theorem dX8_addSection_38 : decode cX8_addSection 38 = .ok (.ladd, 1) := by decide +kernel
theorem dX8_addSection_39 : decode cX8_addSection 39 = .ok (.aload_n 0, 1) := by decide +kernel
theorem dX8_addSection_40 : decode cX8_addSection 40 = .ok (.getfield 28, 3) := by decide +kernel
theorem dX8_addSection_43 : decode cX8_addSection 43 = .ok (.iload_n 2, 1) := by decide +kernel
theorem dX8_addSection_44 : decode cX8_addSection 44 = .ok (.iaload, 1) := by decide +kernel
theorem dX8_addSection_45 : decode cX8_addSection 45 = .ok (.i2l, 1) := by decide +kernel
theorem dX8_addSection_46 : decode cX8_addSection 46 = .ok (.lcmp, 1) := by decide +kernel
theorem dX8_addSection_47 : decode cX8_addSection 47 = .ok (.ifCond .le 5, 3) := by decide +kernel
theorem dX8_addSection_50 : decode cX8_addSection 50 = .ok (.iconst (-1), 1) := by decide +kernel
theorem dX8_addSection_51 : decode cX8_addSection 51 = .ok (.ireturn, 1) := by decide +kernel
theorem dX8_addSection_52 : decode cX8_addSection 52 = .ok (.aload_n 0, 1) := by decide +kernel
theorem dX8_addSection_53 : decode cX8_addSection 53 = .ok (.getfield 39, 3) := by decide +kernel
theorem dX8_addSection_56 : decode cX8_addSection 56 = .ok (.aload_n 1, 1) := by decide +kernel
theorem dX8_addSection_57 : decode cX8_addSection 57 = .ok (.invokevirtual 87, 3) := by decide +kernel
theorem dX8_addSection_60 : decode cX8_addSection 60 = .ok (.istore 5, 2) := by decide +kernel
theorem dX8_addSection_62 : decode cX8_addSection 62 = .ok (.aload_n 0, 1) := by decide +kernel
theorem dX8_addSection_63 : decode cX8_addSection 63 = .ok (.getfield 42, 3) := by decide +kernel
theorem dX8_addSection_66 : decode cX8_addSection 66 = .ok (.iload 5, 2) := by decide +kernel
theorem dX8_addSection_68 : decode cX8_addSection 68 = .ok (.iload_n 2, 1) := by decide +kernel
theorem dX8_addSection_69 : decode cX8_addSection 69 = .ok (.iastore, 1) := by decide +kernel
theorem dX8_addSection_70 : decode cX8_addSection 70 = .ok (.aload_n 0, 1) := by decide +kernel
theorem dX8_addSection_71 : decode cX8_addSection 71 = .ok (.getfield 45, 3) := by decide +kernel
theorem dX8_addSection_74 : decode cX8_addSection 74 = .ok (.iload 5, 2) := by decide +kernel
theorem dX8_addSection_76 : decode cX8_addSection 76 = .ok (.iload_n 3, 1) := by decide +kernel
theorem dX8_addSection_77 : decode cX8_addSection 77 = .ok (.iastore, 1) := by decide +kernel
theorem dX8_addSection_78 : decode cX8_addSection 78 = .ok (.aload_n 0, 1) := by decide +kernel
theorem dX8_addSection_79 : decode cX8_addSection 79 = .ok (.getfield 48, 3) := by decide +kernel
theorem dX8_addSection_82 : decode cX8_addSection 82 = .ok (.iload 5, 2) := by decide +kernel
theorem dX8_addSection_84 : decode cX8_addSection 84 = .ok (.iload 4, 2) := by decide +kernel
theorem dX8_addSection_86 : decode cX8_addSection 86 = .ok (.iastore, 1) := by decide +kernel
theorem dX8_addSection_87 : decode cX8_addSection 87 = .ok (.iload 5, 2) := by decide +kernel
theorem dX8_addSection_89 : decode cX8_addSection 89 = .ok (.iconst 1, 1) := by decide +kernel
theorem dX8_addSection_90 : decode cX8_addSection 90 = .ok (.iadd, 1) := by decide +kernel
theorem dX8_addSection_91 : decode cX8_addSection 91 = .ok (.ireturn, 1) := by decide +kernel
theorem dX8_addSymbol_0 : decode cX8_addSymbol 0 = .ok (.aload_n 0, 1) := by decide +kernel
theorem dX8_addSymbol_1 : decode cX8_addSymbol 1 = .ok (.getfield 51, 3) := by decide +kernel
theorem dX8_addSymbol_4 : decode cX8_addSymbol 4 = .ok (.aload_n 1, 1) := by decide +kernel
theorem dX8_addSymbol_5 : decode cX8_addSymbol 5 = .ok (.invokevirtual 83, 3) := by decide +kernel
theorem dX8_addSymbol_8 : decode cX8_addSymbol 8 = .ok (.ifCond .eq 21, 3) := by decide +kernel
theorem dX8_addSymbol_11 : decode cX8_addSymbol 11 = .ok (.iload_n 2, 1) := by decide +kernel
theorem dX8_addSymbol_12 : decode cX8_addSymbol 12 = .ok (.iconst 1, 1) := by decide +kernel
theorem dX8_addSymbol_13 : decode cX8_addSymbol 13 = .ok (.if_icmp .lt 16, 3) := by decide +kernel
theorem dX8_addSymbol_16 : decode cX8_addSymbol 16 = .ok (.aload_n 0, 1) := by decide +kernel
theorem dX8_addSymbol_17 : decode cX8_addSymbol 17 = .ok (.getfield 39, 3) := by decide +kernel
theorem dX8_addSymbol_20 : decode cX8_addSymbol 20 = .ok (.iload_n 2, 1) := by decide +kernel
theorem dX8_addSymbol_21 : decode cX8_addSymbol 21 = .ok (.iconst 1, 1) := by decide +kernel
theorem dX8_addSymbol_22 : decode cX8_addSymbol 22 = .ok (.isub, 1) := by decide +kernel
theorem dX8_addSymbol_23 : decode cX8_addSymbol 23 = .ok (.invokevirtual 97, 3) := by decide +kernel
theorem dX8_addSymbol_26 : decode cX8_addSymbol 26 = .ok (.ifCond .ne 5, 3) := by decide +kernel
theorem dX8_addSymbol_29 : decode cX8_addSymbol 29 = .ok (.iconst (-1), 1) := by decide +kernel
theorem dX8_addSymbol_30 : decode cX8_addSymbol 30 = .ok (.ireturn, 1) := by decide +kernel
theorem dX8_addSymbol_31 : decode cX8_addSymbol 31 = .ok (.iload_n 3, 1) := by decide +kernel
theorem dX8_addSymbol_32 : decode cX8_addSymbol 32 = .ok (.ifCond .lt 15, 3) := by decide +kernel
theorem dX8_addSymbol_35 : decode cX8_addSymbol 35 = .ok (.iload_n 3, 1) := by decide +kernel
theorem dX8_addSymbol_36 : decode cX8_addSymbol 36 = .ok (.aload_n 0, 1) := by decide +kernel
theorem dX8_addSymbol_37 : decode cX8_addSymbol 37 = .ok (.getfield 48, 3) := by decide +kernel
theorem dX8_addSymbol_40 : decode cX8_addSymbol 40 = .ok (.iload_n 2, 1) := by decide +kernel
theorem dX8_addSymbol_41 : decode cX8_addSymbol 41 = .ok (.iconst 1, 1) := by decide +kernel
theorem dX8_addSymbol_42 : decode cX8_addSymbol 42 = .ok (.isub, 1) := by decide +kernel
theorem dX8_addSymbol_43 : decode cX8_addSymbol 43 = .ok (.iaload, 1) := by decide +kernel
theorem dX8_addSymbol_44 : decode cX8_addSymbol 44 = .ok (.if_icmp .le 5, 3) := by decide +kernel
theorem dX8_addSymbol_47 : decode cX8_addSymbol 47 = .ok (.iconst (-1), 1) := by decide +kernel
theorem dX8_addSymbol_48 : decode cX8_addSymbol 48 = .ok (.ireturn, 1) := by decide +kernel
theorem dX8_addSymbol_49 : decode cX8_addSymbol 49 = .ok (.aload_n 0, 1) := by decide +kernel
theorem dX8_addSymbol_50 : decode cX8_addSymbol 50 = .ok (.getfield 51, 3) := by decide +kernel
theorem dX8_addSymbol_53 : decode cX8_addSymbol 53 = .ok (.aload_n 1, 1) := by decide +kernel
theorem dX8_addSymbol_54 : decode cX8_addSymbol 54 = .ok (.invokevirtual 87, 3) := by decide +kernel
theorem dX8_addSymbol_57 : decode cX8_addSymbol 57 = .ok (.istore 4, 2) := by decide +kernel
theorem dX8_addSymbol_59 : decode cX8_addSymbol 59 = .ok (.aload_n 0, 1) := by decide +kernel
theorem dX8_addSymbol_60 : decode cX8_addSymbol 60 = .ok (.getfield 54, 3) := by decide +kernel
theorem dX8_addSymbol_63 : decode cX8_addSymbol 63 = .ok (.iload 4, 2) := by decide +kernel
theorem dX8_addSymbol_65 : decode cX8_addSymbol 65 = .ok (.iload_n 2, 1) := by decide +kernel
theorem dX8_addSymbol_66 : decode cX8_addSymbol 66 = .ok (.iastore, 1) := by decide +kernel
theorem dX8_addSymbol_67 : decode cX8_addSymbol 67 = .ok (.aload_n 0, 1) := by decide +kernel
theorem dX8_addSymbol_68 : decode cX8_addSymbol 68 = .ok (.getfield 57, 3) := by decide +kernel
theorem dX8_addSymbol_71 : decode cX8_addSymbol 71 = .ok (.iload 4, 2) := by decide +kernel
theorem dX8_addSymbol_73 : decode cX8_addSymbol 73 = .ok (.iload_n 3, 1) := by decide +kernel
theorem dX8_addSymbol_74 : decode cX8_addSymbol 74 = .ok (.iastore, 1) := by decide +kernel
theorem dX8_addSymbol_75 : decode cX8_addSymbol 75 = .ok (.iload 4, 2) := by decide +kernel
theorem dX8_addSymbol_77 : decode cX8_addSymbol 77 = .ok (.ireturn, 1) := by decide +kernel
theorem dX8_addImport_0 : decode cX8_addImport 0 = .ok (.aload_n 0, 1) := by decide +kernel
theorem dX8_addImport_1 : decode cX8_addImport 1 = .ok (.getfield 60, 3) := by decide +kernel
theorem dX8_addImport_4 : decode cX8_addImport 4 = .ok (.aload_n 1, 1) := by decide +kernel
theorem dX8_addImport_5 : decode cX8_addImport 5 = .ok (.invokevirtual 83, 3) := by decide +kernel
theorem dX8_addImport_8 : decode cX8_addImport 8 = .ok (.ifCond .eq 10, 3) := by decide +kernel
theorem dX8_addImport_11 : decode cX8_addImport 11 = .ok (.iload_n 2, 1) := by decide +kernel
theorem dX8_addImport_12 : decode cX8_addImport 12 = .ok (.invokestatic 115, 3) := by decide +kernel
theorem dX8_addImport_15 : decode cX8_addImport 15 = .ok (.ifCond .ne 5, 3) := by decide +kernel
theorem dX8_addImport_18 : decode cX8_addImport 18 = .ok (.iconst (-1), 1) := by decide +kernel
theorem dX8_addImport_19 : decode cX8_addImport 19 = .ok (.ireturn, 1) := by decide +kernel
theorem dX8_addImport_20 : decode cX8_addImport 20 = .ok (.aload_n 0, 1) := by decide +kernel
theorem dX8_addImport_21 : decode cX8_addImport 21 = .ok (.getfield 60, 3) := by decide +kernel
theorem dX8_addImport_24 : decode cX8_addImport 24 = .ok (.aload_n 1, 1) := by decide +kernel
theorem dX8_addImport_25 : decode cX8_addImport 25 = .ok (.invokevirtual 87, 3) := by decide +kernel
theorem dX8_addImport_28 : decode cX8_addImport 28 = .ok (.istore 4, 2) := by decide +kernel
theorem dX8_addImport_30 : decode cX8_addImport 30 = .ok (.aload_n 0, 1) := by decide +kernel
theorem dX8_addImport_31 : decode cX8_addImport 31 = .ok (.getfield 63, 3) := by decide +kernel
theorem dX8_addImport_34 : decode cX8_addImport 34 = .ok (.iload 4, 2) := by decide +kernel
theorem dX8_addImport_36 : decode cX8_addImport 36 = .ok (.iload_n 2, 1) := by decide +kernel
theorem dX8_addImport_37 : decode cX8_addImport 37 = .ok (.iastore, 1) := by decide +kernel
theorem dX8_addImport_38 : decode cX8_addImport 38 = .ok (.aload_n 0, 1) := by decide +kernel
theorem dX8_addImport_39 : decode cX8_addImport 39 = .ok (.getfield 66, 3) := by decide +kernel
theorem dX8_addImport_42 : decode cX8_addImport 42 = .ok (.iload 4, 2) := by decide +kernel
theorem dX8_addImport_44 : decode cX8_addImport 44 = .ok (.iload_n 3, 1) := by decide +kernel
theorem dX8_addImport_45 : decode cX8_addImport 45 = .ok (.bastore, 1) := by decide +kernel
theorem dX8_addImport_46 : decode cX8_addImport 46 = .ok (.iload 4, 2) := by decide +kernel
theorem dX8_addImport_48 : decode cX8_addImport 48 = .ok (.ireturn, 1) := by decide +kernel
theorem dX8_setPointer_0 : decode cX8_setPointer 0 = .ok (.aload_n 0, 1) := by decide +kernel
theorem dX8_setPointer_1 : decode cX8_setPointer 1 = .ok (.iload_n 1, 1) := by decide +kernel
theorem dX8_setPointer_2 : decode cX8_setPointer 2 = .ok (.iload_n 2, 1) := by decide +kernel
theorem dX8_setPointer_3 : decode cX8_setPointer 3 = .ok (.invokevirtual 118, 3) := by decide +kernel
theorem dX8_setPointer_6 : decode cX8_setPointer 6 = .ok (.ifCond .eq 25, 3) := by decide +kernel
theorem dX8_setPointer_9 : decode cX8_setPointer 9 = .ok (.aload_n 0, 1) := by decide +kernel
theorem dX8_setPointer_10 : decode cX8_setPointer 10 = .ok (.iload_n 1, 1) := by decide +kernel
theorem dX8_setPointer_11 : decode cX8_setPointer 11 = .ok (.iload_n 2, 1) := by decide +kernel
theorem dX8_setPointer_12 : decode cX8_setPointer 12 = .ok (.iconst 4, 1) := by decide +kernel
theorem dX8_setPointer_13 : decode cX8_setPointer 13 = .ok (.isub, 1) := by decide +kernel
theorem dX8_setPointer_14 : decode cX8_setPointer 14 = .ok (.invokevirtual 122, 3) := by decide +kernel
theorem dX8_setPointer_17 : decode cX8_setPointer 17 = .ok (.ifCond .ne 14, 3) := by decide +kernel
theorem dX8_setPointer_20 : decode cX8_setPointer 20 = .ok (.aload_n 0, 1) := by decide +kernel
theorem dX8_setPointer_21 : decode cX8_setPointer 21 = .ok (.iload_n 1, 1) := by decide +kernel
theorem dX8_setPointer_22 : decode cX8_setPointer 22 = .ok (.iload_n 2, 1) := by decide +kernel
theorem dX8_setPointer_23 : decode cX8_setPointer 23 = .ok (.iconst 4, 1) := by decide +kernel
theorem dX8_setPointer_24 : decode cX8_setPointer 24 = .ok (.iadd, 1) := by decide +kernel
theorem dX8_setPointer_25 : decode cX8_setPointer 25 = .ok (.invokevirtual 122, 3) := by decide +kernel
theorem dX8_setPointer_28 : decode cX8_setPointer 28 = .ok (.ifCond .eq 5, 3) := by decide +kernel
theorem dX8_setPointer_31 : decode cX8_setPointer 31 = .ok (.iconst 0, 1) := by decide +kernel
theorem dX8_setPointer_32 : decode cX8_setPointer 32 = .ok (.ireturn, 1) := by decide +kernel
theorem dX8_setPointer_33 : decode cX8_setPointer 33 = .ok (.aload_n 0, 1) := by decide +kernel
theorem dX8_setPointer_34 : decode cX8_setPointer 34 = .ok (.iload_n 1, 1) := by decide +kernel
theorem dX8_setPointer_35 : decode cX8_setPointer 35 = .ok (.iload_n 2, 1) := by decide +kernel
theorem dX8_setPointer_36 : decode cX8_setPointer 36 = .ok (.invokevirtual 122, 3) := by decide +kernel
theorem dX8_setPointer_39 : decode cX8_setPointer 39 = .ok (.ifCond .ne 24, 3) := by decide +kernel
theorem dX8_setPointer_42 : decode cX8_setPointer 42 = .ok (.aload_n 0, 1) := by decide +kernel
theorem dX8_setPointer_43 : decode cX8_setPointer 43 = .ok (.getfield 77, 3) := by decide +kernel
theorem dX8_setPointer_46 : decode cX8_setPointer 46 = .ok (.bipush 100, 2) := by decide +kernel
theorem dX8_setPointer_48 : decode cX8_setPointer 48 = .ok (.if_icmp .lt 5, 3) := by decide +kernel
theorem dX8_setPointer_51 : decode cX8_setPointer 51 = .ok (.iconst 0, 1) := by decide +kernel
theorem dX8_setPointer_52 : decode cX8_setPointer 52 = .ok (.ireturn, 1) := by decide +kernel
theorem dX8_setPointer_53 : decode cX8_setPointer 53 = .ok (.aload_n 0, 1) := by decide +kernel
theorem dX8_setPointer_54 : decode cX8_setPointer 54 = .ok (.dup, 1) := by decide +kernel
theorem dX8_setPointer_55 : decode cX8_setPointer 55 = .ok (.getfield 77, 3) := by decide +kernel
theorem dX8_setPointer_58 : decode cX8_setPointer 58 = .ok (.iconst 1, 1) := by decide +kernel
theorem dX8_setPointer_59 : decode cX8_setPointer 59 = .ok (.iadd, 1) := by decide +kernel
theorem dX8_setPointer_60 : decode cX8_setPointer 60 = .ok (.putfield 77, 3) := by decide +kernel
theorem dX8_setPointer_63 : decode cX8_setPointer 63 = .ok (.aload_n 0, 1) := by decide +kernel
theorem dX8_setPointer_64 : decode cX8_setPointer 64 = .ok (.getfield 70, 3) := by decide +kernel
theorem dX8_setPointer_67 : decode cX8_setPointer 67 = .ok (.iload_n 1, 1) := by decide +kernel
theorem dX8_setPointer_68 : decode cX8_setPointer 68 = .ok (.iload_n 2, 1) := by decide +kernel
theorem dX8_setPointer_69 : decode cX8_setPointer 69 = .ok (.invokestatic 125, 3) := by decide +kernel
theorem dX8_setPointer_72 : decode cX8_setPointer 72 = .ok (.iconst 1, 1) := by decide +kernel
theorem dX8_setPointer_73 : decode cX8_setPointer 73 = .ok (.bastore, 1) := by decide +kernel
theorem dX8_setPointer_74 : decode cX8_setPointer 74 = .ok (.aload_n 0, 1) := by decide +kernel
theorem dX8_setPointer_75 : decode cX8_setPointer 75 = .ok (.getfield 73, 3) := by decide +kernel
theorem dX8_setPointer_78 : decode cX8_setPointer 78 = .ok (.iload_n 1, 1) := by decide +kernel
theorem dX8_setPointer_79 : decode cX8_setPointer 79 = .ok (.iload_n 2, 1) := by decide +kernel
theorem dX8_setPointer_80 : decode cX8_setPointer 80 = .ok (.invokestatic 125, 3) := by decide +kernel
theorem dX8_setPointer_83 : decode cX8_setPointer 83 = .ok (.lload_n 3, 1) := by decide +kernel
theorem dX8_setPointer_84 : decode cX8_setPointer 84 = .ok (.lastore, 1) := by decide +kernel
theorem dX8_setPointer_85 : decode cX8_setPointer 85 = .ok (.iconst 1, 1) := by decide +kernel
theorem dX8_setPointer_86 : decode cX8_setPointer 86 = .ok (.ireturn, 1) := by decide +kernel
theorem dX8_removePointer_0 : decode cX8_removePointer 0 = .ok (.aload_n 0, 1) := by decide +kernel
theorem dX8_removePointer_1 : decode cX8_removePointer 1 = .ok (.iload_n 1, 1) := by decide +kernel
theorem dX8_removePointer_2 : decode cX8_removePointer 2 = .ok (.iload_n 2, 1) := by decide +kernel
theorem dX8_removePointer_3 : decode cX8_removePointer 3 = .ok (.invokevirtual 122, 3) := by decide +kernel
theorem dX8_removePointer_6 : decode cX8_removePointer 6 = .ok (.ifCond .ne 5, 3) := by decide +kernel
theorem dX8_removePointer_9 : decode cX8_removePointer 9 = .ok (.iconst 0, 1) := by decide +kernel
theorem dX8_removePointer_10 : decode cX8_removePointer 10 = .ok (.ireturn, 1) := by decide +kernel
theorem dX8_removePointer_11 : decode cX8_removePointer 11 = .ok (.aload_n 0, 1) := by decide +kernel
theorem dX8_removePointer_12 : decode cX8_removePointer 12 = .ok (.getfield 70, 3) := by decide +kernel
theorem dX8_removePointer_15 : decode cX8_removePointer 15 = .ok (.iload_n 1, 1) := by decide +kernel
theorem dX8_removePointer_16 : decode cX8_removePointer 16 = .ok (.iload_n 2, 1) := by decide +kernel
theorem dX8_removePointer_17 : decode cX8_removePointer 17 = .ok (.invokestatic 125, 3) := by decide +kernel
theorem dX8_removePointer_20 : decode cX8_removePointer 20 = .ok (.iconst 0, 1) := by decide +kernel
theorem dX8_removePointer_21 : decode cX8_removePointer 21 = .ok (.bastore, 1) := by decide +kernel
theorem dX8_removePointer_22 : decode cX8_removePointer 22 = .ok (.aload_n 0, 1) := by decide +kernel
theorem dX8_removePointer_23 : decode cX8_removePointer 23 = .ok (.dup, 1) := by decide +kernel
theorem dX8_removePointer_24 : decode cX8_removePointer 24 = .ok (.getfield 77, 3) := by decide +kernel
theorem dX8_removePointer_27 : decode cX8_removePointer 27 = .ok (.iconst 1, 1) := by decide +kernel
theorem dX8_removePointer_28 : decode cX8_removePointer 28 = .ok (.isub, 1) := by decide +kernel
theorem dX8_removePointer_29 : decode cX8_removePointer 29 = .ok (.putfield 77, 3) := by decide +kernel
theorem dX8_removePointer_32 : decode cX8_removePointer 32 = .ok (.iconst 1, 1) := by decide +kernel
theorem dX8_removePointer_33 : decode cX8_removePointer 33 = .ok (.ireturn, 1) := by decide +kernel
theorem dX8_hasRoom_0 : decode cX8_hasRoom 0 = .ok (.aload_n 0, 1) := by decide +kernel
theorem dX8_hasRoom_1 : decode cX8_hasRoom 1 = .ok (.getfield 24, 3) := by decide +kernel
theorem dX8_hasRoom_4 : decode cX8_hasRoom 4 = .ok (.iload_n 1, 1) := by decide +kernel
theorem dX8_hasRoom_5 : decode cX8_hasRoom 5 = .ok (.invokevirtual 97, 3) := by decide +kernel
theorem dX8_hasRoom_8 : decode cX8_hasRoom 8 = .ok (.ifCond .eq 48, 3) := by decide +kernel
theorem dX8_hasRoom_11 : decode cX8_hasRoom 11 = .ok (.iload_n 2, 1) := by decide +kernel
theorem dX8_hasRoom_12 : decode cX8_hasRoom 12 = .ok (.ifCond .lt 44, 3) := by decide +kernel
theorem dX8_hasRoom_15 : decode cX8_hasRoom 15 = .ok (.iload_n 2, 1) := by decide +kernel
theorem dX8_hasRoom_16 : decode cX8_hasRoom 16 = .ok (.iconst 4, 1) := by decide +kernel
theorem dX8_hasRoom_17 : decode cX8_hasRoom 17 = .ok (.irem, 1) := by decide +kernel
theorem dX8_hasRoom_18 : decode cX8_hasRoom 18 = .ok (.ifCond .ne 38, 3) := by decide +kernel
theorem dX8_hasRoom_21 : decode cX8_hasRoom 21 = .ok (.iload_n 2, 1) := by decide +kernel
theorem dX8_hasRoom_22 : decode cX8_hasRoom 22 = .ok (.aload_n 0, 1) := by decide +kernel
theorem dX8_hasRoom_23 : decode cX8_hasRoom 23 = .ok (.getfield 28, 3) := by decide +kernel
theorem dX8_hasRoom_26 : decode cX8_hasRoom 26 = .ok (.iload_n 1, 1) := by decide +kernel
theorem dX8_hasRoom_27 : decode cX8_hasRoom 27 = .ok (.iaload, 1) := by decide +kernel
theorem dX8_hasRoom_28 : decode cX8_hasRoom 28 = .ok (.bipush 8, 2) := by decide +kernel
theorem dX8_hasRoom_30 : decode cX8_hasRoom 30 = .ok (.isub, 1) := by decide +kernel
theorem dX8_hasRoom_31 : decode cX8_hasRoom 31 = .ok (.if_icmp .gt 25, 3) := by decide +kernel
theorem dX8_hasRoom_34 : decode cX8_hasRoom 34 = .ok (.iload_n 2, 1) := by decide +kernel
theorem dX8_hasRoom_35 : decode cX8_hasRoom 35 = .ok (.aload_n 0, 1) := by decide +kernel
theorem dX8_hasRoom_36 : decode cX8_hasRoom 36 = .ok (.getfield 16, 3) := by decide +kernel
theorem dX8_hasRoom_39 : decode cX8_hasRoom 39 = .ok (.iconst 1, 1) := by decide +kernel
theorem dX8_hasRoom_40 : decode cX8_hasRoom 40 = .ok (.isub, 1) := by decide +kernel
theorem dX8_hasRoom_41 : decode cX8_hasRoom 41 = .ok (.iand, 1) := by decide +kernel
theorem dX8_hasRoom_42 : decode cX8_hasRoom 42 = .ok (.bipush 8, 2) := by decide +kernel
theorem dX8_hasRoom_44 : decode cX8_hasRoom 44 = .ok (.iadd, 1) := by decide +kernel
theorem dX8_hasRoom_45 : decode cX8_hasRoom 45 = .ok (.aload_n 0, 1) := by decide +kernel
theorem dX8_hasRoom_46 : decode cX8_hasRoom 46 = .ok (.getfield 16, 3) := by decide +kernel
theorem dX8_hasRoom_49 : decode cX8_hasRoom 49 = .ok (.if_icmp .gt 7, 3) := by decide +kernel
theorem dX8_hasRoom_52 : decode cX8_hasRoom 52 = .ok (.iconst 1, 1) := by decide +kernel
theorem dX8_hasRoom_53 : decode cX8_hasRoom 53 = .ok (.goto 4, 3) := by decide +kernel
theorem dX8_hasRoom_56 : decode cX8_hasRoom 56 = .ok (.iconst 0, 1) := by decide +kernel
theorem dX8_hasRoom_57 : decode cX8_hasRoom 57 = .ok (.ireturn, 1) := by decide +kernel
theorem dX8_hasPointer_0 : decode cX8_hasPointer 0 = .ok (.aload_n 0, 1) := by decide +kernel
theorem dX8_hasPointer_1 : decode cX8_hasPointer 1 = .ok (.getfield 24, 3) := by decide +kernel
theorem dX8_hasPointer_4 : decode cX8_hasPointer 4 = .ok (.iload_n 1, 1) := by decide +kernel
theorem dX8_hasPointer_5 : decode cX8_hasPointer 5 = .ok (.invokevirtual 97, 3) := by decide +kernel
theorem dX8_hasPointer_8 : decode cX8_hasPointer 8 = .ok (.ifCond .eq 37, 3) := by decide +kernel
theorem dX8_hasPointer_11 : decode cX8_hasPointer 11 = .ok (.iload_n 2, 1) := by decide +kernel
theorem dX8_hasPointer_12 : decode cX8_hasPointer 12 = .ok (.ifCond .lt 33, 3) := by decide +kernel
theorem dX8_hasPointer_15 : decode cX8_hasPointer 15 = .ok (.iload_n 2, 1) := by decide +kernel
theorem dX8_hasPointer_16 : decode cX8_hasPointer 16 = .ok (.sipush 1024, 3) := by decide +kernel
theorem dX8_hasPointer_19 : decode cX8_hasPointer 19 = .ok (.if_icmp .ge 26, 3) := by decide +kernel
theorem dX8_hasPointer_22 : decode cX8_hasPointer 22 = .ok (.iload_n 2, 1) := by decide +kernel
theorem dX8_hasPointer_23 : decode cX8_hasPointer 23 = .ok (.iconst 4, 1) := by decide +kernel
theorem dX8_hasPointer_24 : decode cX8_hasPointer 24 = .ok (.irem, 1) := by decide +kernel
theorem dX8_hasPointer_25 : decode cX8_hasPointer 25 = .ok (.ifCond .ne 20, 3) := by decide +kernel
theorem dX8_hasPointer_28 : decode cX8_hasPointer 28 = .ok (.aload_n 0, 1) := by decide +kernel
theorem dX8_hasPointer_29 : decode cX8_hasPointer 29 = .ok (.getfield 70, 3) := by decide +kernel
theorem dX8_hasPointer_32 : decode cX8_hasPointer 32 = .ok (.iload_n 1, 1) := by decide +kernel
theorem dX8_hasPointer_33 : decode cX8_hasPointer 33 = .ok (.iload_n 2, 1) := by decide +kernel
theorem dX8_hasPointer_34 : decode cX8_hasPointer 34 = .ok (.invokestatic 125, 3) := by decide +kernel
theorem dX8_hasPointer_37 : decode cX8_hasPointer 37 = .ok (.baload, 1) := by decide +kernel
theorem dX8_hasPointer_38 : decode cX8_hasPointer 38 = .ok (.ifCond .eq 7, 3) := by decide +kernel
theorem dX8_hasPointer_41 : decode cX8_hasPointer 41 = .ok (.iconst 1, 1) := by decide +kernel
theorem dX8_hasPointer_42 : decode cX8_hasPointer 42 = .ok (.goto 4, 3) := by decide +kernel
theorem dX8_hasPointer_45 : decode cX8_hasPointer 45 = .ok (.iconst 0, 1) := by decide +kernel
theorem dX8_hasPointer_46 : decode cX8_hasPointer 46 = .ok (.ireturn, 1) := by decide +kernel
theorem dX8_slot_0 : decode cX8_slot 0 = .ok (.iload_n 0, 1) := by decide +kernel
theorem dX8_slot_1 : decode cX8_slot 1 = .ok (.sipush 1024, 3) := by decide +kernel
theorem dX8_slot_4 : decode cX8_slot 4 = .ok (.imul, 1) := by decide +kernel
theorem dX8_slot_5 : decode cX8_slot 5 = .ok (.iload_n 1, 1) := by decide +kernel
theorem dX8_slot_6 : decode cX8_slot 6 = .ok (.iadd, 1) := by decide +kernel
theorem dX8_slot_7 : decode cX8_slot 7 = .ok (.iconst 4, 1) := by decide +kernel
theorem dX8_slot_8 : decode cX8_slot 8 = .ok (.idiv, 1) := by decide +kernel
theorem dX8_slot_9 : decode cX8_slot 9 = .ok (.ireturn, 1) := by decide +kernel
theorem dX8_bitsAt_0 : decode cX8_bitsAt 0 = .ok (.aload_n 0, 1) := by decide +kernel
theorem dX8_bitsAt_1 : decode cX8_bitsAt 1 = .ok (.iload_n 1, 1) := by decide +kernel
theorem dX8_bitsAt_2 : decode cX8_bitsAt 2 = .ok (.iload_n 2, 1) := by decide +kernel
theorem dX8_bitsAt_3 : decode cX8_bitsAt 3 = .ok (.invokevirtual 122, 3) := by decide +kernel
theorem dX8_bitsAt_6 : decode cX8_bitsAt 6 = .ok (.ifCond .eq 16, 3) := by decide +kernel
theorem dX8_bitsAt_9 : decode cX8_bitsAt 9 = .ok (.aload_n 0, 1) := by decide +kernel
theorem dX8_bitsAt_10 : decode cX8_bitsAt 10 = .ok (.getfield 73, 3) := by decide +kernel
theorem dX8_bitsAt_13 : decode cX8_bitsAt 13 = .ok (.iload_n 1, 1) := by decide +kernel
theorem dX8_bitsAt_14 : decode cX8_bitsAt 14 = .ok (.iload_n 2, 1) := by decide +kernel
theorem dX8_bitsAt_15 : decode cX8_bitsAt 15 = .ok (.invokestatic 125, 3) := by decide +kernel
theorem dX8_bitsAt_18 : decode cX8_bitsAt 18 = .ok (.laload, 1) := by decide +kernel
theorem dX8_bitsAt_19 : decode cX8_bitsAt 19 = .ok (.goto 4, 3) := by decide +kernel
theorem dX8_bitsAt_22 : decode cX8_bitsAt 22 = .ok (.lconst 0, 1) := by decide +kernel
theorem dX8_bitsAt_23 : decode cX8_bitsAt 23 = .ok (.lreturn, 1) := by decide +kernel
theorem dX8_firstPointer_0 : decode cX8_firstPointer 0 = .ok (.iload_n 3, 1) := by decide +kernel
theorem dX8_firstPointer_1 : decode cX8_firstPointer 1 = .ok (.sipush 1024, 3) := by decide +kernel
theorem dX8_firstPointer_4 : decode cX8_firstPointer 4 = .ok (.invokestatic 129, 3) := by decide +kernel
theorem dX8_firstPointer_7 : decode cX8_firstPointer 7 = .ok (.iconst 4, 1) := by decide +kernel
theorem dX8_firstPointer_8 : decode cX8_firstPointer 8 = .ok (.isub, 1) := by decide +kernel
theorem dX8_firstPointer_9 : decode cX8_firstPointer 9 = .ok (.istore 4, 2) := by decide +kernel
theorem dX8_firstPointer_11 : decode cX8_firstPointer 11 = .ok (.iload_n 2, 1) := by decide +kernel
theorem dX8_firstPointer_12 : decode cX8_firstPointer 12 = .ok (.istore 5, 2) := by decide +kernel
theorem dX8_firstPointer_14 : decode cX8_firstPointer 14 = .ok (.iload 5, 2) := by decide +kernel
theorem dX8_firstPointer_16 : decode cX8_firstPointer 16 = .ok (.iload 4, 2) := by decide +kernel
theorem dX8_firstPointer_18 : decode cX8_firstPointer 18 = .ok (.if_icmp .gt 22, 3) := by decide +kernel
theorem dX8_firstPointer_21 : decode cX8_firstPointer 21 = .ok (.aload_n 0, 1) := by decide +kernel
theorem dX8_firstPointer_22 : decode cX8_firstPointer 22 = .ok (.iload_n 1, 1) := by decide +kernel
theorem dX8_firstPointer_23 : decode cX8_firstPointer 23 = .ok (.iload 5, 2) := by decide +kernel
theorem dX8_firstPointer_25 : decode cX8_firstPointer 25 = .ok (.invokevirtual 122, 3) := by decide +kernel
theorem dX8_firstPointer_28 : decode cX8_firstPointer 28 = .ok (.ifCond .eq 6, 3) := by decide +kernel
theorem dX8_firstPointer_31 : decode cX8_firstPointer 31 = .ok (.iload 5, 2) := by decide +kernel
theorem dX8_firstPointer_33 : decode cX8_firstPointer 33 = .ok (.ireturn, 1) := by decide +kernel
theorem dX8_firstPointer_34 : decode cX8_firstPointer 34 = .ok (.iinc 5 4, 3) := by decide +kernel
theorem dX8_firstPointer_37 : decode cX8_firstPointer 37 = .ok (.goto (-23), 3) := by decide +kernel
theorem dX8_firstPointer_40 : decode cX8_firstPointer 40 = .ok (.iconst (-1), 1) := by decide +kernel
theorem dX8_firstPointer_41 : decode cX8_firstPointer 41 = .ok (.ireturn, 1) := by decide +kernel
theorem dX8_spanOf_0 : decode cX8_spanOf 0 = .ok (.aload_n 0, 1) := by decide +kernel
theorem dX8_spanOf_1 : decode cX8_spanOf 1 = .ok (.getfield 24, 3) := by decide +kernel
theorem dX8_spanOf_4 : decode cX8_spanOf 4 = .ok (.iload_n 1, 1) := by decide +kernel
theorem dX8_spanOf_5 : decode cX8_spanOf 5 = .ok (.invokevirtual 97, 3) := by decide +kernel
theorem dX8_spanOf_8 : decode cX8_spanOf 8 = .ok (.ifCond .eq 19, 3) := by decide +kernel
theorem dX8_spanOf_11 : decode cX8_spanOf 11 = .ok (.aload_n 0, 1) := by decide +kernel
theorem dX8_spanOf_12 : decode cX8_spanOf 12 = .ok (.getfield 28, 3) := by decide +kernel
theorem dX8_spanOf_15 : decode cX8_spanOf 15 = .ok (.iload_n 1, 1) := by decide +kernel
theorem dX8_spanOf_16 : decode cX8_spanOf 16 = .ok (.iaload, 1) := by decide +kernel
theorem dX8_spanOf_17 : decode cX8_spanOf 17 = .ok (.aload_n 0, 1) := by decide +kernel
theorem dX8_spanOf_18 : decode cX8_spanOf 18 = .ok (.getfield 16, 3) := by decide +kernel
theorem dX8_spanOf_21 : decode cX8_spanOf 21 = .ok (.invokestatic 134, 3) := by decide +kernel
theorem dX8_spanOf_24 : decode cX8_spanOf 24 = .ok (.goto 4, 3) := by decide +kernel
theorem dX8_spanOf_27 : decode cX8_spanOf 27 = .ok (.iconst 0, 1) := by decide +kernel
theorem dX8_spanOf_28 : decode cX8_spanOf 28 = .ok (.ireturn, 1) := by decide +kernel
theorem dX8_addressOf_0 : decode cX8_addressOf 0 = .ok (.aload_n 0, 1) := by decide +kernel
theorem dX8_addressOf_1 : decode cX8_addressOf 1 = .ok (.getfield 10, 3) := by decide +kernel
theorem dX8_addressOf_4 : decode cX8_addressOf 4 = .ok (.istore_n 2, 1) := by decide +kernel
theorem dX8_addressOf_5 : decode cX8_addressOf 5 = .ok (.iconst 0, 1) := by decide +kernel
theorem dX8_addressOf_6 : decode cX8_addressOf 6 = .ok (.istore_n 3, 1) := by decide +kernel
theorem dX8_addressOf_7 : decode cX8_addressOf 7 = .ok (.iload_n 3, 1) := by decide +kernel
theorem dX8_addressOf_8 : decode cX8_addressOf 8 = .ok (.iload_n 1, 1) := by decide +kernel
theorem dX8_addressOf_9 : decode cX8_addressOf 9 = .ok (.if_icmp .ge 17, 3) := by decide +kernel
theorem dX8_addressOf_12 : decode cX8_addressOf 12 = .ok (.iload_n 2, 1) := by decide +kernel
theorem dX8_addressOf_13 : decode cX8_addressOf 13 = .ok (.aload_n 0, 1) := by decide +kernel
theorem dX8_addressOf_14 : decode cX8_addressOf 14 = .ok (.iload_n 3, 1) := by decide +kernel
theorem dX8_addressOf_15 : decode cX8_addressOf 15 = .ok (.invokevirtual 137, 3) := by decide +kernel
theorem dX8_addressOf_18 : decode cX8_addressOf 18 = .ok (.iadd, 1) := by decide +kernel
theorem dX8_addressOf_19 : decode cX8_addressOf 19 = .ok (.istore_n 2, 1) := by decide +kernel
theorem dX8_addressOf_20 : decode cX8_addressOf 20 = .ok (.iinc 3 1, 3) := by decide +kernel
theorem dX8_addressOf_23 : decode cX8_addressOf 23 = .ok (.goto (-16), 3) := by decide +kernel
theorem dX8_addressOf_26 : decode cX8_addressOf 26 = .ok (.iload_n 2, 1) := by decide +kernel
theorem dX8_addressOf_27 : decode cX8_addressOf 27 = .ok (.ireturn, 1) := by decide +kernel
theorem dX8_sectionsOf_0 : decode cX8_sectionsOf 0 = .ok (.iconst 0, 1) := by decide +kernel
theorem dX8_sectionsOf_1 : decode cX8_sectionsOf 1 = .ok (.istore_n 2, 1) := by decide +kernel
theorem dX8_sectionsOf_2 : decode cX8_sectionsOf 2 = .ok (.iconst 0, 1) := by decide +kernel
theorem dX8_sectionsOf_3 : decode cX8_sectionsOf 3 = .ok (.istore_n 3, 1) := by decide +kernel
theorem dX8_sectionsOf_4 : decode cX8_sectionsOf 4 = .ok (.iload_n 3, 1) := by decide +kernel
theorem dX8_sectionsOf_5 : decode cX8_sectionsOf 5 = .ok (.aload_n 0, 1) := by decide +kernel
theorem dX8_sectionsOf_6 : decode cX8_sectionsOf 6 = .ok (.getfield 39, 3) := by decide +kernel
theorem dX8_sectionsOf_9 : decode cX8_sectionsOf 9 = .ok (.getfield 141, 3) := by decide +kernel
theorem dX8_sectionsOf_12 : decode cX8_sectionsOf 12 = .ok (.if_icmp .ge 22, 3) := by decide +kernel
theorem dX8_sectionsOf_15 : decode cX8_sectionsOf 15 = .ok (.aload_n 0, 1) := by decide +kernel
theorem dX8_sectionsOf_16 : decode cX8_sectionsOf 16 = .ok (.getfield 42, 3) := by decide +kernel
theorem dX8_sectionsOf_19 : decode cX8_sectionsOf 19 = .ok (.iload_n 3, 1) := by decide +kernel
theorem dX8_sectionsOf_20 : decode cX8_sectionsOf 20 = .ok (.iaload, 1) := by decide +kernel
theorem dX8_sectionsOf_21 : decode cX8_sectionsOf 21 = .ok (.iload_n 1, 1) := by decide +kernel
theorem dX8_sectionsOf_22 : decode cX8_sectionsOf 22 = .ok (.if_icmp .ne 6, 3) := by decide +kernel
theorem dX8_sectionsOf_25 : decode cX8_sectionsOf 25 = .ok (.iinc 2 1, 3) := by decide +kernel
theorem dX8_sectionsOf_28 : decode cX8_sectionsOf 28 = .ok (.iinc 3 1, 3) := by decide +kernel
theorem dX8_sectionsOf_31 : decode cX8_sectionsOf 31 = .ok (.goto (-27), 3) := by decide +kernel
theorem dX8_sectionsOf_34 : decode cX8_sectionsOf 34 = .ok (.iload_n 2, 1) := by decide +kernel
theorem dX8_sectionsOf_35 : decode cX8_sectionsOf 35 = .ok (.ireturn, 1) := by decide +kernel
theorem dX9_init_0 : decode cX9_init 0 = .ok (.aload_n 0, 1) := by decide +kernel
theorem dX9_init_1 : decode cX9_init 1 = .ok (.invokespecial 3, 3) := by decide +kernel
theorem dX9_init_4 : decode cX9_init 4 = .ok (.aload_n 0, 1) := by decide +kernel
theorem dX9_init_5 : decode cX9_init 5 = .ok (.sipush 2048, 3) := by decide +kernel
theorem dX9_init_8 : decode cX9_init 8 = .ok (.newarray .int, 2) := by decide +kernel
theorem dX9_init_10 : decode cX9_init 10 = .ok (.putfield 9, 3) := by decide +kernel
theorem dX9_init_13 : decode cX9_init 13 = .ok (.aload_n 0, 1) := by decide +kernel
theorem dX9_init_14 : decode cX9_init 14 = .ok (.sipush 2048, 3) := by decide +kernel
theorem dX9_init_17 : decode cX9_init 17 = .ok (.newarray .long, 2) := by decide +kernel
theorem dX9_init_19 : decode cX9_init 19 = .ok (.putfield 15, 3) := by decide +kernel
theorem dX9_init_22 : decode cX9_init 22 = .ok (.aload_n 0, 1) := by decide +kernel
theorem dX9_init_23 : decode cX9_init 23 = .ok (.iconst 0, 1) := by decide +kernel
theorem dX9_init_24 : decode cX9_init 24 = .ok (.putfield 19, 3) := by decide +kernel
theorem dX9_init_27 : decode cX9_init 27 = .ok (.return_, 1) := by decide +kernel
theorem dX9_clear_0 : decode cX9_clear 0 = .ok (.aload_n 0, 1) := by decide +kernel
theorem dX9_clear_1 : decode cX9_clear 1 = .ok (.iconst 0, 1) := by decide +kernel
theorem dX9_clear_2 : decode cX9_clear 2 = .ok (.putfield 19, 3) := by decide +kernel
theorem dX9_clear_5 : decode cX9_clear 5 = .ok (.return_, 1) := by decide +kernel
theorem dX9_has_0 : decode cX9_has 0 = .ok (.iload_n 1, 1) := by decide +kernel
theorem dX9_has_1 : decode cX9_has 1 = .ok (.ifCond .lt 15, 3) := by decide +kernel
theorem dX9_has_4 : decode cX9_has 4 = .ok (.iload_n 1, 1) := by decide +kernel
theorem dX9_has_5 : decode cX9_has 5 = .ok (.aload_n 0, 1) := by decide +kernel
theorem dX9_has_6 : decode cX9_has 6 = .ok (.getfield 19, 3) := by decide +kernel
theorem dX9_has_9 : decode cX9_has 9 = .ok (.if_icmp .ge 7, 3) := by decide +kernel
theorem dX9_has_12 : decode cX9_has 12 = .ok (.iconst 1, 1) := by decide +kernel
theorem dX9_has_13 : decode cX9_has 13 = .ok (.goto 4, 3) := by decide +kernel
theorem dX9_has_16 : decode cX9_has 16 = .ok (.iconst 0, 1) := by decide +kernel
theorem dX9_has_17 : decode cX9_has 17 = .ok (.ireturn, 1) := by decide +kernel
theorem dX9_add_0 : decode cX9_add 0 = .ok (.aload_n 0, 1) := by decide +kernel
theorem dX9_add_1 : decode cX9_add 1 = .ok (.getfield 19, 3) := by decide +kernel
theorem dX9_add_4 : decode cX9_add 4 = .ok (.sipush 2048, 3) := by decide +kernel
theorem dX9_add_7 : decode cX9_add 7 = .ok (.if_icmp .ge 33, 3) := by decide +kernel
theorem dX9_add_10 : decode cX9_add 10 = .ok (.aload_n 0, 1) := by decide +kernel
theorem dX9_add_11 : decode cX9_add 11 = .ok (.getfield 9, 3) := by decide +kernel
theorem dX9_add_14 : decode cX9_add 14 = .ok (.aload_n 0, 1) := by decide +kernel
theorem dX9_add_15 : decode cX9_add 15 = .ok (.getfield 19, 3) := by decide +kernel
theorem dX9_add_18 : decode cX9_add 18 = .ok (.iload_n 1, 1) := by decide +kernel
theorem dX9_add_19 : decode cX9_add 19 = .ok (.iastore, 1) := by decide +kernel
theorem dX9_add_20 : decode cX9_add 20 = .ok (.aload_n 0, 1) := by decide +kernel
theorem dX9_add_21 : decode cX9_add 21 = .ok (.getfield 15, 3) := by decide +kernel
theorem dX9_add_24 : decode cX9_add 24 = .ok (.aload_n 0, 1) := by decide +kernel
theorem dX9_add_25 : decode cX9_add 25 = .ok (.getfield 19, 3) := by decide +kernel
theorem dX9_add_28 : decode cX9_add 28 = .ok (.lload_n 2, 1) := by decide +kernel
theorem dX9_add_29 : decode cX9_add 29 = .ok (.lastore, 1) := by decide +kernel
theorem dX9_add_30 : decode cX9_add 30 = .ok (.aload_n 0, 1) := by decide +kernel
theorem dX9_add_31 : decode cX9_add 31 = .ok (.dup, 1) := by decide +kernel
theorem dX9_add_32 : decode cX9_add 32 = .ok (.getfield 19, 3) := by decide +kernel
theorem dX9_add_35 : decode cX9_add 35 = .ok (.iconst 1, 1) := by decide +kernel
theorem dX9_add_36 : decode cX9_add 36 = .ok (.iadd, 1) := by decide +kernel
theorem dX9_add_37 : decode cX9_add 37 = .ok (.putfield 19, 3) := by decide +kernel
theorem dX9_add_40 : decode cX9_add 40 = .ok (.return_, 1) := by decide +kernel
theorem dX9_isBind_0 : decode cX9_isBind 0 = .ok (.lload_n 0, 1) := by decide +kernel
theorem dX9_isBind_1 : decode cX9_isBind 1 = .ok (.lconst 0, 1) := by decide +kernel
theorem dX9_isBind_2 : decode cX9_isBind 2 = .ok (.lcmp, 1) := by decide +kernel
theorem dX9_isBind_3 : decode cX9_isBind 3 = .ok (.ifCond .ge 7, 3) := by decide +kernel
theorem dX9_isBind_6 : decode cX9_isBind 6 = .ok (.iconst 1, 1) := by decide +kernel
theorem dX9_isBind_7 : decode cX9_isBind 7 = .ok (.goto 4, 3) := by decide +kernel
theorem dX9_isBind_10 : decode cX9_isBind 10 = .ok (.iconst 0, 1) := by decide +kernel
theorem dX9_isBind_11 : decode cX9_isBind 11 = .ok (.ireturn, 1) := by decide +kernel
theorem dX9_nextOf_0 : decode cX9_nextOf 0 = .ok (.lload_n 0, 1) := by decide +kernel
theorem dX9_nextOf_1 : decode cX9_nextOf 1 = .ok (.bipush 51, 2) := by decide +kernel
theorem dX9_nextOf_3 : decode cX9_nextOf 3 = .ok (.lushr, 1) := by decide +kernel
theorem dX9_nextOf_4 : decode cX9_nextOf 4 = .ok (.l2i, 1) := by decide +kernel
theorem dX9_nextOf_5 : decode cX9_nextOf 5 = .ok (.sipush 4095, 3) := by decide +kernel
theorem dX9_nextOf_8 : decode cX9_nextOf 8 = .ok (.iand, 1) := by decide +kernel
theorem dX9_nextOf_9 : decode cX9_nextOf 9 = .ok (.ireturn, 1) := by decide +kernel
theorem dX9_subjectOf_0 : decode cX9_subjectOf 0 = .ok (.lload_n 0, 1) := by decide +kernel
theorem dX9_subjectOf_1 : decode cX9_subjectOf 1 = .ok (.lload_n 0, 1) := by decide +kernel
theorem dX9_subjectOf_2 : decode cX9_subjectOf 2 = .ok (.invokestatic 23, 3) := by decide +kernel
theorem dX9_subjectOf_5 : decode cX9_subjectOf 5 = .ok (.ifCond .eq 9, 3) := by decide +kernel
theorem dX9_subjectOf_8 : decode cX9_subjectOf 8 = .ok (.ldc2_w 27, 3) := by decide +kernel
theorem dX9_subjectOf_11 : decode cX9_subjectOf 11 = .ok (.goto 6, 3) := by decide +kernel
theorem dX9_subjectOf_14 : decode cX9_subjectOf 14 = .ok (.ldc2_w 29, 3) := by decide +kernel
theorem dX9_subjectOf_17 : decode cX9_subjectOf 17 = .ok (.land, 1) := by decide +kernel
theorem dX9_subjectOf_18 : decode cX9_subjectOf 18 = .ok (.lreturn, 1) := by decide +kernel
theorem dX9_extraOf_0 : decode cX9_extraOf 0 = .ok (.lload_n 0, 1) := by decide +kernel
theorem dX9_extraOf_1 : decode cX9_extraOf 1 = .ok (.lload_n 0, 1) := by decide +kernel
theorem dX9_extraOf_2 : decode cX9_extraOf 2 = .ok (.invokestatic 23, 3) := by decide +kernel
theorem dX9_extraOf_5 : decode cX9_extraOf 5 = .ok (.ifCond .eq 8, 3) := by decide +kernel
theorem dX9_extraOf_8 : decode cX9_extraOf 8 = .ok (.bipush 24, 2) := by decide +kernel
theorem dX9_extraOf_10 : decode cX9_extraOf 10 = .ok (.goto 5, 3) := by decide +kernel
theorem dX9_extraOf_13 : decode cX9_extraOf 13 = .ok (.bipush 36, 2) := by decide +kernel
theorem dX9_extraOf_15 : decode cX9_extraOf 15 = .ok (.lushr, 1) := by decide +kernel
theorem dX9_extraOf_16 : decode cX9_extraOf 16 = .ok (.ldc2_w 31, 3) := by decide +kernel
theorem dX9_extraOf_19 : decode cX9_extraOf 19 = .ok (.land, 1) := by decide +kernel
theorem dX9_extraOf_20 : decode cX9_extraOf 20 = .ok (.lreturn, 1) := by decide +kernel
theorem dX10_init_0 : decode cX10_init 0 = .ok (.aload_n 0, 1) := by decide +kernel
theorem dX10_init_1 : decode cX10_init 1 = .ok (.invokespecial 3, 3) := by decide +kernel
theorem dX10_init_4 : decode cX10_init 4 = .ok (.aload_n 0, 1) := by decide +kernel
theorem dX10_init_5 : decode cX10_init 5 = .ok (.aload_n 1, 1) := by decide +kernel
theorem dX10_init_6 : decode cX10_init 6 = .ok (.putfield 9, 3) := by decide +kernel
theorem dX10_init_9 : decode cX10_init 9 = .ok (.aload_n 0, 1) := by decide +kernel
theorem dX10_init_10 : decode cX10_init 10 = .ok (.aload_n 2, 1) := by decide +kernel
theorem dX10_init_11 : decode cX10_init 11 = .ok (.putfield 15, 3) := by decide +kernel
theorem dX10_init_14 : decode cX10_init 14 = .ok (.aload_n 0, 1) := by decide +kernel
theorem dX10_init_15 : decode cX10_init 15 = .ok (.iconst 4, 1) := by decide +kernel
theorem dX10_init_16 : decode cX10_init 16 = .ok (.newarray .int, 2) := by decide +kernel
theorem dX10_init_18 : decode cX10_init 18 = .ok (.putfield 19, 3) := by decide +kernel
theorem dX10_init_21 : decode cX10_init 21 = .ok (.aload_n 0, 1) := by decide +kernel
theorem dX10_init_22 : decode cX10_init 22 = .ok (.iconst 4, 1) := by decide +kernel
theorem dX10_init_23 : decode cX10_init 23 = .ok (.newarray .int, 2) := by decide +kernel
theorem dX10_init_25 : decode cX10_init 25 = .ok (.putfield 23, 3) := by decide +kernel
theorem dX10_init_28 : decode cX10_init 28 = .ok (.return_, 1) := by decide +kernel
theorem dX10_writeAll_0 : decode cX10_writeAll 0 = .ok (.aload_n 0, 1) := by decide +kernel
theorem dX10_writeAll_1 : decode cX10_writeAll 1 = .ok (.invokevirtual 26, 3) := by decide +kernel
theorem dX10_writeAll_4 : decode cX10_writeAll 4 = .ok (.aload_n 0, 1) := by decide +kernel
theorem dX10_writeAll_5 : decode cX10_writeAll 5 = .ok (.invokevirtual 29, 3) := by decide +kernel
theorem dX10_writeAll_8 : decode cX10_writeAll 8 = .ok (.aload_n 0, 1) := by decide +kernel
theorem dX10_writeAll_9 : decode cX10_writeAll 9 = .ok (.aload_n 0, 1) := by decide +kernel
theorem dX10_writeAll_10 : decode cX10_writeAll 10 = .ok (.getfield 32, 3) := by decide +kernel
theorem dX10_writeAll_13 : decode cX10_writeAll 13 = .ok (.aload_n 0, 1) := by decide +kernel
theorem dX10_writeAll_14 : decode cX10_writeAll 14 = .ok (.getfield 36, 3) := by decide +kernel
theorem dX10_writeAll_17 : decode cX10_writeAll 17 = .ok (.iadd, 1) := by decide +kernel
theorem dX10_writeAll_18 : decode cX10_writeAll 18 = .ok (.bipush 8, 2) := by decide +kernel
theorem dX10_writeAll_20 : decode cX10_writeAll 20 = .ok (.invokestatic 39, 3) := by decide +kernel
theorem dX10_writeAll_23 : decode cX10_writeAll 23 = .ok (.putfield 43, 3) := by decide +kernel
theorem dX10_writeAll_26 : decode cX10_writeAll 26 = .ok (.aload_n 0, 1) := by decide +kernel
theorem dX10_writeAll_27 : decode cX10_writeAll 27 = .ok (.aload_n 0, 1) := by decide +kernel
theorem dX10_writeAll_28 : decode cX10_writeAll 28 = .ok (.getfield 43, 3) := by decide +kernel
theorem dX10_writeAll_31 : decode cX10_writeAll 31 = .ok (.bipush 16, 2) := by decide +kernel
theorem dX10_writeAll_33 : decode cX10_writeAll 33 = .ok (.aload_n 0, 1) := by decide +kernel
theorem dX10_writeAll_34 : decode cX10_writeAll 34 = .ok (.getfield 9, 3) := by decide +kernel
theorem dX10_writeAll_37 : decode cX10_writeAll 37 = .ok (.getfield 46, 3) := by decide +kernel
theorem dX10_writeAll_40 : decode cX10_writeAll 40 = .ok (.getfield 51, 3) := by decide +kernel
theorem dX10_writeAll_43 : decode cX10_writeAll 43 = .ok (.imul, 1) := by decide +kernel
theorem dX10_writeAll_44 : decode cX10_writeAll 44 = .ok (.iadd, 1) := by decide +kernel
theorem dX10_writeAll_45 : decode cX10_writeAll 45 = .ok (.bipush 8, 2) := by decide +kernel
theorem dX10_writeAll_47 : decode cX10_writeAll 47 = .ok (.invokestatic 39, 3) := by decide +kernel
theorem dX10_writeAll_50 : decode cX10_writeAll 50 = .ok (.putfield 56, 3) := by decide +kernel
theorem dX10_writeAll_53 : decode cX10_writeAll 53 = .ok (.aload_n 0, 1) := by decide +kernel
theorem dX10_writeAll_54 : decode cX10_writeAll 54 = .ok (.getfield 15, 3) := by decide +kernel
theorem dX10_writeAll_57 : decode cX10_writeAll 57 = .ok (.invokevirtual 59, 3) := by decide +kernel
theorem dX10_writeAll_60 : decode cX10_writeAll 60 = .ok (.aload_n 0, 1) := by decide +kernel
theorem dX10_writeAll_61 : decode cX10_writeAll 61 = .ok (.invokevirtual 64, 3) := by decide +kernel
theorem dX10_writeAll_64 : decode cX10_writeAll 64 = .ok (.iconst 0, 1) := by decide +kernel
theorem dX10_writeAll_65 : decode cX10_writeAll 65 = .ok (.istore_n 1, 1) := by decide +kernel
theorem dX10_writeAll_66 : decode cX10_writeAll 66 = .ok (.iload_n 1, 1) := by decide +kernel
theorem dX10_writeAll_67 : decode cX10_writeAll 67 = .ok (.aload_n 0, 1) := by decide +kernel
theorem dX10_writeAll_68 : decode cX10_writeAll 68 = .ok (.getfield 9, 3) := by decide +kernel
theorem dX10_writeAll_71 : decode cX10_writeAll 71 = .ok (.getfield 67, 3) := by decide +kernel
theorem dX10_writeAll_74 : decode cX10_writeAll 74 = .ok (.getfield 51, 3) := by decide +kernel
theorem dX10_writeAll_77 : decode cX10_writeAll 77 = .ok (.if_icmp .ge 19, 3) := by decide +kernel
theorem dX10_writeAll_80 : decode cX10_writeAll 80 = .ok (.aload_n 0, 1) := by decide +kernel
theorem dX10_writeAll_81 : decode cX10_writeAll 81 = .ok (.iload_n 1, 1) := by decide +kernel
theorem dX10_writeAll_82 : decode cX10_writeAll 82 = .ok (.invokevirtual 70, 3) := by decide +kernel
theorem dX10_writeAll_85 : decode cX10_writeAll 85 = .ok (.aload_n 0, 1) := by decide +kernel
theorem dX10_writeAll_86 : decode cX10_writeAll 86 = .ok (.iload_n 1, 1) := by decide +kernel
theorem dX10_writeAll_87 : decode cX10_writeAll 87 = .ok (.invokevirtual 74, 3) := by decide +kernel
theorem dX10_writeAll_90 : decode cX10_writeAll 90 = .ok (.iinc 1 1, 3) := by decide +kernel
theorem dX10_writeAll_93 : decode cX10_writeAll 93 = .ok (.goto (-27), 3) := by decide +kernel
theorem dX10_writeAll_96 : decode cX10_writeAll 96 = .ok (.aload_n 0, 1) := by decide +kernel
theorem dX10_writeAll_97 : decode cX10_writeAll 97 = .ok (.invokevirtual 77, 3) := by decide +kernel
theorem dX10_writeAll_100 : decode cX10_writeAll 100 = .ok (.iconst 0, 1) := by decide +kernel
theorem dX10_writeAll_101 : decode cX10_writeAll 101 = .ok (.istore_n 1, 1) := by decide +kernel
theorem dX10_writeAll_102 : decode cX10_writeAll 102 = .ok (.iload_n 1, 1) := by decide +kernel
theorem dX10_writeAll_103 : decode cX10_writeAll 103 = .ok (.aload_n 0, 1) := by decide +kernel
theorem dX10_writeAll_104 : decode cX10_writeAll 104 = .ok (.getfield 9, 3) := by decide +kernel
theorem dX10_writeAll_107 : decode cX10_writeAll 107 = .ok (.getfield 67, 3) := by decide +kernel
theorem dX10_writeAll_110 : decode cX10_writeAll 110 = .ok (.getfield 51, 3) := by decide +kernel
theorem dX10_writeAll_113 : decode cX10_writeAll 113 = .ok (.if_icmp .ge 14, 3) := by decide +kernel
theorem dX10_writeAll_116 : decode cX10_writeAll 116 = .ok (.aload_n 0, 1) := by decide +kernel
theorem dX10_writeAll_117 : decode cX10_writeAll 117 = .ok (.iload_n 1, 1) := by decide +kernel
theorem dX10_writeAll_118 : decode cX10_writeAll 118 = .ok (.invokevirtual 80, 3) := by decide +kernel
theorem dX10_writeAll_121 : decode cX10_writeAll 121 = .ok (.iinc 1 1, 3) := by decide +kernel
theorem dX10_writeAll_124 : decode cX10_writeAll 124 = .ok (.goto (-22), 3) := by decide +kernel
theorem dX10_writeAll_127 : decode cX10_writeAll 127 = .ok (.aload_n 0, 1) := by decide +kernel
theorem dX10_writeAll_128 : decode cX10_writeAll 128 = .ok (.invokevirtual 83, 3) := by decide +kernel
theorem dX10_writeAll_131 : decode cX10_writeAll 131 = .ok (.aload_n 0, 1) := by decide +kernel
theorem dX10_writeAll_132 : decode cX10_writeAll 132 = .ok (.invokevirtual 86, 3) := by decide +kernel
theorem dX10_writeAll_135 : decode cX10_writeAll 135 = .ok (.aload_n 0, 1) := by decide +kernel
theorem dX10_writeAll_136 : decode cX10_writeAll 136 = .ok (.invokevirtual 89, 3) := by decide +kernel
theorem dX10_writeAll_139 : decode cX10_writeAll 139 = .ok (.return_, 1) := by decide +kernel
theorem dX10_layOut_0 : decode cX10_layOut 0 = .ok (.aload_n 0, 1) := by decide +kernel
theorem dX10_layOut_1 : decode cX10_layOut 1 = .ok (.bipush 72, 2) := by decide +kernel
theorem dX10_layOut_3 : decode cX10_layOut 3 = .ok (.aload_n 0, 1) := by decide +kernel
theorem dX10_layOut_4 : decode cX10_layOut 4 = .ok (.getfield 9, 3) := by decide +kernel
theorem dX10_layOut_7 : decode cX10_layOut 7 = .ok (.getfield 67, 3) := by decide +kernel
theorem dX10_layOut_10 : decode cX10_layOut 10 = .ok (.getfield 51, 3) := by decide +kernel
theorem dX10_layOut_13 : decode cX10_layOut 13 = .ok (.imul, 1) := by decide +kernel
theorem dX10_layOut_14 : decode cX10_layOut 14 = .ok (.bipush 80, 2) := by decide +kernel
theorem dX10_layOut_16 : decode cX10_layOut 16 = .ok (.aload_n 0, 1) := by decide +kernel
theorem dX10_layOut_17 : decode cX10_layOut 17 = .ok (.getfield 9, 3) := by decide +kernel
theorem dX10_layOut_20 : decode cX10_layOut 20 = .ok (.getfield 92, 3) := by decide +kernel
theorem dX10_layOut_23 : decode cX10_layOut 23 = .ok (.getfield 51, 3) := by decide +kernel
theorem dX10_layOut_26 : decode cX10_layOut 26 = .ok (.imul, 1) := by decide +kernel
theorem dX10_layOut_27 : decode cX10_layOut 27 = .ok (.iadd, 1) := by decide +kernel
theorem dX10_layOut_28 : decode cX10_layOut 28 = .ok (.bipush 24, 2) := by decide +kernel
theorem dX10_layOut_30 : decode cX10_layOut 30 = .ok (.iadd, 1) := by decide +kernel
theorem dX10_layOut_31 : decode cX10_layOut 31 = .ok (.bipush 16, 2) := by decide +kernel
theorem dX10_layOut_33 : decode cX10_layOut 33 = .ok (.iadd, 1) := by decide +kernel
theorem dX10_layOut_34 : decode cX10_layOut 34 = .ok (.putfield 95, 3) := by decide +kernel
theorem dX10_layOut_37 : decode cX10_layOut 37 = .ok (.bipush 32, 2) := by decide +kernel
theorem dX10_layOut_39 : decode cX10_layOut 39 = .ok (.aload_n 0, 1) := by decide +kernel
theorem dX10_layOut_40 : decode cX10_layOut 40 = .ok (.getfield 95, 3) := by decide +kernel
theorem dX10_layOut_43 : decode cX10_layOut 43 = .ok (.iadd, 1) := by decide +kernel
theorem dX10_layOut_44 : decode cX10_layOut 44 = .ok (.istore_n 1, 1) := by decide +kernel
theorem dX10_layOut_45 : decode cX10_layOut 45 = .ok (.iconst 0, 1) := by decide +kernel
theorem dX10_layOut_46 : decode cX10_layOut 46 = .ok (.istore_n 2, 1) := by decide +kernel
theorem dX10_layOut_47 : decode cX10_layOut 47 = .ok (.iload_n 2, 1) := by decide +kernel
theorem dX10_layOut_48 : decode cX10_layOut 48 = .ok (.aload_n 0, 1) := by decide +kernel
theorem dX10_layOut_49 : decode cX10_layOut 49 = .ok (.getfield 9, 3) := by decide +kernel
theorem dX10_layOut_52 : decode cX10_layOut 52 = .ok (.getfield 67, 3) := by decide +kernel
theorem dX10_layOut_55 : decode cX10_layOut 55 = .ok (.getfield 51, 3) := by decide +kernel
theorem dX10_layOut_58 : decode cX10_layOut 58 = .ok (.if_icmp .ge 38, 3) := by decide +kernel
theorem dX10_layOut_61 : decode cX10_layOut 61 = .ok (.aload_n 0, 1) := by decide +kernel
theorem dX10_layOut_62 : decode cX10_layOut 62 = .ok (.getfield 19, 3) := by decide +kernel
theorem dX10_layOut_65 : decode cX10_layOut 65 = .ok (.iload_n 2, 1) := by decide +kernel
theorem dX10_layOut_66 : decode cX10_layOut 66 = .ok (.iload_n 1, 1) := by decide +kernel
theorem dX10_layOut_67 : decode cX10_layOut 67 = .ok (.bipush 8, 2) := by decide +kernel
theorem dX10_layOut_69 : decode cX10_layOut 69 = .ok (.invokestatic 39, 3) := by decide +kernel
theorem dX10_layOut_72 : decode cX10_layOut 72 = .ok (.iastore, 1) := by decide +kernel
theorem dX10_layOut_73 : decode cX10_layOut 73 = .ok (.aload_n 0, 1) := by decide +kernel
theorem dX10_layOut_74 : decode cX10_layOut 74 = .ok (.getfield 19, 3) := by decide +kernel
theorem dX10_layOut_77 : decode cX10_layOut 77 = .ok (.iload_n 2, 1) := by decide +kernel
theorem dX10_layOut_78 : decode cX10_layOut 78 = .ok (.iaload, 1) := by decide +kernel
theorem dX10_layOut_79 : decode cX10_layOut 79 = .ok (.aload_n 0, 1) := by decide +kernel
theorem dX10_layOut_80 : decode cX10_layOut 80 = .ok (.getfield 9, 3) := by decide +kernel
theorem dX10_layOut_83 : decode cX10_layOut 83 = .ok (.getfield 98, 3) := by decide +kernel
theorem dX10_layOut_86 : decode cX10_layOut 86 = .ok (.iload_n 2, 1) := by decide +kernel
theorem dX10_layOut_87 : decode cX10_layOut 87 = .ok (.iaload, 1) := by decide +kernel
theorem dX10_layOut_88 : decode cX10_layOut 88 = .ok (.iadd, 1) := by decide +kernel
theorem dX10_layOut_89 : decode cX10_layOut 89 = .ok (.istore_n 1, 1) := by decide +kernel
theorem dX10_layOut_90 : decode cX10_layOut 90 = .ok (.iinc 2 1, 3) := by decide +kernel
theorem dX10_layOut_93 : decode cX10_layOut 93 = .ok (.goto (-46), 3) := by decide +kernel
theorem dX10_layOut_96 : decode cX10_layOut 96 = .ok (.aload_n 0, 1) := by decide +kernel
theorem dX10_layOut_97 : decode cX10_layOut 97 = .ok (.iload_n 1, 1) := by decide +kernel
theorem dX10_layOut_98 : decode cX10_layOut 98 = .ok (.bipush 8, 2) := by decide +kernel
theorem dX10_layOut_100 : decode cX10_layOut 100 = .ok (.invokestatic 39, 3) := by decide +kernel
theorem dX10_layOut_103 : decode cX10_layOut 103 = .ok (.putfield 32, 3) := by decide +kernel
theorem dX10_layOut_106 : decode cX10_layOut 106 = .ok (.return_, 1) := by decide +kernel
theorem dX10_layOutFixups_0 : decode cX10_layOutFixups 0 = .ok (.bipush 32, 2) := by decide +kernel
theorem dX10_layOutFixups_2 : decode cX10_layOutFixups 2 = .ok (.iconst 4, 1) := by decide +kernel
theorem dX10_layOutFixups_3 : decode cX10_layOutFixups 3 = .ok (.aload_n 0, 1) := by decide +kernel
theorem dX10_layOutFixups_4 : decode cX10_layOutFixups 4 = .ok (.getfield 9, 3) := by decide +kernel
theorem dX10_layOutFixups_7 : decode cX10_layOutFixups 7 = .ok (.getfield 67, 3) := by decide +kernel
theorem dX10_layOutFixups_10 : decode cX10_layOutFixups 10 = .ok (.getfield 51, 3) := by decide +kernel
theorem dX10_layOutFixups_13 : decode cX10_layOutFixups 13 = .ok (.imul, 1) := by decide +kernel
theorem dX10_layOutFixups_14 : decode cX10_layOutFixups 14 = .ok (.iadd, 1) := by decide +kernel
theorem dX10_layOutFixups_15 : decode cX10_layOutFixups 15 = .ok (.istore_n 1, 1) := by decide +kernel
theorem dX10_layOutFixups_16 : decode cX10_layOutFixups 16 = .ok (.iconst 0, 1) := by decide +kernel
theorem dX10_layOutFixups_17 : decode cX10_layOutFixups 17 = .ok (.istore_n 2, 1) := by decide +kernel
theorem dX10_layOutFixups_18 : decode cX10_layOutFixups 18 = .ok (.iload_n 2, 1) := by decide +kernel
theorem dX10_layOutFixups_19 : decode cX10_layOutFixups 19 = .ok (.aload_n 0, 1) := by decide +kernel
theorem dX10_layOutFixups_20 : decode cX10_layOutFixups 20 = .ok (.getfield 9, 3) := by decide +kernel
theorem dX10_layOutFixups_23 : decode cX10_layOutFixups 23 = .ok (.getfield 67, 3) := by decide +kernel
theorem dX10_layOutFixups_26 : decode cX10_layOutFixups 26 = .ok (.getfield 51, 3) := by decide +kernel
theorem dX10_layOutFixups_29 : decode cX10_layOutFixups 29 = .ok (.if_icmp .ge 74, 3) := by decide +kernel
theorem dX10_layOutFixups_32 : decode cX10_layOutFixups 32 = .ok (.aload_n 0, 1) := by decide +kernel
theorem dX10_layOutFixups_33 : decode cX10_layOutFixups 33 = .ok (.getfield 23, 3) := by decide +kernel
theorem dX10_layOutFixups_36 : decode cX10_layOutFixups 36 = .ok (.iload_n 2, 1) := by decide +kernel
theorem dX10_layOutFixups_37 : decode cX10_layOutFixups 37 = .ok (.iconst 0, 1) := by decide +kernel
theorem dX10_layOutFixups_38 : decode cX10_layOutFixups 38 = .ok (.iastore, 1) := by decide +kernel
theorem dX10_layOutFixups_39 : decode cX10_layOutFixups 39 = .ok (.aload_n 0, 1) := by decide +kernel
theorem dX10_layOutFixups_40 : decode cX10_layOutFixups 40 = .ok (.getfield 9, 3) := by decide +kernel
theorem dX10_layOutFixups_43 : decode cX10_layOutFixups 43 = .ok (.iload_n 2, 1) := by decide +kernel
theorem dX10_layOutFixups_44 : decode cX10_layOutFixups 44 = .ok (.iconst 0, 1) := by decide +kernel
theorem dX10_layOutFixups_45 : decode cX10_layOutFixups 45 = .ok (.sipush 1024, 3) := by decide +kernel
theorem dX10_layOutFixups_48 : decode cX10_layOutFixups 48 = .ok (.invokevirtual 101, 3) := by decide +kernel
theorem dX10_layOutFixups_51 : decode cX10_layOutFixups 51 = .ok (.iconst (-1), 1) := by decide +kernel
theorem dX10_layOutFixups_52 : decode cX10_layOutFixups 52 = .ok (.if_icmp .eq 45, 3) := by decide +kernel
theorem dX10_layOutFixups_55 : decode cX10_layOutFixups 55 = .ok (.iload_n 1, 1) := by decide +kernel
theorem dX10_layOutFixups_56 : decode cX10_layOutFixups 56 = .ok (.iconst 4, 1) := by decide +kernel
theorem dX10_layOutFixups_57 : decode cX10_layOutFixups 57 = .ok (.invokestatic 39, 3) := by decide +kernel
theorem dX10_layOutFixups_60 : decode cX10_layOutFixups 60 = .ok (.istore_n 1, 1) := by decide +kernel
theorem dX10_layOutFixups_61 : decode cX10_layOutFixups 61 = .ok (.aload_n 0, 1) := by decide +kernel
theorem dX10_layOutFixups_62 : decode cX10_layOutFixups 62 = .ok (.getfield 23, 3) := by decide +kernel
theorem dX10_layOutFixups_65 : decode cX10_layOutFixups 65 = .ok (.iload_n 2, 1) := by decide +kernel
theorem dX10_layOutFixups_66 : decode cX10_layOutFixups 66 = .ok (.iload_n 1, 1) := by decide +kernel
theorem dX10_layOutFixups_67 : decode cX10_layOutFixups 67 = .ok (.bipush 28, 2) := by decide +kernel
theorem dX10_layOutFixups_69 : decode cX10_layOutFixups 69 = .ok (.isub, 1) := by decide +kernel
theorem dX10_layOutFixups_70 : decode cX10_layOutFixups 70 = .ok (.iastore, 1) := by decide +kernel
theorem dX10_layOutFixups_71 : decode cX10_layOutFixups 71 = .ok (.iload_n 1, 1) := by decide +kernel
theorem dX10_layOutFixups_72 : decode cX10_layOutFixups 72 = .ok (.bipush 22, 2) := by decide +kernel
theorem dX10_layOutFixups_74 : decode cX10_layOutFixups 74 = .ok (.iconst 2, 1) := by decide +kernel
theorem dX10_layOutFixups_75 : decode cX10_layOutFixups 75 = .ok (.aload_n 0, 1) := by decide +kernel
theorem dX10_layOutFixups_76 : decode cX10_layOutFixups 76 = .ok (.getfield 9, 3) := by decide +kernel
theorem dX10_layOutFixups_79 : decode cX10_layOutFixups 79 = .ok (.iload_n 2, 1) := by decide +kernel
theorem dX10_layOutFixups_80 : decode cX10_layOutFixups 80 = .ok (.invokevirtual 105, 3) := by decide +kernel
theorem dX10_layOutFixups_83 : decode cX10_layOutFixups 83 = .ok (.aload_n 0, 1) := by decide +kernel
theorem dX10_layOutFixups_84 : decode cX10_layOutFixups 84 = .ok (.getfield 9, 3) := by decide +kernel
theorem dX10_layOutFixups_87 : decode cX10_layOutFixups 87 = .ok (.getfield 109, 3) := by decide +kernel
theorem dX10_layOutFixups_90 : decode cX10_layOutFixups 90 = .ok (.invokestatic 112, 3) := by decide +kernel
theorem dX10_layOutFixups_93 : decode cX10_layOutFixups 93 = .ok (.imul, 1) := by decide +kernel
theorem dX10_layOutFixups_94 : decode cX10_layOutFixups 94 = .ok (.iadd, 1) := by decide +kernel
theorem dX10_layOutFixups_95 : decode cX10_layOutFixups 95 = .ok (.iadd, 1) := by decide +kernel
theorem dX10_layOutFixups_96 : decode cX10_layOutFixups 96 = .ok (.istore_n 1, 1) := by decide +kernel
theorem dX10_layOutFixups_97 : decode cX10_layOutFixups 97 = .ok (.iinc 2 1, 3) := by decide +kernel
theorem dX10_layOutFixups_100 : decode cX10_layOutFixups 100 = .ok (.goto (-82), 3) := by decide +kernel
theorem dX10_layOutFixups_103 : decode cX10_layOutFixups 103 = .ok (.aload_n 0, 1) := by decide +kernel
theorem dX10_layOutFixups_104 : decode cX10_layOutFixups 104 = .ok (.iload_n 1, 1) := by decide +kernel
theorem dX10_layOutFixups_105 : decode cX10_layOutFixups 105 = .ok (.iconst 4, 1) := by decide +kernel
theorem dX10_layOutFixups_106 : decode cX10_layOutFixups 106 = .ok (.invokestatic 39, 3) := by decide +kernel
theorem dX10_layOutFixups_109 : decode cX10_layOutFixups 109 = .ok (.putfield 115, 3) := by decide +kernel
theorem dX10_layOutFixups_112 : decode cX10_layOutFixups 112 = .ok (.aload_n 0, 1) := by decide +kernel
theorem dX10_layOutFixups_113 : decode cX10_layOutFixups 113 = .ok (.aload_n 0, 1) := by decide +kernel
theorem dX10_layOutFixups_114 : decode cX10_layOutFixups 114 = .ok (.getfield 115, 3) := by decide +kernel
theorem dX10_layOutFixups_117 : decode cX10_layOutFixups 117 = .ok (.iconst 4, 1) := by decide +kernel
theorem dX10_layOutFixups_118 : decode cX10_layOutFixups 118 = .ok (.aload_n 0, 1) := by decide +kernel
theorem dX10_layOutFixups_119 : decode cX10_layOutFixups 119 = .ok (.getfield 9, 3) := by decide +kernel
theorem dX10_layOutFixups_122 : decode cX10_layOutFixups 122 = .ok (.getfield 118, 3) := by decide +kernel
theorem dX10_layOutFixups_125 : decode cX10_layOutFixups 125 = .ok (.getfield 51, 3) := by decide +kernel
theorem dX10_layOutFixups_128 : decode cX10_layOutFixups 128 = .ok (.imul, 1) := by decide +kernel
theorem dX10_layOutFixups_129 : decode cX10_layOutFixups 129 = .ok (.iadd, 1) := by decide +kernel
theorem dX10_layOutFixups_130 : decode cX10_layOutFixups 130 = .ok (.putfield 121, 3) := by decide +kernel
theorem dX10_layOutFixups_133 : decode cX10_layOutFixups 133 = .ok (.aload_n 0, 1) := by decide +kernel
theorem dX10_layOutFixups_134 : decode cX10_layOutFixups 134 = .ok (.aload_n 0, 1) := by decide +kernel
theorem dX10_layOutFixups_135 : decode cX10_layOutFixups 135 = .ok (.getfield 121, 3) := by decide +kernel
theorem dX10_layOutFixups_138 : decode cX10_layOutFixups 138 = .ok (.aload_n 0, 1) := by decide +kernel
theorem dX10_layOutFixups_139 : decode cX10_layOutFixups 139 = .ok (.getfield 9, 3) := by decide +kernel
theorem dX10_layOutFixups_142 : decode cX10_layOutFixups 142 = .ok (.getfield 118, 3) := by decide +kernel
theorem dX10_layOutFixups_145 : decode cX10_layOutFixups 145 = .ok (.invokevirtual 124, 3) := by decide +kernel
theorem dX10_layOutFixups_148 : decode cX10_layOutFixups 148 = .ok (.iadd, 1) := by decide +kernel
theorem dX10_layOutFixups_149 : decode cX10_layOutFixups 149 = .ok (.putfield 36, 3) := by decide +kernel
theorem dX10_layOutFixups_152 : decode cX10_layOutFixups 152 = .ok (.return_, 1) := by decide +kernel
theorem dX10_addHead_0 : decode cX10_addHead 0 = .ok (.aload_n 0, 1) := by decide +kernel
theorem dX10_addHead_1 : decode cX10_addHead 1 = .ok (.getfield 15, 3) := by decide +kernel
theorem dX10_addHead_4 : decode cX10_addHead 4 = .ok (.iconst 4, 1) := by decide +kernel
theorem dX10_addHead_5 : decode cX10_addHead 5 = .ok (.ldc2_w 128, 3) := by decide +kernel
theorem dX10_addHead_8 : decode cX10_addHead 8 = .ok (.invokevirtual 130, 3) := by decide +kernel
theorem dX10_addHead_11 : decode cX10_addHead 11 = .ok (.aload_n 0, 1) := by decide +kernel
theorem dX10_addHead_12 : decode cX10_addHead 12 = .ok (.getfield 15, 3) := by decide +kernel
theorem dX10_addHead_15 : decode cX10_addHead 15 = .ok (.iconst 4, 1) := by decide +kernel
theorem dX10_addHead_16 : decode cX10_addHead 16 = .ok (.ldc2_w 134, 3) := by decide +kernel
theorem dX10_addHead_19 : decode cX10_addHead 19 = .ok (.invokevirtual 130, 3) := by decide +kernel
theorem dX10_addHead_22 : decode cX10_addHead 22 = .ok (.aload_n 0, 1) := by decide +kernel
theorem dX10_addHead_23 : decode cX10_addHead 23 = .ok (.getfield 15, 3) := by decide +kernel
theorem dX10_addHead_26 : decode cX10_addHead 26 = .ok (.iconst 4, 1) := by decide +kernel
theorem dX10_addHead_27 : decode cX10_addHead 27 = .ok (.lconst 0, 1) := by decide +kernel
theorem dX10_addHead_28 : decode cX10_addHead 28 = .ok (.invokevirtual 130, 3) := by decide +kernel
theorem dX10_addHead_31 : decode cX10_addHead 31 = .ok (.aload_n 0, 1) := by decide +kernel
theorem dX10_addHead_32 : decode cX10_addHead 32 = .ok (.getfield 15, 3) := by decide +kernel
theorem dX10_addHead_35 : decode cX10_addHead 35 = .ok (.iconst 4, 1) := by decide +kernel
theorem dX10_addHead_36 : decode cX10_addHead 36 = .ok (.ldc2_w 136, 3) := by decide +kernel
theorem dX10_addHead_39 : decode cX10_addHead 39 = .ok (.invokevirtual 130, 3) := by decide +kernel
theorem dX10_addHead_42 : decode cX10_addHead 42 = .ok (.aload_n 0, 1) := by decide +kernel
theorem dX10_addHead_43 : decode cX10_addHead 43 = .ok (.getfield 15, 3) := by decide +kernel
theorem dX10_addHead_46 : decode cX10_addHead 46 = .ok (.iconst 4, 1) := by decide +kernel
theorem dX10_addHead_47 : decode cX10_addHead 47 = .ok (.aload_n 0, 1) := by decide +kernel
theorem dX10_addHead_48 : decode cX10_addHead 48 = .ok (.getfield 9, 3) := by decide +kernel
theorem dX10_addHead_51 : decode cX10_addHead 51 = .ok (.getfield 67, 3) := by decide +kernel
theorem dX10_addHead_54 : decode cX10_addHead 54 = .ok (.getfield 51, 3) := by decide +kernel
theorem dX10_addHead_57 : decode cX10_addHead 57 = .ok (.iconst 2, 1) := by decide +kernel
theorem dX10_addHead_58 : decode cX10_addHead 58 = .ok (.iadd, 1) := by decide +kernel
theorem dX10_addHead_59 : decode cX10_addHead 59 = .ok (.i2l, 1) := by decide +kernel
theorem dX10_addHead_60 : decode cX10_addHead 60 = .ok (.invokevirtual 130, 3) := by decide +kernel
theorem dX10_addHead_63 : decode cX10_addHead 63 = .ok (.aload_n 0, 1) := by decide +kernel
theorem dX10_addHead_64 : decode cX10_addHead 64 = .ok (.getfield 15, 3) := by decide +kernel
theorem dX10_addHead_67 : decode cX10_addHead 67 = .ok (.iconst 4, 1) := by decide +kernel
theorem dX10_addHead_68 : decode cX10_addHead 68 = .ok (.aload_n 0, 1) := by decide +kernel
theorem dX10_addHead_69 : decode cX10_addHead 69 = .ok (.getfield 95, 3) := by decide +kernel
theorem dX10_addHead_72 : decode cX10_addHead 72 = .ok (.i2l, 1) := by decide +kernel
theorem dX10_addHead_73 : decode cX10_addHead 73 = .ok (.invokevirtual 130, 3) := by decide +kernel
theorem dX10_addHead_76 : decode cX10_addHead 76 = .ok (.aload_n 0, 1) := by decide +kernel
theorem dX10_addHead_77 : decode cX10_addHead 77 = .ok (.getfield 15, 3) := by decide +kernel
theorem dX10_addHead_80 : decode cX10_addHead 80 = .ok (.iconst 4, 1) := by decide +kernel
theorem dX10_addHead_81 : decode cX10_addHead 81 = .ok (.ldc2_w 138, 3) := by decide +kernel
theorem dX10_addHead_84 : decode cX10_addHead 84 = .ok (.invokevirtual 130, 3) := by decide +kernel
theorem dX10_addHead_87 : decode cX10_addHead 87 = .ok (.aload_n 0, 1) := by decide +kernel
theorem dX10_addHead_88 : decode cX10_addHead 88 = .ok (.getfield 15, 3) := by decide +kernel
theorem dX10_addHead_91 : decode cX10_addHead 91 = .ok (.iconst 4, 1) := by decide +kernel
theorem dX10_addHead_92 : decode cX10_addHead 92 = .ok (.lconst 0, 1) := by decide +kernel
theorem dX10_addHead_93 : decode cX10_addHead 93 = .ok (.invokevirtual 130, 3) := by decide +kernel
theorem dX10_addHead_96 : decode cX10_addHead 96 = .ok (.return_, 1) := by decide +kernel
