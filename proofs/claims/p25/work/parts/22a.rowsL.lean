theorem dL_cell_0 : decode cL_cell 0 = .ok (.iload_n 1, 1) := by decide +kernel
theorem dL_cell_1 : decode cL_cell 1 = .ok (.aload_n 0, 1) := by decide +kernel
theorem dL_cell_2 : decode cL_cell 2 = .ok (.arraylength, 1) := by decide +kernel
theorem dL_cell_3 : decode cL_cell 3 = .ok (.if_icmp .ge 9, 3) := by decide +kernel
theorem dL_cell_6 : decode cL_cell 6 = .ok (.aload_n 0, 1) := by decide +kernel
theorem dL_cell_7 : decode cL_cell 7 = .ok (.iload_n 1, 1) := by decide +kernel
theorem dL_cell_8 : decode cL_cell 8 = .ok (.iaload, 1) := by decide +kernel
theorem dL_cell_9 : decode cL_cell 9 = .ok (.goto 20, 3) := by decide +kernel
theorem dL_cell_12 : decode cL_cell 12 = .ok (.ldc2_w 7, 3) := by decide +kernel
theorem dL_cell_15 : decode cL_cell 15 = .ok (.iload_n 1, 1) := by decide +kernel
theorem dL_cell_16 : decode cL_cell 16 = .ok (.bipush 15, 2) := by decide +kernel
theorem dL_cell_18 : decode cL_cell 18 = .ok (.iadd, 1) := by decide +kernel
theorem dL_cell_19 : decode cL_cell 19 = .ok (.i2l, 1) := by decide +kernel
theorem dL_cell_20 : decode cL_cell 20 = .ok (.lmul, 1) := by decide +kernel
theorem dL_cell_21 : decode cL_cell 21 = .ok (.iconst 5, 1) := by decide +kernel
theorem dL_cell_22 : decode cL_cell 22 = .ok (.lushr, 1) := by decide +kernel
theorem dL_cell_23 : decode cL_cell 23 = .ok (.l2i, 1) := by decide +kernel
theorem dL_cell_24 : decode cL_cell 24 = .ok (.iload_n 1, 1) := by decide +kernel
theorem dL_cell_25 : decode cL_cell 25 = .ok (.bipush 11, 2) := by decide +kernel
theorem dL_cell_27 : decode cL_cell 27 = .ok (.ishl, 1) := by decide +kernel
theorem dL_cell_28 : decode cL_cell 28 = .ok (.ixor, 1) := by decide +kernel
theorem dL_cell_29 : decode cL_cell 29 = .ok (.ireturn, 1) := by decide +kernel
theorem dL_some_0 : decode cL_some 0 = .ok (.iload_n 0, 1) := by decide +kernel
theorem dL_some_1 : decode cL_some 1 = .ok (.iconst 2, 1) := by decide +kernel
theorem dL_some_2 : decode cL_some 2 = .ok (.iushr, 1) := by decide +kernel
theorem dL_some_3 : decode cL_some 3 = .ok (.iload_n 1, 1) := by decide +kernel
theorem dL_some_4 : decode cL_some 4 = .ok (.irem, 1) := by decide +kernel
theorem dL_some_5 : decode cL_some 5 = .ok (.ireturn, 1) := by decide +kernel
theorem dL_reach_0 : decode cL_reach 0 = .ok (.aload_n 0, 1) := by decide +kernel
theorem dL_reach_1 : decode cL_reach 1 = .ok (.iload_n 2, 1) := by decide +kernel
theorem dL_reach_2 : decode cL_reach 2 = .ok (.iaload, 1) := by decide +kernel
theorem dL_reach_3 : decode cL_reach 3 = .ok (.aload_n 1, 1) := by decide +kernel
theorem dL_reach_4 : decode cL_reach 4 = .ok (.iload_n 3, 1) := by decide +kernel
theorem dL_reach_5 : decode cL_reach 5 = .ok (.iaload, 1) := by decide +kernel
theorem dL_reach_6 : decode cL_reach 6 = .ok (.isub, 1) := by decide +kernel
theorem dL_reach_7 : decode cL_reach 7 = .ok (.istore 4, 2) := by decide +kernel
theorem dL_reach_9 : decode cL_reach 9 = .ok (.iload 4, 2) := by decide +kernel
theorem dL_reach_11 : decode cL_reach 11 = .ok (.ifCond .ge 9, 3) := by decide +kernel
theorem dL_reach_14 : decode cL_reach 14 = .ok (.iload 4, 2) := by decide +kernel
theorem dL_reach_16 : decode cL_reach 16 = .ok (.ineg, 1) := by decide +kernel
theorem dL_reach_17 : decode cL_reach 17 = .ok (.goto 5, 3) := by decide +kernel
theorem dL_reach_20 : decode cL_reach 20 = .ok (.iload 4, 2) := by decide +kernel
theorem dL_reach_22 : decode cL_reach 22 = .ok (.bipush 10, 2) := by decide +kernel
theorem dL_reach_24 : decode cL_reach 24 = .ok (.idiv, 1) := by decide +kernel
theorem dL_reach_25 : decode cL_reach 25 = .ok (.ireturn, 1) := by decide +kernel
theorem dL_lower_0 : decode cL_lower 0 = .ok (.aload_n 0, 1) := by decide +kernel
theorem dL_lower_1 : decode cL_lower 1 = .ok (.aload_n 1, 1) := by decide +kernel
theorem dL_lower_2 : decode cL_lower 2 = .ok (.iload 4, 2) := by decide +kernel
theorem dL_lower_4 : decode cL_lower 4 = .ok (.iload 5, 2) := by decide +kernel
theorem dL_lower_6 : decode cL_lower 6 = .ok (.invokestatic 9, 3) := by decide +kernel
theorem dL_lower_9 : decode cL_lower 9 = .ok (.istore 7, 2) := by decide +kernel
theorem dL_lower_11 : decode cL_lower 11 = .ok (.iconst 0, 1) := by decide +kernel
theorem dL_lower_12 : decode cL_lower 12 = .ok (.istore 8, 2) := by decide +kernel
theorem dL_lower_14 : decode cL_lower 14 = .ok (.iload 8, 2) := by decide +kernel
theorem dL_lower_16 : decode cL_lower 16 = .ok (.bipush 36, 2) := by decide +kernel
theorem dL_lower_18 : decode cL_lower 18 = .ok (.if_icmp .ge 69, 3) := by decide +kernel
theorem dL_lower_21 : decode cL_lower 21 = .ok (.iconst 0, 1) := by decide +kernel
theorem dL_lower_22 : decode cL_lower 22 = .ok (.istore 9, 2) := by decide +kernel
theorem dL_lower_24 : decode cL_lower 24 = .ok (.iload 9, 2) := by decide +kernel
theorem dL_lower_26 : decode cL_lower 26 = .ok (.bipush 12, 2) := by decide +kernel
theorem dL_lower_28 : decode cL_lower 28 = .ok (.if_icmp .ge 53, 3) := by decide +kernel
theorem dL_lower_31 : decode cL_lower 31 = .ok (.iload 8, 2) := by decide +kernel
theorem dL_lower_33 : decode cL_lower 33 = .ok (.iload 9, 2) := by decide +kernel
theorem dL_lower_35 : decode cL_lower 35 = .ok (.iadd, 1) := by decide +kernel
theorem dL_lower_36 : decode cL_lower 36 = .ok (.bipush 36, 2) := by decide +kernel
theorem dL_lower_38 : decode cL_lower 38 = .ok (.if_icmp .ge 43, 3) := by decide +kernel
theorem dL_lower_41 : decode cL_lower 41 = .ok (.iload 7, 2) := by decide +kernel
theorem dL_lower_43 : decode cL_lower 43 = .ok (.iconst 5, 1) := by decide +kernel
theorem dL_lower_44 : decode cL_lower 44 = .ok (.if_icmp .ge 37, 3) := by decide +kernel
theorem dL_lower_47 : decode cL_lower 47 = .ok (.aload 6, 2) := by decide +kernel
theorem dL_lower_49 : decode cL_lower 49 = .ok (.iload 8, 2) := by decide +kernel
theorem dL_lower_51 : decode cL_lower 51 = .ok (.iload 9, 2) := by decide +kernel
theorem dL_lower_53 : decode cL_lower 53 = .ok (.iadd, 1) := by decide +kernel
theorem dL_lower_54 : decode cL_lower 54 = .ok (.dup2, 1) := by decide +kernel
theorem dL_lower_55 : decode cL_lower 55 = .ok (.laload, 1) := by decide +kernel
theorem dL_lower_56 : decode cL_lower 56 = .ok (.aload_n 3, 1) := by decide +kernel
theorem dL_lower_57 : decode cL_lower 57 = .ok (.iload 8, 2) := by decide +kernel
theorem dL_lower_59 : decode cL_lower 59 = .ok (.iaload, 1) := by decide +kernel
theorem dL_lower_60 : decode cL_lower 60 = .ok (.i2l, 1) := by decide +kernel
theorem dL_lower_61 : decode cL_lower 61 = .ok (.aload_n 2, 1) := by decide +kernel
theorem dL_lower_62 : decode cL_lower 62 = .ok (.bipush 12, 2) := by decide +kernel
theorem dL_lower_64 : decode cL_lower 64 = .ok (.iload 7, 2) := by decide +kernel
theorem dL_lower_66 : decode cL_lower 66 = .ok (.imul, 1) := by decide +kernel
theorem dL_lower_67 : decode cL_lower 67 = .ok (.iload 9, 2) := by decide +kernel
theorem dL_lower_69 : decode cL_lower 69 = .ok (.iadd, 1) := by decide +kernel
theorem dL_lower_70 : decode cL_lower 70 = .ok (.iaload, 1) := by decide +kernel
theorem dL_lower_71 : decode cL_lower 71 = .ok (.i2l, 1) := by decide +kernel
theorem dL_lower_72 : decode cL_lower 72 = .ok (.lmul, 1) := by decide +kernel
theorem dL_lower_73 : decode cL_lower 73 = .ok (.ladd, 1) := by decide +kernel
theorem dL_lower_74 : decode cL_lower 74 = .ok (.lastore, 1) := by decide +kernel
theorem dL_lower_75 : decode cL_lower 75 = .ok (.iinc 9 1, 3) := by decide +kernel
theorem dL_lower_78 : decode cL_lower 78 = .ok (.goto (-54), 3) := by decide +kernel
theorem dL_lower_81 : decode cL_lower 81 = .ok (.iinc 8 1, 3) := by decide +kernel
theorem dL_lower_84 : decode cL_lower 84 = .ok (.goto (-70), 3) := by decide +kernel
theorem dL_lower_87 : decode cL_lower 87 = .ok (.return_, 1) := by decide +kernel
theorem dL_lowers_0 : decode cL_lowers 0 = .ok (.iconst 0, 1) := by decide +kernel
theorem dL_lowers_1 : decode cL_lowers 1 = .ok (.istore 11, 2) := by decide +kernel
theorem dL_lowers_3 : decode cL_lowers 3 = .ok (.iload 11, 2) := by decide +kernel
theorem dL_lowers_5 : decode cL_lowers 5 = .ok (.bipush 36, 2) := by decide +kernel
theorem dL_lowers_7 : decode cL_lowers 7 = .ok (.if_icmp .ge 15, 3) := by decide +kernel
theorem dL_lowers_10 : decode cL_lowers 10 = .ok (.aload 10, 2) := by decide +kernel
theorem dL_lowers_12 : decode cL_lowers 12 = .ok (.iload 11, 2) := by decide +kernel
theorem dL_lowers_14 : decode cL_lowers 14 = .ok (.lconst 0, 1) := by decide +kernel
theorem dL_lowers_15 : decode cL_lowers 15 = .ok (.lastore, 1) := by decide +kernel
theorem dL_lowers_16 : decode cL_lowers 16 = .ok (.iinc 11 1, 3) := by decide +kernel
theorem dL_lowers_19 : decode cL_lowers 19 = .ok (.goto (-16), 3) := by decide +kernel
theorem dL_lowers_22 : decode cL_lowers 22 = .ok (.iconst 0, 1) := by decide +kernel
theorem dL_lowers_23 : decode cL_lowers 23 = .ok (.istore 11, 2) := by decide +kernel
theorem dL_lowers_25 : decode cL_lowers 25 = .ok (.iload 11, 2) := by decide +kernel
theorem dL_lowers_27 : decode cL_lowers 27 = .ok (.aload_n 0, 1) := by decide +kernel
theorem dL_lowers_28 : decode cL_lowers 28 = .ok (.iconst 0, 1) := by decide +kernel
theorem dL_lowers_29 : decode cL_lowers 29 = .ok (.iaload, 1) := by decide +kernel
theorem dL_lowers_30 : decode cL_lowers 30 = .ok (.if_icmp .ge 66, 3) := by decide +kernel
theorem dL_lowers_33 : decode cL_lowers 33 = .ok (.aload_n 1, 1) := by decide +kernel
theorem dL_lowers_34 : decode cL_lowers 34 = .ok (.aload_n 2, 1) := by decide +kernel
theorem dL_lowers_35 : decode cL_lowers 35 = .ok (.aload_n 3, 1) := by decide +kernel
theorem dL_lowers_36 : decode cL_lowers 36 = .ok (.iload 11, 2) := by decide +kernel
theorem dL_lowers_38 : decode cL_lowers 38 = .ok (.ifCond .ne 8, 3) := by decide +kernel
theorem dL_lowers_41 : decode cL_lowers 41 = .ok (.aload 4, 2) := by decide +kernel
theorem dL_lowers_43 : decode cL_lowers 43 = .ok (.goto 38, 3) := by decide +kernel
theorem dL_lowers_46 : decode cL_lowers 46 = .ok (.iload 11, 2) := by decide +kernel
theorem dL_lowers_48 : decode cL_lowers 48 = .ok (.iconst 1, 1) := by decide +kernel
theorem dL_lowers_49 : decode cL_lowers 49 = .ok (.if_icmp .ne 8, 3) := by decide +kernel
theorem dL_lowers_52 : decode cL_lowers 52 = .ok (.aload 5, 2) := by decide +kernel
theorem dL_lowers_54 : decode cL_lowers 54 = .ok (.goto 27, 3) := by decide +kernel
theorem dL_lowers_57 : decode cL_lowers 57 = .ok (.iload 11, 2) := by decide +kernel
theorem dL_lowers_59 : decode cL_lowers 59 = .ok (.iconst 2, 1) := by decide +kernel
theorem dL_lowers_60 : decode cL_lowers 60 = .ok (.if_icmp .ne 8, 3) := by decide +kernel
theorem dL_lowers_63 : decode cL_lowers 63 = .ok (.aload 6, 2) := by decide +kernel
theorem dL_lowers_65 : decode cL_lowers 65 = .ok (.goto 16, 3) := by decide +kernel
theorem dL_lowers_68 : decode cL_lowers 68 = .ok (.iload 11, 2) := by decide +kernel
theorem dL_lowers_70 : decode cL_lowers 70 = .ok (.iconst 3, 1) := by decide +kernel
theorem dL_lowers_71 : decode cL_lowers 71 = .ok (.if_icmp .ne 8, 3) := by decide +kernel
theorem dL_lowers_74 : decode cL_lowers 74 = .ok (.aload 7, 2) := by decide +kernel
theorem dL_lowers_76 : decode cL_lowers 76 = .ok (.goto 5, 3) := by decide +kernel
theorem dL_lowers_79 : decode cL_lowers 79 = .ok (.aload 8, 2) := by decide +kernel
theorem dL_lowers_81 : decode cL_lowers 81 = .ok (.iload 11, 2) := by decide +kernel
theorem dL_lowers_83 : decode cL_lowers 83 = .ok (.iload 9, 2) := by decide +kernel
theorem dL_lowers_85 : decode cL_lowers 85 = .ok (.aload 10, 2) := by decide +kernel
theorem dL_lowers_87 : decode cL_lowers 87 = .ok (.invokestatic 15, 3) := by decide +kernel
theorem dL_lowers_90 : decode cL_lowers 90 = .ok (.iinc 11 1, 3) := by decide +kernel
theorem dL_lowers_93 : decode cL_lowers 93 = .ok (.goto (-68), 3) := by decide +kernel
theorem dL_lowers_96 : decode cL_lowers 96 = .ok (.return_, 1) := by decide +kernel
theorem dL_takes_0 : decode cL_takes 0 = .ok (.aload_n 0, 1) := by decide +kernel
theorem dL_takes_1 : decode cL_takes 1 = .ok (.iload_n 2, 1) := by decide +kernel
theorem dL_takes_2 : decode cL_takes 2 = .ok (.iaload, 1) := by decide +kernel
theorem dL_takes_3 : decode cL_takes 3 = .ok (.iconst 5, 1) := by decide +kernel
theorem dL_takes_4 : decode cL_takes 4 = .ok (.idiv, 1) := by decide +kernel
theorem dL_takes_5 : decode cL_takes 5 = .ok (.istore 5, 2) := by decide +kernel
theorem dL_takes_7 : decode cL_takes 7 = .ok (.iconst 0, 1) := by decide +kernel
theorem dL_takes_8 : decode cL_takes 8 = .ok (.istore 6, 2) := by decide +kernel
theorem dL_takes_10 : decode cL_takes 10 = .ok (.iload 6, 2) := by decide +kernel
theorem dL_takes_12 : decode cL_takes 12 = .ok (.iload_n 3, 1) := by decide +kernel
theorem dL_takes_13 : decode cL_takes 13 = .ok (.if_icmp .ge 71, 3) := by decide +kernel
theorem dL_takes_16 : decode cL_takes 16 = .ok (.iconst 0, 1) := by decide +kernel
theorem dL_takes_17 : decode cL_takes 17 = .ok (.istore 7, 2) := by decide +kernel
theorem dL_takes_19 : decode cL_takes 19 = .ok (.iload 7, 2) := by decide +kernel
theorem dL_takes_21 : decode cL_takes 21 = .ok (.iconst 2, 1) := by decide +kernel
theorem dL_takes_22 : decode cL_takes 22 = .ok (.if_icmp .ge 56, 3) := by decide +kernel
theorem dL_takes_25 : decode cL_takes 25 = .ok (.iload 6, 2) := by decide +kernel
theorem dL_takes_27 : decode cL_takes 27 = .ok (.iload 5, 2) := by decide +kernel
theorem dL_takes_29 : decode cL_takes 29 = .ok (.iadd, 1) := by decide +kernel
theorem dL_takes_30 : decode cL_takes 30 = .ok (.iload 7, 2) := by decide +kernel
theorem dL_takes_32 : decode cL_takes 32 = .ok (.iadd, 1) := by decide +kernel
theorem dL_takes_33 : decode cL_takes 33 = .ok (.istore 8, 2) := by decide +kernel
theorem dL_takes_35 : decode cL_takes 35 = .ok (.iload 8, 2) := by decide +kernel
theorem dL_takes_37 : decode cL_takes 37 = .ok (.bipush 36, 2) := by decide +kernel
theorem dL_takes_39 : decode cL_takes 39 = .ok (.if_icmp .ge 33, 3) := by decide +kernel
theorem dL_takes_42 : decode cL_takes 42 = .ok (.aload 4, 2) := by decide +kernel
theorem dL_takes_44 : decode cL_takes 44 = .ok (.iload 8, 2) := by decide +kernel
theorem dL_takes_46 : decode cL_takes 46 = .ok (.dup2, 1) := by decide +kernel
theorem dL_takes_47 : decode cL_takes 47 = .ok (.iaload, 1) := by decide +kernel
theorem dL_takes_48 : decode cL_takes 48 = .ok (.aload_n 1, 1) := by decide +kernel
theorem dL_takes_49 : decode cL_takes 49 = .ok (.iload 6, 2) := by decide +kernel
theorem dL_takes_51 : decode cL_takes 51 = .ok (.iaload, 1) := by decide +kernel
theorem dL_takes_52 : decode cL_takes 52 = .ok (.iconst 2, 1) := by decide +kernel
theorem dL_takes_53 : decode cL_takes 53 = .ok (.idiv, 1) := by decide +kernel
theorem dL_takes_54 : decode cL_takes 54 = .ok (.iload 7, 2) := by decide +kernel
theorem dL_takes_56 : decode cL_takes 56 = .ok (.ifCond .ne 12, 3) := by decide +kernel
theorem dL_takes_59 : decode cL_takes 59 = .ok (.aload_n 1, 1) := by decide +kernel
theorem dL_takes_60 : decode cL_takes 60 = .ok (.iload 6, 2) := by decide +kernel
theorem dL_takes_62 : decode cL_takes 62 = .ok (.iaload, 1) := by decide +kernel
theorem dL_takes_63 : decode cL_takes 63 = .ok (.iconst 2, 1) := by decide +kernel
theorem dL_takes_64 : decode cL_takes 64 = .ok (.irem, 1) := by decide +kernel
theorem dL_takes_65 : decode cL_takes 65 = .ok (.goto 4, 3) := by decide +kernel
theorem dL_takes_68 : decode cL_takes 68 = .ok (.iconst 0, 1) := by decide +kernel
theorem dL_takes_69 : decode cL_takes 69 = .ok (.iadd, 1) := by decide +kernel
theorem dL_takes_70 : decode cL_takes 70 = .ok (.iadd, 1) := by decide +kernel
theorem dL_takes_71 : decode cL_takes 71 = .ok (.iastore, 1) := by decide +kernel
theorem dL_takes_72 : decode cL_takes 72 = .ok (.iinc 7 1, 3) := by decide +kernel
theorem dL_takes_75 : decode cL_takes 75 = .ok (.goto (-56), 3) := by decide +kernel
theorem dL_takes_78 : decode cL_takes 78 = .ok (.iinc 6 1, 3) := by decide +kernel
theorem dL_takes_81 : decode cL_takes 81 = .ok (.goto (-71), 3) := by decide +kernel
theorem dL_takes_84 : decode cL_takes 84 = .ok (.return_, 1) := by decide +kernel
theorem dL_year_0 : decode cL_year 0 = .ok (.iconst 0, 1) := by decide +kernel
theorem dL_year_1 : decode cL_year 1 = .ok (.istore_n 2, 1) := by decide +kernel
theorem dL_year_2 : decode cL_year 2 = .ok (.iconst 0, 1) := by decide +kernel
theorem dL_year_3 : decode cL_year 3 = .ok (.istore_n 3, 1) := by decide +kernel
theorem dL_year_4 : decode cL_year 4 = .ok (.iload_n 3, 1) := by decide +kernel
theorem dL_year_5 : decode cL_year 5 = .ok (.bipush 36, 2) := by decide +kernel
theorem dL_year_7 : decode cL_year 7 = .ok (.if_icmp .ge 27, 3) := by decide +kernel
theorem dL_year_10 : decode cL_year 10 = .ok (.iload_n 2, 1) := by decide +kernel
theorem dL_year_11 : decode cL_year 11 = .ok (.iload_n 3, 1) := by decide +kernel
theorem dL_year_12 : decode cL_year 12 = .ok (.bipush 12, 2) := by decide +kernel
theorem dL_year_14 : decode cL_year 14 = .ok (.idiv, 1) := by decide +kernel
theorem dL_year_15 : decode cL_year 15 = .ok (.iload_n 1, 1) := by decide +kernel
theorem dL_year_16 : decode cL_year 16 = .ok (.if_icmp .ne 9, 3) := by decide +kernel
theorem dL_year_19 : decode cL_year 19 = .ok (.aload_n 0, 1) := by decide +kernel
theorem dL_year_20 : decode cL_year 20 = .ok (.iload_n 3, 1) := by decide +kernel
theorem dL_year_21 : decode cL_year 21 = .ok (.iaload, 1) := by decide +kernel
theorem dL_year_22 : decode cL_year 22 = .ok (.goto 4, 3) := by decide +kernel
theorem dL_year_25 : decode cL_year 25 = .ok (.iconst 0, 1) := by decide +kernel
theorem dL_year_26 : decode cL_year 26 = .ok (.iadd, 1) := by decide +kernel
theorem dL_year_27 : decode cL_year 27 = .ok (.istore_n 2, 1) := by decide +kernel
theorem dL_year_28 : decode cL_year 28 = .ok (.iinc 3 1, 3) := by decide +kernel
theorem dL_year_31 : decode cL_year 31 = .ok (.goto (-27), 3) := by decide +kernel
theorem dL_year_34 : decode cL_year 34 = .ok (.iload_n 2, 1) := by decide +kernel
theorem dL_year_35 : decode cL_year 35 = .ok (.ireturn, 1) := by decide +kernel
theorem dL_all_0 : decode cL_all 0 = .ok (.iconst 0, 1) := by decide +kernel
theorem dL_all_1 : decode cL_all 1 = .ok (.istore 5, 2) := by decide +kernel
theorem dL_all_3 : decode cL_all 3 = .ok (.aload_n 0, 1) := by decide +kernel
theorem dL_all_4 : decode cL_all 4 = .ok (.aload_n 1, 1) := by decide +kernel
theorem dL_all_5 : decode cL_all 5 = .ok (.iload_n 3, 1) := by decide +kernel
theorem dL_all_6 : decode cL_all 6 = .ok (.iload 4, 2) := by decide +kernel
theorem dL_all_8 : decode cL_all 8 = .ok (.invokestatic 9, 3) := by decide +kernel
theorem dL_all_11 : decode cL_all 11 = .ok (.istore 6, 2) := by decide +kernel
theorem dL_all_13 : decode cL_all 13 = .ok (.iconst 0, 1) := by decide +kernel
theorem dL_all_14 : decode cL_all 14 = .ok (.istore 7, 2) := by decide +kernel
theorem dL_all_16 : decode cL_all 16 = .ok (.iload 7, 2) := by decide +kernel
theorem dL_all_18 : decode cL_all 18 = .ok (.bipush 12, 2) := by decide +kernel
theorem dL_all_20 : decode cL_all 20 = .ok (.if_icmp .ge 30, 3) := by decide +kernel
theorem dL_all_23 : decode cL_all 23 = .ok (.iload 6, 2) := by decide +kernel
theorem dL_all_25 : decode cL_all 25 = .ok (.iconst 5, 1) := by decide +kernel
theorem dL_all_26 : decode cL_all 26 = .ok (.if_icmp .ge 24, 3) := by decide +kernel
theorem dL_all_29 : decode cL_all 29 = .ok (.iload 5, 2) := by decide +kernel
theorem dL_all_31 : decode cL_all 31 = .ok (.aload_n 2, 1) := by decide +kernel
theorem dL_all_32 : decode cL_all 32 = .ok (.bipush 12, 2) := by decide +kernel
theorem dL_all_34 : decode cL_all 34 = .ok (.iload 6, 2) := by decide +kernel
theorem dL_all_36 : decode cL_all 36 = .ok (.imul, 1) := by decide +kernel
theorem dL_all_37 : decode cL_all 37 = .ok (.iload 7, 2) := by decide +kernel
theorem dL_all_39 : decode cL_all 39 = .ok (.iadd, 1) := by decide +kernel
theorem dL_all_40 : decode cL_all 40 = .ok (.iaload, 1) := by decide +kernel
theorem dL_all_41 : decode cL_all 41 = .ok (.iadd, 1) := by decide +kernel
theorem dL_all_42 : decode cL_all 42 = .ok (.istore 5, 2) := by decide +kernel
theorem dL_all_44 : decode cL_all 44 = .ok (.iinc 7 1, 3) := by decide +kernel
theorem dL_all_47 : decode cL_all 47 = .ok (.goto (-31), 3) := by decide +kernel
theorem dL_all_50 : decode cL_all 50 = .ok (.iload 5, 2) := by decide +kernel
theorem dL_all_52 : decode cL_all 52 = .ok (.ireturn, 1) := by decide +kernel
theorem dL_burden_0 : decode cL_burden 0 = .ok (.lconst 0, 1) := by decide +kernel
theorem dL_burden_1 : decode cL_burden 1 = .ok (.lstore 5, 2) := by decide +kernel
theorem dL_burden_3 : decode cL_burden 3 = .ok (.iconst 0, 1) := by decide +kernel
theorem dL_burden_4 : decode cL_burden 4 = .ok (.istore 7, 2) := by decide +kernel
theorem dL_burden_6 : decode cL_burden 6 = .ok (.iload 7, 2) := by decide +kernel
theorem dL_burden_8 : decode cL_burden 8 = .ok (.aload_n 0, 1) := by decide +kernel
theorem dL_burden_9 : decode cL_burden 9 = .ok (.iconst 0, 1) := by decide +kernel
theorem dL_burden_10 : decode cL_burden 10 = .ok (.iaload, 1) := by decide +kernel
theorem dL_burden_11 : decode cL_burden 11 = .ok (.if_icmp .ge 34, 3) := by decide +kernel
theorem dL_burden_14 : decode cL_burden 14 = .ok (.lload 5, 2) := by decide +kernel
theorem dL_burden_16 : decode cL_burden 16 = .ok (.aload_n 1, 1) := by decide +kernel
theorem dL_burden_17 : decode cL_burden 17 = .ok (.bipush 10, 2) := by decide +kernel
theorem dL_burden_19 : decode cL_burden 19 = .ok (.iload 7, 2) := by decide +kernel
theorem dL_burden_21 : decode cL_burden 21 = .ok (.iadd, 1) := by decide +kernel
theorem dL_burden_22 : decode cL_burden 22 = .ok (.iaload, 1) := by decide +kernel
theorem dL_burden_23 : decode cL_burden 23 = .ok (.i2l, 1) := by decide +kernel
theorem dL_burden_24 : decode cL_burden 24 = .ok (.aload_n 1, 1) := by decide +kernel
theorem dL_burden_25 : decode cL_burden 25 = .ok (.aload_n 2, 1) := by decide +kernel
theorem dL_burden_26 : decode cL_burden 26 = .ok (.aload_n 3, 1) := by decide +kernel
theorem dL_burden_27 : decode cL_burden 27 = .ok (.iload 7, 2) := by decide +kernel
theorem dL_burden_29 : decode cL_burden 29 = .ok (.iload 4, 2) := by decide +kernel
theorem dL_burden_31 : decode cL_burden 31 = .ok (.invokestatic 19, 3) := by decide +kernel
theorem dL_burden_34 : decode cL_burden 34 = .ok (.i2l, 1) := by decide +kernel
theorem dL_burden_35 : decode cL_burden 35 = .ok (.lmul, 1) := by decide +kernel
theorem dL_burden_36 : decode cL_burden 36 = .ok (.ladd, 1) := by decide +kernel
theorem dL_burden_37 : decode cL_burden 37 = .ok (.lstore 5, 2) := by decide +kernel
theorem dL_burden_39 : decode cL_burden 39 = .ok (.iinc 7 1, 3) := by decide +kernel
theorem dL_burden_42 : decode cL_burden 42 = .ok (.goto (-36), 3) := by decide +kernel
theorem dL_burden_45 : decode cL_burden 45 = .ok (.lload 5, 2) := by decide +kernel
theorem dL_burden_47 : decode cL_burden 47 = .ok (.lreturn, 1) := by decide +kernel
theorem dL_trades_0 : decode cL_trades 0 = .ok (.iload 7, 2) := by decide +kernel
theorem dL_trades_2 : decode cL_trades 2 = .ok (.aload 4, 2) := by decide +kernel
theorem dL_trades_4 : decode cL_trades 4 = .ok (.iconst 3, 1) := by decide +kernel
theorem dL_trades_5 : decode cL_trades 5 = .ok (.aload_n 1, 1) := by decide +kernel
theorem dL_trades_6 : decode cL_trades 6 = .ok (.iconst 5, 1) := by decide +kernel
theorem dL_trades_7 : decode cL_trades 7 = .ok (.iload 5, 2) := by decide +kernel
theorem dL_trades_9 : decode cL_trades 9 = .ok (.iadd, 1) := by decide +kernel
theorem dL_trades_10 : decode cL_trades 10 = .ok (.iaload, 1) := by decide +kernel
theorem dL_trades_11 : decode cL_trades 11 = .ok (.imul, 1) := by decide +kernel
theorem dL_trades_12 : decode cL_trades 12 = .ok (.aload_n 1, 1) := by decide +kernel
theorem dL_trades_13 : decode cL_trades 13 = .ok (.iconst 5, 1) := by decide +kernel
theorem dL_trades_14 : decode cL_trades 14 = .ok (.iload 6, 2) := by decide +kernel
theorem dL_trades_16 : decode cL_trades 16 = .ok (.iadd, 1) := by decide +kernel
theorem dL_trades_17 : decode cL_trades 17 = .ok (.iaload, 1) := by decide +kernel
theorem dL_trades_18 : decode cL_trades 18 = .ok (.iadd, 1) := by decide +kernel
theorem dL_trades_19 : decode cL_trades 19 = .ok (.iaload, 1) := by decide +kernel
theorem dL_trades_20 : decode cL_trades 20 = .ok (.imul, 1) := by decide +kernel
theorem dL_trades_21 : decode cL_trades 21 = .ok (.bipush 100, 2) := by decide +kernel
theorem dL_trades_23 : decode cL_trades 23 = .ok (.idiv, 1) := by decide +kernel
theorem dL_trades_24 : decode cL_trades 24 = .ok (.istore 8, 2) := by decide +kernel
theorem dL_trades_26 : decode cL_trades 26 = .ok (.aload_n 1, 1) := by decide +kernel
theorem dL_trades_27 : decode cL_trades 27 = .ok (.bipush 10, 2) := by decide +kernel
theorem dL_trades_29 : decode cL_trades 29 = .ok (.iload 5, 2) := by decide +kernel
theorem dL_trades_31 : decode cL_trades 31 = .ok (.iadd, 1) := by decide +kernel
theorem dL_trades_32 : decode cL_trades 32 = .ok (.iaload, 1) := by decide +kernel
theorem dL_trades_33 : decode cL_trades 33 = .ok (.iload 7, 2) := by decide +kernel
theorem dL_trades_35 : decode cL_trades 35 = .ok (.if_icmp .lt 19, 3) := by decide +kernel
theorem dL_trades_38 : decode cL_trades 38 = .ok (.aload_n 1, 1) := by decide +kernel
theorem dL_trades_39 : decode cL_trades 39 = .ok (.bipush 10, 2) := by decide +kernel
theorem dL_trades_41 : decode cL_trades 41 = .ok (.iload 6, 2) := by decide +kernel
theorem dL_trades_43 : decode cL_trades 43 = .ok (.iadd, 1) := by decide +kernel
theorem dL_trades_44 : decode cL_trades 44 = .ok (.iaload, 1) := by decide +kernel
theorem dL_trades_45 : decode cL_trades 45 = .ok (.iload 8, 2) := by decide +kernel
theorem dL_trades_47 : decode cL_trades 47 = .ok (.iadd, 1) := by decide +kernel
theorem dL_trades_48 : decode cL_trades 48 = .ok (.sipush 20000, 3) := by decide +kernel
theorem dL_trades_51 : decode cL_trades 51 = .ok (.if_icmp .le 5, 3) := by decide +kernel
theorem dL_trades_54 : decode cL_trades 54 = .ok (.iconst (-1), 1) := by decide +kernel
theorem dL_trades_55 : decode cL_trades 55 = .ok (.ireturn, 1) := by decide +kernel
theorem dL_trades_56 : decode cL_trades 56 = .ok (.iconst 0, 1) := by decide +kernel
theorem dL_trades_57 : decode cL_trades 57 = .ok (.istore 9, 2) := by decide +kernel
theorem dL_trades_59 : decode cL_trades 59 = .ok (.iconst 0, 1) := by decide +kernel
theorem dL_trades_60 : decode cL_trades 60 = .ok (.istore 10, 2) := by decide +kernel
theorem dL_trades_62 : decode cL_trades 62 = .ok (.iload 10, 2) := by decide +kernel
theorem dL_trades_64 : decode cL_trades 64 = .ok (.aload_n 0, 1) := by decide +kernel
theorem dL_trades_65 : decode cL_trades 65 = .ok (.iconst 1, 1) := by decide +kernel
theorem dL_trades_66 : decode cL_trades 66 = .ok (.iaload, 1) := by decide +kernel
theorem dL_trades_67 : decode cL_trades 67 = .ok (.if_icmp .ge 95, 3) := by decide +kernel
theorem dL_trades_70 : decode cL_trades 70 = .ok (.aload_n 0, 1) := by decide +kernel
theorem dL_trades_71 : decode cL_trades 71 = .ok (.aload_n 1, 1) := by decide +kernel
theorem dL_trades_72 : decode cL_trades 72 = .ok (.aload_n 2, 1) := by decide +kernel
theorem dL_trades_73 : decode cL_trades 73 = .ok (.aload_n 3, 1) := by decide +kernel
theorem dL_trades_74 : decode cL_trades 74 = .ok (.iload 10, 2) := by decide +kernel
theorem dL_trades_76 : decode cL_trades 76 = .ok (.invokestatic 23, 3) := by decide +kernel
theorem dL_trades_79 : decode cL_trades 79 = .ok (.lstore 11, 2) := by decide +kernel
theorem dL_trades_81 : decode cL_trades 81 = .ok (.aload_n 1, 1) := by decide +kernel
theorem dL_trades_82 : decode cL_trades 82 = .ok (.bipush 10, 2) := by decide +kernel
theorem dL_trades_84 : decode cL_trades 84 = .ok (.iload 5, 2) := by decide +kernel
theorem dL_trades_86 : decode cL_trades 86 = .ok (.iadd, 1) := by decide +kernel
theorem dL_trades_87 : decode cL_trades 87 = .ok (.dup2, 1) := by decide +kernel
theorem dL_trades_88 : decode cL_trades 88 = .ok (.iaload, 1) := by decide +kernel
theorem dL_trades_89 : decode cL_trades 89 = .ok (.iload 7, 2) := by decide +kernel
theorem dL_trades_91 : decode cL_trades 91 = .ok (.isub, 1) := by decide +kernel
theorem dL_trades_92 : decode cL_trades 92 = .ok (.iastore, 1) := by decide +kernel
theorem dL_trades_93 : decode cL_trades 93 = .ok (.aload_n 1, 1) := by decide +kernel
theorem dL_trades_94 : decode cL_trades 94 = .ok (.bipush 10, 2) := by decide +kernel
theorem dL_trades_96 : decode cL_trades 96 = .ok (.iload 6, 2) := by decide +kernel
theorem dL_trades_98 : decode cL_trades 98 = .ok (.iadd, 1) := by decide +kernel
theorem dL_trades_99 : decode cL_trades 99 = .ok (.dup2, 1) := by decide +kernel
theorem dL_trades_100 : decode cL_trades 100 = .ok (.iaload, 1) := by decide +kernel
theorem dL_trades_101 : decode cL_trades 101 = .ok (.iload 8, 2) := by decide +kernel
theorem dL_trades_103 : decode cL_trades 103 = .ok (.iadd, 1) := by decide +kernel
theorem dL_trades_104 : decode cL_trades 104 = .ok (.iastore, 1) := by decide +kernel
theorem dL_trades_105 : decode cL_trades 105 = .ok (.iload 9, 2) := by decide +kernel
theorem dL_trades_107 : decode cL_trades 107 = .ok (.ifCond .ne 18, 3) := by decide +kernel
theorem dL_trades_110 : decode cL_trades 110 = .ok (.aload_n 0, 1) := by decide +kernel
theorem dL_trades_111 : decode cL_trades 111 = .ok (.aload_n 1, 1) := by decide +kernel
theorem dL_trades_112 : decode cL_trades 112 = .ok (.aload_n 2, 1) := by decide +kernel
theorem dL_trades_113 : decode cL_trades 113 = .ok (.aload_n 3, 1) := by decide +kernel
theorem dL_trades_114 : decode cL_trades 114 = .ok (.iload 10, 2) := by decide +kernel
theorem dL_trades_116 : decode cL_trades 116 = .ok (.invokestatic 23, 3) := by decide +kernel
theorem dL_trades_119 : decode cL_trades 119 = .ok (.lload 11, 2) := by decide +kernel
theorem dL_trades_121 : decode cL_trades 121 = .ok (.lcmp, 1) := by decide +kernel
theorem dL_trades_122 : decode cL_trades 122 = .ok (.ifCond .le 7, 3) := by decide +kernel
theorem dL_trades_125 : decode cL_trades 125 = .ok (.iconst 1, 1) := by decide +kernel
theorem dL_trades_126 : decode cL_trades 126 = .ok (.goto 4, 3) := by decide +kernel
theorem dL_trades_129 : decode cL_trades 129 = .ok (.iconst 0, 1) := by decide +kernel
theorem dL_trades_130 : decode cL_trades 130 = .ok (.istore 9, 2) := by decide +kernel
theorem dL_trades_132 : decode cL_trades 132 = .ok (.aload_n 1, 1) := by decide +kernel
theorem dL_trades_133 : decode cL_trades 133 = .ok (.bipush 10, 2) := by decide +kernel
theorem dL_trades_135 : decode cL_trades 135 = .ok (.iload 5, 2) := by decide +kernel
theorem dL_trades_137 : decode cL_trades 137 = .ok (.iadd, 1) := by decide +kernel
theorem dL_trades_138 : decode cL_trades 138 = .ok (.dup2, 1) := by decide +kernel
theorem dL_trades_139 : decode cL_trades 139 = .ok (.iaload, 1) := by decide +kernel
theorem dL_trades_140 : decode cL_trades 140 = .ok (.iload 7, 2) := by decide +kernel
theorem dL_trades_142 : decode cL_trades 142 = .ok (.iadd, 1) := by decide +kernel
theorem dL_trades_143 : decode cL_trades 143 = .ok (.iastore, 1) := by decide +kernel
theorem dL_trades_144 : decode cL_trades 144 = .ok (.aload_n 1, 1) := by decide +kernel
theorem dL_trades_145 : decode cL_trades 145 = .ok (.bipush 10, 2) := by decide +kernel
theorem dL_trades_147 : decode cL_trades 147 = .ok (.iload 6, 2) := by decide +kernel
theorem dL_trades_149 : decode cL_trades 149 = .ok (.iadd, 1) := by decide +kernel
theorem dL_trades_150 : decode cL_trades 150 = .ok (.dup2, 1) := by decide +kernel
theorem dL_trades_151 : decode cL_trades 151 = .ok (.iaload, 1) := by decide +kernel
theorem dL_trades_152 : decode cL_trades 152 = .ok (.iload 8, 2) := by decide +kernel
theorem dL_trades_154 : decode cL_trades 154 = .ok (.isub, 1) := by decide +kernel
theorem dL_trades_155 : decode cL_trades 155 = .ok (.iastore, 1) := by decide +kernel
theorem dL_trades_156 : decode cL_trades 156 = .ok (.iinc 10 1, 3) := by decide +kernel
theorem dL_trades_159 : decode cL_trades 159 = .ok (.goto (-97), 3) := by decide +kernel
theorem dL_trades_162 : decode cL_trades 162 = .ok (.iload 9, 2) := by decide +kernel
theorem dL_trades_164 : decode cL_trades 164 = .ok (.ifCond .eq 7, 3) := by decide +kernel
theorem dL_trades_167 : decode cL_trades 167 = .ok (.iconst (-1), 1) := by decide +kernel
theorem dL_trades_168 : decode cL_trades 168 = .ok (.goto 5, 3) := by decide +kernel
theorem dL_trades_171 : decode cL_trades 171 = .ok (.iload 8, 2) := by decide +kernel
theorem dL_trades_173 : decode cL_trades 173 = .ok (.ireturn, 1) := by decide +kernel
theorem dL_built_0 : decode cL_built 0 = .ok (.aload_n 0, 1) := by decide +kernel
theorem dL_built_1 : decode cL_built 1 = .ok (.iload_n 1, 1) := by decide +kernel
theorem dL_built_2 : decode cL_built 2 = .ok (.iload_n 2, 1) := by decide +kernel
theorem dL_built_3 : decode cL_built 3 = .ok (.iload_n 3, 1) := by decide +kernel
theorem dL_built_4 : decode cL_built 4 = .ok (.invokevirtual 27, 3) := by decide +kernel
theorem dL_built_7 : decode cL_built 7 = .ok (.ireturn, 1) := by decide +kernel
theorem dL_built_8 : decode cL_built 8 = .ok (.astore 4, 2) := by decide +kernel
theorem dL_built_10 : decode cL_built 10 = .ok (.bipush (-101), 2) := by decide +kernel
theorem dL_built_12 : decode cL_built 12 = .ok (.ireturn, 1) := by decide +kernel
theorem dL_watched_0 : decode cL_watched 0 = .ok (.aload_n 0, 1) := by decide +kernel
theorem dL_watched_1 : decode cL_watched 1 = .ok (.iload_n 1, 1) := by decide +kernel
theorem dL_watched_2 : decode cL_watched 2 = .ok (.iload_n 2, 1) := by decide +kernel
theorem dL_watched_3 : decode cL_watched 3 = .ok (.invokevirtual 35, 3) := by decide +kernel
theorem dL_watched_6 : decode cL_watched 6 = .ok (.ireturn, 1) := by decide +kernel
theorem dL_watched_7 : decode cL_watched 7 = .ok (.astore_n 3, 1) := by decide +kernel
theorem dL_watched_8 : decode cL_watched 8 = .ok (.bipush (-101), 2) := by decide +kernel
theorem dL_watched_10 : decode cL_watched 10 = .ok (.ireturn, 1) := by decide +kernel
theorem dL_set_0 : decode cL_set 0 = .ok (.iload_n 1, 1) := by decide +kernel
theorem dL_set_1 : decode cL_set 1 = .ok (.ifCond .ne 14, 3) := by decide +kernel
theorem dL_set_4 : decode cL_set 4 = .ok (.aload_n 0, 1) := by decide +kernel
theorem dL_set_5 : decode cL_set 5 = .ok (.iload_n 2, 1) := by decide +kernel
theorem dL_set_6 : decode cL_set 6 = .ok (.iload_n 3, 1) := by decide +kernel
theorem dL_set_7 : decode cL_set 7 = .ok (.iload 4, 2) := by decide +kernel
theorem dL_set_9 : decode cL_set 9 = .ok (.invokevirtual 39, 3) := by decide +kernel
theorem dL_set_12 : decode cL_set 12 = .ok (.goto 43, 3) := by decide +kernel
theorem dL_set_15 : decode cL_set 15 = .ok (.iload_n 1, 1) := by decide +kernel
theorem dL_set_16 : decode cL_set 16 = .ok (.iconst 1, 1) := by decide +kernel
theorem dL_set_17 : decode cL_set 17 = .ok (.if_icmp .ne 14, 3) := by decide +kernel
theorem dL_set_20 : decode cL_set 20 = .ok (.aload_n 0, 1) := by decide +kernel
theorem dL_set_21 : decode cL_set 21 = .ok (.iload_n 2, 1) := by decide +kernel
theorem dL_set_22 : decode cL_set 22 = .ok (.iload_n 3, 1) := by decide +kernel
theorem dL_set_23 : decode cL_set 23 = .ok (.iload 4, 2) := by decide +kernel
theorem dL_set_25 : decode cL_set 25 = .ok (.invokevirtual 42, 3) := by decide +kernel
theorem dL_set_28 : decode cL_set 28 = .ok (.goto 27, 3) := by decide +kernel
theorem dL_set_31 : decode cL_set 31 = .ok (.iload_n 1, 1) := by decide +kernel
theorem dL_set_32 : decode cL_set 32 = .ok (.iconst 2, 1) := by decide +kernel
theorem dL_set_33 : decode cL_set 33 = .ok (.if_icmp .ne 14, 3) := by decide +kernel
theorem dL_set_36 : decode cL_set 36 = .ok (.aload_n 0, 1) := by decide +kernel
theorem dL_set_37 : decode cL_set 37 = .ok (.iload_n 2, 1) := by decide +kernel
theorem dL_set_38 : decode cL_set 38 = .ok (.iload_n 3, 1) := by decide +kernel
theorem dL_set_39 : decode cL_set 39 = .ok (.iload 4, 2) := by decide +kernel
theorem dL_set_41 : decode cL_set 41 = .ok (.invokevirtual 45, 3) := by decide +kernel
theorem dL_set_44 : decode cL_set 44 = .ok (.goto 11, 3) := by decide +kernel
theorem dL_set_47 : decode cL_set 47 = .ok (.aload_n 0, 1) := by decide +kernel
theorem dL_set_48 : decode cL_set 48 = .ok (.iload_n 2, 1) := by decide +kernel
theorem dL_set_49 : decode cL_set 49 = .ok (.iload_n 3, 1) := by decide +kernel
theorem dL_set_50 : decode cL_set 50 = .ok (.iload 4, 2) := by decide +kernel
theorem dL_set_52 : decode cL_set 52 = .ok (.invokevirtual 48, 3) := by decide +kernel
theorem dL_set_55 : decode cL_set 55 = .ok (.ireturn, 1) := by decide +kernel
theorem dL_set_56 : decode cL_set 56 = .ok (.astore 5, 2) := by decide +kernel
theorem dL_set_58 : decode cL_set 58 = .ok (.bipush (-101), 2) := by decide +kernel
theorem dL_set_60 : decode cL_set 60 = .ok (.ireturn, 1) := by decide +kernel
theorem dL_set_61 : decode cL_set 61 = .ok (.astore 5, 2) := by decide +kernel
theorem dL_set_63 : decode cL_set 63 = .ok (.bipush (-102), 2) := by decide +kernel
theorem dL_set_65 : decode cL_set 65 = .ok (.ireturn, 1) := by decide +kernel
theorem dL_of_0 : decode cL_of 0 = .ok (.iload_n 1, 1) := by decide +kernel
theorem dL_of_1 : decode cL_of 1 = .ok (.ifCond .ne 12, 3) := by decide +kernel
theorem dL_of_4 : decode cL_of 4 = .ok (.aload_n 0, 1) := by decide +kernel
theorem dL_of_5 : decode cL_of 5 = .ok (.iload_n 2, 1) := by decide +kernel
theorem dL_of_6 : decode cL_of 6 = .ok (.iload_n 3, 1) := by decide +kernel
theorem dL_of_7 : decode cL_of 7 = .ok (.invokevirtual 53, 3) := by decide +kernel
theorem dL_of_10 : decode cL_of 10 = .ok (.goto 104, 3) := by decide +kernel
theorem dL_of_13 : decode cL_of 13 = .ok (.iload_n 1, 1) := by decide +kernel
theorem dL_of_14 : decode cL_of 14 = .ok (.iconst 1, 1) := by decide +kernel
theorem dL_of_15 : decode cL_of 15 = .ok (.if_icmp .ne 12, 3) := by decide +kernel
theorem dL_of_18 : decode cL_of 18 = .ok (.aload_n 0, 1) := by decide +kernel
theorem dL_of_19 : decode cL_of 19 = .ok (.iload_n 2, 1) := by decide +kernel
theorem dL_of_20 : decode cL_of 20 = .ok (.iload_n 3, 1) := by decide +kernel
theorem dL_of_21 : decode cL_of 21 = .ok (.invokevirtual 56, 3) := by decide +kernel
theorem dL_of_24 : decode cL_of 24 = .ok (.goto 90, 3) := by decide +kernel
theorem dL_of_27 : decode cL_of 27 = .ok (.iload_n 1, 1) := by decide +kernel
theorem dL_of_28 : decode cL_of 28 = .ok (.iconst 2, 1) := by decide +kernel
theorem dL_of_29 : decode cL_of 29 = .ok (.if_icmp .ne 12, 3) := by decide +kernel
theorem dL_of_32 : decode cL_of 32 = .ok (.aload_n 0, 1) := by decide +kernel
theorem dL_of_33 : decode cL_of 33 = .ok (.iload_n 2, 1) := by decide +kernel
theorem dL_of_34 : decode cL_of 34 = .ok (.iload_n 3, 1) := by decide +kernel
theorem dL_of_35 : decode cL_of 35 = .ok (.invokevirtual 59, 3) := by decide +kernel
theorem dL_of_38 : decode cL_of 38 = .ok (.goto 76, 3) := by decide +kernel
theorem dL_of_41 : decode cL_of 41 = .ok (.iload_n 1, 1) := by decide +kernel
theorem dL_of_42 : decode cL_of 42 = .ok (.iconst 3, 1) := by decide +kernel
theorem dL_of_43 : decode cL_of 43 = .ok (.if_icmp .ne 12, 3) := by decide +kernel
theorem dL_of_46 : decode cL_of 46 = .ok (.aload_n 0, 1) := by decide +kernel
theorem dL_of_47 : decode cL_of 47 = .ok (.iload_n 2, 1) := by decide +kernel
theorem dL_of_48 : decode cL_of 48 = .ok (.iload_n 3, 1) := by decide +kernel
theorem dL_of_49 : decode cL_of 49 = .ok (.invokevirtual 62, 3) := by decide +kernel
theorem dL_of_52 : decode cL_of 52 = .ok (.goto 62, 3) := by decide +kernel
theorem dL_of_55 : decode cL_of 55 = .ok (.iload_n 1, 1) := by decide +kernel
theorem dL_of_56 : decode cL_of 56 = .ok (.iconst 4, 1) := by decide +kernel
theorem dL_of_57 : decode cL_of 57 = .ok (.if_icmp .ne 11, 3) := by decide +kernel
theorem dL_of_60 : decode cL_of 60 = .ok (.aload_n 0, 1) := by decide +kernel
theorem dL_of_61 : decode cL_of 61 = .ok (.iload_n 2, 1) := by decide +kernel
theorem dL_of_62 : decode cL_of 62 = .ok (.invokevirtual 65, 3) := by decide +kernel
theorem dL_of_65 : decode cL_of 65 = .ok (.goto 49, 3) := by decide +kernel
theorem dL_of_68 : decode cL_of 68 = .ok (.iload_n 1, 1) := by decide +kernel
theorem dL_of_69 : decode cL_of 69 = .ok (.iconst 5, 1) := by decide +kernel
theorem dL_of_70 : decode cL_of 70 = .ok (.if_icmp .ne 11, 3) := by decide +kernel
theorem dL_of_73 : decode cL_of 73 = .ok (.aload_n 0, 1) := by decide +kernel
theorem dL_of_74 : decode cL_of 74 = .ok (.iload_n 2, 1) := by decide +kernel
theorem dL_of_75 : decode cL_of 75 = .ok (.invokevirtual 69, 3) := by decide +kernel
theorem dL_of_78 : decode cL_of 78 = .ok (.goto 36, 3) := by decide +kernel
theorem dL_of_81 : decode cL_of 81 = .ok (.iload_n 1, 1) := by decide +kernel
theorem dL_of_82 : decode cL_of 82 = .ok (.bipush 6, 2) := by decide +kernel
theorem dL_of_84 : decode cL_of 84 = .ok (.if_icmp .ne 11, 3) := by decide +kernel
theorem dL_of_87 : decode cL_of 87 = .ok (.aload_n 0, 1) := by decide +kernel
theorem dL_of_88 : decode cL_of 88 = .ok (.iload_n 2, 1) := by decide +kernel
theorem dL_of_89 : decode cL_of 89 = .ok (.invokevirtual 72, 3) := by decide +kernel
theorem dL_of_92 : decode cL_of 92 = .ok (.goto 22, 3) := by decide +kernel
theorem dL_of_95 : decode cL_of 95 = .ok (.iload_n 1, 1) := by decide +kernel
theorem dL_of_96 : decode cL_of 96 = .ok (.bipush 7, 2) := by decide +kernel
theorem dL_of_98 : decode cL_of 98 = .ok (.if_icmp .ne 11, 3) := by decide +kernel
theorem dL_of_101 : decode cL_of 101 = .ok (.aload_n 0, 1) := by decide +kernel
theorem dL_of_102 : decode cL_of 102 = .ok (.iload_n 2, 1) := by decide +kernel
theorem dL_of_103 : decode cL_of 103 = .ok (.invokevirtual 75, 3) := by decide +kernel
theorem dL_of_106 : decode cL_of 106 = .ok (.goto 8, 3) := by decide +kernel
theorem dL_of_109 : decode cL_of 109 = .ok (.aload_n 0, 1) := by decide +kernel
theorem dL_of_110 : decode cL_of 110 = .ok (.iload_n 2, 1) := by decide +kernel
theorem dL_of_111 : decode cL_of 111 = .ok (.invokevirtual 78, 3) := by decide +kernel
theorem dL_of_114 : decode cL_of 114 = .ok (.ireturn, 1) := by decide +kernel
theorem dL_of_115 : decode cL_of 115 = .ok (.astore 4, 2) := by decide +kernel
theorem dL_of_117 : decode cL_of 117 = .ok (.bipush (-101), 2) := by decide +kernel
theorem dL_of_119 : decode cL_of 119 = .ok (.ireturn, 1) := by decide +kernel
theorem dL_down_0 : decode cL_down 0 = .ok (.iload_n 1, 1) := by decide +kernel
theorem dL_down_1 : decode cL_down 1 = .ok (.ifCond .ne 12, 3) := by decide +kernel
theorem dL_down_4 : decode cL_down 4 = .ok (.aload_n 0, 1) := by decide +kernel
theorem dL_down_5 : decode cL_down 5 = .ok (.iload_n 2, 1) := by decide +kernel
theorem dL_down_6 : decode cL_down 6 = .ok (.iload_n 3, 1) := by decide +kernel
theorem dL_down_7 : decode cL_down 7 = .ok (.invokevirtual 81, 3) := by decide +kernel
theorem dL_down_10 : decode cL_down 10 = .ok (.goto 22, 3) := by decide +kernel
theorem dL_down_13 : decode cL_down 13 = .ok (.iload_n 1, 1) := by decide +kernel
theorem dL_down_14 : decode cL_down 14 = .ok (.iconst 1, 1) := by decide +kernel
theorem dL_down_15 : decode cL_down 15 = .ok (.if_icmp .ne 12, 3) := by decide +kernel
theorem dL_down_18 : decode cL_down 18 = .ok (.aload_n 0, 1) := by decide +kernel
theorem dL_down_19 : decode cL_down 19 = .ok (.iload_n 2, 1) := by decide +kernel
theorem dL_down_20 : decode cL_down 20 = .ok (.iload_n 3, 1) := by decide +kernel
theorem dL_down_21 : decode cL_down 21 = .ok (.invokevirtual 85, 3) := by decide +kernel
theorem dL_down_24 : decode cL_down 24 = .ok (.goto 8, 3) := by decide +kernel
theorem dL_down_27 : decode cL_down 27 = .ok (.aload_n 0, 1) := by decide +kernel
theorem dL_down_28 : decode cL_down 28 = .ok (.iload_n 2, 1) := by decide +kernel
theorem dL_down_29 : decode cL_down 29 = .ok (.invokevirtual 88, 3) := by decide +kernel
theorem dL_down_32 : decode cL_down 32 = .ok (.lreturn, 1) := by decide +kernel
theorem dL_down_33 : decode cL_down 33 = .ok (.astore 4, 2) := by decide +kernel
theorem dL_down_35 : decode cL_down 35 = .ok (.ldc2_w 91, 3) := by decide +kernel
theorem dL_down_38 : decode cL_down 38 = .ok (.lreturn, 1) := by decide +kernel
theorem dL_traded_0 : decode cL_traded 0 = .ok (.aload_n 0, 1) := by decide +kernel
theorem dL_traded_1 : decode cL_traded 1 = .ok (.iload_n 1, 1) := by decide +kernel
theorem dL_traded_2 : decode cL_traded 2 = .ok (.iload_n 2, 1) := by decide +kernel
theorem dL_traded_3 : decode cL_traded 3 = .ok (.iload_n 3, 1) := by decide +kernel
theorem dL_traded_4 : decode cL_traded 4 = .ok (.invokevirtual 93, 3) := by decide +kernel
theorem dL_traded_7 : decode cL_traded 7 = .ok (.ireturn, 1) := by decide +kernel
theorem dL_traded_8 : decode cL_traded 8 = .ok (.astore 4, 2) := by decide +kernel
theorem dL_traded_10 : decode cL_traded 10 = .ok (.bipush (-101), 2) := by decide +kernel
theorem dL_traded_12 : decode cL_traded 12 = .ok (.ireturn, 1) := by decide +kernel
theorem dL_traded_13 : decode cL_traded 13 = .ok (.astore 4, 2) := by decide +kernel
theorem dL_traded_15 : decode cL_traded 15 = .ok (.bipush (-102), 2) := by decide +kernel
theorem dL_traded_17 : decode cL_traded 17 = .ok (.ireturn, 1) := by decide +kernel
theorem dL_traded_18 : decode cL_traded 18 = .ok (.astore 4, 2) := by decide +kernel
theorem dL_traded_20 : decode cL_traded 20 = .ok (.bipush (-103), 2) := by decide +kernel
theorem dL_traded_22 : decode cL_traded 22 = .ok (.ireturn, 1) := by decide +kernel
theorem dL_most_0 : decode cL_most 0 = .ok (.aload_n 0, 1) := by decide +kernel
theorem dL_most_1 : decode cL_most 1 = .ok (.iload_n 1, 1) := by decide +kernel
theorem dL_most_2 : decode cL_most 2 = .ok (.iload_n 2, 1) := by decide +kernel
theorem dL_most_3 : decode cL_most 3 = .ok (.invokevirtual 98, 3) := by decide +kernel
theorem dL_most_6 : decode cL_most 6 = .ok (.ireturn, 1) := by decide +kernel
theorem dL_most_7 : decode cL_most 7 = .ok (.astore_n 3, 1) := by decide +kernel
theorem dL_most_8 : decode cL_most 8 = .ok (.bipush (-101), 2) := by decide +kernel
theorem dL_most_10 : decode cL_most 10 = .ok (.ireturn, 1) := by decide +kernel
theorem dL_most_11 : decode cL_most 11 = .ok (.astore_n 3, 1) := by decide +kernel
theorem dL_most_12 : decode cL_most 12 = .ok (.bipush (-102), 2) := by decide +kernel
theorem dL_most_14 : decode cL_most 14 = .ok (.ireturn, 1) := by decide +kernel
theorem dL_lays_0 : decode cL_lays 0 = .ok (.iload_n 1, 1) := by decide +kernel
theorem dL_lays_1 : decode cL_lays 1 = .ok (.ifCond .ne 198, 3) := by decide +kernel
theorem dL_lays_4 : decode cL_lays 4 = .ok (.iload_n 2, 1) := by decide +kernel
theorem dL_lays_5 : decode cL_lays 5 = .ok (.bipush 60, 2) := by decide +kernel
theorem dL_lays_7 : decode cL_lays 7 = .ok (.invokestatic 101, 3) := by decide +kernel
theorem dL_lays_10 : decode cL_lays 10 = .ok (.ifCond .ne 8, 3) := by decide +kernel
theorem dL_lays_13 : decode cL_lays 13 = .ok (.bipush 100, 2) := by decide +kernel
theorem dL_lays_15 : decode cL_lays 15 = .ok (.goto 9, 3) := by decide +kernel
theorem dL_lays_18 : decode cL_lays 18 = .ok (.iload_n 2, 1) := by decide +kernel
theorem dL_lays_19 : decode cL_lays 19 = .ok (.bipush 100, 2) := by decide +kernel
theorem dL_lays_21 : decode cL_lays 21 = .ok (.invokestatic 101, 3) := by decide +kernel
theorem dL_lays_24 : decode cL_lays 24 = .ok (.istore 8, 2) := by decide +kernel
theorem dL_lays_26 : decode cL_lays 26 = .ok (.iload_n 2, 1) := by decide +kernel
theorem dL_lays_27 : decode cL_lays 27 = .ok (.iconst 5, 1) := by decide +kernel
theorem dL_lays_28 : decode cL_lays 28 = .ok (.ishr, 1) := by decide +kernel
theorem dL_lays_29 : decode cL_lays 29 = .ok (.bipush 40, 2) := by decide +kernel
theorem dL_lays_31 : decode cL_lays 31 = .ok (.invokestatic 101, 3) := by decide +kernel
theorem dL_lays_34 : decode cL_lays 34 = .ok (.ifCond .ne 7, 3) := by decide +kernel
theorem dL_lays_37 : decode cL_lays 37 = .ok (.iconst 3, 1) := by decide +kernel
theorem dL_lays_38 : decode cL_lays 38 = .ok (.goto 10, 3) := by decide +kernel
theorem dL_lays_41 : decode cL_lays 41 = .ok (.iload_n 2, 1) := by decide +kernel
theorem dL_lays_42 : decode cL_lays 42 = .ok (.iconst 5, 1) := by decide +kernel
theorem dL_lays_43 : decode cL_lays 43 = .ok (.ishr, 1) := by decide +kernel
theorem dL_lays_44 : decode cL_lays 44 = .ok (.iconst 3, 1) := by decide +kernel
theorem dL_lays_45 : decode cL_lays 45 = .ok (.invokestatic 101, 3) := by decide +kernel
theorem dL_lays_48 : decode cL_lays 48 = .ok (.istore 9, 2) := by decide +kernel
theorem dL_lays_50 : decode cL_lays 50 = .ok (.iload_n 2, 1) := by decide +kernel
theorem dL_lays_51 : decode cL_lays 51 = .ok (.bipush 7, 2) := by decide +kernel
theorem dL_lays_53 : decode cL_lays 53 = .ok (.ishr, 1) := by decide +kernel
theorem dL_lays_54 : decode cL_lays 54 = .ok (.bipush 60, 2) := by decide +kernel
theorem dL_lays_56 : decode cL_lays 56 = .ok (.invokestatic 101, 3) := by decide +kernel
theorem dL_lays_59 : decode cL_lays 59 = .ok (.ifCond .ne 9, 3) := by decide +kernel
theorem dL_lays_62 : decode cL_lays 62 = .ok (.sipush 5001, 3) := by decide +kernel
theorem dL_lays_65 : decode cL_lays 65 = .ok (.goto 15, 3) := by decide +kernel
theorem dL_lays_68 : decode cL_lays 68 = .ok (.iload_n 2, 1) := by decide +kernel
theorem dL_lays_69 : decode cL_lays 69 = .ok (.bipush 7, 2) := by decide +kernel
theorem dL_lays_71 : decode cL_lays 71 = .ok (.ishr, 1) := by decide +kernel
theorem dL_lays_72 : decode cL_lays 72 = .ok (.bipush 60, 2) := by decide +kernel
theorem dL_lays_74 : decode cL_lays 74 = .ok (.invokestatic 101, 3) := by decide +kernel
theorem dL_lays_77 : decode cL_lays 77 = .ok (.bipush 10, 2) := by decide +kernel
theorem dL_lays_79 : decode cL_lays 79 = .ok (.imul, 1) := by decide +kernel
theorem dL_lays_80 : decode cL_lays 80 = .ok (.istore 10, 2) := by decide +kernel
theorem dL_lays_82 : decode cL_lays 82 = .ok (.iload 8, 2) := by decide +kernel
theorem dL_lays_84 : decode cL_lays 84 = .ok (.bipush 100, 2) := by decide +kernel
theorem dL_lays_86 : decode cL_lays 86 = .ok (.if_icmp .ge 21, 3) := by decide +kernel
theorem dL_lays_89 : decode cL_lays 89 = .ok (.iload 9, 2) := by decide +kernel
theorem dL_lays_91 : decode cL_lays 91 = .ok (.iconst 3, 1) := by decide +kernel
theorem dL_lays_92 : decode cL_lays 92 = .ok (.if_icmp .ge 15, 3) := by decide +kernel
theorem dL_lays_95 : decode cL_lays 95 = .ok (.iload 10, 2) := by decide +kernel
theorem dL_lays_97 : decode cL_lays 97 = .ok (.sipush 5001, 3) := by decide +kernel
theorem dL_lays_100 : decode cL_lays 100 = .ok (.if_icmp .ge 7, 3) := by decide +kernel
theorem dL_lays_103 : decode cL_lays 103 = .ok (.iconst 1, 1) := by decide +kernel
theorem dL_lays_104 : decode cL_lays 104 = .ok (.goto 4, 3) := by decide +kernel
theorem dL_lays_107 : decode cL_lays 107 = .ok (.iconst 0, 1) := by decide +kernel
theorem dL_lays_108 : decode cL_lays 108 = .ok (.istore 11, 2) := by decide +kernel
theorem dL_lays_110 : decode cL_lays 110 = .ok (.iload 11, 2) := by decide +kernel
theorem dL_lays_112 : decode cL_lays 112 = .ok (.ifCond .eq 12, 3) := by decide +kernel
theorem dL_lays_115 : decode cL_lays 115 = .ok (.aload_n 3, 1) := by decide +kernel
theorem dL_lays_116 : decode cL_lays 116 = .ok (.iconst 0, 1) := by decide +kernel
theorem dL_lays_117 : decode cL_lays 117 = .ok (.iaload, 1) := by decide +kernel
theorem dL_lays_118 : decode cL_lays 118 = .ok (.iconst 5, 1) := by decide +kernel
theorem dL_lays_119 : decode cL_lays 119 = .ok (.if_icmp .ne 5, 3) := by decide +kernel
theorem dL_lays_122 : decode cL_lays 122 = .ok (.iconst 1, 1) := by decide +kernel
theorem dL_lays_123 : decode cL_lays 123 = .ok (.ireturn, 1) := by decide +kernel
theorem dL_lays_124 : decode cL_lays 124 = .ok (.iload 11, 2) := by decide +kernel
theorem dL_lays_126 : decode cL_lays 126 = .ok (.ifCond .eq 39, 3) := by decide +kernel
theorem dL_lays_129 : decode cL_lays 129 = .ok (.aload 4, 2) := by decide +kernel
theorem dL_lays_131 : decode cL_lays 131 = .ok (.aload_n 3, 1) := by decide +kernel
theorem dL_lays_132 : decode cL_lays 132 = .ok (.iconst 0, 1) := by decide +kernel
theorem dL_lays_133 : decode cL_lays 133 = .ok (.iaload, 1) := by decide +kernel
theorem dL_lays_134 : decode cL_lays 134 = .ok (.iload 8, 2) := by decide +kernel
theorem dL_lays_136 : decode cL_lays 136 = .ok (.iastore, 1) := by decide +kernel
theorem dL_lays_137 : decode cL_lays 137 = .ok (.aload 4, 2) := by decide +kernel
theorem dL_lays_139 : decode cL_lays 139 = .ok (.iconst 5, 1) := by decide +kernel
theorem dL_lays_140 : decode cL_lays 140 = .ok (.aload_n 3, 1) := by decide +kernel
theorem dL_lays_141 : decode cL_lays 141 = .ok (.iconst 0, 1) := by decide +kernel
theorem dL_lays_142 : decode cL_lays 142 = .ok (.iaload, 1) := by decide +kernel
theorem dL_lays_143 : decode cL_lays 143 = .ok (.iadd, 1) := by decide +kernel
theorem dL_lays_144 : decode cL_lays 144 = .ok (.iload 9, 2) := by decide +kernel
theorem dL_lays_146 : decode cL_lays 146 = .ok (.iastore, 1) := by decide +kernel
theorem dL_lays_147 : decode cL_lays 147 = .ok (.aload 4, 2) := by decide +kernel
theorem dL_lays_149 : decode cL_lays 149 = .ok (.bipush 10, 2) := by decide +kernel
theorem dL_lays_151 : decode cL_lays 151 = .ok (.aload_n 3, 1) := by decide +kernel
theorem dL_lays_152 : decode cL_lays 152 = .ok (.iconst 0, 1) := by decide +kernel
theorem dL_lays_153 : decode cL_lays 153 = .ok (.iaload, 1) := by decide +kernel
theorem dL_lays_154 : decode cL_lays 154 = .ok (.iadd, 1) := by decide +kernel
theorem dL_lays_155 : decode cL_lays 155 = .ok (.iload 10, 2) := by decide +kernel
theorem dL_lays_157 : decode cL_lays 157 = .ok (.iastore, 1) := by decide +kernel
theorem dL_lays_158 : decode cL_lays 158 = .ok (.aload_n 3, 1) := by decide +kernel
theorem dL_lays_159 : decode cL_lays 159 = .ok (.iconst 0, 1) := by decide +kernel
theorem dL_lays_160 : decode cL_lays 160 = .ok (.dup2, 1) := by decide +kernel
theorem dL_lays_161 : decode cL_lays 161 = .ok (.iaload, 1) := by decide +kernel
theorem dL_lays_162 : decode cL_lays 162 = .ok (.iconst 1, 1) := by decide +kernel
theorem dL_lays_163 : decode cL_lays 163 = .ok (.iadd, 1) := by decide +kernel
theorem dL_lays_164 : decode cL_lays 164 = .ok (.iastore, 1) := by decide +kernel
theorem dL_lays_165 : decode cL_lays 165 = .ok (.aload_n 0, 1) := by decide +kernel
theorem dL_lays_166 : decode cL_lays 166 = .ok (.iload 8, 2) := by decide +kernel
theorem dL_lays_168 : decode cL_lays 168 = .ok (.iload 9, 2) := by decide +kernel
theorem dL_lays_170 : decode cL_lays 170 = .ok (.iload 10, 2) := by decide +kernel
theorem dL_lays_172 : decode cL_lays 172 = .ok (.invokestatic 104, 3) := by decide +kernel
theorem dL_lays_175 : decode cL_lays 175 = .ok (.iload 11, 2) := by decide +kernel
theorem dL_lays_177 : decode cL_lays 177 = .ok (.ifCond .eq 11, 3) := by decide +kernel
theorem dL_lays_180 : decode cL_lays 180 = .ok (.aload_n 3, 1) := by decide +kernel
theorem dL_lays_181 : decode cL_lays 181 = .ok (.iconst 0, 1) := by decide +kernel
theorem dL_lays_182 : decode cL_lays 182 = .ok (.iaload, 1) := by decide +kernel
theorem dL_lays_183 : decode cL_lays 183 = .ok (.iconst 1, 1) := by decide +kernel
theorem dL_lays_184 : decode cL_lays 184 = .ok (.isub, 1) := by decide +kernel
theorem dL_lays_185 : decode cL_lays 185 = .ok (.goto 5, 3) := by decide +kernel
theorem dL_lays_188 : decode cL_lays 188 = .ok (.bipush (-101), 2) := by decide +kernel
theorem dL_lays_190 : decode cL_lays 190 = .ok (.if_icmp .ne 7, 3) := by decide +kernel
theorem dL_lays_193 : decode cL_lays 193 = .ok (.iconst 1, 1) := by decide +kernel
theorem dL_lays_194 : decode cL_lays 194 = .ok (.goto 4, 3) := by decide +kernel
theorem dL_lays_197 : decode cL_lays 197 = .ok (.iconst 0, 1) := by decide +kernel
theorem dL_lays_198 : decode cL_lays 198 = .ok (.ireturn, 1) := by decide +kernel
theorem dL_lays_199 : decode cL_lays 199 = .ok (.iload_n 1, 1) := by decide +kernel
theorem dL_lays_200 : decode cL_lays 200 = .ok (.iconst 1, 1) := by decide +kernel
theorem dL_lays_201 : decode cL_lays 201 = .ok (.if_icmp .ne 150, 3) := by decide +kernel
theorem dL_lays_204 : decode cL_lays 204 = .ok (.iload_n 2, 1) := by decide +kernel
theorem dL_lays_205 : decode cL_lays 205 = .ok (.bipush 40, 2) := by decide +kernel
theorem dL_lays_207 : decode cL_lays 207 = .ok (.invokestatic 101, 3) := by decide +kernel
theorem dL_lays_210 : decode cL_lays 210 = .ok (.ifCond .ne 7, 3) := by decide +kernel
theorem dL_lays_213 : decode cL_lays 213 = .ok (.iconst (-1), 1) := by decide +kernel
theorem dL_lays_214 : decode cL_lays 214 = .ok (.goto 9, 3) := by decide +kernel
theorem dL_lays_217 : decode cL_lays 217 = .ok (.iload_n 2, 1) := by decide +kernel
theorem dL_lays_218 : decode cL_lays 218 = .ok (.bipush 100, 2) := by decide +kernel
theorem dL_lays_220 : decode cL_lays 220 = .ok (.invokestatic 101, 3) := by decide +kernel
theorem dL_lays_223 : decode cL_lays 223 = .ok (.istore 8, 2) := by decide +kernel
theorem dL_lays_225 : decode cL_lays 225 = .ok (.iload_n 2, 1) := by decide +kernel
theorem dL_lays_226 : decode cL_lays 226 = .ok (.bipush 6, 2) := by decide +kernel
theorem dL_lays_228 : decode cL_lays 228 = .ok (.ishr, 1) := by decide +kernel
theorem dL_lays_229 : decode cL_lays 229 = .ok (.bipush 40, 2) := by decide +kernel
theorem dL_lays_231 : decode cL_lays 231 = .ok (.invokestatic 101, 3) := by decide +kernel
theorem dL_lays_234 : decode cL_lays 234 = .ok (.ifCond .ne 9, 3) := by decide +kernel
theorem dL_lays_237 : decode cL_lays 237 = .ok (.sipush 10001, 3) := by decide +kernel
theorem dL_lays_240 : decode cL_lays 240 = .ok (.goto 13, 3) := by decide +kernel
theorem dL_lays_243 : decode cL_lays 243 = .ok (.iload_n 2, 1) := by decide +kernel
theorem dL_lays_244 : decode cL_lays 244 = .ok (.bipush 6, 2) := by decide +kernel
theorem dL_lays_246 : decode cL_lays 246 = .ok (.ishr, 1) := by decide +kernel
theorem dL_lays_247 : decode cL_lays 247 = .ok (.sipush 300, 3) := by decide +kernel
theorem dL_lays_250 : decode cL_lays 250 = .ok (.invokestatic 101, 3) := by decide +kernel
theorem dL_lays_253 : decode cL_lays 253 = .ok (.istore 9, 2) := by decide +kernel
theorem dL_lays_255 : decode cL_lays 255 = .ok (.iload 8, 2) := by decide +kernel
theorem dL_lays_257 : decode cL_lays 257 = .ok (.ifCond .lt 15, 3) := by decide +kernel
theorem dL_lays_260 : decode cL_lays 260 = .ok (.iload 9, 2) := by decide +kernel
theorem dL_lays_262 : decode cL_lays 262 = .ok (.sipush 10001, 3) := by decide +kernel
theorem dL_lays_265 : decode cL_lays 265 = .ok (.if_icmp .ge 7, 3) := by decide +kernel
theorem dL_lays_268 : decode cL_lays 268 = .ok (.iconst 1, 1) := by decide +kernel
theorem dL_lays_269 : decode cL_lays 269 = .ok (.goto 4, 3) := by decide +kernel
theorem dL_lays_272 : decode cL_lays 272 = .ok (.iconst 0, 1) := by decide +kernel
theorem dL_lays_273 : decode cL_lays 273 = .ok (.istore 10, 2) := by decide +kernel
theorem dL_lays_275 : decode cL_lays 275 = .ok (.iload 10, 2) := by decide +kernel
theorem dL_lays_277 : decode cL_lays 277 = .ok (.ifCond .eq 12, 3) := by decide +kernel
theorem dL_lays_280 : decode cL_lays 280 = .ok (.aload_n 3, 1) := by decide +kernel
theorem dL_lays_281 : decode cL_lays 281 = .ok (.iconst 1, 1) := by decide +kernel
theorem dL_lays_282 : decode cL_lays 282 = .ok (.iaload, 1) := by decide +kernel
theorem dL_lays_283 : decode cL_lays 283 = .ok (.iconst 3, 1) := by decide +kernel
theorem dL_lays_284 : decode cL_lays 284 = .ok (.if_icmp .ne 5, 3) := by decide +kernel
theorem dL_lays_287 : decode cL_lays 287 = .ok (.iconst 1, 1) := by decide +kernel
theorem dL_lays_288 : decode cL_lays 288 = .ok (.ireturn, 1) := by decide +kernel
theorem dL_lays_289 : decode cL_lays 289 = .ok (.iload 10, 2) := by decide +kernel
theorem dL_lays_291 : decode cL_lays 291 = .ok (.ifCond .eq 28, 3) := by decide +kernel
theorem dL_lays_294 : decode cL_lays 294 = .ok (.aload 5, 2) := by decide +kernel
theorem dL_lays_296 : decode cL_lays 296 = .ok (.aload_n 3, 1) := by decide +kernel
theorem dL_lays_297 : decode cL_lays 297 = .ok (.iconst 1, 1) := by decide +kernel
theorem dL_lays_298 : decode cL_lays 298 = .ok (.iaload, 1) := by decide +kernel
theorem dL_lays_299 : decode cL_lays 299 = .ok (.iload 8, 2) := by decide +kernel
theorem dL_lays_301 : decode cL_lays 301 = .ok (.iastore, 1) := by decide +kernel
theorem dL_lays_302 : decode cL_lays 302 = .ok (.aload 5, 2) := by decide +kernel
theorem dL_lays_304 : decode cL_lays 304 = .ok (.iconst 3, 1) := by decide +kernel
theorem dL_lays_305 : decode cL_lays 305 = .ok (.aload_n 3, 1) := by decide +kernel
theorem dL_lays_306 : decode cL_lays 306 = .ok (.iconst 1, 1) := by decide +kernel
theorem dL_lays_307 : decode cL_lays 307 = .ok (.iaload, 1) := by decide +kernel
theorem dL_lays_308 : decode cL_lays 308 = .ok (.iadd, 1) := by decide +kernel
theorem dL_lays_309 : decode cL_lays 309 = .ok (.iload 9, 2) := by decide +kernel
theorem dL_lays_311 : decode cL_lays 311 = .ok (.iastore, 1) := by decide +kernel
theorem dL_lays_312 : decode cL_lays 312 = .ok (.aload_n 3, 1) := by decide +kernel
theorem dL_lays_313 : decode cL_lays 313 = .ok (.iconst 1, 1) := by decide +kernel
theorem dL_lays_314 : decode cL_lays 314 = .ok (.dup2, 1) := by decide +kernel
theorem dL_lays_315 : decode cL_lays 315 = .ok (.iaload, 1) := by decide +kernel
theorem dL_lays_316 : decode cL_lays 316 = .ok (.iconst 1, 1) := by decide +kernel
theorem dL_lays_317 : decode cL_lays 317 = .ok (.iadd, 1) := by decide +kernel
theorem dL_lays_318 : decode cL_lays 318 = .ok (.iastore, 1) := by decide +kernel
theorem dL_lays_319 : decode cL_lays 319 = .ok (.aload_n 0, 1) := by decide +kernel
theorem dL_lays_320 : decode cL_lays 320 = .ok (.iload 8, 2) := by decide +kernel
theorem dL_lays_322 : decode cL_lays 322 = .ok (.iload 9, 2) := by decide +kernel
theorem dL_lays_324 : decode cL_lays 324 = .ok (.invokestatic 108, 3) := by decide +kernel
theorem dL_lays_327 : decode cL_lays 327 = .ok (.iload 10, 2) := by decide +kernel
theorem dL_lays_329 : decode cL_lays 329 = .ok (.ifCond .eq 11, 3) := by decide +kernel
theorem dL_lays_332 : decode cL_lays 332 = .ok (.aload_n 3, 1) := by decide +kernel
theorem dL_lays_333 : decode cL_lays 333 = .ok (.iconst 1, 1) := by decide +kernel
theorem dL_lays_334 : decode cL_lays 334 = .ok (.iaload, 1) := by decide +kernel
theorem dL_lays_335 : decode cL_lays 335 = .ok (.iconst 1, 1) := by decide +kernel
theorem dL_lays_336 : decode cL_lays 336 = .ok (.isub, 1) := by decide +kernel
theorem dL_lays_337 : decode cL_lays 337 = .ok (.goto 5, 3) := by decide +kernel
theorem dL_lays_340 : decode cL_lays 340 = .ok (.bipush (-101), 2) := by decide +kernel
theorem dL_lays_342 : decode cL_lays 342 = .ok (.if_icmp .ne 7, 3) := by decide +kernel
theorem dL_lays_345 : decode cL_lays 345 = .ok (.iconst 1, 1) := by decide +kernel
theorem dL_lays_346 : decode cL_lays 346 = .ok (.goto 4, 3) := by decide +kernel
theorem dL_lays_349 : decode cL_lays 349 = .ok (.iconst 0, 1) := by decide +kernel
theorem dL_lays_350 : decode cL_lays 350 = .ok (.ireturn, 1) := by decide +kernel
theorem dL_lays_351 : decode cL_lays 351 = .ok (.iload_n 1, 1) := by decide +kernel
theorem dL_lays_352 : decode cL_lays 352 = .ok (.iconst 2, 1) := by decide +kernel
theorem dL_lays_353 : decode cL_lays 353 = .ok (.if_icmp .ne 175, 3) := by decide +kernel
theorem dL_lays_356 : decode cL_lays 356 = .ok (.iload_n 2, 1) := by decide +kernel
theorem dL_lays_357 : decode cL_lays 357 = .ok (.bipush 30, 2) := by decide +kernel
theorem dL_lays_359 : decode cL_lays 359 = .ok (.invokestatic 101, 3) := by decide +kernel
theorem dL_lays_362 : decode cL_lays 362 = .ok (.ifCond .ne 7, 3) := by decide +kernel
theorem dL_lays_365 : decode cL_lays 365 = .ok (.iconst 3, 1) := by decide +kernel
theorem dL_lays_366 : decode cL_lays 366 = .ok (.goto 8, 3) := by decide +kernel
theorem dL_lays_369 : decode cL_lays 369 = .ok (.iload_n 2, 1) := by decide +kernel
theorem dL_lays_370 : decode cL_lays 370 = .ok (.iconst 3, 1) := by decide +kernel
theorem dL_lays_371 : decode cL_lays 371 = .ok (.invokestatic 101, 3) := by decide +kernel
theorem dL_lays_374 : decode cL_lays 374 = .ok (.istore 8, 2) := by decide +kernel
theorem dL_lays_376 : decode cL_lays 376 = .ok (.iload_n 2, 1) := by decide +kernel
theorem dL_lays_377 : decode cL_lays 377 = .ok (.iconst 3, 1) := by decide +kernel
theorem dL_lays_378 : decode cL_lays 378 = .ok (.ishr, 1) := by decide +kernel
theorem dL_lays_379 : decode cL_lays 379 = .ok (.iconst 3, 1) := by decide +kernel
theorem dL_lays_380 : decode cL_lays 380 = .ok (.invokestatic 101, 3) := by decide +kernel
theorem dL_lays_383 : decode cL_lays 383 = .ok (.istore 9, 2) := by decide +kernel
theorem dL_lays_385 : decode cL_lays 385 = .ok (.iload_n 2, 1) := by decide +kernel
theorem dL_lays_386 : decode cL_lays 386 = .ok (.bipush 6, 2) := by decide +kernel
theorem dL_lays_388 : decode cL_lays 388 = .ok (.ishr, 1) := by decide +kernel
theorem dL_lays_389 : decode cL_lays 389 = .ok (.bipush 30, 2) := by decide +kernel
theorem dL_lays_391 : decode cL_lays 391 = .ok (.invokestatic 101, 3) := by decide +kernel
theorem dL_lays_394 : decode cL_lays 394 = .ok (.ifCond .ne 9, 3) := by decide +kernel
theorem dL_lays_397 : decode cL_lays 397 = .ok (.sipush 201, 3) := by decide +kernel
theorem dL_lays_400 : decode cL_lays 400 = .ok (.goto 13, 3) := by decide +kernel
theorem dL_lays_403 : decode cL_lays 403 = .ok (.iload_n 2, 1) := by decide +kernel
theorem dL_lays_404 : decode cL_lays 404 = .ok (.bipush 6, 2) := by decide +kernel
theorem dL_lays_406 : decode cL_lays 406 = .ok (.ishr, 1) := by decide +kernel
theorem dL_lays_407 : decode cL_lays 407 = .ok (.sipush 151, 3) := by decide +kernel
theorem dL_lays_410 : decode cL_lays 410 = .ok (.invokestatic 101, 3) := by decide +kernel
theorem dL_lays_413 : decode cL_lays 413 = .ok (.istore 10, 2) := by decide +kernel
theorem dL_lays_415 : decode cL_lays 415 = .ok (.iload 8, 2) := by decide +kernel
theorem dL_lays_417 : decode cL_lays 417 = .ok (.iconst 3, 1) := by decide +kernel
theorem dL_lays_418 : decode cL_lays 418 = .ok (.if_icmp .ge 7, 3) := by decide +kernel
theorem dL_lays_421 : decode cL_lays 421 = .ok (.iconst 1, 1) := by decide +kernel
theorem dL_lays_422 : decode cL_lays 422 = .ok (.goto 4, 3) := by decide +kernel
theorem dL_lays_425 : decode cL_lays 425 = .ok (.iconst 0, 1) := by decide +kernel
theorem dL_lays_426 : decode cL_lays 426 = .ok (.istore 11, 2) := by decide +kernel
theorem dL_lays_428 : decode cL_lays 428 = .ok (.iload 10, 2) := by decide +kernel
theorem dL_lays_430 : decode cL_lays 430 = .ok (.sipush 201, 3) := by decide +kernel
theorem dL_lays_433 : decode cL_lays 433 = .ok (.if_icmp .ge 7, 3) := by decide +kernel
theorem dL_lays_436 : decode cL_lays 436 = .ok (.iconst 1, 1) := by decide +kernel
theorem dL_lays_437 : decode cL_lays 437 = .ok (.goto 4, 3) := by decide +kernel
theorem dL_lays_440 : decode cL_lays 440 = .ok (.iconst 0, 1) := by decide +kernel
theorem dL_lays_441 : decode cL_lays 441 = .ok (.istore 12, 2) := by decide +kernel
theorem dL_lays_443 : decode cL_lays 443 = .ok (.iload 11, 2) := by decide +kernel
theorem dL_lays_445 : decode cL_lays 445 = .ok (.ifCond .eq 16, 3) := by decide +kernel
theorem dL_lays_448 : decode cL_lays 448 = .ok (.aload 7, 2) := by decide +kernel
theorem dL_lays_450 : decode cL_lays 450 = .ok (.iconst 3, 1) := by decide +kernel
theorem dL_lays_451 : decode cL_lays 451 = .ok (.iload 8, 2) := by decide +kernel
theorem dL_lays_453 : decode cL_lays 453 = .ok (.imul, 1) := by decide +kernel
theorem dL_lays_454 : decode cL_lays 454 = .ok (.iload 9, 2) := by decide +kernel
theorem dL_lays_456 : decode cL_lays 456 = .ok (.iadd, 1) := by decide +kernel
theorem dL_lays_457 : decode cL_lays 457 = .ok (.iaload, 1) := by decide +kernel
theorem dL_lays_458 : decode cL_lays 458 = .ok (.goto 4, 3) := by decide +kernel
theorem dL_lays_461 : decode cL_lays 461 = .ok (.iconst 0, 1) := by decide +kernel
theorem dL_lays_462 : decode cL_lays 462 = .ok (.istore 13, 2) := by decide +kernel
theorem dL_lays_464 : decode cL_lays 464 = .ok (.iload 11, 2) := by decide +kernel
theorem dL_lays_466 : decode cL_lays 466 = .ok (.ifCond .eq 20, 3) := by decide +kernel
theorem dL_lays_469 : decode cL_lays 469 = .ok (.iload 12, 2) := by decide +kernel
theorem dL_lays_471 : decode cL_lays 471 = .ok (.ifCond .eq 15, 3) := by decide +kernel
theorem dL_lays_474 : decode cL_lays 474 = .ok (.aload 7, 2) := by decide +kernel
theorem dL_lays_476 : decode cL_lays 476 = .ok (.iconst 3, 1) := by decide +kernel
theorem dL_lays_477 : decode cL_lays 477 = .ok (.iload 8, 2) := by decide +kernel
theorem dL_lays_479 : decode cL_lays 479 = .ok (.imul, 1) := by decide +kernel
theorem dL_lays_480 : decode cL_lays 480 = .ok (.iload 9, 2) := by decide +kernel
theorem dL_lays_482 : decode cL_lays 482 = .ok (.iadd, 1) := by decide +kernel
theorem dL_lays_483 : decode cL_lays 483 = .ok (.iload 10, 2) := by decide +kernel
theorem dL_lays_485 : decode cL_lays 485 = .ok (.iastore, 1) := by decide +kernel
theorem dL_lays_486 : decode cL_lays 486 = .ok (.aload_n 0, 1) := by decide +kernel
theorem dL_lays_487 : decode cL_lays 487 = .ok (.iconst 3, 1) := by decide +kernel
theorem dL_lays_488 : decode cL_lays 488 = .ok (.iload 8, 2) := by decide +kernel
theorem dL_lays_490 : decode cL_lays 490 = .ok (.iload 9, 2) := by decide +kernel
theorem dL_lays_492 : decode cL_lays 492 = .ok (.iload 10, 2) := by decide +kernel
theorem dL_lays_494 : decode cL_lays 494 = .ok (.invokestatic 112, 3) := by decide +kernel
theorem dL_lays_497 : decode cL_lays 497 = .ok (.iload 11, 2) := by decide +kernel
theorem dL_lays_499 : decode cL_lays 499 = .ok (.ifCond .ne 8, 3) := by decide +kernel
theorem dL_lays_502 : decode cL_lays 502 = .ok (.bipush (-101), 2) := by decide +kernel
theorem dL_lays_504 : decode cL_lays 504 = .ok (.goto 15, 3) := by decide +kernel
theorem dL_lays_507 : decode cL_lays 507 = .ok (.iload 12, 2) := by decide +kernel
theorem dL_lays_509 : decode cL_lays 509 = .ok (.ifCond .eq 8, 3) := by decide +kernel
theorem dL_lays_512 : decode cL_lays 512 = .ok (.iload 13, 2) := by decide +kernel
theorem dL_lays_514 : decode cL_lays 514 = .ok (.goto 5, 3) := by decide +kernel
theorem dL_lays_517 : decode cL_lays 517 = .ok (.bipush (-102), 2) := by decide +kernel
theorem dL_lays_519 : decode cL_lays 519 = .ok (.if_icmp .ne 7, 3) := by decide +kernel
theorem dL_lays_522 : decode cL_lays 522 = .ok (.iconst 1, 1) := by decide +kernel
theorem dL_lays_523 : decode cL_lays 523 = .ok (.goto 4, 3) := by decide +kernel
theorem dL_lays_526 : decode cL_lays 526 = .ok (.iconst 0, 1) := by decide +kernel
theorem dL_lays_527 : decode cL_lays 527 = .ok (.ireturn, 1) := by decide +kernel
theorem dL_lays_528 : decode cL_lays 528 = .ok (.iload_n 2, 1) := by decide +kernel
theorem dL_lays_529 : decode cL_lays 529 = .ok (.bipush 60, 2) := by decide +kernel
theorem dL_lays_531 : decode cL_lays 531 = .ok (.invokestatic 101, 3) := by decide +kernel
theorem dL_lays_534 : decode cL_lays 534 = .ok (.ifCond .ne 7, 3) := by decide +kernel
theorem dL_lays_537 : decode cL_lays 537 = .ok (.iconst 5, 1) := by decide +kernel
theorem dL_lays_538 : decode cL_lays 538 = .ok (.goto 8, 3) := by decide +kernel
theorem dL_lays_541 : decode cL_lays 541 = .ok (.iload_n 2, 1) := by decide +kernel
theorem dL_lays_542 : decode cL_lays 542 = .ok (.iconst 5, 1) := by decide +kernel
theorem dL_lays_543 : decode cL_lays 543 = .ok (.invokestatic 101, 3) := by decide +kernel
theorem dL_lays_546 : decode cL_lays 546 = .ok (.istore 8, 2) := by decide +kernel
theorem dL_lays_548 : decode cL_lays 548 = .ok (.iload_n 2, 1) := by decide +kernel
theorem dL_lays_549 : decode cL_lays 549 = .ok (.iconst 4, 1) := by decide +kernel
theorem dL_lays_550 : decode cL_lays 550 = .ok (.ishr, 1) := by decide +kernel
theorem dL_lays_551 : decode cL_lays 551 = .ok (.bipush 60, 2) := by decide +kernel
theorem dL_lays_553 : decode cL_lays 553 = .ok (.invokestatic 101, 3) := by decide +kernel
theorem dL_lays_556 : decode cL_lays 556 = .ok (.ifCond .ne 7, 3) := by decide +kernel
theorem dL_lays_559 : decode cL_lays 559 = .ok (.iconst (-1), 1) := by decide +kernel
theorem dL_lays_560 : decode cL_lays 560 = .ok (.goto 11, 3) := by decide +kernel
theorem dL_lays_563 : decode cL_lays 563 = .ok (.iload_n 2, 1) := by decide +kernel
theorem dL_lays_564 : decode cL_lays 564 = .ok (.iconst 4, 1) := by decide +kernel
theorem dL_lays_565 : decode cL_lays 565 = .ok (.ishr, 1) := by decide +kernel
theorem dL_lays_566 : decode cL_lays 566 = .ok (.bipush 12, 2) := by decide +kernel
theorem dL_lays_568 : decode cL_lays 568 = .ok (.invokestatic 101, 3) := by decide +kernel
theorem dL_lays_571 : decode cL_lays 571 = .ok (.istore 9, 2) := by decide +kernel
theorem dL_lays_573 : decode cL_lays 573 = .ok (.iload_n 2, 1) := by decide +kernel
theorem dL_lays_574 : decode cL_lays 574 = .ok (.bipush 8, 2) := by decide +kernel
theorem dL_lays_576 : decode cL_lays 576 = .ok (.ishr, 1) := by decide +kernel
theorem dL_lays_577 : decode cL_lays 577 = .ok (.bipush 60, 2) := by decide +kernel
theorem dL_lays_579 : decode cL_lays 579 = .ok (.invokestatic 101, 3) := by decide +kernel
theorem dL_lays_582 : decode cL_lays 582 = .ok (.ifCond .ne 9, 3) := by decide +kernel
theorem dL_lays_585 : decode cL_lays 585 = .ok (.sipush 1001, 3) := by decide +kernel
theorem dL_lays_588 : decode cL_lays 588 = .ok (.goto 28, 3) := by decide +kernel
theorem dL_lays_591 : decode cL_lays 591 = .ok (.iload_n 2, 1) := by decide +kernel
theorem dL_lays_592 : decode cL_lays 592 = .ok (.bipush 8, 2) := by decide +kernel
theorem dL_lays_594 : decode cL_lays 594 = .ok (.ishr, 1) := by decide +kernel
theorem dL_lays_595 : decode cL_lays 595 = .ok (.iconst 4, 1) := by decide +kernel
theorem dL_lays_596 : decode cL_lays 596 = .ok (.invokestatic 101, 3) := by decide +kernel
theorem dL_lays_599 : decode cL_lays 599 = .ok (.ifCond .ne 7, 3) := by decide +kernel
theorem dL_lays_602 : decode cL_lays 602 = .ok (.iconst 0, 1) := by decide +kernel
theorem dL_lays_603 : decode cL_lays 603 = .ok (.goto 13, 3) := by decide +kernel
theorem dL_lays_606 : decode cL_lays 606 = .ok (.iload_n 2, 1) := by decide +kernel
theorem dL_lays_607 : decode cL_lays 607 = .ok (.bipush 9, 2) := by decide +kernel
theorem dL_lays_609 : decode cL_lays 609 = .ok (.ishr, 1) := by decide +kernel
theorem dL_lays_610 : decode cL_lays 610 = .ok (.sipush 300, 3) := by decide +kernel
theorem dL_lays_613 : decode cL_lays 613 = .ok (.invokestatic 101, 3) := by decide +kernel
theorem dL_lays_616 : decode cL_lays 616 = .ok (.istore 10, 2) := by decide +kernel
theorem dL_lays_618 : decode cL_lays 618 = .ok (.iload 8, 2) := by decide +kernel
theorem dL_lays_620 : decode cL_lays 620 = .ok (.iconst 5, 1) := by decide +kernel
theorem dL_lays_621 : decode cL_lays 621 = .ok (.if_icmp .ge 12, 3) := by decide +kernel
theorem dL_lays_624 : decode cL_lays 624 = .ok (.iload 9, 2) := by decide +kernel
theorem dL_lays_626 : decode cL_lays 626 = .ok (.ifCond .lt 7, 3) := by decide +kernel
theorem dL_lays_629 : decode cL_lays 629 = .ok (.iconst 1, 1) := by decide +kernel
theorem dL_lays_630 : decode cL_lays 630 = .ok (.goto 4, 3) := by decide +kernel
theorem dL_lays_633 : decode cL_lays 633 = .ok (.iconst 0, 1) := by decide +kernel
theorem dL_lays_634 : decode cL_lays 634 = .ok (.istore 11, 2) := by decide +kernel
theorem dL_lays_636 : decode cL_lays 636 = .ok (.iload 10, 2) := by decide +kernel
theorem dL_lays_638 : decode cL_lays 638 = .ok (.sipush 1001, 3) := by decide +kernel
theorem dL_lays_641 : decode cL_lays 641 = .ok (.if_icmp .ge 7, 3) := by decide +kernel
theorem dL_lays_644 : decode cL_lays 644 = .ok (.iconst 1, 1) := by decide +kernel
theorem dL_lays_645 : decode cL_lays 645 = .ok (.goto 4, 3) := by decide +kernel
theorem dL_lays_648 : decode cL_lays 648 = .ok (.iconst 0, 1) := by decide +kernel
theorem dL_lays_649 : decode cL_lays 649 = .ok (.istore 12, 2) := by decide +kernel
theorem dL_lays_651 : decode cL_lays 651 = .ok (.iload 11, 2) := by decide +kernel
theorem dL_lays_653 : decode cL_lays 653 = .ok (.ifCond .eq 17, 3) := by decide +kernel
theorem dL_lays_656 : decode cL_lays 656 = .ok (.aload 6, 2) := by decide +kernel
theorem dL_lays_658 : decode cL_lays 658 = .ok (.bipush 12, 2) := by decide +kernel
theorem dL_lays_660 : decode cL_lays 660 = .ok (.iload 8, 2) := by decide +kernel
theorem dL_lays_662 : decode cL_lays 662 = .ok (.imul, 1) := by decide +kernel
theorem dL_lays_663 : decode cL_lays 663 = .ok (.iload 9, 2) := by decide +kernel
theorem dL_lays_665 : decode cL_lays 665 = .ok (.iadd, 1) := by decide +kernel
theorem dL_lays_666 : decode cL_lays 666 = .ok (.iaload, 1) := by decide +kernel
theorem dL_lays_667 : decode cL_lays 667 = .ok (.goto 4, 3) := by decide +kernel
theorem dL_lays_670 : decode cL_lays 670 = .ok (.iconst 0, 1) := by decide +kernel
theorem dL_lays_671 : decode cL_lays 671 = .ok (.istore 13, 2) := by decide +kernel
theorem dL_lays_673 : decode cL_lays 673 = .ok (.iload 11, 2) := by decide +kernel
theorem dL_lays_675 : decode cL_lays 675 = .ok (.ifCond .eq 21, 3) := by decide +kernel
theorem dL_lays_678 : decode cL_lays 678 = .ok (.iload 12, 2) := by decide +kernel
theorem dL_lays_680 : decode cL_lays 680 = .ok (.ifCond .eq 16, 3) := by decide +kernel
theorem dL_lays_683 : decode cL_lays 683 = .ok (.aload 6, 2) := by decide +kernel
theorem dL_lays_685 : decode cL_lays 685 = .ok (.bipush 12, 2) := by decide +kernel
theorem dL_lays_687 : decode cL_lays 687 = .ok (.iload 8, 2) := by decide +kernel
theorem dL_lays_689 : decode cL_lays 689 = .ok (.imul, 1) := by decide +kernel
theorem dL_lays_690 : decode cL_lays 690 = .ok (.iload 9, 2) := by decide +kernel
theorem dL_lays_692 : decode cL_lays 692 = .ok (.iadd, 1) := by decide +kernel
theorem dL_lays_693 : decode cL_lays 693 = .ok (.iload 10, 2) := by decide +kernel
theorem dL_lays_695 : decode cL_lays 695 = .ok (.iastore, 1) := by decide +kernel
theorem dL_lays_696 : decode cL_lays 696 = .ok (.aload_n 0, 1) := by decide +kernel
theorem dL_lays_697 : decode cL_lays 697 = .ok (.iconst 0, 1) := by decide +kernel
theorem dL_lays_698 : decode cL_lays 698 = .ok (.iload 8, 2) := by decide +kernel
theorem dL_lays_700 : decode cL_lays 700 = .ok (.iload 9, 2) := by decide +kernel
theorem dL_lays_702 : decode cL_lays 702 = .ok (.iload 10, 2) := by decide +kernel
theorem dL_lays_704 : decode cL_lays 704 = .ok (.invokestatic 112, 3) := by decide +kernel
theorem dL_lays_707 : decode cL_lays 707 = .ok (.iload 11, 2) := by decide +kernel
theorem dL_lays_709 : decode cL_lays 709 = .ok (.ifCond .ne 8, 3) := by decide +kernel
theorem dL_lays_712 : decode cL_lays 712 = .ok (.bipush (-101), 2) := by decide +kernel
theorem dL_lays_714 : decode cL_lays 714 = .ok (.goto 15, 3) := by decide +kernel
theorem dL_lays_717 : decode cL_lays 717 = .ok (.iload 12, 2) := by decide +kernel
theorem dL_lays_719 : decode cL_lays 719 = .ok (.ifCond .eq 8, 3) := by decide +kernel
theorem dL_lays_722 : decode cL_lays 722 = .ok (.iload 13, 2) := by decide +kernel
theorem dL_lays_724 : decode cL_lays 724 = .ok (.goto 5, 3) := by decide +kernel
theorem dL_lays_727 : decode cL_lays 727 = .ok (.bipush (-102), 2) := by decide +kernel
theorem dL_lays_729 : decode cL_lays 729 = .ok (.if_icmp .ne 7, 3) := by decide +kernel
theorem dL_lays_732 : decode cL_lays 732 = .ok (.iconst 1, 1) := by decide +kernel
theorem dL_lays_733 : decode cL_lays 733 = .ok (.goto 4, 3) := by decide +kernel
theorem dL_lays_736 : decode cL_lays 736 = .ok (.iconst 0, 1) := by decide +kernel
theorem dL_lays_737 : decode cL_lays 737 = .ok (.ireturn, 1) := by decide +kernel
theorem dL_pumps_0 : decode cL_pumps 0 = .ok (.iload_n 2, 1) := by decide +kernel
theorem dL_pumps_1 : decode cL_pumps 1 = .ok (.iconst 3, 1) := by decide +kernel
theorem dL_pumps_2 : decode cL_pumps 2 = .ok (.ishr, 1) := by decide +kernel
theorem dL_pumps_3 : decode cL_pumps 3 = .ok (.bipush 50, 2) := by decide +kernel
theorem dL_pumps_5 : decode cL_pumps 5 = .ok (.invokestatic 101, 3) := by decide +kernel
theorem dL_pumps_8 : decode cL_pumps 8 = .ok (.ifCond .ne 8, 3) := by decide +kernel
theorem dL_pumps_11 : decode cL_pumps 11 = .ok (.bipush 36, 2) := by decide +kernel
theorem dL_pumps_13 : decode cL_pumps 13 = .ok (.goto 11, 3) := by decide +kernel
theorem dL_pumps_16 : decode cL_pumps 16 = .ok (.iload_n 2, 1) := by decide +kernel
theorem dL_pumps_17 : decode cL_pumps 17 = .ok (.iconst 3, 1) := by decide +kernel
theorem dL_pumps_18 : decode cL_pumps 18 = .ok (.ishr, 1) := by decide +kernel
theorem dL_pumps_19 : decode cL_pumps 19 = .ok (.bipush 36, 2) := by decide +kernel
theorem dL_pumps_21 : decode cL_pumps 21 = .ok (.invokestatic 101, 3) := by decide +kernel
theorem dL_pumps_24 : decode cL_pumps 24 = .ok (.istore 6, 2) := by decide +kernel
theorem dL_pumps_26 : decode cL_pumps 26 = .ok (.iload_n 2, 1) := by decide +kernel
theorem dL_pumps_27 : decode cL_pumps 27 = .ok (.bipush 6, 2) := by decide +kernel
theorem dL_pumps_29 : decode cL_pumps 29 = .ok (.ishr, 1) := by decide +kernel
theorem dL_pumps_30 : decode cL_pumps 30 = .ok (.bipush 50, 2) := by decide +kernel
theorem dL_pumps_32 : decode cL_pumps 32 = .ok (.invokestatic 101, 3) := by decide +kernel
theorem dL_pumps_35 : decode cL_pumps 35 = .ok (.ifCond .ne 9, 3) := by decide +kernel
theorem dL_pumps_38 : decode cL_pumps 38 = .ok (.sipush 1001, 3) := by decide +kernel
theorem dL_pumps_41 : decode cL_pumps 41 = .ok (.goto 28, 3) := by decide +kernel
theorem dL_pumps_44 : decode cL_pumps 44 = .ok (.iload_n 2, 1) := by decide +kernel
theorem dL_pumps_45 : decode cL_pumps 45 = .ok (.bipush 6, 2) := by decide +kernel
theorem dL_pumps_47 : decode cL_pumps 47 = .ok (.ishr, 1) := by decide +kernel
theorem dL_pumps_48 : decode cL_pumps 48 = .ok (.iconst 4, 1) := by decide +kernel
theorem dL_pumps_49 : decode cL_pumps 49 = .ok (.invokestatic 101, 3) := by decide +kernel
theorem dL_pumps_52 : decode cL_pumps 52 = .ok (.ifCond .ne 7, 3) := by decide +kernel
theorem dL_pumps_55 : decode cL_pumps 55 = .ok (.iconst 0, 1) := by decide +kernel
theorem dL_pumps_56 : decode cL_pumps 56 = .ok (.goto 13, 3) := by decide +kernel
theorem dL_pumps_59 : decode cL_pumps 59 = .ok (.iload_n 2, 1) := by decide +kernel
theorem dL_pumps_60 : decode cL_pumps 60 = .ok (.bipush 7, 2) := by decide +kernel
theorem dL_pumps_62 : decode cL_pumps 62 = .ok (.ishr, 1) := by decide +kernel
theorem dL_pumps_63 : decode cL_pumps 63 = .ok (.sipush 301, 3) := by decide +kernel
theorem dL_pumps_66 : decode cL_pumps 66 = .ok (.invokestatic 101, 3) := by decide +kernel
theorem dL_pumps_69 : decode cL_pumps 69 = .ok (.istore 7, 2) := by decide +kernel
theorem dL_pumps_71 : decode cL_pumps 71 = .ok (.iload 5, 2) := by decide +kernel
theorem dL_pumps_73 : decode cL_pumps 73 = .ok (.ifCond .lt 22, 3) := by decide +kernel
theorem dL_pumps_76 : decode cL_pumps 76 = .ok (.iload 5, 2) := by decide +kernel
theorem dL_pumps_78 : decode cL_pumps 78 = .ok (.aload_n 3, 1) := by decide +kernel
theorem dL_pumps_79 : decode cL_pumps 79 = .ok (.iconst 0, 1) := by decide +kernel
theorem dL_pumps_80 : decode cL_pumps 80 = .ok (.iaload, 1) := by decide +kernel
theorem dL_pumps_81 : decode cL_pumps 81 = .ok (.if_icmp .ge 14, 3) := by decide +kernel
theorem dL_pumps_84 : decode cL_pumps 84 = .ok (.iload 6, 2) := by decide +kernel
theorem dL_pumps_86 : decode cL_pumps 86 = .ok (.bipush 36, 2) := by decide +kernel
theorem dL_pumps_88 : decode cL_pumps 88 = .ok (.if_icmp .ge 7, 3) := by decide +kernel
theorem dL_pumps_91 : decode cL_pumps 91 = .ok (.iconst 1, 1) := by decide +kernel
theorem dL_pumps_92 : decode cL_pumps 92 = .ok (.goto 4, 3) := by decide +kernel
theorem dL_pumps_95 : decode cL_pumps 95 = .ok (.iconst 0, 1) := by decide +kernel
theorem dL_pumps_96 : decode cL_pumps 96 = .ok (.istore 8, 2) := by decide +kernel
theorem dL_pumps_98 : decode cL_pumps 98 = .ok (.iload_n 1, 1) := by decide +kernel
theorem dL_pumps_99 : decode cL_pumps 99 = .ok (.ifCond .eq 156, 3) := by decide +kernel
theorem dL_pumps_102 : decode cL_pumps 102 = .ok (.iload_n 2, 1) := by decide +kernel
theorem dL_pumps_103 : decode cL_pumps 103 = .ok (.bipush 6, 2) := by decide +kernel
theorem dL_pumps_105 : decode cL_pumps 105 = .ok (.ishr, 1) := by decide +kernel
theorem dL_pumps_106 : decode cL_pumps 106 = .ok (.bipush 30, 2) := by decide +kernel
theorem dL_pumps_108 : decode cL_pumps 108 = .ok (.invokestatic 101, 3) := by decide +kernel
theorem dL_pumps_111 : decode cL_pumps 111 = .ok (.ifCond .ne 14, 3) := by decide +kernel
theorem dL_pumps_114 : decode cL_pumps 114 = .ok (.bipush 37, 2) := by decide +kernel
theorem dL_pumps_116 : decode cL_pumps 116 = .ok (.iload_n 2, 1) := by decide +kernel
theorem dL_pumps_117 : decode cL_pumps 117 = .ok (.iconst 2, 1) := by decide +kernel
theorem dL_pumps_118 : decode cL_pumps 118 = .ok (.invokestatic 101, 3) := by decide +kernel
theorem dL_pumps_121 : decode cL_pumps 121 = .ok (.imul, 1) := by decide +kernel
theorem dL_pumps_122 : decode cL_pumps 122 = .ok (.goto 14, 3) := by decide +kernel
theorem dL_pumps_125 : decode cL_pumps 125 = .ok (.iconst 1, 1) := by decide +kernel
theorem dL_pumps_126 : decode cL_pumps 126 = .ok (.iload_n 2, 1) := by decide +kernel
theorem dL_pumps_127 : decode cL_pumps 127 = .ok (.bipush 6, 2) := by decide +kernel
theorem dL_pumps_129 : decode cL_pumps 129 = .ok (.ishr, 1) := by decide +kernel
theorem dL_pumps_130 : decode cL_pumps 130 = .ok (.bipush 9, 2) := by decide +kernel
theorem dL_pumps_132 : decode cL_pumps 132 = .ok (.invokestatic 101, 3) := by decide +kernel
theorem dL_pumps_135 : decode cL_pumps 135 = .ok (.iadd, 1) := by decide +kernel
theorem dL_pumps_136 : decode cL_pumps 136 = .ok (.istore 9, 2) := by decide +kernel
theorem dL_pumps_138 : decode cL_pumps 138 = .ok (.iload 9, 2) := by decide +kernel
theorem dL_pumps_140 : decode cL_pumps 140 = .ok (.ifCond .le 14, 3) := by decide +kernel
theorem dL_pumps_143 : decode cL_pumps 143 = .ok (.iload 9, 2) := by decide +kernel
theorem dL_pumps_145 : decode cL_pumps 145 = .ok (.bipush 37, 2) := by decide +kernel
theorem dL_pumps_147 : decode cL_pumps 147 = .ok (.if_icmp .ge 7, 3) := by decide +kernel
theorem dL_pumps_150 : decode cL_pumps 150 = .ok (.iconst 1, 1) := by decide +kernel
theorem dL_pumps_151 : decode cL_pumps 151 = .ok (.goto 4, 3) := by decide +kernel
theorem dL_pumps_154 : decode cL_pumps 154 = .ok (.iconst 0, 1) := by decide +kernel
theorem dL_pumps_155 : decode cL_pumps 155 = .ok (.istore 10, 2) := by decide +kernel
theorem dL_pumps_157 : decode cL_pumps 157 = .ok (.iconst 0, 1) := by decide +kernel
theorem dL_pumps_158 : decode cL_pumps 158 = .ok (.istore 11, 2) := by decide +kernel
theorem dL_pumps_160 : decode cL_pumps 160 = .ok (.iload 6, 2) := by decide +kernel
theorem dL_pumps_162 : decode cL_pumps 162 = .ok (.istore 12, 2) := by decide +kernel
theorem dL_pumps_164 : decode cL_pumps 164 = .ok (.iload 12, 2) := by decide +kernel
theorem dL_pumps_166 : decode cL_pumps 166 = .ok (.iload 6, 2) := by decide +kernel
theorem dL_pumps_168 : decode cL_pumps 168 = .ok (.iload 9, 2) := by decide +kernel
theorem dL_pumps_170 : decode cL_pumps 170 = .ok (.iadd, 1) := by decide +kernel
theorem dL_pumps_171 : decode cL_pumps 171 = .ok (.if_icmp .ge 42, 3) := by decide +kernel
theorem dL_pumps_174 : decode cL_pumps 174 = .ok (.iload 12, 2) := by decide +kernel
theorem dL_pumps_176 : decode cL_pumps 176 = .ok (.bipush 36, 2) := by decide +kernel
theorem dL_pumps_178 : decode cL_pumps 178 = .ok (.if_icmp .ge 35, 3) := by decide +kernel
theorem dL_pumps_181 : decode cL_pumps 181 = .ok (.iload 8, 2) := by decide +kernel
theorem dL_pumps_183 : decode cL_pumps 183 = .ok (.ifCond .eq 30, 3) := by decide +kernel
theorem dL_pumps_186 : decode cL_pumps 186 = .ok (.iload 10, 2) := by decide +kernel
theorem dL_pumps_188 : decode cL_pumps 188 = .ok (.ifCond .eq 25, 3) := by decide +kernel
theorem dL_pumps_191 : decode cL_pumps 191 = .ok (.iload 11, 2) := by decide +kernel
theorem dL_pumps_193 : decode cL_pumps 193 = .ok (.aload 4, 2) := by decide +kernel
theorem dL_pumps_195 : decode cL_pumps 195 = .ok (.iload 12, 2) := by decide +kernel
theorem dL_pumps_197 : decode cL_pumps 197 = .ok (.iaload, 1) := by decide +kernel
theorem dL_pumps_198 : decode cL_pumps 198 = .ok (.iadd, 1) := by decide +kernel
theorem dL_pumps_199 : decode cL_pumps 199 = .ok (.istore 11, 2) := by decide +kernel
theorem dL_pumps_201 : decode cL_pumps 201 = .ok (.aload 4, 2) := by decide +kernel
theorem dL_pumps_203 : decode cL_pumps 203 = .ok (.iload 12, 2) := by decide +kernel
theorem dL_pumps_205 : decode cL_pumps 205 = .ok (.iconst 0, 1) := by decide +kernel
theorem dL_pumps_206 : decode cL_pumps 206 = .ok (.iastore, 1) := by decide +kernel
theorem dL_pumps_207 : decode cL_pumps 207 = .ok (.iinc 12 1, 3) := by decide +kernel
theorem dL_pumps_210 : decode cL_pumps 210 = .ok (.goto (-46), 3) := by decide +kernel
theorem dL_pumps_213 : decode cL_pumps 213 = .ok (.aload_n 0, 1) := by decide +kernel
theorem dL_pumps_214 : decode cL_pumps 214 = .ok (.iconst 2, 1) := by decide +kernel
theorem dL_pumps_215 : decode cL_pumps 215 = .ok (.iload 5, 2) := by decide +kernel
theorem dL_pumps_217 : decode cL_pumps 217 = .ok (.iload 6, 2) := by decide +kernel
theorem dL_pumps_219 : decode cL_pumps 219 = .ok (.iload 9, 2) := by decide +kernel
theorem dL_pumps_221 : decode cL_pumps 221 = .ok (.invokestatic 112, 3) := by decide +kernel
theorem dL_pumps_224 : decode cL_pumps 224 = .ok (.iload 8, 2) := by decide +kernel
theorem dL_pumps_226 : decode cL_pumps 226 = .ok (.ifCond .ne 8, 3) := by decide +kernel
theorem dL_pumps_229 : decode cL_pumps 229 = .ok (.bipush (-101), 2) := by decide +kernel
theorem dL_pumps_231 : decode cL_pumps 231 = .ok (.goto 15, 3) := by decide +kernel
theorem dL_pumps_234 : decode cL_pumps 234 = .ok (.iload 10, 2) := by decide +kernel
theorem dL_pumps_236 : decode cL_pumps 236 = .ok (.ifCond .eq 8, 3) := by decide +kernel
theorem dL_pumps_239 : decode cL_pumps 239 = .ok (.iload 11, 2) := by decide +kernel
theorem dL_pumps_241 : decode cL_pumps 241 = .ok (.goto 5, 3) := by decide +kernel
theorem dL_pumps_244 : decode cL_pumps 244 = .ok (.bipush (-102), 2) := by decide +kernel
theorem dL_pumps_246 : decode cL_pumps 246 = .ok (.if_icmp .ne 7, 3) := by decide +kernel
theorem dL_pumps_249 : decode cL_pumps 249 = .ok (.iconst 1, 1) := by decide +kernel
theorem dL_pumps_250 : decode cL_pumps 250 = .ok (.goto 4, 3) := by decide +kernel
theorem dL_pumps_253 : decode cL_pumps 253 = .ok (.iconst 0, 1) := by decide +kernel
theorem dL_pumps_254 : decode cL_pumps 254 = .ok (.ireturn, 1) := by decide +kernel
theorem dL_pumps_255 : decode cL_pumps 255 = .ok (.iload 7, 2) := by decide +kernel
theorem dL_pumps_257 : decode cL_pumps 257 = .ok (.sipush 1001, 3) := by decide +kernel
theorem dL_pumps_260 : decode cL_pumps 260 = .ok (.if_icmp .ge 7, 3) := by decide +kernel
theorem dL_pumps_263 : decode cL_pumps 263 = .ok (.iconst 1, 1) := by decide +kernel
theorem dL_pumps_264 : decode cL_pumps 264 = .ok (.goto 4, 3) := by decide +kernel
theorem dL_pumps_267 : decode cL_pumps 267 = .ok (.iconst 0, 1) := by decide +kernel
theorem dL_pumps_268 : decode cL_pumps 268 = .ok (.istore 9, 2) := by decide +kernel
theorem dL_pumps_270 : decode cL_pumps 270 = .ok (.iload 8, 2) := by decide +kernel
theorem dL_pumps_272 : decode cL_pumps 272 = .ok (.ifCond .eq 11, 3) := by decide +kernel
theorem dL_pumps_275 : decode cL_pumps 275 = .ok (.aload 4, 2) := by decide +kernel
theorem dL_pumps_277 : decode cL_pumps 277 = .ok (.iload 6, 2) := by decide +kernel
theorem dL_pumps_279 : decode cL_pumps 279 = .ok (.iaload, 1) := by decide +kernel
theorem dL_pumps_280 : decode cL_pumps 280 = .ok (.goto 4, 3) := by decide +kernel
theorem dL_pumps_283 : decode cL_pumps 283 = .ok (.iconst 0, 1) := by decide +kernel
theorem dL_pumps_284 : decode cL_pumps 284 = .ok (.istore 10, 2) := by decide +kernel
theorem dL_pumps_286 : decode cL_pumps 286 = .ok (.iload 8, 2) := by decide +kernel
theorem dL_pumps_288 : decode cL_pumps 288 = .ok (.ifCond .eq 15, 3) := by decide +kernel
theorem dL_pumps_291 : decode cL_pumps 291 = .ok (.iload 9, 2) := by decide +kernel
theorem dL_pumps_293 : decode cL_pumps 293 = .ok (.ifCond .eq 10, 3) := by decide +kernel
theorem dL_pumps_296 : decode cL_pumps 296 = .ok (.aload 4, 2) := by decide +kernel
theorem dL_pumps_298 : decode cL_pumps 298 = .ok (.iload 6, 2) := by decide +kernel
theorem dL_pumps_300 : decode cL_pumps 300 = .ok (.iload 7, 2) := by decide +kernel
theorem dL_pumps_302 : decode cL_pumps 302 = .ok (.iastore, 1) := by decide +kernel
theorem dL_pumps_303 : decode cL_pumps 303 = .ok (.aload_n 0, 1) := by decide +kernel
theorem dL_pumps_304 : decode cL_pumps 304 = .ok (.iconst 1, 1) := by decide +kernel
theorem dL_pumps_305 : decode cL_pumps 305 = .ok (.iload 5, 2) := by decide +kernel
theorem dL_pumps_307 : decode cL_pumps 307 = .ok (.iload 6, 2) := by decide +kernel
theorem dL_pumps_309 : decode cL_pumps 309 = .ok (.iload 7, 2) := by decide +kernel
theorem dL_pumps_311 : decode cL_pumps 311 = .ok (.invokestatic 112, 3) := by decide +kernel
theorem dL_pumps_314 : decode cL_pumps 314 = .ok (.iload 8, 2) := by decide +kernel
theorem dL_pumps_316 : decode cL_pumps 316 = .ok (.ifCond .ne 8, 3) := by decide +kernel
theorem dL_pumps_319 : decode cL_pumps 319 = .ok (.bipush (-101), 2) := by decide +kernel
theorem dL_pumps_321 : decode cL_pumps 321 = .ok (.goto 15, 3) := by decide +kernel
theorem dL_pumps_324 : decode cL_pumps 324 = .ok (.iload 9, 2) := by decide +kernel
theorem dL_pumps_326 : decode cL_pumps 326 = .ok (.ifCond .eq 8, 3) := by decide +kernel
theorem dL_pumps_329 : decode cL_pumps 329 = .ok (.iload 10, 2) := by decide +kernel
theorem dL_pumps_331 : decode cL_pumps 331 = .ok (.goto 5, 3) := by decide +kernel
theorem dL_pumps_334 : decode cL_pumps 334 = .ok (.bipush (-102), 2) := by decide +kernel
theorem dL_pumps_336 : decode cL_pumps 336 = .ok (.if_icmp .ne 7, 3) := by decide +kernel
theorem dL_pumps_339 : decode cL_pumps 339 = .ok (.iconst 1, 1) := by decide +kernel
theorem dL_pumps_340 : decode cL_pumps 340 = .ok (.goto 4, 3) := by decide +kernel
theorem dL_pumps_343 : decode cL_pumps 343 = .ok (.iconst 0, 1) := by decide +kernel
theorem dL_pumps_344 : decode cL_pumps 344 = .ok (.ireturn, 1) := by decide +kernel
theorem dL_deals_0 : decode cL_deals 0 = .ok (.iload_n 1, 1) := by decide +kernel
theorem dL_deals_1 : decode cL_deals 1 = .ok (.aload_n 2, 1) := by decide +kernel
theorem dL_deals_2 : decode cL_deals 2 = .ok (.iconst 0, 1) := by decide +kernel
theorem dL_deals_3 : decode cL_deals 3 = .ok (.iaload, 1) := by decide +kernel
theorem dL_deals_4 : decode cL_deals 4 = .ok (.iconst 1, 1) := by decide +kernel
theorem dL_deals_5 : decode cL_deals 5 = .ok (.iadd, 1) := by decide +kernel
theorem dL_deals_6 : decode cL_deals 6 = .ok (.invokestatic 101, 3) := by decide +kernel
theorem dL_deals_9 : decode cL_deals 9 = .ok (.iload_n 1, 1) := by decide +kernel
theorem dL_deals_10 : decode cL_deals 10 = .ok (.bipush 9, 2) := by decide +kernel
theorem dL_deals_12 : decode cL_deals 12 = .ok (.ishr, 1) := by decide +kernel
theorem dL_deals_13 : decode cL_deals 13 = .ok (.bipush 19, 2) := by decide +kernel
theorem dL_deals_15 : decode cL_deals 15 = .ok (.invokestatic 101, 3) := by decide +kernel
theorem dL_deals_18 : decode cL_deals 18 = .ok (.ifCond .ne 7, 3) := by decide +kernel
theorem dL_deals_21 : decode cL_deals 21 = .ok (.iconst 1, 1) := by decide +kernel
theorem dL_deals_22 : decode cL_deals 22 = .ok (.goto 4, 3) := by decide +kernel
theorem dL_deals_25 : decode cL_deals 25 = .ok (.iconst 0, 1) := by decide +kernel
theorem dL_deals_26 : decode cL_deals 26 = .ok (.isub, 1) := by decide +kernel
theorem dL_deals_27 : decode cL_deals 27 = .ok (.istore 7, 2) := by decide +kernel
theorem dL_deals_29 : decode cL_deals 29 = .ok (.iload_n 1, 1) := by decide +kernel
theorem dL_deals_30 : decode cL_deals 30 = .ok (.iconst 4, 1) := by decide +kernel
theorem dL_deals_31 : decode cL_deals 31 = .ok (.ishr, 1) := by decide +kernel
theorem dL_deals_32 : decode cL_deals 32 = .ok (.aload_n 2, 1) := by decide +kernel
theorem dL_deals_33 : decode cL_deals 33 = .ok (.iconst 0, 1) := by decide +kernel
theorem dL_deals_34 : decode cL_deals 34 = .ok (.iaload, 1) := by decide +kernel
theorem dL_deals_35 : decode cL_deals 35 = .ok (.iconst 1, 1) := by decide +kernel
theorem dL_deals_36 : decode cL_deals 36 = .ok (.iadd, 1) := by decide +kernel
theorem dL_deals_37 : decode cL_deals 37 = .ok (.invokestatic 101, 3) := by decide +kernel
theorem dL_deals_40 : decode cL_deals 40 = .ok (.istore 8, 2) := by decide +kernel
theorem dL_deals_42 : decode cL_deals 42 = .ok (.iload 7, 2) := by decide +kernel
theorem dL_deals_44 : decode cL_deals 44 = .ok (.ifCond .lt 23, 3) := by decide +kernel
theorem dL_deals_47 : decode cL_deals 47 = .ok (.iload 7, 2) := by decide +kernel
theorem dL_deals_49 : decode cL_deals 49 = .ok (.aload_n 2, 1) := by decide +kernel
theorem dL_deals_50 : decode cL_deals 50 = .ok (.iconst 0, 1) := by decide +kernel
theorem dL_deals_51 : decode cL_deals 51 = .ok (.iaload, 1) := by decide +kernel
theorem dL_deals_52 : decode cL_deals 52 = .ok (.if_icmp .ge 15, 3) := by decide +kernel
theorem dL_deals_55 : decode cL_deals 55 = .ok (.iload 8, 2) := by decide +kernel
theorem dL_deals_57 : decode cL_deals 57 = .ok (.aload_n 2, 1) := by decide +kernel
theorem dL_deals_58 : decode cL_deals 58 = .ok (.iconst 0, 1) := by decide +kernel
theorem dL_deals_59 : decode cL_deals 59 = .ok (.iaload, 1) := by decide +kernel
theorem dL_deals_60 : decode cL_deals 60 = .ok (.if_icmp .ge 7, 3) := by decide +kernel
theorem dL_deals_63 : decode cL_deals 63 = .ok (.iconst 1, 1) := by decide +kernel
theorem dL_deals_64 : decode cL_deals 64 = .ok (.goto 4, 3) := by decide +kernel
theorem dL_deals_67 : decode cL_deals 67 = .ok (.iconst 0, 1) := by decide +kernel
theorem dL_deals_68 : decode cL_deals 68 = .ok (.istore 9, 2) := by decide +kernel
theorem dL_deals_70 : decode cL_deals 70 = .ok (.iconst 0, 1) := by decide +kernel
theorem dL_deals_71 : decode cL_deals 71 = .ok (.istore 10, 2) := by decide +kernel
theorem dL_deals_73 : decode cL_deals 73 = .ok (.iconst 1, 1) := by decide +kernel
theorem dL_deals_74 : decode cL_deals 74 = .ok (.istore 11, 2) := by decide +kernel
theorem dL_deals_76 : decode cL_deals 76 = .ok (.iload 11, 2) := by decide +kernel
theorem dL_deals_78 : decode cL_deals 78 = .ok (.sipush 700, 3) := by decide +kernel
theorem dL_deals_81 : decode cL_deals 81 = .ok (.if_icmp .ge 50, 3) := by decide +kernel
theorem dL_deals_84 : decode cL_deals 84 = .ok (.iload 9, 2) := by decide +kernel
theorem dL_deals_86 : decode cL_deals 86 = .ok (.ifCond .eq 45, 3) := by decide +kernel
theorem dL_deals_89 : decode cL_deals 89 = .ok (.iload 7, 2) := by decide +kernel
theorem dL_deals_91 : decode cL_deals 91 = .ok (.iload 8, 2) := by decide +kernel
theorem dL_deals_93 : decode cL_deals 93 = .ok (.if_icmp .eq 38, 3) := by decide +kernel
theorem dL_deals_96 : decode cL_deals 96 = .ok (.aload_n 2, 1) := by decide +kernel
theorem dL_deals_97 : decode cL_deals 97 = .ok (.aload_n 3, 1) := by decide +kernel
theorem dL_deals_98 : decode cL_deals 98 = .ok (.aload 4, 2) := by decide +kernel
theorem dL_deals_100 : decode cL_deals 100 = .ok (.aload 5, 2) := by decide +kernel
theorem dL_deals_102 : decode cL_deals 102 = .ok (.aload 6, 2) := by decide +kernel
theorem dL_deals_104 : decode cL_deals 104 = .ok (.iload 7, 2) := by decide +kernel
theorem dL_deals_106 : decode cL_deals 106 = .ok (.iload 8, 2) := by decide +kernel
theorem dL_deals_108 : decode cL_deals 108 = .ok (.iload 11, 2) := by decide +kernel
theorem dL_deals_110 : decode cL_deals 110 = .ok (.invokestatic 116, 3) := by decide +kernel
theorem dL_deals_113 : decode cL_deals 113 = .ok (.ifCond .lt 8, 3) := by decide +kernel
theorem dL_deals_116 : decode cL_deals 116 = .ok (.iload 11, 2) := by decide +kernel
theorem dL_deals_118 : decode cL_deals 118 = .ok (.goto 5, 3) := by decide +kernel
theorem dL_deals_121 : decode cL_deals 121 = .ok (.iload 10, 2) := by decide +kernel
theorem dL_deals_123 : decode cL_deals 123 = .ok (.istore 10, 2) := by decide +kernel
theorem dL_deals_125 : decode cL_deals 125 = .ok (.iinc 11 1, 3) := by decide +kernel
theorem dL_deals_128 : decode cL_deals 128 = .ok (.goto (-52), 3) := by decide +kernel
theorem dL_deals_131 : decode cL_deals 131 = .ok (.iload 9, 2) := by decide +kernel
theorem dL_deals_133 : decode cL_deals 133 = .ok (.ifCond .eq 25, 3) := by decide +kernel
theorem dL_deals_136 : decode cL_deals 136 = .ok (.iload 7, 2) := by decide +kernel
theorem dL_deals_138 : decode cL_deals 138 = .ok (.iload 8, 2) := by decide +kernel
theorem dL_deals_140 : decode cL_deals 140 = .ok (.if_icmp .eq 18, 3) := by decide +kernel
theorem dL_deals_143 : decode cL_deals 143 = .ok (.aload_n 3, 1) := by decide +kernel
theorem dL_deals_144 : decode cL_deals 144 = .ok (.bipush 10, 2) := by decide +kernel
theorem dL_deals_146 : decode cL_deals 146 = .ok (.iload 7, 2) := by decide +kernel
theorem dL_deals_148 : decode cL_deals 148 = .ok (.iadd, 1) := by decide +kernel
theorem dL_deals_149 : decode cL_deals 149 = .ok (.iaload, 1) := by decide +kernel
theorem dL_deals_150 : decode cL_deals 150 = .ok (.sipush 700, 3) := by decide +kernel
theorem dL_deals_153 : decode cL_deals 153 = .ok (.if_icmp .lt 5, 3) := by decide +kernel
theorem dL_deals_156 : decode cL_deals 156 = .ok (.iconst 1, 1) := by decide +kernel
theorem dL_deals_157 : decode cL_deals 157 = .ok (.ireturn, 1) := by decide +kernel
theorem dL_deals_158 : decode cL_deals 158 = .ok (.aload_n 0, 1) := by decide +kernel
theorem dL_deals_159 : decode cL_deals 159 = .ok (.iload 7, 2) := by decide +kernel
theorem dL_deals_161 : decode cL_deals 161 = .ok (.iload 8, 2) := by decide +kernel
theorem dL_deals_163 : decode cL_deals 163 = .ok (.invokestatic 120, 3) := by decide +kernel
theorem dL_deals_166 : decode cL_deals 166 = .ok (.iload 9, 2) := by decide +kernel
theorem dL_deals_168 : decode cL_deals 168 = .ok (.ifCond .ne 8, 3) := by decide +kernel
theorem dL_deals_171 : decode cL_deals 171 = .ok (.bipush (-101), 2) := by decide +kernel
theorem dL_deals_173 : decode cL_deals 173 = .ok (.goto 17, 3) := by decide +kernel
theorem dL_deals_176 : decode cL_deals 176 = .ok (.iload 7, 2) := by decide +kernel
theorem dL_deals_178 : decode cL_deals 178 = .ok (.iload 8, 2) := by decide +kernel
theorem dL_deals_180 : decode cL_deals 180 = .ok (.if_icmp .ne 8, 3) := by decide +kernel
theorem dL_deals_183 : decode cL_deals 183 = .ok (.bipush (-102), 2) := by decide +kernel
theorem dL_deals_185 : decode cL_deals 185 = .ok (.goto 5, 3) := by decide +kernel
theorem dL_deals_188 : decode cL_deals 188 = .ok (.iload 10, 2) := by decide +kernel
theorem dL_deals_190 : decode cL_deals 190 = .ok (.if_icmp .eq 5, 3) := by decide +kernel
theorem dL_deals_193 : decode cL_deals 193 = .ok (.iconst 0, 1) := by decide +kernel
theorem dL_deals_194 : decode cL_deals 194 = .ok (.ireturn, 1) := by decide +kernel
theorem dL_deals_195 : decode cL_deals 195 = .ok (.iload_n 1, 1) := by decide +kernel
theorem dL_deals_196 : decode cL_deals 196 = .ok (.bipush 7, 2) := by decide +kernel
theorem dL_deals_198 : decode cL_deals 198 = .ok (.ishr, 1) := by decide +kernel
theorem dL_deals_199 : decode cL_deals 199 = .ok (.bipush 30, 2) := by decide +kernel
theorem dL_deals_201 : decode cL_deals 201 = .ok (.invokestatic 101, 3) := by decide +kernel
theorem dL_deals_204 : decode cL_deals 204 = .ok (.ifCond .ne 15, 3) := by decide +kernel
theorem dL_deals_207 : decode cL_deals 207 = .ok (.sipush 5001, 3) := by decide +kernel
theorem dL_deals_210 : decode cL_deals 210 = .ok (.iload_n 1, 1) := by decide +kernel
theorem dL_deals_211 : decode cL_deals 211 = .ok (.iconst 2, 1) := by decide +kernel
theorem dL_deals_212 : decode cL_deals 212 = .ok (.invokestatic 101, 3) := by decide +kernel
theorem dL_deals_215 : decode cL_deals 215 = .ok (.imul, 1) := by decide +kernel
theorem dL_deals_216 : decode cL_deals 216 = .ok (.goto 36, 3) := by decide +kernel
theorem dL_deals_219 : decode cL_deals 219 = .ok (.iload_n 1, 1) := by decide +kernel
theorem dL_deals_220 : decode cL_deals 220 = .ok (.bipush 7, 2) := by decide +kernel
theorem dL_deals_222 : decode cL_deals 222 = .ok (.ishr, 1) := by decide +kernel
theorem dL_deals_223 : decode cL_deals 223 = .ok (.iconst 2, 1) := by decide +kernel
theorem dL_deals_224 : decode cL_deals 224 = .ok (.invokestatic 101, 3) := by decide +kernel
theorem dL_deals_227 : decode cL_deals 227 = .ok (.ifCond .ne 13, 3) := by decide +kernel
theorem dL_deals_230 : decode cL_deals 230 = .ok (.iload 10, 2) := by decide +kernel
theorem dL_deals_232 : decode cL_deals 232 = .ok (.ifCond .le 8, 3) := by decide +kernel
theorem dL_deals_235 : decode cL_deals 235 = .ok (.iload 10, 2) := by decide +kernel
theorem dL_deals_237 : decode cL_deals 237 = .ok (.goto 15, 3) := by decide +kernel
theorem dL_deals_240 : decode cL_deals 240 = .ok (.iconst 1, 1) := by decide +kernel
theorem dL_deals_241 : decode cL_deals 241 = .ok (.iload_n 1, 1) := by decide +kernel
theorem dL_deals_242 : decode cL_deals 242 = .ok (.bipush 6, 2) := by decide +kernel
theorem dL_deals_244 : decode cL_deals 244 = .ok (.ishr, 1) := by decide +kernel
theorem dL_deals_245 : decode cL_deals 245 = .ok (.sipush 200, 3) := by decide +kernel
theorem dL_deals_248 : decode cL_deals 248 = .ok (.invokestatic 101, 3) := by decide +kernel
theorem dL_deals_251 : decode cL_deals 251 = .ok (.iadd, 1) := by decide +kernel
theorem dL_deals_252 : decode cL_deals 252 = .ok (.istore 11, 2) := by decide +kernel
theorem dL_deals_254 : decode cL_deals 254 = .ok (.iload 7, 2) := by decide +kernel
theorem dL_deals_256 : decode cL_deals 256 = .ok (.iload 8, 2) := by decide +kernel
theorem dL_deals_258 : decode cL_deals 258 = .ok (.if_icmp .eq 20, 3) := by decide +kernel
theorem dL_deals_261 : decode cL_deals 261 = .ok (.iload 11, 2) := by decide +kernel
theorem dL_deals_263 : decode cL_deals 263 = .ok (.ifCond .le 15, 3) := by decide +kernel
theorem dL_deals_266 : decode cL_deals 266 = .ok (.iload 11, 2) := by decide +kernel
theorem dL_deals_268 : decode cL_deals 268 = .ok (.sipush 5001, 3) := by decide +kernel
theorem dL_deals_271 : decode cL_deals 271 = .ok (.if_icmp .ge 7, 3) := by decide +kernel
theorem dL_deals_274 : decode cL_deals 274 = .ok (.iconst 1, 1) := by decide +kernel
theorem dL_deals_275 : decode cL_deals 275 = .ok (.goto 4, 3) := by decide +kernel
theorem dL_deals_278 : decode cL_deals 278 = .ok (.iconst 0, 1) := by decide +kernel
theorem dL_deals_279 : decode cL_deals 279 = .ok (.istore 12, 2) := by decide +kernel
theorem dL_deals_281 : decode cL_deals 281 = .ok (.iload 9, 2) := by decide +kernel
theorem dL_deals_283 : decode cL_deals 283 = .ok (.ifCond .eq 28, 3) := by decide +kernel
theorem dL_deals_286 : decode cL_deals 286 = .ok (.iload 12, 2) := by decide +kernel
theorem dL_deals_288 : decode cL_deals 288 = .ok (.ifCond .eq 23, 3) := by decide +kernel
theorem dL_deals_291 : decode cL_deals 291 = .ok (.aload_n 2, 1) := by decide +kernel
theorem dL_deals_292 : decode cL_deals 292 = .ok (.aload_n 3, 1) := by decide +kernel
theorem dL_deals_293 : decode cL_deals 293 = .ok (.aload 4, 2) := by decide +kernel
theorem dL_deals_295 : decode cL_deals 295 = .ok (.aload 5, 2) := by decide +kernel
theorem dL_deals_297 : decode cL_deals 297 = .ok (.aload 6, 2) := by decide +kernel
theorem dL_deals_299 : decode cL_deals 299 = .ok (.iload 7, 2) := by decide +kernel
theorem dL_deals_301 : decode cL_deals 301 = .ok (.iload 8, 2) := by decide +kernel
theorem dL_deals_303 : decode cL_deals 303 = .ok (.iload 11, 2) := by decide +kernel
theorem dL_deals_305 : decode cL_deals 305 = .ok (.invokestatic 116, 3) := by decide +kernel
theorem dL_deals_308 : decode cL_deals 308 = .ok (.goto 4, 3) := by decide +kernel
theorem dL_deals_311 : decode cL_deals 311 = .ok (.iconst (-1), 1) := by decide +kernel
theorem dL_deals_312 : decode cL_deals 312 = .ok (.istore 13, 2) := by decide +kernel
theorem dL_deals_314 : decode cL_deals 314 = .ok (.iload 13, 2) := by decide +kernel
theorem dL_deals_316 : decode cL_deals 316 = .ok (.ifCond .lt 27, 3) := by decide +kernel
theorem dL_deals_319 : decode cL_deals 319 = .ok (.aload_n 3, 1) := by decide +kernel
theorem dL_deals_320 : decode cL_deals 320 = .ok (.bipush 10, 2) := by decide +kernel
theorem dL_deals_322 : decode cL_deals 322 = .ok (.iload 7, 2) := by decide +kernel
theorem dL_deals_324 : decode cL_deals 324 = .ok (.iadd, 1) := by decide +kernel
theorem dL_deals_325 : decode cL_deals 325 = .ok (.dup2, 1) := by decide +kernel
theorem dL_deals_326 : decode cL_deals 326 = .ok (.iaload, 1) := by decide +kernel
theorem dL_deals_327 : decode cL_deals 327 = .ok (.iload 11, 2) := by decide +kernel
theorem dL_deals_329 : decode cL_deals 329 = .ok (.isub, 1) := by decide +kernel
theorem dL_deals_330 : decode cL_deals 330 = .ok (.iastore, 1) := by decide +kernel
theorem dL_deals_331 : decode cL_deals 331 = .ok (.aload_n 3, 1) := by decide +kernel
theorem dL_deals_332 : decode cL_deals 332 = .ok (.bipush 10, 2) := by decide +kernel
theorem dL_deals_334 : decode cL_deals 334 = .ok (.iload 8, 2) := by decide +kernel
theorem dL_deals_336 : decode cL_deals 336 = .ok (.iadd, 1) := by decide +kernel
theorem dL_deals_337 : decode cL_deals 337 = .ok (.dup2, 1) := by decide +kernel
theorem dL_deals_338 : decode cL_deals 338 = .ok (.iaload, 1) := by decide +kernel
theorem dL_deals_339 : decode cL_deals 339 = .ok (.iload 13, 2) := by decide +kernel
theorem dL_deals_341 : decode cL_deals 341 = .ok (.iadd, 1) := by decide +kernel
theorem dL_deals_342 : decode cL_deals 342 = .ok (.iastore, 1) := by decide +kernel
theorem dL_deals_343 : decode cL_deals 343 = .ok (.aload_n 0, 1) := by decide +kernel
theorem dL_deals_344 : decode cL_deals 344 = .ok (.iload 7, 2) := by decide +kernel
theorem dL_deals_346 : decode cL_deals 346 = .ok (.iload 8, 2) := by decide +kernel
theorem dL_deals_348 : decode cL_deals 348 = .ok (.iload 11, 2) := by decide +kernel
theorem dL_deals_350 : decode cL_deals 350 = .ok (.invokestatic 123, 3) := by decide +kernel
theorem dL_deals_353 : decode cL_deals 353 = .ok (.iload 9, 2) := by decide +kernel
theorem dL_deals_355 : decode cL_deals 355 = .ok (.ifCond .ne 8, 3) := by decide +kernel
theorem dL_deals_358 : decode cL_deals 358 = .ok (.bipush (-101), 2) := by decide +kernel
theorem dL_deals_360 : decode cL_deals 360 = .ok (.goto 25, 3) := by decide +kernel
theorem dL_deals_363 : decode cL_deals 363 = .ok (.iload 12, 2) := by decide +kernel
theorem dL_deals_365 : decode cL_deals 365 = .ok (.ifCond .ne 8, 3) := by decide +kernel
theorem dL_deals_368 : decode cL_deals 368 = .ok (.bipush (-102), 2) := by decide +kernel
theorem dL_deals_370 : decode cL_deals 370 = .ok (.goto 15, 3) := by decide +kernel
theorem dL_deals_373 : decode cL_deals 373 = .ok (.iload 13, 2) := by decide +kernel
theorem dL_deals_375 : decode cL_deals 375 = .ok (.ifCond .lt 8, 3) := by decide +kernel
theorem dL_deals_378 : decode cL_deals 378 = .ok (.iload 13, 2) := by decide +kernel
theorem dL_deals_380 : decode cL_deals 380 = .ok (.goto 5, 3) := by decide +kernel
theorem dL_deals_383 : decode cL_deals 383 = .ok (.bipush (-103), 2) := by decide +kernel
theorem dL_deals_385 : decode cL_deals 385 = .ok (.if_icmp .ne 7, 3) := by decide +kernel
theorem dL_deals_388 : decode cL_deals 388 = .ok (.iconst 1, 1) := by decide +kernel
theorem dL_deals_389 : decode cL_deals 389 = .ok (.goto 4, 3) := by decide +kernel
theorem dL_deals_392 : decode cL_deals 392 = .ok (.iconst 0, 1) := by decide +kernel
theorem dL_deals_393 : decode cL_deals 393 = .ok (.ireturn, 1) := by decide +kernel
theorem dL_watches_0 : decode cL_watches 0 = .ok (.bipush 36, 2) := by decide +kernel
theorem dL_watches_2 : decode cL_watches 2 = .ok (.newarray .long, 2) := by decide +kernel
theorem dL_watches_4 : decode cL_watches 4 = .ok (.astore 11, 2) := by decide +kernel
theorem dL_watches_6 : decode cL_watches 6 = .ok (.bipush 36, 2) := by decide +kernel
theorem dL_watches_8 : decode cL_watches 8 = .ok (.newarray .long, 2) := by decide +kernel
theorem dL_watches_10 : decode cL_watches 10 = .ok (.astore 12, 2) := by decide +kernel
theorem dL_watches_12 : decode cL_watches 12 = .ok (.iload_n 1, 1) := by decide +kernel
theorem dL_watches_13 : decode cL_watches 13 = .ok (.iconst 5, 1) := by decide +kernel
theorem dL_watches_14 : decode cL_watches 14 = .ok (.ishr, 1) := by decide +kernel
theorem dL_watches_15 : decode cL_watches 15 = .ok (.bipush 40, 2) := by decide +kernel
theorem dL_watches_17 : decode cL_watches 17 = .ok (.invokestatic 101, 3) := by decide +kernel
theorem dL_watches_20 : decode cL_watches 20 = .ok (.ifCond .ne 8, 3) := by decide +kernel
theorem dL_watches_23 : decode cL_watches 23 = .ok (.bipush 36, 2) := by decide +kernel
theorem dL_watches_25 : decode cL_watches 25 = .ok (.goto 11, 3) := by decide +kernel
theorem dL_watches_28 : decode cL_watches 28 = .ok (.iload_n 1, 1) := by decide +kernel
theorem dL_watches_29 : decode cL_watches 29 = .ok (.iconst 5, 1) := by decide +kernel
theorem dL_watches_30 : decode cL_watches 30 = .ok (.ishr, 1) := by decide +kernel
theorem dL_watches_31 : decode cL_watches 31 = .ok (.bipush 36, 2) := by decide +kernel
theorem dL_watches_33 : decode cL_watches 33 = .ok (.invokestatic 101, 3) := by decide +kernel
theorem dL_watches_36 : decode cL_watches 36 = .ok (.istore 13, 2) := by decide +kernel
theorem dL_watches_38 : decode cL_watches 38 = .ok (.iconst 0, 1) := by decide +kernel
theorem dL_watches_39 : decode cL_watches 39 = .ok (.istore 14, 2) := by decide +kernel
theorem dL_watches_41 : decode cL_watches 41 = .ok (.iload 14, 2) := by decide +kernel
theorem dL_watches_43 : decode cL_watches 43 = .ok (.aload_n 2, 1) := by decide +kernel
theorem dL_watches_44 : decode cL_watches 44 = .ok (.iconst 1, 1) := by decide +kernel
theorem dL_watches_45 : decode cL_watches 45 = .ok (.iaload, 1) := by decide +kernel
theorem dL_watches_46 : decode cL_watches 46 = .ok (.if_icmp .gt 498, 3) := by decide +kernel
theorem dL_watches_49 : decode cL_watches 49 = .ok (.iload 14, 2) := by decide +kernel
theorem dL_watches_51 : decode cL_watches 51 = .ok (.aload_n 2, 1) := by decide +kernel
theorem dL_watches_52 : decode cL_watches 52 = .ok (.iconst 1, 1) := by decide +kernel
theorem dL_watches_53 : decode cL_watches 53 = .ok (.iaload, 1) := by decide +kernel
theorem dL_watches_54 : decode cL_watches 54 = .ok (.if_icmp .ge 7, 3) := by decide +kernel
theorem dL_watches_57 : decode cL_watches 57 = .ok (.iconst 1, 1) := by decide +kernel
theorem dL_watches_58 : decode cL_watches 58 = .ok (.goto 4, 3) := by decide +kernel
theorem dL_watches_61 : decode cL_watches 61 = .ok (.iconst 0, 1) := by decide +kernel
theorem dL_watches_62 : decode cL_watches 62 = .ok (.istore 15, 2) := by decide +kernel
theorem dL_watches_64 : decode cL_watches 64 = .ok (.iload 15, 2) := by decide +kernel
theorem dL_watches_66 : decode cL_watches 66 = .ok (.ifCond .eq 26, 3) := by decide +kernel
theorem dL_watches_69 : decode cL_watches 69 = .ok (.aload_n 2, 1) := by decide +kernel
theorem dL_watches_70 : decode cL_watches 70 = .ok (.aload_n 3, 1) := by decide +kernel
theorem dL_watches_71 : decode cL_watches 71 = .ok (.aload 4, 2) := by decide +kernel
theorem dL_watches_73 : decode cL_watches 73 = .ok (.aload 5, 2) := by decide +kernel
theorem dL_watches_75 : decode cL_watches 75 = .ok (.aload 6, 2) := by decide +kernel
theorem dL_watches_77 : decode cL_watches 77 = .ok (.aload 7, 2) := by decide +kernel
theorem dL_watches_79 : decode cL_watches 79 = .ok (.aload 8, 2) := by decide +kernel
theorem dL_watches_81 : decode cL_watches 81 = .ok (.aload 9, 2) := by decide +kernel
theorem dL_watches_83 : decode cL_watches 83 = .ok (.aload 10, 2) := by decide +kernel
theorem dL_watches_85 : decode cL_watches 85 = .ok (.iload 14, 2) := by decide +kernel
theorem dL_watches_87 : decode cL_watches 87 = .ok (.aload 11, 2) := by decide +kernel
theorem dL_watches_89 : decode cL_watches 89 = .ok (.invokestatic 126, 3) := by decide +kernel
theorem dL_watches_92 : decode cL_watches 92 = .ok (.iload 15, 2) := by decide +kernel
theorem dL_watches_94 : decode cL_watches 94 = .ok (.ifCond .eq 14, 3) := by decide +kernel
theorem dL_watches_97 : decode cL_watches 97 = .ok (.iload 13, 2) := by decide +kernel
theorem dL_watches_99 : decode cL_watches 99 = .ok (.bipush 36, 2) := by decide +kernel
theorem dL_watches_101 : decode cL_watches 101 = .ok (.if_icmp .ge 7, 3) := by decide +kernel
theorem dL_watches_104 : decode cL_watches 104 = .ok (.iconst 1, 1) := by decide +kernel
theorem dL_watches_105 : decode cL_watches 105 = .ok (.goto 4, 3) := by decide +kernel
theorem dL_watches_108 : decode cL_watches 108 = .ok (.iconst 0, 1) := by decide +kernel
theorem dL_watches_109 : decode cL_watches 109 = .ok (.istore 16, 2) := by decide +kernel
theorem dL_watches_111 : decode cL_watches 111 = .ok (.iconst 0, 1) := by decide +kernel
theorem dL_watches_112 : decode cL_watches 112 = .ok (.istore 17, 2) := by decide +kernel
theorem dL_watches_114 : decode cL_watches 114 = .ok (.iconst 0, 1) := by decide +kernel
theorem dL_watches_115 : decode cL_watches 115 = .ok (.istore 18, 2) := by decide +kernel
theorem dL_watches_117 : decode cL_watches 117 = .ok (.iconst 0, 1) := by decide +kernel
theorem dL_watches_118 : decode cL_watches 118 = .ok (.istore 19, 2) := by decide +kernel
theorem dL_watches_120 : decode cL_watches 120 = .ok (.iload 19, 2) := by decide +kernel
theorem dL_watches_122 : decode cL_watches 122 = .ok (.bipush 36, 2) := by decide +kernel
theorem dL_watches_124 : decode cL_watches 124 = .ok (.if_icmp .ge 68, 3) := by decide +kernel
theorem dL_watches_127 : decode cL_watches 127 = .ok (.aload 11, 2) := by decide +kernel
theorem dL_watches_129 : decode cL_watches 129 = .ok (.iload 19, 2) := by decide +kernel
theorem dL_watches_131 : decode cL_watches 131 = .ok (.laload, 1) := by decide +kernel
theorem dL_watches_132 : decode cL_watches 132 = .ok (.aload 11, 2) := by decide +kernel
theorem dL_watches_134 : decode cL_watches 134 = .ok (.iload 17, 2) := by decide +kernel
theorem dL_watches_136 : decode cL_watches 136 = .ok (.laload, 1) := by decide +kernel
theorem dL_watches_137 : decode cL_watches 137 = .ok (.lcmp, 1) := by decide +kernel
theorem dL_watches_138 : decode cL_watches 138 = .ok (.ifCond .le 8, 3) := by decide +kernel
theorem dL_watches_141 : decode cL_watches 141 = .ok (.iload 19, 2) := by decide +kernel
theorem dL_watches_143 : decode cL_watches 143 = .ok (.goto 5, 3) := by decide +kernel
theorem dL_watches_146 : decode cL_watches 146 = .ok (.iload 17, 2) := by decide +kernel
theorem dL_watches_148 : decode cL_watches 148 = .ok (.istore 17, 2) := by decide +kernel
theorem dL_watches_150 : decode cL_watches 150 = .ok (.iload 18, 2) := by decide +kernel
theorem dL_watches_152 : decode cL_watches 152 = .ok (.iload 15, 2) := by decide +kernel
theorem dL_watches_154 : decode cL_watches 154 = .ok (.ifCond .eq 28, 3) := by decide +kernel
theorem dL_watches_157 : decode cL_watches 157 = .ok (.aload 11, 2) := by decide +kernel
theorem dL_watches_159 : decode cL_watches 159 = .ok (.iload 19, 2) := by decide +kernel
theorem dL_watches_161 : decode cL_watches 161 = .ok (.laload, 1) := by decide +kernel
theorem dL_watches_162 : decode cL_watches 162 = .ok (.ldc2_w 130, 3) := by decide +kernel
theorem dL_watches_165 : decode cL_watches 165 = .ok (.aload 4, 2) := by decide +kernel
theorem dL_watches_167 : decode cL_watches 167 = .ok (.iconst 3, 1) := by decide +kernel
theorem dL_watches_168 : decode cL_watches 168 = .ok (.iload 14, 2) := by decide +kernel
theorem dL_watches_170 : decode cL_watches 170 = .ok (.iadd, 1) := by decide +kernel
theorem dL_watches_171 : decode cL_watches 171 = .ok (.iaload, 1) := by decide +kernel
theorem dL_watches_172 : decode cL_watches 172 = .ok (.i2l, 1) := by decide +kernel
theorem dL_watches_173 : decode cL_watches 173 = .ok (.lmul, 1) := by decide +kernel
theorem dL_watches_174 : decode cL_watches 174 = .ok (.lcmp, 1) := by decide +kernel
theorem dL_watches_175 : decode cL_watches 175 = .ok (.ifCond .le 7, 3) := by decide +kernel
theorem dL_watches_178 : decode cL_watches 178 = .ok (.iconst 1, 1) := by decide +kernel
theorem dL_watches_179 : decode cL_watches 179 = .ok (.goto 4, 3) := by decide +kernel
theorem dL_watches_182 : decode cL_watches 182 = .ok (.iconst 0, 1) := by decide +kernel
theorem dL_watches_183 : decode cL_watches 183 = .ok (.iadd, 1) := by decide +kernel
theorem dL_watches_184 : decode cL_watches 184 = .ok (.istore 18, 2) := by decide +kernel
theorem dL_watches_186 : decode cL_watches 186 = .ok (.iinc 19 1, 3) := by decide +kernel
theorem dL_watches_189 : decode cL_watches 189 = .ok (.goto (-69), 3) := by decide +kernel
theorem dL_watches_192 : decode cL_watches 192 = .ok (.iconst (-1), 1) := by decide +kernel
theorem dL_watches_193 : decode cL_watches 193 = .ok (.istore 19, 2) := by decide +kernel
theorem dL_watches_195 : decode cL_watches 195 = .ok (.lconst 0, 1) := by decide +kernel
theorem dL_watches_196 : decode cL_watches 196 = .ok (.lstore 20, 2) := by decide +kernel
theorem dL_watches_198 : decode cL_watches 198 = .ok (.iconst 0, 1) := by decide +kernel
theorem dL_watches_199 : decode cL_watches 199 = .ok (.istore 22, 2) := by decide +kernel
theorem dL_watches_201 : decode cL_watches 201 = .ok (.iload 22, 2) := by decide +kernel
theorem dL_watches_203 : decode cL_watches 203 = .ok (.aload_n 2, 1) := by decide +kernel
theorem dL_watches_204 : decode cL_watches 204 = .ok (.iconst 0, 1) := by decide +kernel
theorem dL_watches_205 : decode cL_watches 205 = .ok (.iaload, 1) := by decide +kernel
theorem dL_watches_206 : decode cL_watches 206 = .ok (.if_icmp .ge 166, 3) := by decide +kernel
theorem dL_watches_209 : decode cL_watches 209 = .ok (.iload 16, 2) := by decide +kernel
theorem dL_watches_211 : decode cL_watches 211 = .ok (.ifCond .eq 161, 3) := by decide +kernel
theorem dL_watches_214 : decode cL_watches 214 = .ok (.iload 22, 2) := by decide +kernel
theorem dL_watches_216 : decode cL_watches 216 = .ok (.ifCond .ne 8, 3) := by decide +kernel
theorem dL_watches_219 : decode cL_watches 219 = .ok (.aload 6, 2) := by decide +kernel
theorem dL_watches_221 : decode cL_watches 221 = .ok (.goto 38, 3) := by decide +kernel
theorem dL_watches_224 : decode cL_watches 224 = .ok (.iload 22, 2) := by decide +kernel
theorem dL_watches_226 : decode cL_watches 226 = .ok (.iconst 1, 1) := by decide +kernel
theorem dL_watches_227 : decode cL_watches 227 = .ok (.if_icmp .ne 8, 3) := by decide +kernel
theorem dL_watches_230 : decode cL_watches 230 = .ok (.aload 7, 2) := by decide +kernel
theorem dL_watches_232 : decode cL_watches 232 = .ok (.goto 27, 3) := by decide +kernel
theorem dL_watches_235 : decode cL_watches 235 = .ok (.iload 22, 2) := by decide +kernel
theorem dL_watches_237 : decode cL_watches 237 = .ok (.iconst 2, 1) := by decide +kernel
theorem dL_watches_238 : decode cL_watches 238 = .ok (.if_icmp .ne 8, 3) := by decide +kernel
theorem dL_watches_241 : decode cL_watches 241 = .ok (.aload 8, 2) := by decide +kernel
theorem dL_watches_243 : decode cL_watches 243 = .ok (.goto 16, 3) := by decide +kernel
theorem dL_watches_246 : decode cL_watches 246 = .ok (.iload 22, 2) := by decide +kernel
theorem dL_watches_248 : decode cL_watches 248 = .ok (.iconst 3, 1) := by decide +kernel
theorem dL_watches_249 : decode cL_watches 249 = .ok (.if_icmp .ne 8, 3) := by decide +kernel
theorem dL_watches_252 : decode cL_watches 252 = .ok (.aload 9, 2) := by decide +kernel
theorem dL_watches_254 : decode cL_watches 254 = .ok (.goto 5, 3) := by decide +kernel
theorem dL_watches_257 : decode cL_watches 257 = .ok (.aload 10, 2) := by decide +kernel
theorem dL_watches_259 : decode cL_watches 259 = .ok (.astore 23, 2) := by decide +kernel
theorem dL_watches_261 : decode cL_watches 261 = .ok (.lconst 0, 1) := by decide +kernel
theorem dL_watches_262 : decode cL_watches 262 = .ok (.lstore 24, 2) := by decide +kernel
theorem dL_watches_264 : decode cL_watches 264 = .ok (.aload_n 3, 1) := by decide +kernel
theorem dL_watches_265 : decode cL_watches 265 = .ok (.aload 4, 2) := by decide +kernel
theorem dL_watches_267 : decode cL_watches 267 = .ok (.iload 22, 2) := by decide +kernel
theorem dL_watches_269 : decode cL_watches 269 = .ok (.iload 14, 2) := by decide +kernel
theorem dL_watches_271 : decode cL_watches 271 = .ok (.invokestatic 9, 3) := by decide +kernel
theorem dL_watches_274 : decode cL_watches 274 = .ok (.istore 26, 2) := by decide +kernel
theorem dL_watches_276 : decode cL_watches 276 = .ok (.iconst 0, 1) := by decide +kernel
theorem dL_watches_277 : decode cL_watches 277 = .ok (.istore 27, 2) := by decide +kernel
theorem dL_watches_279 : decode cL_watches 279 = .ok (.iload 27, 2) := by decide +kernel
theorem dL_watches_281 : decode cL_watches 281 = .ok (.bipush 12, 2) := by decide +kernel
theorem dL_watches_283 : decode cL_watches 283 = .ok (.if_icmp .ge 49, 3) := by decide +kernel
theorem dL_watches_286 : decode cL_watches 286 = .ok (.iload 13, 2) := by decide +kernel
theorem dL_watches_288 : decode cL_watches 288 = .ok (.iload 27, 2) := by decide +kernel
theorem dL_watches_290 : decode cL_watches 290 = .ok (.iadd, 1) := by decide +kernel
theorem dL_watches_291 : decode cL_watches 291 = .ok (.bipush 36, 2) := by decide +kernel
theorem dL_watches_293 : decode cL_watches 293 = .ok (.if_icmp .ge 39, 3) := by decide +kernel
theorem dL_watches_296 : decode cL_watches 296 = .ok (.iload 26, 2) := by decide +kernel
theorem dL_watches_298 : decode cL_watches 298 = .ok (.iconst 5, 1) := by decide +kernel
theorem dL_watches_299 : decode cL_watches 299 = .ok (.if_icmp .ge 33, 3) := by decide +kernel
theorem dL_watches_302 : decode cL_watches 302 = .ok (.lload 24, 2) := by decide +kernel
theorem dL_watches_304 : decode cL_watches 304 = .ok (.aload 23, 2) := by decide +kernel
theorem dL_watches_306 : decode cL_watches 306 = .ok (.iload 13, 2) := by decide +kernel
theorem dL_watches_308 : decode cL_watches 308 = .ok (.iaload, 1) := by decide +kernel
theorem dL_watches_309 : decode cL_watches 309 = .ok (.i2l, 1) := by decide +kernel
theorem dL_watches_310 : decode cL_watches 310 = .ok (.aload 5, 2) := by decide +kernel
theorem dL_watches_312 : decode cL_watches 312 = .ok (.bipush 12, 2) := by decide +kernel
theorem dL_watches_314 : decode cL_watches 314 = .ok (.iload 26, 2) := by decide +kernel
theorem dL_watches_316 : decode cL_watches 316 = .ok (.imul, 1) := by decide +kernel
theorem dL_watches_317 : decode cL_watches 317 = .ok (.iload 27, 2) := by decide +kernel
theorem dL_watches_319 : decode cL_watches 319 = .ok (.iadd, 1) := by decide +kernel
theorem dL_watches_320 : decode cL_watches 320 = .ok (.iaload, 1) := by decide +kernel
theorem dL_watches_321 : decode cL_watches 321 = .ok (.i2l, 1) := by decide +kernel
theorem dL_watches_322 : decode cL_watches 322 = .ok (.lmul, 1) := by decide +kernel
theorem dL_watches_323 : decode cL_watches 323 = .ok (.ladd, 1) := by decide +kernel
theorem dL_watches_324 : decode cL_watches 324 = .ok (.lstore 24, 2) := by decide +kernel
theorem dL_watches_326 : decode cL_watches 326 = .ok (.iinc 27 1, 3) := by decide +kernel
theorem dL_watches_329 : decode cL_watches 329 = .ok (.goto (-50), 3) := by decide +kernel
theorem dL_watches_332 : decode cL_watches 332 = .ok (.lload 24, 2) := by decide +kernel
theorem dL_watches_334 : decode cL_watches 334 = .ok (.lload 20, 2) := by decide +kernel
theorem dL_watches_336 : decode cL_watches 336 = .ok (.lcmp, 1) := by decide +kernel
theorem dL_watches_337 : decode cL_watches 337 = .ok (.ifCond .le 8, 3) := by decide +kernel
theorem dL_watches_340 : decode cL_watches 340 = .ok (.iload 22, 2) := by decide +kernel
theorem dL_watches_342 : decode cL_watches 342 = .ok (.goto 5, 3) := by decide +kernel
theorem dL_watches_345 : decode cL_watches 345 = .ok (.iload 19, 2) := by decide +kernel
theorem dL_watches_347 : decode cL_watches 347 = .ok (.istore 19, 2) := by decide +kernel
theorem dL_watches_349 : decode cL_watches 349 = .ok (.lload 24, 2) := by decide +kernel
theorem dL_watches_351 : decode cL_watches 351 = .ok (.lload 20, 2) := by decide +kernel
theorem dL_watches_353 : decode cL_watches 353 = .ok (.lcmp, 1) := by decide +kernel
theorem dL_watches_354 : decode cL_watches 354 = .ok (.ifCond .le 8, 3) := by decide +kernel
theorem dL_watches_357 : decode cL_watches 357 = .ok (.lload 24, 2) := by decide +kernel
theorem dL_watches_359 : decode cL_watches 359 = .ok (.goto 5, 3) := by decide +kernel
theorem dL_watches_362 : decode cL_watches 362 = .ok (.lload 20, 2) := by decide +kernel
theorem dL_watches_364 : decode cL_watches 364 = .ok (.lstore 20, 2) := by decide +kernel
theorem dL_watches_366 : decode cL_watches 366 = .ok (.iinc 22 1, 3) := by decide +kernel
theorem dL_watches_369 : decode cL_watches 369 = .ok (.goto (-168), 3) := by decide +kernel
theorem dL_watches_372 : decode cL_watches 372 = .ok (.aload_n 0, 1) := by decide +kernel
theorem dL_watches_373 : decode cL_watches 373 = .ok (.iconst 0, 1) := by decide +kernel
theorem dL_watches_374 : decode cL_watches 374 = .ok (.iload 14, 2) := by decide +kernel
theorem dL_watches_376 : decode cL_watches 376 = .ok (.iload 13, 2) := by decide +kernel
theorem dL_watches_378 : decode cL_watches 378 = .ok (.invokestatic 132, 3) := by decide +kernel
theorem dL_watches_381 : decode cL_watches 381 = .ok (.iload 16, 2) := by decide +kernel
theorem dL_watches_383 : decode cL_watches 383 = .ok (.ifCond .eq 11, 3) := by decide +kernel
theorem dL_watches_386 : decode cL_watches 386 = .ok (.aload 11, 2) := by decide +kernel
theorem dL_watches_388 : decode cL_watches 388 = .ok (.iload 13, 2) := by decide +kernel
theorem dL_watches_390 : decode cL_watches 390 = .ok (.laload, 1) := by decide +kernel
theorem dL_watches_391 : decode cL_watches 391 = .ok (.goto 6, 3) := by decide +kernel
theorem dL_watches_394 : decode cL_watches 394 = .ok (.ldc2_w 91, 3) := by decide +kernel
theorem dL_watches_397 : decode cL_watches 397 = .ok (.lcmp, 1) := by decide +kernel
theorem dL_watches_398 : decode cL_watches 398 = .ok (.ifCond .ne 138, 3) := by decide +kernel
theorem dL_watches_401 : decode cL_watches 401 = .ok (.aload_n 0, 1) := by decide +kernel
theorem dL_watches_402 : decode cL_watches 402 = .ok (.iconst 1, 1) := by decide +kernel
theorem dL_watches_403 : decode cL_watches 403 = .ok (.iload 14, 2) := by decide +kernel
theorem dL_watches_405 : decode cL_watches 405 = .ok (.iload 13, 2) := by decide +kernel
theorem dL_watches_407 : decode cL_watches 407 = .ok (.invokestatic 132, 3) := by decide +kernel
theorem dL_watches_410 : decode cL_watches 410 = .ok (.iload 16, 2) := by decide +kernel
theorem dL_watches_412 : decode cL_watches 412 = .ok (.ifCond .eq 11, 3) := by decide +kernel
theorem dL_watches_415 : decode cL_watches 415 = .ok (.aload 11, 2) := by decide +kernel
theorem dL_watches_417 : decode cL_watches 417 = .ok (.iload 13, 2) := by decide +kernel
theorem dL_watches_419 : decode cL_watches 419 = .ok (.laload, 1) := by decide +kernel
theorem dL_watches_420 : decode cL_watches 420 = .ok (.goto 6, 3) := by decide +kernel
theorem dL_watches_423 : decode cL_watches 423 = .ok (.ldc2_w 91, 3) := by decide +kernel
theorem dL_watches_426 : decode cL_watches 426 = .ok (.lcmp, 1) := by decide +kernel
theorem dL_watches_427 : decode cL_watches 427 = .ok (.ifCond .ne 109, 3) := by decide +kernel
theorem dL_watches_430 : decode cL_watches 430 = .ok (.aload_n 0, 1) := by decide +kernel
theorem dL_watches_431 : decode cL_watches 431 = .ok (.bipush 7, 2) := by decide +kernel
theorem dL_watches_433 : decode cL_watches 433 = .ok (.iload 14, 2) := by decide +kernel
theorem dL_watches_435 : decode cL_watches 435 = .ok (.iconst 0, 1) := by decide +kernel
theorem dL_watches_436 : decode cL_watches 436 = .ok (.invokestatic 136, 3) := by decide +kernel
theorem dL_watches_439 : decode cL_watches 439 = .ok (.iload 15, 2) := by decide +kernel
theorem dL_watches_441 : decode cL_watches 441 = .ok (.ifCond .eq 8, 3) := by decide +kernel
theorem dL_watches_444 : decode cL_watches 444 = .ok (.iload 17, 2) := by decide +kernel
theorem dL_watches_446 : decode cL_watches 446 = .ok (.goto 5, 3) := by decide +kernel
theorem dL_watches_449 : decode cL_watches 449 = .ok (.bipush (-101), 2) := by decide +kernel
theorem dL_watches_451 : decode cL_watches 451 = .ok (.if_icmp .ne 85, 3) := by decide +kernel
theorem dL_watches_454 : decode cL_watches 454 = .ok (.aload_n 0, 1) := by decide +kernel
theorem dL_watches_455 : decode cL_watches 455 = .ok (.bipush 8, 2) := by decide +kernel
theorem dL_watches_457 : decode cL_watches 457 = .ok (.iload 14, 2) := by decide +kernel
theorem dL_watches_459 : decode cL_watches 459 = .ok (.iconst 0, 1) := by decide +kernel
theorem dL_watches_460 : decode cL_watches 460 = .ok (.invokestatic 136, 3) := by decide +kernel
theorem dL_watches_463 : decode cL_watches 463 = .ok (.iload 15, 2) := by decide +kernel
theorem dL_watches_465 : decode cL_watches 465 = .ok (.ifCond .eq 8, 3) := by decide +kernel
theorem dL_watches_468 : decode cL_watches 468 = .ok (.iload 18, 2) := by decide +kernel
theorem dL_watches_470 : decode cL_watches 470 = .ok (.goto 5, 3) := by decide +kernel
theorem dL_watches_473 : decode cL_watches 473 = .ok (.bipush (-101), 2) := by decide +kernel
theorem dL_watches_475 : decode cL_watches 475 = .ok (.if_icmp .ne 61, 3) := by decide +kernel
theorem dL_watches_478 : decode cL_watches 478 = .ok (.aload_n 0, 1) := by decide +kernel
theorem dL_watches_479 : decode cL_watches 479 = .ok (.iconst 2, 1) := by decide +kernel
theorem dL_watches_480 : decode cL_watches 480 = .ok (.iload 14, 2) := by decide +kernel
theorem dL_watches_482 : decode cL_watches 482 = .ok (.iload 13, 2) := by decide +kernel
theorem dL_watches_484 : decode cL_watches 484 = .ok (.invokestatic 136, 3) := by decide +kernel
theorem dL_watches_487 : decode cL_watches 487 = .ok (.iload 16, 2) := by decide +kernel
theorem dL_watches_489 : decode cL_watches 489 = .ok (.ifCond .eq 8, 3) := by decide +kernel
theorem dL_watches_492 : decode cL_watches 492 = .ok (.iload 19, 2) := by decide +kernel
theorem dL_watches_494 : decode cL_watches 494 = .ok (.goto 5, 3) := by decide +kernel
theorem dL_watches_497 : decode cL_watches 497 = .ok (.bipush (-101), 2) := by decide +kernel
theorem dL_watches_499 : decode cL_watches 499 = .ok (.if_icmp .ne 37, 3) := by decide +kernel
theorem dL_watches_502 : decode cL_watches 502 = .ok (.aload_n 0, 1) := by decide +kernel
theorem dL_watches_503 : decode cL_watches 503 = .ok (.iconst 2, 1) := by decide +kernel
theorem dL_watches_504 : decode cL_watches 504 = .ok (.iload 14, 2) := by decide +kernel
theorem dL_watches_506 : decode cL_watches 506 = .ok (.iconst 0, 1) := by decide +kernel
theorem dL_watches_507 : decode cL_watches 507 = .ok (.invokestatic 132, 3) := by decide +kernel
theorem dL_watches_510 : decode cL_watches 510 = .ok (.iload 15, 2) := by decide +kernel
theorem dL_watches_512 : decode cL_watches 512 = .ok (.ifCond .eq 17, 3) := by decide +kernel
theorem dL_watches_515 : decode cL_watches 515 = .ok (.aload_n 2, 1) := by decide +kernel
theorem dL_watches_516 : decode cL_watches 516 = .ok (.aload_n 3, 1) := by decide +kernel
theorem dL_watches_517 : decode cL_watches 517 = .ok (.aload 4, 2) := by decide +kernel
theorem dL_watches_519 : decode cL_watches 519 = .ok (.aload 5, 2) := by decide +kernel
theorem dL_watches_521 : decode cL_watches 521 = .ok (.iload 14, 2) := by decide +kernel
theorem dL_watches_523 : decode cL_watches 523 = .ok (.invokestatic 23, 3) := by decide +kernel
theorem dL_watches_526 : decode cL_watches 526 = .ok (.goto 6, 3) := by decide +kernel
theorem dL_watches_529 : decode cL_watches 529 = .ok (.ldc2_w 91, 3) := by decide +kernel
theorem dL_watches_532 : decode cL_watches 532 = .ok (.lcmp, 1) := by decide +kernel
theorem dL_watches_533 : decode cL_watches 533 = .ok (.ifCond .eq 5, 3) := by decide +kernel
theorem dL_watches_536 : decode cL_watches 536 = .ok (.iconst 0, 1) := by decide +kernel
theorem dL_watches_537 : decode cL_watches 537 = .ok (.ireturn, 1) := by decide +kernel
theorem dL_watches_538 : decode cL_watches 538 = .ok (.iinc 14 1, 3) := by decide +kernel
theorem dL_watches_541 : decode cL_watches 541 = .ok (.goto (-500), 3) := by decide +kernel
theorem dL_watches_544 : decode cL_watches 544 = .ok (.iload_n 1, 1) := by decide +kernel
theorem dL_watches_545 : decode cL_watches 545 = .ok (.aload_n 2, 1) := by decide +kernel
theorem dL_watches_546 : decode cL_watches 546 = .ok (.iconst 0, 1) := by decide +kernel
theorem dL_watches_547 : decode cL_watches 547 = .ok (.iaload, 1) := by decide +kernel
theorem dL_watches_548 : decode cL_watches 548 = .ok (.iconst 1, 1) := by decide +kernel
theorem dL_watches_549 : decode cL_watches 549 = .ok (.iadd, 1) := by decide +kernel
theorem dL_watches_550 : decode cL_watches 550 = .ok (.invokestatic 101, 3) := by decide +kernel
theorem dL_watches_553 : decode cL_watches 553 = .ok (.istore 14, 2) := by decide +kernel
theorem dL_watches_555 : decode cL_watches 555 = .ok (.iload 14, 2) := by decide +kernel
theorem dL_watches_557 : decode cL_watches 557 = .ok (.aload_n 2, 1) := by decide +kernel
theorem dL_watches_558 : decode cL_watches 558 = .ok (.iconst 0, 1) := by decide +kernel
theorem dL_watches_559 : decode cL_watches 559 = .ok (.iaload, 1) := by decide +kernel
theorem dL_watches_560 : decode cL_watches 560 = .ok (.if_icmp .ge 14, 3) := by decide +kernel
theorem dL_watches_563 : decode cL_watches 563 = .ok (.iload 13, 2) := by decide +kernel
theorem dL_watches_565 : decode cL_watches 565 = .ok (.bipush 36, 2) := by decide +kernel
theorem dL_watches_567 : decode cL_watches 567 = .ok (.if_icmp .ge 7, 3) := by decide +kernel
theorem dL_watches_570 : decode cL_watches 570 = .ok (.iconst 1, 1) := by decide +kernel
theorem dL_watches_571 : decode cL_watches 571 = .ok (.goto 4, 3) := by decide +kernel
theorem dL_watches_574 : decode cL_watches 574 = .ok (.iconst 0, 1) := by decide +kernel
theorem dL_watches_575 : decode cL_watches 575 = .ok (.istore 15, 2) := by decide +kernel
theorem dL_watches_577 : decode cL_watches 577 = .ok (.iload 14, 2) := by decide +kernel
theorem dL_watches_579 : decode cL_watches 579 = .ok (.ifCond .ne 8, 3) := by decide +kernel
theorem dL_watches_582 : decode cL_watches 582 = .ok (.aload 6, 2) := by decide +kernel
theorem dL_watches_584 : decode cL_watches 584 = .ok (.goto 38, 3) := by decide +kernel
theorem dL_watches_587 : decode cL_watches 587 = .ok (.iload 14, 2) := by decide +kernel
theorem dL_watches_589 : decode cL_watches 589 = .ok (.iconst 1, 1) := by decide +kernel
theorem dL_watches_590 : decode cL_watches 590 = .ok (.if_icmp .ne 8, 3) := by decide +kernel
theorem dL_watches_593 : decode cL_watches 593 = .ok (.aload 7, 2) := by decide +kernel
theorem dL_watches_595 : decode cL_watches 595 = .ok (.goto 27, 3) := by decide +kernel
theorem dL_watches_598 : decode cL_watches 598 = .ok (.iload 14, 2) := by decide +kernel
theorem dL_watches_600 : decode cL_watches 600 = .ok (.iconst 2, 1) := by decide +kernel
theorem dL_watches_601 : decode cL_watches 601 = .ok (.if_icmp .ne 8, 3) := by decide +kernel
theorem dL_watches_604 : decode cL_watches 604 = .ok (.aload 8, 2) := by decide +kernel
theorem dL_watches_606 : decode cL_watches 606 = .ok (.goto 16, 3) := by decide +kernel
theorem dL_watches_609 : decode cL_watches 609 = .ok (.iload 14, 2) := by decide +kernel
theorem dL_watches_611 : decode cL_watches 611 = .ok (.iconst 3, 1) := by decide +kernel
theorem dL_watches_612 : decode cL_watches 612 = .ok (.if_icmp .ne 8, 3) := by decide +kernel
theorem dL_watches_615 : decode cL_watches 615 = .ok (.aload 9, 2) := by decide +kernel
theorem dL_watches_617 : decode cL_watches 617 = .ok (.goto 5, 3) := by decide +kernel
theorem dL_watches_620 : decode cL_watches 620 = .ok (.aload 10, 2) := by decide +kernel
theorem dL_watches_622 : decode cL_watches 622 = .ok (.astore 16, 2) := by decide +kernel
theorem dL_watches_624 : decode cL_watches 624 = .ok (.iload 15, 2) := by decide +kernel
theorem dL_watches_626 : decode cL_watches 626 = .ok (.ifCond .eq 15, 3) := by decide +kernel
theorem dL_watches_629 : decode cL_watches 629 = .ok (.sipush 1000, 3) := by decide +kernel
theorem dL_watches_632 : decode cL_watches 632 = .ok (.aload 16, 2) := by decide +kernel
theorem dL_watches_634 : decode cL_watches 634 = .ok (.iload 13, 2) := by decide +kernel
theorem dL_watches_636 : decode cL_watches 636 = .ok (.iaload, 1) := by decide +kernel
theorem dL_watches_637 : decode cL_watches 637 = .ok (.isub, 1) := by decide +kernel
theorem dL_watches_638 : decode cL_watches 638 = .ok (.goto 5, 3) := by decide +kernel
theorem dL_watches_641 : decode cL_watches 641 = .ok (.bipush (-101), 2) := by decide +kernel
theorem dL_watches_643 : decode cL_watches 643 = .ok (.istore 17, 2) := by decide +kernel
theorem dL_watches_645 : decode cL_watches 645 = .ok (.iconst 0, 1) := by decide +kernel
theorem dL_watches_646 : decode cL_watches 646 = .ok (.istore 18, 2) := by decide +kernel
theorem dL_watches_648 : decode cL_watches 648 = .ok (.iload 18, 2) := by decide +kernel
theorem dL_watches_650 : decode cL_watches 650 = .ok (.aload_n 2, 1) := by decide +kernel
theorem dL_watches_651 : decode cL_watches 651 = .ok (.iconst 1, 1) := by decide +kernel
theorem dL_watches_652 : decode cL_watches 652 = .ok (.iaload, 1) := by decide +kernel
theorem dL_watches_653 : decode cL_watches 653 = .ok (.if_icmp .ge 191, 3) := by decide +kernel
theorem dL_watches_656 : decode cL_watches 656 = .ok (.iload 15, 2) := by decide +kernel
theorem dL_watches_658 : decode cL_watches 658 = .ok (.ifCond .eq 186, 3) := by decide +kernel
theorem dL_watches_661 : decode cL_watches 661 = .ok (.aload_n 2, 1) := by decide +kernel
theorem dL_watches_662 : decode cL_watches 662 = .ok (.aload_n 3, 1) := by decide +kernel
theorem dL_watches_663 : decode cL_watches 663 = .ok (.aload 4, 2) := by decide +kernel
theorem dL_watches_665 : decode cL_watches 665 = .ok (.aload 5, 2) := by decide +kernel
theorem dL_watches_667 : decode cL_watches 667 = .ok (.aload 6, 2) := by decide +kernel
theorem dL_watches_669 : decode cL_watches 669 = .ok (.aload 7, 2) := by decide +kernel
theorem dL_watches_671 : decode cL_watches 671 = .ok (.aload 8, 2) := by decide +kernel
theorem dL_watches_673 : decode cL_watches 673 = .ok (.aload 9, 2) := by decide +kernel
theorem dL_watches_675 : decode cL_watches 675 = .ok (.aload 10, 2) := by decide +kernel
theorem dL_watches_677 : decode cL_watches 677 = .ok (.iload 18, 2) := by decide +kernel
theorem dL_watches_679 : decode cL_watches 679 = .ok (.aload 11, 2) := by decide +kernel
theorem dL_watches_681 : decode cL_watches 681 = .ok (.invokestatic 126, 3) := by decide +kernel
theorem dL_watches_684 : decode cL_watches 684 = .ok (.iconst 0, 1) := by decide +kernel
theorem dL_watches_685 : decode cL_watches 685 = .ok (.istore 19, 2) := by decide +kernel
theorem dL_watches_687 : decode cL_watches 687 = .ok (.iload 19, 2) := by decide +kernel
theorem dL_watches_689 : decode cL_watches 689 = .ok (.bipush 36, 2) := by decide +kernel
theorem dL_watches_691 : decode cL_watches 691 = .ok (.if_icmp .ge 15, 3) := by decide +kernel
theorem dL_watches_694 : decode cL_watches 694 = .ok (.aload 12, 2) := by decide +kernel
theorem dL_watches_696 : decode cL_watches 696 = .ok (.iload 19, 2) := by decide +kernel
theorem dL_watches_698 : decode cL_watches 698 = .ok (.lconst 0, 1) := by decide +kernel
theorem dL_watches_699 : decode cL_watches 699 = .ok (.lastore, 1) := by decide +kernel
theorem dL_watches_700 : decode cL_watches 700 = .ok (.iinc 19 1, 3) := by decide +kernel
theorem dL_watches_703 : decode cL_watches 703 = .ok (.goto (-16), 3) := by decide +kernel
theorem dL_watches_706 : decode cL_watches 706 = .ok (.aload_n 3, 1) := by decide +kernel
theorem dL_watches_707 : decode cL_watches 707 = .ok (.aload 4, 2) := by decide +kernel
theorem dL_watches_709 : decode cL_watches 709 = .ok (.iload 14, 2) := by decide +kernel
theorem dL_watches_711 : decode cL_watches 711 = .ok (.iload 18, 2) := by decide +kernel
theorem dL_watches_713 : decode cL_watches 713 = .ok (.invokestatic 9, 3) := by decide +kernel
theorem dL_watches_716 : decode cL_watches 716 = .ok (.istore 19, 2) := by decide +kernel
theorem dL_watches_718 : decode cL_watches 718 = .ok (.iconst 0, 1) := by decide +kernel
theorem dL_watches_719 : decode cL_watches 719 = .ok (.istore 20, 2) := by decide +kernel
theorem dL_watches_721 : decode cL_watches 721 = .ok (.iload 20, 2) := by decide +kernel
theorem dL_watches_723 : decode cL_watches 723 = .ok (.bipush 12, 2) := by decide +kernel
theorem dL_watches_725 : decode cL_watches 725 = .ok (.if_icmp .ge 45, 3) := by decide +kernel
theorem dL_watches_728 : decode cL_watches 728 = .ok (.iload 13, 2) := by decide +kernel
theorem dL_watches_730 : decode cL_watches 730 = .ok (.iload 20, 2) := by decide +kernel
theorem dL_watches_732 : decode cL_watches 732 = .ok (.iadd, 1) := by decide +kernel
theorem dL_watches_733 : decode cL_watches 733 = .ok (.bipush 36, 2) := by decide +kernel
theorem dL_watches_735 : decode cL_watches 735 = .ok (.if_icmp .ge 35, 3) := by decide +kernel
theorem dL_watches_738 : decode cL_watches 738 = .ok (.iload 19, 2) := by decide +kernel
theorem dL_watches_740 : decode cL_watches 740 = .ok (.iconst 5, 1) := by decide +kernel
theorem dL_watches_741 : decode cL_watches 741 = .ok (.if_icmp .ge 29, 3) := by decide +kernel
theorem dL_watches_744 : decode cL_watches 744 = .ok (.aload 12, 2) := by decide +kernel
theorem dL_watches_746 : decode cL_watches 746 = .ok (.iload 13, 2) := by decide +kernel
theorem dL_watches_748 : decode cL_watches 748 = .ok (.iload 20, 2) := by decide +kernel
theorem dL_watches_750 : decode cL_watches 750 = .ok (.iadd, 1) := by decide +kernel
theorem dL_watches_751 : decode cL_watches 751 = .ok (.aload 5, 2) := by decide +kernel
theorem dL_watches_753 : decode cL_watches 753 = .ok (.bipush 12, 2) := by decide +kernel
theorem dL_watches_755 : decode cL_watches 755 = .ok (.iload 19, 2) := by decide +kernel
theorem dL_watches_757 : decode cL_watches 757 = .ok (.imul, 1) := by decide +kernel
theorem dL_watches_758 : decode cL_watches 758 = .ok (.iload 20, 2) := by decide +kernel
theorem dL_watches_760 : decode cL_watches 760 = .ok (.iadd, 1) := by decide +kernel
theorem dL_watches_761 : decode cL_watches 761 = .ok (.iaload, 1) := by decide +kernel
theorem dL_watches_762 : decode cL_watches 762 = .ok (.i2l, 1) := by decide +kernel
theorem dL_watches_763 : decode cL_watches 763 = .ok (.lastore, 1) := by decide +kernel
theorem dL_watches_764 : decode cL_watches 764 = .ok (.iinc 20 1, 3) := by decide +kernel
theorem dL_watches_767 : decode cL_watches 767 = .ok (.goto (-46), 3) := by decide +kernel
theorem dL_watches_770 : decode cL_watches 770 = .ok (.iconst 0, 1) := by decide +kernel
theorem dL_watches_771 : decode cL_watches 771 = .ok (.istore 20, 2) := by decide +kernel
theorem dL_watches_773 : decode cL_watches 773 = .ok (.iload 20, 2) := by decide +kernel
theorem dL_watches_775 : decode cL_watches 775 = .ok (.bipush 36, 2) := by decide +kernel
theorem dL_watches_777 : decode cL_watches 777 = .ok (.if_icmp .ge 61, 3) := by decide +kernel
theorem dL_watches_780 : decode cL_watches 780 = .ok (.iload 17, 2) := by decide +kernel
theorem dL_watches_782 : decode cL_watches 782 = .ok (.ifCond .le 50, 3) := by decide +kernel
theorem dL_watches_785 : decode cL_watches 785 = .ok (.aload 12, 2) := by decide +kernel
theorem dL_watches_787 : decode cL_watches 787 = .ok (.iload 20, 2) := by decide +kernel
theorem dL_watches_789 : decode cL_watches 789 = .ok (.laload, 1) := by decide +kernel
theorem dL_watches_790 : decode cL_watches 790 = .ok (.lconst 0, 1) := by decide +kernel
theorem dL_watches_791 : decode cL_watches 791 = .ok (.lcmp, 1) := by decide +kernel
theorem dL_watches_792 : decode cL_watches 792 = .ok (.ifCond .le 40, 3) := by decide +kernel
theorem dL_watches_795 : decode cL_watches 795 = .ok (.aload 11, 2) := by decide +kernel
theorem dL_watches_797 : decode cL_watches 797 = .ok (.iload 20, 2) := by decide +kernel
theorem dL_watches_799 : decode cL_watches 799 = .ok (.laload, 1) := by decide +kernel
theorem dL_watches_800 : decode cL_watches 800 = .ok (.iload 17, 2) := by decide +kernel
theorem dL_watches_802 : decode cL_watches 802 = .ok (.i2l, 1) := by decide +kernel
theorem dL_watches_803 : decode cL_watches 803 = .ok (.aload 12, 2) := by decide +kernel
theorem dL_watches_805 : decode cL_watches 805 = .ok (.iload 20, 2) := by decide +kernel
theorem dL_watches_807 : decode cL_watches 807 = .ok (.laload, 1) := by decide +kernel
theorem dL_watches_808 : decode cL_watches 808 = .ok (.lmul, 1) := by decide +kernel
theorem dL_watches_809 : decode cL_watches 809 = .ok (.ladd, 1) := by decide +kernel
theorem dL_watches_810 : decode cL_watches 810 = .ok (.ldc2_w 130, 3) := by decide +kernel
theorem dL_watches_813 : decode cL_watches 813 = .ok (.aload 4, 2) := by decide +kernel
theorem dL_watches_815 : decode cL_watches 815 = .ok (.iconst 3, 1) := by decide +kernel
theorem dL_watches_816 : decode cL_watches 816 = .ok (.iload 18, 2) := by decide +kernel
theorem dL_watches_818 : decode cL_watches 818 = .ok (.iadd, 1) := by decide +kernel
theorem dL_watches_819 : decode cL_watches 819 = .ok (.iaload, 1) := by decide +kernel
theorem dL_watches_820 : decode cL_watches 820 = .ok (.i2l, 1) := by decide +kernel
theorem dL_watches_821 : decode cL_watches 821 = .ok (.lmul, 1) := by decide +kernel
theorem dL_watches_822 : decode cL_watches 822 = .ok (.lcmp, 1) := by decide +kernel
theorem dL_watches_823 : decode cL_watches 823 = .ok (.ifCond .le 9, 3) := by decide +kernel
theorem dL_watches_826 : decode cL_watches 826 = .ok (.iinc 17 (-1), 3) := by decide +kernel
theorem dL_watches_829 : decode cL_watches 829 = .ok (.goto (-49), 3) := by decide +kernel
theorem dL_watches_832 : decode cL_watches 832 = .ok (.iinc 20 1, 3) := by decide +kernel
theorem dL_watches_835 : decode cL_watches 835 = .ok (.goto (-62), 3) := by decide +kernel
theorem dL_watches_838 : decode cL_watches 838 = .ok (.iinc 18 1, 3) := by decide +kernel
theorem dL_watches_841 : decode cL_watches 841 = .ok (.goto (-193), 3) := by decide +kernel
theorem dL_watches_844 : decode cL_watches 844 = .ok (.aload_n 0, 1) := by decide +kernel
theorem dL_watches_845 : decode cL_watches 845 = .ok (.iconst 1, 1) := by decide +kernel
theorem dL_watches_846 : decode cL_watches 846 = .ok (.iload 14, 2) := by decide +kernel
theorem dL_watches_848 : decode cL_watches 848 = .ok (.iload 13, 2) := by decide +kernel
theorem dL_watches_850 : decode cL_watches 850 = .ok (.invokestatic 136, 3) := by decide +kernel
theorem dL_watches_853 : decode cL_watches 853 = .ok (.iload 17, 2) := by decide +kernel
theorem dL_watches_855 : decode cL_watches 855 = .ok (.if_icmp .ne 7, 3) := by decide +kernel
theorem dL_watches_858 : decode cL_watches 858 = .ok (.iconst 1, 1) := by decide +kernel
theorem dL_watches_859 : decode cL_watches 859 = .ok (.goto 4, 3) := by decide +kernel
theorem dL_watches_862 : decode cL_watches 862 = .ok (.iconst 0, 1) := by decide +kernel
theorem dL_watches_863 : decode cL_watches 863 = .ok (.ireturn, 1) := by decide +kernel
theorem dL_years_0 : decode cL_years 0 = .ok (.bipush 36, 2) := by decide +kernel
theorem dL_years_2 : decode cL_years 2 = .ok (.newarray .int, 2) := by decide +kernel
theorem dL_years_4 : decode cL_years 4 = .ok (.astore 8, 2) := by decide +kernel
theorem dL_years_6 : decode cL_years 6 = .ok (.bipush 36, 2) := by decide +kernel
theorem dL_years_8 : decode cL_years 8 = .ok (.newarray .int, 2) := by decide +kernel
theorem dL_years_10 : decode cL_years 10 = .ok (.astore 9, 2) := by decide +kernel
theorem dL_years_12 : decode cL_years 12 = .ok (.iconst 0, 1) := by decide +kernel
theorem dL_years_13 : decode cL_years 13 = .ok (.istore 10, 2) := by decide +kernel
theorem dL_years_15 : decode cL_years 15 = .ok (.iload 10, 2) := by decide +kernel
theorem dL_years_17 : decode cL_years 17 = .ok (.aload_n 1, 1) := by decide +kernel
theorem dL_years_18 : decode cL_years 18 = .ok (.iconst 0, 1) := by decide +kernel
theorem dL_years_19 : decode cL_years 19 = .ok (.iaload, 1) := by decide +kernel
theorem dL_years_20 : decode cL_years 20 = .ok (.if_icmp .ge 63, 3) := by decide +kernel
theorem dL_years_23 : decode cL_years 23 = .ok (.aload_n 2, 1) := by decide +kernel
theorem dL_years_24 : decode cL_years 24 = .ok (.iload 10, 2) := by decide +kernel
theorem dL_years_26 : decode cL_years 26 = .ok (.ifCond .ne 7, 3) := by decide +kernel
theorem dL_years_29 : decode cL_years 29 = .ok (.aload_n 3, 1) := by decide +kernel
theorem dL_years_30 : decode cL_years 30 = .ok (.goto 38, 3) := by decide +kernel
theorem dL_years_33 : decode cL_years 33 = .ok (.iload 10, 2) := by decide +kernel
theorem dL_years_35 : decode cL_years 35 = .ok (.iconst 1, 1) := by decide +kernel
theorem dL_years_36 : decode cL_years 36 = .ok (.if_icmp .ne 8, 3) := by decide +kernel
theorem dL_years_39 : decode cL_years 39 = .ok (.aload 4, 2) := by decide +kernel
theorem dL_years_41 : decode cL_years 41 = .ok (.goto 27, 3) := by decide +kernel
theorem dL_years_44 : decode cL_years 44 = .ok (.iload 10, 2) := by decide +kernel
theorem dL_years_46 : decode cL_years 46 = .ok (.iconst 2, 1) := by decide +kernel
theorem dL_years_47 : decode cL_years 47 = .ok (.if_icmp .ne 8, 3) := by decide +kernel
theorem dL_years_50 : decode cL_years 50 = .ok (.aload 5, 2) := by decide +kernel
theorem dL_years_52 : decode cL_years 52 = .ok (.goto 16, 3) := by decide +kernel
theorem dL_years_55 : decode cL_years 55 = .ok (.iload 10, 2) := by decide +kernel
theorem dL_years_57 : decode cL_years 57 = .ok (.iconst 3, 1) := by decide +kernel
theorem dL_years_58 : decode cL_years 58 = .ok (.if_icmp .ne 8, 3) := by decide +kernel
theorem dL_years_61 : decode cL_years 61 = .ok (.aload 6, 2) := by decide +kernel
theorem dL_years_63 : decode cL_years 63 = .ok (.goto 5, 3) := by decide +kernel
theorem dL_years_66 : decode cL_years 66 = .ok (.aload 7, 2) := by decide +kernel
theorem dL_years_68 : decode cL_years 68 = .ok (.iload 10, 2) := by decide +kernel
theorem dL_years_70 : decode cL_years 70 = .ok (.bipush 36, 2) := by decide +kernel
theorem dL_years_72 : decode cL_years 72 = .ok (.aload 8, 2) := by decide +kernel
theorem dL_years_74 : decode cL_years 74 = .ok (.invokestatic 139, 3) := by decide +kernel
theorem dL_years_77 : decode cL_years 77 = .ok (.iinc 10 1, 3) := by decide +kernel
theorem dL_years_80 : decode cL_years 80 = .ok (.goto (-65), 3) := by decide +kernel
theorem dL_years_83 : decode cL_years 83 = .ok (.iconst (-1), 1) := by decide +kernel
theorem dL_years_84 : decode cL_years 84 = .ok (.istore 10, 2) := by decide +kernel
theorem dL_years_86 : decode cL_years 86 = .ok (.iload 10, 2) := by decide +kernel
theorem dL_years_88 : decode cL_years 88 = .ok (.iconst 4, 1) := by decide +kernel
theorem dL_years_89 : decode cL_years 89 = .ok (.if_icmp .ge 341, 3) := by decide +kernel
theorem dL_years_92 : decode cL_years 92 = .ok (.iload 10, 2) := by decide +kernel
theorem dL_years_94 : decode cL_years 94 = .ok (.ifCond .lt 13, 3) := by decide +kernel
theorem dL_years_97 : decode cL_years 97 = .ok (.iload 10, 2) := by decide +kernel
theorem dL_years_99 : decode cL_years 99 = .ok (.iconst 3, 1) := by decide +kernel
theorem dL_years_100 : decode cL_years 100 = .ok (.if_icmp .ge 7, 3) := by decide +kernel
theorem dL_years_103 : decode cL_years 103 = .ok (.iconst 1, 1) := by decide +kernel
theorem dL_years_104 : decode cL_years 104 = .ok (.goto 4, 3) := by decide +kernel
theorem dL_years_107 : decode cL_years 107 = .ok (.iconst 0, 1) := by decide +kernel
theorem dL_years_108 : decode cL_years 108 = .ok (.istore 11, 2) := by decide +kernel
theorem dL_years_110 : decode cL_years 110 = .ok (.iconst 0, 1) := by decide +kernel
theorem dL_years_111 : decode cL_years 111 = .ok (.istore 12, 2) := by decide +kernel
theorem dL_years_113 : decode cL_years 113 = .ok (.iconst 0, 1) := by decide +kernel
theorem dL_years_114 : decode cL_years 114 = .ok (.istore 13, 2) := by decide +kernel
theorem dL_years_116 : decode cL_years 116 = .ok (.iload 13, 2) := by decide +kernel
theorem dL_years_118 : decode cL_years 118 = .ok (.aload_n 1, 1) := by decide +kernel
theorem dL_years_119 : decode cL_years 119 = .ok (.iconst 0, 1) := by decide +kernel
theorem dL_years_120 : decode cL_years 120 = .ok (.iaload, 1) := by decide +kernel
theorem dL_years_121 : decode cL_years 121 = .ok (.if_icmp .gt 250, 3) := by decide +kernel
theorem dL_years_124 : decode cL_years 124 = .ok (.iload 13, 2) := by decide +kernel
theorem dL_years_126 : decode cL_years 126 = .ok (.ifCond .ne 7, 3) := by decide +kernel
theorem dL_years_129 : decode cL_years 129 = .ok (.aload_n 3, 1) := by decide +kernel
theorem dL_years_130 : decode cL_years 130 = .ok (.goto 38, 3) := by decide +kernel
theorem dL_years_133 : decode cL_years 133 = .ok (.iload 13, 2) := by decide +kernel
theorem dL_years_135 : decode cL_years 135 = .ok (.iconst 1, 1) := by decide +kernel
theorem dL_years_136 : decode cL_years 136 = .ok (.if_icmp .ne 8, 3) := by decide +kernel
theorem dL_years_139 : decode cL_years 139 = .ok (.aload 4, 2) := by decide +kernel
theorem dL_years_141 : decode cL_years 141 = .ok (.goto 27, 3) := by decide +kernel
theorem dL_years_144 : decode cL_years 144 = .ok (.iload 13, 2) := by decide +kernel
theorem dL_years_146 : decode cL_years 146 = .ok (.iconst 2, 1) := by decide +kernel
theorem dL_years_147 : decode cL_years 147 = .ok (.if_icmp .ne 8, 3) := by decide +kernel
theorem dL_years_150 : decode cL_years 150 = .ok (.aload 5, 2) := by decide +kernel
theorem dL_years_152 : decode cL_years 152 = .ok (.goto 16, 3) := by decide +kernel
theorem dL_years_155 : decode cL_years 155 = .ok (.iload 13, 2) := by decide +kernel
theorem dL_years_157 : decode cL_years 157 = .ok (.iconst 3, 1) := by decide +kernel
theorem dL_years_158 : decode cL_years 158 = .ok (.if_icmp .ne 8, 3) := by decide +kernel
theorem dL_years_161 : decode cL_years 161 = .ok (.aload 6, 2) := by decide +kernel
theorem dL_years_163 : decode cL_years 163 = .ok (.goto 5, 3) := by decide +kernel
theorem dL_years_166 : decode cL_years 166 = .ok (.aload 7, 2) := by decide +kernel
theorem dL_years_168 : decode cL_years 168 = .ok (.astore 14, 2) := by decide +kernel
theorem dL_years_170 : decode cL_years 170 = .ok (.iload 11, 2) := by decide +kernel
theorem dL_years_172 : decode cL_years 172 = .ok (.ifCond .eq 15, 3) := by decide +kernel
theorem dL_years_175 : decode cL_years 175 = .ok (.iload 13, 2) := by decide +kernel
theorem dL_years_177 : decode cL_years 177 = .ok (.aload_n 1, 1) := by decide +kernel
theorem dL_years_178 : decode cL_years 178 = .ok (.iconst 0, 1) := by decide +kernel
theorem dL_years_179 : decode cL_years 179 = .ok (.iaload, 1) := by decide +kernel
theorem dL_years_180 : decode cL_years 180 = .ok (.if_icmp .ge 7, 3) := by decide +kernel
theorem dL_years_183 : decode cL_years 183 = .ok (.iconst 1, 1) := by decide +kernel
theorem dL_years_184 : decode cL_years 184 = .ok (.goto 4, 3) := by decide +kernel
theorem dL_years_187 : decode cL_years 187 = .ok (.iconst 0, 1) := by decide +kernel
theorem dL_years_188 : decode cL_years 188 = .ok (.istore 15, 2) := by decide +kernel
theorem dL_years_190 : decode cL_years 190 = .ok (.iconst 0, 1) := by decide +kernel
theorem dL_years_191 : decode cL_years 191 = .ok (.istore 16, 2) := by decide +kernel
theorem dL_years_193 : decode cL_years 193 = .ok (.iload 16, 2) := by decide +kernel
theorem dL_years_195 : decode cL_years 195 = .ok (.bipush 36, 2) := by decide +kernel
theorem dL_years_197 : decode cL_years 197 = .ok (.if_icmp .ge 15, 3) := by decide +kernel
theorem dL_years_200 : decode cL_years 200 = .ok (.aload 9, 2) := by decide +kernel
theorem dL_years_202 : decode cL_years 202 = .ok (.iload 16, 2) := by decide +kernel
theorem dL_years_204 : decode cL_years 204 = .ok (.iconst 0, 1) := by decide +kernel
theorem dL_years_205 : decode cL_years 205 = .ok (.iastore, 1) := by decide +kernel
theorem dL_years_206 : decode cL_years 206 = .ok (.iinc 16 1, 3) := by decide +kernel
theorem dL_years_209 : decode cL_years 209 = .ok (.goto (-16), 3) := by decide +kernel
theorem dL_years_212 : decode cL_years 212 = .ok (.iload 15, 2) := by decide +kernel
theorem dL_years_214 : decode cL_years 214 = .ok (.ifCond .eq 59, 3) := by decide +kernel
theorem dL_years_217 : decode cL_years 217 = .ok (.aload_n 2, 1) := by decide +kernel
theorem dL_years_218 : decode cL_years 218 = .ok (.aload 14, 2) := by decide +kernel
theorem dL_years_220 : decode cL_years 220 = .ok (.iload 13, 2) := by decide +kernel
theorem dL_years_222 : decode cL_years 222 = .ok (.bipush 12, 2) := by decide +kernel
theorem dL_years_224 : decode cL_years 224 = .ok (.iload 10, 2) := by decide +kernel
theorem dL_years_226 : decode cL_years 226 = .ok (.imul, 1) := by decide +kernel
theorem dL_years_227 : decode cL_years 227 = .ok (.aload 9, 2) := by decide +kernel
theorem dL_years_229 : decode cL_years 229 = .ok (.invokestatic 139, 3) := by decide +kernel
theorem dL_years_232 : decode cL_years 232 = .ok (.iload 12, 2) := by decide +kernel
theorem dL_years_234 : decode cL_years 234 = .ok (.aload 14, 2) := by decide +kernel
theorem dL_years_236 : decode cL_years 236 = .ok (.iload 10, 2) := by decide +kernel
theorem dL_years_238 : decode cL_years 238 = .ok (.invokestatic 143, 3) := by decide +kernel
theorem dL_years_241 : decode cL_years 241 = .ok (.aload_n 2, 1) := by decide +kernel
theorem dL_years_242 : decode cL_years 242 = .ok (.bipush 10, 2) := by decide +kernel
theorem dL_years_244 : decode cL_years 244 = .ok (.iload 13, 2) := by decide +kernel
theorem dL_years_246 : decode cL_years 246 = .ok (.iadd, 1) := by decide +kernel
theorem dL_years_247 : decode cL_years 247 = .ok (.iaload, 1) := by decide +kernel
theorem dL_years_248 : decode cL_years 248 = .ok (.if_icmp .le 21, 3) := by decide +kernel
theorem dL_years_251 : decode cL_years 251 = .ok (.aload 14, 2) := by decide +kernel
theorem dL_years_253 : decode cL_years 253 = .ok (.iload 10, 2) := by decide +kernel
theorem dL_years_255 : decode cL_years 255 = .ok (.invokestatic 143, 3) := by decide +kernel
theorem dL_years_258 : decode cL_years 258 = .ok (.aload_n 2, 1) := by decide +kernel
theorem dL_years_259 : decode cL_years 259 = .ok (.bipush 10, 2) := by decide +kernel
theorem dL_years_261 : decode cL_years 261 = .ok (.iload 13, 2) := by decide +kernel
theorem dL_years_263 : decode cL_years 263 = .ok (.iadd, 1) := by decide +kernel
theorem dL_years_264 : decode cL_years 264 = .ok (.iaload, 1) := by decide +kernel
theorem dL_years_265 : decode cL_years 265 = .ok (.isub, 1) := by decide +kernel
theorem dL_years_266 : decode cL_years 266 = .ok (.goto 4, 3) := by decide +kernel
theorem dL_years_269 : decode cL_years 269 = .ok (.iconst 0, 1) := by decide +kernel
theorem dL_years_270 : decode cL_years 270 = .ok (.iadd, 1) := by decide +kernel
theorem dL_years_271 : decode cL_years 271 = .ok (.istore 12, 2) := by decide +kernel
theorem dL_years_273 : decode cL_years 273 = .ok (.aload_n 0, 1) := by decide +kernel
theorem dL_years_274 : decode cL_years 274 = .ok (.iconst 0, 1) := by decide +kernel
theorem dL_years_275 : decode cL_years 275 = .ok (.iload 13, 2) := by decide +kernel
theorem dL_years_277 : decode cL_years 277 = .ok (.iload 10, 2) := by decide +kernel
theorem dL_years_279 : decode cL_years 279 = .ok (.invokestatic 136, 3) := by decide +kernel
theorem dL_years_282 : decode cL_years 282 = .ok (.iload 15, 2) := by decide +kernel
theorem dL_years_284 : decode cL_years 284 = .ok (.ifCond .eq 13, 3) := by decide +kernel
theorem dL_years_287 : decode cL_years 287 = .ok (.aload 14, 2) := by decide +kernel
theorem dL_years_289 : decode cL_years 289 = .ok (.iload 10, 2) := by decide +kernel
theorem dL_years_291 : decode cL_years 291 = .ok (.invokestatic 143, 3) := by decide +kernel
theorem dL_years_294 : decode cL_years 294 = .ok (.goto 5, 3) := by decide +kernel
theorem dL_years_297 : decode cL_years 297 = .ok (.bipush (-101), 2) := by decide +kernel
theorem dL_years_299 : decode cL_years 299 = .ok (.if_icmp .ne 64, 3) := by decide +kernel
theorem dL_years_302 : decode cL_years 302 = .ok (.aload_n 0, 1) := by decide +kernel
theorem dL_years_303 : decode cL_years 303 = .ok (.iconst 3, 1) := by decide +kernel
theorem dL_years_304 : decode cL_years 304 = .ok (.iload 13, 2) := by decide +kernel
theorem dL_years_306 : decode cL_years 306 = .ok (.iload 10, 2) := by decide +kernel
theorem dL_years_308 : decode cL_years 308 = .ok (.invokestatic 136, 3) := by decide +kernel
theorem dL_years_311 : decode cL_years 311 = .ok (.iload 15, 2) := by decide +kernel
theorem dL_years_313 : decode cL_years 313 = .ok (.ifCond .eq 13, 3) := by decide +kernel
theorem dL_years_316 : decode cL_years 316 = .ok (.aload 9, 2) := by decide +kernel
theorem dL_years_318 : decode cL_years 318 = .ok (.iload 10, 2) := by decide +kernel
theorem dL_years_320 : decode cL_years 320 = .ok (.invokestatic 143, 3) := by decide +kernel
theorem dL_years_323 : decode cL_years 323 = .ok (.goto 5, 3) := by decide +kernel
theorem dL_years_326 : decode cL_years 326 = .ok (.bipush (-101), 2) := by decide +kernel
theorem dL_years_328 : decode cL_years 328 = .ok (.if_icmp .ne 35, 3) := by decide +kernel
theorem dL_years_331 : decode cL_years 331 = .ok (.aload_n 0, 1) := by decide +kernel
theorem dL_years_332 : decode cL_years 332 = .ok (.bipush 6, 2) := by decide +kernel
theorem dL_years_334 : decode cL_years 334 = .ok (.iload 13, 2) := by decide +kernel
theorem dL_years_336 : decode cL_years 336 = .ok (.iconst 0, 1) := by decide +kernel
theorem dL_years_337 : decode cL_years 337 = .ok (.invokestatic 136, 3) := by decide +kernel
theorem dL_years_340 : decode cL_years 340 = .ok (.iload 13, 2) := by decide +kernel
theorem dL_years_342 : decode cL_years 342 = .ok (.aload_n 1, 1) := by decide +kernel
theorem dL_years_343 : decode cL_years 343 = .ok (.iconst 0, 1) := by decide +kernel
theorem dL_years_344 : decode cL_years 344 = .ok (.iaload, 1) := by decide +kernel
theorem dL_years_345 : decode cL_years 345 = .ok (.if_icmp .ge 13, 3) := by decide +kernel
theorem dL_years_348 : decode cL_years 348 = .ok (.aload_n 2, 1) := by decide +kernel
theorem dL_years_349 : decode cL_years 349 = .ok (.bipush 10, 2) := by decide +kernel
theorem dL_years_351 : decode cL_years 351 = .ok (.iload 13, 2) := by decide +kernel
theorem dL_years_353 : decode cL_years 353 = .ok (.iadd, 1) := by decide +kernel
theorem dL_years_354 : decode cL_years 354 = .ok (.iaload, 1) := by decide +kernel
theorem dL_years_355 : decode cL_years 355 = .ok (.goto 5, 3) := by decide +kernel
theorem dL_years_358 : decode cL_years 358 = .ok (.bipush (-101), 2) := by decide +kernel
theorem dL_years_360 : decode cL_years 360 = .ok (.if_icmp .eq 5, 3) := by decide +kernel
theorem dL_years_363 : decode cL_years 363 = .ok (.iconst 0, 1) := by decide +kernel
theorem dL_years_364 : decode cL_years 364 = .ok (.ireturn, 1) := by decide +kernel
theorem dL_years_365 : decode cL_years 365 = .ok (.iinc 13 1, 3) := by decide +kernel
theorem dL_years_368 : decode cL_years 368 = .ok (.goto (-252), 3) := by decide +kernel
theorem dL_years_371 : decode cL_years 371 = .ok (.aload_n 0, 1) := by decide +kernel
theorem dL_years_372 : decode cL_years 372 = .ok (.iconst 4, 1) := by decide +kernel
theorem dL_years_373 : decode cL_years 373 = .ok (.iload 10, 2) := by decide +kernel
theorem dL_years_375 : decode cL_years 375 = .ok (.iconst 0, 1) := by decide +kernel
theorem dL_years_376 : decode cL_years 376 = .ok (.invokestatic 136, 3) := by decide +kernel
theorem dL_years_379 : decode cL_years 379 = .ok (.iload 11, 2) := by decide +kernel
theorem dL_years_381 : decode cL_years 381 = .ok (.ifCond .eq 8, 3) := by decide +kernel
theorem dL_years_384 : decode cL_years 384 = .ok (.iload 12, 2) := by decide +kernel
theorem dL_years_386 : decode cL_years 386 = .ok (.goto 5, 3) := by decide +kernel
theorem dL_years_389 : decode cL_years 389 = .ok (.bipush (-101), 2) := by decide +kernel
theorem dL_years_391 : decode cL_years 391 = .ok (.if_icmp .ne 31, 3) := by decide +kernel
theorem dL_years_394 : decode cL_years 394 = .ok (.aload_n 0, 1) := by decide +kernel
theorem dL_years_395 : decode cL_years 395 = .ok (.iconst 5, 1) := by decide +kernel
theorem dL_years_396 : decode cL_years 396 = .ok (.iload 10, 2) := by decide +kernel
theorem dL_years_398 : decode cL_years 398 = .ok (.iconst 0, 1) := by decide +kernel
theorem dL_years_399 : decode cL_years 399 = .ok (.invokestatic 136, 3) := by decide +kernel
theorem dL_years_402 : decode cL_years 402 = .ok (.iload 11, 2) := by decide +kernel
theorem dL_years_404 : decode cL_years 404 = .ok (.ifCond .eq 13, 3) := by decide +kernel
theorem dL_years_407 : decode cL_years 407 = .ok (.aload 8, 2) := by decide +kernel
theorem dL_years_409 : decode cL_years 409 = .ok (.iload 10, 2) := by decide +kernel
theorem dL_years_411 : decode cL_years 411 = .ok (.invokestatic 143, 3) := by decide +kernel
theorem dL_years_414 : decode cL_years 414 = .ok (.goto 5, 3) := by decide +kernel
theorem dL_years_417 : decode cL_years 417 = .ok (.bipush (-101), 2) := by decide +kernel
theorem dL_years_419 : decode cL_years 419 = .ok (.if_icmp .eq 5, 3) := by decide +kernel
theorem dL_years_422 : decode cL_years 422 = .ok (.iconst 0, 1) := by decide +kernel
theorem dL_years_423 : decode cL_years 423 = .ok (.ireturn, 1) := by decide +kernel
theorem dL_years_424 : decode cL_years 424 = .ok (.iinc 10 1, 3) := by decide +kernel
theorem dL_years_427 : decode cL_years 427 = .ok (.goto (-341), 3) := by decide +kernel
theorem dL_years_430 : decode cL_years 430 = .ok (.aload_n 0, 1) := by decide +kernel
theorem dL_years_431 : decode cL_years 431 = .ok (.invokevirtual 147, 3) := by decide +kernel
theorem dL_years_434 : decode cL_years 434 = .ok (.aload_n 1, 1) := by decide +kernel
theorem dL_years_435 : decode cL_years 435 = .ok (.iconst 0, 1) := by decide +kernel
theorem dL_years_436 : decode cL_years 436 = .ok (.iaload, 1) := by decide +kernel
theorem dL_years_437 : decode cL_years 437 = .ok (.if_icmp .ne 17, 3) := by decide +kernel
theorem dL_years_440 : decode cL_years 440 = .ok (.aload_n 0, 1) := by decide +kernel
theorem dL_years_441 : decode cL_years 441 = .ok (.invokevirtual 151, 3) := by decide +kernel
theorem dL_years_444 : decode cL_years 444 = .ok (.aload_n 1, 1) := by decide +kernel
theorem dL_years_445 : decode cL_years 445 = .ok (.iconst 1, 1) := by decide +kernel
theorem dL_years_446 : decode cL_years 446 = .ok (.iaload, 1) := by decide +kernel
theorem dL_years_447 : decode cL_years 447 = .ok (.if_icmp .ne 7, 3) := by decide +kernel
theorem dL_years_450 : decode cL_years 450 = .ok (.iconst 1, 1) := by decide +kernel
theorem dL_years_451 : decode cL_years 451 = .ok (.goto 4, 3) := by decide +kernel
theorem dL_years_454 : decode cL_years 454 = .ok (.iconst 0, 1) := by decide +kernel
theorem dL_years_455 : decode cL_years 455 = .ok (.ireturn, 1) := by decide +kernel
theorem dL_law_0 : decode cL_law 0 = .ok (.new 28, 3) := by decide +kernel
theorem dL_law_3 : decode cL_law 3 = .ok (.dup, 1) := by decide +kernel
theorem dL_law_4 : decode cL_law 4 = .ok (.invokespecial 154, 3) := by decide +kernel
theorem dL_law_7 : decode cL_law 7 = .ok (.astore_n 1, 1) := by decide +kernel
theorem dL_law_8 : decode cL_law 8 = .ok (.iconst 2, 1) := by decide +kernel
theorem dL_law_9 : decode cL_law 9 = .ok (.newarray .int, 2) := by decide +kernel
theorem dL_law_11 : decode cL_law 11 = .ok (.astore_n 2, 1) := by decide +kernel
theorem dL_law_12 : decode cL_law 12 = .ok (.bipush 15, 2) := by decide +kernel
theorem dL_law_14 : decode cL_law 14 = .ok (.newarray .int, 2) := by decide +kernel
theorem dL_law_16 : decode cL_law 16 = .ok (.astore_n 3, 1) := by decide +kernel
theorem dL_law_17 : decode cL_law 17 = .ok (.bipush 6, 2) := by decide +kernel
theorem dL_law_19 : decode cL_law 19 = .ok (.newarray .int, 2) := by decide +kernel
theorem dL_law_21 : decode cL_law 21 = .ok (.astore 4, 2) := by decide +kernel
theorem dL_law_23 : decode cL_law 23 = .ok (.bipush 60, 2) := by decide +kernel
theorem dL_law_25 : decode cL_law 25 = .ok (.newarray .int, 2) := by decide +kernel
theorem dL_law_27 : decode cL_law 27 = .ok (.astore 5, 2) := by decide +kernel
theorem dL_law_29 : decode cL_law 29 = .ok (.bipush 9, 2) := by decide +kernel
theorem dL_law_31 : decode cL_law 31 = .ok (.newarray .int, 2) := by decide +kernel
theorem dL_law_33 : decode cL_law 33 = .ok (.astore 6, 2) := by decide +kernel
theorem dL_law_35 : decode cL_law 35 = .ok (.bipush 36, 2) := by decide +kernel
theorem dL_law_37 : decode cL_law 37 = .ok (.newarray .int, 2) := by decide +kernel
theorem dL_law_39 : decode cL_law 39 = .ok (.astore 7, 2) := by decide +kernel
theorem dL_law_41 : decode cL_law 41 = .ok (.bipush 36, 2) := by decide +kernel
theorem dL_law_43 : decode cL_law 43 = .ok (.newarray .int, 2) := by decide +kernel
theorem dL_law_45 : decode cL_law 45 = .ok (.astore 8, 2) := by decide +kernel
theorem dL_law_47 : decode cL_law 47 = .ok (.bipush 36, 2) := by decide +kernel
theorem dL_law_49 : decode cL_law 49 = .ok (.newarray .int, 2) := by decide +kernel
theorem dL_law_51 : decode cL_law 51 = .ok (.astore 9, 2) := by decide +kernel
theorem dL_law_53 : decode cL_law 53 = .ok (.bipush 36, 2) := by decide +kernel
theorem dL_law_55 : decode cL_law 55 = .ok (.newarray .int, 2) := by decide +kernel
theorem dL_law_57 : decode cL_law 57 = .ok (.astore 10, 2) := by decide +kernel
theorem dL_law_59 : decode cL_law 59 = .ok (.bipush 36, 2) := by decide +kernel
theorem dL_law_61 : decode cL_law 61 = .ok (.newarray .int, 2) := by decide +kernel
theorem dL_law_63 : decode cL_law 63 = .ok (.astore 11, 2) := by decide +kernel
theorem dL_law_65 : decode cL_law 65 = .ok (.iconst 0, 1) := by decide +kernel
theorem dL_law_66 : decode cL_law 66 = .ok (.istore 12, 2) := by decide +kernel
theorem dL_law_68 : decode cL_law 68 = .ok (.iload 12, 2) := by decide +kernel
theorem dL_law_70 : decode cL_law 70 = .ok (.bipush 9, 2) := by decide +kernel
theorem dL_law_72 : decode cL_law 72 = .ok (.if_icmp .ge 16, 3) := by decide +kernel
theorem dL_law_75 : decode cL_law 75 = .ok (.aload 6, 2) := by decide +kernel
theorem dL_law_77 : decode cL_law 77 = .ok (.iload 12, 2) := by decide +kernel
theorem dL_law_79 : decode cL_law 79 = .ok (.bipush 100, 2) := by decide +kernel
theorem dL_law_81 : decode cL_law 81 = .ok (.iastore, 1) := by decide +kernel
theorem dL_law_82 : decode cL_law 82 = .ok (.iinc 12 1, 3) := by decide +kernel
theorem dL_law_85 : decode cL_law 85 = .ok (.goto (-17), 3) := by decide +kernel
theorem dL_law_88 : decode cL_law 88 = .ok (.iconst 0, 1) := by decide +kernel
theorem dL_law_89 : decode cL_law 89 = .ok (.istore 12, 2) := by decide +kernel
theorem dL_law_91 : decode cL_law 91 = .ok (.iload 12, 2) := by decide +kernel
theorem dL_law_93 : decode cL_law 93 = .ok (.bipush 100, 2) := by decide +kernel
theorem dL_law_95 : decode cL_law 95 = .ok (.if_icmp .ge 332, 3) := by decide +kernel
theorem dL_law_98 : decode cL_law 98 = .ok (.aload_n 0, 1) := by decide +kernel
theorem dL_law_99 : decode cL_law 99 = .ok (.iload 12, 2) := by decide +kernel
theorem dL_law_101 : decode cL_law 101 = .ok (.invokestatic 155, 3) := by decide +kernel
theorem dL_law_104 : decode cL_law 104 = .ok (.istore 13, 2) := by decide +kernel
theorem dL_law_106 : decode cL_law 106 = .ok (.iload 13, 2) := by decide +kernel
theorem dL_law_108 : decode cL_law 108 = .ok (.iconst 4, 1) := by decide +kernel
theorem dL_law_109 : decode cL_law 109 = .ok (.ishr, 1) := by decide +kernel
theorem dL_law_110 : decode cL_law 110 = .ok (.istore 14, 2) := by decide +kernel
theorem dL_law_112 : decode cL_law 112 = .ok (.iload 13, 2) := by decide +kernel
theorem dL_law_114 : decode cL_law 114 = .ok (.bipush 14, 2) := by decide +kernel
theorem dL_law_116 : decode cL_law 116 = .ok (.invokestatic 101, 3) := by decide +kernel
theorem dL_law_119 : decode cL_law 119 = .ok (.istore 15, 2) := by decide +kernel
theorem dL_law_121 : decode cL_law 121 = .ok (.iload 14, 2) := by decide +kernel
theorem dL_law_123 : decode cL_law 123 = .ok (.aload_n 2, 1) := by decide +kernel
theorem dL_law_124 : decode cL_law 124 = .ok (.iconst 0, 1) := by decide +kernel
theorem dL_law_125 : decode cL_law 125 = .ok (.iaload, 1) := by decide +kernel
theorem dL_law_126 : decode cL_law 126 = .ok (.iconst 1, 1) := by decide +kernel
theorem dL_law_127 : decode cL_law 127 = .ok (.iadd, 1) := by decide +kernel
theorem dL_law_128 : decode cL_law 128 = .ok (.invokestatic 101, 3) := by decide +kernel
theorem dL_law_131 : decode cL_law 131 = .ok (.istore 16, 2) := by decide +kernel
theorem dL_law_133 : decode cL_law 133 = .ok (.iload 16, 2) := by decide +kernel
theorem dL_law_135 : decode cL_law 135 = .ok (.ifCond .ne 8, 3) := by decide +kernel
theorem dL_law_138 : decode cL_law 138 = .ok (.aload 7, 2) := by decide +kernel
theorem dL_law_140 : decode cL_law 140 = .ok (.goto 38, 3) := by decide +kernel
theorem dL_law_143 : decode cL_law 143 = .ok (.iload 16, 2) := by decide +kernel
theorem dL_law_145 : decode cL_law 145 = .ok (.iconst 1, 1) := by decide +kernel
theorem dL_law_146 : decode cL_law 146 = .ok (.if_icmp .ne 8, 3) := by decide +kernel
theorem dL_law_149 : decode cL_law 149 = .ok (.aload 8, 2) := by decide +kernel
theorem dL_law_151 : decode cL_law 151 = .ok (.goto 27, 3) := by decide +kernel
theorem dL_law_154 : decode cL_law 154 = .ok (.iload 16, 2) := by decide +kernel
theorem dL_law_156 : decode cL_law 156 = .ok (.iconst 2, 1) := by decide +kernel
theorem dL_law_157 : decode cL_law 157 = .ok (.if_icmp .ne 8, 3) := by decide +kernel
theorem dL_law_160 : decode cL_law 160 = .ok (.aload 9, 2) := by decide +kernel
theorem dL_law_162 : decode cL_law 162 = .ok (.goto 16, 3) := by decide +kernel
theorem dL_law_165 : decode cL_law 165 = .ok (.iload 16, 2) := by decide +kernel
theorem dL_law_167 : decode cL_law 167 = .ok (.iconst 3, 1) := by decide +kernel
theorem dL_law_168 : decode cL_law 168 = .ok (.if_icmp .ne 8, 3) := by decide +kernel
theorem dL_law_171 : decode cL_law 171 = .ok (.aload 10, 2) := by decide +kernel
theorem dL_law_173 : decode cL_law 173 = .ok (.goto 5, 3) := by decide +kernel
theorem dL_law_176 : decode cL_law 176 = .ok (.aload 11, 2) := by decide +kernel
theorem dL_law_178 : decode cL_law 178 = .ok (.astore 17, 2) := by decide +kernel
theorem dL_law_180 : decode cL_law 180 = .ok (.iload 12, 2) := by decide +kernel
theorem dL_law_182 : decode cL_law 182 = .ok (.iconst 3, 1) := by decide +kernel
theorem dL_law_183 : decode cL_law 183 = .ok (.if_icmp .ge 21, 3) := by decide +kernel
theorem dL_law_186 : decode cL_law 186 = .ok (.aload_n 1, 1) := by decide +kernel
theorem dL_law_187 : decode cL_law 187 = .ok (.iconst 0, 1) := by decide +kernel
theorem dL_law_188 : decode cL_law 188 = .ok (.iload 14, 2) := by decide +kernel
theorem dL_law_190 : decode cL_law 190 = .ok (.aload_n 2, 1) := by decide +kernel
theorem dL_law_191 : decode cL_law 191 = .ok (.aload_n 3, 1) := by decide +kernel
theorem dL_law_192 : decode cL_law 192 = .ok (.aload 4, 2) := by decide +kernel
theorem dL_law_194 : decode cL_law 194 = .ok (.aload 5, 2) := by decide +kernel
theorem dL_law_196 : decode cL_law 196 = .ok (.aload 6, 2) := by decide +kernel
theorem dL_law_198 : decode cL_law 198 = .ok (.invokestatic 158, 3) := by decide +kernel
theorem dL_law_201 : decode cL_law 201 = .ok (.goto 149, 3) := by decide +kernel
theorem dL_law_204 : decode cL_law 204 = .ok (.iload 12, 2) := by decide +kernel
theorem dL_law_206 : decode cL_law 206 = .ok (.iconst 5, 1) := by decide +kernel
theorem dL_law_207 : decode cL_law 207 = .ok (.if_icmp .ge 21, 3) := by decide +kernel
theorem dL_law_210 : decode cL_law 210 = .ok (.aload_n 1, 1) := by decide +kernel
theorem dL_law_211 : decode cL_law 211 = .ok (.iconst 1, 1) := by decide +kernel
theorem dL_law_212 : decode cL_law 212 = .ok (.iload 14, 2) := by decide +kernel
theorem dL_law_214 : decode cL_law 214 = .ok (.aload_n 2, 1) := by decide +kernel
theorem dL_law_215 : decode cL_law 215 = .ok (.aload_n 3, 1) := by decide +kernel
theorem dL_law_216 : decode cL_law 216 = .ok (.aload 4, 2) := by decide +kernel
theorem dL_law_218 : decode cL_law 218 = .ok (.aload 5, 2) := by decide +kernel
theorem dL_law_220 : decode cL_law 220 = .ok (.aload 6, 2) := by decide +kernel
theorem dL_law_222 : decode cL_law 222 = .ok (.invokestatic 158, 3) := by decide +kernel
theorem dL_law_225 : decode cL_law 225 = .ok (.goto 125, 3) := by decide +kernel
theorem dL_law_228 : decode cL_law 228 = .ok (.iload 12, 2) := by decide +kernel
theorem dL_law_230 : decode cL_law 230 = .ok (.bipush 15, 2) := by decide +kernel
theorem dL_law_232 : decode cL_law 232 = .ok (.if_icmp .ge 21, 3) := by decide +kernel
theorem dL_law_235 : decode cL_law 235 = .ok (.aload_n 1, 1) := by decide +kernel
theorem dL_law_236 : decode cL_law 236 = .ok (.iconst 3, 1) := by decide +kernel
theorem dL_law_237 : decode cL_law 237 = .ok (.iload 14, 2) := by decide +kernel
theorem dL_law_239 : decode cL_law 239 = .ok (.aload_n 2, 1) := by decide +kernel
theorem dL_law_240 : decode cL_law 240 = .ok (.aload_n 3, 1) := by decide +kernel
theorem dL_law_241 : decode cL_law 241 = .ok (.aload 4, 2) := by decide +kernel
theorem dL_law_243 : decode cL_law 243 = .ok (.aload 5, 2) := by decide +kernel
theorem dL_law_245 : decode cL_law 245 = .ok (.aload 6, 2) := by decide +kernel
theorem dL_law_247 : decode cL_law 247 = .ok (.invokestatic 158, 3) := by decide +kernel
theorem dL_law_250 : decode cL_law 250 = .ok (.goto 100, 3) := by decide +kernel
theorem dL_law_253 : decode cL_law 253 = .ok (.iload 15, 2) := by decide +kernel
theorem dL_law_255 : decode cL_law 255 = .ok (.iconst 4, 1) := by decide +kernel
theorem dL_law_256 : decode cL_law 256 = .ok (.if_icmp .ge 22, 3) := by decide +kernel
theorem dL_law_259 : decode cL_law 259 = .ok (.aload_n 1, 1) := by decide +kernel
theorem dL_law_260 : decode cL_law 260 = .ok (.iload 15, 2) := by decide +kernel
theorem dL_law_262 : decode cL_law 262 = .ok (.iload 14, 2) := by decide +kernel
theorem dL_law_264 : decode cL_law 264 = .ok (.aload_n 2, 1) := by decide +kernel
theorem dL_law_265 : decode cL_law 265 = .ok (.aload_n 3, 1) := by decide +kernel
theorem dL_law_266 : decode cL_law 266 = .ok (.aload 4, 2) := by decide +kernel
theorem dL_law_268 : decode cL_law 268 = .ok (.aload 5, 2) := by decide +kernel
theorem dL_law_270 : decode cL_law 270 = .ok (.aload 6, 2) := by decide +kernel
theorem dL_law_272 : decode cL_law 272 = .ok (.invokestatic 158, 3) := by decide +kernel
theorem dL_law_275 : decode cL_law 275 = .ok (.goto 75, 3) := by decide +kernel
theorem dL_law_278 : decode cL_law 278 = .ok (.iload 15, 2) := by decide +kernel
theorem dL_law_280 : decode cL_law 280 = .ok (.bipush 10, 2) := by decide +kernel
theorem dL_law_282 : decode cL_law 282 = .ok (.if_icmp .ge 29, 3) := by decide +kernel
theorem dL_law_285 : decode cL_law 285 = .ok (.aload_n 1, 1) := by decide +kernel
theorem dL_law_286 : decode cL_law 286 = .ok (.iload 15, 2) := by decide +kernel
theorem dL_law_288 : decode cL_law 288 = .ok (.bipush 9, 2) := by decide +kernel
theorem dL_law_290 : decode cL_law 290 = .ok (.if_icmp .ne 7, 3) := by decide +kernel
theorem dL_law_293 : decode cL_law 293 = .ok (.iconst 1, 1) := by decide +kernel
theorem dL_law_294 : decode cL_law 294 = .ok (.goto 4, 3) := by decide +kernel
theorem dL_law_297 : decode cL_law 297 = .ok (.iconst 0, 1) := by decide +kernel
theorem dL_law_298 : decode cL_law 298 = .ok (.iload 14, 2) := by decide +kernel
theorem dL_law_300 : decode cL_law 300 = .ok (.aload_n 2, 1) := by decide +kernel
theorem dL_law_301 : decode cL_law 301 = .ok (.aload 17, 2) := by decide +kernel
theorem dL_law_303 : decode cL_law 303 = .ok (.iload 16, 2) := by decide +kernel
theorem dL_law_305 : decode cL_law 305 = .ok (.invokestatic 162, 3) := by decide +kernel
theorem dL_law_308 : decode cL_law 308 = .ok (.goto 42, 3) := by decide +kernel
theorem dL_law_311 : decode cL_law 311 = .ok (.iload 15, 2) := by decide +kernel
theorem dL_law_313 : decode cL_law 313 = .ok (.bipush 12, 2) := by decide +kernel
theorem dL_law_315 : decode cL_law 315 = .ok (.if_icmp .ge 20, 3) := by decide +kernel
theorem dL_law_318 : decode cL_law 318 = .ok (.aload_n 1, 1) := by decide +kernel
theorem dL_law_319 : decode cL_law 319 = .ok (.iload 14, 2) := by decide +kernel
theorem dL_law_321 : decode cL_law 321 = .ok (.aload_n 2, 1) := by decide +kernel
theorem dL_law_322 : decode cL_law 322 = .ok (.aload_n 3, 1) := by decide +kernel
theorem dL_law_323 : decode cL_law 323 = .ok (.aload 4, 2) := by decide +kernel
theorem dL_law_325 : decode cL_law 325 = .ok (.aload 5, 2) := by decide +kernel
theorem dL_law_327 : decode cL_law 327 = .ok (.aload 6, 2) := by decide +kernel
theorem dL_law_329 : decode cL_law 329 = .ok (.invokestatic 166, 3) := by decide +kernel
theorem dL_law_332 : decode cL_law 332 = .ok (.goto 18, 3) := by decide +kernel
theorem dL_law_335 : decode cL_law 335 = .ok (.aload_n 1, 1) := by decide +kernel
theorem dL_law_336 : decode cL_law 336 = .ok (.iconst 3, 1) := by decide +kernel
theorem dL_law_337 : decode cL_law 337 = .ok (.iload 14, 2) := by decide +kernel
theorem dL_law_339 : decode cL_law 339 = .ok (.aload_n 2, 1) := by decide +kernel
theorem dL_law_340 : decode cL_law 340 = .ok (.aload_n 3, 1) := by decide +kernel
theorem dL_law_341 : decode cL_law 341 = .ok (.aload 4, 2) := by decide +kernel
theorem dL_law_343 : decode cL_law 343 = .ok (.aload 5, 2) := by decide +kernel
theorem dL_law_345 : decode cL_law 345 = .ok (.aload 6, 2) := by decide +kernel
theorem dL_law_347 : decode cL_law 347 = .ok (.invokestatic 158, 3) := by decide +kernel
theorem dL_law_350 : decode cL_law 350 = .ok (.istore 18, 2) := by decide +kernel
theorem dL_law_352 : decode cL_law 352 = .ok (.iload 18, 2) := by decide +kernel
theorem dL_law_354 : decode cL_law 354 = .ok (.ifCond .eq 65, 3) := by decide +kernel
theorem dL_law_357 : decode cL_law 357 = .ok (.iload 12, 2) := by decide +kernel
theorem dL_law_359 : decode cL_law 359 = .ok (.iconst 4, 1) := by decide +kernel
theorem dL_law_360 : decode cL_law 360 = .ok (.irem, 1) := by decide +kernel
theorem dL_law_361 : decode cL_law 361 = .ok (.iconst 2, 1) := by decide +kernel
theorem dL_law_362 : decode cL_law 362 = .ok (.if_icmp .ne 28, 3) := by decide +kernel
theorem dL_law_365 : decode cL_law 365 = .ok (.aload_n 1, 1) := by decide +kernel
theorem dL_law_366 : decode cL_law 366 = .ok (.iload 14, 2) := by decide +kernel
theorem dL_law_368 : decode cL_law 368 = .ok (.aload_n 2, 1) := by decide +kernel
theorem dL_law_369 : decode cL_law 369 = .ok (.aload_n 3, 1) := by decide +kernel
theorem dL_law_370 : decode cL_law 370 = .ok (.aload 4, 2) := by decide +kernel
theorem dL_law_372 : decode cL_law 372 = .ok (.aload 5, 2) := by decide +kernel
theorem dL_law_374 : decode cL_law 374 = .ok (.aload 7, 2) := by decide +kernel
theorem dL_law_376 : decode cL_law 376 = .ok (.aload 8, 2) := by decide +kernel
theorem dL_law_378 : decode cL_law 378 = .ok (.aload 9, 2) := by decide +kernel
theorem dL_law_380 : decode cL_law 380 = .ok (.aload 10, 2) := by decide +kernel
theorem dL_law_382 : decode cL_law 382 = .ok (.aload 11, 2) := by decide +kernel
theorem dL_law_384 : decode cL_law 384 = .ok (.invokestatic 170, 3) := by decide +kernel
theorem dL_law_387 : decode cL_law 387 = .ok (.ifCond .eq 32, 3) := by decide +kernel
theorem dL_law_390 : decode cL_law 390 = .ok (.iload 12, 2) := by decide +kernel
theorem dL_law_392 : decode cL_law 392 = .ok (.bipush 10, 2) := by decide +kernel
theorem dL_law_394 : decode cL_law 394 = .ok (.irem, 1) := by decide +kernel
theorem dL_law_395 : decode cL_law 395 = .ok (.bipush 9, 2) := by decide +kernel
theorem dL_law_397 : decode cL_law 397 = .ok (.if_icmp .ne 24, 3) := by decide +kernel
theorem dL_law_400 : decode cL_law 400 = .ok (.aload_n 1, 1) := by decide +kernel
theorem dL_law_401 : decode cL_law 401 = .ok (.aload_n 2, 1) := by decide +kernel
theorem dL_law_402 : decode cL_law 402 = .ok (.aload_n 3, 1) := by decide +kernel
theorem dL_law_403 : decode cL_law 403 = .ok (.aload 7, 2) := by decide +kernel
theorem dL_law_405 : decode cL_law 405 = .ok (.aload 8, 2) := by decide +kernel
theorem dL_law_407 : decode cL_law 407 = .ok (.aload 9, 2) := by decide +kernel
theorem dL_law_409 : decode cL_law 409 = .ok (.aload 10, 2) := by decide +kernel
theorem dL_law_411 : decode cL_law 411 = .ok (.aload 11, 2) := by decide +kernel
theorem dL_law_413 : decode cL_law 413 = .ok (.invokestatic 173, 3) := by decide +kernel
theorem dL_law_416 : decode cL_law 416 = .ok (.ifCond .ne 5, 3) := by decide +kernel
theorem dL_law_419 : decode cL_law 419 = .ok (.iconst 0, 1) := by decide +kernel
theorem dL_law_420 : decode cL_law 420 = .ok (.ireturn, 1) := by decide +kernel
theorem dL_law_421 : decode cL_law 421 = .ok (.iinc 12 1, 3) := by decide +kernel
theorem dL_law_424 : decode cL_law 424 = .ok (.goto (-333), 3) := by decide +kernel
theorem dL_law_427 : decode cL_law 427 = .ok (.iconst 1, 1) := by decide +kernel
theorem dL_law_428 : decode cL_law 428 = .ok (.ireturn, 1) := by decide +kernel
