theorem dX0_init_0 : decode cX0_init 0 = .ok (.aload_n 0, 1) := by decide +kernel
theorem dX0_init_1 : decode cX0_init 1 = .ok (.invokespecial 3, 3) := by decide +kernel
theorem dX0_init_4 : decode cX0_init 4 = .ok (.aload_n 0, 1) := by decide +kernel
theorem dX0_init_5 : decode cX0_init 5 = .ok (.sipush 680, 3) := by decide +kernel
theorem dX0_init_8 : decode cX0_init 8 = .ok (.newarray .int, 2) := by decide +kernel
theorem dX0_init_10 : decode cX0_init 10 = .ok (.putfield 11, 3) := by decide +kernel
theorem dX0_init_13 : decode cX0_init 13 = .ok (.return_, 1) := by decide +kernel
theorem dX0_takeBack_0 : decode cX0_takeBack 0 = .ok (.aload_n 0, 1) := by decide +kernel
theorem dX0_takeBack_1 : decode cX0_takeBack 1 = .ok (.getfield 25, 3) := by decide +kernel
theorem dX0_takeBack_4 : decode cX0_takeBack 4 = .ok (.ifCond .ne 5, 3) := by decide +kernel
theorem dX0_takeBack_7 : decode cX0_takeBack 7 = .ok (.iconst 0, 1) := by decide +kernel
theorem dX0_takeBack_8 : decode cX0_takeBack 8 = .ok (.ireturn, 1) := by decide +kernel
theorem dX1_init_0 : decode cX1_init 0 = .ok (.aload_n 0, 1) := by decide +kernel
theorem dX1_init_1 : decode cX1_init 1 = .ok (.invokespecial 3, 3) := by decide +kernel
theorem dX1_init_4 : decode cX1_init 4 = .ok (.aload_n 0, 1) := by decide +kernel
theorem dX1_init_5 : decode cX1_init 5 = .ok (.iconst 3, 1) := by decide +kernel
theorem dX1_init_6 : decode cX1_init 6 = .ok (.newarray .int, 2) := by decide +kernel
theorem dX1_init_8 : decode cX1_init 8 = .ok (.putfield 9, 3) := by decide +kernel
theorem dX1_init_11 : decode cX1_init 11 = .ok (.aload_n 0, 1) := by decide +kernel
theorem dX1_init_12 : decode cX1_init 12 = .ok (.bipush 24, 2) := by decide +kernel
theorem dX1_init_14 : decode cX1_init 14 = .ok (.newarray .int, 2) := by decide +kernel
theorem dX1_init_16 : decode cX1_init 16 = .ok (.putfield 15, 3) := by decide +kernel
theorem dX1_init_19 : decode cX1_init 19 = .ok (.aload_n 0, 1) := by decide +kernel
theorem dX1_init_20 : decode cX1_init 20 = .ok (.bipush 20, 2) := by decide +kernel
theorem dX1_init_22 : decode cX1_init 22 = .ok (.newarray .int, 2) := by decide +kernel
theorem dX1_init_24 : decode cX1_init 24 = .ok (.putfield 18, 3) := by decide +kernel
theorem dX1_init_27 : decode cX1_init 27 = .ok (.return_, 1) := by decide +kernel
theorem dX2_init_0 : decode cX2_init 0 = .ok (.aload_n 0, 1) := by decide +kernel
theorem dX2_init_1 : decode cX2_init 1 = .ok (.invokespecial 3, 3) := by decide +kernel
theorem dX2_init_4 : decode cX2_init 4 = .ok (.return_, 1) := by decide +kernel
theorem dX2_read_0 : decode cX2_read 0 = .ok (.aload_n 0, 1) := by decide +kernel
theorem dX2_read_1 : decode cX2_read 1 = .ok (.aload_n 1, 1) := by decide +kernel
theorem dX2_read_2 : decode cX2_read 2 = .ok (.putfield 9, 3) := by decide +kernel
theorem dX2_read_5 : decode cX2_read 5 = .ok (.aload_n 0, 1) := by decide +kernel
theorem dX2_read_6 : decode cX2_read 6 = .ok (.aload_n 2, 1) := by decide +kernel
theorem dX2_read_7 : decode cX2_read 7 = .ok (.putfield 15, 3) := by decide +kernel
theorem dX2_read_10 : decode cX2_read 10 = .ok (.aload_n 0, 1) := by decide +kernel
theorem dX2_read_11 : decode cX2_read 11 = .ok (.getfield 9, 3) := by decide +kernel
theorem dX2_read_14 : decode cX2_read 14 = .ok (.iconst 0, 1) := by decide +kernel
theorem dX2_read_15 : decode cX2_read 15 = .ok (.putfield 19, 3) := by decide +kernel
theorem dX2_read_18 : decode cX2_read 18 = .ok (.aload_n 0, 1) := by decide +kernel
theorem dX2_read_19 : decode cX2_read 19 = .ok (.getfield 15, 3) := by decide +kernel
theorem dX2_read_22 : decode cX2_read 22 = .ok (.iconst 0, 1) := by decide +kernel
theorem dX2_read_23 : decode cX2_read 23 = .ok (.putfield 25, 3) := by decide +kernel
theorem dX2_read_26 : decode cX2_read 26 = .ok (.aload_n 0, 1) := by decide +kernel
theorem dX2_read_27 : decode cX2_read 27 = .ok (.getfield 15, 3) := by decide +kernel
theorem dX2_read_30 : decode cX2_read 30 = .ok (.iconst 0, 1) := by decide +kernel
theorem dX2_read_31 : decode cX2_read 31 = .ok (.putfield 30, 3) := by decide +kernel
theorem dX2_read_34 : decode cX2_read 34 = .ok (.aload_n 0, 1) := by decide +kernel
theorem dX2_read_35 : decode cX2_read 35 = .ok (.iconst 0, 1) := by decide +kernel
theorem dX2_read_36 : decode cX2_read 36 = .ok (.putfield 33, 3) := by decide +kernel
theorem dX2_read_39 : decode cX2_read 39 = .ok (.getstatic 37, 3) := by decide +kernel
theorem dX2_read_42 : decode cX2_read 42 = .ok (.iconst 0, 1) := by decide +kernel
theorem dX2_read_43 : decode cX2_read 43 = .ok (.aload_n 0, 1) := by decide +kernel
theorem dX2_read_44 : decode cX2_read 44 = .ok (.getfield 15, 3) := by decide +kernel
theorem dX2_read_47 : decode cX2_read 47 = .ok (.getfield 41, 3) := by decide +kernel
theorem dX2_read_50 : decode cX2_read 50 = .ok (.iconst 0, 1) := by decide +kernel
theorem dX2_read_51 : decode cX2_read 51 = .ok (.getstatic 37, 3) := by decide +kernel
theorem dX2_read_54 : decode cX2_read 54 = .ok (.arraylength, 1) := by decide +kernel
theorem dX2_read_55 : decode cX2_read 55 = .ok (.invokestatic 44, 3) := by decide +kernel
theorem dX2_read_58 : decode cX2_read 58 = .ok (.aload_n 0, 1) := by decide +kernel
theorem dX2_read_59 : decode cX2_read 59 = .ok (.invokevirtual 50, 3) := by decide +kernel
theorem dX2_read_62 : decode cX2_read 62 = .ok (.istore_n 3, 1) := by decide +kernel
theorem dX2_read_63 : decode cX2_read 63 = .ok (.iconst 0, 1) := by decide +kernel
theorem dX2_read_64 : decode cX2_read 64 = .ok (.istore 4, 2) := by decide +kernel
theorem dX2_read_66 : decode cX2_read 66 = .ok (.iload 4, 2) := by decide +kernel
theorem dX2_read_68 : decode cX2_read 68 = .ok (.aload_n 0, 1) := by decide +kernel
theorem dX2_read_69 : decode cX2_read 69 = .ok (.getfield 9, 3) := by decide +kernel
theorem dX2_read_72 : decode cX2_read 72 = .ok (.getfield 54, 3) := by decide +kernel
theorem dX2_read_75 : decode cX2_read 75 = .ok (.if_icmp .ge 30, 3) := by decide +kernel
theorem dX2_read_105 : decode cX2_read 105 = .ok (.iload_n 3, 1) := by decide +kernel
theorem dX2_read_106 : decode cX2_read 106 = .ok (.ifCond .eq 35, 3) := by decide +kernel
theorem dX2_read_141 : decode cX2_read 141 = .ok (.aload_n 0, 1) := by decide +kernel
theorem dX2_read_142 : decode cX2_read 142 = .ok (.getfield 9, 3) := by decide +kernel
theorem dX2_read_145 : decode cX2_read 145 = .ok (.getfield 19, 3) := by decide +kernel
theorem dX2_read_148 : decode cX2_read 148 = .ok (.ireturn, 1) := by decide +kernel
theorem dX2_clause_0 : decode cX2_clause 0 = .ok (.aload_n 0, 1) := by decide +kernel
theorem dX2_clause_1 : decode cX2_clause 1 = .ok (.getfield 9, 3) := by decide +kernel
theorem dX2_clause_4 : decode cX2_clause 4 = .ok (.invokevirtual 61, 3) := by decide +kernel
theorem dX2_clause_7 : decode cX2_clause 7 = .ok (.istore_n 1, 1) := by decide +kernel
theorem dX2_clause_8 : decode cX2_clause 8 = .ok (.iload_n 1, 1) := by decide +kernel
theorem dX2_clause_9 : decode cX2_clause 9 = .ok (.bipush 115, 2) := by decide +kernel
theorem dX2_clause_11 : decode cX2_clause 11 = .ok (.if_icmp .ne 47, 3) := by decide +kernel
theorem dX2_clause_58 : decode cX2_clause 58 = .ok (.iload_n 1, 1) := by decide +kernel
theorem dX2_clause_59 : decode cX2_clause 59 = .ok (.bipush 98, 2) := by decide +kernel
theorem dX2_clause_61 : decode cX2_clause 61 = .ok (.if_icmp .ne 86, 3) := by decide +kernel
theorem dX2_clause_147 : decode cX2_clause 147 = .ok (.iload_n 1, 1) := by decide +kernel
theorem dX2_clause_148 : decode cX2_clause 148 = .ok (.bipush 112, 2) := by decide +kernel
theorem dX2_clause_150 : decode cX2_clause 150 = .ok (.if_icmp .ne 85, 3) := by decide +kernel
theorem dX2_clause_235 : decode cX2_clause 235 = .ok (.iconst 0, 1) := by decide +kernel
theorem dX2_clause_236 : decode cX2_clause 236 = .ok (.ireturn, 1) := by decide +kernel
theorem dX3_init_0 : decode cX3_init 0 = .ok (.aload_n 0, 1) := by decide +kernel
theorem dX3_init_1 : decode cX3_init 1 = .ok (.invokespecial 1, 3) := by decide +kernel
theorem dX3_init_4 : decode cX3_init 4 = .ok (.return_, 1) := by decide +kernel
theorem dX5_init_0 : decode cX5_init 0 = .ok (.aload_n 0, 1) := by decide +kernel
theorem dX5_init_1 : decode cX5_init 1 = .ok (.invokespecial 3, 3) := by decide +kernel
theorem dX5_init_4 : decode cX5_init 4 = .ok (.aload_n 0, 1) := by decide +kernel
theorem dX5_init_5 : decode cX5_init 5 = .ok (.sipush 241, 3) := by decide +kernel
theorem dX5_init_8 : decode cX5_init 8 = .ok (.newarray .int, 2) := by decide +kernel
theorem dX5_init_10 : decode cX5_init 10 = .ok (.putfield 9, 3) := by decide +kernel
theorem dX5_init_13 : decode cX5_init 13 = .ok (.return_, 1) := by decide +kernel
theorem dX5_read_0 : decode cX5_read 0 = .ok (.aload_n 0, 1) := by decide +kernel
theorem dX5_read_1 : decode cX5_read 1 = .ok (.aload_n 1, 1) := by decide +kernel
theorem dX5_read_2 : decode cX5_read 2 = .ok (.putfield 15, 3) := by decide +kernel
theorem dX5_read_5 : decode cX5_read 5 = .ok (.aload_n 0, 1) := by decide +kernel
theorem dX5_read_6 : decode cX5_read 6 = .ok (.getfield 15, 3) := by decide +kernel
theorem dX5_read_9 : decode cX5_read 9 = .ok (.iconst 0, 1) := by decide +kernel
theorem dX5_read_10 : decode cX5_read 10 = .ok (.putfield 19, 3) := by decide +kernel
theorem dX5_read_13 : decode cX5_read 13 = .ok (.aload_n 0, 1) := by decide +kernel
theorem dX5_read_14 : decode cX5_read 14 = .ok (.iconst 0, 1) := by decide +kernel
theorem dX5_read_15 : decode cX5_read 15 = .ok (.putfield 25, 3) := by decide +kernel
theorem dX5_read_18 : decode cX5_read 18 = .ok (.aload_n 0, 1) := by decide +kernel
theorem dX5_read_19 : decode cX5_read 19 = .ok (.invokevirtual 28, 3) := by decide +kernel
theorem dX5_read_22 : decode cX5_read 22 = .ok (.istore_n 2, 1) := by decide +kernel
theorem dX5_read_23 : decode cX5_read 23 = .ok (.iconst 0, 1) := by decide +kernel
theorem dX5_read_24 : decode cX5_read 24 = .ok (.istore_n 3, 1) := by decide +kernel
theorem dX5_read_25 : decode cX5_read 25 = .ok (.iload_n 3, 1) := by decide +kernel
theorem dX5_read_26 : decode cX5_read 26 = .ok (.aload_n 0, 1) := by decide +kernel
theorem dX5_read_27 : decode cX5_read 27 = .ok (.getfield 15, 3) := by decide +kernel
theorem dX5_read_30 : decode cX5_read 30 = .ok (.getfield 32, 3) := by decide +kernel
theorem dX5_read_33 : decode cX5_read 33 = .ok (.if_icmp .ge 30, 3) := by decide +kernel
theorem dX5_read_63 : decode cX5_read 63 = .ok (.iload_n 2, 1) := by decide +kernel
theorem dX5_read_64 : decode cX5_read 64 = .ok (.ifCond .eq 17, 3) := by decide +kernel
theorem dX5_read_81 : decode cX5_read 81 = .ok (.aload_n 0, 1) := by decide +kernel
theorem dX5_read_82 : decode cX5_read 82 = .ok (.getfield 15, 3) := by decide +kernel
theorem dX5_read_85 : decode cX5_read 85 = .ok (.getfield 19, 3) := by decide +kernel
theorem dX5_read_88 : decode cX5_read 88 = .ok (.ireturn, 1) := by decide +kernel
theorem dX5_clause_0 : decode cX5_clause 0 = .ok (.aload_n 0, 1) := by decide +kernel
theorem dX5_clause_1 : decode cX5_clause 1 = .ok (.getfield 15, 3) := by decide +kernel
theorem dX5_clause_4 : decode cX5_clause 4 = .ok (.bipush 121, 2) := by decide +kernel
theorem dX5_clause_6 : decode cX5_clause 6 = .ok (.invokevirtual 35, 3) := by decide +kernel
theorem dX5_clause_9 : decode cX5_clause 9 = .ok (.ifCond .eq 15, 3) := by decide +kernel
theorem dX5_clause_24 : decode cX5_clause 24 = .ok (.iconst 0, 1) := by decide +kernel
theorem dX5_clause_25 : decode cX5_clause 25 = .ok (.ireturn, 1) := by decide +kernel
theorem dX6_init_0 : decode cX6_init 0 = .ok (.aload_n 0, 1) := by decide +kernel
theorem dX6_init_1 : decode cX6_init 1 = .ok (.invokespecial 3, 3) := by decide +kernel
theorem dX6_init_4 : decode cX6_init 4 = .ok (.aload_n 0, 1) := by decide +kernel
theorem dX6_init_5 : decode cX6_init 5 = .ok (.bipush 10, 2) := by decide +kernel
theorem dX6_init_7 : decode cX6_init 7 = .ok (.newarray .long, 2) := by decide +kernel
theorem dX6_init_9 : decode cX6_init 9 = .ok (.putfield 9, 3) := by decide +kernel
theorem dX6_init_12 : decode cX6_init 12 = .ok (.aload_n 0, 1) := by decide +kernel
theorem dX6_init_13 : decode cX6_init 13 = .ok (.bipush 10, 2) := by decide +kernel
theorem dX6_init_15 : decode cX6_init 15 = .ok (.newarray .int, 2) := by decide +kernel
theorem dX6_init_17 : decode cX6_init 17 = .ok (.putfield 15, 3) := by decide +kernel
theorem dX6_init_20 : decode cX6_init 20 = .ok (.aload_n 0, 1) := by decide +kernel
theorem dX6_init_21 : decode cX6_init 21 = .ok (.bipush 10, 2) := by decide +kernel
theorem dX6_init_23 : decode cX6_init 23 = .ok (.newarray .int, 2) := by decide +kernel
theorem dX6_init_25 : decode cX6_init 25 = .ok (.putfield 19, 3) := by decide +kernel
theorem dX6_init_28 : decode cX6_init 28 = .ok (.aload_n 0, 1) := by decide +kernel
theorem dX6_init_29 : decode cX6_init 29 = .ok (.bipush 45, 2) := by decide +kernel
theorem dX6_init_31 : decode cX6_init 31 = .ok (.newarray .int, 2) := by decide +kernel
theorem dX6_init_33 : decode cX6_init 33 = .ok (.putfield 22, 3) := by decide +kernel
theorem dX6_init_36 : decode cX6_init 36 = .ok (.aload_n 0, 1) := by decide +kernel
theorem dX6_init_37 : decode cX6_init 37 = .ok (.aload_n 1, 1) := by decide +kernel
theorem dX6_init_38 : decode cX6_init 38 = .ok (.putfield 25, 3) := by decide +kernel
theorem dX6_init_41 : decode cX6_init 41 = .ok (.aload_n 0, 1) := by decide +kernel
theorem dX6_init_42 : decode cX6_init 42 = .ok (.aload_n 2, 1) := by decide +kernel
theorem dX6_init_43 : decode cX6_init 43 = .ok (.putfield 29, 3) := by decide +kernel
theorem dX6_init_46 : decode cX6_init 46 = .ok (.aload_n 0, 1) := by decide +kernel
theorem dX6_init_47 : decode cX6_init 47 = .ok (.aload_n 3, 1) := by decide +kernel
theorem dX6_init_48 : decode cX6_init 48 = .ok (.putfield 33, 3) := by decide +kernel
theorem dX6_init_51 : decode cX6_init 51 = .ok (.return_, 1) := by decide +kernel
theorem dX7_init_0 : decode cX7_init 0 = .ok (.aload_n 0, 1) := by decide +kernel
theorem dX7_init_1 : decode cX7_init 1 = .ok (.invokespecial 3, 3) := by decide +kernel
theorem dX7_init_4 : decode cX7_init 4 = .ok (.aload_n 0, 1) := by decide +kernel
theorem dX7_init_5 : decode cX7_init 5 = .ok (.bipush 6, 2) := by decide +kernel
theorem dX7_init_7 : decode cX7_init 7 = .ok (.newarray .int, 2) := by decide +kernel
theorem dX7_init_9 : decode cX7_init 9 = .ok (.putfield 9, 3) := by decide +kernel
theorem dX7_init_12 : decode cX7_init 12 = .ok (.aload_n 0, 1) := by decide +kernel
theorem dX7_init_13 : decode cX7_init 13 = .ok (.iconst 5, 1) := by decide +kernel
theorem dX7_init_14 : decode cX7_init 14 = .ok (.newarray .int, 2) := by decide +kernel
theorem dX7_init_16 : decode cX7_init 16 = .ok (.putfield 15, 3) := by decide +kernel
theorem dX7_init_19 : decode cX7_init 19 = .ok (.aload_n 0, 1) := by decide +kernel
theorem dX7_init_20 : decode cX7_init 20 = .ok (.bipush 80, 2) := by decide +kernel
theorem dX7_init_22 : decode cX7_init 22 = .ok (.newarray .int, 2) := by decide +kernel
theorem dX7_init_24 : decode cX7_init 24 = .ok (.putfield 18, 3) := by decide +kernel
theorem dX7_init_27 : decode cX7_init 27 = .ok (.aload_n 0, 1) := by decide +kernel
theorem dX7_init_28 : decode cX7_init 28 = .ok (.iconst (-1), 1) := by decide +kernel
theorem dX7_init_29 : decode cX7_init 29 = .ok (.putfield 21, 3) := by decide +kernel
theorem dX7_init_32 : decode cX7_init 32 = .ok (.return_, 1) := by decide +kernel
theorem dX8_init_0 : decode cX8_init 0 = .ok (.aload_n 0, 1) := by decide +kernel
theorem dX8_init_1 : decode cX8_init 1 = .ok (.invokespecial 3, 3) := by decide +kernel
theorem dX8_init_4 : decode cX8_init 4 = .ok (.aload_n 0, 1) := by decide +kernel
theorem dX8_init_5 : decode cX8_init 5 = .ok (.bipush 10, 2) := by decide +kernel
theorem dX8_init_7 : decode cX8_init 7 = .ok (.newarray .int, 2) := by decide +kernel
theorem dX8_init_9 : decode cX8_init 9 = .ok (.putfield 9, 3) := by decide +kernel
theorem dX8_init_12 : decode cX8_init 12 = .ok (.aload_n 0, 1) := by decide +kernel
theorem dX8_init_13 : decode cX8_init 13 = .ok (.bipush 10, 2) := by decide +kernel
theorem dX8_init_15 : decode cX8_init 15 = .ok (.newarray .int, 2) := by decide +kernel
theorem dX8_init_17 : decode cX8_init 17 = .ok (.putfield 15, 3) := by decide +kernel
theorem dX8_init_20 : decode cX8_init 20 = .ok (.aload_n 0, 1) := by decide +kernel
theorem dX8_init_21 : decode cX8_init 21 = .ok (.bipush 6, 2) := by decide +kernel
theorem dX8_init_23 : decode cX8_init 23 = .ok (.newarray .int, 2) := by decide +kernel
theorem dX8_init_25 : decode cX8_init 25 = .ok (.putfield 18, 3) := by decide +kernel
theorem dX8_init_28 : decode cX8_init 28 = .ok (.aload_n 0, 1) := by decide +kernel
theorem dX8_init_29 : decode cX8_init 29 = .ok (.bipush 32, 2) := by decide +kernel
theorem dX8_init_31 : decode cX8_init 31 = .ok (.newarray .int, 2) := by decide +kernel
theorem dX8_init_33 : decode cX8_init 33 = .ok (.putfield 21, 3) := by decide +kernel
theorem dX8_init_36 : decode cX8_init 36 = .ok (.aload_n 0, 1) := by decide +kernel
theorem dX8_init_37 : decode cX8_init 37 = .ok (.aload_n 1, 1) := by decide +kernel
theorem dX8_init_38 : decode cX8_init 38 = .ok (.putfield 24, 3) := by decide +kernel
theorem dX8_init_41 : decode cX8_init 41 = .ok (.aload_n 0, 1) := by decide +kernel
theorem dX8_init_42 : decode cX8_init 42 = .ok (.aload_n 2, 1) := by decide +kernel
theorem dX8_init_43 : decode cX8_init 43 = .ok (.putfield 28, 3) := by decide +kernel
theorem dX8_init_46 : decode cX8_init 46 = .ok (.return_, 1) := by decide +kernel
theorem dX9_init_0 : decode cX9_init 0 = .ok (.aload_n 0, 1) := by decide +kernel
theorem dX9_init_1 : decode cX9_init 1 = .ok (.invokespecial 3, 3) := by decide +kernel
theorem dX9_init_4 : decode cX9_init 4 = .ok (.aload_n 0, 1) := by decide +kernel
theorem dX9_init_5 : decode cX9_init 5 = .ok (.sipush 260, 3) := by decide +kernel
theorem dX9_init_8 : decode cX9_init 8 = .ok (.newarray .int, 2) := by decide +kernel
theorem dX9_init_10 : decode cX9_init 10 = .ok (.putfield 9, 3) := by decide +kernel
theorem dX9_init_13 : decode cX9_init 13 = .ok (.return_, 1) := by decide +kernel
theorem dX9_peek_0 : decode cX9_peek 0 = .ok (.aload_n 0, 1) := by decide +kernel
theorem dX9_peek_1 : decode cX9_peek 1 = .ok (.getfield 19, 3) := by decide +kernel
theorem dX9_peek_4 : decode cX9_peek 4 = .ok (.aload_n 0, 1) := by decide +kernel
theorem dX9_peek_5 : decode cX9_peek 5 = .ok (.getfield 15, 3) := by decide +kernel
theorem dX9_peek_8 : decode cX9_peek 8 = .ok (.if_icmp .ge 30, 3) := by decide +kernel
theorem dX9_peek_38 : decode cX9_peek 38 = .ok (.aload_n 0, 1) := by decide +kernel
theorem dX9_peek_39 : decode cX9_peek 39 = .ok (.getfield 19, 3) := by decide +kernel
theorem dX9_peek_42 : decode cX9_peek 42 = .ok (.aload_n 0, 1) := by decide +kernel
theorem dX9_peek_43 : decode cX9_peek 43 = .ok (.getfield 15, 3) := by decide +kernel
theorem dX9_peek_46 : decode cX9_peek 46 = .ok (.if_icmp .ge 15, 3) := by decide +kernel
theorem dX9_peek_61 : decode cX9_peek 61 = .ok (.iconst 0, 1) := by decide +kernel
theorem dX9_peek_62 : decode cX9_peek 62 = .ok (.ireturn, 1) := by decide +kernel
theorem dX9_takes_0 : decode cX9_takes 0 = .ok (.aload_n 0, 1) := by decide +kernel
theorem dX9_takes_1 : decode cX9_takes 1 = .ok (.invokevirtual 22, 3) := by decide +kernel
theorem dX9_takes_4 : decode cX9_takes 4 = .ok (.iload_n 1, 1) := by decide +kernel
theorem dX9_takes_5 : decode cX9_takes 5 = .ok (.if_icmp .eq 5, 3) := by decide +kernel
theorem dX9_takes_8 : decode cX9_takes 8 = .ok (.iconst 0, 1) := by decide +kernel
theorem dX9_takes_9 : decode cX9_takes 9 = .ok (.ireturn, 1) := by decide +kernel
theorem dX10_init_0 : decode cX10_init 0 = .ok (.aload_n 0, 1) := by decide +kernel
theorem dX10_init_1 : decode cX10_init 1 = .ok (.invokespecial 1, 3) := by decide +kernel
theorem dX10_init_4 : decode cX10_init 4 = .ok (.aload_n 0, 1) := by decide +kernel
theorem dX10_init_5 : decode cX10_init 5 = .ok (.new 7, 3) := by decide +kernel
theorem dX10_init_8 : decode cX10_init 8 = .ok (.dup, 1) := by decide +kernel
theorem dX10_init_9 : decode cX10_init 9 = .ok (.invokespecial 9, 3) := by decide +kernel
theorem dX10_init_12 : decode cX10_init 12 = .ok (.putfield 10, 3) := by decide +kernel
theorem dX10_init_15 : decode cX10_init 15 = .ok (.aload_n 0, 1) := by decide +kernel
theorem dX10_init_16 : decode cX10_init 16 = .ok (.new 16, 3) := by decide +kernel
theorem dX10_init_19 : decode cX10_init 19 = .ok (.dup, 1) := by decide +kernel
theorem dX10_init_20 : decode cX10_init 20 = .ok (.invokespecial 18, 3) := by decide +kernel
theorem dX10_init_23 : decode cX10_init 23 = .ok (.putfield 19, 3) := by decide +kernel
theorem dX10_init_26 : decode cX10_init 26 = .ok (.aload_n 0, 1) := by decide +kernel
theorem dX10_init_27 : decode cX10_init 27 = .ok (.new 23, 3) := by decide +kernel
theorem dX10_init_30 : decode cX10_init 30 = .ok (.dup, 1) := by decide +kernel
theorem dX10_init_31 : decode cX10_init 31 = .ok (.invokespecial 25, 3) := by decide +kernel
theorem dX10_init_34 : decode cX10_init 34 = .ok (.putfield 26, 3) := by decide +kernel
theorem dX10_init_37 : decode cX10_init 37 = .ok (.aload_n 0, 1) := by decide +kernel
theorem dX10_init_38 : decode cX10_init 38 = .ok (.new 30, 3) := by decide +kernel
theorem dX10_init_41 : decode cX10_init 41 = .ok (.dup, 1) := by decide +kernel
theorem dX10_init_42 : decode cX10_init 42 = .ok (.invokespecial 32, 3) := by decide +kernel
theorem dX10_init_45 : decode cX10_init 45 = .ok (.putfield 33, 3) := by decide +kernel
theorem dX10_init_48 : decode cX10_init 48 = .ok (.aload_n 0, 1) := by decide +kernel
theorem dX10_init_49 : decode cX10_init 49 = .ok (.new 30, 3) := by decide +kernel
theorem dX10_init_52 : decode cX10_init 52 = .ok (.dup, 1) := by decide +kernel
theorem dX10_init_53 : decode cX10_init 53 = .ok (.invokespecial 32, 3) := by decide +kernel
theorem dX10_init_56 : decode cX10_init 56 = .ok (.putfield 37, 3) := by decide +kernel
theorem dX10_init_59 : decode cX10_init 59 = .ok (.aload_n 0, 1) := by decide +kernel
theorem dX10_init_60 : decode cX10_init 60 = .ok (.iconst 4, 1) := by decide +kernel
theorem dX10_init_61 : decode cX10_init 61 = .ok (.anewarray 40, 3) := by decide +kernel
theorem dX10_init_64 : decode cX10_init 64 = .ok (.putfield 42, 3) := by decide +kernel
theorem dX10_init_67 : decode cX10_init 67 = .ok (.aload_n 0, 1) := by decide +kernel
theorem dX10_init_68 : decode cX10_init 68 = .ok (.new 46, 3) := by decide +kernel
theorem dX10_init_71 : decode cX10_init 71 = .ok (.dup, 1) := by decide +kernel
theorem dX10_init_72 : decode cX10_init 72 = .ok (.invokespecial 48, 3) := by decide +kernel
theorem dX10_init_75 : decode cX10_init 75 = .ok (.putfield 49, 3) := by decide +kernel
theorem dX10_init_78 : decode cX10_init 78 = .ok (.aload_n 0, 1) := by decide +kernel
theorem dX10_init_79 : decode cX10_init 79 = .ok (.new 46, 3) := by decide +kernel
theorem dX10_init_82 : decode cX10_init 82 = .ok (.dup, 1) := by decide +kernel
theorem dX10_init_83 : decode cX10_init 83 = .ok (.invokespecial 48, 3) := by decide +kernel
theorem dX10_init_86 : decode cX10_init 86 = .ok (.putfield 53, 3) := by decide +kernel
theorem dX10_init_89 : decode cX10_init 89 = .ok (.aload_n 0, 1) := by decide +kernel
theorem dX10_init_90 : decode cX10_init 90 = .ok (.new 56, 3) := by decide +kernel
theorem dX10_init_93 : decode cX10_init 93 = .ok (.dup, 1) := by decide +kernel
theorem dX10_init_94 : decode cX10_init 94 = .ok (.invokespecial 58, 3) := by decide +kernel
theorem dX10_init_97 : decode cX10_init 97 = .ok (.putfield 59, 3) := by decide +kernel
theorem dX10_init_100 : decode cX10_init 100 = .ok (.aload_n 0, 1) := by decide +kernel
theorem dX10_init_101 : decode cX10_init 101 = .ok (.new 63, 3) := by decide +kernel
theorem dX10_init_104 : decode cX10_init 104 = .ok (.dup, 1) := by decide +kernel
theorem dX10_init_105 : decode cX10_init 105 = .ok (.aload_n 0, 1) := by decide +kernel
theorem dX10_init_106 : decode cX10_init 106 = .ok (.getfield 37, 3) := by decide +kernel
theorem dX10_init_109 : decode cX10_init 109 = .ok (.aload_n 0, 1) := by decide +kernel
theorem dX10_init_110 : decode cX10_init 110 = .ok (.getfield 49, 3) := by decide +kernel
theorem dX10_init_113 : decode cX10_init 113 = .ok (.invokespecial 65, 3) := by decide +kernel
theorem dX10_init_116 : decode cX10_init 116 = .ok (.putfield 68, 3) := by decide +kernel
theorem dX10_init_119 : decode cX10_init 119 = .ok (.aload_n 0, 1) := by decide +kernel
theorem dX10_init_120 : decode cX10_init 120 = .ok (.new 72, 3) := by decide +kernel
theorem dX10_init_123 : decode cX10_init 123 = .ok (.dup, 1) := by decide +kernel
theorem dX10_init_124 : decode cX10_init 124 = .ok (.aload_n 0, 1) := by decide +kernel
theorem dX10_init_125 : decode cX10_init 125 = .ok (.getfield 37, 3) := by decide +kernel
theorem dX10_init_128 : decode cX10_init 128 = .ok (.aload_n 0, 1) := by decide +kernel
theorem dX10_init_129 : decode cX10_init 129 = .ok (.getfield 49, 3) := by decide +kernel
theorem dX10_init_132 : decode cX10_init 132 = .ok (.aload_n 0, 1) := by decide +kernel
theorem dX10_init_133 : decode cX10_init 133 = .ok (.getfield 68, 3) := by decide +kernel
theorem dX10_init_136 : decode cX10_init 136 = .ok (.invokespecial 74, 3) := by decide +kernel
theorem dX10_init_139 : decode cX10_init 139 = .ok (.putfield 77, 3) := by decide +kernel
theorem dX10_init_142 : decode cX10_init 142 = .ok (.aload_n 0, 1) := by decide +kernel
theorem dX10_init_143 : decode cX10_init 143 = .ok (.new 81, 3) := by decide +kernel
theorem dX10_init_146 : decode cX10_init 146 = .ok (.dup, 1) := by decide +kernel
theorem dX10_init_147 : decode cX10_init 147 = .ok (.invokespecial 83, 3) := by decide +kernel
theorem dX10_init_150 : decode cX10_init 150 = .ok (.putfield 84, 3) := by decide +kernel
theorem dX10_init_153 : decode cX10_init 153 = .ok (.aload_n 0, 1) := by decide +kernel
theorem dX10_init_154 : decode cX10_init 154 = .ok (.iconst 5, 1) := by decide +kernel
theorem dX10_init_155 : decode cX10_init 155 = .ok (.newarray .int, 2) := by decide +kernel
theorem dX10_init_157 : decode cX10_init 157 = .ok (.putfield 88, 3) := by decide +kernel
theorem dX10_init_160 : decode cX10_init 160 = .ok (.aload_n 0, 1) := by decide +kernel
theorem dX10_init_161 : decode cX10_init 161 = .ok (.iconst (-1), 1) := by decide +kernel
theorem dX10_init_162 : decode cX10_init 162 = .ok (.putfield 92, 3) := by decide +kernel
theorem dX10_init_165 : decode cX10_init 165 = .ok (.return_, 1) := by decide +kernel
theorem dX10_end_0 : decode cX10_end 0 = .ok (.iload_n 1, 1) := by decide +kernel
theorem dX10_end_1 : decode cX10_end 1 = .ok (.ifCond .lt 14, 3) := by decide +kernel
theorem dX10_end_4 : decode cX10_end 4 = .ok (.iload_n 1, 1) := by decide +kernel
theorem dX10_end_5 : decode cX10_end 5 = .ok (.aload_n 0, 1) := by decide +kernel
theorem dX10_end_6 : decode cX10_end 6 = .ok (.getfield 10, 3) := by decide +kernel
theorem dX10_end_9 : decode cX10_end 9 = .ok (.getfield 96, 3) := by decide +kernel
theorem dX10_end_12 : decode cX10_end 12 = .ok (.if_icmp .le 5, 3) := by decide +kernel
theorem dX10_end_15 : decode cX10_end 15 = .ok (.iconst 0, 1) := by decide +kernel
theorem dX10_end_16 : decode cX10_end 16 = .ok (.ireturn, 1) := by decide +kernel
theorem dX10_end_17 : decode cX10_end 17 = .ok (.aload_n 0, 1) := by decide +kernel
theorem dX10_end_18 : decode cX10_end 18 = .ok (.getfield 10, 3) := by decide +kernel
theorem dX10_end_21 : decode cX10_end 21 = .ok (.iload_n 1, 1) := by decide +kernel
theorem dX10_end_22 : decode cX10_end 22 = .ok (.putfield 96, 3) := by decide +kernel
theorem dX10_end_25 : decode cX10_end 25 = .ok (.iconst 1, 1) := by decide +kernel
theorem dX10_end_26 : decode cX10_end 26 = .ok (.ireturn, 1) := by decide +kernel
theorem dX10_fault_0 : decode cX10_fault 0 = .ok (.iload_n 1, 1) := by decide +kernel
theorem dX10_fault_1 : decode cX10_fault 1 = .ok (.ifCond .ne 19, 3) := by decide +kernel
theorem dX10_fault_4 : decode cX10_fault 4 = .ok (.aload_n 0, 1) := by decide +kernel
theorem dX10_fault_5 : decode cX10_fault 5 = .ok (.getfield 19, 3) := by decide +kernel
theorem dX10_fault_8 : decode cX10_fault 8 = .ok (.aload_n 0, 1) := by decide +kernel
theorem dX10_fault_9 : decode cX10_fault 9 = .ok (.getfield 10, 3) := by decide +kernel
theorem dX10_fault_12 : decode cX10_fault 12 = .ok (.aload_n 0, 1) := by decide +kernel
theorem dX10_fault_13 : decode cX10_fault 13 = .ok (.getfield 33, 3) := by decide +kernel
theorem dX10_fault_16 : decode cX10_fault 16 = .ok (.invokevirtual 103, 3) := by decide +kernel
theorem dX10_fault_19 : decode cX10_fault 19 = .ok (.ireturn, 1) := by decide +kernel
theorem dX10_fault_20 : decode cX10_fault 20 = .ok (.iload_n 1, 1) := by decide +kernel
theorem dX10_fault_21 : decode cX10_fault 21 = .ok (.iconst 1, 1) := by decide +kernel
theorem dX10_fault_22 : decode cX10_fault 22 = .ok (.if_icmp .ne 15, 3) := by decide +kernel
theorem dX10_fault_25 : decode cX10_fault 25 = .ok (.aload_n 0, 1) := by decide +kernel
theorem dX10_fault_26 : decode cX10_fault 26 = .ok (.getfield 26, 3) := by decide +kernel
theorem dX10_fault_29 : decode cX10_fault 29 = .ok (.aload_n 0, 1) := by decide +kernel
theorem dX10_fault_30 : decode cX10_fault 30 = .ok (.getfield 10, 3) := by decide +kernel
theorem dX10_fault_33 : decode cX10_fault 33 = .ok (.invokevirtual 107, 3) := by decide +kernel
theorem dX10_fault_36 : decode cX10_fault 36 = .ok (.ireturn, 1) := by decide +kernel
theorem dX10_fault_37 : decode cX10_fault 37 = .ok (.bipush (-2), 2) := by decide +kernel
theorem dX10_fault_39 : decode cX10_fault 39 = .ok (.ireturn, 1) := by decide +kernel
theorem dX10_text_0 : decode cX10_text 0 = .ok (.iload_n 1, 1) := by decide +kernel
theorem dX10_text_1 : decode cX10_text 1 = .ok (.ifCond .ne 27, 3) := by decide +kernel
theorem dX10_text_4 : decode cX10_text 4 = .ok (.aload_n 0, 1) := by decide +kernel
theorem dX10_text_5 : decode cX10_text 5 = .ok (.getfield 19, 3) := by decide +kernel
theorem dX10_text_8 : decode cX10_text 8 = .ok (.aload_n 0, 1) := by decide +kernel
theorem dX10_text_9 : decode cX10_text 9 = .ok (.getfield 10, 3) := by decide +kernel
theorem dX10_text_12 : decode cX10_text 12 = .ok (.aload_n 0, 1) := by decide +kernel
theorem dX10_text_13 : decode cX10_text 13 = .ok (.getfield 33, 3) := by decide +kernel
theorem dX10_text_16 : decode cX10_text 16 = .ok (.invokevirtual 103, 3) := by decide +kernel
theorem dX10_text_19 : decode cX10_text 19 = .ok (.iconst (-1), 1) := by decide +kernel
theorem dX10_text_20 : decode cX10_text 20 = .ok (.if_icmp .ne 8, 3) := by decide +kernel
theorem dX10_text_28 : decode cX10_text 28 = .ok (.iload_n 1, 1) := by decide +kernel
theorem dX10_text_29 : decode cX10_text 29 = .ok (.iconst 1, 1) := by decide +kernel
theorem dX10_text_30 : decode cX10_text 30 = .ok (.if_icmp .ne 31, 3) := by decide +kernel
theorem dX10_text_33 : decode cX10_text 33 = .ok (.aload_n 0, 1) := by decide +kernel
theorem dX10_text_34 : decode cX10_text 34 = .ok (.getfield 114, 3) := by decide +kernel
theorem dX10_text_37 : decode cX10_text 37 = .ok (.iconst 4, 1) := by decide +kernel
theorem dX10_text_38 : decode cX10_text 38 = .ok (.if_icmp .ge 23, 3) := by decide +kernel
theorem dX10_text_41 : decode cX10_text 41 = .ok (.aload_n 0, 1) := by decide +kernel
theorem dX10_text_42 : decode cX10_text 42 = .ok (.getfield 26, 3) := by decide +kernel
theorem dX10_text_45 : decode cX10_text 45 = .ok (.aload_n 0, 1) := by decide +kernel
theorem dX10_text_46 : decode cX10_text 46 = .ok (.getfield 10, 3) := by decide +kernel
theorem dX10_text_49 : decode cX10_text 49 = .ok (.invokevirtual 107, 3) := by decide +kernel
theorem dX10_text_52 : decode cX10_text 52 = .ok (.iconst (-1), 1) := by decide +kernel
theorem dX10_text_53 : decode cX10_text 53 = .ok (.if_icmp .ne 8, 3) := by decide +kernel
theorem dX10_text_61 : decode cX10_text 61 = .ok (.iconst (-1), 1) := by decide +kernel
theorem dX10_text_62 : decode cX10_text 62 = .ok (.ireturn, 1) := by decide +kernel
theorem dX10_rule_0 : decode cX10_rule 0 = .ok (.aload_n 0, 1) := by decide +kernel
theorem dX10_rule_1 : decode cX10_rule 1 = .ok (.invokevirtual 141, 3) := by decide +kernel
theorem dX10_rule_4 : decode cX10_rule 4 = .ok (.ifCond .ne 5, 3) := by decide +kernel
theorem dX10_rule_7 : decode cX10_rule 7 = .ok (.iconst (-1), 1) := by decide +kernel
theorem dX10_rule_8 : decode cX10_rule 8 = .ok (.ireturn, 1) := by decide +kernel
theorem dX10_painter_0 : decode cX10_painter 0 = .ok (.aload_n 0, 1) := by decide +kernel
theorem dX10_painter_1 : decode cX10_painter 1 = .ok (.iload_n 1, 1) := by decide +kernel
theorem dX10_painter_2 : decode cX10_painter 2 = .ok (.invokevirtual 184, 3) := by decide +kernel
theorem dX10_painter_5 : decode cX10_painter 5 = .ok (.ifCond .ne 5, 3) := by decide +kernel
theorem dX10_painter_8 : decode cX10_painter 8 = .ok (.iconst (-1), 1) := by decide +kernel
theorem dX10_painter_9 : decode cX10_painter 9 = .ok (.ireturn, 1) := by decide +kernel
theorem dX10_law_0 : decode cX10_law 0 = .ok (.iload_n 1, 1) := by decide +kernel
theorem dX10_law_1 : decode cX10_law 1 = .ok (.iconst (-1), 1) := by decide +kernel
theorem dX10_law_2 : decode cX10_law 2 = .ok (.if_icmp .lt 11, 3) := by decide +kernel
theorem dX10_law_5 : decode cX10_law 5 = .ok (.iload_n 1, 1) := by decide +kernel
theorem dX10_law_6 : decode cX10_law 6 = .ok (.aload_n 0, 1) := by decide +kernel
theorem dX10_law_7 : decode cX10_law 7 = .ok (.getfield 114, 3) := by decide +kernel
theorem dX10_law_10 : decode cX10_law 10 = .ok (.if_icmp .lt 5, 3) := by decide +kernel
theorem dX10_law_13 : decode cX10_law 13 = .ok (.iconst 0, 1) := by decide +kernel
theorem dX10_law_14 : decode cX10_law 14 = .ok (.ireturn, 1) := by decide +kernel
theorem dX10_law_15 : decode cX10_law 15 = .ok (.aload_n 0, 1) := by decide +kernel
theorem dX10_law_16 : decode cX10_law 16 = .ok (.iload_n 1, 1) := by decide +kernel
theorem dX10_law_17 : decode cX10_law 17 = .ok (.putfield 92, 3) := by decide +kernel
theorem dX10_law_20 : decode cX10_law 20 = .ok (.aload_n 0, 1) := by decide +kernel
theorem dX10_law_21 : decode cX10_law 21 = .ok (.getfield 68, 3) := by decide +kernel
theorem dX10_law_24 : decode cX10_law 24 = .ok (.iload_n 1, 1) := by decide +kernel
theorem dX10_law_25 : decode cX10_law 25 = .ok (.iconst (-1), 1) := by decide +kernel
theorem dX10_law_26 : decode cX10_law 26 = .ok (.if_icmp .ne 7, 3) := by decide +kernel
theorem dX10_law_29 : decode cX10_law 29 = .ok (.aconst_null, 1) := by decide +kernel
theorem dX10_law_30 : decode cX10_law 30 = .ok (.goto 9, 3) := by decide +kernel
theorem dX10_law_39 : decode cX10_law 39 = .ok (.putfield 199, 3) := by decide +kernel
theorem dX10_law_42 : decode cX10_law 42 = .ok (.iconst 1, 1) := by decide +kernel
theorem dX10_law_43 : decode cX10_law 43 = .ok (.ireturn, 1) := by decide +kernel
theorem dX10_flattery_0 : decode cX10_flattery 0 = .ok (.aload_n 0, 1) := by decide +kernel
theorem dX10_flattery_1 : decode cX10_flattery 1 = .ok (.iload_n 1, 1) := by decide +kernel
theorem dX10_flattery_2 : decode cX10_flattery 2 = .ok (.invokevirtual 184, 3) := by decide +kernel
theorem dX10_flattery_5 : decode cX10_flattery 5 = .ok (.ifCond .eq 11, 3) := by decide +kernel
theorem dX10_flattery_16 : decode cX10_flattery 16 = .ok (.iconst (-1), 1) := by decide +kernel
theorem dX10_flattery_17 : decode cX10_flattery 17 = .ok (.ireturn, 1) := by decide +kernel
theorem dX10_shown_0 : decode cX10_shown 0 = .ok (.aload_n 0, 1) := by decide +kernel
theorem dX10_shown_1 : decode cX10_shown 1 = .ok (.iload_n 1, 1) := by decide +kernel
theorem dX10_shown_2 : decode cX10_shown 2 = .ok (.invokevirtual 184, 3) := by decide +kernel
theorem dX10_shown_5 : decode cX10_shown 5 = .ok (.ifCond .eq 18, 3) := by decide +kernel
theorem dX10_shown_23 : decode cX10_shown 23 = .ok (.iconst (-1), 1) := by decide +kernel
theorem dX10_shown_24 : decode cX10_shown 24 = .ok (.ireturn, 1) := by decide +kernel
theorem dX10_paint_0 : decode cX10_paint 0 = .ok (.aload_n 0, 1) := by decide +kernel
theorem dX10_paint_1 : decode cX10_paint 1 = .ok (.iload_n 1, 1) := by decide +kernel
theorem dX10_paint_2 : decode cX10_paint 2 = .ok (.invokevirtual 184, 3) := by decide +kernel
theorem dX10_paint_5 : decode cX10_paint 5 = .ok (.ifCond .eq 11, 3) := by decide +kernel
theorem dX10_paint_16 : decode cX10_paint 16 = .ok (.aload_n 0, 1) := by decide +kernel
theorem dX10_paint_17 : decode cX10_paint 17 = .ok (.iconst 0, 1) := by decide +kernel
theorem dX10_paint_18 : decode cX10_paint 18 = .ok (.invokevirtual 213, 3) := by decide +kernel
theorem dX10_paint_21 : decode cX10_paint 21 = .ok (.ireturn, 1) := by decide +kernel
theorem dX10_pay_0 : decode cX10_pay 0 = .ok (.aload_n 0, 1) := by decide +kernel
theorem dX10_pay_1 : decode cX10_pay 1 = .ok (.iload_n 1, 1) := by decide +kernel
theorem dX10_pay_2 : decode cX10_pay 2 = .ok (.invokevirtual 154, 3) := by decide +kernel
theorem dX10_pay_5 : decode cX10_pay 5 = .ok (.ifCond .ne 9, 3) := by decide +kernel
theorem dX10_pay_8 : decode cX10_pay 8 = .ok (.aload_n 0, 1) := by decide +kernel
theorem dX10_pay_9 : decode cX10_pay 9 = .ok (.iconst 0, 1) := by decide +kernel
theorem dX10_pay_10 : decode cX10_pay 10 = .ok (.invokevirtual 213, 3) := by decide +kernel
theorem dX10_pay_13 : decode cX10_pay 13 = .ok (.ireturn, 1) := by decide +kernel
theorem dX10_threaten_0 : decode cX10_threaten 0 = .ok (.aload_n 0, 1) := by decide +kernel
theorem dX10_threaten_1 : decode cX10_threaten 1 = .ok (.iload_n 1, 1) := by decide +kernel
theorem dX10_threaten_2 : decode cX10_threaten 2 = .ok (.invokevirtual 184, 3) := by decide +kernel
theorem dX10_threaten_5 : decode cX10_threaten 5 = .ok (.ifCond .ne 9, 3) := by decide +kernel
theorem dX10_threaten_8 : decode cX10_threaten 8 = .ok (.aload_n 0, 1) := by decide +kernel
theorem dX10_threaten_9 : decode cX10_threaten 9 = .ok (.iconst 0, 1) := by decide +kernel
theorem dX10_threaten_10 : decode cX10_threaten 10 = .ok (.invokevirtual 213, 3) := by decide +kernel
theorem dX10_threaten_13 : decode cX10_threaten 13 = .ok (.ireturn, 1) := by decide +kernel
theorem dX10_letter_0 : decode cX10_letter 0 = .ok (.aload_n 0, 1) := by decide +kernel
theorem dX10_letter_1 : decode cX10_letter 1 = .ok (.iload_n 1, 1) := by decide +kernel
theorem dX10_letter_2 : decode cX10_letter 2 = .ok (.aload_n 0, 1) := by decide +kernel
theorem dX10_letter_3 : decode cX10_letter 3 = .ok (.getfield 49, 3) := by decide +kernel
theorem dX10_letter_6 : decode cX10_letter 6 = .ok (.getfield 174, 3) := by decide +kernel
theorem dX10_letter_9 : decode cX10_letter 9 = .ok (.iconst 2, 1) := by decide +kernel
theorem dX10_letter_10 : decode cX10_letter 10 = .ok (.invokevirtual 233, 3) := by decide +kernel
theorem dX10_letter_13 : decode cX10_letter 13 = .ok (.ifCond .ne 5, 3) := by decide +kernel
theorem dX10_letter_16 : decode cX10_letter 16 = .ok (.iconst (-1), 1) := by decide +kernel
theorem dX10_letter_17 : decode cX10_letter 17 = .ok (.ireturn, 1) := by decide +kernel
theorem dX10_shoe_0 : decode cX10_shoe 0 = .ok (.aload_n 0, 1) := by decide +kernel
theorem dX10_shoe_1 : decode cX10_shoe 1 = .ok (.iload_n 1, 1) := by decide +kernel
theorem dX10_shoe_2 : decode cX10_shoe 2 = .ok (.aload_n 0, 1) := by decide +kernel
theorem dX10_shoe_3 : decode cX10_shoe 3 = .ok (.getfield 49, 3) := by decide +kernel
theorem dX10_shoe_6 : decode cX10_shoe 6 = .ok (.getfield 181, 3) := by decide +kernel
theorem dX10_shoe_9 : decode cX10_shoe 9 = .ok (.iconst 1, 1) := by decide +kernel
theorem dX10_shoe_10 : decode cX10_shoe 10 = .ok (.invokevirtual 233, 3) := by decide +kernel
theorem dX10_shoe_13 : decode cX10_shoe 13 = .ok (.ifCond .ne 5, 3) := by decide +kernel
theorem dX10_shoe_16 : decode cX10_shoe 16 = .ok (.iconst (-1), 1) := by decide +kernel
theorem dX10_shoe_17 : decode cX10_shoe 17 = .ok (.ireturn, 1) := by decide +kernel
theorem dX10_paysToHear_0 : decode cX10_paysToHear 0 = .ok (.iconst (-1), 1) := by decide +kernel
theorem dX10_paysToHear_1 : decode cX10_paysToHear 1 = .ok (.istore 4, 2) := by decide +kernel
theorem dX10_paysToHear_3 : decode cX10_paysToHear 3 = .ok (.aload_n 0, 1) := by decide +kernel
theorem dX10_paysToHear_4 : decode cX10_paysToHear 4 = .ok (.iload_n 1, 1) := by decide +kernel
theorem dX10_paysToHear_5 : decode cX10_paysToHear 5 = .ok (.invokevirtual 154, 3) := by decide +kernel
theorem dX10_paysToHear_8 : decode cX10_paysToHear 8 = .ok (.ifCond .ne 9, 3) := by decide +kernel
theorem dX10_paysToHear_11 : decode cX10_paysToHear 11 = .ok (.iconst 0, 1) := by decide +kernel
theorem dX10_paysToHear_12 : decode cX10_paysToHear 12 = .ok (.istore 4, 2) := by decide +kernel
theorem dX10_paysToHear_14 : decode cX10_paysToHear 14 = .ok (.goto 32, 3) := by decide +kernel
theorem dX10_paysToHear_46 : decode cX10_paysToHear 46 = .ok (.iload 4, 2) := by decide +kernel
theorem dX10_paysToHear_48 : decode cX10_paysToHear 48 = .ok (.iconst (-1), 1) := by decide +kernel
theorem dX10_paysToHear_49 : decode cX10_paysToHear 49 = .ok (.if_icmp .eq 12, 3) := by decide +kernel
theorem dX10_paysToHear_52 : decode cX10_paysToHear 52 = .ok (.aload_n 0, 1) := by decide +kernel
theorem dX10_paysToHear_53 : decode cX10_paysToHear 53 = .ok (.iload 4, 2) := by decide +kernel
theorem dX10_paysToHear_55 : decode cX10_paysToHear 55 = .ok (.invokevirtual 213, 3) := by decide +kernel
theorem dX10_paysToHear_58 : decode cX10_paysToHear 58 = .ok (.pop, 1) := by decide +kernel
theorem dX10_paysToHear_59 : decode cX10_paysToHear 59 = .ok (.iconst 0, 1) := by decide +kernel
theorem dX10_paysToHear_60 : decode cX10_paysToHear 60 = .ok (.ireturn, 1) := by decide +kernel
theorem dX10_wed_0 : decode cX10_wed 0 = .ok (.aload_n 0, 1) := by decide +kernel
theorem dX10_wed_1 : decode cX10_wed 1 = .ok (.iload_n 1, 1) := by decide +kernel
theorem dX10_wed_2 : decode cX10_wed 2 = .ok (.invokevirtual 154, 3) := by decide +kernel
theorem dX10_wed_5 : decode cX10_wed 5 = .ok (.ifCond .ne 9, 3) := by decide +kernel
theorem dX10_wed_8 : decode cX10_wed 8 = .ok (.aload_n 0, 1) := by decide +kernel
theorem dX10_wed_9 : decode cX10_wed 9 = .ok (.iconst 0, 1) := by decide +kernel
theorem dX10_wed_10 : decode cX10_wed 10 = .ok (.invokevirtual 213, 3) := by decide +kernel
theorem dX10_wed_13 : decode cX10_wed 13 = .ok (.ireturn, 1) := by decide +kernel
theorem dX10_annul_0 : decode cX10_annul 0 = .ok (.aload_n 0, 1) := by decide +kernel
theorem dX10_annul_1 : decode cX10_annul 1 = .ok (.invokevirtual 141, 3) := by decide +kernel
theorem dX10_annul_4 : decode cX10_annul 4 = .ok (.ifCond .ne 9, 3) := by decide +kernel
theorem dX10_annul_7 : decode cX10_annul 7 = .ok (.aload_n 0, 1) := by decide +kernel
theorem dX10_annul_8 : decode cX10_annul 8 = .ok (.iconst 0, 1) := by decide +kernel
theorem dX10_annul_9 : decode cX10_annul 9 = .ok (.invokevirtual 213, 3) := by decide +kernel
theorem dX10_annul_12 : decode cX10_annul 12 = .ok (.ireturn, 1) := by decide +kernel
theorem dX10_months_0 : decode cX10_months 0 = .ok (.aload_n 0, 1) := by decide +kernel
theorem dX10_months_1 : decode cX10_months 1 = .ok (.invokevirtual 141, 3) := by decide +kernel
theorem dX10_months_4 : decode cX10_months 4 = .ok (.ifCond .ne 9, 3) := by decide +kernel
theorem dX10_months_7 : decode cX10_months 7 = .ok (.aload_n 0, 1) := by decide +kernel
theorem dX10_months_8 : decode cX10_months 8 = .ok (.iconst 0, 1) := by decide +kernel
theorem dX10_months_9 : decode cX10_months 9 = .ok (.invokevirtual 213, 3) := by decide +kernel
theorem dX10_months_12 : decode cX10_months 12 = .ok (.ireturn, 1) := by decide +kernel
theorem dX10_bribes_0 : decode cX10_bribes 0 = .ok (.iload_n 1, 1) := by decide +kernel
theorem dX10_bribes_1 : decode cX10_bribes 1 = .ok (.invokestatic 230, 3) := by decide +kernel
theorem dX10_bribes_4 : decode cX10_bribes 4 = .ok (.ifCond .eq 11, 3) := by decide +kernel
theorem dX10_bribes_7 : decode cX10_bribes 7 = .ok (.iload_n 1, 1) := by decide +kernel
theorem dX10_bribes_8 : decode cX10_bribes 8 = .ok (.aload_n 0, 1) := by decide +kernel
theorem dX10_bribes_9 : decode cX10_bribes 9 = .ok (.getfield 254, 3) := by decide +kernel
theorem dX10_bribes_12 : decode cX10_bribes 12 = .ok (.if_icmp .ne 5, 3) := by decide +kernel
theorem dX10_bribes_15 : decode cX10_bribes 15 = .ok (.iconst 0, 1) := by decide +kernel
theorem dX10_bribes_16 : decode cX10_bribes 16 = .ok (.ireturn, 1) := by decide +kernel
theorem dX10_bribes_17 : decode cX10_bribes 17 = .ok (.aload_n 0, 1) := by decide +kernel
theorem dX10_bribes_18 : decode cX10_bribes 18 = .ok (.iload_n 1, 1) := by decide +kernel
theorem dX10_bribes_19 : decode cX10_bribes 19 = .ok (.putfield 254, 3) := by decide +kernel
theorem dX10_bribes_22 : decode cX10_bribes 22 = .ok (.iconst 1, 1) := by decide +kernel
theorem dX10_bribes_23 : decode cX10_bribes 23 = .ok (.ireturn, 1) := by decide +kernel
theorem dX10_decades_0 : decode cX10_decades 0 = .ok (.aload_n 0, 1) := by decide +kernel
theorem dX10_decades_1 : decode cX10_decades 1 = .ok (.invokevirtual 141, 3) := by decide +kernel
theorem dX10_decades_4 : decode cX10_decades 4 = .ok (.ifCond .eq 29, 3) := by decide +kernel
theorem dX10_decades_33 : decode cX10_decades 33 = .ok (.iconst (-1), 1) := by decide +kernel
theorem dX10_decades_34 : decode cX10_decades 34 = .ok (.ireturn, 1) := by decide +kernel
theorem dX10_status_0 : decode cX10_status 0 = .ok (.iload_n 1, 1) := by decide +kernel
theorem dX10_status_1 : decode cX10_status 1 = .ok (.ifCond .lt 8, 3) := by decide +kernel
theorem dX10_status_4 : decode cX10_status 4 = .ok (.iload_n 1, 1) := by decide +kernel
theorem dX10_status_5 : decode cX10_status 5 = .ok (.iconst 5, 1) := by decide +kernel
theorem dX10_status_6 : decode cX10_status 6 = .ok (.if_icmp .lt 7, 3) := by decide +kernel
theorem dX10_status_9 : decode cX10_status 9 = .ok (.iconst (-1), 1) := by decide +kernel
theorem dX10_status_10 : decode cX10_status 10 = .ok (.goto 9, 3) := by decide +kernel
theorem dX10_status_13 : decode cX10_status 13 = .ok (.aload_n 0, 1) := by decide +kernel
theorem dX10_status_14 : decode cX10_status 14 = .ok (.getfield 88, 3) := by decide +kernel
theorem dX10_status_17 : decode cX10_status 17 = .ok (.iload_n 1, 1) := by decide +kernel
theorem dX10_status_18 : decode cX10_status 18 = .ok (.iaload, 1) := by decide +kernel
theorem dX10_status_19 : decode cX10_status 19 = .ok (.ireturn, 1) := by decide +kernel
theorem dX10_undo_0 : decode cX10_undo 0 = .ok (.aload_n 0, 1) := by decide +kernel
theorem dX10_undo_1 : decode cX10_undo 1 = .ok (.getfield 59, 3) := by decide +kernel
theorem dX10_undo_4 : decode cX10_undo 4 = .ok (.aload_n 0, 1) := by decide +kernel
theorem dX10_undo_5 : decode cX10_undo 5 = .ok (.getfield 49, 3) := by decide +kernel
theorem dX10_undo_8 : decode cX10_undo 8 = .ok (.invokevirtual 272, 3) := by decide +kernel
theorem dX10_undo_11 : decode cX10_undo 11 = .ok (.ifCond .eq 13, 3) := by decide +kernel
theorem dX10_undo_24 : decode cX10_undo 24 = .ok (.iconst (-1), 1) := by decide +kernel
theorem dX10_undo_25 : decode cX10_undo 25 = .ok (.ireturn, 1) := by decide +kernel
theorem dX10_portrait_0 : decode cX10_portrait 0 = .ok (.iload_n 1, 1) := by decide +kernel
theorem dX10_portrait_1 : decode cX10_portrait 1 = .ok (.ifCond .lt 23, 3) := by decide +kernel
theorem dX10_portrait_4 : decode cX10_portrait 4 = .ok (.iload_n 1, 1) := by decide +kernel
theorem dX10_portrait_5 : decode cX10_portrait 5 = .ok (.aload_n 0, 1) := by decide +kernel
theorem dX10_portrait_6 : decode cX10_portrait 6 = .ok (.getfield 49, 3) := by decide +kernel
theorem dX10_portrait_9 : decode cX10_portrait 9 = .ok (.getfield 216, 3) := by decide +kernel
theorem dX10_portrait_12 : decode cX10_portrait 12 = .ok (.if_icmp .ge 12, 3) := by decide +kernel
theorem dX10_portrait_24 : decode cX10_portrait 24 = .ok (.iconst (-1), 1) := by decide +kernel
theorem dX10_portrait_25 : decode cX10_portrait 25 = .ok (.ireturn, 1) := by decide +kernel
theorem dX10_fits_0 : decode cX10_fits 0 = .ok (.aload_n 0, 1) := by decide +kernel
theorem dX10_fits_1 : decode cX10_fits 1 = .ok (.iload_n 1, 1) := by decide +kernel
theorem dX10_fits_2 : decode cX10_fits 2 = .ok (.invokevirtual 154, 3) := by decide +kernel
theorem dX10_fits_5 : decode cX10_fits 5 = .ok (.ifCond .eq 14, 3) := by decide +kernel
theorem dX10_fits_19 : decode cX10_fits 19 = .ok (.iconst (-1), 1) := by decide +kernel
theorem dX10_fits_20 : decode cX10_fits 20 = .ok (.ireturn, 1) := by decide +kernel
theorem dX10_belief_0 : decode cX10_belief 0 = .ok (.aload_n 0, 1) := by decide +kernel
theorem dX10_belief_1 : decode cX10_belief 1 = .ok (.iload_n 1, 1) := by decide +kernel
theorem dX10_belief_2 : decode cX10_belief 2 = .ok (.invokevirtual 154, 3) := by decide +kernel
theorem dX10_belief_5 : decode cX10_belief 5 = .ok (.ifCond .eq 10, 3) := by decide +kernel
theorem dX10_belief_15 : decode cX10_belief 15 = .ok (.iconst (-1), 1) := by decide +kernel
theorem dX10_belief_16 : decode cX10_belief 16 = .ok (.ireturn, 1) := by decide +kernel
theorem dX10_likely_0 : decode cX10_likely 0 = .ok (.aload_n 0, 1) := by decide +kernel
theorem dX10_likely_1 : decode cX10_likely 1 = .ok (.iload_n 1, 1) := by decide +kernel
theorem dX10_likely_2 : decode cX10_likely 2 = .ok (.invokevirtual 154, 3) := by decide +kernel
theorem dX10_likely_5 : decode cX10_likely 5 = .ok (.ifCond .eq 12, 3) := by decide +kernel
theorem dX10_likely_17 : decode cX10_likely 17 = .ok (.iconst (-1), 1) := by decide +kernel
theorem dX10_likely_18 : decode cX10_likely 18 = .ok (.ireturn, 1) := by decide +kernel
theorem dX10_sure_0 : decode cX10_sure 0 = .ok (.aload_n 0, 1) := by decide +kernel
theorem dX10_sure_1 : decode cX10_sure 1 = .ok (.iload_n 1, 1) := by decide +kernel
theorem dX10_sure_2 : decode cX10_sure 2 = .ok (.invokevirtual 154, 3) := by decide +kernel
theorem dX10_sure_5 : decode cX10_sure 5 = .ok (.ifCond .eq 15, 3) := by decide +kernel
theorem dX10_sure_20 : decode cX10_sure 20 = .ok (.iconst (-1), 1) := by decide +kernel
theorem dX10_sure_21 : decode cX10_sure 21 = .ok (.ireturn, 1) := by decide +kernel
theorem dX10_next_0 : decode cX10_next 0 = .ok (.aload_n 0, 1) := by decide +kernel
theorem dX10_next_1 : decode cX10_next 1 = .ok (.iload_n 1, 1) := by decide +kernel
theorem dX10_next_2 : decode cX10_next 2 = .ok (.invokevirtual 154, 3) := by decide +kernel
theorem dX10_next_5 : decode cX10_next 5 = .ok (.ifCond .eq 14, 3) := by decide +kernel
theorem dX10_next_19 : decode cX10_next 19 = .ok (.iconst (-1), 1) := by decide +kernel
theorem dX10_next_20 : decode cX10_next 20 = .ok (.ireturn, 1) := by decide +kernel
theorem dX10_apart_0 : decode cX10_apart 0 = .ok (.aload_n 0, 1) := by decide +kernel
theorem dX10_apart_1 : decode cX10_apart 1 = .ok (.iload_n 1, 1) := by decide +kernel
theorem dX10_apart_2 : decode cX10_apart 2 = .ok (.invokevirtual 154, 3) := by decide +kernel
theorem dX10_apart_5 : decode cX10_apart 5 = .ok (.ifCond .eq 14, 3) := by decide +kernel
theorem dX10_apart_19 : decode cX10_apart 19 = .ok (.iconst (-1), 1) := by decide +kernel
theorem dX10_apart_20 : decode cX10_apart 20 = .ok (.ireturn, 1) := by decide +kernel
theorem dX10_worth_0 : decode cX10_worth 0 = .ok (.aload_n 0, 1) := by decide +kernel
theorem dX10_worth_1 : decode cX10_worth 1 = .ok (.iload_n 1, 1) := by decide +kernel
theorem dX10_worth_2 : decode cX10_worth 2 = .ok (.invokevirtual 154, 3) := by decide +kernel
theorem dX10_worth_5 : decode cX10_worth 5 = .ok (.ifCond .eq 22, 3) := by decide +kernel
theorem dX10_worth_27 : decode cX10_worth 27 = .ok (.iconst (-1), 1) := by decide +kernel
theorem dX10_worth_28 : decode cX10_worth 28 = .ok (.ireturn, 1) := by decide +kernel
theorem dX10_chooses_0 : decode cX10_chooses 0 = .ok (.aload_n 0, 1) := by decide +kernel
theorem dX10_chooses_1 : decode cX10_chooses 1 = .ok (.invokevirtual 141, 3) := by decide +kernel
theorem dX10_chooses_4 : decode cX10_chooses 4 = .ok (.ifCond .eq 12, 3) := by decide +kernel
theorem dX10_chooses_16 : decode cX10_chooses 16 = .ok (.iconst (-1), 1) := by decide +kernel
theorem dX10_chooses_17 : decode cX10_chooses 17 = .ok (.ireturn, 1) := by decide +kernel
theorem dX10_game_0 : decode cX10_game 0 = .ok (.aload_n 0, 1) := by decide +kernel
theorem dX10_game_1 : decode cX10_game 1 = .ok (.iload_n 1, 1) := by decide +kernel
theorem dX10_game_2 : decode cX10_game 2 = .ok (.iload_n 2, 1) := by decide +kernel
theorem dX10_game_3 : decode cX10_game 3 = .ok (.iload_n 3, 1) := by decide +kernel
theorem dX10_game_4 : decode cX10_game 4 = .ok (.invokevirtual 310, 3) := by decide +kernel
theorem dX10_game_7 : decode cX10_game 7 = .ok (.ifCond .eq 30, 3) := by decide +kernel
theorem dX10_game_37 : decode cX10_game 37 = .ok (.ldc_w 313, 3) := by decide +kernel
theorem dX10_game_40 : decode cX10_game 40 = .ok (.ireturn, 1) := by decide +kernel
theorem dX10_rests_0 : decode cX10_rests 0 = .ok (.aload_n 0, 1) := by decide +kernel
theorem dX10_rests_1 : decode cX10_rests 1 = .ok (.iload_n 1, 1) := by decide +kernel
theorem dX10_rests_2 : decode cX10_rests 2 = .ok (.iload_n 2, 1) := by decide +kernel
theorem dX10_rests_3 : decode cX10_rests 3 = .ok (.iload_n 3, 1) := by decide +kernel
theorem dX10_rests_4 : decode cX10_rests 4 = .ok (.invokevirtual 310, 3) := by decide +kernel
theorem dX10_rests_7 : decode cX10_rests 7 = .ok (.ifCond .eq 9, 3) := by decide +kernel
theorem dX10_rests_16 : decode cX10_rests 16 = .ok (.iconst (-1), 1) := by decide +kernel
theorem dX10_rests_17 : decode cX10_rests 17 = .ok (.ireturn, 1) := by decide +kernel
theorem dX10_truth_0 : decode cX10_truth 0 = .ok (.aload_n 0, 1) := by decide +kernel
theorem dX10_truth_1 : decode cX10_truth 1 = .ok (.iload_n 1, 1) := by decide +kernel
theorem dX10_truth_2 : decode cX10_truth 2 = .ok (.invokevirtual 184, 3) := by decide +kernel
theorem dX10_truth_5 : decode cX10_truth 5 = .ok (.ifCond .eq 11, 3) := by decide +kernel
theorem dX10_truth_16 : decode cX10_truth 16 = .ok (.iconst (-1), 1) := by decide +kernel
theorem dX10_truth_17 : decode cX10_truth 17 = .ok (.ireturn, 1) := by decide +kernel
theorem dX10_cheapest_0 : decode cX10_cheapest 0 = .ok (.aload_n 0, 1) := by decide +kernel
theorem dX10_cheapest_1 : decode cX10_cheapest 1 = .ok (.invokevirtual 141, 3) := by decide +kernel
theorem dX10_cheapest_4 : decode cX10_cheapest 4 = .ok (.ifCond .eq 30, 3) := by decide +kernel
theorem dX10_cheapest_34 : decode cX10_cheapest 34 = .ok (.iconst (-1), 1) := by decide +kernel
theorem dX10_cheapest_35 : decode cX10_cheapest 35 = .ok (.ireturn, 1) := by decide +kernel
theorem dX10_looks_0 : decode cX10_looks 0 = .ok (.aload_n 0, 1) := by decide +kernel
theorem dX10_looks_1 : decode cX10_looks 1 = .ok (.iload_n 1, 1) := by decide +kernel
theorem dX10_looks_2 : decode cX10_looks 2 = .ok (.invokevirtual 154, 3) := by decide +kernel
theorem dX10_looks_5 : decode cX10_looks 5 = .ok (.ifCond .eq 14, 3) := by decide +kernel
theorem dX10_looks_19 : decode cX10_looks 19 = .ok (.ldc_w 313, 3) := by decide +kernel
theorem dX10_looks_22 : decode cX10_looks 22 = .ok (.ireturn, 1) := by decide +kernel
theorem dX10_whose_0 : decode cX10_whose 0 = .ok (.aload_n 0, 1) := by decide +kernel
theorem dX10_whose_1 : decode cX10_whose 1 = .ok (.iload_n 1, 1) := by decide +kernel
theorem dX10_whose_2 : decode cX10_whose 2 = .ok (.invokevirtual 184, 3) := by decide +kernel
theorem dX10_whose_5 : decode cX10_whose 5 = .ok (.ifCond .eq 10, 3) := by decide +kernel
theorem dX10_whose_15 : decode cX10_whose 15 = .ok (.iconst (-1), 1) := by decide +kernel
theorem dX10_whose_16 : decode cX10_whose 16 = .ok (.ireturn, 1) := by decide +kernel
theorem dX10_heads_0 : decode cX10_heads 0 = .ok (.aload_n 0, 1) := by decide +kernel
theorem dX10_heads_1 : decode cX10_heads 1 = .ok (.iload_n 1, 1) := by decide +kernel
theorem dX10_heads_2 : decode cX10_heads 2 = .ok (.invokevirtual 184, 3) := by decide +kernel
theorem dX10_heads_5 : decode cX10_heads 5 = .ok (.ifCond .eq 23, 3) := by decide +kernel
theorem dX10_heads_28 : decode cX10_heads 28 = .ok (.iconst (-1), 1) := by decide +kernel
theorem dX10_heads_29 : decode cX10_heads 29 = .ok (.ireturn, 1) := by decide +kernel
theorem dX10_matched_0 : decode cX10_matched 0 = .ok (.aload_n 0, 1) := by decide +kernel
theorem dX10_matched_1 : decode cX10_matched 1 = .ok (.iload_n 1, 1) := by decide +kernel
theorem dX10_matched_2 : decode cX10_matched 2 = .ok (.invokevirtual 154, 3) := by decide +kernel
theorem dX10_matched_5 : decode cX10_matched 5 = .ok (.ifCond .ne 5, 3) := by decide +kernel
theorem dX10_matched_8 : decode cX10_matched 8 = .ok (.iconst (-1), 1) := by decide +kernel
theorem dX10_matched_9 : decode cX10_matched 9 = .ok (.ireturn, 1) := by decide +kernel
theorem dX10_most_0 : decode cX10_most 0 = .ok (.aload_n 0, 1) := by decide +kernel
theorem dX10_most_1 : decode cX10_most 1 = .ok (.invokevirtual 141, 3) := by decide +kernel
theorem dX10_most_4 : decode cX10_most 4 = .ok (.ifCond .ne 5, 3) := by decide +kernel
theorem dX10_most_7 : decode cX10_most 7 = .ok (.iconst (-1), 1) := by decide +kernel
theorem dX10_most_8 : decode cX10_most 8 = .ok (.ireturn, 1) := by decide +kernel
theorem dX10_seen_0 : decode cX10_seen 0 = .ok (.aload_n 0, 1) := by decide +kernel
theorem dX10_seen_1 : decode cX10_seen 1 = .ok (.iload_n 1, 1) := by decide +kernel
theorem dX10_seen_2 : decode cX10_seen 2 = .ok (.invokevirtual 154, 3) := by decide +kernel
theorem dX10_seen_5 : decode cX10_seen 5 = .ok (.ifCond .eq 14, 3) := by decide +kernel
theorem dX10_seen_19 : decode cX10_seen 19 = .ok (.iconst (-1), 1) := by decide +kernel
theorem dX10_seen_20 : decode cX10_seen 20 = .ok (.ireturn, 1) := by decide +kernel
theorem dX10_saves_0 : decode cX10_saves 0 = .ok (.aload_n 0, 1) := by decide +kernel
theorem dX10_saves_1 : decode cX10_saves 1 = .ok (.invokevirtual 141, 3) := by decide +kernel
theorem dX10_saves_4 : decode cX10_saves 4 = .ok (.ifCond .eq 15, 3) := by decide +kernel
theorem dX10_saves_19 : decode cX10_saves 19 = .ok (.iconst (-1), 1) := by decide +kernel
theorem dX10_saves_20 : decode cX10_saves 20 = .ok (.ireturn, 1) := by decide +kernel
theorem dX10_rivals_0 : decode cX10_rivals 0 = .ok (.aload_n 0, 1) := by decide +kernel
theorem dX10_rivals_1 : decode cX10_rivals 1 = .ok (.iload_n 1, 1) := by decide +kernel
theorem dX10_rivals_2 : decode cX10_rivals 2 = .ok (.invokevirtual 154, 3) := by decide +kernel
theorem dX10_rivals_5 : decode cX10_rivals 5 = .ok (.ifCond .ne 5, 3) := by decide +kernel
theorem dX10_rivals_8 : decode cX10_rivals 8 = .ok (.iconst (-1), 1) := by decide +kernel
theorem dX10_rivals_9 : decode cX10_rivals 9 = .ok (.ireturn, 1) := by decide +kernel
theorem dX10_affords_0 : decode cX10_affords 0 = .ok (.aload_n 0, 1) := by decide +kernel
theorem dX10_affords_1 : decode cX10_affords 1 = .ok (.iload_n 1, 1) := by decide +kernel
theorem dX10_affords_2 : decode cX10_affords 2 = .ok (.invokevirtual 184, 3) := by decide +kernel
theorem dX10_affords_5 : decode cX10_affords 5 = .ok (.ifCond .ne 5, 3) := by decide +kernel
theorem dX10_affords_8 : decode cX10_affords 8 = .ok (.iconst (-1), 1) := by decide +kernel
theorem dX10_affords_9 : decode cX10_affords 9 = .ok (.ireturn, 1) := by decide +kernel
theorem dX10_told_0 : decode cX10_told 0 = .ok (.aload_n 0, 1) := by decide +kernel
theorem dX10_told_1 : decode cX10_told 1 = .ok (.iload_n 1, 1) := by decide +kernel
theorem dX10_told_2 : decode cX10_told 2 = .ok (.invokevirtual 184, 3) := by decide +kernel
theorem dX10_told_5 : decode cX10_told 5 = .ok (.ifCond .eq 15, 3) := by decide +kernel
theorem dX10_told_20 : decode cX10_told 20 = .ok (.ldc_w 313, 3) := by decide +kernel
theorem dX10_told_23 : decode cX10_told 23 = .ok (.ireturn, 1) := by decide +kernel
theorem dX10_image_0 : decode cX10_image 0 = .ok (.aload_n 0, 1) := by decide +kernel
theorem dX10_image_1 : decode cX10_image 1 = .ok (.invokevirtual 141, 3) := by decide +kernel
theorem dX10_image_4 : decode cX10_image 4 = .ok (.ifCond .ne 5, 3) := by decide +kernel
theorem dX10_image_7 : decode cX10_image 7 = .ok (.iconst (-1), 1) := by decide +kernel
theorem dX10_image_8 : decode cX10_image 8 = .ok (.ireturn, 1) := by decide +kernel
theorem dX10_back_0 : decode cX10_back 0 = .ok (.aload_n 0, 1) := by decide +kernel
theorem dX10_back_1 : decode cX10_back 1 = .ok (.getfield 130, 3) := by decide +kernel
theorem dX10_back_4 : decode cX10_back 4 = .ok (.ifCond .ne 5, 3) := by decide +kernel
theorem dX10_back_7 : decode cX10_back 7 = .ok (.iconst (-1), 1) := by decide +kernel
theorem dX10_back_8 : decode cX10_back 8 = .ok (.ireturn, 1) := by decide +kernel
theorem dX10_count_0 : decode cX10_count 0 = .ok (.iload_n 1, 1) := by decide +kernel
theorem dX10_count_1 : decode cX10_count 1 = .ok (.tableswitch 126 0 9 #[55, 63, 71, 76, 84, 89, 97, 105, 113, 118], 55) := by decide +kernel
theorem dX10_count_56 : decode cX10_count 56 = .ok (.aload_n 0, 1) := by decide +kernel
theorem dX10_count_57 : decode cX10_count 57 = .ok (.getfield 37, 3) := by decide +kernel
theorem dX10_count_60 : decode cX10_count 60 = .ok (.getfield 134, 3) := by decide +kernel
theorem dX10_count_63 : decode cX10_count 63 = .ok (.ireturn, 1) := by decide +kernel
theorem dX10_count_64 : decode cX10_count 64 = .ok (.aload_n 0, 1) := by decide +kernel
theorem dX10_count_65 : decode cX10_count 65 = .ok (.getfield 37, 3) := by decide +kernel
theorem dX10_count_68 : decode cX10_count 68 = .ok (.getfield 266, 3) := by decide +kernel
theorem dX10_count_71 : decode cX10_count 71 = .ok (.ireturn, 1) := by decide +kernel
theorem dX10_count_72 : decode cX10_count 72 = .ok (.aload_n 0, 1) := by decide +kernel
theorem dX10_count_73 : decode cX10_count 73 = .ok (.getfield 114, 3) := by decide +kernel
theorem dX10_count_76 : decode cX10_count 76 = .ok (.ireturn, 1) := by decide +kernel
theorem dX10_count_77 : decode cX10_count 77 = .ok (.aload_n 0, 1) := by decide +kernel
theorem dX10_count_78 : decode cX10_count 78 = .ok (.getfield 10, 3) := by decide +kernel
theorem dX10_count_81 : decode cX10_count 81 = .ok (.getfield 96, 3) := by decide +kernel
theorem dX10_count_84 : decode cX10_count 84 = .ok (.ireturn, 1) := by decide +kernel
theorem dX10_count_85 : decode cX10_count 85 = .ok (.aload_n 0, 1) := by decide +kernel
theorem dX10_count_86 : decode cX10_count 86 = .ok (.getfield 92, 3) := by decide +kernel
theorem dX10_count_89 : decode cX10_count 89 = .ok (.ireturn, 1) := by decide +kernel
theorem dX10_count_90 : decode cX10_count 90 = .ok (.aload_n 0, 1) := by decide +kernel
theorem dX10_count_91 : decode cX10_count 91 = .ok (.getfield 49, 3) := by decide +kernel
theorem dX10_count_94 : decode cX10_count 94 = .ok (.getfield 248, 3) := by decide +kernel
theorem dX10_count_97 : decode cX10_count 97 = .ok (.ireturn, 1) := by decide +kernel
theorem dX10_count_98 : decode cX10_count 98 = .ok (.aload_n 0, 1) := by decide +kernel
theorem dX10_count_99 : decode cX10_count 99 = .ok (.getfield 49, 3) := by decide +kernel
theorem dX10_count_102 : decode cX10_count 102 = .ok (.getfield 237, 3) := by decide +kernel
theorem dX10_count_105 : decode cX10_count 105 = .ok (.ireturn, 1) := by decide +kernel
theorem dX10_count_106 : decode cX10_count 106 = .ok (.aload_n 0, 1) := by decide +kernel
theorem dX10_count_107 : decode cX10_count 107 = .ok (.getfield 49, 3) := by decide +kernel
theorem dX10_count_110 : decode cX10_count 110 = .ok (.getfield 216, 3) := by decide +kernel
theorem dX10_count_113 : decode cX10_count 113 = .ok (.ireturn, 1) := by decide +kernel
theorem dX10_count_114 : decode cX10_count 114 = .ok (.aload_n 0, 1) := by decide +kernel
theorem dX10_count_115 : decode cX10_count 115 = .ok (.getfield 254, 3) := by decide +kernel
theorem dX10_count_118 : decode cX10_count 118 = .ok (.ireturn, 1) := by decide +kernel
theorem dX10_count_119 : decode cX10_count 119 = .ok (.aload_n 0, 1) := by decide +kernel
theorem dX10_count_120 : decode cX10_count 120 = .ok (.getfield 59, 3) := by decide +kernel
theorem dX10_count_123 : decode cX10_count 123 = .ok (.getfield 276, 3) := by decide +kernel
theorem dX10_count_126 : decode cX10_count 126 = .ok (.ireturn, 1) := by decide +kernel
theorem dX10_count_127 : decode cX10_count 127 = .ok (.ldc_w 313, 3) := by decide +kernel
theorem dX10_count_130 : decode cX10_count 130 = .ok (.ireturn, 1) := by decide +kernel
theorem dX10_refuse_0 : decode cX10_refuse 0 = .ok (.aload_n 0, 1) := by decide +kernel
theorem dX10_refuse_1 : decode cX10_refuse 1 = .ok (.getfield 88, 3) := by decide +kernel
theorem dX10_refuse_4 : decode cX10_refuse 4 = .ok (.iload_n 1, 1) := by decide +kernel
theorem dX10_refuse_5 : decode cX10_refuse 5 = .ok (.dup2, 1) := by decide +kernel
theorem dX10_refuse_6 : decode cX10_refuse 6 = .ok (.iaload, 1) := by decide +kernel
theorem dX10_refuse_7 : decode cX10_refuse 7 = .ok (.iconst 1, 1) := by decide +kernel
theorem dX10_refuse_8 : decode cX10_refuse 8 = .ok (.iadd, 1) := by decide +kernel
theorem dX10_refuse_9 : decode cX10_refuse 9 = .ok (.iastore, 1) := by decide +kernel
theorem dX10_refuse_10 : decode cX10_refuse 10 = .ok (.iconst (-1), 1) := by decide +kernel
theorem dX10_refuse_11 : decode cX10_refuse 11 = .ok (.ireturn, 1) := by decide +kernel
theorem dX10_hasCourt_0 : decode cX10_hasCourt 0 = .ok (.aload_n 0, 1) := by decide +kernel
theorem dX10_hasCourt_1 : decode cX10_hasCourt 1 = .ok (.getfield 37, 3) := by decide +kernel
theorem dX10_hasCourt_4 : decode cX10_hasCourt 4 = .ok (.getfield 134, 3) := by decide +kernel
theorem dX10_hasCourt_7 : decode cX10_hasCourt 7 = .ok (.ifCond .le 7, 3) := by decide +kernel
theorem dX10_hasCourt_14 : decode cX10_hasCourt 14 = .ok (.iconst 0, 1) := by decide +kernel
theorem dX10_hasCourt_15 : decode cX10_hasCourt 15 = .ok (.ireturn, 1) := by decide +kernel
theorem dX10_isBride_0 : decode cX10_isBride 0 = .ok (.iload_n 1, 1) := by decide +kernel
theorem dX10_isBride_1 : decode cX10_isBride 1 = .ok (.ifCond .lt 18, 3) := by decide +kernel
theorem dX10_isBride_4 : decode cX10_isBride 4 = .ok (.iload_n 1, 1) := by decide +kernel
theorem dX10_isBride_5 : decode cX10_isBride 5 = .ok (.aload_n 0, 1) := by decide +kernel
theorem dX10_isBride_6 : decode cX10_isBride 6 = .ok (.getfield 37, 3) := by decide +kernel
theorem dX10_isBride_9 : decode cX10_isBride 9 = .ok (.getfield 134, 3) := by decide +kernel
theorem dX10_isBride_12 : decode cX10_isBride 12 = .ok (.if_icmp .ge 7, 3) := by decide +kernel
theorem dX10_isBride_19 : decode cX10_isBride 19 = .ok (.iconst 0, 1) := by decide +kernel
theorem dX10_isBride_20 : decode cX10_isBride 20 = .ok (.ireturn, 1) := by decide +kernel
theorem dX10_isPainter_0 : decode cX10_isPainter 0 = .ok (.iload_n 1, 1) := by decide +kernel
theorem dX10_isPainter_1 : decode cX10_isPainter 1 = .ok (.ifCond .lt 18, 3) := by decide +kernel
theorem dX10_isPainter_4 : decode cX10_isPainter 4 = .ok (.iload_n 1, 1) := by decide +kernel
theorem dX10_isPainter_5 : decode cX10_isPainter 5 = .ok (.aload_n 0, 1) := by decide +kernel
theorem dX10_isPainter_6 : decode cX10_isPainter 6 = .ok (.getfield 37, 3) := by decide +kernel
theorem dX10_isPainter_9 : decode cX10_isPainter 9 = .ok (.getfield 266, 3) := by decide +kernel
theorem dX10_isPainter_12 : decode cX10_isPainter 12 = .ok (.if_icmp .ge 7, 3) := by decide +kernel
theorem dX10_isPainter_19 : decode cX10_isPainter 19 = .ok (.iconst 0, 1) := by decide +kernel
theorem dX10_isPainter_20 : decode cX10_isPainter 20 = .ok (.ireturn, 1) := by decide +kernel
theorem dX10_canPlay_0 : decode cX10_canPlay 0 = .ok (.aload_n 0, 1) := by decide +kernel
theorem dX10_canPlay_1 : decode cX10_canPlay 1 = .ok (.iload_n 1, 1) := by decide +kernel
theorem dX10_canPlay_2 : decode cX10_canPlay 2 = .ok (.invokevirtual 154, 3) := by decide +kernel
theorem dX10_canPlay_5 : decode cX10_canPlay 5 = .ok (.ifCond .eq 28, 3) := by decide +kernel
theorem dX10_canPlay_33 : decode cX10_canPlay 33 = .ok (.iconst 0, 1) := by decide +kernel
theorem dX10_canPlay_34 : decode cX10_canPlay 34 = .ok (.ireturn, 1) := by decide +kernel
theorem dX10_isDigit_0 : decode cX10_isDigit 0 = .ok (.iload_n 0, 1) := by decide +kernel
theorem dX10_isDigit_1 : decode cX10_isDigit 1 = .ok (.ifCond .lt 13, 3) := by decide +kernel
theorem dX10_isDigit_4 : decode cX10_isDigit 4 = .ok (.iload_n 0, 1) := by decide +kernel
theorem dX10_isDigit_5 : decode cX10_isDigit 5 = .ok (.bipush 9, 2) := by decide +kernel
theorem dX10_isDigit_7 : decode cX10_isDigit 7 = .ok (.if_icmp .gt 7, 3) := by decide +kernel
theorem dX10_isDigit_10 : decode cX10_isDigit 10 = .ok (.iconst 1, 1) := by decide +kernel
theorem dX10_isDigit_11 : decode cX10_isDigit 11 = .ok (.goto 4, 3) := by decide +kernel
theorem dX10_isDigit_14 : decode cX10_isDigit 14 = .ok (.iconst 0, 1) := by decide +kernel
theorem dX10_isDigit_15 : decode cX10_isDigit 15 = .ok (.ireturn, 1) := by decide +kernel
theorem dX11_in_0 : decode cX11_in 0 = .ok (.iload_n 0, 1) := by decide +kernel
theorem dX11_in_1 : decode cX11_in 1 = .ok (.iload_n 1, 1) := by decide +kernel
theorem dX11_in_2 : decode cX11_in 2 = .ok (.if_icmp .lt 12, 3) := by decide +kernel
theorem dX11_in_5 : decode cX11_in 5 = .ok (.iload_n 0, 1) := by decide +kernel
theorem dX11_in_6 : decode cX11_in 6 = .ok (.iload_n 2, 1) := by decide +kernel
theorem dX11_in_7 : decode cX11_in 7 = .ok (.if_icmp .gt 7, 3) := by decide +kernel
theorem dX11_in_10 : decode cX11_in 10 = .ok (.iconst 1, 1) := by decide +kernel
theorem dX11_in_11 : decode cX11_in 11 = .ok (.goto 4, 3) := by decide +kernel
theorem dX11_in_14 : decode cX11_in 14 = .ok (.iconst 0, 1) := by decide +kernel
theorem dX11_in_15 : decode cX11_in 15 = .ok (.ireturn, 1) := by decide +kernel
theorem dX11_init_0 : decode cX11_init 0 = .ok (.aload_n 0, 1) := by decide +kernel
theorem dX11_init_1 : decode cX11_init 1 = .ok (.invokespecial 3, 3) := by decide +kernel
theorem dX11_init_4 : decode cX11_init 4 = .ok (.aload_n 0, 1) := by decide +kernel
theorem dX11_init_5 : decode cX11_init 5 = .ok (.sipush 240, 3) := by decide +kernel
theorem dX11_init_8 : decode cX11_init 8 = .ok (.newarray .int, 2) := by decide +kernel
theorem dX11_init_10 : decode cX11_init 10 = .ok (.putfield 9, 3) := by decide +kernel
theorem dX11_init_13 : decode cX11_init 13 = .ok (.aload_n 0, 1) := by decide +kernel
theorem dX11_init_14 : decode cX11_init 14 = .ok (.sipush 2600, 3) := by decide +kernel
theorem dX11_init_17 : decode cX11_init 17 = .ok (.newarray .int, 2) := by decide +kernel
theorem dX11_init_19 : decode cX11_init 19 = .ok (.putfield 13, 3) := by decide +kernel
theorem dX11_init_22 : decode cX11_init 22 = .ok (.aload_n 0, 1) := by decide +kernel
theorem dX11_init_23 : decode cX11_init 23 = .ok (.sipush 2600, 3) := by decide +kernel
theorem dX11_init_26 : decode cX11_init 26 = .ok (.newarray .int, 2) := by decide +kernel
theorem dX11_init_28 : decode cX11_init 28 = .ok (.putfield 16, 3) := by decide +kernel
theorem dX11_init_31 : decode cX11_init 31 = .ok (.aload_n 0, 1) := by decide +kernel
theorem dX11_init_32 : decode cX11_init 32 = .ok (.iconst 5, 1) := by decide +kernel
theorem dX11_init_33 : decode cX11_init 33 = .ok (.newarray .int, 2) := by decide +kernel
theorem dX11_init_35 : decode cX11_init 35 = .ok (.putfield 19, 3) := by decide +kernel
theorem dX11_init_38 : decode cX11_init 38 = .ok (.aload_n 0, 1) := by decide +kernel
theorem dX11_init_39 : decode cX11_init 39 = .ok (.iconst 5, 1) := by decide +kernel
theorem dX11_init_40 : decode cX11_init 40 = .ok (.newarray .int, 2) := by decide +kernel
theorem dX11_init_42 : decode cX11_init 42 = .ok (.putfield 22, 3) := by decide +kernel
theorem dX11_init_45 : decode cX11_init 45 = .ok (.aload_n 0, 1) := by decide +kernel
theorem dX11_init_46 : decode cX11_init 46 = .ok (.sipush 700, 3) := by decide +kernel
theorem dX11_init_49 : decode cX11_init 49 = .ok (.newarray .int, 2) := by decide +kernel
theorem dX11_init_51 : decode cX11_init 51 = .ok (.putfield 25, 3) := by decide +kernel
theorem dX11_init_54 : decode cX11_init 54 = .ok (.aload_n 0, 1) := by decide +kernel
theorem dX11_init_55 : decode cX11_init 55 = .ok (.sipush 700, 3) := by decide +kernel
theorem dX11_init_58 : decode cX11_init 58 = .ok (.newarray .int, 2) := by decide +kernel
theorem dX11_init_60 : decode cX11_init 60 = .ok (.putfield 28, 3) := by decide +kernel
theorem dX11_init_63 : decode cX11_init 63 = .ok (.aload_n 0, 1) := by decide +kernel
theorem dX11_init_64 : decode cX11_init 64 = .ok (.sipush 700, 3) := by decide +kernel
theorem dX11_init_67 : decode cX11_init 67 = .ok (.newarray .int, 2) := by decide +kernel
theorem dX11_init_69 : decode cX11_init 69 = .ok (.putfield 31, 3) := by decide +kernel
theorem dX11_init_72 : decode cX11_init 72 = .ok (.aload_n 0, 1) := by decide +kernel
theorem dX11_init_73 : decode cX11_init 73 = .ok (.bipush 6, 2) := by decide +kernel
theorem dX11_init_75 : decode cX11_init 75 = .ok (.newarray .int, 2) := by decide +kernel
theorem dX11_init_77 : decode cX11_init 77 = .ok (.putfield 34, 3) := by decide +kernel
theorem dX11_init_80 : decode cX11_init 80 = .ok (.aload_n 0, 1) := by decide +kernel
theorem dX11_init_81 : decode cX11_init 81 = .ok (.bipush 80, 2) := by decide +kernel
theorem dX11_init_83 : decode cX11_init 83 = .ok (.newarray .int, 2) := by decide +kernel
theorem dX11_init_85 : decode cX11_init 85 = .ok (.putfield 37, 3) := by decide +kernel
theorem dX11_init_88 : decode cX11_init 88 = .ok (.aload_n 0, 1) := by decide +kernel
theorem dX11_init_89 : decode cX11_init 89 = .ok (.iconst 3, 1) := by decide +kernel
theorem dX11_init_90 : decode cX11_init 90 = .ok (.newarray .int, 2) := by decide +kernel
theorem dX11_init_92 : decode cX11_init 92 = .ok (.putfield 40, 3) := by decide +kernel
theorem dX11_init_95 : decode cX11_init 95 = .ok (.aload_n 0, 1) := by decide +kernel
theorem dX11_init_96 : decode cX11_init 96 = .ok (.bipush 24, 2) := by decide +kernel
theorem dX11_init_98 : decode cX11_init 98 = .ok (.newarray .int, 2) := by decide +kernel
theorem dX11_init_100 : decode cX11_init 100 = .ok (.putfield 43, 3) := by decide +kernel
theorem dX11_init_103 : decode cX11_init 103 = .ok (.aload_n 0, 1) := by decide +kernel
theorem dX11_init_104 : decode cX11_init 104 = .ok (.bipush 20, 2) := by decide +kernel
theorem dX11_init_106 : decode cX11_init 106 = .ok (.newarray .int, 2) := by decide +kernel
theorem dX11_init_108 : decode cX11_init 108 = .ok (.putfield 46, 3) := by decide +kernel
theorem dX11_init_111 : decode cX11_init 111 = .ok (.aload_n 0, 1) := by decide +kernel
theorem dX11_init_112 : decode cX11_init 112 = .ok (.iconst 3, 1) := by decide +kernel
theorem dX11_init_113 : decode cX11_init 113 = .ok (.newarray .int, 2) := by decide +kernel
theorem dX11_init_115 : decode cX11_init 115 = .ok (.putfield 49, 3) := by decide +kernel
theorem dX11_init_118 : decode cX11_init 118 = .ok (.aload_n 0, 1) := by decide +kernel
theorem dX11_init_119 : decode cX11_init 119 = .ok (.bipush 24, 2) := by decide +kernel
theorem dX11_init_121 : decode cX11_init 121 = .ok (.newarray .int, 2) := by decide +kernel
theorem dX11_init_123 : decode cX11_init 123 = .ok (.putfield 52, 3) := by decide +kernel
theorem dX11_init_126 : decode cX11_init 126 = .ok (.aload_n 0, 1) := by decide +kernel
theorem dX11_init_127 : decode cX11_init 127 = .ok (.bipush 20, 2) := by decide +kernel
theorem dX11_init_129 : decode cX11_init 129 = .ok (.newarray .int, 2) := by decide +kernel
theorem dX11_init_131 : decode cX11_init 131 = .ok (.putfield 55, 3) := by decide +kernel
theorem dX11_init_134 : decode cX11_init 134 = .ok (.aload_n 0, 1) := by decide +kernel
theorem dX11_init_135 : decode cX11_init 135 = .ok (.bipush 97, 2) := by decide +kernel
theorem dX11_init_137 : decode cX11_init 137 = .ok (.newarray .int, 2) := by decide +kernel
theorem dX11_init_139 : decode cX11_init 139 = .ok (.putfield 58, 3) := by decide +kernel
theorem dX11_init_142 : decode cX11_init 142 = .ok (.aload_n 0, 1) := by decide +kernel
theorem dX11_init_143 : decode cX11_init 143 = .ok (.iconst 5, 1) := by decide +kernel
theorem dX11_init_144 : decode cX11_init 144 = .ok (.newarray .int, 2) := by decide +kernel
theorem dX11_init_146 : decode cX11_init 146 = .ok (.putfield 61, 3) := by decide +kernel
theorem dX11_init_149 : decode cX11_init 149 = .ok (.aload_n 0, 1) := by decide +kernel
theorem dX11_init_150 : decode cX11_init 150 = .ok (.iconst (-1), 1) := by decide +kernel
theorem dX11_init_151 : decode cX11_init 151 = .ok (.putfield 64, 3) := by decide +kernel
theorem dX11_init_154 : decode cX11_init 154 = .ok (.aload_n 0, 1) := by decide +kernel
theorem dX11_init_155 : decode cX11_init 155 = .ok (.sipush 3880, 3) := by decide +kernel
theorem dX11_init_158 : decode cX11_init 158 = .ok (.newarray .int, 2) := by decide +kernel
theorem dX11_init_160 : decode cX11_init 160 = .ok (.putfield 68, 3) := by decide +kernel
theorem dX11_init_163 : decode cX11_init 163 = .ok (.aload_n 0, 1) := by decide +kernel
theorem dX11_init_164 : decode cX11_init 164 = .ok (.bipush 10, 2) := by decide +kernel
theorem dX11_init_166 : decode cX11_init 166 = .ok (.newarray .int, 2) := by decide +kernel
theorem dX11_init_168 : decode cX11_init 168 = .ok (.putfield 71, 3) := by decide +kernel
theorem dX11_init_171 : decode cX11_init 171 = .ok (.aload_n 0, 1) := by decide +kernel
theorem dX11_init_172 : decode cX11_init 172 = .ok (.bipush 6, 2) := by decide +kernel
theorem dX11_init_174 : decode cX11_init 174 = .ok (.newarray .int, 2) := by decide +kernel
theorem dX11_init_176 : decode cX11_init 176 = .ok (.putfield 74, 3) := by decide +kernel
theorem dX11_init_179 : decode cX11_init 179 = .ok (.aload_n 0, 1) := by decide +kernel
theorem dX11_init_180 : decode cX11_init 180 = .ok (.iconst 5, 1) := by decide +kernel
theorem dX11_init_181 : decode cX11_init 181 = .ok (.newarray .int, 2) := by decide +kernel
theorem dX11_init_183 : decode cX11_init 183 = .ok (.putfield 77, 3) := by decide +kernel
theorem dX11_init_186 : decode cX11_init 186 = .ok (.aload_n 0, 1) := by decide +kernel
theorem dX11_init_187 : decode cX11_init 187 = .ok (.bipush 97, 2) := by decide +kernel
theorem dX11_init_189 : decode cX11_init 189 = .ok (.newarray .int, 2) := by decide +kernel
theorem dX11_init_191 : decode cX11_init 191 = .ok (.putfield 80, 3) := by decide +kernel
theorem dX11_init_194 : decode cX11_init 194 = .ok (.return_, 1) := by decide +kernel
theorem dX11_thrown_0 : decode cX11_thrown 0 = .ok (.aload_n 0, 1) := by decide +kernel
theorem dX11_thrown_1 : decode cX11_thrown 1 = .ok (.getfield 83, 3) := by decide +kernel
theorem dX11_thrown_4 : decode cX11_thrown 4 = .ok (.ireturn, 1) := by decide +kernel
theorem dX11_end_0 : decode cX11_end 0 = .ok (.iload_n 1, 1) := by decide +kernel
theorem dX11_end_1 : decode cX11_end 1 = .ok (.ifCond .lt 11, 3) := by decide +kernel
theorem dX11_end_4 : decode cX11_end 4 = .ok (.iload_n 1, 1) := by decide +kernel
theorem dX11_end_5 : decode cX11_end 5 = .ok (.aload_n 0, 1) := by decide +kernel
theorem dX11_end_6 : decode cX11_end 6 = .ok (.getfield 90, 3) := by decide +kernel
theorem dX11_end_9 : decode cX11_end 9 = .ok (.if_icmp .le 5, 3) := by decide +kernel
theorem dX11_end_12 : decode cX11_end 12 = .ok (.iconst 0, 1) := by decide +kernel
theorem dX11_end_13 : decode cX11_end 13 = .ok (.ireturn, 1) := by decide +kernel
theorem dX11_end_14 : decode cX11_end 14 = .ok (.aload_n 0, 1) := by decide +kernel
theorem dX11_end_15 : decode cX11_end 15 = .ok (.iload_n 1, 1) := by decide +kernel
theorem dX11_end_16 : decode cX11_end 16 = .ok (.putfield 90, 3) := by decide +kernel
theorem dX11_end_19 : decode cX11_end 19 = .ok (.iconst 1, 1) := by decide +kernel
theorem dX11_end_20 : decode cX11_end 20 = .ok (.ireturn, 1) := by decide +kernel
theorem dX11_here_0 : decode cX11_here 0 = .ok (.aload_n 0, 1) := by decide +kernel
theorem dX11_here_1 : decode cX11_here 1 = .ok (.getfield 93, 3) := by decide +kernel
theorem dX11_here_4 : decode cX11_here 4 = .ok (.aload_n 0, 1) := by decide +kernel
theorem dX11_here_5 : decode cX11_here 5 = .ok (.getfield 90, 3) := by decide +kernel
theorem dX11_here_8 : decode cX11_here 8 = .ok (.if_icmp .ge 15, 3) := by decide +kernel
theorem dX11_here_23 : decode cX11_here 23 = .ok (.iconst (-1), 1) := by decide +kernel
theorem dX11_here_24 : decode cX11_here 24 = .ok (.ireturn, 1) := by decide +kernel
theorem dX11_look_0 : decode cX11_look 0 = .ok (.aload_n 0, 1) := by decide +kernel
theorem dX11_look_1 : decode cX11_look 1 = .ok (.invokevirtual 96, 3) := by decide +kernel
theorem dX11_look_4 : decode cX11_look 4 = .ok (.bipush 32, 2) := by decide +kernel
theorem dX11_look_6 : decode cX11_look 6 = .ok (.if_icmp .ne 16, 3) := by decide +kernel
theorem dX11_look_22 : decode cX11_look 22 = .ok (.aload_n 0, 1) := by decide +kernel
theorem dX11_look_23 : decode cX11_look 23 = .ok (.invokevirtual 96, 3) := by decide +kernel
theorem dX11_look_26 : decode cX11_look 26 = .ok (.ireturn, 1) := by decide +kernel
theorem dX11_bad_0 : decode cX11_bad 0 = .ok (.aload_n 0, 1) := by decide +kernel
theorem dX11_bad_1 : decode cX11_bad 1 = .ok (.aload_n 0, 1) := by decide +kernel
theorem dX11_bad_2 : decode cX11_bad 2 = .ok (.getfield 100, 3) := by decide +kernel
theorem dX11_bad_5 : decode cX11_bad 5 = .ok (.iconst (-1), 1) := by decide +kernel
theorem dX11_bad_6 : decode cX11_bad 6 = .ok (.if_icmp .ne 10, 3) := by decide +kernel
theorem dX11_bad_9 : decode cX11_bad 9 = .ok (.aload_n 0, 1) := by decide +kernel
theorem dX11_bad_10 : decode cX11_bad 10 = .ok (.getfield 93, 3) := by decide +kernel
theorem dX11_bad_13 : decode cX11_bad 13 = .ok (.goto 7, 3) := by decide +kernel
theorem dX11_bad_20 : decode cX11_bad 20 = .ok (.putfield 100, 3) := by decide +kernel
theorem dX11_bad_23 : decode cX11_bad 23 = .ok (.return_, 1) := by decide +kernel
theorem dX11_clause_0 : decode cX11_clause 0 = .ok (.sipush 140, 3) := by decide +kernel
theorem dX11_clause_3 : decode cX11_clause 3 = .ok (.aload_n 0, 1) := by decide +kernel
theorem dX11_clause_4 : decode cX11_clause 4 = .ok (.getfield 103, 3) := by decide +kernel
theorem dX11_clause_7 : decode cX11_clause 7 = .ok (.imul, 1) := by decide +kernel
theorem dX11_clause_8 : decode cX11_clause 8 = .ok (.aload_n 0, 1) := by decide +kernel
theorem dX11_clause_9 : decode cX11_clause 9 = .ok (.getfield 22, 3) := by decide +kernel
theorem dX11_clause_12 : decode cX11_clause 12 = .ok (.aload_n 0, 1) := by decide +kernel
theorem dX11_clause_13 : decode cX11_clause 13 = .ok (.getfield 103, 3) := by decide +kernel
theorem dX11_clause_16 : decode cX11_clause 16 = .ok (.iaload, 1) := by decide +kernel
theorem dX11_clause_17 : decode cX11_clause 17 = .ok (.iadd, 1) := by decide +kernel
theorem dX11_clause_18 : decode cX11_clause 18 = .ok (.istore_n 1, 1) := by decide +kernel
theorem dX11_clause_19 : decode cX11_clause 19 = .ok (.aload_n 0, 1) := by decide +kernel
theorem dX11_clause_20 : decode cX11_clause 20 = .ok (.getfield 100, 3) := by decide +kernel
theorem dX11_clause_23 : decode cX11_clause 23 = .ok (.iconst (-1), 1) := by decide +kernel
theorem dX11_clause_24 : decode cX11_clause 24 = .ok (.if_icmp .ne 16, 3) := by decide +kernel
theorem dX11_clause_27 : decode cX11_clause 27 = .ok (.aload_n 0, 1) := by decide +kernel
theorem dX11_clause_28 : decode cX11_clause 28 = .ok (.invokevirtual 112, 3) := by decide +kernel
theorem dX11_clause_31 : decode cX11_clause 31 = .ok (.bipush 121, 2) := by decide +kernel
theorem dX11_clause_33 : decode cX11_clause 33 = .ok (.if_icmp .eq 7, 3) := by decide +kernel
theorem dX11_clause_36 : decode cX11_clause 36 = .ok (.aload_n 0, 1) := by decide +kernel
theorem dX11_clause_37 : decode cX11_clause 37 = .ok (.invokevirtual 109, 3) := by decide +kernel
theorem dX11_clause_40 : decode cX11_clause 40 = .ok (.aload_n 0, 1) := by decide +kernel
theorem dX11_clause_41 : decode cX11_clause 41 = .ok (.dup, 1) := by decide +kernel
theorem dX11_clause_42 : decode cX11_clause 42 = .ok (.getfield 93, 3) := by decide +kernel
theorem dX11_clause_45 : decode cX11_clause 45 = .ok (.iconst 1, 1) := by decide +kernel
theorem dX11_clause_46 : decode cX11_clause 46 = .ok (.iadd, 1) := by decide +kernel
theorem dX11_clause_47 : decode cX11_clause 47 = .ok (.putfield 93, 3) := by decide +kernel
theorem dX11_clause_50 : decode cX11_clause 50 = .ok (.aload_n 0, 1) := by decide +kernel
theorem dX11_clause_51 : decode cX11_clause 51 = .ok (.getfield 100, 3) := by decide +kernel
theorem dX11_clause_54 : decode cX11_clause 54 = .ok (.iconst (-1), 1) := by decide +kernel
theorem dX11_clause_55 : decode cX11_clause 55 = .ok (.if_icmp .ne 16, 3) := by decide +kernel
theorem dX11_clause_71 : decode cX11_clause 71 = .ok (.aload_n 0, 1) := by decide +kernel
theorem dX11_clause_72 : decode cX11_clause 72 = .ok (.dup, 1) := by decide +kernel
theorem dX11_clause_73 : decode cX11_clause 73 = .ok (.getfield 93, 3) := by decide +kernel
theorem dX11_clause_76 : decode cX11_clause 76 = .ok (.iconst 1, 1) := by decide +kernel
theorem dX11_clause_77 : decode cX11_clause 77 = .ok (.iadd, 1) := by decide +kernel
theorem dX11_clause_78 : decode cX11_clause 78 = .ok (.putfield 93, 3) := by decide +kernel
theorem dX11_clause_81 : decode cX11_clause 81 = .ok (.aload_n 0, 1) := by decide +kernel
theorem dX11_clause_82 : decode cX11_clause 82 = .ok (.getfield 100, 3) := by decide +kernel
theorem dX11_clause_85 : decode cX11_clause 85 = .ok (.iconst (-1), 1) := by decide +kernel
theorem dX11_clause_86 : decode cX11_clause 86 = .ok (.if_icmp .eq 4, 3) := by decide +kernel
theorem dX11_clause_89 : decode cX11_clause 89 = .ok (.return_, 1) := by decide +kernel
theorem dX11_open_0 : decode cX11_open 0 = .ok (.aload_n 0, 1) := by decide +kernel
theorem dX11_open_1 : decode cX11_open 1 = .ok (.iload_n 1, 1) := by decide +kernel
theorem dX11_open_2 : decode cX11_open 2 = .ok (.putfield 103, 3) := by decide +kernel
theorem dX11_open_5 : decode cX11_open 5 = .ok (.aload_n 0, 1) := by decide +kernel
theorem dX11_open_6 : decode cX11_open 6 = .ok (.iconst 0, 1) := by decide +kernel
theorem dX11_open_7 : decode cX11_open 7 = .ok (.putfield 93, 3) := by decide +kernel
theorem dX11_open_10 : decode cX11_open 10 = .ok (.aload_n 0, 1) := by decide +kernel
theorem dX11_open_11 : decode cX11_open 11 = .ok (.iconst (-1), 1) := by decide +kernel
theorem dX11_open_12 : decode cX11_open 12 = .ok (.putfield 100, 3) := by decide +kernel
theorem dX11_open_15 : decode cX11_open 15 = .ok (.aload_n 0, 1) := by decide +kernel
theorem dX11_open_16 : decode cX11_open 16 = .ok (.iconst 0, 1) := by decide +kernel
theorem dX11_open_17 : decode cX11_open 17 = .ok (.putfield 106, 3) := by decide +kernel
theorem dX11_open_20 : decode cX11_open 20 = .ok (.aload_n 0, 1) := by decide +kernel
theorem dX11_open_21 : decode cX11_open 21 = .ok (.getfield 19, 3) := by decide +kernel
theorem dX11_open_24 : decode cX11_open 24 = .ok (.iload_n 1, 1) := by decide +kernel
theorem dX11_open_25 : decode cX11_open 25 = .ok (.iconst 0, 1) := by decide +kernel
theorem dX11_open_26 : decode cX11_open 26 = .ok (.iastore, 1) := by decide +kernel
theorem dX11_open_27 : decode cX11_open 27 = .ok (.aload_n 0, 1) := by decide +kernel
theorem dX11_open_28 : decode cX11_open 28 = .ok (.getfield 22, 3) := by decide +kernel
theorem dX11_open_31 : decode cX11_open 31 = .ok (.iload_n 1, 1) := by decide +kernel
theorem dX11_open_32 : decode cX11_open 32 = .ok (.iconst 0, 1) := by decide +kernel
theorem dX11_open_33 : decode cX11_open 33 = .ok (.iastore, 1) := by decide +kernel
theorem dX11_open_34 : decode cX11_open 34 = .ok (.return_, 1) := by decide +kernel
theorem dX11_atEnd_0 : decode cX11_atEnd 0 = .ok (.aload_n 0, 1) := by decide +kernel
theorem dX11_atEnd_1 : decode cX11_atEnd 1 = .ok (.getfield 100, 3) := by decide +kernel
theorem dX11_atEnd_4 : decode cX11_atEnd 4 = .ok (.iconst (-1), 1) := by decide +kernel
theorem dX11_atEnd_5 : decode cX11_atEnd 5 = .ok (.if_icmp .ne 15, 3) := by decide +kernel
theorem dX11_atEnd_20 : decode cX11_atEnd 20 = .ok (.aload_n 0, 1) := by decide +kernel
theorem dX11_atEnd_21 : decode cX11_atEnd 21 = .ok (.getfield 100, 3) := by decide +kernel
theorem dX11_atEnd_24 : decode cX11_atEnd 24 = .ok (.ireturn, 1) := by decide +kernel
theorem dX11_readLaw_0 : decode cX11_readLaw 0 = .ok (.aload_n 0, 1) := by decide +kernel
theorem dX11_readLaw_1 : decode cX11_readLaw 1 = .ok (.iload_n 1, 1) := by decide +kernel
theorem dX11_readLaw_2 : decode cX11_readLaw 2 = .ok (.invokevirtual 164, 3) := by decide +kernel
theorem dX11_readLaw_5 : decode cX11_readLaw 5 = .ok (.aload_n 0, 1) := by decide +kernel
theorem dX11_readLaw_6 : decode cX11_readLaw 6 = .ok (.invokevirtual 167, 3) := by decide +kernel
theorem dX11_readLaw_9 : decode cX11_readLaw 9 = .ok (.aload_n 0, 1) := by decide +kernel
theorem dX11_readLaw_10 : decode cX11_readLaw 10 = .ok (.getfield 100, 3) := by decide +kernel
theorem dX11_readLaw_13 : decode cX11_readLaw 13 = .ok (.iconst (-1), 1) := by decide +kernel
theorem dX11_readLaw_14 : decode cX11_readLaw 14 = .ok (.if_icmp .ne 29, 3) := by decide +kernel
theorem dX11_readLaw_43 : decode cX11_readLaw 43 = .ok (.aload_n 0, 1) := by decide +kernel
theorem dX11_readLaw_44 : decode cX11_readLaw 44 = .ok (.invokevirtual 170, 3) := by decide +kernel
theorem dX11_readLaw_47 : decode cX11_readLaw 47 = .ok (.ireturn, 1) := by decide +kernel
theorem dX11_usual_0 : decode cX11_usual 0 = .ok (.iload_n 0, 1) := by decide +kernel
theorem dX11_usual_1 : decode cX11_usual 1 = .ok (.lookupswitch 76 #[(98, 47), (115, 27)], 27) := by decide +kernel
theorem dX11_usual_28 : decode cX11_usual 28 = .ok (.iload_n 1, 1) := by decide +kernel
theorem dX11_usual_29 : decode cX11_usual 29 = .ok (.ifCond .ne 8, 3) := by decide +kernel
theorem dX11_usual_32 : decode cX11_usual 32 = .ok (.bipush 40, 2) := by decide +kernel
theorem dX11_usual_34 : decode cX11_usual 34 = .ok (.goto 13, 3) := by decide +kernel
theorem dX11_usual_37 : decode cX11_usual 37 = .ok (.iload_n 1, 1) := by decide +kernel
theorem dX11_usual_38 : decode cX11_usual 38 = .ok (.iconst 1, 1) := by decide +kernel
theorem dX11_usual_39 : decode cX11_usual 39 = .ok (.if_icmp .ne 7, 3) := by decide +kernel
theorem dX11_usual_42 : decode cX11_usual 42 = .ok (.iconst 5, 1) := by decide +kernel
theorem dX11_usual_43 : decode cX11_usual 43 = .ok (.goto 4, 3) := by decide +kernel
theorem dX11_usual_46 : decode cX11_usual 46 = .ok (.iconst 3, 1) := by decide +kernel
theorem dX11_usual_47 : decode cX11_usual 47 = .ok (.ireturn, 1) := by decide +kernel
theorem dX11_readCourt_0 : decode cX11_readCourt 0 = .ok (.aload_n 0, 1) := by decide +kernel
theorem dX11_readCourt_1 : decode cX11_readCourt 1 = .ok (.iconst 0, 1) := by decide +kernel
theorem dX11_readCourt_2 : decode cX11_readCourt 2 = .ok (.putfield 93, 3) := by decide +kernel
theorem dX11_readCourt_5 : decode cX11_readCourt 5 = .ok (.aload_n 0, 1) := by decide +kernel
theorem dX11_readCourt_6 : decode cX11_readCourt 6 = .ok (.iconst (-1), 1) := by decide +kernel
theorem dX11_readCourt_7 : decode cX11_readCourt 7 = .ok (.putfield 100, 3) := by decide +kernel
theorem dX11_readCourt_10 : decode cX11_readCourt 10 = .ok (.aload_n 0, 1) := by decide +kernel
theorem dX11_readCourt_11 : decode cX11_readCourt 11 = .ok (.iconst 0, 1) := by decide +kernel
theorem dX11_readCourt_12 : decode cX11_readCourt 12 = .ok (.putfield 219, 3) := by decide +kernel
theorem dX11_readCourt_15 : decode cX11_readCourt 15 = .ok (.aload_n 0, 1) := by decide +kernel
theorem dX11_readCourt_16 : decode cX11_readCourt 16 = .ok (.iconst 0, 1) := by decide +kernel
theorem dX11_readCourt_17 : decode cX11_readCourt 17 = .ok (.putfield 222, 3) := by decide +kernel
theorem dX11_readCourt_20 : decode cX11_readCourt 20 = .ok (.iconst 0, 1) := by decide +kernel
theorem dX11_readCourt_21 : decode cX11_readCourt 21 = .ok (.istore_n 1, 1) := by decide +kernel
theorem dX11_readCourt_22 : decode cX11_readCourt 22 = .ok (.iconst 0, 1) := by decide +kernel
theorem dX11_readCourt_23 : decode cX11_readCourt 23 = .ok (.istore_n 2, 1) := by decide +kernel
theorem dX11_readCourt_24 : decode cX11_readCourt 24 = .ok (.iload_n 2, 1) := by decide +kernel
theorem dX11_readCourt_25 : decode cX11_readCourt 25 = .ok (.iconst 3, 1) := by decide +kernel
theorem dX11_readCourt_26 : decode cX11_readCourt 26 = .ok (.if_icmp .ge 21, 3) := by decide +kernel
theorem dX11_readCourt_29 : decode cX11_readCourt 29 = .ok (.aload_n 0, 1) := by decide +kernel
theorem dX11_readCourt_30 : decode cX11_readCourt 30 = .ok (.getfield 40, 3) := by decide +kernel
theorem dX11_readCourt_33 : decode cX11_readCourt 33 = .ok (.iload_n 2, 1) := by decide +kernel
theorem dX11_readCourt_34 : decode cX11_readCourt 34 = .ok (.bipush 115, 2) := by decide +kernel
theorem dX11_readCourt_36 : decode cX11_readCourt 36 = .ok (.iload_n 2, 1) := by decide +kernel
theorem dX11_readCourt_37 : decode cX11_readCourt 37 = .ok (.invokestatic 202, 3) := by decide +kernel
theorem dX11_readCourt_40 : decode cX11_readCourt 40 = .ok (.iastore, 1) := by decide +kernel
theorem dX11_readCourt_41 : decode cX11_readCourt 41 = .ok (.iinc 2 1, 3) := by decide +kernel
theorem dX11_readCourt_44 : decode cX11_readCourt 44 = .ok (.goto (-20), 3) := by decide +kernel
theorem dX11_readCourt_47 : decode cX11_readCourt 47 = .ok (.iconst 1, 1) := by decide +kernel
theorem dX11_readCourt_48 : decode cX11_readCourt 48 = .ok (.istore_n 2, 1) := by decide +kernel
theorem dX11_readCourt_49 : decode cX11_readCourt 49 = .ok (.iload_n 2, 1) := by decide +kernel
theorem dX11_readCourt_50 : decode cX11_readCourt 50 = .ok (.ifCond .eq 207, 3) := by decide +kernel
theorem dX11_readCourt_53 : decode cX11_readCourt 53 = .ok (.aload_n 0, 1) := by decide +kernel
theorem dX11_readCourt_54 : decode cX11_readCourt 54 = .ok (.getfield 100, 3) := by decide +kernel
theorem dX11_readCourt_57 : decode cX11_readCourt 57 = .ok (.iconst (-1), 1) := by decide +kernel
theorem dX11_readCourt_58 : decode cX11_readCourt 58 = .ok (.if_icmp .ne 199, 3) := by decide +kernel
theorem dX11_readCourt_61 : decode cX11_readCourt 61 = .ok (.aload_n 0, 1) := by decide +kernel
theorem dX11_readCourt_62 : decode cX11_readCourt 62 = .ok (.invokevirtual 112, 3) := by decide +kernel
theorem dX11_readCourt_65 : decode cX11_readCourt 65 = .ok (.istore_n 3, 1) := by decide +kernel
theorem dX11_readCourt_66 : decode cX11_readCourt 66 = .ok (.iload_n 3, 1) := by decide +kernel
theorem dX11_readCourt_67 : decode cX11_readCourt 67 = .ok (.bipush 115, 2) := by decide +kernel
theorem dX11_readCourt_69 : decode cX11_readCourt 69 = .ok (.if_icmp .ne 33, 3) := by decide +kernel
theorem dX11_readCourt_102 : decode cX11_readCourt 102 = .ok (.iload_n 3, 1) := by decide +kernel
theorem dX11_readCourt_103 : decode cX11_readCourt 103 = .ok (.bipush 98, 2) := by decide +kernel
theorem dX11_readCourt_105 : decode cX11_readCourt 105 = .ok (.if_icmp .ne 51, 3) := by decide +kernel
theorem dX11_readCourt_156 : decode cX11_readCourt 156 = .ok (.iload_n 3, 1) := by decide +kernel
theorem dX11_readCourt_157 : decode cX11_readCourt 157 = .ok (.bipush 112, 2) := by decide +kernel
theorem dX11_readCourt_159 : decode cX11_readCourt 159 = .ok (.if_icmp .ne 50, 3) := by decide +kernel
theorem dX11_readCourt_209 : decode cX11_readCourt 209 = .ok (.aload_n 0, 1) := by decide +kernel
theorem dX11_readCourt_210 : decode cX11_readCourt 210 = .ok (.invokevirtual 109, 3) := by decide +kernel
theorem dX11_readCourt_213 : decode cX11_readCourt 213 = .ok (.aload_n 0, 1) := by decide +kernel
theorem dX11_readCourt_214 : decode cX11_readCourt 214 = .ok (.getfield 100, 3) := by decide +kernel
theorem dX11_readCourt_217 : decode cX11_readCourt 217 = .ok (.iconst (-1), 1) := by decide +kernel
theorem dX11_readCourt_218 : decode cX11_readCourt 218 = .ok (.if_icmp .ne 16, 3) := by decide +kernel
theorem dX11_readCourt_234 : decode cX11_readCourt 234 = .ok (.iconst 0, 1) := by decide +kernel
theorem dX11_readCourt_235 : decode cX11_readCourt 235 = .ok (.istore_n 2, 1) := by decide +kernel
theorem dX11_readCourt_236 : decode cX11_readCourt 236 = .ok (.aload_n 0, 1) := by decide +kernel
theorem dX11_readCourt_237 : decode cX11_readCourt 237 = .ok (.dup, 1) := by decide +kernel
theorem dX11_readCourt_238 : decode cX11_readCourt 238 = .ok (.getfield 93, 3) := by decide +kernel
theorem dX11_readCourt_241 : decode cX11_readCourt 241 = .ok (.iload_n 2, 1) := by decide +kernel
theorem dX11_readCourt_242 : decode cX11_readCourt 242 = .ok (.ifCond .eq 7, 3) := by decide +kernel
theorem dX11_readCourt_249 : decode cX11_readCourt 249 = .ok (.iconst 0, 1) := by decide +kernel
theorem dX11_readCourt_250 : decode cX11_readCourt 250 = .ok (.iadd, 1) := by decide +kernel
theorem dX11_readCourt_251 : decode cX11_readCourt 251 = .ok (.putfield 93, 3) := by decide +kernel
theorem dX11_readCourt_254 : decode cX11_readCourt 254 = .ok (.goto (-205), 3) := by decide +kernel
theorem dX11_readCourt_257 : decode cX11_readCourt 257 = .ok (.aload_n 0, 1) := by decide +kernel
theorem dX11_readCourt_258 : decode cX11_readCourt 258 = .ok (.getfield 100, 3) := by decide +kernel
theorem dX11_readCourt_261 : decode cX11_readCourt 261 = .ok (.iconst (-1), 1) := by decide +kernel
theorem dX11_readCourt_262 : decode cX11_readCourt 262 = .ok (.if_icmp .ne 29, 3) := by decide +kernel
theorem dX11_readCourt_291 : decode cX11_readCourt 291 = .ok (.aload_n 0, 1) := by decide +kernel
theorem dX11_readCourt_292 : decode cX11_readCourt 292 = .ok (.getfield 100, 3) := by decide +kernel
theorem dX11_readCourt_295 : decode cX11_readCourt 295 = .ok (.ireturn, 1) := by decide +kernel
theorem dX11_fault_0 : decode cX11_fault 0 = .ok (.iload_n 1, 1) := by decide +kernel
theorem dX11_fault_1 : decode cX11_fault 1 = .ok (.ifCond .ne 10, 3) := by decide +kernel
theorem dX11_fault_4 : decode cX11_fault 4 = .ok (.aload_n 0, 1) := by decide +kernel
theorem dX11_fault_5 : decode cX11_fault 5 = .ok (.invokevirtual 229, 3) := by decide +kernel
theorem dX11_fault_8 : decode cX11_fault 8 = .ok (.goto 18, 3) := by decide +kernel
theorem dX11_fault_11 : decode cX11_fault 11 = .ok (.iload_n 1, 1) := by decide +kernel
theorem dX11_fault_12 : decode cX11_fault 12 = .ok (.iconst 1, 1) := by decide +kernel
theorem dX11_fault_13 : decode cX11_fault 13 = .ok (.if_icmp .ne 11, 3) := by decide +kernel
theorem dX11_fault_16 : decode cX11_fault 16 = .ok (.aload_n 0, 1) := by decide +kernel
theorem dX11_fault_17 : decode cX11_fault 17 = .ok (.iconst 4, 1) := by decide +kernel
theorem dX11_fault_18 : decode cX11_fault 18 = .ok (.invokevirtual 232, 3) := by decide +kernel
theorem dX11_fault_21 : decode cX11_fault 21 = .ok (.goto 5, 3) := by decide +kernel
theorem dX11_fault_24 : decode cX11_fault 24 = .ok (.bipush (-2), 2) := by decide +kernel
theorem dX11_fault_26 : decode cX11_fault 26 = .ok (.ireturn, 1) := by decide +kernel
theorem dX11_text_0 : decode cX11_text 0 = .ok (.iload_n 1, 1) := by decide +kernel
theorem dX11_text_1 : decode cX11_text 1 = .ok (.ifCond .ne 21, 3) := by decide +kernel
theorem dX11_text_4 : decode cX11_text 4 = .ok (.aload_n 0, 1) := by decide +kernel
theorem dX11_text_5 : decode cX11_text 5 = .ok (.invokevirtual 229, 3) := by decide +kernel
theorem dX11_text_8 : decode cX11_text 8 = .ok (.iconst (-1), 1) := by decide +kernel
theorem dX11_text_9 : decode cX11_text 9 = .ok (.if_icmp .ne 13, 3) := by decide +kernel
theorem dX11_text_22 : decode cX11_text 22 = .ok (.iload_n 1, 1) := by decide +kernel
theorem dX11_text_23 : decode cX11_text 23 = .ok (.iconst 1, 1) := by decide +kernel
theorem dX11_text_24 : decode cX11_text 24 = .ok (.if_icmp .ne 45, 3) := by decide +kernel
theorem dX11_text_27 : decode cX11_text 27 = .ok (.aload_n 0, 1) := by decide +kernel
theorem dX11_text_28 : decode cX11_text 28 = .ok (.getfield 257, 3) := by decide +kernel
theorem dX11_text_31 : decode cX11_text 31 = .ok (.iconst 4, 1) := by decide +kernel
theorem dX11_text_32 : decode cX11_text 32 = .ok (.if_icmp .ge 37, 3) := by decide +kernel
theorem dX11_text_35 : decode cX11_text 35 = .ok (.aload_n 0, 1) := by decide +kernel
theorem dX11_text_36 : decode cX11_text 36 = .ok (.aload_n 0, 1) := by decide +kernel
theorem dX11_text_37 : decode cX11_text 37 = .ok (.getfield 257, 3) := by decide +kernel
theorem dX11_text_40 : decode cX11_text 40 = .ok (.invokevirtual 232, 3) := by decide +kernel
theorem dX11_text_43 : decode cX11_text 43 = .ok (.iconst (-1), 1) := by decide +kernel
theorem dX11_text_44 : decode cX11_text 44 = .ok (.if_icmp .ne 25, 3) := by decide +kernel
theorem dX11_text_69 : decode cX11_text 69 = .ok (.iconst (-1), 1) := by decide +kernel
theorem dX11_text_70 : decode cX11_text 70 = .ok (.ireturn, 1) := by decide +kernel
theorem dX11_isBride_0 : decode cX11_isBride 0 = .ok (.iload_n 1, 1) := by decide +kernel
theorem dX11_isBride_1 : decode cX11_isBride 1 = .ok (.iconst 0, 1) := by decide +kernel
theorem dX11_isBride_2 : decode cX11_isBride 2 = .ok (.aload_n 0, 1) := by decide +kernel
theorem dX11_isBride_3 : decode cX11_isBride 3 = .ok (.getfield 235, 3) := by decide +kernel
theorem dX11_isBride_6 : decode cX11_isBride 6 = .ok (.iconst 1, 1) := by decide +kernel
theorem dX11_isBride_7 : decode cX11_isBride 7 = .ok (.isub, 1) := by decide +kernel
theorem dX11_isBride_8 : decode cX11_isBride 8 = .ok (.invokestatic 198, 3) := by decide +kernel
theorem dX11_isBride_11 : decode cX11_isBride 11 = .ok (.ireturn, 1) := by decide +kernel
theorem dX11_isPainter_0 : decode cX11_isPainter 0 = .ok (.iload_n 1, 1) := by decide +kernel
theorem dX11_isPainter_1 : decode cX11_isPainter 1 = .ok (.iconst 0, 1) := by decide +kernel
theorem dX11_isPainter_2 : decode cX11_isPainter 2 = .ok (.aload_n 0, 1) := by decide +kernel
theorem dX11_isPainter_3 : decode cX11_isPainter 3 = .ok (.getfield 238, 3) := by decide +kernel
theorem dX11_isPainter_6 : decode cX11_isPainter 6 = .ok (.iconst 1, 1) := by decide +kernel
theorem dX11_isPainter_7 : decode cX11_isPainter 7 = .ok (.isub, 1) := by decide +kernel
theorem dX11_isPainter_8 : decode cX11_isPainter 8 = .ok (.invokestatic 198, 3) := by decide +kernel
theorem dX11_isPainter_11 : decode cX11_isPainter 11 = .ok (.ireturn, 1) := by decide +kernel
theorem dX11_areBoth_0 : decode cX11_areBoth 0 = .ok (.aload_n 0, 1) := by decide +kernel
theorem dX11_areBoth_1 : decode cX11_areBoth 1 = .ok (.iload_n 1, 1) := by decide +kernel
theorem dX11_areBoth_2 : decode cX11_areBoth 2 = .ok (.invokevirtual 260, 3) := by decide +kernel
theorem dX11_areBoth_5 : decode cX11_areBoth 5 = .ok (.ifCond .eq 15, 3) := by decide +kernel
theorem dX11_areBoth_20 : decode cX11_areBoth 20 = .ok (.iconst 0, 1) := by decide +kernel
theorem dX11_areBoth_21 : decode cX11_areBoth 21 = .ok (.ireturn, 1) := by decide +kernel
theorem dX11_rule_0 : decode cX11_rule 0 = .ok (.aload_n 0, 1) := by decide +kernel
theorem dX11_rule_1 : decode cX11_rule 1 = .ok (.getfield 235, 3) := by decide +kernel
theorem dX11_rule_4 : decode cX11_rule 4 = .ok (.ifCond .eq 12, 3) := by decide +kernel
theorem dX11_rule_16 : decode cX11_rule 16 = .ok (.iconst (-1), 1) := by decide +kernel
theorem dX11_rule_17 : decode cX11_rule 17 = .ok (.goto 23, 3) := by decide +kernel
theorem dX11_rule_40 : decode cX11_rule 40 = .ok (.ireturn, 1) := by decide +kernel
theorem dX11_bride_0 : decode cX11_bride 0 = .ok (.aload_n 0, 1) := by decide +kernel
theorem dX11_bride_1 : decode cX11_bride 1 = .ok (.aload_n 0, 1) := by decide +kernel
theorem dX11_bride_2 : decode cX11_bride 2 = .ok (.iload_n 1, 1) := by decide +kernel
theorem dX11_bride_3 : decode cX11_bride 3 = .ok (.invokevirtual 263, 3) := by decide +kernel
theorem dX11_bride_6 : decode cX11_bride 6 = .ok (.ifCond .eq 16, 3) := by decide +kernel
theorem dX11_bride_22 : decode cX11_bride 22 = .ok (.iconst 1, 1) := by decide +kernel
theorem dX11_bride_23 : decode cX11_bride 23 = .ok (.putfield 83, 3) := by decide +kernel
theorem dX11_bride_26 : decode cX11_bride 26 = .ok (.aload_n 0, 1) := by decide +kernel
theorem dX11_bride_27 : decode cX11_bride 27 = .ok (.getfield 83, 3) := by decide +kernel
theorem dX11_bride_30 : decode cX11_bride 30 = .ok (.iconst 1, 1) := by decide +kernel
theorem dX11_bride_31 : decode cX11_bride 31 = .ok (.if_icmp .ne 5, 3) := by decide +kernel
theorem dX11_bride_34 : decode cX11_bride 34 = .ok (.iconst 0, 1) := by decide +kernel
theorem dX11_bride_35 : decode cX11_bride 35 = .ok (.ireturn, 1) := by decide +kernel
theorem dX11_painter_0 : decode cX11_painter 0 = .ok (.aload_n 0, 1) := by decide +kernel
theorem dX11_painter_1 : decode cX11_painter 1 = .ok (.iload_n 1, 1) := by decide +kernel
theorem dX11_painter_2 : decode cX11_painter 2 = .ok (.invokevirtual 260, 3) := by decide +kernel
theorem dX11_painter_5 : decode cX11_painter 5 = .ok (.ifCond .eq 12, 3) := by decide +kernel
theorem dX11_painter_17 : decode cX11_painter 17 = .ok (.iconst (-1), 1) := by decide +kernel
theorem dX11_painter_18 : decode cX11_painter 18 = .ok (.goto 26, 3) := by decide +kernel
theorem dX11_painter_44 : decode cX11_painter 44 = .ok (.ireturn, 1) := by decide +kernel
theorem dX11_law_0 : decode cX11_law 0 = .ok (.iload_n 1, 1) := by decide +kernel
theorem dX11_law_1 : decode cX11_law 1 = .ok (.iconst (-1), 1) := by decide +kernel
theorem dX11_law_2 : decode cX11_law 2 = .ok (.aload_n 0, 1) := by decide +kernel
theorem dX11_law_3 : decode cX11_law 3 = .ok (.getfield 257, 3) := by decide +kernel
theorem dX11_law_6 : decode cX11_law 6 = .ok (.iconst 1, 1) := by decide +kernel
theorem dX11_law_7 : decode cX11_law 7 = .ok (.isub, 1) := by decide +kernel
theorem dX11_law_8 : decode cX11_law 8 = .ok (.invokestatic 198, 3) := by decide +kernel
theorem dX11_law_11 : decode cX11_law 11 = .ok (.ifCond .ne 5, 3) := by decide +kernel
theorem dX11_law_14 : decode cX11_law 14 = .ok (.iconst 0, 1) := by decide +kernel
theorem dX11_law_15 : decode cX11_law 15 = .ok (.ireturn, 1) := by decide +kernel
theorem dX11_law_16 : decode cX11_law 16 = .ok (.aload_n 0, 1) := by decide +kernel
theorem dX11_law_17 : decode cX11_law 17 = .ok (.iload_n 1, 1) := by decide +kernel
theorem dX11_law_18 : decode cX11_law 18 = .ok (.putfield 64, 3) := by decide +kernel
theorem dX11_law_21 : decode cX11_law 21 = .ok (.iconst 1, 1) := by decide +kernel
theorem dX11_law_22 : decode cX11_law 22 = .ok (.ireturn, 1) := by decide +kernel
theorem dX11_flattery_0 : decode cX11_flattery 0 = .ok (.aload_n 0, 1) := by decide +kernel
theorem dX11_flattery_1 : decode cX11_flattery 1 = .ok (.iload_n 1, 1) := by decide +kernel
theorem dX11_flattery_2 : decode cX11_flattery 2 = .ok (.iload_n 2, 1) := by decide +kernel
theorem dX11_flattery_3 : decode cX11_flattery 3 = .ok (.invokevirtual 286, 3) := by decide +kernel
theorem dX11_flattery_6 : decode cX11_flattery 6 = .ok (.ifCond .eq 19, 3) := by decide +kernel
theorem dX11_flattery_25 : decode cX11_flattery 25 = .ok (.iconst (-1), 1) := by decide +kernel
theorem dX11_flattery_26 : decode cX11_flattery 26 = .ok (.ireturn, 1) := by decide +kernel
theorem dX11_shown_0 : decode cX11_shown 0 = .ok (.aload_n 0, 1) := by decide +kernel
theorem dX11_shown_1 : decode cX11_shown 1 = .ok (.iload_n 1, 1) := by decide +kernel
theorem dX11_shown_2 : decode cX11_shown 2 = .ok (.iload_n 2, 1) := by decide +kernel
theorem dX11_shown_3 : decode cX11_shown 3 = .ok (.invokevirtual 286, 3) := by decide +kernel
theorem dX11_shown_6 : decode cX11_shown 6 = .ok (.ifCond .eq 20, 3) := by decide +kernel
theorem dX11_shown_26 : decode cX11_shown 26 = .ok (.iconst (-1), 1) := by decide +kernel
theorem dX11_shown_27 : decode cX11_shown 27 = .ok (.ireturn, 1) := by decide +kernel
theorem dX11_isRefused_0 : decode cX11_isRefused 0 = .ok (.iload_n 1, 1) := by decide +kernel
theorem dX11_isRefused_1 : decode cX11_isRefused 1 = .ok (.iconst (-1), 1) := by decide +kernel
theorem dX11_isRefused_2 : decode cX11_isRefused 2 = .ok (.if_icmp .eq 13, 3) := by decide +kernel
theorem dX11_isRefused_5 : decode cX11_isRefused 5 = .ok (.aload_n 0, 1) := by decide +kernel
theorem dX11_isRefused_6 : decode cX11_isRefused 6 = .ok (.getfield 61, 3) := by decide +kernel
theorem dX11_isRefused_9 : decode cX11_isRefused 9 = .ok (.iload_n 1, 1) := by decide +kernel
theorem dX11_isRefused_10 : decode cX11_isRefused 10 = .ok (.dup2, 1) := by decide +kernel
theorem dX11_isRefused_11 : decode cX11_isRefused 11 = .ok (.iaload, 1) := by decide +kernel
theorem dX11_isRefused_12 : decode cX11_isRefused 12 = .ok (.iconst 1, 1) := by decide +kernel
theorem dX11_isRefused_13 : decode cX11_isRefused 13 = .ok (.iadd, 1) := by decide +kernel
theorem dX11_isRefused_14 : decode cX11_isRefused 14 = .ok (.iastore, 1) := by decide +kernel
theorem dX11_isRefused_15 : decode cX11_isRefused 15 = .ok (.iload_n 1, 1) := by decide +kernel
theorem dX11_isRefused_16 : decode cX11_isRefused 16 = .ok (.iconst (-1), 1) := by decide +kernel
theorem dX11_isRefused_17 : decode cX11_isRefused 17 = .ok (.if_icmp .eq 7, 3) := by decide +kernel
theorem dX11_isRefused_20 : decode cX11_isRefused 20 = .ok (.iconst 1, 1) := by decide +kernel
theorem dX11_isRefused_21 : decode cX11_isRefused 21 = .ok (.goto 4, 3) := by decide +kernel
theorem dX11_isRefused_25 : decode cX11_isRefused 25 = .ok (.ireturn, 1) := by decide +kernel
theorem dX11_paint_0 : decode cX11_paint 0 = .ok (.aload_n 0, 1) := by decide +kernel
theorem dX11_paint_1 : decode cX11_paint 1 = .ok (.aload_n 0, 1) := by decide +kernel
theorem dX11_paint_2 : decode cX11_paint 2 = .ok (.iload_n 1, 1) := by decide +kernel
theorem dX11_paint_3 : decode cX11_paint 3 = .ok (.iload_n 2, 1) := by decide +kernel
theorem dX11_paint_4 : decode cX11_paint 4 = .ok (.invokevirtual 286, 3) := by decide +kernel
theorem dX11_paint_7 : decode cX11_paint 7 = .ok (.ifCond .ne 7, 3) := by decide +kernel
theorem dX11_paint_10 : decode cX11_paint 10 = .ok (.iconst 0, 1) := by decide +kernel
theorem dX11_paint_11 : decode cX11_paint 11 = .ok (.goto 40, 3) := by decide +kernel
theorem dX11_paint_51 : decode cX11_paint 51 = .ok (.invokevirtual 295, 3) := by decide +kernel
theorem dX11_paint_54 : decode cX11_paint 54 = .ok (.ifCond .eq 5, 3) := by decide +kernel
theorem dX11_paint_57 : decode cX11_paint 57 = .ok (.iconst (-1), 1) := by decide +kernel
theorem dX11_paint_58 : decode cX11_paint 58 = .ok (.ireturn, 1) := by decide +kernel
theorem dX11_pay_0 : decode cX11_pay 0 = .ok (.aload_n 0, 1) := by decide +kernel
theorem dX11_pay_1 : decode cX11_pay 1 = .ok (.aload_n 0, 1) := by decide +kernel
theorem dX11_pay_2 : decode cX11_pay 2 = .ok (.iload_n 1, 1) := by decide +kernel
theorem dX11_pay_3 : decode cX11_pay 3 = .ok (.invokevirtual 263, 3) := by decide +kernel
theorem dX11_pay_6 : decode cX11_pay 6 = .ok (.ifCond .ne 7, 3) := by decide +kernel
theorem dX11_pay_9 : decode cX11_pay 9 = .ok (.iconst 0, 1) := by decide +kernel
theorem dX11_pay_10 : decode cX11_pay 10 = .ok (.goto 42, 3) := by decide +kernel
theorem dX11_pay_52 : decode cX11_pay 52 = .ok (.invokevirtual 295, 3) := by decide +kernel
theorem dX11_pay_55 : decode cX11_pay 55 = .ok (.ifCond .eq 5, 3) := by decide +kernel
theorem dX11_pay_58 : decode cX11_pay 58 = .ok (.iconst (-1), 1) := by decide +kernel
theorem dX11_pay_59 : decode cX11_pay 59 = .ok (.ireturn, 1) := by decide +kernel
theorem dX11_threaten_0 : decode cX11_threaten 0 = .ok (.aload_n 0, 1) := by decide +kernel
theorem dX11_threaten_1 : decode cX11_threaten 1 = .ok (.aload_n 0, 1) := by decide +kernel
theorem dX11_threaten_2 : decode cX11_threaten 2 = .ok (.iload_n 1, 1) := by decide +kernel
theorem dX11_threaten_3 : decode cX11_threaten 3 = .ok (.invokevirtual 260, 3) := by decide +kernel
theorem dX11_threaten_6 : decode cX11_threaten 6 = .ok (.ifCond .ne 7, 3) := by decide +kernel
theorem dX11_threaten_9 : decode cX11_threaten 9 = .ok (.iconst 0, 1) := by decide +kernel
theorem dX11_threaten_10 : decode cX11_threaten 10 = .ok (.goto 22, 3) := by decide +kernel
theorem dX11_threaten_32 : decode cX11_threaten 32 = .ok (.invokevirtual 295, 3) := by decide +kernel
theorem dX11_threaten_35 : decode cX11_threaten 35 = .ok (.ifCond .eq 5, 3) := by decide +kernel
theorem dX11_threaten_38 : decode cX11_threaten 38 = .ok (.iconst (-1), 1) := by decide +kernel
theorem dX11_threaten_39 : decode cX11_threaten 39 = .ok (.ireturn, 1) := by decide +kernel
theorem dX11_isTold_0 : decode cX11_isTold 0 = .ok (.aload_n 0, 1) := by decide +kernel
theorem dX11_isTold_1 : decode cX11_isTold 1 = .ok (.aload_n 0, 1) := by decide +kernel
theorem dX11_isTold_2 : decode cX11_isTold 2 = .ok (.iload_n 2, 1) := by decide +kernel
theorem dX11_isTold_3 : decode cX11_isTold 3 = .ok (.invokevirtual 263, 3) := by decide +kernel
theorem dX11_isTold_6 : decode cX11_isTold 6 = .ok (.ifCond .ne 7, 3) := by decide +kernel
theorem dX11_isTold_9 : decode cX11_isTold 9 = .ok (.iconst 0, 1) := by decide +kernel
theorem dX11_isTold_10 : decode cX11_isTold 10 = .ok (.goto 36, 3) := by decide +kernel
theorem dX11_isTold_46 : decode cX11_isTold 46 = .ok (.invokevirtual 295, 3) := by decide +kernel
theorem dX11_isTold_49 : decode cX11_isTold 49 = .ok (.ifCond .eq 5, 3) := by decide +kernel
theorem dX11_isTold_52 : decode cX11_isTold 52 = .ok (.iconst 0, 1) := by decide +kernel
theorem dX11_isTold_53 : decode cX11_isTold 53 = .ok (.ireturn, 1) := by decide +kernel
theorem dX11_letter_0 : decode cX11_letter 0 = .ok (.aload_n 0, 1) := by decide +kernel
theorem dX11_letter_1 : decode cX11_letter 1 = .ok (.bipush 11, 2) := by decide +kernel
theorem dX11_letter_3 : decode cX11_letter 3 = .ok (.iload_n 1, 1) := by decide +kernel
theorem dX11_letter_4 : decode cX11_letter 4 = .ok (.iconst 2, 1) := by decide +kernel
theorem dX11_letter_5 : decode cX11_letter 5 = .ok (.invokevirtual 304, 3) := by decide +kernel
theorem dX11_letter_8 : decode cX11_letter 8 = .ok (.ifCond .ne 7, 3) := by decide +kernel
theorem dX11_letter_11 : decode cX11_letter 11 = .ok (.iconst (-1), 1) := by decide +kernel
theorem dX11_letter_12 : decode cX11_letter 12 = .ok (.goto 18, 3) := by decide +kernel
theorem dX11_letter_30 : decode cX11_letter 30 = .ok (.ireturn, 1) := by decide +kernel
theorem dX11_shoe_0 : decode cX11_shoe 0 = .ok (.aload_n 0, 1) := by decide +kernel
theorem dX11_shoe_1 : decode cX11_shoe 1 = .ok (.bipush 12, 2) := by decide +kernel
theorem dX11_shoe_3 : decode cX11_shoe 3 = .ok (.iload_n 1, 1) := by decide +kernel
theorem dX11_shoe_4 : decode cX11_shoe 4 = .ok (.iconst 1, 1) := by decide +kernel
theorem dX11_shoe_5 : decode cX11_shoe 5 = .ok (.invokevirtual 304, 3) := by decide +kernel
theorem dX11_shoe_8 : decode cX11_shoe 8 = .ok (.ifCond .eq 14, 3) := by decide +kernel
theorem dX11_shoe_22 : decode cX11_shoe 22 = .ok (.iconst (-1), 1) := by decide +kernel
theorem dX11_shoe_23 : decode cX11_shoe 23 = .ok (.ireturn, 1) := by decide +kernel
theorem dX11_wed_0 : decode cX11_wed 0 = .ok (.aload_n 0, 1) := by decide +kernel
theorem dX11_wed_1 : decode cX11_wed 1 = .ok (.aload_n 0, 1) := by decide +kernel
theorem dX11_wed_2 : decode cX11_wed 2 = .ok (.iload_n 1, 1) := by decide +kernel
theorem dX11_wed_3 : decode cX11_wed 3 = .ok (.invokevirtual 263, 3) := by decide +kernel
theorem dX11_wed_6 : decode cX11_wed 6 = .ok (.ifCond .ne 7, 3) := by decide +kernel
theorem dX11_wed_9 : decode cX11_wed 9 = .ok (.iconst 0, 1) := by decide +kernel
theorem dX11_wed_10 : decode cX11_wed 10 = .ok (.goto 18, 3) := by decide +kernel
theorem dX11_wed_28 : decode cX11_wed 28 = .ok (.invokevirtual 295, 3) := by decide +kernel
theorem dX11_wed_31 : decode cX11_wed 31 = .ok (.ifCond .eq 5, 3) := by decide +kernel
theorem dX11_wed_34 : decode cX11_wed 34 = .ok (.iconst (-1), 1) := by decide +kernel
theorem dX11_wed_35 : decode cX11_wed 35 = .ok (.ireturn, 1) := by decide +kernel
theorem dX11_annul_0 : decode cX11_annul 0 = .ok (.aload_n 0, 1) := by decide +kernel
theorem dX11_annul_1 : decode cX11_annul 1 = .ok (.getfield 235, 3) := by decide +kernel
theorem dX11_annul_4 : decode cX11_annul 4 = .ok (.ifCond .ne 7, 3) := by decide +kernel
theorem dX11_annul_7 : decode cX11_annul 7 = .ok (.iconst (-1), 1) := by decide +kernel
theorem dX11_annul_8 : decode cX11_annul 8 = .ok (.goto 12, 3) := by decide +kernel
theorem dX11_annul_20 : decode cX11_annul 20 = .ok (.istore_n 1, 1) := by decide +kernel
theorem dX11_annul_21 : decode cX11_annul 21 = .ok (.aload_n 0, 1) := by decide +kernel
theorem dX11_annul_22 : decode cX11_annul 22 = .ok (.aload_n 0, 1) := by decide +kernel
theorem dX11_annul_23 : decode cX11_annul 23 = .ok (.getfield 235, 3) := by decide +kernel
theorem dX11_annul_26 : decode cX11_annul 26 = .ok (.ifCond .ne 7, 3) := by decide +kernel
theorem dX11_annul_29 : decode cX11_annul 29 = .ok (.iconst 0, 1) := by decide +kernel
theorem dX11_annul_30 : decode cX11_annul 30 = .ok (.goto 33, 3) := by decide +kernel
theorem dX11_annul_63 : decode cX11_annul 63 = .ok (.invokevirtual 295, 3) := by decide +kernel
theorem dX11_annul_66 : decode cX11_annul 66 = .ok (.ifCond .eq 5, 3) := by decide +kernel
theorem dX11_annul_69 : decode cX11_annul 69 = .ok (.iconst (-1), 1) := by decide +kernel
theorem dX11_annul_70 : decode cX11_annul 70 = .ok (.ireturn, 1) := by decide +kernel
theorem dX11_months_0 : decode cX11_months 0 = .ok (.aload_n 0, 1) := by decide +kernel
theorem dX11_months_1 : decode cX11_months 1 = .ok (.aload_n 0, 1) := by decide +kernel
theorem dX11_months_2 : decode cX11_months 2 = .ok (.getfield 235, 3) := by decide +kernel
theorem dX11_months_5 : decode cX11_months 5 = .ok (.ifCond .ne 7, 3) := by decide +kernel
theorem dX11_months_8 : decode cX11_months 8 = .ok (.iconst 0, 1) := by decide +kernel
theorem dX11_months_9 : decode cX11_months 9 = .ok (.goto 30, 3) := by decide +kernel
theorem dX11_months_39 : decode cX11_months 39 = .ok (.invokevirtual 295, 3) := by decide +kernel
theorem dX11_months_42 : decode cX11_months 42 = .ok (.ifCond .eq 5, 3) := by decide +kernel
theorem dX11_months_45 : decode cX11_months 45 = .ok (.iconst (-1), 1) := by decide +kernel
theorem dX11_months_46 : decode cX11_months 46 = .ok (.ireturn, 1) := by decide +kernel
theorem dX11_bribes_0 : decode cX11_bribes 0 = .ok (.iload_n 1, 1) := by decide +kernel
theorem dX11_bribes_1 : decode cX11_bribes 1 = .ok (.iconst 0, 1) := by decide +kernel
theorem dX11_bribes_2 : decode cX11_bribes 2 = .ok (.bipush 9, 2) := by decide +kernel
theorem dX11_bribes_4 : decode cX11_bribes 4 = .ok (.invokestatic 198, 3) := by decide +kernel
theorem dX11_bribes_7 : decode cX11_bribes 7 = .ok (.ifCond .eq 11, 3) := by decide +kernel
theorem dX11_bribes_10 : decode cX11_bribes 10 = .ok (.iload_n 1, 1) := by decide +kernel
theorem dX11_bribes_11 : decode cX11_bribes 11 = .ok (.aload_n 0, 1) := by decide +kernel
theorem dX11_bribes_12 : decode cX11_bribes 12 = .ok (.getfield 319, 3) := by decide +kernel
theorem dX11_bribes_15 : decode cX11_bribes 15 = .ok (.if_icmp .ne 5, 3) := by decide +kernel
theorem dX11_bribes_18 : decode cX11_bribes 18 = .ok (.iconst 0, 1) := by decide +kernel
theorem dX11_bribes_19 : decode cX11_bribes 19 = .ok (.ireturn, 1) := by decide +kernel
theorem dX11_bribes_20 : decode cX11_bribes 20 = .ok (.aload_n 0, 1) := by decide +kernel
theorem dX11_bribes_21 : decode cX11_bribes 21 = .ok (.iload_n 1, 1) := by decide +kernel
theorem dX11_bribes_22 : decode cX11_bribes 22 = .ok (.putfield 319, 3) := by decide +kernel
theorem dX11_bribes_25 : decode cX11_bribes 25 = .ok (.iconst 1, 1) := by decide +kernel
theorem dX11_bribes_26 : decode cX11_bribes 26 = .ok (.ireturn, 1) := by decide +kernel
theorem dX11_decades_0 : decode cX11_decades 0 = .ok (.aload_n 0, 1) := by decide +kernel
theorem dX11_decades_1 : decode cX11_decades 1 = .ok (.getfield 235, 3) := by decide +kernel
theorem dX11_decades_4 : decode cX11_decades 4 = .ok (.ifCond .eq 11, 3) := by decide +kernel
theorem dX11_decades_15 : decode cX11_decades 15 = .ok (.iconst (-1), 1) := by decide +kernel
theorem dX11_decades_16 : decode cX11_decades 16 = .ok (.ireturn, 1) := by decide +kernel
theorem dX11_status_0 : decode cX11_status 0 = .ok (.iload_n 1, 1) := by decide +kernel
theorem dX11_status_1 : decode cX11_status 1 = .ok (.iconst 0, 1) := by decide +kernel
theorem dX11_status_2 : decode cX11_status 2 = .ok (.iconst 4, 1) := by decide +kernel
theorem dX11_status_3 : decode cX11_status 3 = .ok (.invokestatic 198, 3) := by decide +kernel
theorem dX11_status_6 : decode cX11_status 6 = .ok (.ifCond .eq 12, 3) := by decide +kernel
theorem dX11_status_9 : decode cX11_status 9 = .ok (.aload_n 0, 1) := by decide +kernel
theorem dX11_status_10 : decode cX11_status 10 = .ok (.getfield 61, 3) := by decide +kernel
theorem dX11_status_13 : decode cX11_status 13 = .ok (.iload_n 1, 1) := by decide +kernel
theorem dX11_status_14 : decode cX11_status 14 = .ok (.iaload, 1) := by decide +kernel
theorem dX11_status_15 : decode cX11_status 15 = .ok (.goto 4, 3) := by decide +kernel
theorem dX11_status_18 : decode cX11_status 18 = .ok (.iconst (-1), 1) := by decide +kernel
theorem dX11_status_19 : decode cX11_status 19 = .ok (.ireturn, 1) := by decide +kernel
theorem dX11_undo_0 : decode cX11_undo 0 = .ok (.aload_n 0, 1) := by decide +kernel
theorem dX11_undo_1 : decode cX11_undo 1 = .ok (.getfield 247, 3) := by decide +kernel
theorem dX11_undo_4 : decode cX11_undo 4 = .ok (.ifCond .ne 5, 3) := by decide +kernel
theorem dX11_undo_7 : decode cX11_undo 7 = .ok (.iconst (-1), 1) := by decide +kernel
theorem dX11_undo_8 : decode cX11_undo 8 = .ok (.ireturn, 1) := by decide +kernel
theorem dX11_portrait_0 : decode cX11_portrait 0 = .ok (.iload_n 1, 1) := by decide +kernel
theorem dX11_portrait_1 : decode cX11_portrait 1 = .ok (.iconst 0, 1) := by decide +kernel
theorem dX11_portrait_2 : decode cX11_portrait 2 = .ok (.aload_n 0, 1) := by decide +kernel
theorem dX11_portrait_3 : decode cX11_portrait 3 = .ok (.getfield 58, 3) := by decide +kernel
theorem dX11_portrait_6 : decode cX11_portrait 6 = .ok (.bipush 16, 2) := by decide +kernel
theorem dX11_portrait_8 : decode cX11_portrait 8 = .ok (.iaload, 1) := by decide +kernel
theorem dX11_portrait_9 : decode cX11_portrait 9 = .ok (.iconst 1, 1) := by decide +kernel
theorem dX11_portrait_10 : decode cX11_portrait 10 = .ok (.isub, 1) := by decide +kernel
theorem dX11_portrait_11 : decode cX11_portrait 11 = .ok (.invokestatic 198, 3) := by decide +kernel
theorem dX11_portrait_14 : decode cX11_portrait 14 = .ok (.ifCond .eq 31, 3) := by decide +kernel
theorem dX11_portrait_45 : decode cX11_portrait 45 = .ok (.iconst (-1), 1) := by decide +kernel
theorem dX11_portrait_46 : decode cX11_portrait 46 = .ok (.ireturn, 1) := by decide +kernel
theorem dX11_fits_0 : decode cX11_fits 0 = .ok (.aload_n 0, 1) := by decide +kernel
theorem dX11_fits_1 : decode cX11_fits 1 = .ok (.iload_n 1, 1) := by decide +kernel
theorem dX11_fits_2 : decode cX11_fits 2 = .ok (.invokevirtual 263, 3) := by decide +kernel
theorem dX11_fits_5 : decode cX11_fits 5 = .ok (.ifCond .eq 11, 3) := by decide +kernel
theorem dX11_fits_16 : decode cX11_fits 16 = .ok (.iconst (-1), 1) := by decide +kernel
theorem dX11_fits_17 : decode cX11_fits 17 = .ok (.ireturn, 1) := by decide +kernel
theorem dX11_belief_0 : decode cX11_belief 0 = .ok (.aload_n 0, 1) := by decide +kernel
theorem dX11_belief_1 : decode cX11_belief 1 = .ok (.iload_n 1, 1) := by decide +kernel
theorem dX11_belief_2 : decode cX11_belief 2 = .ok (.invokevirtual 263, 3) := by decide +kernel
theorem dX11_belief_5 : decode cX11_belief 5 = .ok (.ifCond .eq 10, 3) := by decide +kernel
theorem dX11_belief_15 : decode cX11_belief 15 = .ok (.iconst (-1), 1) := by decide +kernel
theorem dX11_belief_16 : decode cX11_belief 16 = .ok (.ireturn, 1) := by decide +kernel
theorem dX11_likely_0 : decode cX11_likely 0 = .ok (.aload_n 0, 1) := by decide +kernel
theorem dX11_likely_1 : decode cX11_likely 1 = .ok (.iload_n 1, 1) := by decide +kernel
theorem dX11_likely_2 : decode cX11_likely 2 = .ok (.invokevirtual 263, 3) := by decide +kernel
theorem dX11_likely_5 : decode cX11_likely 5 = .ok (.ifCond .eq 12, 3) := by decide +kernel
theorem dX11_likely_17 : decode cX11_likely 17 = .ok (.iconst (-1), 1) := by decide +kernel
theorem dX11_likely_18 : decode cX11_likely 18 = .ok (.ireturn, 1) := by decide +kernel
theorem dX11_sure_0 : decode cX11_sure 0 = .ok (.aload_n 0, 1) := by decide +kernel
theorem dX11_sure_1 : decode cX11_sure 1 = .ok (.iload_n 1, 1) := by decide +kernel
theorem dX11_sure_2 : decode cX11_sure 2 = .ok (.invokevirtual 263, 3) := by decide +kernel
theorem dX11_sure_5 : decode cX11_sure 5 = .ok (.ifCond .eq 14, 3) := by decide +kernel
theorem dX11_sure_19 : decode cX11_sure 19 = .ok (.iconst (-1), 1) := by decide +kernel
theorem dX11_sure_20 : decode cX11_sure 20 = .ok (.goto 22, 3) := by decide +kernel
theorem dX11_sure_42 : decode cX11_sure 42 = .ok (.ireturn, 1) := by decide +kernel
theorem dX11_next_0 : decode cX11_next 0 = .ok (.iconst (-1), 1) := by decide +kernel
theorem dX11_next_1 : decode cX11_next 1 = .ok (.istore_n 2, 1) := by decide +kernel
theorem dX11_next_2 : decode cX11_next 2 = .ok (.iconst 0, 1) := by decide +kernel
theorem dX11_next_3 : decode cX11_next 3 = .ok (.istore_n 3, 1) := by decide +kernel
theorem dX11_next_4 : decode cX11_next 4 = .ok (.iconst 0, 1) := by decide +kernel
theorem dX11_next_5 : decode cX11_next 5 = .ok (.istore 4, 2) := by decide +kernel
theorem dX11_next_7 : decode cX11_next 7 = .ok (.iload 4, 2) := by decide +kernel
theorem dX11_next_9 : decode cX11_next 9 = .ok (.aload_n 0, 1) := by decide +kernel
theorem dX11_next_10 : decode cX11_next 10 = .ok (.getfield 238, 3) := by decide +kernel
theorem dX11_next_13 : decode cX11_next 13 = .ok (.if_icmp .ge 55, 3) := by decide +kernel
theorem dX11_next_68 : decode cX11_next 68 = .ok (.iload_n 2, 1) := by decide +kernel
theorem dX11_next_69 : decode cX11_next 69 = .ok (.ireturn, 1) := by decide +kernel
theorem dX11_apart_0 : decode cX11_apart 0 = .ok (.iconst (-1), 1) := by decide +kernel
theorem dX11_apart_1 : decode cX11_apart 1 = .ok (.istore_n 2, 1) := by decide +kernel
theorem dX11_apart_2 : decode cX11_apart 2 = .ok (.iconst 0, 1) := by decide +kernel
theorem dX11_apart_3 : decode cX11_apart 3 = .ok (.istore_n 3, 1) := by decide +kernel
theorem dX11_apart_4 : decode cX11_apart 4 = .ok (.iload_n 3, 1) := by decide +kernel
theorem dX11_apart_5 : decode cX11_apart 5 = .ok (.iconst 1, 1) := by decide +kernel
theorem dX11_apart_6 : decode cX11_apart 6 = .ok (.aload_n 0, 1) := by decide +kernel
theorem dX11_apart_7 : decode cX11_apart 7 = .ok (.getfield 238, 3) := by decide +kernel
theorem dX11_apart_10 : decode cX11_apart 10 = .ok (.ishl, 1) := by decide +kernel
theorem dX11_apart_11 : decode cX11_apart 11 = .ok (.if_icmp .ge 68, 3) := by decide +kernel
theorem dX11_apart_14 : decode cX11_apart 14 = .ok (.aload_n 0, 1) := by decide +kernel
theorem dX11_apart_15 : decode cX11_apart 15 = .ok (.iload_n 1, 1) := by decide +kernel
theorem dX11_apart_16 : decode cX11_apart 16 = .ok (.invokevirtual 263, 3) := by decide +kernel
theorem dX11_apart_19 : decode cX11_apart 19 = .ok (.ifCond .eq 60, 3) := by decide +kernel
theorem dX11_apart_79 : decode cX11_apart 79 = .ok (.iload_n 2, 1) := by decide +kernel
theorem dX11_apart_80 : decode cX11_apart 80 = .ok (.ireturn, 1) := by decide +kernel
theorem dX11_worth_0 : decode cX11_worth 0 = .ok (.aload_n 0, 1) := by decide +kernel
theorem dX11_worth_1 : decode cX11_worth 1 = .ok (.iload_n 1, 1) := by decide +kernel
theorem dX11_worth_2 : decode cX11_worth 2 = .ok (.invokevirtual 263, 3) := by decide +kernel
theorem dX11_worth_5 : decode cX11_worth 5 = .ok (.ifCond .eq 19, 3) := by decide +kernel
theorem dX11_worth_24 : decode cX11_worth 24 = .ok (.iconst (-1), 1) := by decide +kernel
theorem dX11_worth_25 : decode cX11_worth 25 = .ok (.ireturn, 1) := by decide +kernel
theorem dX11_chooses_0 : decode cX11_chooses 0 = .ok (.aload_n 0, 1) := by decide +kernel
theorem dX11_chooses_1 : decode cX11_chooses 1 = .ok (.getfield 235, 3) := by decide +kernel
theorem dX11_chooses_4 : decode cX11_chooses 4 = .ok (.ifCond .eq 12, 3) := by decide +kernel
theorem dX11_chooses_16 : decode cX11_chooses 16 = .ok (.iconst (-1), 1) := by decide +kernel
theorem dX11_chooses_17 : decode cX11_chooses 17 = .ok (.ireturn, 1) := by decide +kernel
theorem dX11_areTwo_0 : decode cX11_areTwo 0 = .ok (.aload_n 0, 1) := by decide +kernel
theorem dX11_areTwo_1 : decode cX11_areTwo 1 = .ok (.iload_n 1, 1) := by decide +kernel
theorem dX11_areTwo_2 : decode cX11_areTwo 2 = .ok (.invokevirtual 263, 3) := by decide +kernel
theorem dX11_areTwo_5 : decode cX11_areTwo 5 = .ok (.ifCond .eq 28, 3) := by decide +kernel
theorem dX11_areTwo_33 : decode cX11_areTwo 33 = .ok (.iconst 0, 1) := by decide +kernel
theorem dX11_areTwo_34 : decode cX11_areTwo 34 = .ok (.ireturn, 1) := by decide +kernel
theorem dX11_game_0 : decode cX11_game 0 = .ok (.aload_n 0, 1) := by decide +kernel
theorem dX11_game_1 : decode cX11_game 1 = .ok (.iload_n 1, 1) := by decide +kernel
theorem dX11_game_2 : decode cX11_game 2 = .ok (.iload_n 2, 1) := by decide +kernel
theorem dX11_game_3 : decode cX11_game 3 = .ok (.iload_n 3, 1) := by decide +kernel
theorem dX11_game_4 : decode cX11_game 4 = .ok (.invokevirtual 383, 3) := by decide +kernel
theorem dX11_game_7 : decode cX11_game 7 = .ok (.ifCond .eq 35, 3) := by decide +kernel
theorem dX11_game_42 : decode cX11_game 42 = .ok (.ldc_w 386, 3) := by decide +kernel
theorem dX11_game_45 : decode cX11_game 45 = .ok (.ireturn, 1) := by decide +kernel
theorem dX11_rests_0 : decode cX11_rests 0 = .ok (.aload_n 0, 1) := by decide +kernel
theorem dX11_rests_1 : decode cX11_rests 1 = .ok (.iload_n 1, 1) := by decide +kernel
theorem dX11_rests_2 : decode cX11_rests 2 = .ok (.iload_n 2, 1) := by decide +kernel
theorem dX11_rests_3 : decode cX11_rests 3 = .ok (.iload_n 3, 1) := by decide +kernel
theorem dX11_rests_4 : decode cX11_rests 4 = .ok (.invokevirtual 383, 3) := by decide +kernel
theorem dX11_rests_7 : decode cX11_rests 7 = .ok (.ifCond .eq 9, 3) := by decide +kernel
theorem dX11_rests_16 : decode cX11_rests 16 = .ok (.iconst (-1), 1) := by decide +kernel
theorem dX11_rests_17 : decode cX11_rests 17 = .ok (.ireturn, 1) := by decide +kernel
theorem dX11_truth_0 : decode cX11_truth 0 = .ok (.aload_n 0, 1) := by decide +kernel
theorem dX11_truth_1 : decode cX11_truth 1 = .ok (.iload_n 1, 1) := by decide +kernel
theorem dX11_truth_2 : decode cX11_truth 2 = .ok (.iload_n 2, 1) := by decide +kernel
theorem dX11_truth_3 : decode cX11_truth 3 = .ok (.invokevirtual 286, 3) := by decide +kernel
theorem dX11_truth_6 : decode cX11_truth 6 = .ok (.ifCond .ne 7, 3) := by decide +kernel
theorem dX11_truth_9 : decode cX11_truth 9 = .ok (.iconst (-1), 1) := by decide +kernel
theorem dX11_truth_10 : decode cX11_truth 10 = .ok (.goto 44, 3) := by decide +kernel
theorem dX11_truth_54 : decode cX11_truth 54 = .ok (.ireturn, 1) := by decide +kernel
theorem dX11_cheapest_0 : decode cX11_cheapest 0 = .ok (.aload_n 0, 1) := by decide +kernel
theorem dX11_cheapest_1 : decode cX11_cheapest 1 = .ok (.getfield 235, 3) := by decide +kernel
theorem dX11_cheapest_4 : decode cX11_cheapest 4 = .ok (.ifCond .eq 28, 3) := by decide +kernel
theorem dX11_cheapest_32 : decode cX11_cheapest 32 = .ok (.iconst (-1), 1) := by decide +kernel
theorem dX11_cheapest_33 : decode cX11_cheapest 33 = .ok (.ireturn, 1) := by decide +kernel
theorem dX11_looks_0 : decode cX11_looks 0 = .ok (.aload_n 0, 1) := by decide +kernel
theorem dX11_looks_1 : decode cX11_looks 1 = .ok (.iload_n 1, 1) := by decide +kernel
theorem dX11_looks_2 : decode cX11_looks 2 = .ok (.invokevirtual 263, 3) := by decide +kernel
theorem dX11_looks_5 : decode cX11_looks 5 = .ok (.ifCond .eq 26, 3) := by decide +kernel
theorem dX11_looks_31 : decode cX11_looks 31 = .ok (.ldc_w 386, 3) := by decide +kernel
theorem dX11_looks_34 : decode cX11_looks 34 = .ok (.ireturn, 1) := by decide +kernel
theorem dX11_whose_0 : decode cX11_whose 0 = .ok (.aload_n 0, 1) := by decide +kernel
theorem dX11_whose_1 : decode cX11_whose 1 = .ok (.iload_n 1, 1) := by decide +kernel
theorem dX11_whose_2 : decode cX11_whose 2 = .ok (.invokevirtual 260, 3) := by decide +kernel
theorem dX11_whose_5 : decode cX11_whose 5 = .ok (.ifCond .eq 13, 3) := by decide +kernel
theorem dX11_whose_18 : decode cX11_whose 18 = .ok (.iconst (-1), 1) := by decide +kernel
theorem dX11_whose_19 : decode cX11_whose 19 = .ok (.ireturn, 1) := by decide +kernel
theorem dX11_heads_0 : decode cX11_heads 0 = .ok (.aload_n 0, 1) := by decide +kernel
theorem dX11_heads_1 : decode cX11_heads 1 = .ok (.iload_n 1, 1) := by decide +kernel
theorem dX11_heads_2 : decode cX11_heads 2 = .ok (.invokevirtual 260, 3) := by decide +kernel
theorem dX11_heads_5 : decode cX11_heads 5 = .ok (.ifCond .eq 23, 3) := by decide +kernel
theorem dX11_heads_28 : decode cX11_heads 28 = .ok (.iconst (-1), 1) := by decide +kernel
theorem dX11_heads_29 : decode cX11_heads 29 = .ok (.ireturn, 1) := by decide +kernel
theorem dX11_matched_0 : decode cX11_matched 0 = .ok (.aload_n 0, 1) := by decide +kernel
theorem dX11_matched_1 : decode cX11_matched 1 = .ok (.iload_n 1, 1) := by decide +kernel
theorem dX11_matched_2 : decode cX11_matched 2 = .ok (.invokevirtual 263, 3) := by decide +kernel
theorem dX11_matched_5 : decode cX11_matched 5 = .ok (.ifCond .ne 5, 3) := by decide +kernel
theorem dX11_matched_8 : decode cX11_matched 8 = .ok (.iconst (-1), 1) := by decide +kernel
theorem dX11_matched_9 : decode cX11_matched 9 = .ok (.ireturn, 1) := by decide +kernel
theorem dX11_most_0 : decode cX11_most 0 = .ok (.aload_n 0, 1) := by decide +kernel
theorem dX11_most_1 : decode cX11_most 1 = .ok (.getfield 235, 3) := by decide +kernel
theorem dX11_most_4 : decode cX11_most 4 = .ok (.ifCond .eq 12, 3) := by decide +kernel
theorem dX11_most_16 : decode cX11_most 16 = .ok (.iconst (-1), 1) := by decide +kernel
theorem dX11_most_17 : decode cX11_most 17 = .ok (.ireturn, 1) := by decide +kernel
theorem dX11_seen_0 : decode cX11_seen 0 = .ok (.aload_n 0, 1) := by decide +kernel
theorem dX11_seen_1 : decode cX11_seen 1 = .ok (.iload_n 1, 1) := by decide +kernel
theorem dX11_seen_2 : decode cX11_seen 2 = .ok (.invokevirtual 263, 3) := by decide +kernel
theorem dX11_seen_5 : decode cX11_seen 5 = .ok (.ifCond .eq 11, 3) := by decide +kernel
theorem dX11_seen_16 : decode cX11_seen 16 = .ok (.iconst (-1), 1) := by decide +kernel
theorem dX11_seen_17 : decode cX11_seen 17 = .ok (.ireturn, 1) := by decide +kernel
theorem dX11_saves_0 : decode cX11_saves 0 = .ok (.aload_n 0, 1) := by decide +kernel
theorem dX11_saves_1 : decode cX11_saves 1 = .ok (.getfield 235, 3) := by decide +kernel
theorem dX11_saves_4 : decode cX11_saves 4 = .ok (.ifCond .le 30, 3) := by decide +kernel
theorem dX11_saves_34 : decode cX11_saves 34 = .ok (.iconst (-1), 1) := by decide +kernel
theorem dX11_saves_35 : decode cX11_saves 35 = .ok (.ireturn, 1) := by decide +kernel
theorem dX11_rivals_0 : decode cX11_rivals 0 = .ok (.aload_n 0, 1) := by decide +kernel
theorem dX11_rivals_1 : decode cX11_rivals 1 = .ok (.iload_n 1, 1) := by decide +kernel
theorem dX11_rivals_2 : decode cX11_rivals 2 = .ok (.invokevirtual 263, 3) := by decide +kernel
theorem dX11_rivals_5 : decode cX11_rivals 5 = .ok (.ifCond .ne 5, 3) := by decide +kernel
theorem dX11_rivals_8 : decode cX11_rivals 8 = .ok (.iconst (-1), 1) := by decide +kernel
theorem dX11_rivals_9 : decode cX11_rivals 9 = .ok (.ireturn, 1) := by decide +kernel
theorem dX11_affords_0 : decode cX11_affords 0 = .ok (.aload_n 0, 1) := by decide +kernel
theorem dX11_affords_1 : decode cX11_affords 1 = .ok (.iload_n 1, 1) := by decide +kernel
theorem dX11_affords_2 : decode cX11_affords 2 = .ok (.invokevirtual 260, 3) := by decide +kernel
theorem dX11_affords_5 : decode cX11_affords 5 = .ok (.ifCond .ne 5, 3) := by decide +kernel
theorem dX11_affords_8 : decode cX11_affords 8 = .ok (.iconst (-1), 1) := by decide +kernel
theorem dX11_affords_9 : decode cX11_affords 9 = .ok (.ireturn, 1) := by decide +kernel
theorem dX11_told_0 : decode cX11_told 0 = .ok (.iconst 0, 1) := by decide +kernel
theorem dX11_told_1 : decode cX11_told 1 = .ok (.istore_n 2, 1) := by decide +kernel
theorem dX11_told_2 : decode cX11_told 2 = .ok (.iconst 0, 1) := by decide +kernel
theorem dX11_told_3 : decode cX11_told 3 = .ok (.istore_n 3, 1) := by decide +kernel
theorem dX11_told_4 : decode cX11_told 4 = .ok (.iconst 0, 1) := by decide +kernel
theorem dX11_told_5 : decode cX11_told 5 = .ok (.istore 4, 2) := by decide +kernel
theorem dX11_told_7 : decode cX11_told 7 = .ok (.iload 4, 2) := by decide +kernel
theorem dX11_told_9 : decode cX11_told 9 = .ok (.aload_n 0, 1) := by decide +kernel
theorem dX11_told_10 : decode cX11_told 10 = .ok (.getfield 58, 3) := by decide +kernel
theorem dX11_told_13 : decode cX11_told 13 = .ok (.bipush 16, 2) := by decide +kernel
theorem dX11_told_15 : decode cX11_told 15 = .ok (.iaload, 1) := by decide +kernel
theorem dX11_told_16 : decode cX11_told 16 = .ok (.if_icmp .ge 46, 3) := by decide +kernel
theorem dX11_told_62 : decode cX11_told 62 = .ok (.aload_n 0, 1) := by decide +kernel
theorem dX11_told_63 : decode cX11_told 63 = .ok (.iload_n 1, 1) := by decide +kernel
theorem dX11_told_64 : decode cX11_told 64 = .ok (.invokevirtual 260, 3) := by decide +kernel
theorem dX11_told_67 : decode cX11_told 67 = .ok (.ifCond .eq 7, 3) := by decide +kernel
theorem dX11_told_74 : decode cX11_told 74 = .ok (.ldc_w 386, 3) := by decide +kernel
theorem dX11_told_77 : decode cX11_told 77 = .ok (.goto 4, 3) := by decide +kernel
theorem dX11_told_81 : decode cX11_told 81 = .ok (.ireturn, 1) := by decide +kernel
theorem dX11_image_0 : decode cX11_image 0 = .ok (.aload_n 0, 1) := by decide +kernel
theorem dX11_image_1 : decode cX11_image 1 = .ok (.getfield 235, 3) := by decide +kernel
theorem dX11_image_4 : decode cX11_image 4 = .ok (.ifCond .ne 5, 3) := by decide +kernel
theorem dX11_image_7 : decode cX11_image 7 = .ok (.iconst (-1), 1) := by decide +kernel
theorem dX11_image_8 : decode cX11_image 8 = .ok (.ireturn, 1) := by decide +kernel
theorem dX11_back_0 : decode cX11_back 0 = .ok (.aload_n 0, 1) := by decide +kernel
theorem dX11_back_1 : decode cX11_back 1 = .ok (.getfield 250, 3) := by decide +kernel
theorem dX11_back_4 : decode cX11_back 4 = .ok (.ifCond .ne 5, 3) := by decide +kernel
theorem dX11_back_7 : decode cX11_back 7 = .ok (.iconst (-1), 1) := by decide +kernel
theorem dX11_back_8 : decode cX11_back 8 = .ok (.ireturn, 1) := by decide +kernel
theorem dX11_count_0 : decode cX11_count 0 = .ok (.iload_n 1, 1) := by decide +kernel
theorem dX11_count_1 : decode cX11_count 1 = .ok (.tableswitch 127 0 9 #[55, 60, 65, 70, 75, 80, 88, 109, 117, 122], 55) := by decide +kernel
theorem dX11_count_56 : decode cX11_count 56 = .ok (.aload_n 0, 1) := by decide +kernel
theorem dX11_count_57 : decode cX11_count 57 = .ok (.getfield 235, 3) := by decide +kernel
theorem dX11_count_60 : decode cX11_count 60 = .ok (.ireturn, 1) := by decide +kernel
theorem dX11_count_61 : decode cX11_count 61 = .ok (.aload_n 0, 1) := by decide +kernel
theorem dX11_count_62 : decode cX11_count 62 = .ok (.getfield 238, 3) := by decide +kernel
theorem dX11_count_65 : decode cX11_count 65 = .ok (.ireturn, 1) := by decide +kernel
theorem dX11_count_66 : decode cX11_count 66 = .ok (.aload_n 0, 1) := by decide +kernel
theorem dX11_count_67 : decode cX11_count 67 = .ok (.getfield 257, 3) := by decide +kernel
theorem dX11_count_70 : decode cX11_count 70 = .ok (.ireturn, 1) := by decide +kernel
theorem dX11_count_71 : decode cX11_count 71 = .ok (.aload_n 0, 1) := by decide +kernel
theorem dX11_count_72 : decode cX11_count 72 = .ok (.getfield 90, 3) := by decide +kernel
theorem dX11_count_75 : decode cX11_count 75 = .ok (.ireturn, 1) := by decide +kernel
theorem dX11_count_76 : decode cX11_count 76 = .ok (.aload_n 0, 1) := by decide +kernel
theorem dX11_count_77 : decode cX11_count 77 = .ok (.getfield 64, 3) := by decide +kernel
theorem dX11_count_80 : decode cX11_count 80 = .ok (.ireturn, 1) := by decide +kernel
theorem dX11_count_81 : decode cX11_count 81 = .ok (.aload_n 0, 1) := by decide +kernel
theorem dX11_count_82 : decode cX11_count 82 = .ok (.getfield 58, 3) := by decide +kernel
theorem dX11_count_85 : decode cX11_count 85 = .ok (.bipush 15, 2) := by decide +kernel
theorem dX11_count_87 : decode cX11_count 87 = .ok (.iaload, 1) := by decide +kernel
theorem dX11_count_88 : decode cX11_count 88 = .ok (.ireturn, 1) := by decide +kernel
theorem dX11_count_89 : decode cX11_count 89 = .ok (.aload_n 0, 1) := by decide +kernel
theorem dX11_count_90 : decode cX11_count 90 = .ok (.getfield 235, 3) := by decide +kernel
theorem dX11_count_93 : decode cX11_count 93 = .ok (.ifCond .ne 7, 3) := by decide +kernel
theorem dX11_count_96 : decode cX11_count 96 = .ok (.iconst (-1), 1) := by decide +kernel
theorem dX11_count_97 : decode cX11_count 97 = .ok (.goto 12, 3) := by decide +kernel
theorem dX11_count_109 : decode cX11_count 109 = .ok (.ireturn, 1) := by decide +kernel
theorem dX11_count_110 : decode cX11_count 110 = .ok (.aload_n 0, 1) := by decide +kernel
theorem dX11_count_111 : decode cX11_count 111 = .ok (.getfield 58, 3) := by decide +kernel
theorem dX11_count_114 : decode cX11_count 114 = .ok (.bipush 16, 2) := by decide +kernel
theorem dX11_count_116 : decode cX11_count 116 = .ok (.iaload, 1) := by decide +kernel
theorem dX11_count_117 : decode cX11_count 117 = .ok (.ireturn, 1) := by decide +kernel
theorem dX11_count_118 : decode cX11_count 118 = .ok (.aload_n 0, 1) := by decide +kernel
theorem dX11_count_119 : decode cX11_count 119 = .ok (.getfield 319, 3) := by decide +kernel
theorem dX11_count_122 : decode cX11_count 122 = .ok (.ireturn, 1) := by decide +kernel
theorem dX11_count_123 : decode cX11_count 123 = .ok (.aload_n 0, 1) := by decide +kernel
theorem dX11_count_124 : decode cX11_count 124 = .ok (.getfield 247, 3) := by decide +kernel
theorem dX11_count_127 : decode cX11_count 127 = .ok (.ireturn, 1) := by decide +kernel
theorem dX11_count_128 : decode cX11_count 128 = .ok (.ldc_w 386, 3) := by decide +kernel
theorem dX11_count_131 : decode cX11_count 131 = .ok (.ireturn, 1) := by decide +kernel
