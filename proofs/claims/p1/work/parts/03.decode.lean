theorem dX0_init_0 : decode cX0_init 0 = .ok (.aload_n 0, 1) := by decide +kernel
theorem dX0_init_1 : decode cX0_init 1 = .ok (.invokespecial 3, 3) := by decide +kernel
theorem dX0_init_4 : decode cX0_init 4 = .ok (.aload_n 0, 1) := by decide +kernel
theorem dX0_init_5 : decode cX0_init 5 = .ok (.sipush 680, 3) := by decide +kernel
theorem dX0_init_8 : decode cX0_init 8 = .ok (.newarray .int, 2) := by decide +kernel
theorem dX0_init_10 : decode cX0_init 10 = .ok (.putfield 11, 3) := by decide +kernel
theorem dX0_init_13 : decode cX0_init 13 = .ok (.return_, 1) := by decide +kernel
theorem dX0_takeBack_0 : decode cX0_takeBack 0 = .ok (.aload_n 0, 1) := by decide +kernel
theorem dX0_takeBack_1 : decode cX0_takeBack 1 = .ok (.getfield 25, 3) := by decide +kernel
theorem dX0_takeBack_4 : decode cX0_takeBack 4 = .ok (.ifCond .ne 5, 3) := by decide +kernel
theorem dX0_takeBack_7 : decode cX0_takeBack 7 = .ok (.iconst 0, 1) := by decide +kernel
theorem dX0_takeBack_8 : decode cX0_takeBack 8 = .ok (.ireturn, 1) := by decide +kernel
theorem dX1_init_0 : decode cX1_init 0 = .ok (.aload_n 0, 1) := by decide +kernel
theorem dX1_init_1 : decode cX1_init 1 = .ok (.invokespecial 3, 3) := by decide +kernel
theorem dX1_init_4 : decode cX1_init 4 = .ok (.aload_n 0, 1) := by decide +kernel
theorem dX1_init_5 : decode cX1_init 5 = .ok (.iconst 3, 1) := by decide +kernel
theorem dX1_init_6 : decode cX1_init 6 = .ok (.newarray .int, 2) := by decide +kernel
theorem dX1_init_8 : decode cX1_init 8 = .ok (.putfield 9, 3) := by decide +kernel
theorem dX1_init_11 : decode cX1_init 11 = .ok (.aload_n 0, 1) := by decide +kernel
theorem dX1_init_12 : decode cX1_init 12 = .ok (.bipush 24, 2) := by decide +kernel
theorem dX1_init_14 : decode cX1_init 14 = .ok (.newarray .int, 2) := by decide +kernel
theorem dX1_init_16 : decode cX1_init 16 = .ok (.putfield 15, 3) := by decide +kernel
theorem dX1_init_19 : decode cX1_init 19 = .ok (.aload_n 0, 1) := by decide +kernel
theorem dX1_init_20 : decode cX1_init 20 = .ok (.bipush 20, 2) := by decide +kernel
theorem dX1_init_22 : decode cX1_init 22 = .ok (.newarray .int, 2) := by decide +kernel
theorem dX1_init_24 : decode cX1_init 24 = .ok (.putfield 18, 3) := by decide +kernel
theorem dX1_init_27 : decode cX1_init 27 = .ok (.return_, 1) := by decide +kernel
theorem dX2_init_0 : decode cX2_init 0 = .ok (.aload_n 0, 1) := by decide +kernel
theorem dX2_init_1 : decode cX2_init 1 = .ok (.invokespecial 3, 3) := by decide +kernel
theorem dX2_init_4 : decode cX2_init 4 = .ok (.return_, 1) := by decide +kernel
theorem dX2_read_0 : decode cX2_read 0 = .ok (.aload_n 0, 1) := by decide +kernel
theorem dX2_read_1 : decode cX2_read 1 = .ok (.aload_n 1, 1) := by decide +kernel
theorem dX2_read_2 : decode cX2_read 2 = .ok (.putfield 9, 3) := by decide +kernel
theorem dX2_read_5 : decode cX2_read 5 = .ok (.aload_n 0, 1) := by decide +kernel
theorem dX2_read_6 : decode cX2_read 6 = .ok (.aload_n 2, 1) := by decide +kernel
theorem dX2_read_7 : decode cX2_read 7 = .ok (.putfield 15, 3) := by decide +kernel
theorem dX2_read_10 : decode cX2_read 10 = .ok (.aload_n 0, 1) := by decide +kernel
theorem dX2_read_11 : decode cX2_read 11 = .ok (.getfield 9, 3) := by decide +kernel
theorem dX2_read_14 : decode cX2_read 14 = .ok (.iconst 0, 1) := by decide +kernel
theorem dX2_read_15 : decode cX2_read 15 = .ok (.putfield 19, 3) := by decide +kernel
theorem dX2_read_18 : decode cX2_read 18 = .ok (.aload_n 0, 1) := by decide +kernel
theorem dX2_read_19 : decode cX2_read 19 = .ok (.getfield 15, 3) := by decide +kernel
theorem dX2_read_22 : decode cX2_read 22 = .ok (.iconst 0, 1) := by decide +kernel
theorem dX2_read_23 : decode cX2_read 23 = .ok (.putfield 25, 3) := by decide +kernel
theorem dX2_read_26 : decode cX2_read 26 = .ok (.aload_n 0, 1) := by decide +kernel
theorem dX2_read_27 : decode cX2_read 27 = .ok (.getfield 15, 3) := by decide +kernel
theorem dX2_read_30 : decode cX2_read 30 = .ok (.iconst 0, 1) := by decide +kernel
theorem dX2_read_31 : decode cX2_read 31 = .ok (.putfield 30, 3) := by decide +kernel
theorem dX2_read_34 : decode cX2_read 34 = .ok (.aload_n 0, 1) := by decide +kernel
theorem dX2_read_35 : decode cX2_read 35 = .ok (.iconst 0, 1) := by decide +kernel
theorem dX2_read_36 : decode cX2_read 36 = .ok (.putfield 33, 3) := by decide +kernel
theorem dX2_read_39 : decode cX2_read 39 = .ok (.getstatic 37, 3) := by decide +kernel
theorem dX2_read_42 : decode cX2_read 42 = .ok (.iconst 0, 1) := by decide +kernel
theorem dX2_read_43 : decode cX2_read 43 = .ok (.aload_n 0, 1) := by decide +kernel
theorem dX2_read_44 : decode cX2_read 44 = .ok (.getfield 15, 3) := by decide +kernel
theorem dX2_read_47 : decode cX2_read 47 = .ok (.getfield 41, 3) := by decide +kernel
theorem dX2_read_50 : decode cX2_read 50 = .ok (.iconst 0, 1) := by decide +kernel
theorem dX2_read_51 : decode cX2_read 51 = .ok (.getstatic 37, 3) := by decide +kernel
theorem dX2_read_54 : decode cX2_read 54 = .ok (.arraylength, 1) := by decide +kernel
theorem dX2_read_55 : decode cX2_read 55 = .ok (.invokestatic 44, 3) := by decide +kernel
theorem dX2_read_58 : decode cX2_read 58 = .ok (.aload_n 0, 1) := by decide +kernel
theorem dX2_read_59 : decode cX2_read 59 = .ok (.invokevirtual 50, 3) := by decide +kernel
theorem dX2_read_62 : decode cX2_read 62 = .ok (.istore_n 3, 1) := by decide +kernel
theorem dX2_read_63 : decode cX2_read 63 = .ok (.iconst 0, 1) := by decide +kernel
theorem dX2_read_64 : decode cX2_read 64 = .ok (.istore 4, 2) := by decide +kernel
theorem dX2_read_66 : decode cX2_read 66 = .ok (.iload 4, 2) := by decide +kernel
theorem dX2_read_68 : decode cX2_read 68 = .ok (.aload_n 0, 1) := by decide +kernel
theorem dX2_read_69 : decode cX2_read 69 = .ok (.getfield 9, 3) := by decide +kernel
theorem dX2_read_72 : decode cX2_read 72 = .ok (.getfield 54, 3) := by decide +kernel
theorem dX2_read_75 : decode cX2_read 75 = .ok (.if_icmp .ge 30, 3) := by decide +kernel
theorem dX2_read_105 : decode cX2_read 105 = .ok (.iload_n 3, 1) := by decide +kernel
theorem dX2_read_106 : decode cX2_read 106 = .ok (.ifCond .eq 35, 3) := by decide +kernel
theorem dX2_read_141 : decode cX2_read 141 = .ok (.aload_n 0, 1) := by decide +kernel
theorem dX2_read_142 : decode cX2_read 142 = .ok (.getfield 9, 3) := by decide +kernel
theorem dX2_read_145 : decode cX2_read 145 = .ok (.getfield 19, 3) := by decide +kernel
theorem dX2_read_148 : decode cX2_read 148 = .ok (.ireturn, 1) := by decide +kernel
theorem dX2_clause_0 : decode cX2_clause 0 = .ok (.aload_n 0, 1) := by decide +kernel
theorem dX2_clause_1 : decode cX2_clause 1 = .ok (.getfield 9, 3) := by decide +kernel
theorem dX2_clause_4 : decode cX2_clause 4 = .ok (.invokevirtual 61, 3) := by decide +kernel
theorem dX2_clause_7 : decode cX2_clause 7 = .ok (.istore_n 1, 1) := by decide +kernel
theorem dX2_clause_8 : decode cX2_clause 8 = .ok (.iload_n 1, 1) := by decide +kernel
theorem dX2_clause_9 : decode cX2_clause 9 = .ok (.bipush 115, 2) := by decide +kernel
theorem dX2_clause_11 : decode cX2_clause 11 = .ok (.if_icmp .ne 47, 3) := by decide +kernel
theorem dX2_clause_58 : decode cX2_clause 58 = .ok (.iload_n 1, 1) := by decide +kernel
theorem dX2_clause_59 : decode cX2_clause 59 = .ok (.bipush 98, 2) := by decide +kernel
theorem dX2_clause_61 : decode cX2_clause 61 = .ok (.if_icmp .ne 86, 3) := by decide +kernel
theorem dX2_clause_147 : decode cX2_clause 147 = .ok (.iload_n 1, 1) := by decide +kernel
theorem dX2_clause_148 : decode cX2_clause 148 = .ok (.bipush 112, 2) := by decide +kernel
theorem dX2_clause_150 : decode cX2_clause 150 = .ok (.if_icmp .ne 85, 3) := by decide +kernel
theorem dX2_clause_235 : decode cX2_clause 235 = .ok (.iconst 0, 1) := by decide +kernel
theorem dX2_clause_236 : decode cX2_clause 236 = .ok (.ireturn, 1) := by decide +kernel
theorem dX3_init_0 : decode cX3_init 0 = .ok (.aload_n 0, 1) := by decide +kernel
theorem dX3_init_1 : decode cX3_init 1 = .ok (.invokespecial 1, 3) := by decide +kernel
theorem dX3_init_4 : decode cX3_init 4 = .ok (.return_, 1) := by decide +kernel
theorem dX5_init_0 : decode cX5_init 0 = .ok (.aload_n 0, 1) := by decide +kernel
theorem dX5_init_1 : decode cX5_init 1 = .ok (.invokespecial 3, 3) := by decide +kernel
theorem dX5_init_4 : decode cX5_init 4 = .ok (.aload_n 0, 1) := by decide +kernel
theorem dX5_init_5 : decode cX5_init 5 = .ok (.sipush 241, 3) := by decide +kernel
theorem dX5_init_8 : decode cX5_init 8 = .ok (.newarray .int, 2) := by decide +kernel
theorem dX5_init_10 : decode cX5_init 10 = .ok (.putfield 9, 3) := by decide +kernel
theorem dX5_init_13 : decode cX5_init 13 = .ok (.return_, 1) := by decide +kernel
theorem dX5_read_0 : decode cX5_read 0 = .ok (.aload_n 0, 1) := by decide +kernel
theorem dX5_read_1 : decode cX5_read 1 = .ok (.aload_n 1, 1) := by decide +kernel
theorem dX5_read_2 : decode cX5_read 2 = .ok (.putfield 15, 3) := by decide +kernel
theorem dX5_read_5 : decode cX5_read 5 = .ok (.aload_n 0, 1) := by decide +kernel
theorem dX5_read_6 : decode cX5_read 6 = .ok (.getfield 15, 3) := by decide +kernel
theorem dX5_read_9 : decode cX5_read 9 = .ok (.iconst 0, 1) := by decide +kernel
theorem dX5_read_10 : decode cX5_read 10 = .ok (.putfield 19, 3) := by decide +kernel
theorem dX5_read_13 : decode cX5_read 13 = .ok (.aload_n 0, 1) := by decide +kernel
theorem dX5_read_14 : decode cX5_read 14 = .ok (.iconst 0, 1) := by decide +kernel
theorem dX5_read_15 : decode cX5_read 15 = .ok (.putfield 25, 3) := by decide +kernel
theorem dX5_read_18 : decode cX5_read 18 = .ok (.aload_n 0, 1) := by decide +kernel
theorem dX5_read_19 : decode cX5_read 19 = .ok (.invokevirtual 28, 3) := by decide +kernel
theorem dX5_read_22 : decode cX5_read 22 = .ok (.istore_n 2, 1) := by decide +kernel
theorem dX5_read_23 : decode cX5_read 23 = .ok (.iconst 0, 1) := by decide +kernel
theorem dX5_read_24 : decode cX5_read 24 = .ok (.istore_n 3, 1) := by decide +kernel
theorem dX5_read_25 : decode cX5_read 25 = .ok (.iload_n 3, 1) := by decide +kernel
theorem dX5_read_26 : decode cX5_read 26 = .ok (.aload_n 0, 1) := by decide +kernel
theorem dX5_read_27 : decode cX5_read 27 = .ok (.getfield 15, 3) := by decide +kernel
theorem dX5_read_30 : decode cX5_read 30 = .ok (.getfield 32, 3) := by decide +kernel
theorem dX5_read_33 : decode cX5_read 33 = .ok (.if_icmp .ge 30, 3) := by decide +kernel
theorem dX5_read_63 : decode cX5_read 63 = .ok (.iload_n 2, 1) := by decide +kernel
theorem dX5_read_64 : decode cX5_read 64 = .ok (.ifCond .eq 17, 3) := by decide +kernel
theorem dX5_read_81 : decode cX5_read 81 = .ok (.aload_n 0, 1) := by decide +kernel
theorem dX5_read_82 : decode cX5_read 82 = .ok (.getfield 15, 3) := by decide +kernel
theorem dX5_read_85 : decode cX5_read 85 = .ok (.getfield 19, 3) := by decide +kernel
theorem dX5_read_88 : decode cX5_read 88 = .ok (.ireturn, 1) := by decide +kernel
theorem dX5_clause_0 : decode cX5_clause 0 = .ok (.aload_n 0, 1) := by decide +kernel
theorem dX5_clause_1 : decode cX5_clause 1 = .ok (.getfield 15, 3) := by decide +kernel
theorem dX5_clause_4 : decode cX5_clause 4 = .ok (.bipush 121, 2) := by decide +kernel
theorem dX5_clause_6 : decode cX5_clause 6 = .ok (.invokevirtual 35, 3) := by decide +kernel
theorem dX5_clause_9 : decode cX5_clause 9 = .ok (.ifCond .eq 15, 3) := by decide +kernel
theorem dX5_clause_24 : decode cX5_clause 24 = .ok (.iconst 0, 1) := by decide +kernel
theorem dX5_clause_25 : decode cX5_clause 25 = .ok (.ireturn, 1) := by decide +kernel
theorem dX6_init_0 : decode cX6_init 0 = .ok (.aload_n 0, 1) := by decide +kernel
theorem dX6_init_1 : decode cX6_init 1 = .ok (.invokespecial 3, 3) := by decide +kernel
theorem dX6_init_4 : decode cX6_init 4 = .ok (.aload_n 0, 1) := by decide +kernel
theorem dX6_init_5 : decode cX6_init 5 = .ok (.bipush 10, 2) := by decide +kernel
theorem dX6_init_7 : decode cX6_init 7 = .ok (.newarray .long, 2) := by decide +kernel
theorem dX6_init_9 : decode cX6_init 9 = .ok (.putfield 9, 3) := by decide +kernel
theorem dX6_init_12 : decode cX6_init 12 = .ok (.aload_n 0, 1) := by decide +kernel
theorem dX6_init_13 : decode cX6_init 13 = .ok (.bipush 10, 2) := by decide +kernel
theorem dX6_init_15 : decode cX6_init 15 = .ok (.newarray .int, 2) := by decide +kernel
theorem dX6_init_17 : decode cX6_init 17 = .ok (.putfield 15, 3) := by decide +kernel
theorem dX6_init_20 : decode cX6_init 20 = .ok (.aload_n 0, 1) := by decide +kernel
theorem dX6_init_21 : decode cX6_init 21 = .ok (.bipush 10, 2) := by decide +kernel
theorem dX6_init_23 : decode cX6_init 23 = .ok (.newarray .int, 2) := by decide +kernel
theorem dX6_init_25 : decode cX6_init 25 = .ok (.putfield 19, 3) := by decide +kernel
theorem dX6_init_28 : decode cX6_init 28 = .ok (.aload_n 0, 1) := by decide +kernel
theorem dX6_init_29 : decode cX6_init 29 = .ok (.bipush 45, 2) := by decide +kernel
theorem dX6_init_31 : decode cX6_init 31 = .ok (.newarray .int, 2) := by decide +kernel
theorem dX6_init_33 : decode cX6_init 33 = .ok (.putfield 22, 3) := by decide +kernel
theorem dX6_init_36 : decode cX6_init 36 = .ok (.aload_n 0, 1) := by decide +kernel
theorem dX6_init_37 : decode cX6_init 37 = .ok (.aload_n 1, 1) := by decide +kernel
theorem dX6_init_38 : decode cX6_init 38 = .ok (.putfield 25, 3) := by decide +kernel
theorem dX6_init_41 : decode cX6_init 41 = .ok (.aload_n 0, 1) := by decide +kernel
theorem dX6_init_42 : decode cX6_init 42 = .ok (.aload_n 2, 1) := by decide +kernel
theorem dX6_init_43 : decode cX6_init 43 = .ok (.putfield 29, 3) := by decide +kernel
theorem dX6_init_46 : decode cX6_init 46 = .ok (.aload_n 0, 1) := by decide +kernel
theorem dX6_init_47 : decode cX6_init 47 = .ok (.aload_n 3, 1) := by decide +kernel
theorem dX6_init_48 : decode cX6_init 48 = .ok (.putfield 33, 3) := by decide +kernel
theorem dX6_init_51 : decode cX6_init 51 = .ok (.return_, 1) := by decide +kernel
theorem dX7_init_0 : decode cX7_init 0 = .ok (.aload_n 0, 1) := by decide +kernel
theorem dX7_init_1 : decode cX7_init 1 = .ok (.invokespecial 3, 3) := by decide +kernel
theorem dX7_init_4 : decode cX7_init 4 = .ok (.aload_n 0, 1) := by decide +kernel
theorem dX7_init_5 : decode cX7_init 5 = .ok (.bipush 6, 2) := by decide +kernel
theorem dX7_init_7 : decode cX7_init 7 = .ok (.newarray .int, 2) := by decide +kernel
theorem dX7_init_9 : decode cX7_init 9 = .ok (.putfield 9, 3) := by decide +kernel
theorem dX7_init_12 : decode cX7_init 12 = .ok (.aload_n 0, 1) := by decide +kernel
theorem dX7_init_13 : decode cX7_init 13 = .ok (.iconst 5, 1) := by decide +kernel
theorem dX7_init_14 : decode cX7_init 14 = .ok (.newarray .int, 2) := by decide +kernel
theorem dX7_init_16 : decode cX7_init 16 = .ok (.putfield 15, 3) := by decide +kernel
theorem dX7_init_19 : decode cX7_init 19 = .ok (.aload_n 0, 1) := by decide +kernel
theorem dX7_init_20 : decode cX7_init 20 = .ok (.bipush 80, 2) := by decide +kernel
theorem dX7_init_22 : decode cX7_init 22 = .ok (.newarray .int, 2) := by decide +kernel
theorem dX7_init_24 : decode cX7_init 24 = .ok (.putfield 18, 3) := by decide +kernel
theorem dX7_init_27 : decode cX7_init 27 = .ok (.aload_n 0, 1) := by decide +kernel
theorem dX7_init_28 : decode cX7_init 28 = .ok (.iconst (-1), 1) := by decide +kernel
theorem dX7_init_29 : decode cX7_init 29 = .ok (.putfield 21, 3) := by decide +kernel
theorem dX7_init_32 : decode cX7_init 32 = .ok (.return_, 1) := by decide +kernel
theorem dX8_init_0 : decode cX8_init 0 = .ok (.aload_n 0, 1) := by decide +kernel
theorem dX8_init_1 : decode cX8_init 1 = .ok (.invokespecial 3, 3) := by decide +kernel
theorem dX8_init_4 : decode cX8_init 4 = .ok (.aload_n 0, 1) := by decide +kernel
theorem dX8_init_5 : decode cX8_init 5 = .ok (.bipush 10, 2) := by decide +kernel
theorem dX8_init_7 : decode cX8_init 7 = .ok (.newarray .int, 2) := by decide +kernel
theorem dX8_init_9 : decode cX8_init 9 = .ok (.putfield 9, 3) := by decide +kernel
theorem dX8_init_12 : decode cX8_init 12 = .ok (.aload_n 0, 1) := by decide +kernel
theorem dX8_init_13 : decode cX8_init 13 = .ok (.bipush 10, 2) := by decide +kernel
theorem dX8_init_15 : decode cX8_init 15 = .ok (.newarray .int, 2) := by decide +kernel
theorem dX8_init_17 : decode cX8_init 17 = .ok (.putfield 15, 3) := by decide +kernel
theorem dX8_init_20 : decode cX8_init 20 = .ok (.aload_n 0, 1) := by decide +kernel
theorem dX8_init_21 : decode cX8_init 21 = .ok (.bipush 6, 2) := by decide +kernel
theorem dX8_init_23 : decode cX8_init 23 = .ok (.newarray .int, 2) := by decide +kernel
theorem dX8_init_25 : decode cX8_init 25 = .ok (.putfield 18, 3) := by decide +kernel
theorem dX8_init_28 : decode cX8_init 28 = .ok (.aload_n 0, 1) := by decide +kernel
theorem dX8_init_29 : decode cX8_init 29 = .ok (.bipush 32, 2) := by decide +kernel
theorem dX8_init_31 : decode cX8_init 31 = .ok (.newarray .int, 2) := by decide +kernel
theorem dX8_init_33 : decode cX8_init 33 = .ok (.putfield 21, 3) := by decide +kernel
theorem dX8_init_36 : decode cX8_init 36 = .ok (.aload_n 0, 1) := by decide +kernel
theorem dX8_init_37 : decode cX8_init 37 = .ok (.aload_n 1, 1) := by decide +kernel
theorem dX8_init_38 : decode cX8_init 38 = .ok (.putfield 24, 3) := by decide +kernel
theorem dX8_init_41 : decode cX8_init 41 = .ok (.aload_n 0, 1) := by decide +kernel
theorem dX8_init_42 : decode cX8_init 42 = .ok (.aload_n 2, 1) := by decide +kernel
theorem dX8_init_43 : decode cX8_init 43 = .ok (.putfield 28, 3) := by decide +kernel
theorem dX8_init_46 : decode cX8_init 46 = .ok (.return_, 1) := by decide +kernel
theorem dX9_init_0 : decode cX9_init 0 = .ok (.aload_n 0, 1) := by decide +kernel
theorem dX9_init_1 : decode cX9_init 1 = .ok (.invokespecial 3, 3) := by decide +kernel
theorem dX9_init_4 : decode cX9_init 4 = .ok (.aload_n 0, 1) := by decide +kernel
theorem dX9_init_5 : decode cX9_init 5 = .ok (.sipush 260, 3) := by decide +kernel
theorem dX9_init_8 : decode cX9_init 8 = .ok (.newarray .int, 2) := by decide +kernel
theorem dX9_init_10 : decode cX9_init 10 = .ok (.putfield 9, 3) := by decide +kernel
theorem dX9_init_13 : decode cX9_init 13 = .ok (.return_, 1) := by decide +kernel
theorem dX9_add_0 : decode cX9_add 0 = .ok (.bipush 24, 2) := by decide +kernel
theorem dX9_add_2 : decode cX9_add 2 = .ok (.istore_n 2, 1) := by decide +kernel
theorem dX9_add_3 : decode cX9_add 3 = .ok (.iload_n 2, 1) := by decide +kernel
theorem dX9_add_4 : decode cX9_add 4 = .ok (.ifCond .lt 53, 3) := by decide +kernel
theorem dX9_add_7 : decode cX9_add 7 = .ok (.iload_n 1, 1) := by decide +kernel
theorem dX9_add_8 : decode cX9_add 8 = .ok (.iload_n 2, 1) := by decide +kernel
theorem dX9_add_9 : decode cX9_add 9 = .ok (.iushr, 1) := by decide +kernel
theorem dX9_add_10 : decode cX9_add 10 = .ok (.sipush 255, 3) := by decide +kernel
theorem dX9_add_13 : decode cX9_add 13 = .ok (.iand, 1) := by decide +kernel
theorem dX9_add_14 : decode cX9_add 14 = .ok (.istore_n 3, 1) := by decide +kernel
theorem dX9_add_15 : decode cX9_add 15 = .ok (.iload_n 3, 1) := by decide +kernel
theorem dX9_add_16 : decode cX9_add 16 = .ok (.ifCond .eq 35, 3) := by decide +kernel
theorem dX9_add_19 : decode cX9_add 19 = .ok (.aload_n 0, 1) := by decide +kernel
theorem dX9_add_20 : decode cX9_add 20 = .ok (.getfield 15, 3) := by decide +kernel
theorem dX9_add_23 : decode cX9_add 23 = .ok (.aload_n 0, 1) := by decide +kernel
theorem dX9_add_24 : decode cX9_add 24 = .ok (.getfield 9, 3) := by decide +kernel
theorem dX9_add_27 : decode cX9_add 27 = .ok (.arraylength, 1) := by decide +kernel
theorem dX9_add_28 : decode cX9_add 28 = .ok (.if_icmp .ge 23, 3) := by decide +kernel
theorem dX9_add_31 : decode cX9_add 31 = .ok (.aload_n 0, 1) := by decide +kernel
theorem dX9_add_32 : decode cX9_add 32 = .ok (.getfield 9, 3) := by decide +kernel
theorem dX9_add_35 : decode cX9_add 35 = .ok (.aload_n 0, 1) := by decide +kernel
theorem dX9_add_36 : decode cX9_add 36 = .ok (.getfield 15, 3) := by decide +kernel
theorem dX9_add_39 : decode cX9_add 39 = .ok (.iload_n 3, 1) := by decide +kernel
theorem dX9_add_40 : decode cX9_add 40 = .ok (.iastore, 1) := by decide +kernel
theorem dX9_add_41 : decode cX9_add 41 = .ok (.aload_n 0, 1) := by decide +kernel
theorem dX9_add_42 : decode cX9_add 42 = .ok (.dup, 1) := by decide +kernel
theorem dX9_add_43 : decode cX9_add 43 = .ok (.getfield 15, 3) := by decide +kernel
theorem dX9_add_46 : decode cX9_add 46 = .ok (.iconst 1, 1) := by decide +kernel
theorem dX9_add_47 : decode cX9_add 47 = .ok (.iadd, 1) := by decide +kernel
theorem dX9_add_48 : decode cX9_add 48 = .ok (.putfield 15, 3) := by decide +kernel
theorem dX9_add_51 : decode cX9_add 51 = .ok (.iinc 2 (-8), 3) := by decide +kernel
theorem dX9_add_54 : decode cX9_add 54 = .ok (.goto (-51), 3) := by decide +kernel
theorem dX9_add_57 : decode cX9_add 57 = .ok (.return_, 1) := by decide +kernel
theorem dX9_peek_0 : decode cX9_peek 0 = .ok (.aload_n 0, 1) := by decide +kernel
theorem dX9_peek_1 : decode cX9_peek 1 = .ok (.getfield 19, 3) := by decide +kernel
theorem dX9_peek_4 : decode cX9_peek 4 = .ok (.aload_n 0, 1) := by decide +kernel
theorem dX9_peek_5 : decode cX9_peek 5 = .ok (.getfield 15, 3) := by decide +kernel
theorem dX9_peek_8 : decode cX9_peek 8 = .ok (.if_icmp .ge 30, 3) := by decide +kernel
theorem dX9_peek_38 : decode cX9_peek 38 = .ok (.aload_n 0, 1) := by decide +kernel
theorem dX9_peek_39 : decode cX9_peek 39 = .ok (.getfield 19, 3) := by decide +kernel
theorem dX9_peek_42 : decode cX9_peek 42 = .ok (.aload_n 0, 1) := by decide +kernel
theorem dX9_peek_43 : decode cX9_peek 43 = .ok (.getfield 15, 3) := by decide +kernel
theorem dX9_peek_46 : decode cX9_peek 46 = .ok (.if_icmp .ge 15, 3) := by decide +kernel
theorem dX9_peek_61 : decode cX9_peek 61 = .ok (.iconst 0, 1) := by decide +kernel
theorem dX9_peek_62 : decode cX9_peek 62 = .ok (.ireturn, 1) := by decide +kernel
theorem dX9_takes_0 : decode cX9_takes 0 = .ok (.aload_n 0, 1) := by decide +kernel
theorem dX9_takes_1 : decode cX9_takes 1 = .ok (.invokevirtual 22, 3) := by decide +kernel
theorem dX9_takes_4 : decode cX9_takes 4 = .ok (.iload_n 1, 1) := by decide +kernel
theorem dX9_takes_5 : decode cX9_takes 5 = .ok (.if_icmp .eq 5, 3) := by decide +kernel
theorem dX9_takes_8 : decode cX9_takes 8 = .ok (.iconst 0, 1) := by decide +kernel
theorem dX9_takes_9 : decode cX9_takes 9 = .ok (.ireturn, 1) := by decide +kernel
theorem dX10_init_0 : decode cX10_init 0 = .ok (.aload_n 0, 1) := by decide +kernel
theorem dX10_init_1 : decode cX10_init 1 = .ok (.invokespecial 1, 3) := by decide +kernel
theorem dX10_init_4 : decode cX10_init 4 = .ok (.aload_n 0, 1) := by decide +kernel
theorem dX10_init_5 : decode cX10_init 5 = .ok (.new 7, 3) := by decide +kernel
theorem dX10_init_8 : decode cX10_init 8 = .ok (.dup, 1) := by decide +kernel
theorem dX10_init_9 : decode cX10_init 9 = .ok (.invokespecial 9, 3) := by decide +kernel
theorem dX10_init_12 : decode cX10_init 12 = .ok (.putfield 10, 3) := by decide +kernel
theorem dX10_init_15 : decode cX10_init 15 = .ok (.aload_n 0, 1) := by decide +kernel
theorem dX10_init_16 : decode cX10_init 16 = .ok (.new 16, 3) := by decide +kernel
theorem dX10_init_19 : decode cX10_init 19 = .ok (.dup, 1) := by decide +kernel
theorem dX10_init_20 : decode cX10_init 20 = .ok (.invokespecial 18, 3) := by decide +kernel
theorem dX10_init_23 : decode cX10_init 23 = .ok (.putfield 19, 3) := by decide +kernel
theorem dX10_init_26 : decode cX10_init 26 = .ok (.aload_n 0, 1) := by decide +kernel
theorem dX10_init_27 : decode cX10_init 27 = .ok (.new 23, 3) := by decide +kernel
theorem dX10_init_30 : decode cX10_init 30 = .ok (.dup, 1) := by decide +kernel
theorem dX10_init_31 : decode cX10_init 31 = .ok (.invokespecial 25, 3) := by decide +kernel
theorem dX10_init_34 : decode cX10_init 34 = .ok (.putfield 26, 3) := by decide +kernel
theorem dX10_init_37 : decode cX10_init 37 = .ok (.aload_n 0, 1) := by decide +kernel
theorem dX10_init_38 : decode cX10_init 38 = .ok (.new 30, 3) := by decide +kernel
theorem dX10_init_41 : decode cX10_init 41 = .ok (.dup, 1) := by decide +kernel
theorem dX10_init_42 : decode cX10_init 42 = .ok (.invokespecial 32, 3) := by decide +kernel
theorem dX10_init_45 : decode cX10_init 45 = .ok (.putfield 33, 3) := by decide +kernel
theorem dX10_init_48 : decode cX10_init 48 = .ok (.aload_n 0, 1) := by decide +kernel
theorem dX10_init_49 : decode cX10_init 49 = .ok (.new 30, 3) := by decide +kernel
theorem dX10_init_52 : decode cX10_init 52 = .ok (.dup, 1) := by decide +kernel
theorem dX10_init_53 : decode cX10_init 53 = .ok (.invokespecial 32, 3) := by decide +kernel
theorem dX10_init_56 : decode cX10_init 56 = .ok (.putfield 37, 3) := by decide +kernel
theorem dX10_init_59 : decode cX10_init 59 = .ok (.aload_n 0, 1) := by decide +kernel
theorem dX10_init_60 : decode cX10_init 60 = .ok (.iconst 4, 1) := by decide +kernel
theorem dX10_init_61 : decode cX10_init 61 = .ok (.anewarray 40, 3) := by decide +kernel
theorem dX10_init_64 : decode cX10_init 64 = .ok (.putfield 42, 3) := by decide +kernel
theorem dX10_init_67 : decode cX10_init 67 = .ok (.aload_n 0, 1) := by decide +kernel
theorem dX10_init_68 : decode cX10_init 68 = .ok (.new 46, 3) := by decide +kernel
theorem dX10_init_71 : decode cX10_init 71 = .ok (.dup, 1) := by decide +kernel
theorem dX10_init_72 : decode cX10_init 72 = .ok (.invokespecial 48, 3) := by decide +kernel
theorem dX10_init_75 : decode cX10_init 75 = .ok (.putfield 49, 3) := by decide +kernel
theorem dX10_init_78 : decode cX10_init 78 = .ok (.aload_n 0, 1) := by decide +kernel
theorem dX10_init_79 : decode cX10_init 79 = .ok (.new 46, 3) := by decide +kernel
theorem dX10_init_82 : decode cX10_init 82 = .ok (.dup, 1) := by decide +kernel
theorem dX10_init_83 : decode cX10_init 83 = .ok (.invokespecial 48, 3) := by decide +kernel
theorem dX10_init_86 : decode cX10_init 86 = .ok (.putfield 53, 3) := by decide +kernel
theorem dX10_init_89 : decode cX10_init 89 = .ok (.aload_n 0, 1) := by decide +kernel
theorem dX10_init_90 : decode cX10_init 90 = .ok (.new 56, 3) := by decide +kernel
theorem dX10_init_93 : decode cX10_init 93 = .ok (.dup, 1) := by decide +kernel
theorem dX10_init_94 : decode cX10_init 94 = .ok (.invokespecial 58, 3) := by decide +kernel
theorem dX10_init_97 : decode cX10_init 97 = .ok (.putfield 59, 3) := by decide +kernel
theorem dX10_init_100 : decode cX10_init 100 = .ok (.aload_n 0, 1) := by decide +kernel
theorem dX10_init_101 : decode cX10_init 101 = .ok (.new 63, 3) := by decide +kernel
theorem dX10_init_104 : decode cX10_init 104 = .ok (.dup, 1) := by decide +kernel
theorem dX10_init_105 : decode cX10_init 105 = .ok (.aload_n 0, 1) := by decide +kernel
theorem dX10_init_106 : decode cX10_init 106 = .ok (.getfield 37, 3) := by decide +kernel
theorem dX10_init_109 : decode cX10_init 109 = .ok (.aload_n 0, 1) := by decide +kernel
theorem dX10_init_110 : decode cX10_init 110 = .ok (.getfield 49, 3) := by decide +kernel
theorem dX10_init_113 : decode cX10_init 113 = .ok (.invokespecial 65, 3) := by decide +kernel
theorem dX10_init_116 : decode cX10_init 116 = .ok (.putfield 68, 3) := by decide +kernel
theorem dX10_init_119 : decode cX10_init 119 = .ok (.aload_n 0, 1) := by decide +kernel
theorem dX10_init_120 : decode cX10_init 120 = .ok (.new 72, 3) := by decide +kernel
theorem dX10_init_123 : decode cX10_init 123 = .ok (.dup, 1) := by decide +kernel
theorem dX10_init_124 : decode cX10_init 124 = .ok (.aload_n 0, 1) := by decide +kernel
theorem dX10_init_125 : decode cX10_init 125 = .ok (.getfield 37, 3) := by decide +kernel
theorem dX10_init_128 : decode cX10_init 128 = .ok (.aload_n 0, 1) := by decide +kernel
theorem dX10_init_129 : decode cX10_init 129 = .ok (.getfield 49, 3) := by decide +kernel
theorem dX10_init_132 : decode cX10_init 132 = .ok (.aload_n 0, 1) := by decide +kernel
theorem dX10_init_133 : decode cX10_init 133 = .ok (.getfield 68, 3) := by decide +kernel
theorem dX10_init_136 : decode cX10_init 136 = .ok (.invokespecial 74, 3) := by decide +kernel
theorem dX10_init_139 : decode cX10_init 139 = .ok (.putfield 77, 3) := by decide +kernel
theorem dX10_init_142 : decode cX10_init 142 = .ok (.aload_n 0, 1) := by decide +kernel
theorem dX10_init_143 : decode cX10_init 143 = .ok (.new 81, 3) := by decide +kernel
theorem dX10_init_146 : decode cX10_init 146 = .ok (.dup, 1) := by decide +kernel
theorem dX10_init_147 : decode cX10_init 147 = .ok (.invokespecial 83, 3) := by decide +kernel
theorem dX10_init_150 : decode cX10_init 150 = .ok (.putfield 84, 3) := by decide +kernel
theorem dX10_init_153 : decode cX10_init 153 = .ok (.aload_n 0, 1) := by decide +kernel
theorem dX10_init_154 : decode cX10_init 154 = .ok (.iconst 5, 1) := by decide +kernel
theorem dX10_init_155 : decode cX10_init 155 = .ok (.newarray .int, 2) := by decide +kernel
theorem dX10_init_157 : decode cX10_init 157 = .ok (.putfield 88, 3) := by decide +kernel
theorem dX10_init_160 : decode cX10_init 160 = .ok (.aload_n 0, 1) := by decide +kernel
theorem dX10_init_161 : decode cX10_init 161 = .ok (.iconst (-1), 1) := by decide +kernel
theorem dX10_init_162 : decode cX10_init 162 = .ok (.putfield 92, 3) := by decide +kernel
theorem dX10_init_165 : decode cX10_init 165 = .ok (.return_, 1) := by decide +kernel
theorem dX10_feed_0 : decode cX10_feed 0 = .ok (.aload_n 0, 1) := by decide +kernel
theorem dX10_feed_1 : decode cX10_feed 1 = .ok (.getfield 10, 3) := by decide +kernel
theorem dX10_feed_4 : decode cX10_feed 4 = .ok (.getfield 96, 3) := by decide +kernel
theorem dX10_feed_7 : decode cX10_feed 7 = .ok (.istore 6, 2) := by decide +kernel
theorem dX10_feed_9 : decode cX10_feed 9 = .ok (.aload_n 0, 1) := by decide +kernel
theorem dX10_feed_10 : decode cX10_feed 10 = .ok (.getfield 10, 3) := by decide +kernel
theorem dX10_feed_13 : decode cX10_feed 13 = .ok (.iload_n 1, 1) := by decide +kernel
theorem dX10_feed_14 : decode cX10_feed 14 = .ok (.invokevirtual 99, 3) := by decide +kernel
theorem dX10_feed_17 : decode cX10_feed 17 = .ok (.aload_n 0, 1) := by decide +kernel
theorem dX10_feed_18 : decode cX10_feed 18 = .ok (.getfield 10, 3) := by decide +kernel
theorem dX10_feed_21 : decode cX10_feed 21 = .ok (.iload_n 2, 1) := by decide +kernel
theorem dX10_feed_22 : decode cX10_feed 22 = .ok (.invokevirtual 99, 3) := by decide +kernel
theorem dX10_feed_25 : decode cX10_feed 25 = .ok (.aload_n 0, 1) := by decide +kernel
theorem dX10_feed_26 : decode cX10_feed 26 = .ok (.getfield 10, 3) := by decide +kernel
theorem dX10_feed_29 : decode cX10_feed 29 = .ok (.iload_n 3, 1) := by decide +kernel
theorem dX10_feed_30 : decode cX10_feed 30 = .ok (.invokevirtual 99, 3) := by decide +kernel
theorem dX10_feed_33 : decode cX10_feed 33 = .ok (.aload_n 0, 1) := by decide +kernel
theorem dX10_feed_34 : decode cX10_feed 34 = .ok (.getfield 10, 3) := by decide +kernel
theorem dX10_feed_37 : decode cX10_feed 37 = .ok (.iload 4, 2) := by decide +kernel
theorem dX10_feed_39 : decode cX10_feed 39 = .ok (.invokevirtual 99, 3) := by decide +kernel
theorem dX10_feed_42 : decode cX10_feed 42 = .ok (.aload_n 0, 1) := by decide +kernel
theorem dX10_feed_43 : decode cX10_feed 43 = .ok (.getfield 10, 3) := by decide +kernel
theorem dX10_feed_46 : decode cX10_feed 46 = .ok (.iload 5, 2) := by decide +kernel
theorem dX10_feed_48 : decode cX10_feed 48 = .ok (.invokevirtual 99, 3) := by decide +kernel
theorem dX10_feed_51 : decode cX10_feed 51 = .ok (.aload_n 0, 1) := by decide +kernel
theorem dX10_feed_52 : decode cX10_feed 52 = .ok (.getfield 10, 3) := by decide +kernel
theorem dX10_feed_55 : decode cX10_feed 55 = .ok (.getfield 96, 3) := by decide +kernel
theorem dX10_feed_58 : decode cX10_feed 58 = .ok (.sipush 240, 3) := by decide +kernel
theorem dX10_feed_61 : decode cX10_feed 61 = .ok (.if_icmp .le 14, 3) := by decide +kernel
theorem dX10_feed_75 : decode cX10_feed 75 = .ok (.aload_n 0, 1) := by decide +kernel
theorem dX10_feed_76 : decode cX10_feed 76 = .ok (.getfield 10, 3) := by decide +kernel
theorem dX10_feed_79 : decode cX10_feed 79 = .ok (.getfield 96, 3) := by decide +kernel
theorem dX10_feed_82 : decode cX10_feed 82 = .ok (.ireturn, 1) := by decide +kernel
theorem dX10_end_0 : decode cX10_end 0 = .ok (.iload_n 1, 1) := by decide +kernel
theorem dX10_end_1 : decode cX10_end 1 = .ok (.ifCond .lt 14, 3) := by decide +kernel
theorem dX10_end_4 : decode cX10_end 4 = .ok (.iload_n 1, 1) := by decide +kernel
theorem dX10_end_5 : decode cX10_end 5 = .ok (.aload_n 0, 1) := by decide +kernel
theorem dX10_end_6 : decode cX10_end 6 = .ok (.getfield 10, 3) := by decide +kernel
theorem dX10_end_9 : decode cX10_end 9 = .ok (.getfield 96, 3) := by decide +kernel
theorem dX10_end_12 : decode cX10_end 12 = .ok (.if_icmp .le 5, 3) := by decide +kernel
theorem dX10_end_15 : decode cX10_end 15 = .ok (.iconst 0, 1) := by decide +kernel
theorem dX10_end_16 : decode cX10_end 16 = .ok (.ireturn, 1) := by decide +kernel
theorem dX10_end_17 : decode cX10_end 17 = .ok (.aload_n 0, 1) := by decide +kernel
theorem dX10_end_18 : decode cX10_end 18 = .ok (.getfield 10, 3) := by decide +kernel
theorem dX10_end_21 : decode cX10_end 21 = .ok (.iload_n 1, 1) := by decide +kernel
theorem dX10_end_22 : decode cX10_end 22 = .ok (.putfield 96, 3) := by decide +kernel
theorem dX10_end_25 : decode cX10_end 25 = .ok (.iconst 1, 1) := by decide +kernel
theorem dX10_end_26 : decode cX10_end 26 = .ok (.ireturn, 1) := by decide +kernel
theorem dX10_fault_0 : decode cX10_fault 0 = .ok (.iload_n 1, 1) := by decide +kernel
theorem dX10_fault_1 : decode cX10_fault 1 = .ok (.ifCond .ne 19, 3) := by decide +kernel
theorem dX10_fault_4 : decode cX10_fault 4 = .ok (.aload_n 0, 1) := by decide +kernel
theorem dX10_fault_5 : decode cX10_fault 5 = .ok (.getfield 19, 3) := by decide +kernel
theorem dX10_fault_8 : decode cX10_fault 8 = .ok (.aload_n 0, 1) := by decide +kernel
theorem dX10_fault_9 : decode cX10_fault 9 = .ok (.getfield 10, 3) := by decide +kernel
theorem dX10_fault_12 : decode cX10_fault 12 = .ok (.aload_n 0, 1) := by decide +kernel
theorem dX10_fault_13 : decode cX10_fault 13 = .ok (.getfield 33, 3) := by decide +kernel
theorem dX10_fault_16 : decode cX10_fault 16 = .ok (.invokevirtual 103, 3) := by decide +kernel
theorem dX10_fault_19 : decode cX10_fault 19 = .ok (.ireturn, 1) := by decide +kernel
theorem dX10_fault_20 : decode cX10_fault 20 = .ok (.iload_n 1, 1) := by decide +kernel
theorem dX10_fault_21 : decode cX10_fault 21 = .ok (.iconst 1, 1) := by decide +kernel
theorem dX10_fault_22 : decode cX10_fault 22 = .ok (.if_icmp .ne 15, 3) := by decide +kernel
theorem dX10_fault_25 : decode cX10_fault 25 = .ok (.aload_n 0, 1) := by decide +kernel
theorem dX10_fault_26 : decode cX10_fault 26 = .ok (.getfield 26, 3) := by decide +kernel
theorem dX10_fault_29 : decode cX10_fault 29 = .ok (.aload_n 0, 1) := by decide +kernel
theorem dX10_fault_30 : decode cX10_fault 30 = .ok (.getfield 10, 3) := by decide +kernel
theorem dX10_fault_33 : decode cX10_fault 33 = .ok (.invokevirtual 107, 3) := by decide +kernel
theorem dX10_fault_36 : decode cX10_fault 36 = .ok (.ireturn, 1) := by decide +kernel
theorem dX10_fault_37 : decode cX10_fault 37 = .ok (.bipush (-2), 2) := by decide +kernel
theorem dX10_fault_39 : decode cX10_fault 39 = .ok (.ireturn, 1) := by decide +kernel
theorem dX10_text_0 : decode cX10_text 0 = .ok (.iload_n 1, 1) := by decide +kernel
theorem dX10_text_1 : decode cX10_text 1 = .ok (.ifCond .ne 27, 3) := by decide +kernel
theorem dX10_text_4 : decode cX10_text 4 = .ok (.aload_n 0, 1) := by decide +kernel
theorem dX10_text_5 : decode cX10_text 5 = .ok (.getfield 19, 3) := by decide +kernel
theorem dX10_text_8 : decode cX10_text 8 = .ok (.aload_n 0, 1) := by decide +kernel
theorem dX10_text_9 : decode cX10_text 9 = .ok (.getfield 10, 3) := by decide +kernel
theorem dX10_text_12 : decode cX10_text 12 = .ok (.aload_n 0, 1) := by decide +kernel
theorem dX10_text_13 : decode cX10_text 13 = .ok (.getfield 33, 3) := by decide +kernel
theorem dX10_text_16 : decode cX10_text 16 = .ok (.invokevirtual 103, 3) := by decide +kernel
theorem dX10_text_19 : decode cX10_text 19 = .ok (.iconst (-1), 1) := by decide +kernel
theorem dX10_text_20 : decode cX10_text 20 = .ok (.if_icmp .ne 8, 3) := by decide +kernel
theorem dX10_text_28 : decode cX10_text 28 = .ok (.iload_n 1, 1) := by decide +kernel
theorem dX10_text_29 : decode cX10_text 29 = .ok (.iconst 1, 1) := by decide +kernel
theorem dX10_text_30 : decode cX10_text 30 = .ok (.if_icmp .ne 31, 3) := by decide +kernel
theorem dX10_text_33 : decode cX10_text 33 = .ok (.aload_n 0, 1) := by decide +kernel
theorem dX10_text_34 : decode cX10_text 34 = .ok (.getfield 114, 3) := by decide +kernel
theorem dX10_text_37 : decode cX10_text 37 = .ok (.iconst 4, 1) := by decide +kernel
theorem dX10_text_38 : decode cX10_text 38 = .ok (.if_icmp .ge 23, 3) := by decide +kernel
theorem dX10_text_41 : decode cX10_text 41 = .ok (.aload_n 0, 1) := by decide +kernel
theorem dX10_text_42 : decode cX10_text 42 = .ok (.getfield 26, 3) := by decide +kernel
theorem dX10_text_45 : decode cX10_text 45 = .ok (.aload_n 0, 1) := by decide +kernel
theorem dX10_text_46 : decode cX10_text 46 = .ok (.getfield 10, 3) := by decide +kernel
theorem dX10_text_49 : decode cX10_text 49 = .ok (.invokevirtual 107, 3) := by decide +kernel
theorem dX10_text_52 : decode cX10_text 52 = .ok (.iconst (-1), 1) := by decide +kernel
theorem dX10_text_53 : decode cX10_text 53 = .ok (.if_icmp .ne 8, 3) := by decide +kernel
theorem dX10_text_61 : decode cX10_text 61 = .ok (.iconst (-1), 1) := by decide +kernel
theorem dX10_text_62 : decode cX10_text 62 = .ok (.ireturn, 1) := by decide +kernel
theorem dX10_rule_0 : decode cX10_rule 0 = .ok (.aload_n 0, 1) := by decide +kernel
theorem dX10_rule_1 : decode cX10_rule 1 = .ok (.invokevirtual 141, 3) := by decide +kernel
theorem dX10_rule_4 : decode cX10_rule 4 = .ok (.ifCond .ne 5, 3) := by decide +kernel
theorem dX10_rule_7 : decode cX10_rule 7 = .ok (.iconst (-1), 1) := by decide +kernel
theorem dX10_rule_8 : decode cX10_rule 8 = .ok (.ireturn, 1) := by decide +kernel
theorem dX10_bride_0 : decode cX10_bride 0 = .ok (.aload_n 0, 1) := by decide +kernel
theorem dX10_bride_1 : decode cX10_bride 1 = .ok (.iload_n 1, 1) := by decide +kernel
theorem dX10_bride_2 : decode cX10_bride 2 = .ok (.invokevirtual 154, 3) := by decide +kernel
theorem dX10_bride_5 : decode cX10_bride 5 = .ok (.ifCond .eq 12, 3) := by decide +kernel
theorem dX10_bride_17 : decode cX10_bride 17 = .ok (.new 158, 3) := by decide +kernel
theorem dX10_bride_20 : decode cX10_bride 20 = .ok (.dup, 1) := by decide +kernel
theorem dX10_bride_21 : decode cX10_bride 21 = .ok (.invokespecial 160, 3) := by decide +kernel
theorem dX10_bride_24 : decode cX10_bride 24 = .ok (.athrow, 1) := by decide +kernel
theorem dX10_painter_0 : decode cX10_painter 0 = .ok (.aload_n 0, 1) := by decide +kernel
theorem dX10_painter_1 : decode cX10_painter 1 = .ok (.iload_n 1, 1) := by decide +kernel
theorem dX10_painter_2 : decode cX10_painter 2 = .ok (.invokevirtual 184, 3) := by decide +kernel
theorem dX10_painter_5 : decode cX10_painter 5 = .ok (.ifCond .ne 5, 3) := by decide +kernel
theorem dX10_painter_8 : decode cX10_painter 8 = .ok (.iconst (-1), 1) := by decide +kernel
theorem dX10_painter_9 : decode cX10_painter 9 = .ok (.ireturn, 1) := by decide +kernel
theorem dX10_law_0 : decode cX10_law 0 = .ok (.iload_n 1, 1) := by decide +kernel
theorem dX10_law_1 : decode cX10_law 1 = .ok (.iconst (-1), 1) := by decide +kernel
theorem dX10_law_2 : decode cX10_law 2 = .ok (.if_icmp .lt 11, 3) := by decide +kernel
theorem dX10_law_5 : decode cX10_law 5 = .ok (.iload_n 1, 1) := by decide +kernel
theorem dX10_law_6 : decode cX10_law 6 = .ok (.aload_n 0, 1) := by decide +kernel
theorem dX10_law_7 : decode cX10_law 7 = .ok (.getfield 114, 3) := by decide +kernel
theorem dX10_law_10 : decode cX10_law 10 = .ok (.if_icmp .lt 5, 3) := by decide +kernel
theorem dX10_law_13 : decode cX10_law 13 = .ok (.iconst 0, 1) := by decide +kernel
theorem dX10_law_14 : decode cX10_law 14 = .ok (.ireturn, 1) := by decide +kernel
theorem dX10_law_15 : decode cX10_law 15 = .ok (.aload_n 0, 1) := by decide +kernel
theorem dX10_law_16 : decode cX10_law 16 = .ok (.iload_n 1, 1) := by decide +kernel
theorem dX10_law_17 : decode cX10_law 17 = .ok (.putfield 92, 3) := by decide +kernel
theorem dX10_law_20 : decode cX10_law 20 = .ok (.aload_n 0, 1) := by decide +kernel
theorem dX10_law_21 : decode cX10_law 21 = .ok (.getfield 68, 3) := by decide +kernel
theorem dX10_law_24 : decode cX10_law 24 = .ok (.iload_n 1, 1) := by decide +kernel
theorem dX10_law_25 : decode cX10_law 25 = .ok (.iconst (-1), 1) := by decide +kernel
theorem dX10_law_26 : decode cX10_law 26 = .ok (.if_icmp .ne 7, 3) := by decide +kernel
theorem dX10_law_29 : decode cX10_law 29 = .ok (.aconst_null, 1) := by decide +kernel
theorem dX10_law_30 : decode cX10_law 30 = .ok (.goto 9, 3) := by decide +kernel
theorem dX10_law_39 : decode cX10_law 39 = .ok (.putfield 199, 3) := by decide +kernel
theorem dX10_law_42 : decode cX10_law 42 = .ok (.iconst 1, 1) := by decide +kernel
theorem dX10_law_43 : decode cX10_law 43 = .ok (.ireturn, 1) := by decide +kernel
theorem dX10_flattery_0 : decode cX10_flattery 0 = .ok (.aload_n 0, 1) := by decide +kernel
theorem dX10_flattery_1 : decode cX10_flattery 1 = .ok (.iload_n 1, 1) := by decide +kernel
theorem dX10_flattery_2 : decode cX10_flattery 2 = .ok (.invokevirtual 184, 3) := by decide +kernel
theorem dX10_flattery_5 : decode cX10_flattery 5 = .ok (.ifCond .eq 11, 3) := by decide +kernel
theorem dX10_flattery_16 : decode cX10_flattery 16 = .ok (.iconst (-1), 1) := by decide +kernel
theorem dX10_flattery_17 : decode cX10_flattery 17 = .ok (.ireturn, 1) := by decide +kernel
theorem dX10_shown_0 : decode cX10_shown 0 = .ok (.aload_n 0, 1) := by decide +kernel
theorem dX10_shown_1 : decode cX10_shown 1 = .ok (.iload_n 1, 1) := by decide +kernel
theorem dX10_shown_2 : decode cX10_shown 2 = .ok (.invokevirtual 184, 3) := by decide +kernel
theorem dX10_shown_5 : decode cX10_shown 5 = .ok (.ifCond .eq 18, 3) := by decide +kernel
theorem dX10_shown_23 : decode cX10_shown 23 = .ok (.iconst (-1), 1) := by decide +kernel
theorem dX10_shown_24 : decode cX10_shown 24 = .ok (.ireturn, 1) := by decide +kernel
theorem dX10_paint_0 : decode cX10_paint 0 = .ok (.aload_n 0, 1) := by decide +kernel
theorem dX10_paint_1 : decode cX10_paint 1 = .ok (.iload_n 1, 1) := by decide +kernel
theorem dX10_paint_2 : decode cX10_paint 2 = .ok (.invokevirtual 184, 3) := by decide +kernel
theorem dX10_paint_5 : decode cX10_paint 5 = .ok (.ifCond .eq 11, 3) := by decide +kernel
theorem dX10_paint_16 : decode cX10_paint 16 = .ok (.aload_n 0, 1) := by decide +kernel
theorem dX10_paint_17 : decode cX10_paint 17 = .ok (.iconst 0, 1) := by decide +kernel
theorem dX10_paint_18 : decode cX10_paint 18 = .ok (.invokevirtual 213, 3) := by decide +kernel
theorem dX10_paint_21 : decode cX10_paint 21 = .ok (.ireturn, 1) := by decide +kernel
theorem dX10_pay_0 : decode cX10_pay 0 = .ok (.aload_n 0, 1) := by decide +kernel
theorem dX10_pay_1 : decode cX10_pay 1 = .ok (.iload_n 1, 1) := by decide +kernel
theorem dX10_pay_2 : decode cX10_pay 2 = .ok (.invokevirtual 154, 3) := by decide +kernel
theorem dX10_pay_5 : decode cX10_pay 5 = .ok (.ifCond .ne 9, 3) := by decide +kernel
theorem dX10_pay_8 : decode cX10_pay 8 = .ok (.aload_n 0, 1) := by decide +kernel
theorem dX10_pay_9 : decode cX10_pay 9 = .ok (.iconst 0, 1) := by decide +kernel
theorem dX10_pay_10 : decode cX10_pay 10 = .ok (.invokevirtual 213, 3) := by decide +kernel
theorem dX10_pay_13 : decode cX10_pay 13 = .ok (.ireturn, 1) := by decide +kernel
theorem dX10_threaten_0 : decode cX10_threaten 0 = .ok (.aload_n 0, 1) := by decide +kernel
theorem dX10_threaten_1 : decode cX10_threaten 1 = .ok (.iload_n 1, 1) := by decide +kernel
theorem dX10_threaten_2 : decode cX10_threaten 2 = .ok (.invokevirtual 184, 3) := by decide +kernel
theorem dX10_threaten_5 : decode cX10_threaten 5 = .ok (.ifCond .ne 9, 3) := by decide +kernel
theorem dX10_threaten_8 : decode cX10_threaten 8 = .ok (.aload_n 0, 1) := by decide +kernel
theorem dX10_threaten_9 : decode cX10_threaten 9 = .ok (.iconst 0, 1) := by decide +kernel
theorem dX10_threaten_10 : decode cX10_threaten 10 = .ok (.invokevirtual 213, 3) := by decide +kernel
theorem dX10_threaten_13 : decode cX10_threaten 13 = .ok (.ireturn, 1) := by decide +kernel
theorem dX10_letter_0 : decode cX10_letter 0 = .ok (.aload_n 0, 1) := by decide +kernel
theorem dX10_letter_1 : decode cX10_letter 1 = .ok (.iload_n 1, 1) := by decide +kernel
theorem dX10_letter_2 : decode cX10_letter 2 = .ok (.aload_n 0, 1) := by decide +kernel
theorem dX10_letter_3 : decode cX10_letter 3 = .ok (.getfield 49, 3) := by decide +kernel
theorem dX10_letter_6 : decode cX10_letter 6 = .ok (.getfield 174, 3) := by decide +kernel
theorem dX10_letter_9 : decode cX10_letter 9 = .ok (.iconst 2, 1) := by decide +kernel
theorem dX10_letter_10 : decode cX10_letter 10 = .ok (.invokevirtual 233, 3) := by decide +kernel
theorem dX10_letter_13 : decode cX10_letter 13 = .ok (.ifCond .ne 5, 3) := by decide +kernel
theorem dX10_letter_16 : decode cX10_letter 16 = .ok (.iconst (-1), 1) := by decide +kernel
theorem dX10_letter_17 : decode cX10_letter 17 = .ok (.ireturn, 1) := by decide +kernel
theorem dX10_shoe_0 : decode cX10_shoe 0 = .ok (.aload_n 0, 1) := by decide +kernel
theorem dX10_shoe_1 : decode cX10_shoe 1 = .ok (.iload_n 1, 1) := by decide +kernel
theorem dX10_shoe_2 : decode cX10_shoe 2 = .ok (.aload_n 0, 1) := by decide +kernel
theorem dX10_shoe_3 : decode cX10_shoe 3 = .ok (.getfield 49, 3) := by decide +kernel
theorem dX10_shoe_6 : decode cX10_shoe 6 = .ok (.getfield 181, 3) := by decide +kernel
theorem dX10_shoe_9 : decode cX10_shoe 9 = .ok (.iconst 1, 1) := by decide +kernel
theorem dX10_shoe_10 : decode cX10_shoe 10 = .ok (.invokevirtual 233, 3) := by decide +kernel
theorem dX10_shoe_13 : decode cX10_shoe 13 = .ok (.ifCond .ne 5, 3) := by decide +kernel
theorem dX10_shoe_16 : decode cX10_shoe 16 = .ok (.iconst (-1), 1) := by decide +kernel
theorem dX10_shoe_17 : decode cX10_shoe 17 = .ok (.ireturn, 1) := by decide +kernel
theorem dX10_paysToHear_0 : decode cX10_paysToHear 0 = .ok (.iconst (-1), 1) := by decide +kernel
theorem dX10_paysToHear_1 : decode cX10_paysToHear 1 = .ok (.istore 4, 2) := by decide +kernel
theorem dX10_paysToHear_3 : decode cX10_paysToHear 3 = .ok (.aload_n 0, 1) := by decide +kernel
theorem dX10_paysToHear_4 : decode cX10_paysToHear 4 = .ok (.iload_n 1, 1) := by decide +kernel
theorem dX10_paysToHear_5 : decode cX10_paysToHear 5 = .ok (.invokevirtual 154, 3) := by decide +kernel
theorem dX10_paysToHear_8 : decode cX10_paysToHear 8 = .ok (.ifCond .ne 9, 3) := by decide +kernel
theorem dX10_paysToHear_11 : decode cX10_paysToHear 11 = .ok (.iconst 0, 1) := by decide +kernel
theorem dX10_paysToHear_12 : decode cX10_paysToHear 12 = .ok (.istore 4, 2) := by decide +kernel
theorem dX10_paysToHear_14 : decode cX10_paysToHear 14 = .ok (.goto 32, 3) := by decide +kernel
theorem dX10_paysToHear_46 : decode cX10_paysToHear 46 = .ok (.iload 4, 2) := by decide +kernel
theorem dX10_paysToHear_48 : decode cX10_paysToHear 48 = .ok (.iconst (-1), 1) := by decide +kernel
theorem dX10_paysToHear_49 : decode cX10_paysToHear 49 = .ok (.if_icmp .eq 12, 3) := by decide +kernel
theorem dX10_paysToHear_52 : decode cX10_paysToHear 52 = .ok (.aload_n 0, 1) := by decide +kernel
theorem dX10_paysToHear_53 : decode cX10_paysToHear 53 = .ok (.iload 4, 2) := by decide +kernel
theorem dX10_paysToHear_55 : decode cX10_paysToHear 55 = .ok (.invokevirtual 213, 3) := by decide +kernel
theorem dX10_paysToHear_58 : decode cX10_paysToHear 58 = .ok (.pop, 1) := by decide +kernel
theorem dX10_paysToHear_59 : decode cX10_paysToHear 59 = .ok (.iconst 0, 1) := by decide +kernel
theorem dX10_paysToHear_60 : decode cX10_paysToHear 60 = .ok (.ireturn, 1) := by decide +kernel
theorem dX10_wed_0 : decode cX10_wed 0 = .ok (.aload_n 0, 1) := by decide +kernel
theorem dX10_wed_1 : decode cX10_wed 1 = .ok (.iload_n 1, 1) := by decide +kernel
theorem dX10_wed_2 : decode cX10_wed 2 = .ok (.invokevirtual 154, 3) := by decide +kernel
theorem dX10_wed_5 : decode cX10_wed 5 = .ok (.ifCond .ne 9, 3) := by decide +kernel
theorem dX10_wed_8 : decode cX10_wed 8 = .ok (.aload_n 0, 1) := by decide +kernel
theorem dX10_wed_9 : decode cX10_wed 9 = .ok (.iconst 0, 1) := by decide +kernel
theorem dX10_wed_10 : decode cX10_wed 10 = .ok (.invokevirtual 213, 3) := by decide +kernel
theorem dX10_wed_13 : decode cX10_wed 13 = .ok (.ireturn, 1) := by decide +kernel
theorem dX10_annul_0 : decode cX10_annul 0 = .ok (.aload_n 0, 1) := by decide +kernel
theorem dX10_annul_1 : decode cX10_annul 1 = .ok (.invokevirtual 141, 3) := by decide +kernel
theorem dX10_annul_4 : decode cX10_annul 4 = .ok (.ifCond .ne 9, 3) := by decide +kernel
theorem dX10_annul_7 : decode cX10_annul 7 = .ok (.aload_n 0, 1) := by decide +kernel
theorem dX10_annul_8 : decode cX10_annul 8 = .ok (.iconst 0, 1) := by decide +kernel
theorem dX10_annul_9 : decode cX10_annul 9 = .ok (.invokevirtual 213, 3) := by decide +kernel
theorem dX10_annul_12 : decode cX10_annul 12 = .ok (.ireturn, 1) := by decide +kernel
theorem dX10_months_0 : decode cX10_months 0 = .ok (.aload_n 0, 1) := by decide +kernel
theorem dX10_months_1 : decode cX10_months 1 = .ok (.invokevirtual 141, 3) := by decide +kernel
theorem dX10_months_4 : decode cX10_months 4 = .ok (.ifCond .ne 9, 3) := by decide +kernel
theorem dX10_months_7 : decode cX10_months 7 = .ok (.aload_n 0, 1) := by decide +kernel
theorem dX10_months_8 : decode cX10_months 8 = .ok (.iconst 0, 1) := by decide +kernel
theorem dX10_months_9 : decode cX10_months 9 = .ok (.invokevirtual 213, 3) := by decide +kernel
theorem dX10_months_12 : decode cX10_months 12 = .ok (.ireturn, 1) := by decide +kernel
theorem dX10_bribes_0 : decode cX10_bribes 0 = .ok (.iload_n 1, 1) := by decide +kernel
theorem dX10_bribes_1 : decode cX10_bribes 1 = .ok (.invokestatic 230, 3) := by decide +kernel
theorem dX10_bribes_4 : decode cX10_bribes 4 = .ok (.ifCond .eq 11, 3) := by decide +kernel
theorem dX10_bribes_7 : decode cX10_bribes 7 = .ok (.iload_n 1, 1) := by decide +kernel
theorem dX10_bribes_8 : decode cX10_bribes 8 = .ok (.aload_n 0, 1) := by decide +kernel
theorem dX10_bribes_9 : decode cX10_bribes 9 = .ok (.getfield 254, 3) := by decide +kernel
theorem dX10_bribes_12 : decode cX10_bribes 12 = .ok (.if_icmp .ne 5, 3) := by decide +kernel
theorem dX10_bribes_15 : decode cX10_bribes 15 = .ok (.iconst 0, 1) := by decide +kernel
theorem dX10_bribes_16 : decode cX10_bribes 16 = .ok (.ireturn, 1) := by decide +kernel
theorem dX10_bribes_17 : decode cX10_bribes 17 = .ok (.aload_n 0, 1) := by decide +kernel
theorem dX10_bribes_18 : decode cX10_bribes 18 = .ok (.iload_n 1, 1) := by decide +kernel
theorem dX10_bribes_19 : decode cX10_bribes 19 = .ok (.putfield 254, 3) := by decide +kernel
theorem dX10_bribes_22 : decode cX10_bribes 22 = .ok (.iconst 1, 1) := by decide +kernel
theorem dX10_bribes_23 : decode cX10_bribes 23 = .ok (.ireturn, 1) := by decide +kernel
theorem dX10_decades_0 : decode cX10_decades 0 = .ok (.aload_n 0, 1) := by decide +kernel
theorem dX10_decades_1 : decode cX10_decades 1 = .ok (.invokevirtual 141, 3) := by decide +kernel
theorem dX10_decades_4 : decode cX10_decades 4 = .ok (.ifCond .eq 29, 3) := by decide +kernel
theorem dX10_decades_33 : decode cX10_decades 33 = .ok (.iconst (-1), 1) := by decide +kernel
theorem dX10_decades_34 : decode cX10_decades 34 = .ok (.ireturn, 1) := by decide +kernel
theorem dX10_status_0 : decode cX10_status 0 = .ok (.iload_n 1, 1) := by decide +kernel
theorem dX10_status_1 : decode cX10_status 1 = .ok (.ifCond .lt 8, 3) := by decide +kernel
theorem dX10_status_4 : decode cX10_status 4 = .ok (.iload_n 1, 1) := by decide +kernel
theorem dX10_status_5 : decode cX10_status 5 = .ok (.iconst 5, 1) := by decide +kernel
theorem dX10_status_6 : decode cX10_status 6 = .ok (.if_icmp .lt 7, 3) := by decide +kernel
theorem dX10_status_9 : decode cX10_status 9 = .ok (.iconst (-1), 1) := by decide +kernel
theorem dX10_status_10 : decode cX10_status 10 = .ok (.goto 9, 3) := by decide +kernel
theorem dX10_status_13 : decode cX10_status 13 = .ok (.aload_n 0, 1) := by decide +kernel
theorem dX10_status_14 : decode cX10_status 14 = .ok (.getfield 88, 3) := by decide +kernel
theorem dX10_status_17 : decode cX10_status 17 = .ok (.iload_n 1, 1) := by decide +kernel
theorem dX10_status_18 : decode cX10_status 18 = .ok (.iaload, 1) := by decide +kernel
theorem dX10_status_19 : decode cX10_status 19 = .ok (.ireturn, 1) := by decide +kernel
theorem dX10_undo_0 : decode cX10_undo 0 = .ok (.aload_n 0, 1) := by decide +kernel
theorem dX10_undo_1 : decode cX10_undo 1 = .ok (.getfield 59, 3) := by decide +kernel
theorem dX10_undo_4 : decode cX10_undo 4 = .ok (.aload_n 0, 1) := by decide +kernel
theorem dX10_undo_5 : decode cX10_undo 5 = .ok (.getfield 49, 3) := by decide +kernel
theorem dX10_undo_8 : decode cX10_undo 8 = .ok (.invokevirtual 272, 3) := by decide +kernel
theorem dX10_undo_11 : decode cX10_undo 11 = .ok (.ifCond .eq 13, 3) := by decide +kernel
theorem dX10_undo_24 : decode cX10_undo 24 = .ok (.iconst (-1), 1) := by decide +kernel
theorem dX10_undo_25 : decode cX10_undo 25 = .ok (.ireturn, 1) := by decide +kernel
theorem dX10_portrait_0 : decode cX10_portrait 0 = .ok (.iload_n 1, 1) := by decide +kernel
theorem dX10_portrait_1 : decode cX10_portrait 1 = .ok (.ifCond .lt 23, 3) := by decide +kernel
theorem dX10_portrait_4 : decode cX10_portrait 4 = .ok (.iload_n 1, 1) := by decide +kernel
theorem dX10_portrait_5 : decode cX10_portrait 5 = .ok (.aload_n 0, 1) := by decide +kernel
theorem dX10_portrait_6 : decode cX10_portrait 6 = .ok (.getfield 49, 3) := by decide +kernel
theorem dX10_portrait_9 : decode cX10_portrait 9 = .ok (.getfield 216, 3) := by decide +kernel
theorem dX10_portrait_12 : decode cX10_portrait 12 = .ok (.if_icmp .ge 12, 3) := by decide +kernel
theorem dX10_portrait_24 : decode cX10_portrait 24 = .ok (.iconst (-1), 1) := by decide +kernel
theorem dX10_portrait_25 : decode cX10_portrait 25 = .ok (.ireturn, 1) := by decide +kernel
theorem dX10_fits_0 : decode cX10_fits 0 = .ok (.aload_n 0, 1) := by decide +kernel
theorem dX10_fits_1 : decode cX10_fits 1 = .ok (.iload_n 1, 1) := by decide +kernel
theorem dX10_fits_2 : decode cX10_fits 2 = .ok (.invokevirtual 154, 3) := by decide +kernel
theorem dX10_fits_5 : decode cX10_fits 5 = .ok (.ifCond .eq 14, 3) := by decide +kernel
theorem dX10_fits_19 : decode cX10_fits 19 = .ok (.iconst (-1), 1) := by decide +kernel
theorem dX10_fits_20 : decode cX10_fits 20 = .ok (.ireturn, 1) := by decide +kernel
theorem dX10_belief_0 : decode cX10_belief 0 = .ok (.aload_n 0, 1) := by decide +kernel
theorem dX10_belief_1 : decode cX10_belief 1 = .ok (.iload_n 1, 1) := by decide +kernel
theorem dX10_belief_2 : decode cX10_belief 2 = .ok (.invokevirtual 154, 3) := by decide +kernel
theorem dX10_belief_5 : decode cX10_belief 5 = .ok (.ifCond .eq 10, 3) := by decide +kernel
theorem dX10_belief_15 : decode cX10_belief 15 = .ok (.iconst (-1), 1) := by decide +kernel
theorem dX10_belief_16 : decode cX10_belief 16 = .ok (.ireturn, 1) := by decide +kernel
theorem dX10_likely_0 : decode cX10_likely 0 = .ok (.aload_n 0, 1) := by decide +kernel
theorem dX10_likely_1 : decode cX10_likely 1 = .ok (.iload_n 1, 1) := by decide +kernel
theorem dX10_likely_2 : decode cX10_likely 2 = .ok (.invokevirtual 154, 3) := by decide +kernel
theorem dX10_likely_5 : decode cX10_likely 5 = .ok (.ifCond .eq 12, 3) := by decide +kernel
theorem dX10_likely_17 : decode cX10_likely 17 = .ok (.iconst (-1), 1) := by decide +kernel
theorem dX10_likely_18 : decode cX10_likely 18 = .ok (.ireturn, 1) := by decide +kernel
theorem dX10_sure_0 : decode cX10_sure 0 = .ok (.aload_n 0, 1) := by decide +kernel
theorem dX10_sure_1 : decode cX10_sure 1 = .ok (.iload_n 1, 1) := by decide +kernel
theorem dX10_sure_2 : decode cX10_sure 2 = .ok (.invokevirtual 154, 3) := by decide +kernel
theorem dX10_sure_5 : decode cX10_sure 5 = .ok (.ifCond .eq 15, 3) := by decide +kernel
theorem dX10_sure_20 : decode cX10_sure 20 = .ok (.iconst (-1), 1) := by decide +kernel
theorem dX10_sure_21 : decode cX10_sure 21 = .ok (.ireturn, 1) := by decide +kernel
theorem dX10_next_0 : decode cX10_next 0 = .ok (.aload_n 0, 1) := by decide +kernel
theorem dX10_next_1 : decode cX10_next 1 = .ok (.iload_n 1, 1) := by decide +kernel
theorem dX10_next_2 : decode cX10_next 2 = .ok (.invokevirtual 154, 3) := by decide +kernel
theorem dX10_next_5 : decode cX10_next 5 = .ok (.ifCond .eq 14, 3) := by decide +kernel
theorem dX10_next_19 : decode cX10_next 19 = .ok (.iconst (-1), 1) := by decide +kernel
theorem dX10_next_20 : decode cX10_next 20 = .ok (.ireturn, 1) := by decide +kernel
theorem dX10_apart_0 : decode cX10_apart 0 = .ok (.aload_n 0, 1) := by decide +kernel
theorem dX10_apart_1 : decode cX10_apart 1 = .ok (.iload_n 1, 1) := by decide +kernel
theorem dX10_apart_2 : decode cX10_apart 2 = .ok (.invokevirtual 154, 3) := by decide +kernel
theorem dX10_apart_5 : decode cX10_apart 5 = .ok (.ifCond .eq 14, 3) := by decide +kernel
theorem dX10_apart_19 : decode cX10_apart 19 = .ok (.iconst (-1), 1) := by decide +kernel
theorem dX10_apart_20 : decode cX10_apart 20 = .ok (.ireturn, 1) := by decide +kernel
theorem dX10_worth_0 : decode cX10_worth 0 = .ok (.aload_n 0, 1) := by decide +kernel
theorem dX10_worth_1 : decode cX10_worth 1 = .ok (.iload_n 1, 1) := by decide +kernel
theorem dX10_worth_2 : decode cX10_worth 2 = .ok (.invokevirtual 154, 3) := by decide +kernel
theorem dX10_worth_5 : decode cX10_worth 5 = .ok (.ifCond .eq 22, 3) := by decide +kernel
theorem dX10_worth_27 : decode cX10_worth 27 = .ok (.iconst (-1), 1) := by decide +kernel
theorem dX10_worth_28 : decode cX10_worth 28 = .ok (.ireturn, 1) := by decide +kernel
theorem dX10_chooses_0 : decode cX10_chooses 0 = .ok (.aload_n 0, 1) := by decide +kernel
theorem dX10_chooses_1 : decode cX10_chooses 1 = .ok (.invokevirtual 141, 3) := by decide +kernel
theorem dX10_chooses_4 : decode cX10_chooses 4 = .ok (.ifCond .eq 12, 3) := by decide +kernel
theorem dX10_chooses_16 : decode cX10_chooses 16 = .ok (.iconst (-1), 1) := by decide +kernel
theorem dX10_chooses_17 : decode cX10_chooses 17 = .ok (.ireturn, 1) := by decide +kernel
theorem dX10_game_0 : decode cX10_game 0 = .ok (.aload_n 0, 1) := by decide +kernel
theorem dX10_game_1 : decode cX10_game 1 = .ok (.iload_n 1, 1) := by decide +kernel
theorem dX10_game_2 : decode cX10_game 2 = .ok (.iload_n 2, 1) := by decide +kernel
theorem dX10_game_3 : decode cX10_game 3 = .ok (.iload_n 3, 1) := by decide +kernel
theorem dX10_game_4 : decode cX10_game 4 = .ok (.invokevirtual 310, 3) := by decide +kernel
theorem dX10_game_7 : decode cX10_game 7 = .ok (.ifCond .eq 30, 3) := by decide +kernel
theorem dX10_game_37 : decode cX10_game 37 = .ok (.ldc_w 313, 3) := by decide +kernel
theorem dX10_game_40 : decode cX10_game 40 = .ok (.ireturn, 1) := by decide +kernel
theorem dX10_rests_0 : decode cX10_rests 0 = .ok (.aload_n 0, 1) := by decide +kernel
theorem dX10_rests_1 : decode cX10_rests 1 = .ok (.iload_n 1, 1) := by decide +kernel
theorem dX10_rests_2 : decode cX10_rests 2 = .ok (.iload_n 2, 1) := by decide +kernel
theorem dX10_rests_3 : decode cX10_rests 3 = .ok (.iload_n 3, 1) := by decide +kernel
theorem dX10_rests_4 : decode cX10_rests 4 = .ok (.invokevirtual 310, 3) := by decide +kernel
theorem dX10_rests_7 : decode cX10_rests 7 = .ok (.ifCond .eq 9, 3) := by decide +kernel
theorem dX10_rests_16 : decode cX10_rests 16 = .ok (.iconst (-1), 1) := by decide +kernel
theorem dX10_rests_17 : decode cX10_rests 17 = .ok (.ireturn, 1) := by decide +kernel
theorem dX10_truth_0 : decode cX10_truth 0 = .ok (.aload_n 0, 1) := by decide +kernel
theorem dX10_truth_1 : decode cX10_truth 1 = .ok (.iload_n 1, 1) := by decide +kernel
theorem dX10_truth_2 : decode cX10_truth 2 = .ok (.invokevirtual 184, 3) := by decide +kernel
theorem dX10_truth_5 : decode cX10_truth 5 = .ok (.ifCond .eq 11, 3) := by decide +kernel
theorem dX10_truth_16 : decode cX10_truth 16 = .ok (.iconst (-1), 1) := by decide +kernel
theorem dX10_truth_17 : decode cX10_truth 17 = .ok (.ireturn, 1) := by decide +kernel
theorem dX10_cheapest_0 : decode cX10_cheapest 0 = .ok (.aload_n 0, 1) := by decide +kernel
theorem dX10_cheapest_1 : decode cX10_cheapest 1 = .ok (.invokevirtual 141, 3) := by decide +kernel
theorem dX10_cheapest_4 : decode cX10_cheapest 4 = .ok (.ifCond .eq 30, 3) := by decide +kernel
theorem dX10_cheapest_34 : decode cX10_cheapest 34 = .ok (.iconst (-1), 1) := by decide +kernel
theorem dX10_cheapest_35 : decode cX10_cheapest 35 = .ok (.ireturn, 1) := by decide +kernel
theorem dX10_looks_0 : decode cX10_looks 0 = .ok (.aload_n 0, 1) := by decide +kernel
theorem dX10_looks_1 : decode cX10_looks 1 = .ok (.iload_n 1, 1) := by decide +kernel
theorem dX10_looks_2 : decode cX10_looks 2 = .ok (.invokevirtual 154, 3) := by decide +kernel
theorem dX10_looks_5 : decode cX10_looks 5 = .ok (.ifCond .eq 14, 3) := by decide +kernel
theorem dX10_looks_19 : decode cX10_looks 19 = .ok (.ldc_w 313, 3) := by decide +kernel
theorem dX10_looks_22 : decode cX10_looks 22 = .ok (.ireturn, 1) := by decide +kernel
theorem dX10_whose_0 : decode cX10_whose 0 = .ok (.aload_n 0, 1) := by decide +kernel
theorem dX10_whose_1 : decode cX10_whose 1 = .ok (.iload_n 1, 1) := by decide +kernel
theorem dX10_whose_2 : decode cX10_whose 2 = .ok (.invokevirtual 184, 3) := by decide +kernel
theorem dX10_whose_5 : decode cX10_whose 5 = .ok (.ifCond .eq 10, 3) := by decide +kernel
theorem dX10_whose_15 : decode cX10_whose 15 = .ok (.iconst (-1), 1) := by decide +kernel
theorem dX10_whose_16 : decode cX10_whose 16 = .ok (.ireturn, 1) := by decide +kernel
theorem dX10_heads_0 : decode cX10_heads 0 = .ok (.aload_n 0, 1) := by decide +kernel
theorem dX10_heads_1 : decode cX10_heads 1 = .ok (.iload_n 1, 1) := by decide +kernel
theorem dX10_heads_2 : decode cX10_heads 2 = .ok (.invokevirtual 184, 3) := by decide +kernel
theorem dX10_heads_5 : decode cX10_heads 5 = .ok (.ifCond .eq 23, 3) := by decide +kernel
theorem dX10_heads_28 : decode cX10_heads 28 = .ok (.iconst (-1), 1) := by decide +kernel
theorem dX10_heads_29 : decode cX10_heads 29 = .ok (.ireturn, 1) := by decide +kernel
theorem dX10_matched_0 : decode cX10_matched 0 = .ok (.aload_n 0, 1) := by decide +kernel
theorem dX10_matched_1 : decode cX10_matched 1 = .ok (.iload_n 1, 1) := by decide +kernel
theorem dX10_matched_2 : decode cX10_matched 2 = .ok (.invokevirtual 154, 3) := by decide +kernel
theorem dX10_matched_5 : decode cX10_matched 5 = .ok (.ifCond .ne 5, 3) := by decide +kernel
theorem dX10_matched_8 : decode cX10_matched 8 = .ok (.iconst (-1), 1) := by decide +kernel
theorem dX10_matched_9 : decode cX10_matched 9 = .ok (.ireturn, 1) := by decide +kernel
theorem dX10_most_0 : decode cX10_most 0 = .ok (.aload_n 0, 1) := by decide +kernel
theorem dX10_most_1 : decode cX10_most 1 = .ok (.invokevirtual 141, 3) := by decide +kernel
theorem dX10_most_4 : decode cX10_most 4 = .ok (.ifCond .ne 5, 3) := by decide +kernel
theorem dX10_most_7 : decode cX10_most 7 = .ok (.iconst (-1), 1) := by decide +kernel
theorem dX10_most_8 : decode cX10_most 8 = .ok (.ireturn, 1) := by decide +kernel
theorem dX10_seen_0 : decode cX10_seen 0 = .ok (.aload_n 0, 1) := by decide +kernel
theorem dX10_seen_1 : decode cX10_seen 1 = .ok (.iload_n 1, 1) := by decide +kernel
theorem dX10_seen_2 : decode cX10_seen 2 = .ok (.invokevirtual 154, 3) := by decide +kernel
theorem dX10_seen_5 : decode cX10_seen 5 = .ok (.ifCond .eq 14, 3) := by decide +kernel
theorem dX10_seen_19 : decode cX10_seen 19 = .ok (.iconst (-1), 1) := by decide +kernel
theorem dX10_seen_20 : decode cX10_seen 20 = .ok (.ireturn, 1) := by decide +kernel
theorem dX10_saves_0 : decode cX10_saves 0 = .ok (.aload_n 0, 1) := by decide +kernel
theorem dX10_saves_1 : decode cX10_saves 1 = .ok (.invokevirtual 141, 3) := by decide +kernel
theorem dX10_saves_4 : decode cX10_saves 4 = .ok (.ifCond .eq 15, 3) := by decide +kernel
theorem dX10_saves_19 : decode cX10_saves 19 = .ok (.iconst (-1), 1) := by decide +kernel
theorem dX10_saves_20 : decode cX10_saves 20 = .ok (.ireturn, 1) := by decide +kernel
theorem dX10_rivals_0 : decode cX10_rivals 0 = .ok (.aload_n 0, 1) := by decide +kernel
theorem dX10_rivals_1 : decode cX10_rivals 1 = .ok (.iload_n 1, 1) := by decide +kernel
theorem dX10_rivals_2 : decode cX10_rivals 2 = .ok (.invokevirtual 154, 3) := by decide +kernel
theorem dX10_rivals_5 : decode cX10_rivals 5 = .ok (.ifCond .ne 5, 3) := by decide +kernel
theorem dX10_rivals_8 : decode cX10_rivals 8 = .ok (.iconst (-1), 1) := by decide +kernel
theorem dX10_rivals_9 : decode cX10_rivals 9 = .ok (.ireturn, 1) := by decide +kernel
theorem dX10_affords_0 : decode cX10_affords 0 = .ok (.aload_n 0, 1) := by decide +kernel
theorem dX10_affords_1 : decode cX10_affords 1 = .ok (.iload_n 1, 1) := by decide +kernel
theorem dX10_affords_2 : decode cX10_affords 2 = .ok (.invokevirtual 184, 3) := by decide +kernel
theorem dX10_affords_5 : decode cX10_affords 5 = .ok (.ifCond .ne 5, 3) := by decide +kernel
theorem dX10_affords_8 : decode cX10_affords 8 = .ok (.iconst (-1), 1) := by decide +kernel
theorem dX10_affords_9 : decode cX10_affords 9 = .ok (.ireturn, 1) := by decide +kernel
theorem dX10_told_0 : decode cX10_told 0 = .ok (.aload_n 0, 1) := by decide +kernel
theorem dX10_told_1 : decode cX10_told 1 = .ok (.iload_n 1, 1) := by decide +kernel
theorem dX10_told_2 : decode cX10_told 2 = .ok (.invokevirtual 184, 3) := by decide +kernel
theorem dX10_told_5 : decode cX10_told 5 = .ok (.ifCond .eq 15, 3) := by decide +kernel
theorem dX10_told_20 : decode cX10_told 20 = .ok (.ldc_w 313, 3) := by decide +kernel
theorem dX10_told_23 : decode cX10_told 23 = .ok (.ireturn, 1) := by decide +kernel
theorem dX10_image_0 : decode cX10_image 0 = .ok (.aload_n 0, 1) := by decide +kernel
theorem dX10_image_1 : decode cX10_image 1 = .ok (.invokevirtual 141, 3) := by decide +kernel
theorem dX10_image_4 : decode cX10_image 4 = .ok (.ifCond .ne 5, 3) := by decide +kernel
theorem dX10_image_7 : decode cX10_image 7 = .ok (.iconst (-1), 1) := by decide +kernel
theorem dX10_image_8 : decode cX10_image 8 = .ok (.ireturn, 1) := by decide +kernel
theorem dX10_back_0 : decode cX10_back 0 = .ok (.aload_n 0, 1) := by decide +kernel
theorem dX10_back_1 : decode cX10_back 1 = .ok (.getfield 130, 3) := by decide +kernel
theorem dX10_back_4 : decode cX10_back 4 = .ok (.ifCond .ne 5, 3) := by decide +kernel
theorem dX10_back_7 : decode cX10_back 7 = .ok (.iconst (-1), 1) := by decide +kernel
theorem dX10_back_8 : decode cX10_back 8 = .ok (.ireturn, 1) := by decide +kernel
theorem dX10_count_0 : decode cX10_count 0 = .ok (.iload_n 1, 1) := by decide +kernel
theorem dX10_count_1 : decode cX10_count 1 = .ok (.tableswitch 126 0 9 #[55, 63, 71, 76, 84, 89, 97, 105, 113, 118], 55) := by decide +kernel
theorem dX10_count_56 : decode cX10_count 56 = .ok (.aload_n 0, 1) := by decide +kernel
theorem dX10_count_57 : decode cX10_count 57 = .ok (.getfield 37, 3) := by decide +kernel
theorem dX10_count_60 : decode cX10_count 60 = .ok (.getfield 134, 3) := by decide +kernel
theorem dX10_count_63 : decode cX10_count 63 = .ok (.ireturn, 1) := by decide +kernel
theorem dX10_count_64 : decode cX10_count 64 = .ok (.aload_n 0, 1) := by decide +kernel
theorem dX10_count_65 : decode cX10_count 65 = .ok (.getfield 37, 3) := by decide +kernel
theorem dX10_count_68 : decode cX10_count 68 = .ok (.getfield 266, 3) := by decide +kernel
theorem dX10_count_71 : decode cX10_count 71 = .ok (.ireturn, 1) := by decide +kernel
theorem dX10_count_72 : decode cX10_count 72 = .ok (.aload_n 0, 1) := by decide +kernel
theorem dX10_count_73 : decode cX10_count 73 = .ok (.getfield 114, 3) := by decide +kernel
theorem dX10_count_76 : decode cX10_count 76 = .ok (.ireturn, 1) := by decide +kernel
theorem dX10_count_77 : decode cX10_count 77 = .ok (.aload_n 0, 1) := by decide +kernel
theorem dX10_count_78 : decode cX10_count 78 = .ok (.getfield 10, 3) := by decide +kernel
theorem dX10_count_81 : decode cX10_count 81 = .ok (.getfield 96, 3) := by decide +kernel
theorem dX10_count_84 : decode cX10_count 84 = .ok (.ireturn, 1) := by decide +kernel
theorem dX10_count_85 : decode cX10_count 85 = .ok (.aload_n 0, 1) := by decide +kernel
theorem dX10_count_86 : decode cX10_count 86 = .ok (.getfield 92, 3) := by decide +kernel
theorem dX10_count_89 : decode cX10_count 89 = .ok (.ireturn, 1) := by decide +kernel
theorem dX10_count_90 : decode cX10_count 90 = .ok (.aload_n 0, 1) := by decide +kernel
theorem dX10_count_91 : decode cX10_count 91 = .ok (.getfield 49, 3) := by decide +kernel
theorem dX10_count_94 : decode cX10_count 94 = .ok (.getfield 248, 3) := by decide +kernel
theorem dX10_count_97 : decode cX10_count 97 = .ok (.ireturn, 1) := by decide +kernel
theorem dX10_count_98 : decode cX10_count 98 = .ok (.aload_n 0, 1) := by decide +kernel
theorem dX10_count_99 : decode cX10_count 99 = .ok (.getfield 49, 3) := by decide +kernel
theorem dX10_count_102 : decode cX10_count 102 = .ok (.getfield 237, 3) := by decide +kernel
theorem dX10_count_105 : decode cX10_count 105 = .ok (.ireturn, 1) := by decide +kernel
theorem dX10_count_106 : decode cX10_count 106 = .ok (.aload_n 0, 1) := by decide +kernel
theorem dX10_count_107 : decode cX10_count 107 = .ok (.getfield 49, 3) := by decide +kernel
theorem dX10_count_110 : decode cX10_count 110 = .ok (.getfield 216, 3) := by decide +kernel
theorem dX10_count_113 : decode cX10_count 113 = .ok (.ireturn, 1) := by decide +kernel
theorem dX10_count_114 : decode cX10_count 114 = .ok (.aload_n 0, 1) := by decide +kernel
theorem dX10_count_115 : decode cX10_count 115 = .ok (.getfield 254, 3) := by decide +kernel
theorem dX10_count_118 : decode cX10_count 118 = .ok (.ireturn, 1) := by decide +kernel
theorem dX10_count_119 : decode cX10_count 119 = .ok (.aload_n 0, 1) := by decide +kernel
theorem dX10_count_120 : decode cX10_count 120 = .ok (.getfield 59, 3) := by decide +kernel
theorem dX10_count_123 : decode cX10_count 123 = .ok (.getfield 276, 3) := by decide +kernel
theorem dX10_count_126 : decode cX10_count 126 = .ok (.ireturn, 1) := by decide +kernel
theorem dX10_count_127 : decode cX10_count 127 = .ok (.ldc_w 313, 3) := by decide +kernel
theorem dX10_count_130 : decode cX10_count 130 = .ok (.ireturn, 1) := by decide +kernel
theorem dX10_refuse_0 : decode cX10_refuse 0 = .ok (.aload_n 0, 1) := by decide +kernel
theorem dX10_refuse_1 : decode cX10_refuse 1 = .ok (.getfield 88, 3) := by decide +kernel
theorem dX10_refuse_4 : decode cX10_refuse 4 = .ok (.iload_n 1, 1) := by decide +kernel
theorem dX10_refuse_5 : decode cX10_refuse 5 = .ok (.dup2, 1) := by decide +kernel
theorem dX10_refuse_6 : decode cX10_refuse 6 = .ok (.iaload, 1) := by decide +kernel
theorem dX10_refuse_7 : decode cX10_refuse 7 = .ok (.iconst 1, 1) := by decide +kernel
theorem dX10_refuse_8 : decode cX10_refuse 8 = .ok (.iadd, 1) := by decide +kernel
theorem dX10_refuse_9 : decode cX10_refuse 9 = .ok (.iastore, 1) := by decide +kernel
theorem dX10_refuse_10 : decode cX10_refuse 10 = .ok (.iconst (-1), 1) := by decide +kernel
theorem dX10_refuse_11 : decode cX10_refuse 11 = .ok (.ireturn, 1) := by decide +kernel
theorem dX10_hasCourt_0 : decode cX10_hasCourt 0 = .ok (.aload_n 0, 1) := by decide +kernel
theorem dX10_hasCourt_1 : decode cX10_hasCourt 1 = .ok (.getfield 37, 3) := by decide +kernel
theorem dX10_hasCourt_4 : decode cX10_hasCourt 4 = .ok (.getfield 134, 3) := by decide +kernel
theorem dX10_hasCourt_7 : decode cX10_hasCourt 7 = .ok (.ifCond .le 7, 3) := by decide +kernel
theorem dX10_hasCourt_14 : decode cX10_hasCourt 14 = .ok (.iconst 0, 1) := by decide +kernel
theorem dX10_hasCourt_15 : decode cX10_hasCourt 15 = .ok (.ireturn, 1) := by decide +kernel
theorem dX10_isBride_0 : decode cX10_isBride 0 = .ok (.iload_n 1, 1) := by decide +kernel
theorem dX10_isBride_1 : decode cX10_isBride 1 = .ok (.ifCond .lt 18, 3) := by decide +kernel
theorem dX10_isBride_4 : decode cX10_isBride 4 = .ok (.iload_n 1, 1) := by decide +kernel
theorem dX10_isBride_5 : decode cX10_isBride 5 = .ok (.aload_n 0, 1) := by decide +kernel
theorem dX10_isBride_6 : decode cX10_isBride 6 = .ok (.getfield 37, 3) := by decide +kernel
theorem dX10_isBride_9 : decode cX10_isBride 9 = .ok (.getfield 134, 3) := by decide +kernel
theorem dX10_isBride_12 : decode cX10_isBride 12 = .ok (.if_icmp .ge 7, 3) := by decide +kernel
theorem dX10_isBride_19 : decode cX10_isBride 19 = .ok (.iconst 0, 1) := by decide +kernel
theorem dX10_isBride_20 : decode cX10_isBride 20 = .ok (.ireturn, 1) := by decide +kernel
theorem dX10_isPainter_0 : decode cX10_isPainter 0 = .ok (.iload_n 1, 1) := by decide +kernel
theorem dX10_isPainter_1 : decode cX10_isPainter 1 = .ok (.ifCond .lt 18, 3) := by decide +kernel
theorem dX10_isPainter_4 : decode cX10_isPainter 4 = .ok (.iload_n 1, 1) := by decide +kernel
theorem dX10_isPainter_5 : decode cX10_isPainter 5 = .ok (.aload_n 0, 1) := by decide +kernel
theorem dX10_isPainter_6 : decode cX10_isPainter 6 = .ok (.getfield 37, 3) := by decide +kernel
theorem dX10_isPainter_9 : decode cX10_isPainter 9 = .ok (.getfield 266, 3) := by decide +kernel
theorem dX10_isPainter_12 : decode cX10_isPainter 12 = .ok (.if_icmp .ge 7, 3) := by decide +kernel
theorem dX10_isPainter_19 : decode cX10_isPainter 19 = .ok (.iconst 0, 1) := by decide +kernel
theorem dX10_isPainter_20 : decode cX10_isPainter 20 = .ok (.ireturn, 1) := by decide +kernel
theorem dX10_canPlay_0 : decode cX10_canPlay 0 = .ok (.aload_n 0, 1) := by decide +kernel
theorem dX10_canPlay_1 : decode cX10_canPlay 1 = .ok (.iload_n 1, 1) := by decide +kernel
theorem dX10_canPlay_2 : decode cX10_canPlay 2 = .ok (.invokevirtual 154, 3) := by decide +kernel
theorem dX10_canPlay_5 : decode cX10_canPlay 5 = .ok (.ifCond .eq 28, 3) := by decide +kernel
theorem dX10_canPlay_33 : decode cX10_canPlay 33 = .ok (.iconst 0, 1) := by decide +kernel
theorem dX10_canPlay_34 : decode cX10_canPlay 34 = .ok (.ireturn, 1) := by decide +kernel
theorem dX10_isDigit_0 : decode cX10_isDigit 0 = .ok (.iload_n 0, 1) := by decide +kernel
theorem dX10_isDigit_1 : decode cX10_isDigit 1 = .ok (.ifCond .lt 13, 3) := by decide +kernel
theorem dX10_isDigit_4 : decode cX10_isDigit 4 = .ok (.iload_n 0, 1) := by decide +kernel
theorem dX10_isDigit_5 : decode cX10_isDigit 5 = .ok (.bipush 9, 2) := by decide +kernel
theorem dX10_isDigit_7 : decode cX10_isDigit 7 = .ok (.if_icmp .gt 7, 3) := by decide +kernel
theorem dX10_isDigit_10 : decode cX10_isDigit 10 = .ok (.iconst 1, 1) := by decide +kernel
theorem dX10_isDigit_11 : decode cX10_isDigit 11 = .ok (.goto 4, 3) := by decide +kernel
theorem dX10_isDigit_14 : decode cX10_isDigit 14 = .ok (.iconst 0, 1) := by decide +kernel
theorem dX10_isDigit_15 : decode cX10_isDigit 15 = .ok (.ireturn, 1) := by decide +kernel
theorem dX11_in_0 : decode cX11_in 0 = .ok (.iload_n 0, 1) := by decide +kernel
theorem dX11_in_1 : decode cX11_in 1 = .ok (.iload_n 1, 1) := by decide +kernel
theorem dX11_in_2 : decode cX11_in 2 = .ok (.if_icmp .lt 12, 3) := by decide +kernel
theorem dX11_in_5 : decode cX11_in 5 = .ok (.iload_n 0, 1) := by decide +kernel
theorem dX11_in_6 : decode cX11_in 6 = .ok (.iload_n 2, 1) := by decide +kernel
theorem dX11_in_7 : decode cX11_in 7 = .ok (.if_icmp .gt 7, 3) := by decide +kernel
theorem dX11_in_10 : decode cX11_in 10 = .ok (.iconst 1, 1) := by decide +kernel
theorem dX11_in_11 : decode cX11_in 11 = .ok (.goto 4, 3) := by decide +kernel
theorem dX11_in_14 : decode cX11_in 14 = .ok (.iconst 0, 1) := by decide +kernel
theorem dX11_in_15 : decode cX11_in 15 = .ok (.ireturn, 1) := by decide +kernel
theorem dX11_init_0 : decode cX11_init 0 = .ok (.aload_n 0, 1) := by decide +kernel
theorem dX11_init_1 : decode cX11_init 1 = .ok (.invokespecial 3, 3) := by decide +kernel
theorem dX11_init_4 : decode cX11_init 4 = .ok (.aload_n 0, 1) := by decide +kernel
theorem dX11_init_5 : decode cX11_init 5 = .ok (.sipush 240, 3) := by decide +kernel
theorem dX11_init_8 : decode cX11_init 8 = .ok (.newarray .int, 2) := by decide +kernel
theorem dX11_init_10 : decode cX11_init 10 = .ok (.putfield 9, 3) := by decide +kernel
theorem dX11_init_13 : decode cX11_init 13 = .ok (.aload_n 0, 1) := by decide +kernel
theorem dX11_init_14 : decode cX11_init 14 = .ok (.sipush 2600, 3) := by decide +kernel
theorem dX11_init_17 : decode cX11_init 17 = .ok (.newarray .int, 2) := by decide +kernel
theorem dX11_init_19 : decode cX11_init 19 = .ok (.putfield 13, 3) := by decide +kernel
theorem dX11_init_22 : decode cX11_init 22 = .ok (.aload_n 0, 1) := by decide +kernel
theorem dX11_init_23 : decode cX11_init 23 = .ok (.sipush 2600, 3) := by decide +kernel
theorem dX11_init_26 : decode cX11_init 26 = .ok (.newarray .int, 2) := by decide +kernel
theorem dX11_init_28 : decode cX11_init 28 = .ok (.putfield 16, 3) := by decide +kernel
theorem dX11_init_31 : decode cX11_init 31 = .ok (.aload_n 0, 1) := by decide +kernel
theorem dX11_init_32 : decode cX11_init 32 = .ok (.iconst 5, 1) := by decide +kernel
theorem dX11_init_33 : decode cX11_init 33 = .ok (.newarray .int, 2) := by decide +kernel
theorem dX11_init_35 : decode cX11_init 35 = .ok (.putfield 19, 3) := by decide +kernel
theorem dX11_init_38 : decode cX11_init 38 = .ok (.aload_n 0, 1) := by decide +kernel
theorem dX11_init_39 : decode cX11_init 39 = .ok (.iconst 5, 1) := by decide +kernel
theorem dX11_init_40 : decode cX11_init 40 = .ok (.newarray .int, 2) := by decide +kernel
theorem dX11_init_42 : decode cX11_init 42 = .ok (.putfield 22, 3) := by decide +kernel
theorem dX11_init_45 : decode cX11_init 45 = .ok (.aload_n 0, 1) := by decide +kernel
theorem dX11_init_46 : decode cX11_init 46 = .ok (.sipush 700, 3) := by decide +kernel
theorem dX11_init_49 : decode cX11_init 49 = .ok (.newarray .int, 2) := by decide +kernel
theorem dX11_init_51 : decode cX11_init 51 = .ok (.putfield 25, 3) := by decide +kernel
theorem dX11_init_54 : decode cX11_init 54 = .ok (.aload_n 0, 1) := by decide +kernel
theorem dX11_init_55 : decode cX11_init 55 = .ok (.sipush 700, 3) := by decide +kernel
theorem dX11_init_58 : decode cX11_init 58 = .ok (.newarray .int, 2) := by decide +kernel
theorem dX11_init_60 : decode cX11_init 60 = .ok (.putfield 28, 3) := by decide +kernel
theorem dX11_init_63 : decode cX11_init 63 = .ok (.aload_n 0, 1) := by decide +kernel
theorem dX11_init_64 : decode cX11_init 64 = .ok (.sipush 700, 3) := by decide +kernel
theorem dX11_init_67 : decode cX11_init 67 = .ok (.newarray .int, 2) := by decide +kernel
theorem dX11_init_69 : decode cX11_init 69 = .ok (.putfield 31, 3) := by decide +kernel
theorem dX11_init_72 : decode cX11_init 72 = .ok (.aload_n 0, 1) := by decide +kernel
theorem dX11_init_73 : decode cX11_init 73 = .ok (.bipush 6, 2) := by decide +kernel
theorem dX11_init_75 : decode cX11_init 75 = .ok (.newarray .int, 2) := by decide +kernel
theorem dX11_init_77 : decode cX11_init 77 = .ok (.putfield 34, 3) := by decide +kernel
theorem dX11_init_80 : decode cX11_init 80 = .ok (.aload_n 0, 1) := by decide +kernel
theorem dX11_init_81 : decode cX11_init 81 = .ok (.bipush 80, 2) := by decide +kernel
theorem dX11_init_83 : decode cX11_init 83 = .ok (.newarray .int, 2) := by decide +kernel
theorem dX11_init_85 : decode cX11_init 85 = .ok (.putfield 37, 3) := by decide +kernel
theorem dX11_init_88 : decode cX11_init 88 = .ok (.aload_n 0, 1) := by decide +kernel
theorem dX11_init_89 : decode cX11_init 89 = .ok (.iconst 3, 1) := by decide +kernel
theorem dX11_init_90 : decode cX11_init 90 = .ok (.newarray .int, 2) := by decide +kernel
theorem dX11_init_92 : decode cX11_init 92 = .ok (.putfield 40, 3) := by decide +kernel
theorem dX11_init_95 : decode cX11_init 95 = .ok (.aload_n 0, 1) := by decide +kernel
theorem dX11_init_96 : decode cX11_init 96 = .ok (.bipush 24, 2) := by decide +kernel
theorem dX11_init_98 : decode cX11_init 98 = .ok (.newarray .int, 2) := by decide +kernel
theorem dX11_init_100 : decode cX11_init 100 = .ok (.putfield 43, 3) := by decide +kernel
theorem dX11_init_103 : decode cX11_init 103 = .ok (.aload_n 0, 1) := by decide +kernel
theorem dX11_init_104 : decode cX11_init 104 = .ok (.bipush 20, 2) := by decide +kernel
theorem dX11_init_106 : decode cX11_init 106 = .ok (.newarray .int, 2) := by decide +kernel
theorem dX11_init_108 : decode cX11_init 108 = .ok (.putfield 46, 3) := by decide +kernel
theorem dX11_init_111 : decode cX11_init 111 = .ok (.aload_n 0, 1) := by decide +kernel
theorem dX11_init_112 : decode cX11_init 112 = .ok (.iconst 3, 1) := by decide +kernel
theorem dX11_init_113 : decode cX11_init 113 = .ok (.newarray .int, 2) := by decide +kernel
theorem dX11_init_115 : decode cX11_init 115 = .ok (.putfield 49, 3) := by decide +kernel
theorem dX11_init_118 : decode cX11_init 118 = .ok (.aload_n 0, 1) := by decide +kernel
theorem dX11_init_119 : decode cX11_init 119 = .ok (.bipush 24, 2) := by decide +kernel
theorem dX11_init_121 : decode cX11_init 121 = .ok (.newarray .int, 2) := by decide +kernel
theorem dX11_init_123 : decode cX11_init 123 = .ok (.putfield 52, 3) := by decide +kernel
theorem dX11_init_126 : decode cX11_init 126 = .ok (.aload_n 0, 1) := by decide +kernel
theorem dX11_init_127 : decode cX11_init 127 = .ok (.bipush 20, 2) := by decide +kernel
theorem dX11_init_129 : decode cX11_init 129 = .ok (.newarray .int, 2) := by decide +kernel
theorem dX11_init_131 : decode cX11_init 131 = .ok (.putfield 55, 3) := by decide +kernel
theorem dX11_init_134 : decode cX11_init 134 = .ok (.aload_n 0, 1) := by decide +kernel
theorem dX11_init_135 : decode cX11_init 135 = .ok (.bipush 97, 2) := by decide +kernel
theorem dX11_init_137 : decode cX11_init 137 = .ok (.newarray .int, 2) := by decide +kernel
theorem dX11_init_139 : decode cX11_init 139 = .ok (.putfield 58, 3) := by decide +kernel
theorem dX11_init_142 : decode cX11_init 142 = .ok (.aload_n 0, 1) := by decide +kernel
theorem dX11_init_143 : decode cX11_init 143 = .ok (.iconst 5, 1) := by decide +kernel
theorem dX11_init_144 : decode cX11_init 144 = .ok (.newarray .int, 2) := by decide +kernel
theorem dX11_init_146 : decode cX11_init 146 = .ok (.putfield 61, 3) := by decide +kernel
theorem dX11_init_149 : decode cX11_init 149 = .ok (.aload_n 0, 1) := by decide +kernel
theorem dX11_init_150 : decode cX11_init 150 = .ok (.iconst (-1), 1) := by decide +kernel
theorem dX11_init_151 : decode cX11_init 151 = .ok (.putfield 64, 3) := by decide +kernel
theorem dX11_init_154 : decode cX11_init 154 = .ok (.aload_n 0, 1) := by decide +kernel
theorem dX11_init_155 : decode cX11_init 155 = .ok (.sipush 3880, 3) := by decide +kernel
theorem dX11_init_158 : decode cX11_init 158 = .ok (.newarray .int, 2) := by decide +kernel
theorem dX11_init_160 : decode cX11_init 160 = .ok (.putfield 68, 3) := by decide +kernel
theorem dX11_init_163 : decode cX11_init 163 = .ok (.aload_n 0, 1) := by decide +kernel
theorem dX11_init_164 : decode cX11_init 164 = .ok (.bipush 10, 2) := by decide +kernel
theorem dX11_init_166 : decode cX11_init 166 = .ok (.newarray .int, 2) := by decide +kernel
theorem dX11_init_168 : decode cX11_init 168 = .ok (.putfield 71, 3) := by decide +kernel
theorem dX11_init_171 : decode cX11_init 171 = .ok (.aload_n 0, 1) := by decide +kernel
theorem dX11_init_172 : decode cX11_init 172 = .ok (.bipush 6, 2) := by decide +kernel
theorem dX11_init_174 : decode cX11_init 174 = .ok (.newarray .int, 2) := by decide +kernel
theorem dX11_init_176 : decode cX11_init 176 = .ok (.putfield 74, 3) := by decide +kernel
theorem dX11_init_179 : decode cX11_init 179 = .ok (.aload_n 0, 1) := by decide +kernel
theorem dX11_init_180 : decode cX11_init 180 = .ok (.iconst 5, 1) := by decide +kernel
theorem dX11_init_181 : decode cX11_init 181 = .ok (.newarray .int, 2) := by decide +kernel
theorem dX11_init_183 : decode cX11_init 183 = .ok (.putfield 77, 3) := by decide +kernel
theorem dX11_init_186 : decode cX11_init 186 = .ok (.aload_n 0, 1) := by decide +kernel
theorem dX11_init_187 : decode cX11_init 187 = .ok (.bipush 97, 2) := by decide +kernel
theorem dX11_init_189 : decode cX11_init 189 = .ok (.newarray .int, 2) := by decide +kernel
theorem dX11_init_191 : decode cX11_init 191 = .ok (.putfield 80, 3) := by decide +kernel
theorem dX11_init_194 : decode cX11_init 194 = .ok (.return_, 1) := by decide +kernel
theorem dX11_thrown_0 : decode cX11_thrown 0 = .ok (.aload_n 0, 1) := by decide +kernel
theorem dX11_thrown_1 : decode cX11_thrown 1 = .ok (.getfield 83, 3) := by decide +kernel
theorem dX11_thrown_4 : decode cX11_thrown 4 = .ok (.ireturn, 1) := by decide +kernel
theorem dX11_byteOf_0 : decode cX11_byteOf 0 = .ok (.iload 5, 2) := by decide +kernel
theorem dX11_byteOf_2 : decode cX11_byteOf 2 = .ok (.iconst 4, 1) := by decide +kernel
theorem dX11_byteOf_3 : decode cX11_byteOf 3 = .ok (.if_icmp .ge 7, 3) := by decide +kernel
theorem dX11_byteOf_6 : decode cX11_byteOf 6 = .ok (.iload_n 0, 1) := by decide +kernel
theorem dX11_byteOf_7 : decode cX11_byteOf 7 = .ok (.goto 38, 3) := by decide +kernel
theorem dX11_byteOf_10 : decode cX11_byteOf 10 = .ok (.iload 5, 2) := by decide +kernel
theorem dX11_byteOf_12 : decode cX11_byteOf 12 = .ok (.bipush 8, 2) := by decide +kernel
theorem dX11_byteOf_14 : decode cX11_byteOf 14 = .ok (.if_icmp .ge 7, 3) := by decide +kernel
theorem dX11_byteOf_17 : decode cX11_byteOf 17 = .ok (.iload_n 1, 1) := by decide +kernel
theorem dX11_byteOf_18 : decode cX11_byteOf 18 = .ok (.goto 27, 3) := by decide +kernel
theorem dX11_byteOf_21 : decode cX11_byteOf 21 = .ok (.iload 5, 2) := by decide +kernel
theorem dX11_byteOf_23 : decode cX11_byteOf 23 = .ok (.bipush 12, 2) := by decide +kernel
theorem dX11_byteOf_25 : decode cX11_byteOf 25 = .ok (.if_icmp .ge 7, 3) := by decide +kernel
theorem dX11_byteOf_28 : decode cX11_byteOf 28 = .ok (.iload_n 2, 1) := by decide +kernel
theorem dX11_byteOf_29 : decode cX11_byteOf 29 = .ok (.goto 16, 3) := by decide +kernel
theorem dX11_byteOf_32 : decode cX11_byteOf 32 = .ok (.iload 5, 2) := by decide +kernel
theorem dX11_byteOf_34 : decode cX11_byteOf 34 = .ok (.bipush 16, 2) := by decide +kernel
theorem dX11_byteOf_36 : decode cX11_byteOf 36 = .ok (.if_icmp .ge 7, 3) := by decide +kernel
theorem dX11_byteOf_39 : decode cX11_byteOf 39 = .ok (.iload_n 3, 1) := by decide +kernel
theorem dX11_byteOf_40 : decode cX11_byteOf 40 = .ok (.goto 5, 3) := by decide +kernel
theorem dX11_byteOf_43 : decode cX11_byteOf 43 = .ok (.iload 4, 2) := by decide +kernel
theorem dX11_byteOf_45 : decode cX11_byteOf 45 = .ok (.istore 6, 2) := by decide +kernel
theorem dX11_byteOf_47 : decode cX11_byteOf 47 = .ok (.iload 6, 2) := by decide +kernel
theorem dX11_byteOf_49 : decode cX11_byteOf 49 = .ok (.bipush 24, 2) := by decide +kernel
theorem dX11_byteOf_51 : decode cX11_byteOf 51 = .ok (.bipush 8, 2) := by decide +kernel
theorem dX11_byteOf_53 : decode cX11_byteOf 53 = .ok (.iload 5, 2) := by decide +kernel
theorem dX11_byteOf_55 : decode cX11_byteOf 55 = .ok (.iconst 4, 1) := by decide +kernel
theorem dX11_byteOf_56 : decode cX11_byteOf 56 = .ok (.irem, 1) := by decide +kernel
theorem dX11_byteOf_57 : decode cX11_byteOf 57 = .ok (.imul, 1) := by decide +kernel
theorem dX11_byteOf_58 : decode cX11_byteOf 58 = .ok (.isub, 1) := by decide +kernel
theorem dX11_byteOf_59 : decode cX11_byteOf 59 = .ok (.ishr, 1) := by decide +kernel
theorem dX11_byteOf_60 : decode cX11_byteOf 60 = .ok (.sipush 255, 3) := by decide +kernel
theorem dX11_byteOf_63 : decode cX11_byteOf 63 = .ok (.iand, 1) := by decide +kernel
theorem dX11_byteOf_64 : decode cX11_byteOf 64 = .ok (.ireturn, 1) := by decide +kernel
theorem dX11_feed_0 : decode cX11_feed 0 = .ok (.iconst 0, 1) := by decide +kernel
theorem dX11_feed_1 : decode cX11_feed 1 = .ok (.istore 6, 2) := by decide +kernel
theorem dX11_feed_3 : decode cX11_feed 3 = .ok (.iconst 0, 1) := by decide +kernel
theorem dX11_feed_4 : decode cX11_feed 4 = .ok (.istore 7, 2) := by decide +kernel
theorem dX11_feed_6 : decode cX11_feed 6 = .ok (.iload 7, 2) := by decide +kernel
theorem dX11_feed_8 : decode cX11_feed 8 = .ok (.bipush 20, 2) := by decide +kernel
theorem dX11_feed_10 : decode cX11_feed 10 = .ok (.if_icmp .ge 34, 3) := by decide +kernel
theorem dX11_feed_13 : decode cX11_feed 13 = .ok (.iload 6, 2) := by decide +kernel
theorem dX11_feed_15 : decode cX11_feed 15 = .ok (.iload_n 1, 1) := by decide +kernel
theorem dX11_feed_16 : decode cX11_feed 16 = .ok (.iload_n 2, 1) := by decide +kernel
theorem dX11_feed_17 : decode cX11_feed 17 = .ok (.iload_n 3, 1) := by decide +kernel
theorem dX11_feed_18 : decode cX11_feed 18 = .ok (.iload 4, 2) := by decide +kernel
theorem dX11_feed_20 : decode cX11_feed 20 = .ok (.iload 5, 2) := by decide +kernel
theorem dX11_feed_22 : decode cX11_feed 22 = .ok (.iload 7, 2) := by decide +kernel
theorem dX11_feed_24 : decode cX11_feed 24 = .ok (.invokestatic 86, 3) := by decide +kernel
theorem dX11_feed_27 : decode cX11_feed 27 = .ok (.ifCond .eq 7, 3) := by decide +kernel
theorem dX11_feed_30 : decode cX11_feed 30 = .ok (.iconst 1, 1) := by decide +kernel
theorem dX11_feed_31 : decode cX11_feed 31 = .ok (.goto 4, 3) := by decide +kernel
theorem dX11_feed_34 : decode cX11_feed 34 = .ok (.iconst 0, 1) := by decide +kernel
theorem dX11_feed_35 : decode cX11_feed 35 = .ok (.iadd, 1) := by decide +kernel
theorem dX11_feed_36 : decode cX11_feed 36 = .ok (.istore 6, 2) := by decide +kernel
theorem dX11_feed_38 : decode cX11_feed 38 = .ok (.iinc 7 1, 3) := by decide +kernel
theorem dX11_feed_41 : decode cX11_feed 41 = .ok (.goto (-35), 3) := by decide +kernel
theorem dX11_feed_44 : decode cX11_feed 44 = .ok (.aload_n 0, 1) := by decide +kernel
theorem dX11_feed_45 : decode cX11_feed 45 = .ok (.getfield 90, 3) := by decide +kernel
theorem dX11_feed_48 : decode cX11_feed 48 = .ok (.iload 6, 2) := by decide +kernel
theorem dX11_feed_50 : decode cX11_feed 50 = .ok (.iadd, 1) := by decide +kernel
theorem dX11_feed_51 : decode cX11_feed 51 = .ok (.sipush 240, 3) := by decide +kernel
theorem dX11_feed_54 : decode cX11_feed 54 = .ok (.if_icmp .le 5, 3) := by decide +kernel
theorem dX11_feed_59 : decode cX11_feed 59 = .ok (.iconst 0, 1) := by decide +kernel
theorem dX11_feed_60 : decode cX11_feed 60 = .ok (.istore 7, 2) := by decide +kernel
theorem dX11_feed_62 : decode cX11_feed 62 = .ok (.iload 7, 2) := by decide +kernel
theorem dX11_feed_64 : decode cX11_feed 64 = .ok (.bipush 20, 2) := by decide +kernel
theorem dX11_feed_66 : decode cX11_feed 66 = .ok (.if_icmp .ge 49, 3) := by decide +kernel
theorem dX11_feed_69 : decode cX11_feed 69 = .ok (.iload_n 1, 1) := by decide +kernel
theorem dX11_feed_70 : decode cX11_feed 70 = .ok (.iload_n 2, 1) := by decide +kernel
theorem dX11_feed_71 : decode cX11_feed 71 = .ok (.iload_n 3, 1) := by decide +kernel
theorem dX11_feed_72 : decode cX11_feed 72 = .ok (.iload 4, 2) := by decide +kernel
theorem dX11_feed_74 : decode cX11_feed 74 = .ok (.iload 5, 2) := by decide +kernel
theorem dX11_feed_76 : decode cX11_feed 76 = .ok (.iload 7, 2) := by decide +kernel
theorem dX11_feed_78 : decode cX11_feed 78 = .ok (.invokestatic 86, 3) := by decide +kernel
theorem dX11_feed_81 : decode cX11_feed 81 = .ok (.istore 8, 2) := by decide +kernel
theorem dX11_feed_83 : decode cX11_feed 83 = .ok (.iload 8, 2) := by decide +kernel
theorem dX11_feed_85 : decode cX11_feed 85 = .ok (.ifCond .eq 24, 3) := by decide +kernel
theorem dX11_feed_88 : decode cX11_feed 88 = .ok (.aload_n 0, 1) := by decide +kernel
theorem dX11_feed_89 : decode cX11_feed 89 = .ok (.getfield 9, 3) := by decide +kernel
theorem dX11_feed_92 : decode cX11_feed 92 = .ok (.aload_n 0, 1) := by decide +kernel
theorem dX11_feed_93 : decode cX11_feed 93 = .ok (.getfield 90, 3) := by decide +kernel
theorem dX11_feed_96 : decode cX11_feed 96 = .ok (.iload 8, 2) := by decide +kernel
theorem dX11_feed_98 : decode cX11_feed 98 = .ok (.iastore, 1) := by decide +kernel
theorem dX11_feed_99 : decode cX11_feed 99 = .ok (.aload_n 0, 1) := by decide +kernel
theorem dX11_feed_100 : decode cX11_feed 100 = .ok (.dup, 1) := by decide +kernel
theorem dX11_feed_101 : decode cX11_feed 101 = .ok (.getfield 90, 3) := by decide +kernel
theorem dX11_feed_104 : decode cX11_feed 104 = .ok (.iconst 1, 1) := by decide +kernel
theorem dX11_feed_105 : decode cX11_feed 105 = .ok (.iadd, 1) := by decide +kernel
theorem dX11_feed_106 : decode cX11_feed 106 = .ok (.putfield 90, 3) := by decide +kernel
theorem dX11_feed_109 : decode cX11_feed 109 = .ok (.iinc 7 1, 3) := by decide +kernel
theorem dX11_feed_112 : decode cX11_feed 112 = .ok (.goto (-50), 3) := by decide +kernel
theorem dX11_feed_115 : decode cX11_feed 115 = .ok (.aload_n 0, 1) := by decide +kernel
theorem dX11_feed_116 : decode cX11_feed 116 = .ok (.getfield 90, 3) := by decide +kernel
theorem dX11_feed_119 : decode cX11_feed 119 = .ok (.ireturn, 1) := by decide +kernel
theorem dX11_end_0 : decode cX11_end 0 = .ok (.iload_n 1, 1) := by decide +kernel
theorem dX11_end_1 : decode cX11_end 1 = .ok (.ifCond .lt 11, 3) := by decide +kernel
theorem dX11_end_4 : decode cX11_end 4 = .ok (.iload_n 1, 1) := by decide +kernel
theorem dX11_end_5 : decode cX11_end 5 = .ok (.aload_n 0, 1) := by decide +kernel
theorem dX11_end_6 : decode cX11_end 6 = .ok (.getfield 90, 3) := by decide +kernel
theorem dX11_end_9 : decode cX11_end 9 = .ok (.if_icmp .le 5, 3) := by decide +kernel
theorem dX11_end_12 : decode cX11_end 12 = .ok (.iconst 0, 1) := by decide +kernel
theorem dX11_end_13 : decode cX11_end 13 = .ok (.ireturn, 1) := by decide +kernel
theorem dX11_end_14 : decode cX11_end 14 = .ok (.aload_n 0, 1) := by decide +kernel
theorem dX11_end_15 : decode cX11_end 15 = .ok (.iload_n 1, 1) := by decide +kernel
theorem dX11_end_16 : decode cX11_end 16 = .ok (.putfield 90, 3) := by decide +kernel
theorem dX11_end_19 : decode cX11_end 19 = .ok (.iconst 1, 1) := by decide +kernel
theorem dX11_end_20 : decode cX11_end 20 = .ok (.ireturn, 1) := by decide +kernel
theorem dX11_here_0 : decode cX11_here 0 = .ok (.aload_n 0, 1) := by decide +kernel
theorem dX11_here_1 : decode cX11_here 1 = .ok (.getfield 93, 3) := by decide +kernel
theorem dX11_here_4 : decode cX11_here 4 = .ok (.aload_n 0, 1) := by decide +kernel
theorem dX11_here_5 : decode cX11_here 5 = .ok (.getfield 90, 3) := by decide +kernel
theorem dX11_here_8 : decode cX11_here 8 = .ok (.if_icmp .ge 15, 3) := by decide +kernel
theorem dX11_here_23 : decode cX11_here 23 = .ok (.iconst (-1), 1) := by decide +kernel
theorem dX11_here_24 : decode cX11_here 24 = .ok (.ireturn, 1) := by decide +kernel
theorem dX11_look_0 : decode cX11_look 0 = .ok (.aload_n 0, 1) := by decide +kernel
theorem dX11_look_1 : decode cX11_look 1 = .ok (.invokevirtual 96, 3) := by decide +kernel
theorem dX11_look_4 : decode cX11_look 4 = .ok (.bipush 32, 2) := by decide +kernel
theorem dX11_look_6 : decode cX11_look 6 = .ok (.if_icmp .ne 16, 3) := by decide +kernel
theorem dX11_look_22 : decode cX11_look 22 = .ok (.aload_n 0, 1) := by decide +kernel
theorem dX11_look_23 : decode cX11_look 23 = .ok (.invokevirtual 96, 3) := by decide +kernel
theorem dX11_look_26 : decode cX11_look 26 = .ok (.ireturn, 1) := by decide +kernel
theorem dX11_bad_0 : decode cX11_bad 0 = .ok (.aload_n 0, 1) := by decide +kernel
theorem dX11_bad_1 : decode cX11_bad 1 = .ok (.aload_n 0, 1) := by decide +kernel
theorem dX11_bad_2 : decode cX11_bad 2 = .ok (.getfield 100, 3) := by decide +kernel
theorem dX11_bad_5 : decode cX11_bad 5 = .ok (.iconst (-1), 1) := by decide +kernel
theorem dX11_bad_6 : decode cX11_bad 6 = .ok (.if_icmp .ne 10, 3) := by decide +kernel
theorem dX11_bad_9 : decode cX11_bad 9 = .ok (.aload_n 0, 1) := by decide +kernel
theorem dX11_bad_10 : decode cX11_bad 10 = .ok (.getfield 93, 3) := by decide +kernel
theorem dX11_bad_13 : decode cX11_bad 13 = .ok (.goto 7, 3) := by decide +kernel
theorem dX11_bad_20 : decode cX11_bad 20 = .ok (.putfield 100, 3) := by decide +kernel
theorem dX11_bad_23 : decode cX11_bad 23 = .ok (.return_, 1) := by decide +kernel
theorem dX11_clause_0 : decode cX11_clause 0 = .ok (.sipush 140, 3) := by decide +kernel
theorem dX11_clause_3 : decode cX11_clause 3 = .ok (.aload_n 0, 1) := by decide +kernel
theorem dX11_clause_4 : decode cX11_clause 4 = .ok (.getfield 103, 3) := by decide +kernel
theorem dX11_clause_7 : decode cX11_clause 7 = .ok (.imul, 1) := by decide +kernel
theorem dX11_clause_8 : decode cX11_clause 8 = .ok (.aload_n 0, 1) := by decide +kernel
theorem dX11_clause_9 : decode cX11_clause 9 = .ok (.getfield 22, 3) := by decide +kernel
theorem dX11_clause_12 : decode cX11_clause 12 = .ok (.aload_n 0, 1) := by decide +kernel
theorem dX11_clause_13 : decode cX11_clause 13 = .ok (.getfield 103, 3) := by decide +kernel
theorem dX11_clause_16 : decode cX11_clause 16 = .ok (.iaload, 1) := by decide +kernel
theorem dX11_clause_17 : decode cX11_clause 17 = .ok (.iadd, 1) := by decide +kernel
theorem dX11_clause_18 : decode cX11_clause 18 = .ok (.istore_n 1, 1) := by decide +kernel
theorem dX11_clause_19 : decode cX11_clause 19 = .ok (.aload_n 0, 1) := by decide +kernel
theorem dX11_clause_20 : decode cX11_clause 20 = .ok (.getfield 100, 3) := by decide +kernel
theorem dX11_clause_23 : decode cX11_clause 23 = .ok (.iconst (-1), 1) := by decide +kernel
theorem dX11_clause_24 : decode cX11_clause 24 = .ok (.if_icmp .ne 16, 3) := by decide +kernel
theorem dX11_clause_27 : decode cX11_clause 27 = .ok (.aload_n 0, 1) := by decide +kernel
theorem dX11_clause_28 : decode cX11_clause 28 = .ok (.invokevirtual 112, 3) := by decide +kernel
theorem dX11_clause_31 : decode cX11_clause 31 = .ok (.bipush 121, 2) := by decide +kernel
theorem dX11_clause_33 : decode cX11_clause 33 = .ok (.if_icmp .eq 7, 3) := by decide +kernel
theorem dX11_clause_36 : decode cX11_clause 36 = .ok (.aload_n 0, 1) := by decide +kernel
theorem dX11_clause_37 : decode cX11_clause 37 = .ok (.invokevirtual 109, 3) := by decide +kernel
theorem dX11_clause_40 : decode cX11_clause 40 = .ok (.aload_n 0, 1) := by decide +kernel
theorem dX11_clause_41 : decode cX11_clause 41 = .ok (.dup, 1) := by decide +kernel
theorem dX11_clause_42 : decode cX11_clause 42 = .ok (.getfield 93, 3) := by decide +kernel
theorem dX11_clause_45 : decode cX11_clause 45 = .ok (.iconst 1, 1) := by decide +kernel
theorem dX11_clause_46 : decode cX11_clause 46 = .ok (.iadd, 1) := by decide +kernel
theorem dX11_clause_47 : decode cX11_clause 47 = .ok (.putfield 93, 3) := by decide +kernel
theorem dX11_clause_50 : decode cX11_clause 50 = .ok (.aload_n 0, 1) := by decide +kernel
theorem dX11_clause_51 : decode cX11_clause 51 = .ok (.getfield 100, 3) := by decide +kernel
theorem dX11_clause_54 : decode cX11_clause 54 = .ok (.iconst (-1), 1) := by decide +kernel
theorem dX11_clause_55 : decode cX11_clause 55 = .ok (.if_icmp .ne 16, 3) := by decide +kernel
theorem dX11_clause_71 : decode cX11_clause 71 = .ok (.aload_n 0, 1) := by decide +kernel
theorem dX11_clause_72 : decode cX11_clause 72 = .ok (.dup, 1) := by decide +kernel
theorem dX11_clause_73 : decode cX11_clause 73 = .ok (.getfield 93, 3) := by decide +kernel
theorem dX11_clause_76 : decode cX11_clause 76 = .ok (.iconst 1, 1) := by decide +kernel
theorem dX11_clause_77 : decode cX11_clause 77 = .ok (.iadd, 1) := by decide +kernel
theorem dX11_clause_78 : decode cX11_clause 78 = .ok (.putfield 93, 3) := by decide +kernel
theorem dX11_clause_81 : decode cX11_clause 81 = .ok (.aload_n 0, 1) := by decide +kernel
theorem dX11_clause_82 : decode cX11_clause 82 = .ok (.getfield 100, 3) := by decide +kernel
theorem dX11_clause_85 : decode cX11_clause 85 = .ok (.iconst (-1), 1) := by decide +kernel
theorem dX11_clause_86 : decode cX11_clause 86 = .ok (.if_icmp .eq 4, 3) := by decide +kernel
theorem dX11_clause_89 : decode cX11_clause 89 = .ok (.return_, 1) := by decide +kernel
theorem dX11_open_0 : decode cX11_open 0 = .ok (.aload_n 0, 1) := by decide +kernel
theorem dX11_open_1 : decode cX11_open 1 = .ok (.iload_n 1, 1) := by decide +kernel
theorem dX11_open_2 : decode cX11_open 2 = .ok (.putfield 103, 3) := by decide +kernel
theorem dX11_open_5 : decode cX11_open 5 = .ok (.aload_n 0, 1) := by decide +kernel
theorem dX11_open_6 : decode cX11_open 6 = .ok (.iconst 0, 1) := by decide +kernel
theorem dX11_open_7 : decode cX11_open 7 = .ok (.putfield 93, 3) := by decide +kernel
theorem dX11_open_10 : decode cX11_open 10 = .ok (.aload_n 0, 1) := by decide +kernel
theorem dX11_open_11 : decode cX11_open 11 = .ok (.iconst (-1), 1) := by decide +kernel
theorem dX11_open_12 : decode cX11_open 12 = .ok (.putfield 100, 3) := by decide +kernel
theorem dX11_open_15 : decode cX11_open 15 = .ok (.aload_n 0, 1) := by decide +kernel
theorem dX11_open_16 : decode cX11_open 16 = .ok (.iconst 0, 1) := by decide +kernel
theorem dX11_open_17 : decode cX11_open 17 = .ok (.putfield 106, 3) := by decide +kernel
theorem dX11_open_20 : decode cX11_open 20 = .ok (.aload_n 0, 1) := by decide +kernel
theorem dX11_open_21 : decode cX11_open 21 = .ok (.getfield 19, 3) := by decide +kernel
theorem dX11_open_24 : decode cX11_open 24 = .ok (.iload_n 1, 1) := by decide +kernel
theorem dX11_open_25 : decode cX11_open 25 = .ok (.iconst 0, 1) := by decide +kernel
theorem dX11_open_26 : decode cX11_open 26 = .ok (.iastore, 1) := by decide +kernel
theorem dX11_open_27 : decode cX11_open 27 = .ok (.aload_n 0, 1) := by decide +kernel
theorem dX11_open_28 : decode cX11_open 28 = .ok (.getfield 22, 3) := by decide +kernel
theorem dX11_open_31 : decode cX11_open 31 = .ok (.iload_n 1, 1) := by decide +kernel
theorem dX11_open_32 : decode cX11_open 32 = .ok (.iconst 0, 1) := by decide +kernel
theorem dX11_open_33 : decode cX11_open 33 = .ok (.iastore, 1) := by decide +kernel
theorem dX11_open_34 : decode cX11_open 34 = .ok (.return_, 1) := by decide +kernel
theorem dX11_atEnd_0 : decode cX11_atEnd 0 = .ok (.aload_n 0, 1) := by decide +kernel
theorem dX11_atEnd_1 : decode cX11_atEnd 1 = .ok (.getfield 100, 3) := by decide +kernel
theorem dX11_atEnd_4 : decode cX11_atEnd 4 = .ok (.iconst (-1), 1) := by decide +kernel
theorem dX11_atEnd_5 : decode cX11_atEnd 5 = .ok (.if_icmp .ne 15, 3) := by decide +kernel
theorem dX11_atEnd_20 : decode cX11_atEnd 20 = .ok (.aload_n 0, 1) := by decide +kernel
theorem dX11_atEnd_21 : decode cX11_atEnd 21 = .ok (.getfield 100, 3) := by decide +kernel
theorem dX11_atEnd_24 : decode cX11_atEnd 24 = .ok (.ireturn, 1) := by decide +kernel
theorem dX11_readLaw_0 : decode cX11_readLaw 0 = .ok (.aload_n 0, 1) := by decide +kernel
theorem dX11_readLaw_1 : decode cX11_readLaw 1 = .ok (.iload_n 1, 1) := by decide +kernel
theorem dX11_readLaw_2 : decode cX11_readLaw 2 = .ok (.invokevirtual 164, 3) := by decide +kernel
theorem dX11_readLaw_5 : decode cX11_readLaw 5 = .ok (.aload_n 0, 1) := by decide +kernel
theorem dX11_readLaw_6 : decode cX11_readLaw 6 = .ok (.invokevirtual 167, 3) := by decide +kernel
theorem dX11_readLaw_9 : decode cX11_readLaw 9 = .ok (.aload_n 0, 1) := by decide +kernel
theorem dX11_readLaw_10 : decode cX11_readLaw 10 = .ok (.getfield 100, 3) := by decide +kernel
theorem dX11_readLaw_13 : decode cX11_readLaw 13 = .ok (.iconst (-1), 1) := by decide +kernel
theorem dX11_readLaw_14 : decode cX11_readLaw 14 = .ok (.if_icmp .ne 29, 3) := by decide +kernel
theorem dX11_readLaw_43 : decode cX11_readLaw 43 = .ok (.aload_n 0, 1) := by decide +kernel
theorem dX11_readLaw_44 : decode cX11_readLaw 44 = .ok (.invokevirtual 170, 3) := by decide +kernel
theorem dX11_readLaw_47 : decode cX11_readLaw 47 = .ok (.ireturn, 1) := by decide +kernel
theorem dX11_usual_0 : decode cX11_usual 0 = .ok (.iload_n 0, 1) := by decide +kernel
theorem dX11_usual_1 : decode cX11_usual 1 = .ok (.lookupswitch 76 #[(98, 47), (115, 27)], 27) := by decide +kernel
theorem dX11_usual_28 : decode cX11_usual 28 = .ok (.iload_n 1, 1) := by decide +kernel
theorem dX11_usual_29 : decode cX11_usual 29 = .ok (.ifCond .ne 8, 3) := by decide +kernel
theorem dX11_usual_32 : decode cX11_usual 32 = .ok (.bipush 40, 2) := by decide +kernel
theorem dX11_usual_34 : decode cX11_usual 34 = .ok (.goto 13, 3) := by decide +kernel
theorem dX11_usual_37 : decode cX11_usual 37 = .ok (.iload_n 1, 1) := by decide +kernel
theorem dX11_usual_38 : decode cX11_usual 38 = .ok (.iconst 1, 1) := by decide +kernel
theorem dX11_usual_39 : decode cX11_usual 39 = .ok (.if_icmp .ne 7, 3) := by decide +kernel
theorem dX11_usual_42 : decode cX11_usual 42 = .ok (.iconst 5, 1) := by decide +kernel
theorem dX11_usual_43 : decode cX11_usual 43 = .ok (.goto 4, 3) := by decide +kernel
theorem dX11_usual_46 : decode cX11_usual 46 = .ok (.iconst 3, 1) := by decide +kernel
theorem dX11_usual_47 : decode cX11_usual 47 = .ok (.ireturn, 1) := by decide +kernel
theorem dX11_readCourt_0 : decode cX11_readCourt 0 = .ok (.aload_n 0, 1) := by decide +kernel
theorem dX11_readCourt_1 : decode cX11_readCourt 1 = .ok (.iconst 0, 1) := by decide +kernel
theorem dX11_readCourt_2 : decode cX11_readCourt 2 = .ok (.putfield 93, 3) := by decide +kernel
theorem dX11_readCourt_5 : decode cX11_readCourt 5 = .ok (.aload_n 0, 1) := by decide +kernel
theorem dX11_readCourt_6 : decode cX11_readCourt 6 = .ok (.iconst (-1), 1) := by decide +kernel
theorem dX11_readCourt_7 : decode cX11_readCourt 7 = .ok (.putfield 100, 3) := by decide +kernel
theorem dX11_readCourt_10 : decode cX11_readCourt 10 = .ok (.aload_n 0, 1) := by decide +kernel
theorem dX11_readCourt_11 : decode cX11_readCourt 11 = .ok (.iconst 0, 1) := by decide +kernel
theorem dX11_readCourt_12 : decode cX11_readCourt 12 = .ok (.putfield 219, 3) := by decide +kernel
theorem dX11_readCourt_15 : decode cX11_readCourt 15 = .ok (.aload_n 0, 1) := by decide +kernel
theorem dX11_readCourt_16 : decode cX11_readCourt 16 = .ok (.iconst 0, 1) := by decide +kernel
theorem dX11_readCourt_17 : decode cX11_readCourt 17 = .ok (.putfield 222, 3) := by decide +kernel
theorem dX11_readCourt_20 : decode cX11_readCourt 20 = .ok (.iconst 0, 1) := by decide +kernel
theorem dX11_readCourt_21 : decode cX11_readCourt 21 = .ok (.istore_n 1, 1) := by decide +kernel
theorem dX11_readCourt_22 : decode cX11_readCourt 22 = .ok (.iconst 0, 1) := by decide +kernel
theorem dX11_readCourt_23 : decode cX11_readCourt 23 = .ok (.istore_n 2, 1) := by decide +kernel
theorem dX11_readCourt_24 : decode cX11_readCourt 24 = .ok (.iload_n 2, 1) := by decide +kernel
theorem dX11_readCourt_25 : decode cX11_readCourt 25 = .ok (.iconst 3, 1) := by decide +kernel
theorem dX11_readCourt_26 : decode cX11_readCourt 26 = .ok (.if_icmp .ge 21, 3) := by decide +kernel
theorem dX11_readCourt_29 : decode cX11_readCourt 29 = .ok (.aload_n 0, 1) := by decide +kernel
theorem dX11_readCourt_30 : decode cX11_readCourt 30 = .ok (.getfield 40, 3) := by decide +kernel
theorem dX11_readCourt_33 : decode cX11_readCourt 33 = .ok (.iload_n 2, 1) := by decide +kernel
theorem dX11_readCourt_34 : decode cX11_readCourt 34 = .ok (.bipush 115, 2) := by decide +kernel
theorem dX11_readCourt_36 : decode cX11_readCourt 36 = .ok (.iload_n 2, 1) := by decide +kernel
theorem dX11_readCourt_37 : decode cX11_readCourt 37 = .ok (.invokestatic 202, 3) := by decide +kernel
theorem dX11_readCourt_40 : decode cX11_readCourt 40 = .ok (.iastore, 1) := by decide +kernel
theorem dX11_readCourt_41 : decode cX11_readCourt 41 = .ok (.iinc 2 1, 3) := by decide +kernel
theorem dX11_readCourt_44 : decode cX11_readCourt 44 = .ok (.goto (-20), 3) := by decide +kernel
theorem dX11_readCourt_47 : decode cX11_readCourt 47 = .ok (.iconst 1, 1) := by decide +kernel
theorem dX11_readCourt_48 : decode cX11_readCourt 48 = .ok (.istore_n 2, 1) := by decide +kernel
theorem dX11_readCourt_49 : decode cX11_readCourt 49 = .ok (.iload_n 2, 1) := by decide +kernel
theorem dX11_readCourt_50 : decode cX11_readCourt 50 = .ok (.ifCond .eq 207, 3) := by decide +kernel
theorem dX11_readCourt_53 : decode cX11_readCourt 53 = .ok (.aload_n 0, 1) := by decide +kernel
theorem dX11_readCourt_54 : decode cX11_readCourt 54 = .ok (.getfield 100, 3) := by decide +kernel
theorem dX11_readCourt_57 : decode cX11_readCourt 57 = .ok (.iconst (-1), 1) := by decide +kernel
theorem dX11_readCourt_58 : decode cX11_readCourt 58 = .ok (.if_icmp .ne 199, 3) := by decide +kernel
theorem dX11_readCourt_61 : decode cX11_readCourt 61 = .ok (.aload_n 0, 1) := by decide +kernel
theorem dX11_readCourt_62 : decode cX11_readCourt 62 = .ok (.invokevirtual 112, 3) := by decide +kernel
theorem dX11_readCourt_65 : decode cX11_readCourt 65 = .ok (.istore_n 3, 1) := by decide +kernel
theorem dX11_readCourt_66 : decode cX11_readCourt 66 = .ok (.iload_n 3, 1) := by decide +kernel
theorem dX11_readCourt_67 : decode cX11_readCourt 67 = .ok (.bipush 115, 2) := by decide +kernel
theorem dX11_readCourt_69 : decode cX11_readCourt 69 = .ok (.if_icmp .ne 33, 3) := by decide +kernel
theorem dX11_readCourt_102 : decode cX11_readCourt 102 = .ok (.iload_n 3, 1) := by decide +kernel
theorem dX11_readCourt_103 : decode cX11_readCourt 103 = .ok (.bipush 98, 2) := by decide +kernel
theorem dX11_readCourt_105 : decode cX11_readCourt 105 = .ok (.if_icmp .ne 51, 3) := by decide +kernel
theorem dX11_readCourt_156 : decode cX11_readCourt 156 = .ok (.iload_n 3, 1) := by decide +kernel
theorem dX11_readCourt_157 : decode cX11_readCourt 157 = .ok (.bipush 112, 2) := by decide +kernel
theorem dX11_readCourt_159 : decode cX11_readCourt 159 = .ok (.if_icmp .ne 50, 3) := by decide +kernel
theorem dX11_readCourt_209 : decode cX11_readCourt 209 = .ok (.aload_n 0, 1) := by decide +kernel
theorem dX11_readCourt_210 : decode cX11_readCourt 210 = .ok (.invokevirtual 109, 3) := by decide +kernel
theorem dX11_readCourt_213 : decode cX11_readCourt 213 = .ok (.aload_n 0, 1) := by decide +kernel
theorem dX11_readCourt_214 : decode cX11_readCourt 214 = .ok (.getfield 100, 3) := by decide +kernel
theorem dX11_readCourt_217 : decode cX11_readCourt 217 = .ok (.iconst (-1), 1) := by decide +kernel
theorem dX11_readCourt_218 : decode cX11_readCourt 218 = .ok (.if_icmp .ne 16, 3) := by decide +kernel
theorem dX11_readCourt_234 : decode cX11_readCourt 234 = .ok (.iconst 0, 1) := by decide +kernel
theorem dX11_readCourt_235 : decode cX11_readCourt 235 = .ok (.istore_n 2, 1) := by decide +kernel
theorem dX11_readCourt_236 : decode cX11_readCourt 236 = .ok (.aload_n 0, 1) := by decide +kernel
theorem dX11_readCourt_237 : decode cX11_readCourt 237 = .ok (.dup, 1) := by decide +kernel
theorem dX11_readCourt_238 : decode cX11_readCourt 238 = .ok (.getfield 93, 3) := by decide +kernel
theorem dX11_readCourt_241 : decode cX11_readCourt 241 = .ok (.iload_n 2, 1) := by decide +kernel
theorem dX11_readCourt_242 : decode cX11_readCourt 242 = .ok (.ifCond .eq 7, 3) := by decide +kernel
theorem dX11_readCourt_249 : decode cX11_readCourt 249 = .ok (.iconst 0, 1) := by decide +kernel
theorem dX11_readCourt_250 : decode cX11_readCourt 250 = .ok (.iadd, 1) := by decide +kernel
theorem dX11_readCourt_251 : decode cX11_readCourt 251 = .ok (.putfield 93, 3) := by decide +kernel
theorem dX11_readCourt_254 : decode cX11_readCourt 254 = .ok (.goto (-205), 3) := by decide +kernel
theorem dX11_readCourt_257 : decode cX11_readCourt 257 = .ok (.aload_n 0, 1) := by decide +kernel
theorem dX11_readCourt_258 : decode cX11_readCourt 258 = .ok (.getfield 100, 3) := by decide +kernel
theorem dX11_readCourt_261 : decode cX11_readCourt 261 = .ok (.iconst (-1), 1) := by decide +kernel
theorem dX11_readCourt_262 : decode cX11_readCourt 262 = .ok (.if_icmp .ne 29, 3) := by decide +kernel
theorem dX11_readCourt_291 : decode cX11_readCourt 291 = .ok (.aload_n 0, 1) := by decide +kernel
theorem dX11_readCourt_292 : decode cX11_readCourt 292 = .ok (.getfield 100, 3) := by decide +kernel
theorem dX11_readCourt_295 : decode cX11_readCourt 295 = .ok (.ireturn, 1) := by decide +kernel
theorem dX11_fault_0 : decode cX11_fault 0 = .ok (.iload_n 1, 1) := by decide +kernel
theorem dX11_fault_1 : decode cX11_fault 1 = .ok (.ifCond .ne 10, 3) := by decide +kernel
theorem dX11_fault_4 : decode cX11_fault 4 = .ok (.aload_n 0, 1) := by decide +kernel
theorem dX11_fault_5 : decode cX11_fault 5 = .ok (.invokevirtual 229, 3) := by decide +kernel
theorem dX11_fault_8 : decode cX11_fault 8 = .ok (.goto 18, 3) := by decide +kernel
theorem dX11_fault_11 : decode cX11_fault 11 = .ok (.iload_n 1, 1) := by decide +kernel
theorem dX11_fault_12 : decode cX11_fault 12 = .ok (.iconst 1, 1) := by decide +kernel
theorem dX11_fault_13 : decode cX11_fault 13 = .ok (.if_icmp .ne 11, 3) := by decide +kernel
theorem dX11_fault_16 : decode cX11_fault 16 = .ok (.aload_n 0, 1) := by decide +kernel
theorem dX11_fault_17 : decode cX11_fault 17 = .ok (.iconst 4, 1) := by decide +kernel
theorem dX11_fault_18 : decode cX11_fault 18 = .ok (.invokevirtual 232, 3) := by decide +kernel
theorem dX11_fault_21 : decode cX11_fault 21 = .ok (.goto 5, 3) := by decide +kernel
theorem dX11_fault_24 : decode cX11_fault 24 = .ok (.bipush (-2), 2) := by decide +kernel
theorem dX11_fault_26 : decode cX11_fault 26 = .ok (.ireturn, 1) := by decide +kernel
theorem dX11_text_0 : decode cX11_text 0 = .ok (.iload_n 1, 1) := by decide +kernel
theorem dX11_text_1 : decode cX11_text 1 = .ok (.ifCond .ne 21, 3) := by decide +kernel
theorem dX11_text_4 : decode cX11_text 4 = .ok (.aload_n 0, 1) := by decide +kernel
theorem dX11_text_5 : decode cX11_text 5 = .ok (.invokevirtual 229, 3) := by decide +kernel
theorem dX11_text_8 : decode cX11_text 8 = .ok (.iconst (-1), 1) := by decide +kernel
theorem dX11_text_9 : decode cX11_text 9 = .ok (.if_icmp .ne 13, 3) := by decide +kernel
theorem dX11_text_22 : decode cX11_text 22 = .ok (.iload_n 1, 1) := by decide +kernel
theorem dX11_text_23 : decode cX11_text 23 = .ok (.iconst 1, 1) := by decide +kernel
theorem dX11_text_24 : decode cX11_text 24 = .ok (.if_icmp .ne 45, 3) := by decide +kernel
theorem dX11_text_27 : decode cX11_text 27 = .ok (.aload_n 0, 1) := by decide +kernel
theorem dX11_text_28 : decode cX11_text 28 = .ok (.getfield 257, 3) := by decide +kernel
theorem dX11_text_31 : decode cX11_text 31 = .ok (.iconst 4, 1) := by decide +kernel
theorem dX11_text_32 : decode cX11_text 32 = .ok (.if_icmp .ge 37, 3) := by decide +kernel
theorem dX11_text_35 : decode cX11_text 35 = .ok (.aload_n 0, 1) := by decide +kernel
theorem dX11_text_36 : decode cX11_text 36 = .ok (.aload_n 0, 1) := by decide +kernel
theorem dX11_text_37 : decode cX11_text 37 = .ok (.getfield 257, 3) := by decide +kernel
theorem dX11_text_40 : decode cX11_text 40 = .ok (.invokevirtual 232, 3) := by decide +kernel
theorem dX11_text_43 : decode cX11_text 43 = .ok (.iconst (-1), 1) := by decide +kernel
theorem dX11_text_44 : decode cX11_text 44 = .ok (.if_icmp .ne 25, 3) := by decide +kernel
theorem dX11_text_69 : decode cX11_text 69 = .ok (.iconst (-1), 1) := by decide +kernel
theorem dX11_text_70 : decode cX11_text 70 = .ok (.ireturn, 1) := by decide +kernel
theorem dX11_isBride_0 : decode cX11_isBride 0 = .ok (.iload_n 1, 1) := by decide +kernel
theorem dX11_isBride_1 : decode cX11_isBride 1 = .ok (.iconst 0, 1) := by decide +kernel
theorem dX11_isBride_2 : decode cX11_isBride 2 = .ok (.aload_n 0, 1) := by decide +kernel
theorem dX11_isBride_3 : decode cX11_isBride 3 = .ok (.getfield 235, 3) := by decide +kernel
theorem dX11_isBride_6 : decode cX11_isBride 6 = .ok (.iconst 1, 1) := by decide +kernel
theorem dX11_isBride_7 : decode cX11_isBride 7 = .ok (.isub, 1) := by decide +kernel
theorem dX11_isBride_8 : decode cX11_isBride 8 = .ok (.invokestatic 198, 3) := by decide +kernel
theorem dX11_isBride_11 : decode cX11_isBride 11 = .ok (.ireturn, 1) := by decide +kernel
theorem dX11_isPainter_0 : decode cX11_isPainter 0 = .ok (.iload_n 1, 1) := by decide +kernel
theorem dX11_isPainter_1 : decode cX11_isPainter 1 = .ok (.iconst 0, 1) := by decide +kernel
theorem dX11_isPainter_2 : decode cX11_isPainter 2 = .ok (.aload_n 0, 1) := by decide +kernel
theorem dX11_isPainter_3 : decode cX11_isPainter 3 = .ok (.getfield 238, 3) := by decide +kernel
theorem dX11_isPainter_6 : decode cX11_isPainter 6 = .ok (.iconst 1, 1) := by decide +kernel
theorem dX11_isPainter_7 : decode cX11_isPainter 7 = .ok (.isub, 1) := by decide +kernel
theorem dX11_isPainter_8 : decode cX11_isPainter 8 = .ok (.invokestatic 198, 3) := by decide +kernel
theorem dX11_isPainter_11 : decode cX11_isPainter 11 = .ok (.ireturn, 1) := by decide +kernel
theorem dX11_areBoth_0 : decode cX11_areBoth 0 = .ok (.aload_n 0, 1) := by decide +kernel
theorem dX11_areBoth_1 : decode cX11_areBoth 1 = .ok (.iload_n 1, 1) := by decide +kernel
theorem dX11_areBoth_2 : decode cX11_areBoth 2 = .ok (.invokevirtual 260, 3) := by decide +kernel
theorem dX11_areBoth_5 : decode cX11_areBoth 5 = .ok (.ifCond .eq 15, 3) := by decide +kernel
theorem dX11_areBoth_20 : decode cX11_areBoth 20 = .ok (.iconst 0, 1) := by decide +kernel
theorem dX11_areBoth_21 : decode cX11_areBoth 21 = .ok (.ireturn, 1) := by decide +kernel
theorem dX11_rule_0 : decode cX11_rule 0 = .ok (.aload_n 0, 1) := by decide +kernel
theorem dX11_rule_1 : decode cX11_rule 1 = .ok (.getfield 235, 3) := by decide +kernel
theorem dX11_rule_4 : decode cX11_rule 4 = .ok (.ifCond .eq 12, 3) := by decide +kernel
theorem dX11_rule_16 : decode cX11_rule 16 = .ok (.iconst (-1), 1) := by decide +kernel
theorem dX11_rule_17 : decode cX11_rule 17 = .ok (.goto 23, 3) := by decide +kernel
theorem dX11_rule_40 : decode cX11_rule 40 = .ok (.ireturn, 1) := by decide +kernel
theorem dX11_bride_0 : decode cX11_bride 0 = .ok (.aload_n 0, 1) := by decide +kernel
theorem dX11_bride_1 : decode cX11_bride 1 = .ok (.aload_n 0, 1) := by decide +kernel
theorem dX11_bride_2 : decode cX11_bride 2 = .ok (.iload_n 1, 1) := by decide +kernel
theorem dX11_bride_3 : decode cX11_bride 3 = .ok (.invokevirtual 263, 3) := by decide +kernel
theorem dX11_bride_6 : decode cX11_bride 6 = .ok (.ifCond .eq 16, 3) := by decide +kernel
theorem dX11_bride_22 : decode cX11_bride 22 = .ok (.iconst 1, 1) := by decide +kernel
theorem dX11_bride_23 : decode cX11_bride 23 = .ok (.putfield 83, 3) := by decide +kernel
theorem dX11_bride_26 : decode cX11_bride 26 = .ok (.aload_n 0, 1) := by decide +kernel
theorem dX11_bride_27 : decode cX11_bride 27 = .ok (.getfield 83, 3) := by decide +kernel
theorem dX11_bride_30 : decode cX11_bride 30 = .ok (.iconst 1, 1) := by decide +kernel
theorem dX11_bride_31 : decode cX11_bride 31 = .ok (.if_icmp .ne 5, 3) := by decide +kernel
theorem dX11_bride_34 : decode cX11_bride 34 = .ok (.iconst 0, 1) := by decide +kernel
theorem dX11_bride_35 : decode cX11_bride 35 = .ok (.ireturn, 1) := by decide +kernel
theorem dX11_painter_0 : decode cX11_painter 0 = .ok (.aload_n 0, 1) := by decide +kernel
theorem dX11_painter_1 : decode cX11_painter 1 = .ok (.iload_n 1, 1) := by decide +kernel
theorem dX11_painter_2 : decode cX11_painter 2 = .ok (.invokevirtual 260, 3) := by decide +kernel
theorem dX11_painter_5 : decode cX11_painter 5 = .ok (.ifCond .eq 12, 3) := by decide +kernel
theorem dX11_painter_17 : decode cX11_painter 17 = .ok (.iconst (-1), 1) := by decide +kernel
theorem dX11_painter_18 : decode cX11_painter 18 = .ok (.goto 26, 3) := by decide +kernel
theorem dX11_painter_44 : decode cX11_painter 44 = .ok (.ireturn, 1) := by decide +kernel
theorem dX11_law_0 : decode cX11_law 0 = .ok (.iload_n 1, 1) := by decide +kernel
theorem dX11_law_1 : decode cX11_law 1 = .ok (.iconst (-1), 1) := by decide +kernel
theorem dX11_law_2 : decode cX11_law 2 = .ok (.aload_n 0, 1) := by decide +kernel
theorem dX11_law_3 : decode cX11_law 3 = .ok (.getfield 257, 3) := by decide +kernel
theorem dX11_law_6 : decode cX11_law 6 = .ok (.iconst 1, 1) := by decide +kernel
theorem dX11_law_7 : decode cX11_law 7 = .ok (.isub, 1) := by decide +kernel
theorem dX11_law_8 : decode cX11_law 8 = .ok (.invokestatic 198, 3) := by decide +kernel
theorem dX11_law_11 : decode cX11_law 11 = .ok (.ifCond .ne 5, 3) := by decide +kernel
theorem dX11_law_14 : decode cX11_law 14 = .ok (.iconst 0, 1) := by decide +kernel
theorem dX11_law_15 : decode cX11_law 15 = .ok (.ireturn, 1) := by decide +kernel
theorem dX11_law_16 : decode cX11_law 16 = .ok (.aload_n 0, 1) := by decide +kernel
theorem dX11_law_17 : decode cX11_law 17 = .ok (.iload_n 1, 1) := by decide +kernel
theorem dX11_law_18 : decode cX11_law 18 = .ok (.putfield 64, 3) := by decide +kernel
theorem dX11_law_21 : decode cX11_law 21 = .ok (.iconst 1, 1) := by decide +kernel
theorem dX11_law_22 : decode cX11_law 22 = .ok (.ireturn, 1) := by decide +kernel
theorem dX11_flattery_0 : decode cX11_flattery 0 = .ok (.aload_n 0, 1) := by decide +kernel
theorem dX11_flattery_1 : decode cX11_flattery 1 = .ok (.iload_n 1, 1) := by decide +kernel
theorem dX11_flattery_2 : decode cX11_flattery 2 = .ok (.iload_n 2, 1) := by decide +kernel
theorem dX11_flattery_3 : decode cX11_flattery 3 = .ok (.invokevirtual 286, 3) := by decide +kernel
theorem dX11_flattery_6 : decode cX11_flattery 6 = .ok (.ifCond .eq 19, 3) := by decide +kernel
theorem dX11_flattery_25 : decode cX11_flattery 25 = .ok (.iconst (-1), 1) := by decide +kernel
theorem dX11_flattery_26 : decode cX11_flattery 26 = .ok (.ireturn, 1) := by decide +kernel
theorem dX11_shown_0 : decode cX11_shown 0 = .ok (.aload_n 0, 1) := by decide +kernel
theorem dX11_shown_1 : decode cX11_shown 1 = .ok (.iload_n 1, 1) := by decide +kernel
theorem dX11_shown_2 : decode cX11_shown 2 = .ok (.iload_n 2, 1) := by decide +kernel
theorem dX11_shown_3 : decode cX11_shown 3 = .ok (.invokevirtual 286, 3) := by decide +kernel
theorem dX11_shown_6 : decode cX11_shown 6 = .ok (.ifCond .eq 20, 3) := by decide +kernel
theorem dX11_shown_26 : decode cX11_shown 26 = .ok (.iconst (-1), 1) := by decide +kernel
theorem dX11_shown_27 : decode cX11_shown 27 = .ok (.ireturn, 1) := by decide +kernel
theorem dX11_isRefused_0 : decode cX11_isRefused 0 = .ok (.iload_n 1, 1) := by decide +kernel
theorem dX11_isRefused_1 : decode cX11_isRefused 1 = .ok (.iconst (-1), 1) := by decide +kernel
theorem dX11_isRefused_2 : decode cX11_isRefused 2 = .ok (.if_icmp .eq 13, 3) := by decide +kernel
theorem dX11_isRefused_5 : decode cX11_isRefused 5 = .ok (.aload_n 0, 1) := by decide +kernel
theorem dX11_isRefused_6 : decode cX11_isRefused 6 = .ok (.getfield 61, 3) := by decide +kernel
theorem dX11_isRefused_9 : decode cX11_isRefused 9 = .ok (.iload_n 1, 1) := by decide +kernel
theorem dX11_isRefused_10 : decode cX11_isRefused 10 = .ok (.dup2, 1) := by decide +kernel
theorem dX11_isRefused_11 : decode cX11_isRefused 11 = .ok (.iaload, 1) := by decide +kernel
theorem dX11_isRefused_12 : decode cX11_isRefused 12 = .ok (.iconst 1, 1) := by decide +kernel
theorem dX11_isRefused_13 : decode cX11_isRefused 13 = .ok (.iadd, 1) := by decide +kernel
theorem dX11_isRefused_14 : decode cX11_isRefused 14 = .ok (.iastore, 1) := by decide +kernel
theorem dX11_isRefused_15 : decode cX11_isRefused 15 = .ok (.iload_n 1, 1) := by decide +kernel
theorem dX11_isRefused_16 : decode cX11_isRefused 16 = .ok (.iconst (-1), 1) := by decide +kernel
theorem dX11_isRefused_17 : decode cX11_isRefused 17 = .ok (.if_icmp .eq 7, 3) := by decide +kernel
theorem dX11_isRefused_20 : decode cX11_isRefused 20 = .ok (.iconst 1, 1) := by decide +kernel
theorem dX11_isRefused_21 : decode cX11_isRefused 21 = .ok (.goto 4, 3) := by decide +kernel
theorem dX11_isRefused_25 : decode cX11_isRefused 25 = .ok (.ireturn, 1) := by decide +kernel
theorem dX11_paint_0 : decode cX11_paint 0 = .ok (.aload_n 0, 1) := by decide +kernel
theorem dX11_paint_1 : decode cX11_paint 1 = .ok (.aload_n 0, 1) := by decide +kernel
theorem dX11_paint_2 : decode cX11_paint 2 = .ok (.iload_n 1, 1) := by decide +kernel
theorem dX11_paint_3 : decode cX11_paint 3 = .ok (.iload_n 2, 1) := by decide +kernel
theorem dX11_paint_4 : decode cX11_paint 4 = .ok (.invokevirtual 286, 3) := by decide +kernel
theorem dX11_paint_7 : decode cX11_paint 7 = .ok (.ifCond .ne 7, 3) := by decide +kernel
theorem dX11_paint_10 : decode cX11_paint 10 = .ok (.iconst 0, 1) := by decide +kernel
theorem dX11_paint_11 : decode cX11_paint 11 = .ok (.goto 40, 3) := by decide +kernel
theorem dX11_paint_51 : decode cX11_paint 51 = .ok (.invokevirtual 295, 3) := by decide +kernel
theorem dX11_paint_54 : decode cX11_paint 54 = .ok (.ifCond .eq 5, 3) := by decide +kernel
theorem dX11_paint_57 : decode cX11_paint 57 = .ok (.iconst (-1), 1) := by decide +kernel
theorem dX11_paint_58 : decode cX11_paint 58 = .ok (.ireturn, 1) := by decide +kernel
theorem dX11_pay_0 : decode cX11_pay 0 = .ok (.aload_n 0, 1) := by decide +kernel
theorem dX11_pay_1 : decode cX11_pay 1 = .ok (.aload_n 0, 1) := by decide +kernel
theorem dX11_pay_2 : decode cX11_pay 2 = .ok (.iload_n 1, 1) := by decide +kernel
theorem dX11_pay_3 : decode cX11_pay 3 = .ok (.invokevirtual 263, 3) := by decide +kernel
theorem dX11_pay_6 : decode cX11_pay 6 = .ok (.ifCond .ne 7, 3) := by decide +kernel
theorem dX11_pay_9 : decode cX11_pay 9 = .ok (.iconst 0, 1) := by decide +kernel
theorem dX11_pay_10 : decode cX11_pay 10 = .ok (.goto 42, 3) := by decide +kernel
theorem dX11_pay_52 : decode cX11_pay 52 = .ok (.invokevirtual 295, 3) := by decide +kernel
theorem dX11_pay_55 : decode cX11_pay 55 = .ok (.ifCond .eq 5, 3) := by decide +kernel
theorem dX11_pay_58 : decode cX11_pay 58 = .ok (.iconst (-1), 1) := by decide +kernel
theorem dX11_pay_59 : decode cX11_pay 59 = .ok (.ireturn, 1) := by decide +kernel
theorem dX11_threaten_0 : decode cX11_threaten 0 = .ok (.aload_n 0, 1) := by decide +kernel
theorem dX11_threaten_1 : decode cX11_threaten 1 = .ok (.aload_n 0, 1) := by decide +kernel
theorem dX11_threaten_2 : decode cX11_threaten 2 = .ok (.iload_n 1, 1) := by decide +kernel
theorem dX11_threaten_3 : decode cX11_threaten 3 = .ok (.invokevirtual 260, 3) := by decide +kernel
theorem dX11_threaten_6 : decode cX11_threaten 6 = .ok (.ifCond .ne 7, 3) := by decide +kernel
theorem dX11_threaten_9 : decode cX11_threaten 9 = .ok (.iconst 0, 1) := by decide +kernel
theorem dX11_threaten_10 : decode cX11_threaten 10 = .ok (.goto 22, 3) := by decide +kernel
theorem dX11_threaten_32 : decode cX11_threaten 32 = .ok (.invokevirtual 295, 3) := by decide +kernel
theorem dX11_threaten_35 : decode cX11_threaten 35 = .ok (.ifCond .eq 5, 3) := by decide +kernel
theorem dX11_threaten_38 : decode cX11_threaten 38 = .ok (.iconst (-1), 1) := by decide +kernel
theorem dX11_threaten_39 : decode cX11_threaten 39 = .ok (.ireturn, 1) := by decide +kernel
theorem dX11_isTold_0 : decode cX11_isTold 0 = .ok (.aload_n 0, 1) := by decide +kernel
theorem dX11_isTold_1 : decode cX11_isTold 1 = .ok (.aload_n 0, 1) := by decide +kernel
theorem dX11_isTold_2 : decode cX11_isTold 2 = .ok (.iload_n 2, 1) := by decide +kernel
theorem dX11_isTold_3 : decode cX11_isTold 3 = .ok (.invokevirtual 263, 3) := by decide +kernel
theorem dX11_isTold_6 : decode cX11_isTold 6 = .ok (.ifCond .ne 7, 3) := by decide +kernel
theorem dX11_isTold_9 : decode cX11_isTold 9 = .ok (.iconst 0, 1) := by decide +kernel
theorem dX11_isTold_10 : decode cX11_isTold 10 = .ok (.goto 36, 3) := by decide +kernel
theorem dX11_isTold_46 : decode cX11_isTold 46 = .ok (.invokevirtual 295, 3) := by decide +kernel
theorem dX11_isTold_49 : decode cX11_isTold 49 = .ok (.ifCond .eq 5, 3) := by decide +kernel
theorem dX11_isTold_52 : decode cX11_isTold 52 = .ok (.iconst 0, 1) := by decide +kernel
theorem dX11_isTold_53 : decode cX11_isTold 53 = .ok (.ireturn, 1) := by decide +kernel
theorem dX11_letter_0 : decode cX11_letter 0 = .ok (.aload_n 0, 1) := by decide +kernel
theorem dX11_letter_1 : decode cX11_letter 1 = .ok (.bipush 11, 2) := by decide +kernel
theorem dX11_letter_3 : decode cX11_letter 3 = .ok (.iload_n 1, 1) := by decide +kernel
theorem dX11_letter_4 : decode cX11_letter 4 = .ok (.iconst 2, 1) := by decide +kernel
theorem dX11_letter_5 : decode cX11_letter 5 = .ok (.invokevirtual 304, 3) := by decide +kernel
theorem dX11_letter_8 : decode cX11_letter 8 = .ok (.ifCond .ne 7, 3) := by decide +kernel
theorem dX11_letter_11 : decode cX11_letter 11 = .ok (.iconst (-1), 1) := by decide +kernel
theorem dX11_letter_12 : decode cX11_letter 12 = .ok (.goto 18, 3) := by decide +kernel
theorem dX11_letter_30 : decode cX11_letter 30 = .ok (.ireturn, 1) := by decide +kernel
theorem dX11_shoe_0 : decode cX11_shoe 0 = .ok (.aload_n 0, 1) := by decide +kernel
theorem dX11_shoe_1 : decode cX11_shoe 1 = .ok (.bipush 12, 2) := by decide +kernel
theorem dX11_shoe_3 : decode cX11_shoe 3 = .ok (.iload_n 1, 1) := by decide +kernel
theorem dX11_shoe_4 : decode cX11_shoe 4 = .ok (.iconst 1, 1) := by decide +kernel
theorem dX11_shoe_5 : decode cX11_shoe 5 = .ok (.invokevirtual 304, 3) := by decide +kernel
theorem dX11_shoe_8 : decode cX11_shoe 8 = .ok (.ifCond .eq 14, 3) := by decide +kernel
theorem dX11_shoe_22 : decode cX11_shoe 22 = .ok (.iconst (-1), 1) := by decide +kernel
theorem dX11_shoe_23 : decode cX11_shoe 23 = .ok (.ireturn, 1) := by decide +kernel
theorem dX11_wed_0 : decode cX11_wed 0 = .ok (.aload_n 0, 1) := by decide +kernel
theorem dX11_wed_1 : decode cX11_wed 1 = .ok (.aload_n 0, 1) := by decide +kernel
theorem dX11_wed_2 : decode cX11_wed 2 = .ok (.iload_n 1, 1) := by decide +kernel
theorem dX11_wed_3 : decode cX11_wed 3 = .ok (.invokevirtual 263, 3) := by decide +kernel
theorem dX11_wed_6 : decode cX11_wed 6 = .ok (.ifCond .ne 7, 3) := by decide +kernel
theorem dX11_wed_9 : decode cX11_wed 9 = .ok (.iconst 0, 1) := by decide +kernel
theorem dX11_wed_10 : decode cX11_wed 10 = .ok (.goto 18, 3) := by decide +kernel
theorem dX11_wed_28 : decode cX11_wed 28 = .ok (.invokevirtual 295, 3) := by decide +kernel
theorem dX11_wed_31 : decode cX11_wed 31 = .ok (.ifCond .eq 5, 3) := by decide +kernel
theorem dX11_wed_34 : decode cX11_wed 34 = .ok (.iconst (-1), 1) := by decide +kernel
theorem dX11_wed_35 : decode cX11_wed 35 = .ok (.ireturn, 1) := by decide +kernel
theorem dX11_annul_0 : decode cX11_annul 0 = .ok (.aload_n 0, 1) := by decide +kernel
theorem dX11_annul_1 : decode cX11_annul 1 = .ok (.getfield 235, 3) := by decide +kernel
theorem dX11_annul_4 : decode cX11_annul 4 = .ok (.ifCond .ne 7, 3) := by decide +kernel
theorem dX11_annul_7 : decode cX11_annul 7 = .ok (.iconst (-1), 1) := by decide +kernel
theorem dX11_annul_8 : decode cX11_annul 8 = .ok (.goto 12, 3) := by decide +kernel
theorem dX11_annul_20 : decode cX11_annul 20 = .ok (.istore_n 1, 1) := by decide +kernel
theorem dX11_annul_21 : decode cX11_annul 21 = .ok (.aload_n 0, 1) := by decide +kernel
theorem dX11_annul_22 : decode cX11_annul 22 = .ok (.aload_n 0, 1) := by decide +kernel
theorem dX11_annul_23 : decode cX11_annul 23 = .ok (.getfield 235, 3) := by decide +kernel
theorem dX11_annul_26 : decode cX11_annul 26 = .ok (.ifCond .ne 7, 3) := by decide +kernel
theorem dX11_annul_29 : decode cX11_annul 29 = .ok (.iconst 0, 1) := by decide +kernel
theorem dX11_annul_30 : decode cX11_annul 30 = .ok (.goto 33, 3) := by decide +kernel
theorem dX11_annul_63 : decode cX11_annul 63 = .ok (.invokevirtual 295, 3) := by decide +kernel
theorem dX11_annul_66 : decode cX11_annul 66 = .ok (.ifCond .eq 5, 3) := by decide +kernel
theorem dX11_annul_69 : decode cX11_annul 69 = .ok (.iconst (-1), 1) := by decide +kernel
theorem dX11_annul_70 : decode cX11_annul 70 = .ok (.ireturn, 1) := by decide +kernel
theorem dX11_months_0 : decode cX11_months 0 = .ok (.aload_n 0, 1) := by decide +kernel
theorem dX11_months_1 : decode cX11_months 1 = .ok (.aload_n 0, 1) := by decide +kernel
theorem dX11_months_2 : decode cX11_months 2 = .ok (.getfield 235, 3) := by decide +kernel
theorem dX11_months_5 : decode cX11_months 5 = .ok (.ifCond .ne 7, 3) := by decide +kernel
theorem dX11_months_8 : decode cX11_months 8 = .ok (.iconst 0, 1) := by decide +kernel
theorem dX11_months_9 : decode cX11_months 9 = .ok (.goto 30, 3) := by decide +kernel
theorem dX11_months_39 : decode cX11_months 39 = .ok (.invokevirtual 295, 3) := by decide +kernel
theorem dX11_months_42 : decode cX11_months 42 = .ok (.ifCond .eq 5, 3) := by decide +kernel
theorem dX11_months_45 : decode cX11_months 45 = .ok (.iconst (-1), 1) := by decide +kernel
theorem dX11_months_46 : decode cX11_months 46 = .ok (.ireturn, 1) := by decide +kernel
theorem dX11_bribes_0 : decode cX11_bribes 0 = .ok (.iload_n 1, 1) := by decide +kernel
theorem dX11_bribes_1 : decode cX11_bribes 1 = .ok (.iconst 0, 1) := by decide +kernel
theorem dX11_bribes_2 : decode cX11_bribes 2 = .ok (.bipush 9, 2) := by decide +kernel
theorem dX11_bribes_4 : decode cX11_bribes 4 = .ok (.invokestatic 198, 3) := by decide +kernel
theorem dX11_bribes_7 : decode cX11_bribes 7 = .ok (.ifCond .eq 11, 3) := by decide +kernel
theorem dX11_bribes_10 : decode cX11_bribes 10 = .ok (.iload_n 1, 1) := by decide +kernel
theorem dX11_bribes_11 : decode cX11_bribes 11 = .ok (.aload_n 0, 1) := by decide +kernel
theorem dX11_bribes_12 : decode cX11_bribes 12 = .ok (.getfield 319, 3) := by decide +kernel
theorem dX11_bribes_15 : decode cX11_bribes 15 = .ok (.if_icmp .ne 5, 3) := by decide +kernel
theorem dX11_bribes_18 : decode cX11_bribes 18 = .ok (.iconst 0, 1) := by decide +kernel
theorem dX11_bribes_19 : decode cX11_bribes 19 = .ok (.ireturn, 1) := by decide +kernel
theorem dX11_bribes_20 : decode cX11_bribes 20 = .ok (.aload_n 0, 1) := by decide +kernel
theorem dX11_bribes_21 : decode cX11_bribes 21 = .ok (.iload_n 1, 1) := by decide +kernel
theorem dX11_bribes_22 : decode cX11_bribes 22 = .ok (.putfield 319, 3) := by decide +kernel
theorem dX11_bribes_25 : decode cX11_bribes 25 = .ok (.iconst 1, 1) := by decide +kernel
theorem dX11_bribes_26 : decode cX11_bribes 26 = .ok (.ireturn, 1) := by decide +kernel
theorem dX11_decades_0 : decode cX11_decades 0 = .ok (.aload_n 0, 1) := by decide +kernel
theorem dX11_decades_1 : decode cX11_decades 1 = .ok (.getfield 235, 3) := by decide +kernel
theorem dX11_decades_4 : decode cX11_decades 4 = .ok (.ifCond .eq 11, 3) := by decide +kernel
theorem dX11_decades_15 : decode cX11_decades 15 = .ok (.iconst (-1), 1) := by decide +kernel
theorem dX11_decades_16 : decode cX11_decades 16 = .ok (.ireturn, 1) := by decide +kernel
theorem dX11_status_0 : decode cX11_status 0 = .ok (.iload_n 1, 1) := by decide +kernel
theorem dX11_status_1 : decode cX11_status 1 = .ok (.iconst 0, 1) := by decide +kernel
theorem dX11_status_2 : decode cX11_status 2 = .ok (.iconst 4, 1) := by decide +kernel
theorem dX11_status_3 : decode cX11_status 3 = .ok (.invokestatic 198, 3) := by decide +kernel
theorem dX11_status_6 : decode cX11_status 6 = .ok (.ifCond .eq 12, 3) := by decide +kernel
theorem dX11_status_9 : decode cX11_status 9 = .ok (.aload_n 0, 1) := by decide +kernel
theorem dX11_status_10 : decode cX11_status 10 = .ok (.getfield 61, 3) := by decide +kernel
theorem dX11_status_13 : decode cX11_status 13 = .ok (.iload_n 1, 1) := by decide +kernel
theorem dX11_status_14 : decode cX11_status 14 = .ok (.iaload, 1) := by decide +kernel
theorem dX11_status_15 : decode cX11_status 15 = .ok (.goto 4, 3) := by decide +kernel
theorem dX11_status_18 : decode cX11_status 18 = .ok (.iconst (-1), 1) := by decide +kernel
theorem dX11_status_19 : decode cX11_status 19 = .ok (.ireturn, 1) := by decide +kernel
theorem dX11_undo_0 : decode cX11_undo 0 = .ok (.aload_n 0, 1) := by decide +kernel
theorem dX11_undo_1 : decode cX11_undo 1 = .ok (.getfield 247, 3) := by decide +kernel
theorem dX11_undo_4 : decode cX11_undo 4 = .ok (.ifCond .ne 5, 3) := by decide +kernel
theorem dX11_undo_7 : decode cX11_undo 7 = .ok (.iconst (-1), 1) := by decide +kernel
theorem dX11_undo_8 : decode cX11_undo 8 = .ok (.ireturn, 1) := by decide +kernel
theorem dX11_portrait_0 : decode cX11_portrait 0 = .ok (.iload_n 1, 1) := by decide +kernel
theorem dX11_portrait_1 : decode cX11_portrait 1 = .ok (.iconst 0, 1) := by decide +kernel
theorem dX11_portrait_2 : decode cX11_portrait 2 = .ok (.aload_n 0, 1) := by decide +kernel
theorem dX11_portrait_3 : decode cX11_portrait 3 = .ok (.getfield 58, 3) := by decide +kernel
theorem dX11_portrait_6 : decode cX11_portrait 6 = .ok (.bipush 16, 2) := by decide +kernel
theorem dX11_portrait_8 : decode cX11_portrait 8 = .ok (.iaload, 1) := by decide +kernel
theorem dX11_portrait_9 : decode cX11_portrait 9 = .ok (.iconst 1, 1) := by decide +kernel
theorem dX11_portrait_10 : decode cX11_portrait 10 = .ok (.isub, 1) := by decide +kernel
theorem dX11_portrait_11 : decode cX11_portrait 11 = .ok (.invokestatic 198, 3) := by decide +kernel
theorem dX11_portrait_14 : decode cX11_portrait 14 = .ok (.ifCond .eq 31, 3) := by decide +kernel
theorem dX11_portrait_45 : decode cX11_portrait 45 = .ok (.iconst (-1), 1) := by decide +kernel
theorem dX11_portrait_46 : decode cX11_portrait 46 = .ok (.ireturn, 1) := by decide +kernel
theorem dX11_fits_0 : decode cX11_fits 0 = .ok (.aload_n 0, 1) := by decide +kernel
theorem dX11_fits_1 : decode cX11_fits 1 = .ok (.iload_n 1, 1) := by decide +kernel
theorem dX11_fits_2 : decode cX11_fits 2 = .ok (.invokevirtual 263, 3) := by decide +kernel
theorem dX11_fits_5 : decode cX11_fits 5 = .ok (.ifCond .eq 11, 3) := by decide +kernel
theorem dX11_fits_16 : decode cX11_fits 16 = .ok (.iconst (-1), 1) := by decide +kernel
theorem dX11_fits_17 : decode cX11_fits 17 = .ok (.ireturn, 1) := by decide +kernel
theorem dX11_belief_0 : decode cX11_belief 0 = .ok (.aload_n 0, 1) := by decide +kernel
theorem dX11_belief_1 : decode cX11_belief 1 = .ok (.iload_n 1, 1) := by decide +kernel
theorem dX11_belief_2 : decode cX11_belief 2 = .ok (.invokevirtual 263, 3) := by decide +kernel
theorem dX11_belief_5 : decode cX11_belief 5 = .ok (.ifCond .eq 10, 3) := by decide +kernel
theorem dX11_belief_15 : decode cX11_belief 15 = .ok (.iconst (-1), 1) := by decide +kernel
theorem dX11_belief_16 : decode cX11_belief 16 = .ok (.ireturn, 1) := by decide +kernel
theorem dX11_likely_0 : decode cX11_likely 0 = .ok (.aload_n 0, 1) := by decide +kernel
theorem dX11_likely_1 : decode cX11_likely 1 = .ok (.iload_n 1, 1) := by decide +kernel
theorem dX11_likely_2 : decode cX11_likely 2 = .ok (.invokevirtual 263, 3) := by decide +kernel
theorem dX11_likely_5 : decode cX11_likely 5 = .ok (.ifCond .eq 12, 3) := by decide +kernel
theorem dX11_likely_17 : decode cX11_likely 17 = .ok (.iconst (-1), 1) := by decide +kernel
theorem dX11_likely_18 : decode cX11_likely 18 = .ok (.ireturn, 1) := by decide +kernel
theorem dX11_sure_0 : decode cX11_sure 0 = .ok (.aload_n 0, 1) := by decide +kernel
theorem dX11_sure_1 : decode cX11_sure 1 = .ok (.iload_n 1, 1) := by decide +kernel
theorem dX11_sure_2 : decode cX11_sure 2 = .ok (.invokevirtual 263, 3) := by decide +kernel
theorem dX11_sure_5 : decode cX11_sure 5 = .ok (.ifCond .eq 14, 3) := by decide +kernel
theorem dX11_sure_19 : decode cX11_sure 19 = .ok (.iconst (-1), 1) := by decide +kernel
theorem dX11_sure_20 : decode cX11_sure 20 = .ok (.goto 22, 3) := by decide +kernel
theorem dX11_sure_42 : decode cX11_sure 42 = .ok (.ireturn, 1) := by decide +kernel
theorem dX11_next_0 : decode cX11_next 0 = .ok (.iconst (-1), 1) := by decide +kernel
theorem dX11_next_1 : decode cX11_next 1 = .ok (.istore_n 2, 1) := by decide +kernel
theorem dX11_next_2 : decode cX11_next 2 = .ok (.iconst 0, 1) := by decide +kernel
theorem dX11_next_3 : decode cX11_next 3 = .ok (.istore_n 3, 1) := by decide +kernel
theorem dX11_next_4 : decode cX11_next 4 = .ok (.iconst 0, 1) := by decide +kernel
theorem dX11_next_5 : decode cX11_next 5 = .ok (.istore 4, 2) := by decide +kernel
theorem dX11_next_7 : decode cX11_next 7 = .ok (.iload 4, 2) := by decide +kernel
theorem dX11_next_9 : decode cX11_next 9 = .ok (.aload_n 0, 1) := by decide +kernel
theorem dX11_next_10 : decode cX11_next 10 = .ok (.getfield 238, 3) := by decide +kernel
theorem dX11_next_13 : decode cX11_next 13 = .ok (.if_icmp .ge 55, 3) := by decide +kernel
theorem dX11_next_68 : decode cX11_next 68 = .ok (.iload_n 2, 1) := by decide +kernel
theorem dX11_next_69 : decode cX11_next 69 = .ok (.ireturn, 1) := by decide +kernel
theorem dX11_apart_0 : decode cX11_apart 0 = .ok (.iconst (-1), 1) := by decide +kernel
theorem dX11_apart_1 : decode cX11_apart 1 = .ok (.istore_n 2, 1) := by decide +kernel
theorem dX11_apart_2 : decode cX11_apart 2 = .ok (.iconst 0, 1) := by decide +kernel
theorem dX11_apart_3 : decode cX11_apart 3 = .ok (.istore_n 3, 1) := by decide +kernel
theorem dX11_apart_4 : decode cX11_apart 4 = .ok (.iload_n 3, 1) := by decide +kernel
theorem dX11_apart_5 : decode cX11_apart 5 = .ok (.iconst 1, 1) := by decide +kernel
theorem dX11_apart_6 : decode cX11_apart 6 = .ok (.aload_n 0, 1) := by decide +kernel
theorem dX11_apart_7 : decode cX11_apart 7 = .ok (.getfield 238, 3) := by decide +kernel
theorem dX11_apart_10 : decode cX11_apart 10 = .ok (.ishl, 1) := by decide +kernel
theorem dX11_apart_11 : decode cX11_apart 11 = .ok (.if_icmp .ge 68, 3) := by decide +kernel
theorem dX11_apart_14 : decode cX11_apart 14 = .ok (.aload_n 0, 1) := by decide +kernel
theorem dX11_apart_15 : decode cX11_apart 15 = .ok (.iload_n 1, 1) := by decide +kernel
theorem dX11_apart_16 : decode cX11_apart 16 = .ok (.invokevirtual 263, 3) := by decide +kernel
theorem dX11_apart_19 : decode cX11_apart 19 = .ok (.ifCond .eq 60, 3) := by decide +kernel
theorem dX11_apart_79 : decode cX11_apart 79 = .ok (.iload_n 2, 1) := by decide +kernel
theorem dX11_apart_80 : decode cX11_apart 80 = .ok (.ireturn, 1) := by decide +kernel
theorem dX11_worth_0 : decode cX11_worth 0 = .ok (.aload_n 0, 1) := by decide +kernel
theorem dX11_worth_1 : decode cX11_worth 1 = .ok (.iload_n 1, 1) := by decide +kernel
theorem dX11_worth_2 : decode cX11_worth 2 = .ok (.invokevirtual 263, 3) := by decide +kernel
theorem dX11_worth_5 : decode cX11_worth 5 = .ok (.ifCond .eq 19, 3) := by decide +kernel
theorem dX11_worth_24 : decode cX11_worth 24 = .ok (.iconst (-1), 1) := by decide +kernel
theorem dX11_worth_25 : decode cX11_worth 25 = .ok (.ireturn, 1) := by decide +kernel
theorem dX11_chooses_0 : decode cX11_chooses 0 = .ok (.aload_n 0, 1) := by decide +kernel
theorem dX11_chooses_1 : decode cX11_chooses 1 = .ok (.getfield 235, 3) := by decide +kernel
theorem dX11_chooses_4 : decode cX11_chooses 4 = .ok (.ifCond .eq 12, 3) := by decide +kernel
theorem dX11_chooses_16 : decode cX11_chooses 16 = .ok (.iconst (-1), 1) := by decide +kernel
theorem dX11_chooses_17 : decode cX11_chooses 17 = .ok (.ireturn, 1) := by decide +kernel
theorem dX11_areTwo_0 : decode cX11_areTwo 0 = .ok (.aload_n 0, 1) := by decide +kernel
theorem dX11_areTwo_1 : decode cX11_areTwo 1 = .ok (.iload_n 1, 1) := by decide +kernel
theorem dX11_areTwo_2 : decode cX11_areTwo 2 = .ok (.invokevirtual 263, 3) := by decide +kernel
theorem dX11_areTwo_5 : decode cX11_areTwo 5 = .ok (.ifCond .eq 28, 3) := by decide +kernel
theorem dX11_areTwo_33 : decode cX11_areTwo 33 = .ok (.iconst 0, 1) := by decide +kernel
theorem dX11_areTwo_34 : decode cX11_areTwo 34 = .ok (.ireturn, 1) := by decide +kernel
theorem dX11_game_0 : decode cX11_game 0 = .ok (.aload_n 0, 1) := by decide +kernel
theorem dX11_game_1 : decode cX11_game 1 = .ok (.iload_n 1, 1) := by decide +kernel
theorem dX11_game_2 : decode cX11_game 2 = .ok (.iload_n 2, 1) := by decide +kernel
theorem dX11_game_3 : decode cX11_game 3 = .ok (.iload_n 3, 1) := by decide +kernel
theorem dX11_game_4 : decode cX11_game 4 = .ok (.invokevirtual 383, 3) := by decide +kernel
theorem dX11_game_7 : decode cX11_game 7 = .ok (.ifCond .eq 35, 3) := by decide +kernel
theorem dX11_game_42 : decode cX11_game 42 = .ok (.ldc_w 386, 3) := by decide +kernel
theorem dX11_game_45 : decode cX11_game 45 = .ok (.ireturn, 1) := by decide +kernel
theorem dX11_rests_0 : decode cX11_rests 0 = .ok (.aload_n 0, 1) := by decide +kernel
theorem dX11_rests_1 : decode cX11_rests 1 = .ok (.iload_n 1, 1) := by decide +kernel
theorem dX11_rests_2 : decode cX11_rests 2 = .ok (.iload_n 2, 1) := by decide +kernel
theorem dX11_rests_3 : decode cX11_rests 3 = .ok (.iload_n 3, 1) := by decide +kernel
theorem dX11_rests_4 : decode cX11_rests 4 = .ok (.invokevirtual 383, 3) := by decide +kernel
theorem dX11_rests_7 : decode cX11_rests 7 = .ok (.ifCond .eq 9, 3) := by decide +kernel
theorem dX11_rests_16 : decode cX11_rests 16 = .ok (.iconst (-1), 1) := by decide +kernel
theorem dX11_rests_17 : decode cX11_rests 17 = .ok (.ireturn, 1) := by decide +kernel
theorem dX11_truth_0 : decode cX11_truth 0 = .ok (.aload_n 0, 1) := by decide +kernel
theorem dX11_truth_1 : decode cX11_truth 1 = .ok (.iload_n 1, 1) := by decide +kernel
theorem dX11_truth_2 : decode cX11_truth 2 = .ok (.iload_n 2, 1) := by decide +kernel
theorem dX11_truth_3 : decode cX11_truth 3 = .ok (.invokevirtual 286, 3) := by decide +kernel
theorem dX11_truth_6 : decode cX11_truth 6 = .ok (.ifCond .ne 7, 3) := by decide +kernel
theorem dX11_truth_9 : decode cX11_truth 9 = .ok (.iconst (-1), 1) := by decide +kernel
theorem dX11_truth_10 : decode cX11_truth 10 = .ok (.goto 44, 3) := by decide +kernel
theorem dX11_truth_54 : decode cX11_truth 54 = .ok (.ireturn, 1) := by decide +kernel
theorem dX11_cheapest_0 : decode cX11_cheapest 0 = .ok (.aload_n 0, 1) := by decide +kernel
theorem dX11_cheapest_1 : decode cX11_cheapest 1 = .ok (.getfield 235, 3) := by decide +kernel
theorem dX11_cheapest_4 : decode cX11_cheapest 4 = .ok (.ifCond .eq 28, 3) := by decide +kernel
theorem dX11_cheapest_32 : decode cX11_cheapest 32 = .ok (.iconst (-1), 1) := by decide +kernel
theorem dX11_cheapest_33 : decode cX11_cheapest 33 = .ok (.ireturn, 1) := by decide +kernel
theorem dX11_looks_0 : decode cX11_looks 0 = .ok (.aload_n 0, 1) := by decide +kernel
theorem dX11_looks_1 : decode cX11_looks 1 = .ok (.iload_n 1, 1) := by decide +kernel
theorem dX11_looks_2 : decode cX11_looks 2 = .ok (.invokevirtual 263, 3) := by decide +kernel
theorem dX11_looks_5 : decode cX11_looks 5 = .ok (.ifCond .eq 26, 3) := by decide +kernel
theorem dX11_looks_31 : decode cX11_looks 31 = .ok (.ldc_w 386, 3) := by decide +kernel
theorem dX11_looks_34 : decode cX11_looks 34 = .ok (.ireturn, 1) := by decide +kernel
theorem dX11_whose_0 : decode cX11_whose 0 = .ok (.aload_n 0, 1) := by decide +kernel
theorem dX11_whose_1 : decode cX11_whose 1 = .ok (.iload_n 1, 1) := by decide +kernel
theorem dX11_whose_2 : decode cX11_whose 2 = .ok (.invokevirtual 260, 3) := by decide +kernel
theorem dX11_whose_5 : decode cX11_whose 5 = .ok (.ifCond .eq 13, 3) := by decide +kernel
theorem dX11_whose_18 : decode cX11_whose 18 = .ok (.iconst (-1), 1) := by decide +kernel
theorem dX11_whose_19 : decode cX11_whose 19 = .ok (.ireturn, 1) := by decide +kernel
theorem dX11_heads_0 : decode cX11_heads 0 = .ok (.aload_n 0, 1) := by decide +kernel
theorem dX11_heads_1 : decode cX11_heads 1 = .ok (.iload_n 1, 1) := by decide +kernel
theorem dX11_heads_2 : decode cX11_heads 2 = .ok (.invokevirtual 260, 3) := by decide +kernel
theorem dX11_heads_5 : decode cX11_heads 5 = .ok (.ifCond .eq 23, 3) := by decide +kernel
theorem dX11_heads_28 : decode cX11_heads 28 = .ok (.iconst (-1), 1) := by decide +kernel
theorem dX11_heads_29 : decode cX11_heads 29 = .ok (.ireturn, 1) := by decide +kernel
theorem dX11_matched_0 : decode cX11_matched 0 = .ok (.aload_n 0, 1) := by decide +kernel
theorem dX11_matched_1 : decode cX11_matched 1 = .ok (.iload_n 1, 1) := by decide +kernel
theorem dX11_matched_2 : decode cX11_matched 2 = .ok (.invokevirtual 263, 3) := by decide +kernel
theorem dX11_matched_5 : decode cX11_matched 5 = .ok (.ifCond .ne 5, 3) := by decide +kernel
theorem dX11_matched_8 : decode cX11_matched 8 = .ok (.iconst (-1), 1) := by decide +kernel
theorem dX11_matched_9 : decode cX11_matched 9 = .ok (.ireturn, 1) := by decide +kernel
theorem dX11_most_0 : decode cX11_most 0 = .ok (.aload_n 0, 1) := by decide +kernel
theorem dX11_most_1 : decode cX11_most 1 = .ok (.getfield 235, 3) := by decide +kernel
theorem dX11_most_4 : decode cX11_most 4 = .ok (.ifCond .eq 12, 3) := by decide +kernel
theorem dX11_most_16 : decode cX11_most 16 = .ok (.iconst (-1), 1) := by decide +kernel
theorem dX11_most_17 : decode cX11_most 17 = .ok (.ireturn, 1) := by decide +kernel
theorem dX11_seen_0 : decode cX11_seen 0 = .ok (.aload_n 0, 1) := by decide +kernel
theorem dX11_seen_1 : decode cX11_seen 1 = .ok (.iload_n 1, 1) := by decide +kernel
theorem dX11_seen_2 : decode cX11_seen 2 = .ok (.invokevirtual 263, 3) := by decide +kernel
theorem dX11_seen_5 : decode cX11_seen 5 = .ok (.ifCond .eq 11, 3) := by decide +kernel
theorem dX11_seen_16 : decode cX11_seen 16 = .ok (.iconst (-1), 1) := by decide +kernel
theorem dX11_seen_17 : decode cX11_seen 17 = .ok (.ireturn, 1) := by decide +kernel
theorem dX11_saves_0 : decode cX11_saves 0 = .ok (.aload_n 0, 1) := by decide +kernel
theorem dX11_saves_1 : decode cX11_saves 1 = .ok (.getfield 235, 3) := by decide +kernel
theorem dX11_saves_4 : decode cX11_saves 4 = .ok (.ifCond .le 30, 3) := by decide +kernel
theorem dX11_saves_34 : decode cX11_saves 34 = .ok (.iconst (-1), 1) := by decide +kernel
theorem dX11_saves_35 : decode cX11_saves 35 = .ok (.ireturn, 1) := by decide +kernel
theorem dX11_rivals_0 : decode cX11_rivals 0 = .ok (.aload_n 0, 1) := by decide +kernel
theorem dX11_rivals_1 : decode cX11_rivals 1 = .ok (.iload_n 1, 1) := by decide +kernel
theorem dX11_rivals_2 : decode cX11_rivals 2 = .ok (.invokevirtual 263, 3) := by decide +kernel
theorem dX11_rivals_5 : decode cX11_rivals 5 = .ok (.ifCond .ne 5, 3) := by decide +kernel
theorem dX11_rivals_8 : decode cX11_rivals 8 = .ok (.iconst (-1), 1) := by decide +kernel
theorem dX11_rivals_9 : decode cX11_rivals 9 = .ok (.ireturn, 1) := by decide +kernel
theorem dX11_affords_0 : decode cX11_affords 0 = .ok (.aload_n 0, 1) := by decide +kernel
theorem dX11_affords_1 : decode cX11_affords 1 = .ok (.iload_n 1, 1) := by decide +kernel
theorem dX11_affords_2 : decode cX11_affords 2 = .ok (.invokevirtual 260, 3) := by decide +kernel
theorem dX11_affords_5 : decode cX11_affords 5 = .ok (.ifCond .ne 5, 3) := by decide +kernel
theorem dX11_affords_8 : decode cX11_affords 8 = .ok (.iconst (-1), 1) := by decide +kernel
theorem dX11_affords_9 : decode cX11_affords 9 = .ok (.ireturn, 1) := by decide +kernel
theorem dX11_told_0 : decode cX11_told 0 = .ok (.iconst 0, 1) := by decide +kernel
theorem dX11_told_1 : decode cX11_told 1 = .ok (.istore_n 2, 1) := by decide +kernel
theorem dX11_told_2 : decode cX11_told 2 = .ok (.iconst 0, 1) := by decide +kernel
theorem dX11_told_3 : decode cX11_told 3 = .ok (.istore_n 3, 1) := by decide +kernel
theorem dX11_told_4 : decode cX11_told 4 = .ok (.iconst 0, 1) := by decide +kernel
theorem dX11_told_5 : decode cX11_told 5 = .ok (.istore 4, 2) := by decide +kernel
theorem dX11_told_7 : decode cX11_told 7 = .ok (.iload 4, 2) := by decide +kernel
theorem dX11_told_9 : decode cX11_told 9 = .ok (.aload_n 0, 1) := by decide +kernel
theorem dX11_told_10 : decode cX11_told 10 = .ok (.getfield 58, 3) := by decide +kernel
theorem dX11_told_13 : decode cX11_told 13 = .ok (.bipush 16, 2) := by decide +kernel
theorem dX11_told_15 : decode cX11_told 15 = .ok (.iaload, 1) := by decide +kernel
theorem dX11_told_16 : decode cX11_told 16 = .ok (.if_icmp .ge 46, 3) := by decide +kernel
theorem dX11_told_62 : decode cX11_told 62 = .ok (.aload_n 0, 1) := by decide +kernel
theorem dX11_told_63 : decode cX11_told 63 = .ok (.iload_n 1, 1) := by decide +kernel
theorem dX11_told_64 : decode cX11_told 64 = .ok (.invokevirtual 260, 3) := by decide +kernel
theorem dX11_told_67 : decode cX11_told 67 = .ok (.ifCond .eq 7, 3) := by decide +kernel
theorem dX11_told_74 : decode cX11_told 74 = .ok (.ldc_w 386, 3) := by decide +kernel
theorem dX11_told_77 : decode cX11_told 77 = .ok (.goto 4, 3) := by decide +kernel
theorem dX11_told_81 : decode cX11_told 81 = .ok (.ireturn, 1) := by decide +kernel
theorem dX11_image_0 : decode cX11_image 0 = .ok (.aload_n 0, 1) := by decide +kernel
theorem dX11_image_1 : decode cX11_image 1 = .ok (.getfield 235, 3) := by decide +kernel
theorem dX11_image_4 : decode cX11_image 4 = .ok (.ifCond .ne 5, 3) := by decide +kernel
theorem dX11_image_7 : decode cX11_image 7 = .ok (.iconst (-1), 1) := by decide +kernel
theorem dX11_image_8 : decode cX11_image 8 = .ok (.ireturn, 1) := by decide +kernel
theorem dX11_back_0 : decode cX11_back 0 = .ok (.aload_n 0, 1) := by decide +kernel
theorem dX11_back_1 : decode cX11_back 1 = .ok (.getfield 250, 3) := by decide +kernel
theorem dX11_back_4 : decode cX11_back 4 = .ok (.ifCond .ne 5, 3) := by decide +kernel
theorem dX11_back_7 : decode cX11_back 7 = .ok (.iconst (-1), 1) := by decide +kernel
theorem dX11_back_8 : decode cX11_back 8 = .ok (.ireturn, 1) := by decide +kernel
theorem dX11_count_0 : decode cX11_count 0 = .ok (.iload_n 1, 1) := by decide +kernel
theorem dX11_count_1 : decode cX11_count 1 = .ok (.tableswitch 127 0 9 #[55, 60, 65, 70, 75, 80, 88, 109, 117, 122], 55) := by decide +kernel
theorem dX11_count_56 : decode cX11_count 56 = .ok (.aload_n 0, 1) := by decide +kernel
theorem dX11_count_57 : decode cX11_count 57 = .ok (.getfield 235, 3) := by decide +kernel
theorem dX11_count_60 : decode cX11_count 60 = .ok (.ireturn, 1) := by decide +kernel
theorem dX11_count_61 : decode cX11_count 61 = .ok (.aload_n 0, 1) := by decide +kernel
theorem dX11_count_62 : decode cX11_count 62 = .ok (.getfield 238, 3) := by decide +kernel
theorem dX11_count_65 : decode cX11_count 65 = .ok (.ireturn, 1) := by decide +kernel
theorem dX11_count_66 : decode cX11_count 66 = .ok (.aload_n 0, 1) := by decide +kernel
theorem dX11_count_67 : decode cX11_count 67 = .ok (.getfield 257, 3) := by decide +kernel
theorem dX11_count_70 : decode cX11_count 70 = .ok (.ireturn, 1) := by decide +kernel
theorem dX11_count_71 : decode cX11_count 71 = .ok (.aload_n 0, 1) := by decide +kernel
theorem dX11_count_72 : decode cX11_count 72 = .ok (.getfield 90, 3) := by decide +kernel
theorem dX11_count_75 : decode cX11_count 75 = .ok (.ireturn, 1) := by decide +kernel
theorem dX11_count_76 : decode cX11_count 76 = .ok (.aload_n 0, 1) := by decide +kernel
theorem dX11_count_77 : decode cX11_count 77 = .ok (.getfield 64, 3) := by decide +kernel
theorem dX11_count_80 : decode cX11_count 80 = .ok (.ireturn, 1) := by decide +kernel
theorem dX11_count_81 : decode cX11_count 81 = .ok (.aload_n 0, 1) := by decide +kernel
theorem dX11_count_82 : decode cX11_count 82 = .ok (.getfield 58, 3) := by decide +kernel
theorem dX11_count_85 : decode cX11_count 85 = .ok (.bipush 15, 2) := by decide +kernel
theorem dX11_count_87 : decode cX11_count 87 = .ok (.iaload, 1) := by decide +kernel
theorem dX11_count_88 : decode cX11_count 88 = .ok (.ireturn, 1) := by decide +kernel
theorem dX11_count_89 : decode cX11_count 89 = .ok (.aload_n 0, 1) := by decide +kernel
theorem dX11_count_90 : decode cX11_count 90 = .ok (.getfield 235, 3) := by decide +kernel
theorem dX11_count_93 : decode cX11_count 93 = .ok (.ifCond .ne 7, 3) := by decide +kernel
theorem dX11_count_96 : decode cX11_count 96 = .ok (.iconst (-1), 1) := by decide +kernel
theorem dX11_count_97 : decode cX11_count 97 = .ok (.goto 12, 3) := by decide +kernel
theorem dX11_count_109 : decode cX11_count 109 = .ok (.ireturn, 1) := by decide +kernel
theorem dX11_count_110 : decode cX11_count 110 = .ok (.aload_n 0, 1) := by decide +kernel
theorem dX11_count_111 : decode cX11_count 111 = .ok (.getfield 58, 3) := by decide +kernel
theorem dX11_count_114 : decode cX11_count 114 = .ok (.bipush 16, 2) := by decide +kernel
theorem dX11_count_116 : decode cX11_count 116 = .ok (.iaload, 1) := by decide +kernel
theorem dX11_count_117 : decode cX11_count 117 = .ok (.ireturn, 1) := by decide +kernel
theorem dX11_count_118 : decode cX11_count 118 = .ok (.aload_n 0, 1) := by decide +kernel
theorem dX11_count_119 : decode cX11_count 119 = .ok (.getfield 319, 3) := by decide +kernel
theorem dX11_count_122 : decode cX11_count 122 = .ok (.ireturn, 1) := by decide +kernel
theorem dX11_count_123 : decode cX11_count 123 = .ok (.aload_n 0, 1) := by decide +kernel
theorem dX11_count_124 : decode cX11_count 124 = .ok (.getfield 247, 3) := by decide +kernel
theorem dX11_count_127 : decode cX11_count 127 = .ok (.ireturn, 1) := by decide +kernel
theorem dX11_count_128 : decode cX11_count 128 = .ok (.ldc_w 386, 3) := by decide +kernel
theorem dX11_count_131 : decode cX11_count 131 = .ok (.ireturn, 1) := by decide +kernel
theorem dL_bride_0 : decode cL_bride 0 = .ok (.aload_n 3, 1) := by decide +kernel
theorem dL_bride_1 : decode cL_bride 1 = .ok (.iconst 0, 1) := by decide +kernel
theorem dL_bride_2 : decode cL_bride 2 = .ok (.aload_n 0, 1) := by decide +kernel
theorem dL_bride_3 : decode cL_bride 3 = .ok (.iload_n 1, 1) := by decide +kernel
theorem dL_bride_4 : decode cL_bride 4 = .ok (.iload_n 2, 1) := by decide +kernel
theorem dL_bride_5 : decode cL_bride 5 = .ok (.invokevirtual 7, 3) := by decide +kernel
theorem dL_bride_13 : decode cL_bride 13 = .ok (.astore 4, 2) := by decide +kernel
theorem dL_bride_15 : decode cL_bride 15 = .ok (.iconst 1, 1) := by decide +kernel
theorem dL_bride_16 : decode cL_bride 16 = .ok (.ireturn, 1) := by decide +kernel
theorem dL_law_0 : decode cL_law 0 = .ok (.new 8, 3) := by decide +kernel
theorem dL_law_3 : decode cL_law 3 = .ok (.dup, 1) := by decide +kernel
theorem dL_law_4 : decode cL_law 4 = .ok (.invokespecial 15, 3) := by decide +kernel
theorem dL_law_7 : decode cL_law 7 = .ok (.astore_n 1, 1) := by decide +kernel
theorem dL_law_8 : decode cL_law 8 = .ok (.new 16, 3) := by decide +kernel
theorem dL_law_11 : decode cL_law 11 = .ok (.dup, 1) := by decide +kernel
theorem dL_law_12 : decode cL_law 12 = .ok (.invokespecial 18, 3) := by decide +kernel
theorem dL_law_15 : decode cL_law 15 = .ok (.astore_n 2, 1) := by decide +kernel
theorem dL_law_16 : decode cL_law 16 = .ok (.iconst 1, 1) := by decide +kernel
theorem dL_law_17 : decode cL_law 17 = .ok (.newarray .long, 2) := by decide +kernel
theorem dL_law_19 : decode cL_law 19 = .ok (.astore_n 3, 1) := by decide +kernel
theorem dL_law_20 : decode cL_law 20 = .ok (.iconst 0, 1) := by decide +kernel
theorem dL_law_21 : decode cL_law 21 = .ok (.istore 4, 2) := by decide +kernel
theorem dL_law_23 : decode cL_law 23 = .ok (.iload 4, 2) := by decide +kernel
theorem dL_law_25 : decode cL_law 25 = .ok (.aload_n 0, 1) := by decide +kernel
theorem dL_law_26 : decode cL_law 26 = .ok (.arraylength, 1) := by decide +kernel
theorem dL_law_27 : decode cL_law 27 = .ok (.bipush 7, 2) := by decide +kernel
theorem dL_law_29 : decode cL_law 29 = .ok (.isub, 1) := by decide +kernel
theorem dL_law_30 : decode cL_law 30 = .ok (.if_icmp .gt 1801, 3) := by decide +kernel
theorem dL_law_33 : decode cL_law 33 = .ok (.aload_n 0, 1) := by decide +kernel
theorem dL_law_34 : decode cL_law 34 = .ok (.iload 4, 2) := by decide +kernel
theorem dL_law_36 : decode cL_law 36 = .ok (.iaload, 1) := by decide +kernel
theorem dL_law_37 : decode cL_law 37 = .ok (.bipush 63, 2) := by decide +kernel
theorem dL_law_39 : decode cL_law 39 = .ok (.iand, 1) := by decide +kernel
theorem dL_law_40 : decode cL_law 40 = .ok (.tableswitch 1785 0 47 #[208, 281, 306, 331, 356, 381, 449, 486, 511, 548, 597, 634, 671, 696, 721, 746, 771, 784, 809, 834, 903, 928, 941, 978, 1003, 1040, 1077, 1114, 1139, 1164, 1201, 1226, 1313, 1374, 1411, 1448, 1473, 1510, 1559, 1584, 1609, 1634, 1659, 1684, 1709, 1734, 1747, 1760], 208) := by decide +kernel
theorem dL_law_248 : decode cL_law 248 = .ok (.aload_n 1, 1) := by decide +kernel
theorem dL_law_249 : decode cL_law 249 = .ok (.aload_n 0, 1) := by decide +kernel
theorem dL_law_250 : decode cL_law 250 = .ok (.iload 4, 2) := by decide +kernel
theorem dL_law_252 : decode cL_law 252 = .ok (.iconst 1, 1) := by decide +kernel
theorem dL_law_253 : decode cL_law 253 = .ok (.iadd, 1) := by decide +kernel
theorem dL_law_254 : decode cL_law 254 = .ok (.iaload, 1) := by decide +kernel
theorem dL_law_255 : decode cL_law 255 = .ok (.aload_n 0, 1) := by decide +kernel
theorem dL_law_256 : decode cL_law 256 = .ok (.iload 4, 2) := by decide +kernel
theorem dL_law_258 : decode cL_law 258 = .ok (.iconst 2, 1) := by decide +kernel
theorem dL_law_259 : decode cL_law 259 = .ok (.iadd, 1) := by decide +kernel
theorem dL_law_260 : decode cL_law 260 = .ok (.iaload, 1) := by decide +kernel
theorem dL_law_261 : decode cL_law 261 = .ok (.aload_n 0, 1) := by decide +kernel
theorem dL_law_262 : decode cL_law 262 = .ok (.iload 4, 2) := by decide +kernel
theorem dL_law_264 : decode cL_law 264 = .ok (.iconst 3, 1) := by decide +kernel
theorem dL_law_265 : decode cL_law 265 = .ok (.iadd, 1) := by decide +kernel
theorem dL_law_266 : decode cL_law 266 = .ok (.iaload, 1) := by decide +kernel
theorem dL_law_267 : decode cL_law 267 = .ok (.aload_n 0, 1) := by decide +kernel
theorem dL_law_268 : decode cL_law 268 = .ok (.iload 4, 2) := by decide +kernel
theorem dL_law_270 : decode cL_law 270 = .ok (.iconst 4, 1) := by decide +kernel
theorem dL_law_271 : decode cL_law 271 = .ok (.iadd, 1) := by decide +kernel
theorem dL_law_272 : decode cL_law 272 = .ok (.iaload, 1) := by decide +kernel
theorem dL_law_273 : decode cL_law 273 = .ok (.aload_n 0, 1) := by decide +kernel
theorem dL_law_274 : decode cL_law 274 = .ok (.iload 4, 2) := by decide +kernel
theorem dL_law_276 : decode cL_law 276 = .ok (.iconst 5, 1) := by decide +kernel
theorem dL_law_277 : decode cL_law 277 = .ok (.iadd, 1) := by decide +kernel
theorem dL_law_278 : decode cL_law 278 = .ok (.iaload, 1) := by decide +kernel
theorem dL_law_279 : decode cL_law 279 = .ok (.invokevirtual 19, 3) := by decide +kernel
theorem dL_law_282 : decode cL_law 282 = .ok (.aload_n 2, 1) := by decide +kernel
theorem dL_law_283 : decode cL_law 283 = .ok (.aload_n 0, 1) := by decide +kernel
theorem dL_law_284 : decode cL_law 284 = .ok (.iload 4, 2) := by decide +kernel
theorem dL_law_286 : decode cL_law 286 = .ok (.iconst 1, 1) := by decide +kernel
theorem dL_law_287 : decode cL_law 287 = .ok (.iadd, 1) := by decide +kernel
theorem dL_law_288 : decode cL_law 288 = .ok (.iaload, 1) := by decide +kernel
theorem dL_law_289 : decode cL_law 289 = .ok (.aload_n 0, 1) := by decide +kernel
theorem dL_law_290 : decode cL_law 290 = .ok (.iload 4, 2) := by decide +kernel
theorem dL_law_292 : decode cL_law 292 = .ok (.iconst 2, 1) := by decide +kernel
theorem dL_law_293 : decode cL_law 293 = .ok (.iadd, 1) := by decide +kernel
theorem dL_law_294 : decode cL_law 294 = .ok (.iaload, 1) := by decide +kernel
theorem dL_law_295 : decode cL_law 295 = .ok (.aload_n 0, 1) := by decide +kernel
theorem dL_law_296 : decode cL_law 296 = .ok (.iload 4, 2) := by decide +kernel
theorem dL_law_298 : decode cL_law 298 = .ok (.iconst 3, 1) := by decide +kernel
theorem dL_law_299 : decode cL_law 299 = .ok (.iadd, 1) := by decide +kernel
theorem dL_law_300 : decode cL_law 300 = .ok (.iaload, 1) := by decide +kernel
theorem dL_law_301 : decode cL_law 301 = .ok (.aload_n 0, 1) := by decide +kernel
theorem dL_law_302 : decode cL_law 302 = .ok (.iload 4, 2) := by decide +kernel
theorem dL_law_304 : decode cL_law 304 = .ok (.iconst 4, 1) := by decide +kernel
theorem dL_law_305 : decode cL_law 305 = .ok (.iadd, 1) := by decide +kernel
theorem dL_law_306 : decode cL_law 306 = .ok (.iaload, 1) := by decide +kernel
theorem dL_law_307 : decode cL_law 307 = .ok (.aload_n 0, 1) := by decide +kernel
theorem dL_law_308 : decode cL_law 308 = .ok (.iload 4, 2) := by decide +kernel
theorem dL_law_310 : decode cL_law 310 = .ok (.iconst 5, 1) := by decide +kernel
theorem dL_law_311 : decode cL_law 311 = .ok (.iadd, 1) := by decide +kernel
theorem dL_law_312 : decode cL_law 312 = .ok (.iaload, 1) := by decide +kernel
theorem dL_law_313 : decode cL_law 313 = .ok (.invokevirtual 23, 3) := by decide +kernel
theorem dL_law_316 : decode cL_law 316 = .ok (.if_icmp .eq 1509, 3) := by decide +kernel
theorem dL_law_321 : decode cL_law 321 = .ok (.aload_n 1, 1) := by decide +kernel
theorem dL_law_322 : decode cL_law 322 = .ok (.aload_n 0, 1) := by decide +kernel
theorem dL_law_323 : decode cL_law 323 = .ok (.iload 4, 2) := by decide +kernel
theorem dL_law_325 : decode cL_law 325 = .ok (.iconst 1, 1) := by decide +kernel
theorem dL_law_326 : decode cL_law 326 = .ok (.iadd, 1) := by decide +kernel
theorem dL_law_327 : decode cL_law 327 = .ok (.iaload, 1) := by decide +kernel
theorem dL_law_328 : decode cL_law 328 = .ok (.invokevirtual 24, 3) := by decide +kernel
theorem dL_law_331 : decode cL_law 331 = .ok (.aload_n 2, 1) := by decide +kernel
theorem dL_law_332 : decode cL_law 332 = .ok (.aload_n 0, 1) := by decide +kernel
theorem dL_law_333 : decode cL_law 333 = .ok (.iload 4, 2) := by decide +kernel
theorem dL_law_335 : decode cL_law 335 = .ok (.iconst 1, 1) := by decide +kernel
theorem dL_law_336 : decode cL_law 336 = .ok (.iadd, 1) := by decide +kernel
theorem dL_law_337 : decode cL_law 337 = .ok (.iaload, 1) := by decide +kernel
theorem dL_law_338 : decode cL_law 338 = .ok (.invokevirtual 28, 3) := by decide +kernel
theorem dL_law_341 : decode cL_law 341 = .ok (.if_icmp .eq 1484, 3) := by decide +kernel
theorem dL_law_346 : decode cL_law 346 = .ok (.aload_n 1, 1) := by decide +kernel
theorem dL_law_347 : decode cL_law 347 = .ok (.aload_n 0, 1) := by decide +kernel
theorem dL_law_348 : decode cL_law 348 = .ok (.iload 4, 2) := by decide +kernel
theorem dL_law_350 : decode cL_law 350 = .ok (.iconst 1, 1) := by decide +kernel
theorem dL_law_351 : decode cL_law 351 = .ok (.iadd, 1) := by decide +kernel
theorem dL_law_352 : decode cL_law 352 = .ok (.iaload, 1) := by decide +kernel
theorem dL_law_353 : decode cL_law 353 = .ok (.invokevirtual 29, 3) := by decide +kernel
theorem dL_law_356 : decode cL_law 356 = .ok (.aload_n 2, 1) := by decide +kernel
theorem dL_law_357 : decode cL_law 357 = .ok (.aload_n 0, 1) := by decide +kernel
theorem dL_law_358 : decode cL_law 358 = .ok (.iload 4, 2) := by decide +kernel
theorem dL_law_360 : decode cL_law 360 = .ok (.iconst 1, 1) := by decide +kernel
theorem dL_law_361 : decode cL_law 361 = .ok (.iadd, 1) := by decide +kernel
theorem dL_law_362 : decode cL_law 362 = .ok (.iaload, 1) := by decide +kernel
theorem dL_law_363 : decode cL_law 363 = .ok (.invokevirtual 33, 3) := by decide +kernel
theorem dL_law_366 : decode cL_law 366 = .ok (.if_icmp .eq 1459, 3) := by decide +kernel
theorem dL_law_371 : decode cL_law 371 = .ok (.aload_n 1, 1) := by decide +kernel
theorem dL_law_372 : decode cL_law 372 = .ok (.aload_n 0, 1) := by decide +kernel
theorem dL_law_373 : decode cL_law 373 = .ok (.iload 4, 2) := by decide +kernel
theorem dL_law_375 : decode cL_law 375 = .ok (.iconst 1, 1) := by decide +kernel
theorem dL_law_376 : decode cL_law 376 = .ok (.iadd, 1) := by decide +kernel
theorem dL_law_377 : decode cL_law 377 = .ok (.iaload, 1) := by decide +kernel
theorem dL_law_378 : decode cL_law 378 = .ok (.invokevirtual 34, 3) := by decide +kernel
theorem dL_law_381 : decode cL_law 381 = .ok (.aload_n 2, 1) := by decide +kernel
theorem dL_law_382 : decode cL_law 382 = .ok (.aload_n 0, 1) := by decide +kernel
theorem dL_law_383 : decode cL_law 383 = .ok (.iload 4, 2) := by decide +kernel
theorem dL_law_385 : decode cL_law 385 = .ok (.iconst 1, 1) := by decide +kernel
theorem dL_law_386 : decode cL_law 386 = .ok (.iadd, 1) := by decide +kernel
theorem dL_law_387 : decode cL_law 387 = .ok (.iaload, 1) := by decide +kernel
theorem dL_law_388 : decode cL_law 388 = .ok (.invokevirtual 37, 3) := by decide +kernel
theorem dL_law_391 : decode cL_law 391 = .ok (.if_icmp .eq 1434, 3) := by decide +kernel
theorem dL_law_396 : decode cL_law 396 = .ok (.aload_n 1, 1) := by decide +kernel
theorem dL_law_397 : decode cL_law 397 = .ok (.aload_n 0, 1) := by decide +kernel
theorem dL_law_398 : decode cL_law 398 = .ok (.iload 4, 2) := by decide +kernel
theorem dL_law_400 : decode cL_law 400 = .ok (.iconst 1, 1) := by decide +kernel
theorem dL_law_401 : decode cL_law 401 = .ok (.iadd, 1) := by decide +kernel
theorem dL_law_402 : decode cL_law 402 = .ok (.iaload, 1) := by decide +kernel
theorem dL_law_403 : decode cL_law 403 = .ok (.invokevirtual 38, 3) := by decide +kernel
theorem dL_law_406 : decode cL_law 406 = .ok (.aload_n 2, 1) := by decide +kernel
theorem dL_law_407 : decode cL_law 407 = .ok (.aload_n 0, 1) := by decide +kernel
theorem dL_law_408 : decode cL_law 408 = .ok (.iload 4, 2) := by decide +kernel
theorem dL_law_410 : decode cL_law 410 = .ok (.iconst 1, 1) := by decide +kernel
theorem dL_law_411 : decode cL_law 411 = .ok (.iadd, 1) := by decide +kernel
theorem dL_law_412 : decode cL_law 412 = .ok (.iaload, 1) := by decide +kernel
theorem dL_law_413 : decode cL_law 413 = .ok (.invokevirtual 41, 3) := by decide +kernel
theorem dL_law_416 : decode cL_law 416 = .ok (.if_icmp .eq 1409, 3) := by decide +kernel
theorem dL_law_421 : decode cL_law 421 = .ok (.aload_n 1, 1) := by decide +kernel
theorem dL_law_422 : decode cL_law 422 = .ok (.aload_n 0, 1) := by decide +kernel
theorem dL_law_423 : decode cL_law 423 = .ok (.iload 4, 2) := by decide +kernel
theorem dL_law_425 : decode cL_law 425 = .ok (.iconst 1, 1) := by decide +kernel
theorem dL_law_426 : decode cL_law 426 = .ok (.iadd, 1) := by decide +kernel
theorem dL_law_427 : decode cL_law 427 = .ok (.iaload, 1) := by decide +kernel
theorem dL_law_428 : decode cL_law 428 = .ok (.aload_n 0, 1) := by decide +kernel
theorem dL_law_429 : decode cL_law 429 = .ok (.iload 4, 2) := by decide +kernel
theorem dL_law_431 : decode cL_law 431 = .ok (.iconst 2, 1) := by decide +kernel
theorem dL_law_432 : decode cL_law 432 = .ok (.iadd, 1) := by decide +kernel
theorem dL_law_433 : decode cL_law 433 = .ok (.iaload, 1) := by decide +kernel
theorem dL_law_434 : decode cL_law 434 = .ok (.aload_n 3, 1) := by decide +kernel
theorem dL_law_435 : decode cL_law 435 = .ok (.invokestatic 42, 3) := by decide +kernel
theorem dL_law_438 : decode cL_law 438 = .ok (.istore 5, 2) := by decide +kernel
theorem dL_law_440 : decode cL_law 440 = .ok (.aload_n 2, 1) := by decide +kernel
theorem dL_law_441 : decode cL_law 441 = .ok (.aload_n 0, 1) := by decide +kernel
theorem dL_law_442 : decode cL_law 442 = .ok (.iload 4, 2) := by decide +kernel
theorem dL_law_444 : decode cL_law 444 = .ok (.iconst 1, 1) := by decide +kernel
theorem dL_law_445 : decode cL_law 445 = .ok (.iadd, 1) := by decide +kernel
theorem dL_law_446 : decode cL_law 446 = .ok (.iaload, 1) := by decide +kernel
theorem dL_law_447 : decode cL_law 447 = .ok (.aload_n 0, 1) := by decide +kernel
theorem dL_law_448 : decode cL_law 448 = .ok (.iload 4, 2) := by decide +kernel
theorem dL_law_450 : decode cL_law 450 = .ok (.iconst 2, 1) := by decide +kernel
theorem dL_law_451 : decode cL_law 451 = .ok (.iadd, 1) := by decide +kernel
theorem dL_law_452 : decode cL_law 452 = .ok (.iaload, 1) := by decide +kernel
theorem dL_law_453 : decode cL_law 453 = .ok (.invokevirtual 47, 3) := by decide +kernel
theorem dL_law_456 : decode cL_law 456 = .ok (.istore 6, 2) := by decide +kernel
theorem dL_law_458 : decode cL_law 458 = .ok (.aload_n 2, 1) := by decide +kernel
theorem dL_law_459 : decode cL_law 459 = .ok (.invokevirtual 48, 3) := by decide +kernel
theorem dL_law_462 : decode cL_law 462 = .ok (.iload 5, 2) := by decide +kernel
theorem dL_law_464 : decode cL_law 464 = .ok (.if_icmp .eq 5, 3) := by decide +kernel
theorem dL_law_469 : decode cL_law 469 = .ok (.iload 5, 2) := by decide +kernel
theorem dL_law_471 : decode cL_law 471 = .ok (.ifCond .ne 15, 3) := by decide +kernel
theorem dL_law_486 : decode cL_law 486 = .ok (.goto 1339, 3) := by decide +kernel
theorem dL_law_489 : decode cL_law 489 = .ok (.aload_n 1, 1) := by decide +kernel
theorem dL_law_490 : decode cL_law 490 = .ok (.aload_n 0, 1) := by decide +kernel
theorem dL_law_491 : decode cL_law 491 = .ok (.iload 4, 2) := by decide +kernel
theorem dL_law_493 : decode cL_law 493 = .ok (.iconst 1, 1) := by decide +kernel
theorem dL_law_494 : decode cL_law 494 = .ok (.iadd, 1) := by decide +kernel
theorem dL_law_495 : decode cL_law 495 = .ok (.iaload, 1) := by decide +kernel
theorem dL_law_496 : decode cL_law 496 = .ok (.aload_n 0, 1) := by decide +kernel
theorem dL_law_497 : decode cL_law 497 = .ok (.iload 4, 2) := by decide +kernel
theorem dL_law_499 : decode cL_law 499 = .ok (.iconst 2, 1) := by decide +kernel
theorem dL_law_500 : decode cL_law 500 = .ok (.iadd, 1) := by decide +kernel
theorem dL_law_501 : decode cL_law 501 = .ok (.iaload, 1) := by decide +kernel
theorem dL_law_502 : decode cL_law 502 = .ok (.invokevirtual 52, 3) := by decide +kernel
theorem dL_law_505 : decode cL_law 505 = .ok (.aload_n 2, 1) := by decide +kernel
theorem dL_law_506 : decode cL_law 506 = .ok (.aload_n 0, 1) := by decide +kernel
theorem dL_law_507 : decode cL_law 507 = .ok (.iload 4, 2) := by decide +kernel
theorem dL_law_509 : decode cL_law 509 = .ok (.iconst 1, 1) := by decide +kernel
theorem dL_law_510 : decode cL_law 510 = .ok (.iadd, 1) := by decide +kernel
theorem dL_law_511 : decode cL_law 511 = .ok (.iaload, 1) := by decide +kernel
theorem dL_law_512 : decode cL_law 512 = .ok (.aload_n 0, 1) := by decide +kernel
theorem dL_law_513 : decode cL_law 513 = .ok (.iload 4, 2) := by decide +kernel
theorem dL_law_515 : decode cL_law 515 = .ok (.iconst 2, 1) := by decide +kernel
theorem dL_law_516 : decode cL_law 516 = .ok (.iadd, 1) := by decide +kernel
theorem dL_law_517 : decode cL_law 517 = .ok (.iaload, 1) := by decide +kernel
theorem dL_law_518 : decode cL_law 518 = .ok (.invokevirtual 55, 3) := by decide +kernel
theorem dL_law_521 : decode cL_law 521 = .ok (.if_icmp .eq 1304, 3) := by decide +kernel
theorem dL_law_526 : decode cL_law 526 = .ok (.aload_n 1, 1) := by decide +kernel
theorem dL_law_527 : decode cL_law 527 = .ok (.aload_n 0, 1) := by decide +kernel
theorem dL_law_528 : decode cL_law 528 = .ok (.iload 4, 2) := by decide +kernel
theorem dL_law_530 : decode cL_law 530 = .ok (.iconst 1, 1) := by decide +kernel
theorem dL_law_531 : decode cL_law 531 = .ok (.iadd, 1) := by decide +kernel
theorem dL_law_532 : decode cL_law 532 = .ok (.iaload, 1) := by decide +kernel
theorem dL_law_533 : decode cL_law 533 = .ok (.invokevirtual 56, 3) := by decide +kernel
theorem dL_law_536 : decode cL_law 536 = .ok (.aload_n 2, 1) := by decide +kernel
theorem dL_law_537 : decode cL_law 537 = .ok (.aload_n 0, 1) := by decide +kernel
theorem dL_law_538 : decode cL_law 538 = .ok (.iload 4, 2) := by decide +kernel
theorem dL_law_540 : decode cL_law 540 = .ok (.iconst 1, 1) := by decide +kernel
theorem dL_law_541 : decode cL_law 541 = .ok (.iadd, 1) := by decide +kernel
theorem dL_law_542 : decode cL_law 542 = .ok (.iaload, 1) := by decide +kernel
theorem dL_law_543 : decode cL_law 543 = .ok (.invokevirtual 59, 3) := by decide +kernel
theorem dL_law_546 : decode cL_law 546 = .ok (.if_icmp .eq 1279, 3) := by decide +kernel
theorem dL_law_551 : decode cL_law 551 = .ok (.aload_n 1, 1) := by decide +kernel
theorem dL_law_552 : decode cL_law 552 = .ok (.aload_n 0, 1) := by decide +kernel
theorem dL_law_553 : decode cL_law 553 = .ok (.iload 4, 2) := by decide +kernel
theorem dL_law_555 : decode cL_law 555 = .ok (.iconst 1, 1) := by decide +kernel
theorem dL_law_556 : decode cL_law 556 = .ok (.iadd, 1) := by decide +kernel
theorem dL_law_557 : decode cL_law 557 = .ok (.iaload, 1) := by decide +kernel
theorem dL_law_558 : decode cL_law 558 = .ok (.aload_n 0, 1) := by decide +kernel
theorem dL_law_559 : decode cL_law 559 = .ok (.iload 4, 2) := by decide +kernel
theorem dL_law_561 : decode cL_law 561 = .ok (.iconst 2, 1) := by decide +kernel
theorem dL_law_562 : decode cL_law 562 = .ok (.iadd, 1) := by decide +kernel
theorem dL_law_563 : decode cL_law 563 = .ok (.iaload, 1) := by decide +kernel
theorem dL_law_564 : decode cL_law 564 = .ok (.invokevirtual 60, 3) := by decide +kernel
theorem dL_law_567 : decode cL_law 567 = .ok (.aload_n 2, 1) := by decide +kernel
theorem dL_law_568 : decode cL_law 568 = .ok (.aload_n 0, 1) := by decide +kernel
theorem dL_law_569 : decode cL_law 569 = .ok (.iload 4, 2) := by decide +kernel
theorem dL_law_571 : decode cL_law 571 = .ok (.iconst 1, 1) := by decide +kernel
theorem dL_law_572 : decode cL_law 572 = .ok (.iadd, 1) := by decide +kernel
theorem dL_law_573 : decode cL_law 573 = .ok (.iaload, 1) := by decide +kernel
theorem dL_law_574 : decode cL_law 574 = .ok (.aload_n 0, 1) := by decide +kernel
theorem dL_law_575 : decode cL_law 575 = .ok (.iload 4, 2) := by decide +kernel
theorem dL_law_577 : decode cL_law 577 = .ok (.iconst 2, 1) := by decide +kernel
theorem dL_law_578 : decode cL_law 578 = .ok (.iadd, 1) := by decide +kernel
theorem dL_law_579 : decode cL_law 579 = .ok (.iaload, 1) := by decide +kernel
theorem dL_law_580 : decode cL_law 580 = .ok (.invokevirtual 63, 3) := by decide +kernel
theorem dL_law_583 : decode cL_law 583 = .ok (.if_icmp .eq 1242, 3) := by decide +kernel
theorem dL_law_588 : decode cL_law 588 = .ok (.aload_n 1, 1) := by decide +kernel
theorem dL_law_589 : decode cL_law 589 = .ok (.aload_n 0, 1) := by decide +kernel
theorem dL_law_590 : decode cL_law 590 = .ok (.iload 4, 2) := by decide +kernel
theorem dL_law_592 : decode cL_law 592 = .ok (.iconst 1, 1) := by decide +kernel
theorem dL_law_593 : decode cL_law 593 = .ok (.iadd, 1) := by decide +kernel
theorem dL_law_594 : decode cL_law 594 = .ok (.iaload, 1) := by decide +kernel
theorem dL_law_595 : decode cL_law 595 = .ok (.aload_n 0, 1) := by decide +kernel
theorem dL_law_596 : decode cL_law 596 = .ok (.iload 4, 2) := by decide +kernel
theorem dL_law_598 : decode cL_law 598 = .ok (.iconst 2, 1) := by decide +kernel
theorem dL_law_599 : decode cL_law 599 = .ok (.iadd, 1) := by decide +kernel
theorem dL_law_600 : decode cL_law 600 = .ok (.iaload, 1) := by decide +kernel
theorem dL_law_601 : decode cL_law 601 = .ok (.aload_n 0, 1) := by decide +kernel
theorem dL_law_602 : decode cL_law 602 = .ok (.iload 4, 2) := by decide +kernel
theorem dL_law_604 : decode cL_law 604 = .ok (.iconst 3, 1) := by decide +kernel
theorem dL_law_605 : decode cL_law 605 = .ok (.iadd, 1) := by decide +kernel
theorem dL_law_606 : decode cL_law 606 = .ok (.iaload, 1) := by decide +kernel
theorem dL_law_607 : decode cL_law 607 = .ok (.invokevirtual 64, 3) := by decide +kernel
theorem dL_law_610 : decode cL_law 610 = .ok (.aload_n 2, 1) := by decide +kernel
theorem dL_law_611 : decode cL_law 611 = .ok (.aload_n 0, 1) := by decide +kernel
theorem dL_law_612 : decode cL_law 612 = .ok (.iload 4, 2) := by decide +kernel
theorem dL_law_614 : decode cL_law 614 = .ok (.iconst 1, 1) := by decide +kernel
theorem dL_law_615 : decode cL_law 615 = .ok (.iadd, 1) := by decide +kernel
theorem dL_law_616 : decode cL_law 616 = .ok (.iaload, 1) := by decide +kernel
theorem dL_law_617 : decode cL_law 617 = .ok (.aload_n 0, 1) := by decide +kernel
theorem dL_law_618 : decode cL_law 618 = .ok (.iload 4, 2) := by decide +kernel
theorem dL_law_620 : decode cL_law 620 = .ok (.iconst 2, 1) := by decide +kernel
theorem dL_law_621 : decode cL_law 621 = .ok (.iadd, 1) := by decide +kernel
theorem dL_law_622 : decode cL_law 622 = .ok (.iaload, 1) := by decide +kernel
theorem dL_law_623 : decode cL_law 623 = .ok (.aload_n 0, 1) := by decide +kernel
theorem dL_law_624 : decode cL_law 624 = .ok (.iload 4, 2) := by decide +kernel
theorem dL_law_626 : decode cL_law 626 = .ok (.iconst 3, 1) := by decide +kernel
theorem dL_law_627 : decode cL_law 627 = .ok (.iadd, 1) := by decide +kernel
theorem dL_law_628 : decode cL_law 628 = .ok (.iaload, 1) := by decide +kernel
theorem dL_law_629 : decode cL_law 629 = .ok (.invokevirtual 68, 3) := by decide +kernel
theorem dL_law_632 : decode cL_law 632 = .ok (.if_icmp .eq 1193, 3) := by decide +kernel
theorem dL_law_637 : decode cL_law 637 = .ok (.aload_n 1, 1) := by decide +kernel
theorem dL_law_638 : decode cL_law 638 = .ok (.aload_n 0, 1) := by decide +kernel
theorem dL_law_639 : decode cL_law 639 = .ok (.iload 4, 2) := by decide +kernel
theorem dL_law_641 : decode cL_law 641 = .ok (.iconst 1, 1) := by decide +kernel
theorem dL_law_642 : decode cL_law 642 = .ok (.iadd, 1) := by decide +kernel
theorem dL_law_643 : decode cL_law 643 = .ok (.iaload, 1) := by decide +kernel
theorem dL_law_644 : decode cL_law 644 = .ok (.aload_n 0, 1) := by decide +kernel
theorem dL_law_645 : decode cL_law 645 = .ok (.iload 4, 2) := by decide +kernel
theorem dL_law_647 : decode cL_law 647 = .ok (.iconst 2, 1) := by decide +kernel
theorem dL_law_648 : decode cL_law 648 = .ok (.iadd, 1) := by decide +kernel
theorem dL_law_649 : decode cL_law 649 = .ok (.iaload, 1) := by decide +kernel
theorem dL_law_650 : decode cL_law 650 = .ok (.invokevirtual 69, 3) := by decide +kernel
theorem dL_law_653 : decode cL_law 653 = .ok (.aload_n 2, 1) := by decide +kernel
theorem dL_law_654 : decode cL_law 654 = .ok (.aload_n 0, 1) := by decide +kernel
theorem dL_law_655 : decode cL_law 655 = .ok (.iload 4, 2) := by decide +kernel
theorem dL_law_657 : decode cL_law 657 = .ok (.iconst 1, 1) := by decide +kernel
theorem dL_law_658 : decode cL_law 658 = .ok (.iadd, 1) := by decide +kernel
theorem dL_law_659 : decode cL_law 659 = .ok (.iaload, 1) := by decide +kernel
theorem dL_law_660 : decode cL_law 660 = .ok (.aload_n 0, 1) := by decide +kernel
theorem dL_law_661 : decode cL_law 661 = .ok (.iload 4, 2) := by decide +kernel
theorem dL_law_663 : decode cL_law 663 = .ok (.iconst 2, 1) := by decide +kernel
theorem dL_law_664 : decode cL_law 664 = .ok (.iadd, 1) := by decide +kernel
theorem dL_law_665 : decode cL_law 665 = .ok (.iaload, 1) := by decide +kernel
theorem dL_law_666 : decode cL_law 666 = .ok (.invokevirtual 72, 3) := by decide +kernel
theorem dL_law_669 : decode cL_law 669 = .ok (.if_icmp .eq 1156, 3) := by decide +kernel
theorem dL_law_674 : decode cL_law 674 = .ok (.aload_n 1, 1) := by decide +kernel
theorem dL_law_675 : decode cL_law 675 = .ok (.aload_n 0, 1) := by decide +kernel
theorem dL_law_676 : decode cL_law 676 = .ok (.iload 4, 2) := by decide +kernel
theorem dL_law_678 : decode cL_law 678 = .ok (.iconst 1, 1) := by decide +kernel
theorem dL_law_679 : decode cL_law 679 = .ok (.iadd, 1) := by decide +kernel
theorem dL_law_680 : decode cL_law 680 = .ok (.iaload, 1) := by decide +kernel
theorem dL_law_681 : decode cL_law 681 = .ok (.aload_n 0, 1) := by decide +kernel
theorem dL_law_682 : decode cL_law 682 = .ok (.iload 4, 2) := by decide +kernel
theorem dL_law_684 : decode cL_law 684 = .ok (.iconst 2, 1) := by decide +kernel
theorem dL_law_685 : decode cL_law 685 = .ok (.iadd, 1) := by decide +kernel
theorem dL_law_686 : decode cL_law 686 = .ok (.iaload, 1) := by decide +kernel
theorem dL_law_687 : decode cL_law 687 = .ok (.invokevirtual 73, 3) := by decide +kernel
theorem dL_law_690 : decode cL_law 690 = .ok (.aload_n 2, 1) := by decide +kernel
theorem dL_law_691 : decode cL_law 691 = .ok (.aload_n 0, 1) := by decide +kernel
theorem dL_law_692 : decode cL_law 692 = .ok (.iload 4, 2) := by decide +kernel
theorem dL_law_694 : decode cL_law 694 = .ok (.iconst 1, 1) := by decide +kernel
theorem dL_law_695 : decode cL_law 695 = .ok (.iadd, 1) := by decide +kernel
theorem dL_law_696 : decode cL_law 696 = .ok (.iaload, 1) := by decide +kernel
theorem dL_law_697 : decode cL_law 697 = .ok (.aload_n 0, 1) := by decide +kernel
theorem dL_law_698 : decode cL_law 698 = .ok (.iload 4, 2) := by decide +kernel
theorem dL_law_700 : decode cL_law 700 = .ok (.iconst 2, 1) := by decide +kernel
theorem dL_law_701 : decode cL_law 701 = .ok (.iadd, 1) := by decide +kernel
theorem dL_law_702 : decode cL_law 702 = .ok (.iaload, 1) := by decide +kernel
theorem dL_law_703 : decode cL_law 703 = .ok (.invokevirtual 76, 3) := by decide +kernel
theorem dL_law_706 : decode cL_law 706 = .ok (.if_icmp .eq 1119, 3) := by decide +kernel
theorem dL_law_711 : decode cL_law 711 = .ok (.aload_n 1, 1) := by decide +kernel
theorem dL_law_712 : decode cL_law 712 = .ok (.aload_n 0, 1) := by decide +kernel
theorem dL_law_713 : decode cL_law 713 = .ok (.iload 4, 2) := by decide +kernel
theorem dL_law_715 : decode cL_law 715 = .ok (.iconst 1, 1) := by decide +kernel
theorem dL_law_716 : decode cL_law 716 = .ok (.iadd, 1) := by decide +kernel
theorem dL_law_717 : decode cL_law 717 = .ok (.iaload, 1) := by decide +kernel
theorem dL_law_718 : decode cL_law 718 = .ok (.invokevirtual 77, 3) := by decide +kernel
theorem dL_law_721 : decode cL_law 721 = .ok (.aload_n 2, 1) := by decide +kernel
theorem dL_law_722 : decode cL_law 722 = .ok (.aload_n 0, 1) := by decide +kernel
theorem dL_law_723 : decode cL_law 723 = .ok (.iload 4, 2) := by decide +kernel
theorem dL_law_725 : decode cL_law 725 = .ok (.iconst 1, 1) := by decide +kernel
theorem dL_law_726 : decode cL_law 726 = .ok (.iadd, 1) := by decide +kernel
theorem dL_law_727 : decode cL_law 727 = .ok (.iaload, 1) := by decide +kernel
theorem dL_law_728 : decode cL_law 728 = .ok (.invokevirtual 80, 3) := by decide +kernel
theorem dL_law_731 : decode cL_law 731 = .ok (.if_icmp .eq 1094, 3) := by decide +kernel
theorem dL_law_736 : decode cL_law 736 = .ok (.aload_n 1, 1) := by decide +kernel
theorem dL_law_737 : decode cL_law 737 = .ok (.aload_n 0, 1) := by decide +kernel
theorem dL_law_738 : decode cL_law 738 = .ok (.iload 4, 2) := by decide +kernel
theorem dL_law_740 : decode cL_law 740 = .ok (.iconst 1, 1) := by decide +kernel
theorem dL_law_741 : decode cL_law 741 = .ok (.iadd, 1) := by decide +kernel
theorem dL_law_742 : decode cL_law 742 = .ok (.iaload, 1) := by decide +kernel
theorem dL_law_743 : decode cL_law 743 = .ok (.invokevirtual 81, 3) := by decide +kernel
theorem dL_law_746 : decode cL_law 746 = .ok (.aload_n 2, 1) := by decide +kernel
theorem dL_law_747 : decode cL_law 747 = .ok (.aload_n 0, 1) := by decide +kernel
theorem dL_law_748 : decode cL_law 748 = .ok (.iload 4, 2) := by decide +kernel
theorem dL_law_750 : decode cL_law 750 = .ok (.iconst 1, 1) := by decide +kernel
theorem dL_law_751 : decode cL_law 751 = .ok (.iadd, 1) := by decide +kernel
theorem dL_law_752 : decode cL_law 752 = .ok (.iaload, 1) := by decide +kernel
theorem dL_law_753 : decode cL_law 753 = .ok (.invokevirtual 84, 3) := by decide +kernel
theorem dL_law_756 : decode cL_law 756 = .ok (.if_icmp .eq 1069, 3) := by decide +kernel
theorem dL_law_761 : decode cL_law 761 = .ok (.aload_n 1, 1) := by decide +kernel
theorem dL_law_762 : decode cL_law 762 = .ok (.aload_n 0, 1) := by decide +kernel
theorem dL_law_763 : decode cL_law 763 = .ok (.iload 4, 2) := by decide +kernel
theorem dL_law_765 : decode cL_law 765 = .ok (.iconst 1, 1) := by decide +kernel
theorem dL_law_766 : decode cL_law 766 = .ok (.iadd, 1) := by decide +kernel
theorem dL_law_767 : decode cL_law 767 = .ok (.iaload, 1) := by decide +kernel
theorem dL_law_768 : decode cL_law 768 = .ok (.invokevirtual 85, 3) := by decide +kernel
theorem dL_law_771 : decode cL_law 771 = .ok (.aload_n 2, 1) := by decide +kernel
theorem dL_law_772 : decode cL_law 772 = .ok (.aload_n 0, 1) := by decide +kernel
theorem dL_law_773 : decode cL_law 773 = .ok (.iload 4, 2) := by decide +kernel
theorem dL_law_775 : decode cL_law 775 = .ok (.iconst 1, 1) := by decide +kernel
theorem dL_law_776 : decode cL_law 776 = .ok (.iadd, 1) := by decide +kernel
theorem dL_law_777 : decode cL_law 777 = .ok (.iaload, 1) := by decide +kernel
theorem dL_law_778 : decode cL_law 778 = .ok (.invokevirtual 88, 3) := by decide +kernel
theorem dL_law_781 : decode cL_law 781 = .ok (.if_icmp .eq 1044, 3) := by decide +kernel
theorem dL_law_786 : decode cL_law 786 = .ok (.aload_n 1, 1) := by decide +kernel
theorem dL_law_787 : decode cL_law 787 = .ok (.aload_n 0, 1) := by decide +kernel
theorem dL_law_788 : decode cL_law 788 = .ok (.iload 4, 2) := by decide +kernel
theorem dL_law_790 : decode cL_law 790 = .ok (.iconst 1, 1) := by decide +kernel
theorem dL_law_791 : decode cL_law 791 = .ok (.iadd, 1) := by decide +kernel
theorem dL_law_792 : decode cL_law 792 = .ok (.iaload, 1) := by decide +kernel
theorem dL_law_793 : decode cL_law 793 = .ok (.invokevirtual 89, 3) := by decide +kernel
theorem dL_law_796 : decode cL_law 796 = .ok (.aload_n 2, 1) := by decide +kernel
theorem dL_law_797 : decode cL_law 797 = .ok (.aload_n 0, 1) := by decide +kernel
theorem dL_law_798 : decode cL_law 798 = .ok (.iload 4, 2) := by decide +kernel
theorem dL_law_800 : decode cL_law 800 = .ok (.iconst 1, 1) := by decide +kernel
theorem dL_law_801 : decode cL_law 801 = .ok (.iadd, 1) := by decide +kernel
theorem dL_law_802 : decode cL_law 802 = .ok (.iaload, 1) := by decide +kernel
theorem dL_law_803 : decode cL_law 803 = .ok (.invokevirtual 92, 3) := by decide +kernel
theorem dL_law_806 : decode cL_law 806 = .ok (.if_icmp .eq 1019, 3) := by decide +kernel
theorem dL_law_811 : decode cL_law 811 = .ok (.aload_n 1, 1) := by decide +kernel
theorem dL_law_812 : decode cL_law 812 = .ok (.invokevirtual 93, 3) := by decide +kernel
theorem dL_law_815 : decode cL_law 815 = .ok (.aload_n 2, 1) := by decide +kernel
theorem dL_law_816 : decode cL_law 816 = .ok (.invokevirtual 96, 3) := by decide +kernel
theorem dL_law_819 : decode cL_law 819 = .ok (.if_icmp .eq 1006, 3) := by decide +kernel
theorem dL_law_824 : decode cL_law 824 = .ok (.aload_n 1, 1) := by decide +kernel
theorem dL_law_825 : decode cL_law 825 = .ok (.aload_n 0, 1) := by decide +kernel
theorem dL_law_826 : decode cL_law 826 = .ok (.iload 4, 2) := by decide +kernel
theorem dL_law_828 : decode cL_law 828 = .ok (.iconst 1, 1) := by decide +kernel
theorem dL_law_829 : decode cL_law 829 = .ok (.iadd, 1) := by decide +kernel
theorem dL_law_830 : decode cL_law 830 = .ok (.iaload, 1) := by decide +kernel
theorem dL_law_831 : decode cL_law 831 = .ok (.invokevirtual 97, 3) := by decide +kernel
theorem dL_law_834 : decode cL_law 834 = .ok (.aload_n 2, 1) := by decide +kernel
theorem dL_law_835 : decode cL_law 835 = .ok (.aload_n 0, 1) := by decide +kernel
theorem dL_law_836 : decode cL_law 836 = .ok (.iload 4, 2) := by decide +kernel
theorem dL_law_838 : decode cL_law 838 = .ok (.iconst 1, 1) := by decide +kernel
theorem dL_law_839 : decode cL_law 839 = .ok (.iadd, 1) := by decide +kernel
theorem dL_law_840 : decode cL_law 840 = .ok (.iaload, 1) := by decide +kernel
theorem dL_law_841 : decode cL_law 841 = .ok (.invokevirtual 100, 3) := by decide +kernel
theorem dL_law_844 : decode cL_law 844 = .ok (.if_icmp .eq 981, 3) := by decide +kernel
theorem dL_law_849 : decode cL_law 849 = .ok (.aload_n 1, 1) := by decide +kernel
theorem dL_law_850 : decode cL_law 850 = .ok (.aload_n 0, 1) := by decide +kernel
theorem dL_law_851 : decode cL_law 851 = .ok (.iload 4, 2) := by decide +kernel
theorem dL_law_853 : decode cL_law 853 = .ok (.iconst 1, 1) := by decide +kernel
theorem dL_law_854 : decode cL_law 854 = .ok (.iadd, 1) := by decide +kernel
theorem dL_law_855 : decode cL_law 855 = .ok (.iaload, 1) := by decide +kernel
theorem dL_law_856 : decode cL_law 856 = .ok (.invokevirtual 101, 3) := by decide +kernel
theorem dL_law_859 : decode cL_law 859 = .ok (.aload_n 2, 1) := by decide +kernel
theorem dL_law_860 : decode cL_law 860 = .ok (.aload_n 0, 1) := by decide +kernel
theorem dL_law_861 : decode cL_law 861 = .ok (.iload 4, 2) := by decide +kernel
theorem dL_law_863 : decode cL_law 863 = .ok (.iconst 1, 1) := by decide +kernel
theorem dL_law_864 : decode cL_law 864 = .ok (.iadd, 1) := by decide +kernel
theorem dL_law_865 : decode cL_law 865 = .ok (.iaload, 1) := by decide +kernel
theorem dL_law_866 : decode cL_law 866 = .ok (.invokevirtual 104, 3) := by decide +kernel
theorem dL_law_869 : decode cL_law 869 = .ok (.if_icmp .eq 956, 3) := by decide +kernel
theorem dL_law_874 : decode cL_law 874 = .ok (.aload_n 1, 1) := by decide +kernel
theorem dL_law_875 : decode cL_law 875 = .ok (.aload_n 0, 1) := by decide +kernel
theorem dL_law_876 : decode cL_law 876 = .ok (.iload 4, 2) := by decide +kernel
theorem dL_law_878 : decode cL_law 878 = .ok (.iconst 1, 1) := by decide +kernel
theorem dL_law_879 : decode cL_law 879 = .ok (.iadd, 1) := by decide +kernel
theorem dL_law_880 : decode cL_law 880 = .ok (.iaload, 1) := by decide +kernel
theorem dL_law_881 : decode cL_law 881 = .ok (.aload_n 0, 1) := by decide +kernel
theorem dL_law_882 : decode cL_law 882 = .ok (.iload 4, 2) := by decide +kernel
theorem dL_law_884 : decode cL_law 884 = .ok (.iconst 2, 1) := by decide +kernel
theorem dL_law_885 : decode cL_law 885 = .ok (.iadd, 1) := by decide +kernel
theorem dL_law_886 : decode cL_law 886 = .ok (.iaload, 1) := by decide +kernel
theorem dL_law_887 : decode cL_law 887 = .ok (.i2l, 1) := by decide +kernel
theorem dL_law_888 : decode cL_law 888 = .ok (.bipush 32, 2) := by decide +kernel
theorem dL_law_890 : decode cL_law 890 = .ok (.lshl, 1) := by decide +kernel
theorem dL_law_891 : decode cL_law 891 = .ok (.aload_n 0, 1) := by decide +kernel
theorem dL_law_892 : decode cL_law 892 = .ok (.iload 4, 2) := by decide +kernel
theorem dL_law_894 : decode cL_law 894 = .ok (.iconst 3, 1) := by decide +kernel
theorem dL_law_895 : decode cL_law 895 = .ok (.iadd, 1) := by decide +kernel
theorem dL_law_896 : decode cL_law 896 = .ok (.iaload, 1) := by decide +kernel
theorem dL_law_897 : decode cL_law 897 = .ok (.i2l, 1) := by decide +kernel
theorem dL_law_898 : decode cL_law 898 = .ok (.ldc2_w 105, 3) := by decide +kernel
theorem dL_law_901 : decode cL_law 901 = .ok (.land, 1) := by decide +kernel
theorem dL_law_902 : decode cL_law 902 = .ok (.lor, 1) := by decide +kernel
theorem dL_law_903 : decode cL_law 903 = .ok (.invokevirtual 107, 3) := by decide +kernel
theorem dL_law_906 : decode cL_law 906 = .ok (.aload_n 2, 1) := by decide +kernel
theorem dL_law_907 : decode cL_law 907 = .ok (.aload_n 0, 1) := by decide +kernel
theorem dL_law_908 : decode cL_law 908 = .ok (.iload 4, 2) := by decide +kernel
theorem dL_law_910 : decode cL_law 910 = .ok (.iconst 1, 1) := by decide +kernel
theorem dL_law_911 : decode cL_law 911 = .ok (.iadd, 1) := by decide +kernel
theorem dL_law_912 : decode cL_law 912 = .ok (.iaload, 1) := by decide +kernel
theorem dL_law_913 : decode cL_law 913 = .ok (.aload_n 0, 1) := by decide +kernel
theorem dL_law_914 : decode cL_law 914 = .ok (.iload 4, 2) := by decide +kernel
theorem dL_law_916 : decode cL_law 916 = .ok (.iconst 2, 1) := by decide +kernel
theorem dL_law_917 : decode cL_law 917 = .ok (.iadd, 1) := by decide +kernel
theorem dL_law_918 : decode cL_law 918 = .ok (.iaload, 1) := by decide +kernel
theorem dL_law_919 : decode cL_law 919 = .ok (.i2l, 1) := by decide +kernel
theorem dL_law_920 : decode cL_law 920 = .ok (.bipush 32, 2) := by decide +kernel
theorem dL_law_922 : decode cL_law 922 = .ok (.lshl, 1) := by decide +kernel
theorem dL_law_923 : decode cL_law 923 = .ok (.aload_n 0, 1) := by decide +kernel
theorem dL_law_924 : decode cL_law 924 = .ok (.iload 4, 2) := by decide +kernel
theorem dL_law_926 : decode cL_law 926 = .ok (.iconst 3, 1) := by decide +kernel
theorem dL_law_927 : decode cL_law 927 = .ok (.iadd, 1) := by decide +kernel
theorem dL_law_928 : decode cL_law 928 = .ok (.iaload, 1) := by decide +kernel
theorem dL_law_929 : decode cL_law 929 = .ok (.i2l, 1) := by decide +kernel
theorem dL_law_930 : decode cL_law 930 = .ok (.ldc2_w 105, 3) := by decide +kernel
theorem dL_law_933 : decode cL_law 933 = .ok (.land, 1) := by decide +kernel
theorem dL_law_934 : decode cL_law 934 = .ok (.lor, 1) := by decide +kernel
theorem dL_law_935 : decode cL_law 935 = .ok (.invokevirtual 111, 3) := by decide +kernel
theorem dL_law_938 : decode cL_law 938 = .ok (.if_icmp .eq 887, 3) := by decide +kernel
theorem dL_law_943 : decode cL_law 943 = .ok (.aload_n 1, 1) := by decide +kernel
theorem dL_law_944 : decode cL_law 944 = .ok (.aload_n 0, 1) := by decide +kernel
theorem dL_law_945 : decode cL_law 945 = .ok (.iload 4, 2) := by decide +kernel
theorem dL_law_947 : decode cL_law 947 = .ok (.iconst 1, 1) := by decide +kernel
theorem dL_law_948 : decode cL_law 948 = .ok (.iadd, 1) := by decide +kernel
theorem dL_law_949 : decode cL_law 949 = .ok (.iaload, 1) := by decide +kernel
theorem dL_law_950 : decode cL_law 950 = .ok (.invokevirtual 112, 3) := by decide +kernel
theorem dL_law_953 : decode cL_law 953 = .ok (.aload_n 2, 1) := by decide +kernel
theorem dL_law_954 : decode cL_law 954 = .ok (.aload_n 0, 1) := by decide +kernel
theorem dL_law_955 : decode cL_law 955 = .ok (.iload 4, 2) := by decide +kernel
theorem dL_law_957 : decode cL_law 957 = .ok (.iconst 1, 1) := by decide +kernel
theorem dL_law_958 : decode cL_law 958 = .ok (.iadd, 1) := by decide +kernel
theorem dL_law_959 : decode cL_law 959 = .ok (.iaload, 1) := by decide +kernel
theorem dL_law_960 : decode cL_law 960 = .ok (.invokevirtual 115, 3) := by decide +kernel
theorem dL_law_963 : decode cL_law 963 = .ok (.if_icmp .eq 862, 3) := by decide +kernel
theorem dL_law_968 : decode cL_law 968 = .ok (.aload_n 1, 1) := by decide +kernel
theorem dL_law_969 : decode cL_law 969 = .ok (.invokevirtual 116, 3) := by decide +kernel
theorem dL_law_972 : decode cL_law 972 = .ok (.aload_n 2, 1) := by decide +kernel
theorem dL_law_973 : decode cL_law 973 = .ok (.invokevirtual 119, 3) := by decide +kernel
theorem dL_law_976 : decode cL_law 976 = .ok (.if_icmp .eq 849, 3) := by decide +kernel
theorem dL_law_981 : decode cL_law 981 = .ok (.aload_n 1, 1) := by decide +kernel
theorem dL_law_982 : decode cL_law 982 = .ok (.aload_n 0, 1) := by decide +kernel
theorem dL_law_983 : decode cL_law 983 = .ok (.iload 4, 2) := by decide +kernel
theorem dL_law_985 : decode cL_law 985 = .ok (.iconst 1, 1) := by decide +kernel
theorem dL_law_986 : decode cL_law 986 = .ok (.iadd, 1) := by decide +kernel
theorem dL_law_987 : decode cL_law 987 = .ok (.iaload, 1) := by decide +kernel
theorem dL_law_988 : decode cL_law 988 = .ok (.aload_n 0, 1) := by decide +kernel
theorem dL_law_989 : decode cL_law 989 = .ok (.iload 4, 2) := by decide +kernel
theorem dL_law_991 : decode cL_law 991 = .ok (.iconst 2, 1) := by decide +kernel
theorem dL_law_992 : decode cL_law 992 = .ok (.iadd, 1) := by decide +kernel
theorem dL_law_993 : decode cL_law 993 = .ok (.iaload, 1) := by decide +kernel
theorem dL_law_994 : decode cL_law 994 = .ok (.invokevirtual 120, 3) := by decide +kernel
theorem dL_law_997 : decode cL_law 997 = .ok (.aload_n 2, 1) := by decide +kernel
theorem dL_law_998 : decode cL_law 998 = .ok (.aload_n 0, 1) := by decide +kernel
theorem dL_law_999 : decode cL_law 999 = .ok (.iload 4, 2) := by decide +kernel
theorem dL_law_1001 : decode cL_law 1001 = .ok (.iconst 1, 1) := by decide +kernel
theorem dL_law_1002 : decode cL_law 1002 = .ok (.iadd, 1) := by decide +kernel
theorem dL_law_1003 : decode cL_law 1003 = .ok (.iaload, 1) := by decide +kernel
theorem dL_law_1004 : decode cL_law 1004 = .ok (.aload_n 0, 1) := by decide +kernel
theorem dL_law_1005 : decode cL_law 1005 = .ok (.iload 4, 2) := by decide +kernel
theorem dL_law_1007 : decode cL_law 1007 = .ok (.iconst 2, 1) := by decide +kernel
theorem dL_law_1008 : decode cL_law 1008 = .ok (.iadd, 1) := by decide +kernel
theorem dL_law_1009 : decode cL_law 1009 = .ok (.iaload, 1) := by decide +kernel
theorem dL_law_1010 : decode cL_law 1010 = .ok (.invokevirtual 123, 3) := by decide +kernel
theorem dL_law_1013 : decode cL_law 1013 = .ok (.if_icmp .eq 812, 3) := by decide +kernel
theorem dL_law_1018 : decode cL_law 1018 = .ok (.aload_n 1, 1) := by decide +kernel
theorem dL_law_1019 : decode cL_law 1019 = .ok (.aload_n 0, 1) := by decide +kernel
theorem dL_law_1020 : decode cL_law 1020 = .ok (.iload 4, 2) := by decide +kernel
theorem dL_law_1022 : decode cL_law 1022 = .ok (.iconst 1, 1) := by decide +kernel
theorem dL_law_1023 : decode cL_law 1023 = .ok (.iadd, 1) := by decide +kernel
theorem dL_law_1024 : decode cL_law 1024 = .ok (.iaload, 1) := by decide +kernel
theorem dL_law_1025 : decode cL_law 1025 = .ok (.invokevirtual 124, 3) := by decide +kernel
theorem dL_law_1028 : decode cL_law 1028 = .ok (.aload_n 2, 1) := by decide +kernel
theorem dL_law_1029 : decode cL_law 1029 = .ok (.aload_n 0, 1) := by decide +kernel
theorem dL_law_1030 : decode cL_law 1030 = .ok (.iload 4, 2) := by decide +kernel
theorem dL_law_1032 : decode cL_law 1032 = .ok (.iconst 1, 1) := by decide +kernel
theorem dL_law_1033 : decode cL_law 1033 = .ok (.iadd, 1) := by decide +kernel
theorem dL_law_1034 : decode cL_law 1034 = .ok (.iaload, 1) := by decide +kernel
theorem dL_law_1035 : decode cL_law 1035 = .ok (.invokevirtual 127, 3) := by decide +kernel
theorem dL_law_1038 : decode cL_law 1038 = .ok (.if_icmp .eq 787, 3) := by decide +kernel
theorem dL_law_1043 : decode cL_law 1043 = .ok (.aload_n 1, 1) := by decide +kernel
theorem dL_law_1044 : decode cL_law 1044 = .ok (.aload_n 0, 1) := by decide +kernel
theorem dL_law_1045 : decode cL_law 1045 = .ok (.iload 4, 2) := by decide +kernel
theorem dL_law_1047 : decode cL_law 1047 = .ok (.iconst 1, 1) := by decide +kernel
theorem dL_law_1048 : decode cL_law 1048 = .ok (.iadd, 1) := by decide +kernel
theorem dL_law_1049 : decode cL_law 1049 = .ok (.iaload, 1) := by decide +kernel
theorem dL_law_1050 : decode cL_law 1050 = .ok (.aload_n 0, 1) := by decide +kernel
theorem dL_law_1051 : decode cL_law 1051 = .ok (.iload 4, 2) := by decide +kernel
theorem dL_law_1053 : decode cL_law 1053 = .ok (.iconst 2, 1) := by decide +kernel
theorem dL_law_1054 : decode cL_law 1054 = .ok (.iadd, 1) := by decide +kernel
theorem dL_law_1055 : decode cL_law 1055 = .ok (.iaload, 1) := by decide +kernel
theorem dL_law_1056 : decode cL_law 1056 = .ok (.invokevirtual 128, 3) := by decide +kernel
theorem dL_law_1059 : decode cL_law 1059 = .ok (.aload_n 2, 1) := by decide +kernel
theorem dL_law_1060 : decode cL_law 1060 = .ok (.aload_n 0, 1) := by decide +kernel
theorem dL_law_1061 : decode cL_law 1061 = .ok (.iload 4, 2) := by decide +kernel
theorem dL_law_1063 : decode cL_law 1063 = .ok (.iconst 1, 1) := by decide +kernel
theorem dL_law_1064 : decode cL_law 1064 = .ok (.iadd, 1) := by decide +kernel
theorem dL_law_1065 : decode cL_law 1065 = .ok (.iaload, 1) := by decide +kernel
theorem dL_law_1066 : decode cL_law 1066 = .ok (.aload_n 0, 1) := by decide +kernel
theorem dL_law_1067 : decode cL_law 1067 = .ok (.iload 4, 2) := by decide +kernel
theorem dL_law_1069 : decode cL_law 1069 = .ok (.iconst 2, 1) := by decide +kernel
theorem dL_law_1070 : decode cL_law 1070 = .ok (.iadd, 1) := by decide +kernel
theorem dL_law_1071 : decode cL_law 1071 = .ok (.iaload, 1) := by decide +kernel
theorem dL_law_1072 : decode cL_law 1072 = .ok (.invokevirtual 131, 3) := by decide +kernel
theorem dL_law_1075 : decode cL_law 1075 = .ok (.if_icmp .eq 750, 3) := by decide +kernel
theorem dL_law_1080 : decode cL_law 1080 = .ok (.aload_n 1, 1) := by decide +kernel
theorem dL_law_1081 : decode cL_law 1081 = .ok (.aload_n 0, 1) := by decide +kernel
theorem dL_law_1082 : decode cL_law 1082 = .ok (.iload 4, 2) := by decide +kernel
theorem dL_law_1084 : decode cL_law 1084 = .ok (.iconst 1, 1) := by decide +kernel
theorem dL_law_1085 : decode cL_law 1085 = .ok (.iadd, 1) := by decide +kernel
theorem dL_law_1086 : decode cL_law 1086 = .ok (.iaload, 1) := by decide +kernel
theorem dL_law_1087 : decode cL_law 1087 = .ok (.aload_n 0, 1) := by decide +kernel
theorem dL_law_1088 : decode cL_law 1088 = .ok (.iload 4, 2) := by decide +kernel
theorem dL_law_1090 : decode cL_law 1090 = .ok (.iconst 2, 1) := by decide +kernel
theorem dL_law_1091 : decode cL_law 1091 = .ok (.iadd, 1) := by decide +kernel
theorem dL_law_1092 : decode cL_law 1092 = .ok (.iaload, 1) := by decide +kernel
theorem dL_law_1093 : decode cL_law 1093 = .ok (.invokevirtual 132, 3) := by decide +kernel
theorem dL_law_1096 : decode cL_law 1096 = .ok (.aload_n 2, 1) := by decide +kernel
theorem dL_law_1097 : decode cL_law 1097 = .ok (.aload_n 0, 1) := by decide +kernel
theorem dL_law_1098 : decode cL_law 1098 = .ok (.iload 4, 2) := by decide +kernel
theorem dL_law_1100 : decode cL_law 1100 = .ok (.iconst 1, 1) := by decide +kernel
theorem dL_law_1101 : decode cL_law 1101 = .ok (.iadd, 1) := by decide +kernel
theorem dL_law_1102 : decode cL_law 1102 = .ok (.iaload, 1) := by decide +kernel
theorem dL_law_1103 : decode cL_law 1103 = .ok (.aload_n 0, 1) := by decide +kernel
theorem dL_law_1104 : decode cL_law 1104 = .ok (.iload 4, 2) := by decide +kernel
theorem dL_law_1106 : decode cL_law 1106 = .ok (.iconst 2, 1) := by decide +kernel
theorem dL_law_1107 : decode cL_law 1107 = .ok (.iadd, 1) := by decide +kernel
theorem dL_law_1108 : decode cL_law 1108 = .ok (.iaload, 1) := by decide +kernel
theorem dL_law_1109 : decode cL_law 1109 = .ok (.invokevirtual 135, 3) := by decide +kernel
theorem dL_law_1112 : decode cL_law 1112 = .ok (.if_icmp .eq 713, 3) := by decide +kernel
theorem dL_law_1117 : decode cL_law 1117 = .ok (.aload_n 1, 1) := by decide +kernel
theorem dL_law_1118 : decode cL_law 1118 = .ok (.aload_n 0, 1) := by decide +kernel
theorem dL_law_1119 : decode cL_law 1119 = .ok (.iload 4, 2) := by decide +kernel
theorem dL_law_1121 : decode cL_law 1121 = .ok (.iconst 1, 1) := by decide +kernel
theorem dL_law_1122 : decode cL_law 1122 = .ok (.iadd, 1) := by decide +kernel
theorem dL_law_1123 : decode cL_law 1123 = .ok (.iaload, 1) := by decide +kernel
theorem dL_law_1124 : decode cL_law 1124 = .ok (.aload_n 0, 1) := by decide +kernel
theorem dL_law_1125 : decode cL_law 1125 = .ok (.iload 4, 2) := by decide +kernel
theorem dL_law_1127 : decode cL_law 1127 = .ok (.iconst 2, 1) := by decide +kernel
theorem dL_law_1128 : decode cL_law 1128 = .ok (.iadd, 1) := by decide +kernel
theorem dL_law_1129 : decode cL_law 1129 = .ok (.iaload, 1) := by decide +kernel
theorem dL_law_1130 : decode cL_law 1130 = .ok (.invokevirtual 136, 3) := by decide +kernel
theorem dL_law_1133 : decode cL_law 1133 = .ok (.aload_n 2, 1) := by decide +kernel
theorem dL_law_1134 : decode cL_law 1134 = .ok (.aload_n 0, 1) := by decide +kernel
theorem dL_law_1135 : decode cL_law 1135 = .ok (.iload 4, 2) := by decide +kernel
theorem dL_law_1137 : decode cL_law 1137 = .ok (.iconst 1, 1) := by decide +kernel
theorem dL_law_1138 : decode cL_law 1138 = .ok (.iadd, 1) := by decide +kernel
theorem dL_law_1139 : decode cL_law 1139 = .ok (.iaload, 1) := by decide +kernel
theorem dL_law_1140 : decode cL_law 1140 = .ok (.aload_n 0, 1) := by decide +kernel
theorem dL_law_1141 : decode cL_law 1141 = .ok (.iload 4, 2) := by decide +kernel
theorem dL_law_1143 : decode cL_law 1143 = .ok (.iconst 2, 1) := by decide +kernel
theorem dL_law_1144 : decode cL_law 1144 = .ok (.iadd, 1) := by decide +kernel
theorem dL_law_1145 : decode cL_law 1145 = .ok (.iaload, 1) := by decide +kernel
theorem dL_law_1146 : decode cL_law 1146 = .ok (.invokevirtual 139, 3) := by decide +kernel
theorem dL_law_1149 : decode cL_law 1149 = .ok (.if_icmp .eq 676, 3) := by decide +kernel
theorem dL_law_1154 : decode cL_law 1154 = .ok (.aload_n 1, 1) := by decide +kernel
theorem dL_law_1155 : decode cL_law 1155 = .ok (.aload_n 0, 1) := by decide +kernel
theorem dL_law_1156 : decode cL_law 1156 = .ok (.iload 4, 2) := by decide +kernel
theorem dL_law_1158 : decode cL_law 1158 = .ok (.iconst 1, 1) := by decide +kernel
theorem dL_law_1159 : decode cL_law 1159 = .ok (.iadd, 1) := by decide +kernel
theorem dL_law_1160 : decode cL_law 1160 = .ok (.iaload, 1) := by decide +kernel
theorem dL_law_1161 : decode cL_law 1161 = .ok (.invokevirtual 140, 3) := by decide +kernel
theorem dL_law_1164 : decode cL_law 1164 = .ok (.aload_n 2, 1) := by decide +kernel
theorem dL_law_1165 : decode cL_law 1165 = .ok (.aload_n 0, 1) := by decide +kernel
theorem dL_law_1166 : decode cL_law 1166 = .ok (.iload 4, 2) := by decide +kernel
theorem dL_law_1168 : decode cL_law 1168 = .ok (.iconst 1, 1) := by decide +kernel
theorem dL_law_1169 : decode cL_law 1169 = .ok (.iadd, 1) := by decide +kernel
theorem dL_law_1170 : decode cL_law 1170 = .ok (.iaload, 1) := by decide +kernel
theorem dL_law_1171 : decode cL_law 1171 = .ok (.invokevirtual 143, 3) := by decide +kernel
theorem dL_law_1174 : decode cL_law 1174 = .ok (.if_icmp .eq 651, 3) := by decide +kernel
theorem dL_law_1179 : decode cL_law 1179 = .ok (.aload_n 1, 1) := by decide +kernel
theorem dL_law_1180 : decode cL_law 1180 = .ok (.aload_n 0, 1) := by decide +kernel
theorem dL_law_1181 : decode cL_law 1181 = .ok (.iload 4, 2) := by decide +kernel
theorem dL_law_1183 : decode cL_law 1183 = .ok (.iconst 1, 1) := by decide +kernel
theorem dL_law_1184 : decode cL_law 1184 = .ok (.iadd, 1) := by decide +kernel
theorem dL_law_1185 : decode cL_law 1185 = .ok (.iaload, 1) := by decide +kernel
theorem dL_law_1186 : decode cL_law 1186 = .ok (.invokevirtual 144, 3) := by decide +kernel
theorem dL_law_1189 : decode cL_law 1189 = .ok (.aload_n 2, 1) := by decide +kernel
theorem dL_law_1190 : decode cL_law 1190 = .ok (.aload_n 0, 1) := by decide +kernel
theorem dL_law_1191 : decode cL_law 1191 = .ok (.iload 4, 2) := by decide +kernel
theorem dL_law_1193 : decode cL_law 1193 = .ok (.iconst 1, 1) := by decide +kernel
theorem dL_law_1194 : decode cL_law 1194 = .ok (.iadd, 1) := by decide +kernel
theorem dL_law_1195 : decode cL_law 1195 = .ok (.iaload, 1) := by decide +kernel
theorem dL_law_1196 : decode cL_law 1196 = .ok (.invokevirtual 147, 3) := by decide +kernel
theorem dL_law_1199 : decode cL_law 1199 = .ok (.if_icmp .eq 626, 3) := by decide +kernel
theorem dL_law_1204 : decode cL_law 1204 = .ok (.aload_n 1, 1) := by decide +kernel
theorem dL_law_1205 : decode cL_law 1205 = .ok (.aload_n 0, 1) := by decide +kernel
theorem dL_law_1206 : decode cL_law 1206 = .ok (.iload 4, 2) := by decide +kernel
theorem dL_law_1208 : decode cL_law 1208 = .ok (.iconst 1, 1) := by decide +kernel
theorem dL_law_1209 : decode cL_law 1209 = .ok (.iadd, 1) := by decide +kernel
theorem dL_law_1210 : decode cL_law 1210 = .ok (.iaload, 1) := by decide +kernel
theorem dL_law_1211 : decode cL_law 1211 = .ok (.aload_n 0, 1) := by decide +kernel
theorem dL_law_1212 : decode cL_law 1212 = .ok (.iload 4, 2) := by decide +kernel
theorem dL_law_1214 : decode cL_law 1214 = .ok (.iconst 2, 1) := by decide +kernel
theorem dL_law_1215 : decode cL_law 1215 = .ok (.iadd, 1) := by decide +kernel
theorem dL_law_1216 : decode cL_law 1216 = .ok (.iaload, 1) := by decide +kernel
theorem dL_law_1217 : decode cL_law 1217 = .ok (.invokevirtual 148, 3) := by decide +kernel
theorem dL_law_1220 : decode cL_law 1220 = .ok (.aload_n 2, 1) := by decide +kernel
theorem dL_law_1221 : decode cL_law 1221 = .ok (.aload_n 0, 1) := by decide +kernel
theorem dL_law_1222 : decode cL_law 1222 = .ok (.iload 4, 2) := by decide +kernel
theorem dL_law_1224 : decode cL_law 1224 = .ok (.iconst 1, 1) := by decide +kernel
theorem dL_law_1225 : decode cL_law 1225 = .ok (.iadd, 1) := by decide +kernel
theorem dL_law_1226 : decode cL_law 1226 = .ok (.iaload, 1) := by decide +kernel
theorem dL_law_1227 : decode cL_law 1227 = .ok (.aload_n 0, 1) := by decide +kernel
theorem dL_law_1228 : decode cL_law 1228 = .ok (.iload 4, 2) := by decide +kernel
theorem dL_law_1230 : decode cL_law 1230 = .ok (.iconst 2, 1) := by decide +kernel
theorem dL_law_1231 : decode cL_law 1231 = .ok (.iadd, 1) := by decide +kernel
theorem dL_law_1232 : decode cL_law 1232 = .ok (.iaload, 1) := by decide +kernel
theorem dL_law_1233 : decode cL_law 1233 = .ok (.invokevirtual 151, 3) := by decide +kernel
theorem dL_law_1236 : decode cL_law 1236 = .ok (.if_icmp .eq 589, 3) := by decide +kernel
theorem dL_law_1241 : decode cL_law 1241 = .ok (.aload_n 1, 1) := by decide +kernel
theorem dL_law_1242 : decode cL_law 1242 = .ok (.aload_n 0, 1) := by decide +kernel
theorem dL_law_1243 : decode cL_law 1243 = .ok (.iload 4, 2) := by decide +kernel
theorem dL_law_1245 : decode cL_law 1245 = .ok (.iconst 1, 1) := by decide +kernel
theorem dL_law_1246 : decode cL_law 1246 = .ok (.iadd, 1) := by decide +kernel
theorem dL_law_1247 : decode cL_law 1247 = .ok (.iaload, 1) := by decide +kernel
theorem dL_law_1248 : decode cL_law 1248 = .ok (.invokevirtual 152, 3) := by decide +kernel
theorem dL_law_1251 : decode cL_law 1251 = .ok (.aload_n 2, 1) := by decide +kernel
theorem dL_law_1252 : decode cL_law 1252 = .ok (.aload_n 0, 1) := by decide +kernel
theorem dL_law_1253 : decode cL_law 1253 = .ok (.iload 4, 2) := by decide +kernel
theorem dL_law_1255 : decode cL_law 1255 = .ok (.iconst 1, 1) := by decide +kernel
theorem dL_law_1256 : decode cL_law 1256 = .ok (.iadd, 1) := by decide +kernel
theorem dL_law_1257 : decode cL_law 1257 = .ok (.iaload, 1) := by decide +kernel
theorem dL_law_1258 : decode cL_law 1258 = .ok (.invokevirtual 155, 3) := by decide +kernel
theorem dL_law_1261 : decode cL_law 1261 = .ok (.if_icmp .eq 564, 3) := by decide +kernel
theorem dL_law_1266 : decode cL_law 1266 = .ok (.aload_n 1, 1) := by decide +kernel
theorem dL_law_1267 : decode cL_law 1267 = .ok (.aload_n 0, 1) := by decide +kernel
theorem dL_law_1268 : decode cL_law 1268 = .ok (.iload 4, 2) := by decide +kernel
theorem dL_law_1270 : decode cL_law 1270 = .ok (.iconst 1, 1) := by decide +kernel
theorem dL_law_1271 : decode cL_law 1271 = .ok (.iadd, 1) := by decide +kernel
theorem dL_law_1272 : decode cL_law 1272 = .ok (.iaload, 1) := by decide +kernel
theorem dL_law_1273 : decode cL_law 1273 = .ok (.aload_n 0, 1) := by decide +kernel
theorem dL_law_1274 : decode cL_law 1274 = .ok (.iload 4, 2) := by decide +kernel
theorem dL_law_1276 : decode cL_law 1276 = .ok (.iconst 2, 1) := by decide +kernel
theorem dL_law_1277 : decode cL_law 1277 = .ok (.iadd, 1) := by decide +kernel
theorem dL_law_1278 : decode cL_law 1278 = .ok (.iaload, 1) := by decide +kernel
theorem dL_law_1279 : decode cL_law 1279 = .ok (.aload_n 0, 1) := by decide +kernel
theorem dL_law_1280 : decode cL_law 1280 = .ok (.iload 4, 2) := by decide +kernel
theorem dL_law_1282 : decode cL_law 1282 = .ok (.iconst 3, 1) := by decide +kernel
theorem dL_law_1283 : decode cL_law 1283 = .ok (.iadd, 1) := by decide +kernel
theorem dL_law_1284 : decode cL_law 1284 = .ok (.iaload, 1) := by decide +kernel
theorem dL_law_1285 : decode cL_law 1285 = .ok (.aload_n 0, 1) := by decide +kernel
theorem dL_law_1286 : decode cL_law 1286 = .ok (.iload 4, 2) := by decide +kernel
theorem dL_law_1288 : decode cL_law 1288 = .ok (.iconst 4, 1) := by decide +kernel
theorem dL_law_1289 : decode cL_law 1289 = .ok (.iadd, 1) := by decide +kernel
theorem dL_law_1290 : decode cL_law 1290 = .ok (.iaload, 1) := by decide +kernel
theorem dL_law_1291 : decode cL_law 1291 = .ok (.aload_n 0, 1) := by decide +kernel
theorem dL_law_1292 : decode cL_law 1292 = .ok (.iload 4, 2) := by decide +kernel
theorem dL_law_1294 : decode cL_law 1294 = .ok (.iconst 5, 1) := by decide +kernel
theorem dL_law_1295 : decode cL_law 1295 = .ok (.iadd, 1) := by decide +kernel
theorem dL_law_1296 : decode cL_law 1296 = .ok (.iaload, 1) := by decide +kernel
theorem dL_law_1297 : decode cL_law 1297 = .ok (.aload_n 0, 1) := by decide +kernel
theorem dL_law_1298 : decode cL_law 1298 = .ok (.iload 4, 2) := by decide +kernel
theorem dL_law_1300 : decode cL_law 1300 = .ok (.bipush 6, 2) := by decide +kernel
theorem dL_law_1302 : decode cL_law 1302 = .ok (.iadd, 1) := by decide +kernel
theorem dL_law_1303 : decode cL_law 1303 = .ok (.iaload, 1) := by decide +kernel
theorem dL_law_1304 : decode cL_law 1304 = .ok (.invokevirtual 156, 3) := by decide +kernel
theorem dL_law_1307 : decode cL_law 1307 = .ok (.aload_n 2, 1) := by decide +kernel
theorem dL_law_1308 : decode cL_law 1308 = .ok (.aload_n 0, 1) := by decide +kernel
theorem dL_law_1309 : decode cL_law 1309 = .ok (.iload 4, 2) := by decide +kernel
theorem dL_law_1311 : decode cL_law 1311 = .ok (.iconst 1, 1) := by decide +kernel
theorem dL_law_1312 : decode cL_law 1312 = .ok (.iadd, 1) := by decide +kernel
theorem dL_law_1313 : decode cL_law 1313 = .ok (.iaload, 1) := by decide +kernel
theorem dL_law_1314 : decode cL_law 1314 = .ok (.aload_n 0, 1) := by decide +kernel
theorem dL_law_1315 : decode cL_law 1315 = .ok (.iload 4, 2) := by decide +kernel
theorem dL_law_1317 : decode cL_law 1317 = .ok (.iconst 2, 1) := by decide +kernel
theorem dL_law_1318 : decode cL_law 1318 = .ok (.iadd, 1) := by decide +kernel
theorem dL_law_1319 : decode cL_law 1319 = .ok (.iaload, 1) := by decide +kernel
theorem dL_law_1320 : decode cL_law 1320 = .ok (.aload_n 0, 1) := by decide +kernel
theorem dL_law_1321 : decode cL_law 1321 = .ok (.iload 4, 2) := by decide +kernel
theorem dL_law_1323 : decode cL_law 1323 = .ok (.iconst 3, 1) := by decide +kernel
theorem dL_law_1324 : decode cL_law 1324 = .ok (.iadd, 1) := by decide +kernel
theorem dL_law_1325 : decode cL_law 1325 = .ok (.iaload, 1) := by decide +kernel
theorem dL_law_1326 : decode cL_law 1326 = .ok (.aload_n 0, 1) := by decide +kernel
theorem dL_law_1327 : decode cL_law 1327 = .ok (.iload 4, 2) := by decide +kernel
theorem dL_law_1329 : decode cL_law 1329 = .ok (.iconst 4, 1) := by decide +kernel
theorem dL_law_1330 : decode cL_law 1330 = .ok (.iadd, 1) := by decide +kernel
theorem dL_law_1331 : decode cL_law 1331 = .ok (.iaload, 1) := by decide +kernel
theorem dL_law_1332 : decode cL_law 1332 = .ok (.aload_n 0, 1) := by decide +kernel
theorem dL_law_1333 : decode cL_law 1333 = .ok (.iload 4, 2) := by decide +kernel
theorem dL_law_1335 : decode cL_law 1335 = .ok (.iconst 5, 1) := by decide +kernel
theorem dL_law_1336 : decode cL_law 1336 = .ok (.iadd, 1) := by decide +kernel
theorem dL_law_1337 : decode cL_law 1337 = .ok (.iaload, 1) := by decide +kernel
theorem dL_law_1338 : decode cL_law 1338 = .ok (.aload_n 0, 1) := by decide +kernel
theorem dL_law_1339 : decode cL_law 1339 = .ok (.iload 4, 2) := by decide +kernel
theorem dL_law_1341 : decode cL_law 1341 = .ok (.bipush 6, 2) := by decide +kernel
theorem dL_law_1343 : decode cL_law 1343 = .ok (.iadd, 1) := by decide +kernel
theorem dL_law_1344 : decode cL_law 1344 = .ok (.iaload, 1) := by decide +kernel
theorem dL_law_1345 : decode cL_law 1345 = .ok (.invokevirtual 160, 3) := by decide +kernel
theorem dL_law_1348 : decode cL_law 1348 = .ok (.if_icmp .eq 477, 3) := by decide +kernel
theorem dL_law_1353 : decode cL_law 1353 = .ok (.aload_n 1, 1) := by decide +kernel
theorem dL_law_1354 : decode cL_law 1354 = .ok (.aload_n 0, 1) := by decide +kernel
theorem dL_law_1355 : decode cL_law 1355 = .ok (.iload 4, 2) := by decide +kernel
theorem dL_law_1357 : decode cL_law 1357 = .ok (.iconst 1, 1) := by decide +kernel
theorem dL_law_1358 : decode cL_law 1358 = .ok (.iadd, 1) := by decide +kernel
theorem dL_law_1359 : decode cL_law 1359 = .ok (.iaload, 1) := by decide +kernel
theorem dL_law_1360 : decode cL_law 1360 = .ok (.aload_n 0, 1) := by decide +kernel
theorem dL_law_1361 : decode cL_law 1361 = .ok (.iload 4, 2) := by decide +kernel
theorem dL_law_1363 : decode cL_law 1363 = .ok (.iconst 2, 1) := by decide +kernel
theorem dL_law_1364 : decode cL_law 1364 = .ok (.iadd, 1) := by decide +kernel
theorem dL_law_1365 : decode cL_law 1365 = .ok (.iaload, 1) := by decide +kernel
theorem dL_law_1366 : decode cL_law 1366 = .ok (.aload_n 0, 1) := by decide +kernel
theorem dL_law_1367 : decode cL_law 1367 = .ok (.iload 4, 2) := by decide +kernel
theorem dL_law_1369 : decode cL_law 1369 = .ok (.iconst 3, 1) := by decide +kernel
theorem dL_law_1370 : decode cL_law 1370 = .ok (.iadd, 1) := by decide +kernel
theorem dL_law_1371 : decode cL_law 1371 = .ok (.iaload, 1) := by decide +kernel
theorem dL_law_1372 : decode cL_law 1372 = .ok (.aload_n 0, 1) := by decide +kernel
theorem dL_law_1373 : decode cL_law 1373 = .ok (.iload 4, 2) := by decide +kernel
theorem dL_law_1375 : decode cL_law 1375 = .ok (.iconst 4, 1) := by decide +kernel
theorem dL_law_1376 : decode cL_law 1376 = .ok (.iadd, 1) := by decide +kernel
theorem dL_law_1377 : decode cL_law 1377 = .ok (.iaload, 1) := by decide +kernel
theorem dL_law_1378 : decode cL_law 1378 = .ok (.invokevirtual 161, 3) := by decide +kernel
theorem dL_law_1381 : decode cL_law 1381 = .ok (.aload_n 2, 1) := by decide +kernel
theorem dL_law_1382 : decode cL_law 1382 = .ok (.aload_n 0, 1) := by decide +kernel
theorem dL_law_1383 : decode cL_law 1383 = .ok (.iload 4, 2) := by decide +kernel
theorem dL_law_1385 : decode cL_law 1385 = .ok (.iconst 1, 1) := by decide +kernel
theorem dL_law_1386 : decode cL_law 1386 = .ok (.iadd, 1) := by decide +kernel
theorem dL_law_1387 : decode cL_law 1387 = .ok (.iaload, 1) := by decide +kernel
theorem dL_law_1388 : decode cL_law 1388 = .ok (.aload_n 0, 1) := by decide +kernel
theorem dL_law_1389 : decode cL_law 1389 = .ok (.iload 4, 2) := by decide +kernel
theorem dL_law_1391 : decode cL_law 1391 = .ok (.iconst 2, 1) := by decide +kernel
theorem dL_law_1392 : decode cL_law 1392 = .ok (.iadd, 1) := by decide +kernel
theorem dL_law_1393 : decode cL_law 1393 = .ok (.iaload, 1) := by decide +kernel
theorem dL_law_1394 : decode cL_law 1394 = .ok (.aload_n 0, 1) := by decide +kernel
theorem dL_law_1395 : decode cL_law 1395 = .ok (.iload 4, 2) := by decide +kernel
theorem dL_law_1397 : decode cL_law 1397 = .ok (.iconst 3, 1) := by decide +kernel
theorem dL_law_1398 : decode cL_law 1398 = .ok (.iadd, 1) := by decide +kernel
theorem dL_law_1399 : decode cL_law 1399 = .ok (.iaload, 1) := by decide +kernel
theorem dL_law_1400 : decode cL_law 1400 = .ok (.aload_n 0, 1) := by decide +kernel
theorem dL_law_1401 : decode cL_law 1401 = .ok (.iload 4, 2) := by decide +kernel
theorem dL_law_1403 : decode cL_law 1403 = .ok (.iconst 4, 1) := by decide +kernel
theorem dL_law_1404 : decode cL_law 1404 = .ok (.iadd, 1) := by decide +kernel
theorem dL_law_1405 : decode cL_law 1405 = .ok (.iaload, 1) := by decide +kernel
theorem dL_law_1406 : decode cL_law 1406 = .ok (.invokevirtual 165, 3) := by decide +kernel
theorem dL_law_1409 : decode cL_law 1409 = .ok (.if_icmp .eq 416, 3) := by decide +kernel
theorem dL_law_1414 : decode cL_law 1414 = .ok (.aload_n 1, 1) := by decide +kernel
theorem dL_law_1415 : decode cL_law 1415 = .ok (.aload_n 0, 1) := by decide +kernel
theorem dL_law_1416 : decode cL_law 1416 = .ok (.iload 4, 2) := by decide +kernel
theorem dL_law_1418 : decode cL_law 1418 = .ok (.iconst 1, 1) := by decide +kernel
theorem dL_law_1419 : decode cL_law 1419 = .ok (.iadd, 1) := by decide +kernel
theorem dL_law_1420 : decode cL_law 1420 = .ok (.iaload, 1) := by decide +kernel
theorem dL_law_1421 : decode cL_law 1421 = .ok (.aload_n 0, 1) := by decide +kernel
theorem dL_law_1422 : decode cL_law 1422 = .ok (.iload 4, 2) := by decide +kernel
theorem dL_law_1424 : decode cL_law 1424 = .ok (.iconst 2, 1) := by decide +kernel
theorem dL_law_1425 : decode cL_law 1425 = .ok (.iadd, 1) := by decide +kernel
theorem dL_law_1426 : decode cL_law 1426 = .ok (.iaload, 1) := by decide +kernel
theorem dL_law_1427 : decode cL_law 1427 = .ok (.invokevirtual 166, 3) := by decide +kernel
theorem dL_law_1430 : decode cL_law 1430 = .ok (.aload_n 2, 1) := by decide +kernel
theorem dL_law_1431 : decode cL_law 1431 = .ok (.aload_n 0, 1) := by decide +kernel
theorem dL_law_1432 : decode cL_law 1432 = .ok (.iload 4, 2) := by decide +kernel
theorem dL_law_1434 : decode cL_law 1434 = .ok (.iconst 1, 1) := by decide +kernel
theorem dL_law_1435 : decode cL_law 1435 = .ok (.iadd, 1) := by decide +kernel
theorem dL_law_1436 : decode cL_law 1436 = .ok (.iaload, 1) := by decide +kernel
theorem dL_law_1437 : decode cL_law 1437 = .ok (.aload_n 0, 1) := by decide +kernel
theorem dL_law_1438 : decode cL_law 1438 = .ok (.iload 4, 2) := by decide +kernel
theorem dL_law_1440 : decode cL_law 1440 = .ok (.iconst 2, 1) := by decide +kernel
theorem dL_law_1441 : decode cL_law 1441 = .ok (.iadd, 1) := by decide +kernel
theorem dL_law_1442 : decode cL_law 1442 = .ok (.iaload, 1) := by decide +kernel
theorem dL_law_1443 : decode cL_law 1443 = .ok (.invokevirtual 169, 3) := by decide +kernel
theorem dL_law_1446 : decode cL_law 1446 = .ok (.if_icmp .eq 379, 3) := by decide +kernel
theorem dL_law_1451 : decode cL_law 1451 = .ok (.aload_n 1, 1) := by decide +kernel
theorem dL_law_1452 : decode cL_law 1452 = .ok (.aload_n 0, 1) := by decide +kernel
theorem dL_law_1453 : decode cL_law 1453 = .ok (.iload 4, 2) := by decide +kernel
theorem dL_law_1455 : decode cL_law 1455 = .ok (.iconst 1, 1) := by decide +kernel
theorem dL_law_1456 : decode cL_law 1456 = .ok (.iadd, 1) := by decide +kernel
theorem dL_law_1457 : decode cL_law 1457 = .ok (.iaload, 1) := by decide +kernel
theorem dL_law_1458 : decode cL_law 1458 = .ok (.aload_n 0, 1) := by decide +kernel
theorem dL_law_1459 : decode cL_law 1459 = .ok (.iload 4, 2) := by decide +kernel
theorem dL_law_1461 : decode cL_law 1461 = .ok (.iconst 2, 1) := by decide +kernel
theorem dL_law_1462 : decode cL_law 1462 = .ok (.iadd, 1) := by decide +kernel
theorem dL_law_1463 : decode cL_law 1463 = .ok (.iaload, 1) := by decide +kernel
theorem dL_law_1464 : decode cL_law 1464 = .ok (.invokevirtual 170, 3) := by decide +kernel
theorem dL_law_1467 : decode cL_law 1467 = .ok (.aload_n 2, 1) := by decide +kernel
theorem dL_law_1468 : decode cL_law 1468 = .ok (.aload_n 0, 1) := by decide +kernel
theorem dL_law_1469 : decode cL_law 1469 = .ok (.iload 4, 2) := by decide +kernel
theorem dL_law_1471 : decode cL_law 1471 = .ok (.iconst 1, 1) := by decide +kernel
theorem dL_law_1472 : decode cL_law 1472 = .ok (.iadd, 1) := by decide +kernel
theorem dL_law_1473 : decode cL_law 1473 = .ok (.iaload, 1) := by decide +kernel
theorem dL_law_1474 : decode cL_law 1474 = .ok (.aload_n 0, 1) := by decide +kernel
theorem dL_law_1475 : decode cL_law 1475 = .ok (.iload 4, 2) := by decide +kernel
theorem dL_law_1477 : decode cL_law 1477 = .ok (.iconst 2, 1) := by decide +kernel
theorem dL_law_1478 : decode cL_law 1478 = .ok (.iadd, 1) := by decide +kernel
theorem dL_law_1479 : decode cL_law 1479 = .ok (.iaload, 1) := by decide +kernel
theorem dL_law_1480 : decode cL_law 1480 = .ok (.invokevirtual 173, 3) := by decide +kernel
theorem dL_law_1483 : decode cL_law 1483 = .ok (.if_icmp .eq 342, 3) := by decide +kernel
theorem dL_law_1488 : decode cL_law 1488 = .ok (.aload_n 1, 1) := by decide +kernel
theorem dL_law_1489 : decode cL_law 1489 = .ok (.aload_n 0, 1) := by decide +kernel
theorem dL_law_1490 : decode cL_law 1490 = .ok (.iload 4, 2) := by decide +kernel
theorem dL_law_1492 : decode cL_law 1492 = .ok (.iconst 1, 1) := by decide +kernel
theorem dL_law_1493 : decode cL_law 1493 = .ok (.iadd, 1) := by decide +kernel
theorem dL_law_1494 : decode cL_law 1494 = .ok (.iaload, 1) := by decide +kernel
theorem dL_law_1495 : decode cL_law 1495 = .ok (.invokevirtual 174, 3) := by decide +kernel
theorem dL_law_1498 : decode cL_law 1498 = .ok (.aload_n 2, 1) := by decide +kernel
theorem dL_law_1499 : decode cL_law 1499 = .ok (.aload_n 0, 1) := by decide +kernel
theorem dL_law_1500 : decode cL_law 1500 = .ok (.iload 4, 2) := by decide +kernel
theorem dL_law_1502 : decode cL_law 1502 = .ok (.iconst 1, 1) := by decide +kernel
theorem dL_law_1503 : decode cL_law 1503 = .ok (.iadd, 1) := by decide +kernel
theorem dL_law_1504 : decode cL_law 1504 = .ok (.iaload, 1) := by decide +kernel
theorem dL_law_1505 : decode cL_law 1505 = .ok (.invokevirtual 177, 3) := by decide +kernel
theorem dL_law_1508 : decode cL_law 1508 = .ok (.if_icmp .eq 317, 3) := by decide +kernel
theorem dL_law_1513 : decode cL_law 1513 = .ok (.aload_n 1, 1) := by decide +kernel
theorem dL_law_1514 : decode cL_law 1514 = .ok (.aload_n 0, 1) := by decide +kernel
theorem dL_law_1515 : decode cL_law 1515 = .ok (.iload 4, 2) := by decide +kernel
theorem dL_law_1517 : decode cL_law 1517 = .ok (.iconst 1, 1) := by decide +kernel
theorem dL_law_1518 : decode cL_law 1518 = .ok (.iadd, 1) := by decide +kernel
theorem dL_law_1519 : decode cL_law 1519 = .ok (.iaload, 1) := by decide +kernel
theorem dL_law_1520 : decode cL_law 1520 = .ok (.aload_n 0, 1) := by decide +kernel
theorem dL_law_1521 : decode cL_law 1521 = .ok (.iload 4, 2) := by decide +kernel
theorem dL_law_1523 : decode cL_law 1523 = .ok (.iconst 2, 1) := by decide +kernel
theorem dL_law_1524 : decode cL_law 1524 = .ok (.iadd, 1) := by decide +kernel
theorem dL_law_1525 : decode cL_law 1525 = .ok (.iaload, 1) := by decide +kernel
theorem dL_law_1526 : decode cL_law 1526 = .ok (.invokevirtual 178, 3) := by decide +kernel
theorem dL_law_1529 : decode cL_law 1529 = .ok (.aload_n 2, 1) := by decide +kernel
theorem dL_law_1530 : decode cL_law 1530 = .ok (.aload_n 0, 1) := by decide +kernel
theorem dL_law_1531 : decode cL_law 1531 = .ok (.iload 4, 2) := by decide +kernel
theorem dL_law_1533 : decode cL_law 1533 = .ok (.iconst 1, 1) := by decide +kernel
theorem dL_law_1534 : decode cL_law 1534 = .ok (.iadd, 1) := by decide +kernel
theorem dL_law_1535 : decode cL_law 1535 = .ok (.iaload, 1) := by decide +kernel
theorem dL_law_1536 : decode cL_law 1536 = .ok (.aload_n 0, 1) := by decide +kernel
theorem dL_law_1537 : decode cL_law 1537 = .ok (.iload 4, 2) := by decide +kernel
theorem dL_law_1539 : decode cL_law 1539 = .ok (.iconst 2, 1) := by decide +kernel
theorem dL_law_1540 : decode cL_law 1540 = .ok (.iadd, 1) := by decide +kernel
theorem dL_law_1541 : decode cL_law 1541 = .ok (.iaload, 1) := by decide +kernel
theorem dL_law_1542 : decode cL_law 1542 = .ok (.invokevirtual 181, 3) := by decide +kernel
theorem dL_law_1545 : decode cL_law 1545 = .ok (.if_icmp .eq 280, 3) := by decide +kernel
theorem dL_law_1550 : decode cL_law 1550 = .ok (.aload_n 1, 1) := by decide +kernel
theorem dL_law_1551 : decode cL_law 1551 = .ok (.aload_n 0, 1) := by decide +kernel
theorem dL_law_1552 : decode cL_law 1552 = .ok (.iload 4, 2) := by decide +kernel
theorem dL_law_1554 : decode cL_law 1554 = .ok (.iconst 1, 1) := by decide +kernel
theorem dL_law_1555 : decode cL_law 1555 = .ok (.iadd, 1) := by decide +kernel
theorem dL_law_1556 : decode cL_law 1556 = .ok (.iaload, 1) := by decide +kernel
theorem dL_law_1557 : decode cL_law 1557 = .ok (.aload_n 0, 1) := by decide +kernel
theorem dL_law_1558 : decode cL_law 1558 = .ok (.iload 4, 2) := by decide +kernel
theorem dL_law_1560 : decode cL_law 1560 = .ok (.iconst 2, 1) := by decide +kernel
theorem dL_law_1561 : decode cL_law 1561 = .ok (.iadd, 1) := by decide +kernel
theorem dL_law_1562 : decode cL_law 1562 = .ok (.iaload, 1) := by decide +kernel
theorem dL_law_1563 : decode cL_law 1563 = .ok (.aload_n 0, 1) := by decide +kernel
theorem dL_law_1564 : decode cL_law 1564 = .ok (.iload 4, 2) := by decide +kernel
theorem dL_law_1566 : decode cL_law 1566 = .ok (.iconst 3, 1) := by decide +kernel
theorem dL_law_1567 : decode cL_law 1567 = .ok (.iadd, 1) := by decide +kernel
theorem dL_law_1568 : decode cL_law 1568 = .ok (.iaload, 1) := by decide +kernel
theorem dL_law_1569 : decode cL_law 1569 = .ok (.invokevirtual 182, 3) := by decide +kernel
theorem dL_law_1572 : decode cL_law 1572 = .ok (.aload_n 2, 1) := by decide +kernel
theorem dL_law_1573 : decode cL_law 1573 = .ok (.aload_n 0, 1) := by decide +kernel
theorem dL_law_1574 : decode cL_law 1574 = .ok (.iload 4, 2) := by decide +kernel
theorem dL_law_1576 : decode cL_law 1576 = .ok (.iconst 1, 1) := by decide +kernel
theorem dL_law_1577 : decode cL_law 1577 = .ok (.iadd, 1) := by decide +kernel
theorem dL_law_1578 : decode cL_law 1578 = .ok (.iaload, 1) := by decide +kernel
theorem dL_law_1579 : decode cL_law 1579 = .ok (.aload_n 0, 1) := by decide +kernel
theorem dL_law_1580 : decode cL_law 1580 = .ok (.iload 4, 2) := by decide +kernel
theorem dL_law_1582 : decode cL_law 1582 = .ok (.iconst 2, 1) := by decide +kernel
theorem dL_law_1583 : decode cL_law 1583 = .ok (.iadd, 1) := by decide +kernel
theorem dL_law_1584 : decode cL_law 1584 = .ok (.iaload, 1) := by decide +kernel
theorem dL_law_1585 : decode cL_law 1585 = .ok (.aload_n 0, 1) := by decide +kernel
theorem dL_law_1586 : decode cL_law 1586 = .ok (.iload 4, 2) := by decide +kernel
theorem dL_law_1588 : decode cL_law 1588 = .ok (.iconst 3, 1) := by decide +kernel
theorem dL_law_1589 : decode cL_law 1589 = .ok (.iadd, 1) := by decide +kernel
theorem dL_law_1590 : decode cL_law 1590 = .ok (.iaload, 1) := by decide +kernel
theorem dL_law_1591 : decode cL_law 1591 = .ok (.invokevirtual 185, 3) := by decide +kernel
theorem dL_law_1594 : decode cL_law 1594 = .ok (.if_icmp .eq 231, 3) := by decide +kernel
theorem dL_law_1599 : decode cL_law 1599 = .ok (.aload_n 1, 1) := by decide +kernel
theorem dL_law_1600 : decode cL_law 1600 = .ok (.aload_n 0, 1) := by decide +kernel
theorem dL_law_1601 : decode cL_law 1601 = .ok (.iload 4, 2) := by decide +kernel
theorem dL_law_1603 : decode cL_law 1603 = .ok (.iconst 1, 1) := by decide +kernel
theorem dL_law_1604 : decode cL_law 1604 = .ok (.iadd, 1) := by decide +kernel
theorem dL_law_1605 : decode cL_law 1605 = .ok (.iaload, 1) := by decide +kernel
theorem dL_law_1606 : decode cL_law 1606 = .ok (.invokevirtual 186, 3) := by decide +kernel
theorem dL_law_1609 : decode cL_law 1609 = .ok (.aload_n 2, 1) := by decide +kernel
theorem dL_law_1610 : decode cL_law 1610 = .ok (.aload_n 0, 1) := by decide +kernel
theorem dL_law_1611 : decode cL_law 1611 = .ok (.iload 4, 2) := by decide +kernel
theorem dL_law_1613 : decode cL_law 1613 = .ok (.iconst 1, 1) := by decide +kernel
theorem dL_law_1614 : decode cL_law 1614 = .ok (.iadd, 1) := by decide +kernel
theorem dL_law_1615 : decode cL_law 1615 = .ok (.iaload, 1) := by decide +kernel
theorem dL_law_1616 : decode cL_law 1616 = .ok (.invokevirtual 189, 3) := by decide +kernel
theorem dL_law_1619 : decode cL_law 1619 = .ok (.if_icmp .eq 206, 3) := by decide +kernel
theorem dL_law_1624 : decode cL_law 1624 = .ok (.aload_n 1, 1) := by decide +kernel
theorem dL_law_1625 : decode cL_law 1625 = .ok (.aload_n 0, 1) := by decide +kernel
theorem dL_law_1626 : decode cL_law 1626 = .ok (.iload 4, 2) := by decide +kernel
theorem dL_law_1628 : decode cL_law 1628 = .ok (.iconst 1, 1) := by decide +kernel
theorem dL_law_1629 : decode cL_law 1629 = .ok (.iadd, 1) := by decide +kernel
theorem dL_law_1630 : decode cL_law 1630 = .ok (.iaload, 1) := by decide +kernel
theorem dL_law_1631 : decode cL_law 1631 = .ok (.invokevirtual 190, 3) := by decide +kernel
theorem dL_law_1634 : decode cL_law 1634 = .ok (.aload_n 2, 1) := by decide +kernel
theorem dL_law_1635 : decode cL_law 1635 = .ok (.aload_n 0, 1) := by decide +kernel
theorem dL_law_1636 : decode cL_law 1636 = .ok (.iload 4, 2) := by decide +kernel
theorem dL_law_1638 : decode cL_law 1638 = .ok (.iconst 1, 1) := by decide +kernel
theorem dL_law_1639 : decode cL_law 1639 = .ok (.iadd, 1) := by decide +kernel
theorem dL_law_1640 : decode cL_law 1640 = .ok (.iaload, 1) := by decide +kernel
theorem dL_law_1641 : decode cL_law 1641 = .ok (.invokevirtual 193, 3) := by decide +kernel
theorem dL_law_1644 : decode cL_law 1644 = .ok (.if_icmp .eq 181, 3) := by decide +kernel
theorem dL_law_1649 : decode cL_law 1649 = .ok (.aload_n 1, 1) := by decide +kernel
theorem dL_law_1650 : decode cL_law 1650 = .ok (.aload_n 0, 1) := by decide +kernel
theorem dL_law_1651 : decode cL_law 1651 = .ok (.iload 4, 2) := by decide +kernel
theorem dL_law_1653 : decode cL_law 1653 = .ok (.iconst 1, 1) := by decide +kernel
theorem dL_law_1654 : decode cL_law 1654 = .ok (.iadd, 1) := by decide +kernel
theorem dL_law_1655 : decode cL_law 1655 = .ok (.iaload, 1) := by decide +kernel
theorem dL_law_1656 : decode cL_law 1656 = .ok (.invokevirtual 194, 3) := by decide +kernel
theorem dL_law_1659 : decode cL_law 1659 = .ok (.aload_n 2, 1) := by decide +kernel
theorem dL_law_1660 : decode cL_law 1660 = .ok (.aload_n 0, 1) := by decide +kernel
theorem dL_law_1661 : decode cL_law 1661 = .ok (.iload 4, 2) := by decide +kernel
theorem dL_law_1663 : decode cL_law 1663 = .ok (.iconst 1, 1) := by decide +kernel
theorem dL_law_1664 : decode cL_law 1664 = .ok (.iadd, 1) := by decide +kernel
theorem dL_law_1665 : decode cL_law 1665 = .ok (.iaload, 1) := by decide +kernel
theorem dL_law_1666 : decode cL_law 1666 = .ok (.invokevirtual 197, 3) := by decide +kernel
theorem dL_law_1669 : decode cL_law 1669 = .ok (.if_icmp .eq 156, 3) := by decide +kernel
theorem dL_law_1674 : decode cL_law 1674 = .ok (.aload_n 1, 1) := by decide +kernel
theorem dL_law_1675 : decode cL_law 1675 = .ok (.aload_n 0, 1) := by decide +kernel
theorem dL_law_1676 : decode cL_law 1676 = .ok (.iload 4, 2) := by decide +kernel
theorem dL_law_1678 : decode cL_law 1678 = .ok (.iconst 1, 1) := by decide +kernel
theorem dL_law_1679 : decode cL_law 1679 = .ok (.iadd, 1) := by decide +kernel
theorem dL_law_1680 : decode cL_law 1680 = .ok (.iaload, 1) := by decide +kernel
theorem dL_law_1681 : decode cL_law 1681 = .ok (.invokevirtual 198, 3) := by decide +kernel
theorem dL_law_1684 : decode cL_law 1684 = .ok (.aload_n 2, 1) := by decide +kernel
theorem dL_law_1685 : decode cL_law 1685 = .ok (.aload_n 0, 1) := by decide +kernel
theorem dL_law_1686 : decode cL_law 1686 = .ok (.iload 4, 2) := by decide +kernel
theorem dL_law_1688 : decode cL_law 1688 = .ok (.iconst 1, 1) := by decide +kernel
theorem dL_law_1689 : decode cL_law 1689 = .ok (.iadd, 1) := by decide +kernel
theorem dL_law_1690 : decode cL_law 1690 = .ok (.iaload, 1) := by decide +kernel
theorem dL_law_1691 : decode cL_law 1691 = .ok (.invokevirtual 201, 3) := by decide +kernel
theorem dL_law_1694 : decode cL_law 1694 = .ok (.if_icmp .eq 131, 3) := by decide +kernel
theorem dL_law_1699 : decode cL_law 1699 = .ok (.aload_n 1, 1) := by decide +kernel
theorem dL_law_1700 : decode cL_law 1700 = .ok (.aload_n 0, 1) := by decide +kernel
theorem dL_law_1701 : decode cL_law 1701 = .ok (.iload 4, 2) := by decide +kernel
theorem dL_law_1703 : decode cL_law 1703 = .ok (.iconst 1, 1) := by decide +kernel
theorem dL_law_1704 : decode cL_law 1704 = .ok (.iadd, 1) := by decide +kernel
theorem dL_law_1705 : decode cL_law 1705 = .ok (.iaload, 1) := by decide +kernel
theorem dL_law_1706 : decode cL_law 1706 = .ok (.invokevirtual 202, 3) := by decide +kernel
theorem dL_law_1709 : decode cL_law 1709 = .ok (.aload_n 2, 1) := by decide +kernel
theorem dL_law_1710 : decode cL_law 1710 = .ok (.aload_n 0, 1) := by decide +kernel
theorem dL_law_1711 : decode cL_law 1711 = .ok (.iload 4, 2) := by decide +kernel
theorem dL_law_1713 : decode cL_law 1713 = .ok (.iconst 1, 1) := by decide +kernel
theorem dL_law_1714 : decode cL_law 1714 = .ok (.iadd, 1) := by decide +kernel
theorem dL_law_1715 : decode cL_law 1715 = .ok (.iaload, 1) := by decide +kernel
theorem dL_law_1716 : decode cL_law 1716 = .ok (.invokevirtual 205, 3) := by decide +kernel
theorem dL_law_1719 : decode cL_law 1719 = .ok (.if_icmp .eq 106, 3) := by decide +kernel
theorem dL_law_1724 : decode cL_law 1724 = .ok (.aload_n 1, 1) := by decide +kernel
theorem dL_law_1725 : decode cL_law 1725 = .ok (.aload_n 0, 1) := by decide +kernel
theorem dL_law_1726 : decode cL_law 1726 = .ok (.iload 4, 2) := by decide +kernel
theorem dL_law_1728 : decode cL_law 1728 = .ok (.iconst 1, 1) := by decide +kernel
theorem dL_law_1729 : decode cL_law 1729 = .ok (.iadd, 1) := by decide +kernel
theorem dL_law_1730 : decode cL_law 1730 = .ok (.iaload, 1) := by decide +kernel
theorem dL_law_1731 : decode cL_law 1731 = .ok (.invokevirtual 206, 3) := by decide +kernel
theorem dL_law_1734 : decode cL_law 1734 = .ok (.aload_n 2, 1) := by decide +kernel
theorem dL_law_1735 : decode cL_law 1735 = .ok (.aload_n 0, 1) := by decide +kernel
theorem dL_law_1736 : decode cL_law 1736 = .ok (.iload 4, 2) := by decide +kernel
theorem dL_law_1738 : decode cL_law 1738 = .ok (.iconst 1, 1) := by decide +kernel
theorem dL_law_1739 : decode cL_law 1739 = .ok (.iadd, 1) := by decide +kernel
theorem dL_law_1740 : decode cL_law 1740 = .ok (.iaload, 1) := by decide +kernel
theorem dL_law_1741 : decode cL_law 1741 = .ok (.invokevirtual 209, 3) := by decide +kernel
theorem dL_law_1744 : decode cL_law 1744 = .ok (.if_icmp .eq 81, 3) := by decide +kernel
theorem dL_law_1749 : decode cL_law 1749 = .ok (.aload_n 1, 1) := by decide +kernel
theorem dL_law_1750 : decode cL_law 1750 = .ok (.aload_n 0, 1) := by decide +kernel
theorem dL_law_1751 : decode cL_law 1751 = .ok (.iload 4, 2) := by decide +kernel
theorem dL_law_1753 : decode cL_law 1753 = .ok (.iconst 1, 1) := by decide +kernel
theorem dL_law_1754 : decode cL_law 1754 = .ok (.iadd, 1) := by decide +kernel
theorem dL_law_1755 : decode cL_law 1755 = .ok (.iaload, 1) := by decide +kernel
theorem dL_law_1756 : decode cL_law 1756 = .ok (.invokevirtual 210, 3) := by decide +kernel
theorem dL_law_1759 : decode cL_law 1759 = .ok (.aload_n 2, 1) := by decide +kernel
theorem dL_law_1760 : decode cL_law 1760 = .ok (.aload_n 0, 1) := by decide +kernel
theorem dL_law_1761 : decode cL_law 1761 = .ok (.iload 4, 2) := by decide +kernel
theorem dL_law_1763 : decode cL_law 1763 = .ok (.iconst 1, 1) := by decide +kernel
theorem dL_law_1764 : decode cL_law 1764 = .ok (.iadd, 1) := by decide +kernel
theorem dL_law_1765 : decode cL_law 1765 = .ok (.iaload, 1) := by decide +kernel
theorem dL_law_1766 : decode cL_law 1766 = .ok (.invokevirtual 213, 3) := by decide +kernel
theorem dL_law_1769 : decode cL_law 1769 = .ok (.if_icmp .eq 56, 3) := by decide +kernel
theorem dL_law_1774 : decode cL_law 1774 = .ok (.aload_n 1, 1) := by decide +kernel
theorem dL_law_1775 : decode cL_law 1775 = .ok (.invokevirtual 214, 3) := by decide +kernel
theorem dL_law_1778 : decode cL_law 1778 = .ok (.aload_n 2, 1) := by decide +kernel
theorem dL_law_1779 : decode cL_law 1779 = .ok (.invokevirtual 217, 3) := by decide +kernel
theorem dL_law_1782 : decode cL_law 1782 = .ok (.if_icmp .eq 43, 3) := by decide +kernel
theorem dL_law_1787 : decode cL_law 1787 = .ok (.aload_n 1, 1) := by decide +kernel
theorem dL_law_1788 : decode cL_law 1788 = .ok (.invokevirtual 218, 3) := by decide +kernel
theorem dL_law_1791 : decode cL_law 1791 = .ok (.aload_n 2, 1) := by decide +kernel
theorem dL_law_1792 : decode cL_law 1792 = .ok (.invokevirtual 221, 3) := by decide +kernel
theorem dL_law_1795 : decode cL_law 1795 = .ok (.if_icmp .eq 30, 3) := by decide +kernel
theorem dL_law_1800 : decode cL_law 1800 = .ok (.aload_n 1, 1) := by decide +kernel
theorem dL_law_1801 : decode cL_law 1801 = .ok (.aload_n 0, 1) := by decide +kernel
theorem dL_law_1802 : decode cL_law 1802 = .ok (.iload 4, 2) := by decide +kernel
theorem dL_law_1804 : decode cL_law 1804 = .ok (.iconst 1, 1) := by decide +kernel
theorem dL_law_1805 : decode cL_law 1805 = .ok (.iadd, 1) := by decide +kernel
theorem dL_law_1806 : decode cL_law 1806 = .ok (.iaload, 1) := by decide +kernel
theorem dL_law_1807 : decode cL_law 1807 = .ok (.invokevirtual 222, 3) := by decide +kernel
theorem dL_law_1810 : decode cL_law 1810 = .ok (.aload_n 2, 1) := by decide +kernel
theorem dL_law_1811 : decode cL_law 1811 = .ok (.aload_n 0, 1) := by decide +kernel
theorem dL_law_1812 : decode cL_law 1812 = .ok (.iload 4, 2) := by decide +kernel
theorem dL_law_1814 : decode cL_law 1814 = .ok (.iconst 1, 1) := by decide +kernel
theorem dL_law_1815 : decode cL_law 1815 = .ok (.iadd, 1) := by decide +kernel
theorem dL_law_1816 : decode cL_law 1816 = .ok (.iaload, 1) := by decide +kernel
theorem dL_law_1817 : decode cL_law 1817 = .ok (.invokevirtual 225, 3) := by decide +kernel
theorem dL_law_1820 : decode cL_law 1820 = .ok (.if_icmp .eq 5, 3) := by decide +kernel
theorem dL_law_1825 : decode cL_law 1825 = .ok (.iinc 4 7, 3) := by decide +kernel
theorem dL_law_1828 : decode cL_law 1828 = .ok (.goto (-1805), 3) := by decide +kernel
theorem dL_law_1831 : decode cL_law 1831 = .ok (.iconst 1, 1) := by decide +kernel
theorem dL_law_1832 : decode cL_law 1832 = .ok (.ireturn, 1) := by decide +kernel
