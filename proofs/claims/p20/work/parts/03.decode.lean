theorem dX1_firstPurse_0 : decode cX1_firstPurse 0 = .ok (.aload_n 0, 1) := by decide +kernel
theorem dX1_firstPurse_1 : decode cX1_firstPurse 1 = .ok (.getfield 9, 3) := by decide +kernel
theorem dX1_firstPurse_4 : decode cX1_firstPurse 4 = .ok (.iconst 0, 1) := by decide +kernel
theorem dX1_firstPurse_5 : decode cX1_firstPurse 5 = .ok (.iaload, 1) := by decide +kernel
theorem dX1_firstPurse_6 : decode cX1_firstPurse 6 = .ok (.ireturn, 1) := by decide +kernel
theorem dX1_wantOfFace_0 : decode cX1_wantOfFace 0 = .ok (.aload_n 0, 1) := by decide +kernel
theorem dX1_wantOfFace_1 : decode cX1_wantOfFace 1 = .ok (.getfield 9, 3) := by decide +kernel
theorem dX1_wantOfFace_4 : decode cX1_wantOfFace 4 = .ok (.iconst 1, 1) := by decide +kernel
theorem dX1_wantOfFace_5 : decode cX1_wantOfFace 5 = .ok (.iaload, 1) := by decide +kernel
theorem dX1_wantOfFace_6 : decode cX1_wantOfFace 6 = .ok (.ireturn, 1) := by decide +kernel
theorem dX1_wantOfDowry_0 : decode cX1_wantOfDowry 0 = .ok (.aload_n 0, 1) := by decide +kernel
theorem dX1_wantOfDowry_1 : decode cX1_wantOfDowry 1 = .ok (.getfield 9, 3) := by decide +kernel
theorem dX1_wantOfDowry_4 : decode cX1_wantOfDowry 4 = .ok (.iconst 2, 1) := by decide +kernel
theorem dX1_wantOfDowry_5 : decode cX1_wantOfDowry 5 = .ok (.iaload, 1) := by decide +kernel
theorem dX1_wantOfDowry_6 : decode cX1_wantOfDowry 6 = .ok (.ireturn, 1) := by decide +kernel
theorem dX1_ofBride_0 : decode cX1_ofBride 0 = .ok (.aload_n 0, 1) := by decide +kernel
theorem dX1_ofBride_1 : decode cX1_ofBride 1 = .ok (.getfield 15, 3) := by decide +kernel
theorem dX1_ofBride_4 : decode cX1_ofBride 4 = .ok (.iload_n 1, 1) := by decide +kernel
theorem dX1_ofBride_5 : decode cX1_ofBride 5 = .ok (.iconst 4, 1) := by decide +kernel
theorem dX1_ofBride_6 : decode cX1_ofBride 6 = .ok (.imul, 1) := by decide +kernel
theorem dX1_ofBride_7 : decode cX1_ofBride 7 = .ok (.iload_n 2, 1) := by decide +kernel
theorem dX1_ofBride_8 : decode cX1_ofBride 8 = .ok (.iadd, 1) := by decide +kernel
theorem dX1_ofBride_9 : decode cX1_ofBride 9 = .ok (.iaload, 1) := by decide +kernel
theorem dX1_ofBride_10 : decode cX1_ofBride 10 = .ok (.ireturn, 1) := by decide +kernel
theorem dX1_ofPainter_0 : decode cX1_ofPainter 0 = .ok (.aload_n 0, 1) := by decide +kernel
theorem dX1_ofPainter_1 : decode cX1_ofPainter 1 = .ok (.getfield 18, 3) := by decide +kernel
theorem dX1_ofPainter_4 : decode cX1_ofPainter 4 = .ok (.iload_n 1, 1) := by decide +kernel
theorem dX1_ofPainter_5 : decode cX1_ofPainter 5 = .ok (.iconst 4, 1) := by decide +kernel
theorem dX1_ofPainter_6 : decode cX1_ofPainter 6 = .ok (.imul, 1) := by decide +kernel
theorem dX1_ofPainter_7 : decode cX1_ofPainter 7 = .ok (.iload_n 2, 1) := by decide +kernel
theorem dX1_ofPainter_8 : decode cX1_ofPainter 8 = .ok (.iadd, 1) := by decide +kernel
theorem dX1_ofPainter_9 : decode cX1_ofPainter 9 = .ok (.iaload, 1) := by decide +kernel
theorem dX1_ofPainter_10 : decode cX1_ofPainter 10 = .ok (.ireturn, 1) := by decide +kernel
theorem dX1_faceOf_0 : decode cX1_faceOf 0 = .ok (.aload_n 0, 1) := by decide +kernel
theorem dX1_faceOf_1 : decode cX1_faceOf 1 = .ok (.iload_n 1, 1) := by decide +kernel
theorem dX1_faceOf_2 : decode cX1_faceOf 2 = .ok (.iconst 0, 1) := by decide +kernel
theorem dX1_faceOf_3 : decode cX1_faceOf 3 = .ok (.invokevirtual 34, 3) := by decide +kernel
theorem dX1_faceOf_6 : decode cX1_faceOf 6 = .ok (.ireturn, 1) := by decide +kernel
theorem dX1_dowryOf_0 : decode cX1_dowryOf 0 = .ok (.aload_n 0, 1) := by decide +kernel
theorem dX1_dowryOf_1 : decode cX1_dowryOf 1 = .ok (.iload_n 1, 1) := by decide +kernel
theorem dX1_dowryOf_2 : decode cX1_dowryOf 2 = .ok (.iconst 1, 1) := by decide +kernel
theorem dX1_dowryOf_3 : decode cX1_dowryOf 3 = .ok (.invokevirtual 34, 3) := by decide +kernel
theorem dX1_dowryOf_6 : decode cX1_dowryOf 6 = .ok (.ireturn, 1) := by decide +kernel
theorem dX1_wartsOf_0 : decode cX1_wartsOf 0 = .ok (.aload_n 0, 1) := by decide +kernel
theorem dX1_wartsOf_1 : decode cX1_wartsOf 1 = .ok (.iload_n 1, 1) := by decide +kernel
theorem dX1_wartsOf_2 : decode cX1_wartsOf 2 = .ok (.iconst 2, 1) := by decide +kernel
theorem dX1_wartsOf_3 : decode cX1_wartsOf 3 = .ok (.invokevirtual 34, 3) := by decide +kernel
theorem dX1_wartsOf_6 : decode cX1_wartsOf 6 = .ok (.ireturn, 1) := by decide +kernel
theorem dX1_skillOf_0 : decode cX1_skillOf 0 = .ok (.aload_n 0, 1) := by decide +kernel
theorem dX1_skillOf_1 : decode cX1_skillOf 1 = .ok (.iload_n 1, 1) := by decide +kernel
theorem dX1_skillOf_2 : decode cX1_skillOf 2 = .ok (.iconst 0, 1) := by decide +kernel
theorem dX1_skillOf_3 : decode cX1_skillOf 3 = .ok (.invokevirtual 38, 3) := by decide +kernel
theorem dX1_skillOf_6 : decode cX1_skillOf 6 = .ok (.ireturn, 1) := by decide +kernel
theorem dX1_feeOf_0 : decode cX1_feeOf 0 = .ok (.aload_n 0, 1) := by decide +kernel
theorem dX1_feeOf_1 : decode cX1_feeOf 1 = .ok (.iload_n 1, 1) := by decide +kernel
theorem dX1_feeOf_2 : decode cX1_feeOf 2 = .ok (.iconst 1, 1) := by decide +kernel
theorem dX1_feeOf_3 : decode cX1_feeOf 3 = .ok (.invokevirtual 38, 3) := by decide +kernel
theorem dX1_feeOf_6 : decode cX1_feeOf 6 = .ok (.ireturn, 1) := by decide +kernel
theorem dX1_kindOf_0 : decode cX1_kindOf 0 = .ok (.aload_n 0, 1) := by decide +kernel
theorem dX1_kindOf_1 : decode cX1_kindOf 1 = .ok (.iload_n 1, 1) := by decide +kernel
theorem dX1_kindOf_2 : decode cX1_kindOf 2 = .ok (.iconst 3, 1) := by decide +kernel
theorem dX1_kindOf_3 : decode cX1_kindOf 3 = .ok (.invokevirtual 38, 3) := by decide +kernel
theorem dX1_kindOf_6 : decode cX1_kindOf 6 = .ok (.ireturn, 1) := by decide +kernel
theorem dX1_worthWith_0 : decode cX1_worthWith 0 = .ok (.iload_n 2, 1) := by decide +kernel
theorem dX1_worthWith_1 : decode cX1_worthWith 1 = .ok (.aload_n 0, 1) := by decide +kernel
theorem dX1_worthWith_2 : decode cX1_worthWith 2 = .ok (.invokevirtual 41, 3) := by decide +kernel
theorem dX1_worthWith_5 : decode cX1_worthWith 5 = .ok (.imul, 1) := by decide +kernel
theorem dX1_worthWith_6 : decode cX1_worthWith 6 = .ok (.aload_n 0, 1) := by decide +kernel
theorem dX1_worthWith_7 : decode cX1_worthWith 7 = .ok (.iload_n 1, 1) := by decide +kernel
theorem dX1_worthWith_8 : decode cX1_worthWith 8 = .ok (.invokevirtual 45, 3) := by decide +kernel
theorem dX1_worthWith_11 : decode cX1_worthWith 11 = .ok (.bipush 10, 2) := by decide +kernel
theorem dX1_worthWith_13 : decode cX1_worthWith 13 = .ok (.idiv, 1) := by decide +kernel
theorem dX1_worthWith_14 : decode cX1_worthWith 14 = .ok (.aload_n 0, 1) := by decide +kernel
theorem dX1_worthWith_15 : decode cX1_worthWith 15 = .ok (.invokevirtual 49, 3) := by decide +kernel
theorem dX1_worthWith_18 : decode cX1_worthWith 18 = .ok (.imul, 1) := by decide +kernel
theorem dX1_worthWith_19 : decode cX1_worthWith 19 = .ok (.iadd, 1) := by decide +kernel
theorem dX1_worthWith_20 : decode cX1_worthWith 20 = .ok (.ireturn, 1) := by decide +kernel
theorem dX1_trueWorth_0 : decode cX1_trueWorth 0 = .ok (.aload_n 0, 1) := by decide +kernel
theorem dX1_trueWorth_1 : decode cX1_trueWorth 1 = .ok (.iload_n 1, 1) := by decide +kernel
theorem dX1_trueWorth_2 : decode cX1_trueWorth 2 = .ok (.aload_n 0, 1) := by decide +kernel
theorem dX1_trueWorth_3 : decode cX1_trueWorth 3 = .ok (.iload_n 1, 1) := by decide +kernel
theorem dX1_trueWorth_4 : decode cX1_trueWorth 4 = .ok (.invokevirtual 52, 3) := by decide +kernel
theorem dX1_trueWorth_7 : decode cX1_trueWorth 7 = .ok (.invokevirtual 55, 3) := by decide +kernel
theorem dX1_trueWorth_10 : decode cX1_trueWorth 10 = .ok (.ireturn, 1) := by decide +kernel
theorem dX1_topBride_0 : decode cX1_topBride 0 = .ok (.iconst 0, 1) := by decide +kernel
theorem dX1_topBride_1 : decode cX1_topBride 1 = .ok (.istore_n 2, 1) := by decide +kernel
theorem dX1_topBride_2 : decode cX1_topBride 2 = .ok (.iconst 1, 1) := by decide +kernel
theorem dX1_topBride_3 : decode cX1_topBride 3 = .ok (.istore_n 3, 1) := by decide +kernel
theorem dX1_topBride_4 : decode cX1_topBride 4 = .ok (.iload_n 3, 1) := by decide +kernel
theorem dX1_topBride_5 : decode cX1_topBride 5 = .ok (.aload_n 0, 1) := by decide +kernel
theorem dX1_topBride_6 : decode cX1_topBride 6 = .ok (.getfield 21, 3) := by decide +kernel
theorem dX1_topBride_9 : decode cX1_topBride 9 = .ok (.if_icmp .ge 26, 3) := by decide +kernel
theorem dX1_topBride_12 : decode cX1_topBride 12 = .ok (.aload_n 0, 1) := by decide +kernel
theorem dX1_topBride_13 : decode cX1_topBride 13 = .ok (.iload_n 3, 1) := by decide +kernel
theorem dX1_topBride_14 : decode cX1_topBride 14 = .ok (.iload_n 1, 1) := by decide +kernel
theorem dX1_topBride_15 : decode cX1_topBride 15 = .ok (.invokevirtual 34, 3) := by decide +kernel
theorem dX1_topBride_18 : decode cX1_topBride 18 = .ok (.aload_n 0, 1) := by decide +kernel
theorem dX1_topBride_19 : decode cX1_topBride 19 = .ok (.iload_n 2, 1) := by decide +kernel
theorem dX1_topBride_20 : decode cX1_topBride 20 = .ok (.iload_n 1, 1) := by decide +kernel
theorem dX1_topBride_21 : decode cX1_topBride 21 = .ok (.invokevirtual 34, 3) := by decide +kernel
theorem dX1_topBride_24 : decode cX1_topBride 24 = .ok (.if_icmp .le 5, 3) := by decide +kernel
theorem dX1_topBride_27 : decode cX1_topBride 27 = .ok (.iload_n 3, 1) := by decide +kernel
theorem dX1_topBride_28 : decode cX1_topBride 28 = .ok (.istore_n 2, 1) := by decide +kernel
theorem dX1_topBride_29 : decode cX1_topBride 29 = .ok (.iinc 3 1, 3) := by decide +kernel
theorem dX1_topBride_32 : decode cX1_topBride 32 = .ok (.goto (-28), 3) := by decide +kernel
theorem dX1_topBride_35 : decode cX1_topBride 35 = .ok (.iload_n 2, 1) := by decide +kernel
theorem dX1_topBride_36 : decode cX1_topBride 36 = .ok (.ireturn, 1) := by decide +kernel
theorem dX1_cheapPainter_0 : decode cX1_cheapPainter 0 = .ok (.iconst 0, 1) := by decide +kernel
theorem dX1_cheapPainter_1 : decode cX1_cheapPainter 1 = .ok (.istore_n 1, 1) := by decide +kernel
theorem dX1_cheapPainter_2 : decode cX1_cheapPainter 2 = .ok (.iconst 1, 1) := by decide +kernel
theorem dX1_cheapPainter_3 : decode cX1_cheapPainter 3 = .ok (.istore_n 2, 1) := by decide +kernel
theorem dX1_cheapPainter_4 : decode cX1_cheapPainter 4 = .ok (.iload_n 2, 1) := by decide +kernel
theorem dX1_cheapPainter_5 : decode cX1_cheapPainter 5 = .ok (.aload_n 0, 1) := by decide +kernel
theorem dX1_cheapPainter_6 : decode cX1_cheapPainter 6 = .ok (.getfield 25, 3) := by decide +kernel
theorem dX1_cheapPainter_9 : decode cX1_cheapPainter 9 = .ok (.if_icmp .ge 24, 3) := by decide +kernel
theorem dX1_cheapPainter_12 : decode cX1_cheapPainter 12 = .ok (.aload_n 0, 1) := by decide +kernel
theorem dX1_cheapPainter_13 : decode cX1_cheapPainter 13 = .ok (.iload_n 2, 1) := by decide +kernel
theorem dX1_cheapPainter_14 : decode cX1_cheapPainter 14 = .ok (.invokevirtual 58, 3) := by decide +kernel
theorem dX1_cheapPainter_17 : decode cX1_cheapPainter 17 = .ok (.aload_n 0, 1) := by decide +kernel
theorem dX1_cheapPainter_18 : decode cX1_cheapPainter 18 = .ok (.iload_n 1, 1) := by decide +kernel
theorem dX1_cheapPainter_19 : decode cX1_cheapPainter 19 = .ok (.invokevirtual 58, 3) := by decide +kernel
theorem dX1_cheapPainter_22 : decode cX1_cheapPainter 22 = .ok (.if_icmp .ge 5, 3) := by decide +kernel
theorem dX1_cheapPainter_25 : decode cX1_cheapPainter 25 = .ok (.iload_n 2, 1) := by decide +kernel
theorem dX1_cheapPainter_26 : decode cX1_cheapPainter 26 = .ok (.istore_n 1, 1) := by decide +kernel
theorem dX1_cheapPainter_27 : decode cX1_cheapPainter 27 = .ok (.iinc 2 1, 3) := by decide +kernel
theorem dX1_cheapPainter_30 : decode cX1_cheapPainter 30 = .ok (.goto (-26), 3) := by decide +kernel
theorem dX1_cheapPainter_33 : decode cX1_cheapPainter 33 = .ok (.iload_n 1, 1) := by decide +kernel
theorem dX1_cheapPainter_34 : decode cX1_cheapPainter 34 = .ok (.ireturn, 1) := by decide +kernel
theorem dX1_rankByFee_0 : decode cX1_rankByFee 0 = .ok (.iconst 0, 1) := by decide +kernel
theorem dX1_rankByFee_1 : decode cX1_rankByFee 1 = .ok (.istore_n 2, 1) := by decide +kernel
theorem dX1_rankByFee_2 : decode cX1_rankByFee 2 = .ok (.iconst 0, 1) := by decide +kernel
theorem dX1_rankByFee_3 : decode cX1_rankByFee 3 = .ok (.istore_n 3, 1) := by decide +kernel
theorem dX1_rankByFee_4 : decode cX1_rankByFee 4 = .ok (.iload_n 3, 1) := by decide +kernel
theorem dX1_rankByFee_5 : decode cX1_rankByFee 5 = .ok (.aload_n 0, 1) := by decide +kernel
theorem dX1_rankByFee_6 : decode cX1_rankByFee 6 = .ok (.getfield 25, 3) := by decide +kernel
theorem dX1_rankByFee_9 : decode cX1_rankByFee 9 = .ok (.if_icmp .ge 40, 3) := by decide +kernel
theorem dX1_rankByFee_12 : decode cX1_rankByFee 12 = .ok (.aload_n 0, 1) := by decide +kernel
theorem dX1_rankByFee_13 : decode cX1_rankByFee 13 = .ok (.iload_n 3, 1) := by decide +kernel
theorem dX1_rankByFee_14 : decode cX1_rankByFee 14 = .ok (.invokevirtual 58, 3) := by decide +kernel
theorem dX1_rankByFee_17 : decode cX1_rankByFee 17 = .ok (.aload_n 0, 1) := by decide +kernel
theorem dX1_rankByFee_18 : decode cX1_rankByFee 18 = .ok (.iload_n 1, 1) := by decide +kernel
theorem dX1_rankByFee_19 : decode cX1_rankByFee 19 = .ok (.invokevirtual 58, 3) := by decide +kernel
theorem dX1_rankByFee_22 : decode cX1_rankByFee 22 = .ok (.isub, 1) := by decide +kernel
theorem dX1_rankByFee_23 : decode cX1_rankByFee 23 = .ok (.istore 4, 2) := by decide +kernel
theorem dX1_rankByFee_25 : decode cX1_rankByFee 25 = .ok (.iload 4, 2) := by decide +kernel
theorem dX1_rankByFee_27 : decode cX1_rankByFee 27 = .ok (.ifCond .lt 13, 3) := by decide +kernel
theorem dX1_rankByFee_30 : decode cX1_rankByFee 30 = .ok (.iload 4, 2) := by decide +kernel
theorem dX1_rankByFee_32 : decode cX1_rankByFee 32 = .ok (.ifCond .ne 11, 3) := by decide +kernel
theorem dX1_rankByFee_35 : decode cX1_rankByFee 35 = .ok (.iload_n 3, 1) := by decide +kernel
theorem dX1_rankByFee_36 : decode cX1_rankByFee 36 = .ok (.iload_n 1, 1) := by decide +kernel
theorem dX1_rankByFee_37 : decode cX1_rankByFee 37 = .ok (.if_icmp .ge 6, 3) := by decide +kernel
theorem dX1_rankByFee_40 : decode cX1_rankByFee 40 = .ok (.iinc 2 1, 3) := by decide +kernel
theorem dX1_rankByFee_43 : decode cX1_rankByFee 43 = .ok (.iinc 3 1, 3) := by decide +kernel
theorem dX1_rankByFee_46 : decode cX1_rankByFee 46 = .ok (.goto (-42), 3) := by decide +kernel
theorem dX1_rankByFee_49 : decode cX1_rankByFee 49 = .ok (.iload_n 2, 1) := by decide +kernel
theorem dX1_rankByFee_50 : decode cX1_rankByFee 50 = .ok (.ireturn, 1) := by decide +kernel
