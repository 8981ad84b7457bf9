theorem dX0_keep_0 : decode cX0_keep 0 = .ok (.aload_n 1, 1) := by decide +kernel
theorem dX0_keep_1 : decode cX0_keep 1 = .ok (.aload_n 0, 1) := by decide +kernel
theorem dX0_keep_2 : decode cX0_keep 2 = .ok (.getfield 11, 3) := by decide +kernel
theorem dX0_keep_5 : decode cX0_keep 5 = .ok (.aload_n 0, 1) := by decide +kernel
theorem dX0_keep_6 : decode cX0_keep 6 = .ok (.getfield 17, 3) := by decide +kernel
theorem dX0_keep_9 : decode cX0_keep 9 = .ok (.bipush 17, 2) := by decide +kernel
theorem dX0_keep_11 : decode cX0_keep 11 = .ok (.imul, 1) := by decide +kernel
theorem dX0_keep_12 : decode cX0_keep 12 = .ok (.invokevirtual 21, 3) := by decide +kernel
theorem dX0_keep_15 : decode cX0_keep 15 = .ok (.aload_n 0, 1) := by decide +kernel
theorem dX0_keep_16 : decode cX0_keep 16 = .ok (.aload_n 0, 1) := by decide +kernel
theorem dX0_keep_17 : decode cX0_keep 17 = .ok (.getfield 17, 3) := by decide +kernel
theorem dX0_keep_20 : decode cX0_keep 20 = .ok (.iconst 1, 1) := by decide +kernel
theorem dX0_keep_21 : decode cX0_keep 21 = .ok (.iadd, 1) := by decide +kernel
theorem dX0_keep_22 : decode cX0_keep 22 = .ok (.bipush 40, 2) := by decide +kernel
theorem dX0_keep_24 : decode cX0_keep 24 = .ok (.irem, 1) := by decide +kernel
theorem dX0_keep_25 : decode cX0_keep 25 = .ok (.putfield 17, 3) := by decide +kernel
theorem dX0_keep_28 : decode cX0_keep 28 = .ok (.aload_n 0, 1) := by decide +kernel
theorem dX0_keep_29 : decode cX0_keep 29 = .ok (.bipush 40, 2) := by decide +kernel
theorem dX0_keep_31 : decode cX0_keep 31 = .ok (.aload_n 0, 1) := by decide +kernel
theorem dX0_keep_32 : decode cX0_keep 32 = .ok (.getfield 25, 3) := by decide +kernel
theorem dX0_keep_35 : decode cX0_keep 35 = .ok (.iconst 1, 1) := by decide +kernel
theorem dX0_keep_36 : decode cX0_keep 36 = .ok (.iadd, 1) := by decide +kernel
theorem dX0_keep_37 : decode cX0_keep 37 = .ok (.invokestatic 28, 3) := by decide +kernel
theorem dX0_keep_40 : decode cX0_keep 40 = .ok (.putfield 25, 3) := by decide +kernel
theorem dX0_keep_43 : decode cX0_keep 43 = .ok (.return_, 1) := by decide +kernel
theorem dX0_takeBack_0 : decode cX0_takeBack 0 = .ok (.aload_n 0, 1) := by decide +kernel
theorem dX0_takeBack_1 : decode cX0_takeBack 1 = .ok (.getfield 25, 3) := by decide +kernel
theorem dX0_takeBack_4 : decode cX0_takeBack 4 = .ok (.ifCond .ne 5, 3) := by decide +kernel
theorem dX0_takeBack_7 : decode cX0_takeBack 7 = .ok (.iconst 0, 1) := by decide +kernel
theorem dX0_takeBack_8 : decode cX0_takeBack 8 = .ok (.ireturn, 1) := by decide +kernel
theorem dX0_takeBack_9 : decode cX0_takeBack 9 = .ok (.aload_n 0, 1) := by decide +kernel
theorem dX0_takeBack_10 : decode cX0_takeBack 10 = .ok (.aload_n 0, 1) := by decide +kernel
theorem dX0_takeBack_11 : decode cX0_takeBack 11 = .ok (.getfield 17, 3) := by decide +kernel
theorem dX0_takeBack_14 : decode cX0_takeBack 14 = .ok (.bipush 40, 2) := by decide +kernel
theorem dX0_takeBack_16 : decode cX0_takeBack 16 = .ok (.iadd, 1) := by decide +kernel
theorem dX0_takeBack_17 : decode cX0_takeBack 17 = .ok (.iconst 1, 1) := by decide +kernel
theorem dX0_takeBack_18 : decode cX0_takeBack 18 = .ok (.isub, 1) := by decide +kernel
theorem dX0_takeBack_19 : decode cX0_takeBack 19 = .ok (.bipush 40, 2) := by decide +kernel
theorem dX0_takeBack_21 : decode cX0_takeBack 21 = .ok (.irem, 1) := by decide +kernel
theorem dX0_takeBack_22 : decode cX0_takeBack 22 = .ok (.putfield 17, 3) := by decide +kernel
theorem dX0_takeBack_25 : decode cX0_takeBack 25 = .ok (.aload_n 0, 1) := by decide +kernel
theorem dX0_takeBack_26 : decode cX0_takeBack 26 = .ok (.dup, 1) := by decide +kernel
theorem dX0_takeBack_27 : decode cX0_takeBack 27 = .ok (.getfield 25, 3) := by decide +kernel
theorem dX0_takeBack_30 : decode cX0_takeBack 30 = .ok (.iconst 1, 1) := by decide +kernel
theorem dX0_takeBack_31 : decode cX0_takeBack 31 = .ok (.isub, 1) := by decide +kernel
theorem dX0_takeBack_32 : decode cX0_takeBack 32 = .ok (.putfield 25, 3) := by decide +kernel
theorem dX0_takeBack_35 : decode cX0_takeBack 35 = .ok (.aload_n 1, 1) := by decide +kernel
theorem dX0_takeBack_36 : decode cX0_takeBack 36 = .ok (.aload_n 0, 1) := by decide +kernel
theorem dX0_takeBack_37 : decode cX0_takeBack 37 = .ok (.getfield 11, 3) := by decide +kernel
theorem dX0_takeBack_40 : decode cX0_takeBack 40 = .ok (.aload_n 0, 1) := by decide +kernel
theorem dX0_takeBack_41 : decode cX0_takeBack 41 = .ok (.getfield 17, 3) := by decide +kernel
theorem dX0_takeBack_44 : decode cX0_takeBack 44 = .ok (.bipush 17, 2) := by decide +kernel
theorem dX0_takeBack_46 : decode cX0_takeBack 46 = .ok (.imul, 1) := by decide +kernel
theorem dX0_takeBack_47 : decode cX0_takeBack 47 = .ok (.invokevirtual 34, 3) := by decide +kernel
theorem dX0_takeBack_50 : decode cX0_takeBack 50 = .ok (.iconst 1, 1) := by decide +kernel
theorem dX0_takeBack_51 : decode cX0_takeBack 51 = .ok (.ireturn, 1) := by decide +kernel
theorem dX0_forget_0 : decode cX0_forget 0 = .ok (.aload_n 0, 1) := by decide +kernel
theorem dX0_forget_1 : decode cX0_forget 1 = .ok (.iconst 0, 1) := by decide +kernel
theorem dX0_forget_2 : decode cX0_forget 2 = .ok (.putfield 25, 3) := by decide +kernel
theorem dX0_forget_5 : decode cX0_forget 5 = .ok (.return_, 1) := by decide +kernel
theorem dX1_firstPurse_0 : decode cX1_firstPurse 0 = .ok (.aload_n 0, 1) := by decide +kernel
theorem dX1_firstPurse_1 : decode cX1_firstPurse 1 = .ok (.getfield 9, 3) := by decide +kernel
theorem dX1_firstPurse_4 : decode cX1_firstPurse 4 = .ok (.iconst 0, 1) := by decide +kernel
theorem dX1_firstPurse_5 : decode cX1_firstPurse 5 = .ok (.iaload, 1) := by decide +kernel
theorem dX1_firstPurse_6 : decode cX1_firstPurse 6 = .ok (.ireturn, 1) := by decide +kernel
theorem dX1_wantOfFace_0 : decode cX1_wantOfFace 0 = .ok (.aload_n 0, 1) := by decide +kernel
theorem dX1_wantOfFace_1 : decode cX1_wantOfFace 1 = .ok (.getfield 9, 3) := by decide +kernel
theorem dX1_wantOfFace_4 : decode cX1_wantOfFace 4 = .ok (.iconst 1, 1) := by decide +kernel
theorem dX1_wantOfFace_5 : decode cX1_wantOfFace 5 = .ok (.iaload, 1) := by decide +kernel
theorem dX1_wantOfFace_6 : decode cX1_wantOfFace 6 = .ok (.ireturn, 1) := by decide +kernel
theorem dX1_wantOfDowry_0 : decode cX1_wantOfDowry 0 = .ok (.aload_n 0, 1) := by decide +kernel
theorem dX1_wantOfDowry_1 : decode cX1_wantOfDowry 1 = .ok (.getfield 9, 3) := by decide +kernel
theorem dX1_wantOfDowry_4 : decode cX1_wantOfDowry 4 = .ok (.iconst 2, 1) := by decide +kernel
theorem dX1_wantOfDowry_5 : decode cX1_wantOfDowry 5 = .ok (.iaload, 1) := by decide +kernel
theorem dX1_wantOfDowry_6 : decode cX1_wantOfDowry 6 = .ok (.ireturn, 1) := by decide +kernel
theorem dX1_ofBride_0 : decode cX1_ofBride 0 = .ok (.aload_n 0, 1) := by decide +kernel
theorem dX1_ofBride_1 : decode cX1_ofBride 1 = .ok (.getfield 15, 3) := by decide +kernel
theorem dX1_ofBride_4 : decode cX1_ofBride 4 = .ok (.iload_n 1, 1) := by decide +kernel
theorem dX1_ofBride_5 : decode cX1_ofBride 5 = .ok (.iconst 4, 1) := by decide +kernel
theorem dX1_ofBride_6 : decode cX1_ofBride 6 = .ok (.imul, 1) := by decide +kernel
theorem dX1_ofBride_7 : decode cX1_ofBride 7 = .ok (.iload_n 2, 1) := by decide +kernel
theorem dX1_ofBride_8 : decode cX1_ofBride 8 = .ok (.iadd, 1) := by decide +kernel
theorem dX1_ofBride_9 : decode cX1_ofBride 9 = .ok (.iaload, 1) := by decide +kernel
theorem dX1_ofBride_10 : decode cX1_ofBride 10 = .ok (.ireturn, 1) := by decide +kernel
theorem dX1_ofPainter_0 : decode cX1_ofPainter 0 = .ok (.aload_n 0, 1) := by decide +kernel
theorem dX1_ofPainter_1 : decode cX1_ofPainter 1 = .ok (.getfield 18, 3) := by decide +kernel
theorem dX1_ofPainter_4 : decode cX1_ofPainter 4 = .ok (.iload_n 1, 1) := by decide +kernel
theorem dX1_ofPainter_5 : decode cX1_ofPainter 5 = .ok (.iconst 4, 1) := by decide +kernel
theorem dX1_ofPainter_6 : decode cX1_ofPainter 6 = .ok (.imul, 1) := by decide +kernel
theorem dX1_ofPainter_7 : decode cX1_ofPainter 7 = .ok (.iload_n 2, 1) := by decide +kernel
theorem dX1_ofPainter_8 : decode cX1_ofPainter 8 = .ok (.iadd, 1) := by decide +kernel
theorem dX1_ofPainter_9 : decode cX1_ofPainter 9 = .ok (.iaload, 1) := by decide +kernel
theorem dX1_ofPainter_10 : decode cX1_ofPainter 10 = .ok (.ireturn, 1) := by decide +kernel
theorem dX1_faceOf_0 : decode cX1_faceOf 0 = .ok (.aload_n 0, 1) := by decide +kernel
theorem dX1_faceOf_1 : decode cX1_faceOf 1 = .ok (.iload_n 1, 1) := by decide +kernel
theorem dX1_faceOf_2 : decode cX1_faceOf 2 = .ok (.iconst 0, 1) := by decide +kernel
theorem dX1_faceOf_3 : decode cX1_faceOf 3 = .ok (.invokevirtual 34, 3) := by decide +kernel
theorem dX1_faceOf_6 : decode cX1_faceOf 6 = .ok (.ireturn, 1) := by decide +kernel
theorem dX1_dowryOf_0 : decode cX1_dowryOf 0 = .ok (.aload_n 0, 1) := by decide +kernel
theorem dX1_dowryOf_1 : decode cX1_dowryOf 1 = .ok (.iload_n 1, 1) := by decide +kernel
theorem dX1_dowryOf_2 : decode cX1_dowryOf 2 = .ok (.iconst 1, 1) := by decide +kernel
theorem dX1_dowryOf_3 : decode cX1_dowryOf 3 = .ok (.invokevirtual 34, 3) := by decide +kernel
theorem dX1_dowryOf_6 : decode cX1_dowryOf 6 = .ok (.ireturn, 1) := by decide +kernel
theorem dX1_wartsOf_0 : decode cX1_wartsOf 0 = .ok (.aload_n 0, 1) := by decide +kernel
theorem dX1_wartsOf_1 : decode cX1_wartsOf 1 = .ok (.iload_n 1, 1) := by decide +kernel
theorem dX1_wartsOf_2 : decode cX1_wartsOf 2 = .ok (.iconst 2, 1) := by decide +kernel
theorem dX1_wartsOf_3 : decode cX1_wartsOf 3 = .ok (.invokevirtual 34, 3) := by decide +kernel
theorem dX1_wartsOf_6 : decode cX1_wartsOf 6 = .ok (.ireturn, 1) := by decide +kernel
theorem dX1_skillOf_0 : decode cX1_skillOf 0 = .ok (.aload_n 0, 1) := by decide +kernel
theorem dX1_skillOf_1 : decode cX1_skillOf 1 = .ok (.iload_n 1, 1) := by decide +kernel
theorem dX1_skillOf_2 : decode cX1_skillOf 2 = .ok (.iconst 0, 1) := by decide +kernel
theorem dX1_skillOf_3 : decode cX1_skillOf 3 = .ok (.invokevirtual 38, 3) := by decide +kernel
theorem dX1_skillOf_6 : decode cX1_skillOf 6 = .ok (.ireturn, 1) := by decide +kernel
theorem dX1_feeOf_0 : decode cX1_feeOf 0 = .ok (.aload_n 0, 1) := by decide +kernel
theorem dX1_feeOf_1 : decode cX1_feeOf 1 = .ok (.iload_n 1, 1) := by decide +kernel
theorem dX1_feeOf_2 : decode cX1_feeOf 2 = .ok (.iconst 1, 1) := by decide +kernel
theorem dX1_feeOf_3 : decode cX1_feeOf 3 = .ok (.invokevirtual 38, 3) := by decide +kernel
theorem dX1_feeOf_6 : decode cX1_feeOf 6 = .ok (.ireturn, 1) := by decide +kernel
theorem dX1_kindOf_0 : decode cX1_kindOf 0 = .ok (.aload_n 0, 1) := by decide +kernel
theorem dX1_kindOf_1 : decode cX1_kindOf 1 = .ok (.iload_n 1, 1) := by decide +kernel
theorem dX1_kindOf_2 : decode cX1_kindOf 2 = .ok (.iconst 3, 1) := by decide +kernel
theorem dX1_kindOf_3 : decode cX1_kindOf 3 = .ok (.invokevirtual 38, 3) := by decide +kernel
theorem dX1_kindOf_6 : decode cX1_kindOf 6 = .ok (.ireturn, 1) := by decide +kernel
theorem dX1_worthWith_0 : decode cX1_worthWith 0 = .ok (.iload_n 2, 1) := by decide +kernel
theorem dX1_worthWith_1 : decode cX1_worthWith 1 = .ok (.aload_n 0, 1) := by decide +kernel
theorem dX1_worthWith_2 : decode cX1_worthWith 2 = .ok (.invokevirtual 41, 3) := by decide +kernel
theorem dX1_worthWith_5 : decode cX1_worthWith 5 = .ok (.imul, 1) := by decide +kernel
theorem dX1_worthWith_6 : decode cX1_worthWith 6 = .ok (.aload_n 0, 1) := by decide +kernel
theorem dX1_worthWith_7 : decode cX1_worthWith 7 = .ok (.iload_n 1, 1) := by decide +kernel
theorem dX1_worthWith_8 : decode cX1_worthWith 8 = .ok (.invokevirtual 45, 3) := by decide +kernel
theorem dX1_worthWith_11 : decode cX1_worthWith 11 = .ok (.bipush 10, 2) := by decide +kernel
theorem dX1_worthWith_13 : decode cX1_worthWith 13 = .ok (.idiv, 1) := by decide +kernel
theorem dX1_worthWith_14 : decode cX1_worthWith 14 = .ok (.aload_n 0, 1) := by decide +kernel
theorem dX1_worthWith_15 : decode cX1_worthWith 15 = .ok (.invokevirtual 49, 3) := by decide +kernel
theorem dX1_worthWith_18 : decode cX1_worthWith 18 = .ok (.imul, 1) := by decide +kernel
theorem dX1_worthWith_19 : decode cX1_worthWith 19 = .ok (.iadd, 1) := by decide +kernel
theorem dX1_worthWith_20 : decode cX1_worthWith 20 = .ok (.ireturn, 1) := by decide +kernel
theorem dX1_trueWorth_0 : decode cX1_trueWorth 0 = .ok (.aload_n 0, 1) := by decide +kernel
theorem dX1_trueWorth_1 : decode cX1_trueWorth 1 = .ok (.iload_n 1, 1) := by decide +kernel
theorem dX1_trueWorth_2 : decode cX1_trueWorth 2 = .ok (.aload_n 0, 1) := by decide +kernel
theorem dX1_trueWorth_3 : decode cX1_trueWorth 3 = .ok (.iload_n 1, 1) := by decide +kernel
theorem dX1_trueWorth_4 : decode cX1_trueWorth 4 = .ok (.invokevirtual 52, 3) := by decide +kernel
theorem dX1_trueWorth_7 : decode cX1_trueWorth 7 = .ok (.invokevirtual 55, 3) := by decide +kernel
theorem dX1_trueWorth_10 : decode cX1_trueWorth 10 = .ok (.ireturn, 1) := by decide +kernel
theorem dX1_topBride_0 : decode cX1_topBride 0 = .ok (.iconst 0, 1) := by decide +kernel
theorem dX1_topBride_1 : decode cX1_topBride 1 = .ok (.istore_n 2, 1) := by decide +kernel
theorem dX1_topBride_2 : decode cX1_topBride 2 = .ok (.iconst 1, 1) := by decide +kernel
theorem dX1_topBride_3 : decode cX1_topBride 3 = .ok (.istore_n 3, 1) := by decide +kernel
theorem dX1_topBride_4 : decode cX1_topBride 4 = .ok (.iload_n 3, 1) := by decide +kernel
theorem dX1_topBride_5 : decode cX1_topBride 5 = .ok (.aload_n 0, 1) := by decide +kernel
theorem dX1_topBride_6 : decode cX1_topBride 6 = .ok (.getfield 21, 3) := by decide +kernel
theorem dX1_topBride_9 : decode cX1_topBride 9 = .ok (.if_icmp .ge 26, 3) := by decide +kernel
theorem dX1_topBride_12 : decode cX1_topBride 12 = .ok (.aload_n 0, 1) := by decide +kernel
theorem dX1_topBride_13 : decode cX1_topBride 13 = .ok (.iload_n 3, 1) := by decide +kernel
theorem dX1_topBride_14 : decode cX1_topBride 14 = .ok (.iload_n 1, 1) := by decide +kernel
theorem dX1_topBride_15 : decode cX1_topBride 15 = .ok (.invokevirtual 34, 3) := by decide +kernel
theorem dX1_topBride_18 : decode cX1_topBride 18 = .ok (.aload_n 0, 1) := by decide +kernel
theorem dX1_topBride_19 : decode cX1_topBride 19 = .ok (.iload_n 2, 1) := by decide +kernel
theorem dX1_topBride_20 : decode cX1_topBride 20 = .ok (.iload_n 1, 1) := by decide +kernel
theorem dX1_topBride_21 : decode cX1_topBride 21 = .ok (.invokevirtual 34, 3) := by decide +kernel
theorem dX1_topBride_24 : decode cX1_topBride 24 = .ok (.if_icmp .le 5, 3) := by decide +kernel
theorem dX1_topBride_27 : decode cX1_topBride 27 = .ok (.iload_n 3, 1) := by decide +kernel
theorem dX1_topBride_28 : decode cX1_topBride 28 = .ok (.istore_n 2, 1) := by decide +kernel
theorem dX1_topBride_29 : decode cX1_topBride 29 = .ok (.iinc 3 1, 3) := by decide +kernel
theorem dX1_topBride_32 : decode cX1_topBride 32 = .ok (.goto (-28), 3) := by decide +kernel
theorem dX1_topBride_35 : decode cX1_topBride 35 = .ok (.iload_n 2, 1) := by decide +kernel
theorem dX1_topBride_36 : decode cX1_topBride 36 = .ok (.ireturn, 1) := by decide +kernel
theorem dX1_cheapPainter_0 : decode cX1_cheapPainter 0 = .ok (.iconst 0, 1) := by decide +kernel
theorem dX1_cheapPainter_1 : decode cX1_cheapPainter 1 = .ok (.istore_n 1, 1) := by decide +kernel
theorem dX1_cheapPainter_2 : decode cX1_cheapPainter 2 = .ok (.iconst 1, 1) := by decide +kernel
theorem dX1_cheapPainter_3 : decode cX1_cheapPainter 3 = .ok (.istore_n 2, 1) := by decide +kernel
theorem dX1_cheapPainter_4 : decode cX1_cheapPainter 4 = .ok (.iload_n 2, 1) := by decide +kernel
theorem dX1_cheapPainter_5 : decode cX1_cheapPainter 5 = .ok (.aload_n 0, 1) := by decide +kernel
theorem dX1_cheapPainter_6 : decode cX1_cheapPainter 6 = .ok (.getfield 25, 3) := by decide +kernel
theorem dX1_cheapPainter_9 : decode cX1_cheapPainter 9 = .ok (.if_icmp .ge 24, 3) := by decide +kernel
theorem dX1_cheapPainter_12 : decode cX1_cheapPainter 12 = .ok (.aload_n 0, 1) := by decide +kernel
theorem dX1_cheapPainter_13 : decode cX1_cheapPainter 13 = .ok (.iload_n 2, 1) := by decide +kernel
theorem dX1_cheapPainter_14 : decode cX1_cheapPainter 14 = .ok (.invokevirtual 58, 3) := by decide +kernel
theorem dX1_cheapPainter_17 : decode cX1_cheapPainter 17 = .ok (.aload_n 0, 1) := by decide +kernel
theorem dX1_cheapPainter_18 : decode cX1_cheapPainter 18 = .ok (.iload_n 1, 1) := by decide +kernel
theorem dX1_cheapPainter_19 : decode cX1_cheapPainter 19 = .ok (.invokevirtual 58, 3) := by decide +kernel
theorem dX1_cheapPainter_22 : decode cX1_cheapPainter 22 = .ok (.if_icmp .ge 5, 3) := by decide +kernel
theorem dX1_cheapPainter_25 : decode cX1_cheapPainter 25 = .ok (.iload_n 2, 1) := by decide +kernel
theorem dX1_cheapPainter_26 : decode cX1_cheapPainter 26 = .ok (.istore_n 1, 1) := by decide +kernel
theorem dX1_cheapPainter_27 : decode cX1_cheapPainter 27 = .ok (.iinc 2 1, 3) := by decide +kernel
theorem dX1_cheapPainter_30 : decode cX1_cheapPainter 30 = .ok (.goto (-26), 3) := by decide +kernel
theorem dX1_cheapPainter_33 : decode cX1_cheapPainter 33 = .ok (.iload_n 1, 1) := by decide +kernel
theorem dX1_cheapPainter_34 : decode cX1_cheapPainter 34 = .ok (.ireturn, 1) := by decide +kernel
theorem dX1_rankByFee_0 : decode cX1_rankByFee 0 = .ok (.iconst 0, 1) := by decide +kernel
theorem dX1_rankByFee_1 : decode cX1_rankByFee 1 = .ok (.istore_n 2, 1) := by decide +kernel
theorem dX1_rankByFee_2 : decode cX1_rankByFee 2 = .ok (.iconst 0, 1) := by decide +kernel
theorem dX1_rankByFee_3 : decode cX1_rankByFee 3 = .ok (.istore_n 3, 1) := by decide +kernel
theorem dX1_rankByFee_4 : decode cX1_rankByFee 4 = .ok (.iload_n 3, 1) := by decide +kernel
theorem dX1_rankByFee_5 : decode cX1_rankByFee 5 = .ok (.aload_n 0, 1) := by decide +kernel
theorem dX1_rankByFee_6 : decode cX1_rankByFee 6 = .ok (.getfield 25, 3) := by decide +kernel
theorem dX1_rankByFee_9 : decode cX1_rankByFee 9 = .ok (.if_icmp .ge 40, 3) := by decide +kernel
theorem dX1_rankByFee_12 : decode cX1_rankByFee 12 = .ok (.aload_n 0, 1) := by decide +kernel
theorem dX1_rankByFee_13 : decode cX1_rankByFee 13 = .ok (.iload_n 3, 1) := by decide +kernel
theorem dX1_rankByFee_14 : decode cX1_rankByFee 14 = .ok (.invokevirtual 58, 3) := by decide +kernel
theorem dX1_rankByFee_17 : decode cX1_rankByFee 17 = .ok (.aload_n 0, 1) := by decide +kernel
theorem dX1_rankByFee_18 : decode cX1_rankByFee 18 = .ok (.iload_n 1, 1) := by decide +kernel
theorem dX1_rankByFee_19 : decode cX1_rankByFee 19 = .ok (.invokevirtual 58, 3) := by decide +kernel
theorem dX1_rankByFee_22 : decode cX1_rankByFee 22 = .ok (.isub, 1) := by decide +kernel
theorem dX1_rankByFee_23 : decode cX1_rankByFee 23 = .ok (.istore 4, 2) := by decide +kernel
theorem dX1_rankByFee_25 : decode cX1_rankByFee 25 = .ok (.iload 4, 2) := by decide +kernel
theorem dX1_rankByFee_27 : decode cX1_rankByFee 27 = .ok (.ifCond .lt 13, 3) := by decide +kernel
theorem dX1_rankByFee_30 : decode cX1_rankByFee 30 = .ok (.iload 4, 2) := by decide +kernel
theorem dX1_rankByFee_32 : decode cX1_rankByFee 32 = .ok (.ifCond .ne 11, 3) := by decide +kernel
theorem dX1_rankByFee_35 : decode cX1_rankByFee 35 = .ok (.iload_n 3, 1) := by decide +kernel
theorem dX1_rankByFee_36 : decode cX1_rankByFee 36 = .ok (.iload_n 1, 1) := by decide +kernel
theorem dX1_rankByFee_37 : decode cX1_rankByFee 37 = .ok (.if_icmp .ge 6, 3) := by decide +kernel
theorem dX1_rankByFee_40 : decode cX1_rankByFee 40 = .ok (.iinc 2 1, 3) := by decide +kernel
theorem dX1_rankByFee_43 : decode cX1_rankByFee 43 = .ok (.iinc 3 1, 3) := by decide +kernel
theorem dX1_rankByFee_46 : decode cX1_rankByFee 46 = .ok (.goto (-42), 3) := by decide +kernel
theorem dX1_rankByFee_49 : decode cX1_rankByFee 49 = .ok (.iload_n 2, 1) := by decide +kernel
theorem dX1_rankByFee_50 : decode cX1_rankByFee 50 = .ok (.ireturn, 1) := by decide +kernel
theorem dX3_begin_0 : decode cX3_begin 0 = .ok (.aload_n 0, 1) := by decide +kernel
theorem dX3_begin_1 : decode cX3_begin 1 = .ok (.lload_n 1, 1) := by decide +kernel
theorem dX3_begin_2 : decode cX3_begin 2 = .ok (.putfield 7, 3) := by decide +kernel
theorem dX3_begin_5 : decode cX3_begin 5 = .ok (.return_, 1) := by decide +kernel
theorem dX3_below_0 : decode cX3_below 0 = .ok (.aload_n 0, 1) := by decide +kernel
theorem dX3_below_1 : decode cX3_below 1 = .ok (.aload_n 0, 1) := by decide +kernel
theorem dX3_below_2 : decode cX3_below 2 = .ok (.getfield 7, 3) := by decide +kernel
theorem dX3_below_5 : decode cX3_below 5 = .ok (.ldc2_w 13, 3) := by decide +kernel
theorem dX3_below_8 : decode cX3_below 8 = .ok (.lmul, 1) := by decide +kernel
theorem dX3_below_9 : decode cX3_below 9 = .ok (.ldc2_w 15, 3) := by decide +kernel
theorem dX3_below_12 : decode cX3_below 12 = .ok (.ladd, 1) := by decide +kernel
theorem dX3_below_13 : decode cX3_below 13 = .ok (.putfield 7, 3) := by decide +kernel
theorem dX3_below_16 : decode cX3_below 16 = .ok (.iload_n 1, 1) := by decide +kernel
theorem dX3_below_17 : decode cX3_below 17 = .ok (.iconst 1, 1) := by decide +kernel
theorem dX3_below_18 : decode cX3_below 18 = .ok (.if_icmp .ge 7, 3) := by decide +kernel
theorem dX3_below_21 : decode cX3_below 21 = .ok (.iconst 0, 1) := by decide +kernel
theorem dX3_below_22 : decode cX3_below 22 = .ok (.goto 14, 3) := by decide +kernel
theorem dX3_below_25 : decode cX3_below 25 = .ok (.aload_n 0, 1) := by decide +kernel
theorem dX3_below_26 : decode cX3_below 26 = .ok (.getfield 7, 3) := by decide +kernel
theorem dX3_below_29 : decode cX3_below 29 = .ok (.bipush 33, 2) := by decide +kernel
theorem dX3_below_31 : decode cX3_below 31 = .ok (.lushr, 1) := by decide +kernel
theorem dX3_below_32 : decode cX3_below 32 = .ok (.iload_n 1, 1) := by decide +kernel
theorem dX3_below_33 : decode cX3_below 33 = .ok (.i2l, 1) := by decide +kernel
theorem dX3_below_34 : decode cX3_below 34 = .ok (.lrem, 1) := by decide +kernel
theorem dX3_below_35 : decode cX3_below 35 = .ok (.l2i, 1) := by decide +kernel
theorem dX3_below_36 : decode cX3_below 36 = .ok (.ireturn, 1) := by decide +kernel
theorem dX7_begin_0 : decode cX7_begin 0 = .ok (.aload_n 0, 1) := by decide +kernel
theorem dX7_begin_1 : decode cX7_begin 1 = .ok (.iconst 0, 1) := by decide +kernel
theorem dX7_begin_2 : decode cX7_begin 2 = .ok (.putfield 25, 3) := by decide +kernel
theorem dX7_begin_5 : decode cX7_begin 5 = .ok (.aload_n 0, 1) := by decide +kernel
theorem dX7_begin_6 : decode cX7_begin 6 = .ok (.iconst 0, 1) := by decide +kernel
theorem dX7_begin_7 : decode cX7_begin 7 = .ok (.putfield 28, 3) := by decide +kernel
theorem dX7_begin_10 : decode cX7_begin 10 = .ok (.aload_n 0, 1) := by decide +kernel
theorem dX7_begin_11 : decode cX7_begin 11 = .ok (.iconst 0, 1) := by decide +kernel
theorem dX7_begin_12 : decode cX7_begin 12 = .ok (.putfield 31, 3) := by decide +kernel
theorem dX7_begin_15 : decode cX7_begin 15 = .ok (.aload_n 0, 1) := by decide +kernel
theorem dX7_begin_16 : decode cX7_begin 16 = .ok (.iconst (-1), 1) := by decide +kernel
theorem dX7_begin_17 : decode cX7_begin 17 = .ok (.putfield 21, 3) := by decide +kernel
theorem dX7_begin_20 : decode cX7_begin 20 = .ok (.aload_n 0, 1) := by decide +kernel
theorem dX7_begin_21 : decode cX7_begin 21 = .ok (.aload_n 1, 1) := by decide +kernel
theorem dX7_begin_22 : decode cX7_begin 22 = .ok (.invokevirtual 34, 3) := by decide +kernel
theorem dX7_begin_25 : decode cX7_begin 25 = .ok (.putfield 40, 3) := by decide +kernel
theorem dX7_begin_28 : decode cX7_begin 28 = .ok (.aload_n 0, 1) := by decide +kernel
theorem dX7_begin_29 : decode cX7_begin 29 = .ok (.iconst 0, 1) := by decide +kernel
theorem dX7_begin_30 : decode cX7_begin 30 = .ok (.putfield 43, 3) := by decide +kernel
theorem dX7_begin_33 : decode cX7_begin 33 = .ok (.iconst 0, 1) := by decide +kernel
theorem dX7_begin_34 : decode cX7_begin 34 = .ok (.istore_n 2, 1) := by decide +kernel
theorem dX7_begin_35 : decode cX7_begin 35 = .ok (.iload_n 2, 1) := by decide +kernel
theorem dX7_begin_36 : decode cX7_begin 36 = .ok (.aload_n 1, 1) := by decide +kernel
theorem dX7_begin_37 : decode cX7_begin 37 = .ok (.getfield 46, 3) := by decide +kernel
theorem dX7_begin_40 : decode cX7_begin 40 = .ok (.if_icmp .ge 21, 3) := by decide +kernel
theorem dX7_begin_43 : decode cX7_begin 43 = .ok (.aload_n 0, 1) := by decide +kernel
theorem dX7_begin_44 : decode cX7_begin 44 = .ok (.getfield 9, 3) := by decide +kernel
theorem dX7_begin_47 : decode cX7_begin 47 = .ok (.iload_n 2, 1) := by decide +kernel
theorem dX7_begin_48 : decode cX7_begin 48 = .ok (.aload_n 1, 1) := by decide +kernel
theorem dX7_begin_49 : decode cX7_begin 49 = .ok (.iload_n 2, 1) := by decide +kernel
theorem dX7_begin_50 : decode cX7_begin 50 = .ok (.iconst 3, 1) := by decide +kernel
theorem dX7_begin_51 : decode cX7_begin 51 = .ok (.invokevirtual 49, 3) := by decide +kernel
theorem dX7_begin_54 : decode cX7_begin 54 = .ok (.iastore, 1) := by decide +kernel
theorem dX7_begin_55 : decode cX7_begin 55 = .ok (.iinc 2 1, 3) := by decide +kernel
theorem dX7_begin_58 : decode cX7_begin 58 = .ok (.goto (-23), 3) := by decide +kernel
theorem dX7_begin_61 : decode cX7_begin 61 = .ok (.iconst 0, 1) := by decide +kernel
theorem dX7_begin_62 : decode cX7_begin 62 = .ok (.istore_n 2, 1) := by decide +kernel
theorem dX7_begin_63 : decode cX7_begin 63 = .ok (.iload_n 2, 1) := by decide +kernel
theorem dX7_begin_64 : decode cX7_begin 64 = .ok (.aload_n 1, 1) := by decide +kernel
theorem dX7_begin_65 : decode cX7_begin 65 = .ok (.getfield 53, 3) := by decide +kernel
theorem dX7_begin_68 : decode cX7_begin 68 = .ok (.if_icmp .ge 21, 3) := by decide +kernel
theorem dX7_begin_71 : decode cX7_begin 71 = .ok (.aload_n 0, 1) := by decide +kernel
theorem dX7_begin_72 : decode cX7_begin 72 = .ok (.getfield 15, 3) := by decide +kernel
theorem dX7_begin_75 : decode cX7_begin 75 = .ok (.iload_n 2, 1) := by decide +kernel
theorem dX7_begin_76 : decode cX7_begin 76 = .ok (.aload_n 1, 1) := by decide +kernel
theorem dX7_begin_77 : decode cX7_begin 77 = .ok (.iload_n 2, 1) := by decide +kernel
theorem dX7_begin_78 : decode cX7_begin 78 = .ok (.iconst 2, 1) := by decide +kernel
theorem dX7_begin_79 : decode cX7_begin 79 = .ok (.invokevirtual 56, 3) := by decide +kernel
theorem dX7_begin_82 : decode cX7_begin 82 = .ok (.iastore, 1) := by decide +kernel
theorem dX7_begin_83 : decode cX7_begin 83 = .ok (.iinc 2 1, 3) := by decide +kernel
theorem dX7_begin_86 : decode cX7_begin 86 = .ok (.goto (-23), 3) := by decide +kernel
theorem dX7_begin_89 : decode cX7_begin 89 = .ok (.return_, 1) := by decide +kernel
theorem dX7_become_0 : decode cX7_become 0 = .ok (.aload_n 1, 1) := by decide +kernel
theorem dX7_become_1 : decode cX7_become 1 = .ok (.getfield 9, 3) := by decide +kernel
theorem dX7_become_4 : decode cX7_become 4 = .ok (.iconst 0, 1) := by decide +kernel
theorem dX7_become_5 : decode cX7_become 5 = .ok (.aload_n 0, 1) := by decide +kernel
theorem dX7_become_6 : decode cX7_become 6 = .ok (.getfield 9, 3) := by decide +kernel
theorem dX7_become_9 : decode cX7_become 9 = .ok (.iconst 0, 1) := by decide +kernel
theorem dX7_become_10 : decode cX7_become 10 = .ok (.aload_n 0, 1) := by decide +kernel
theorem dX7_become_11 : decode cX7_become 11 = .ok (.getfield 9, 3) := by decide +kernel
theorem dX7_become_14 : decode cX7_become 14 = .ok (.arraylength, 1) := by decide +kernel
theorem dX7_become_15 : decode cX7_become 15 = .ok (.invokestatic 59, 3) := by decide +kernel
theorem dX7_become_18 : decode cX7_become 18 = .ok (.aload_n 1, 1) := by decide +kernel
theorem dX7_become_19 : decode cX7_become 19 = .ok (.getfield 15, 3) := by decide +kernel
theorem dX7_become_22 : decode cX7_become 22 = .ok (.iconst 0, 1) := by decide +kernel
theorem dX7_become_23 : decode cX7_become 23 = .ok (.aload_n 0, 1) := by decide +kernel
theorem dX7_become_24 : decode cX7_become 24 = .ok (.getfield 15, 3) := by decide +kernel
theorem dX7_become_27 : decode cX7_become 27 = .ok (.iconst 0, 1) := by decide +kernel
theorem dX7_become_28 : decode cX7_become 28 = .ok (.aload_n 0, 1) := by decide +kernel
theorem dX7_become_29 : decode cX7_become 29 = .ok (.getfield 15, 3) := by decide +kernel
theorem dX7_become_32 : decode cX7_become 32 = .ok (.arraylength, 1) := by decide +kernel
theorem dX7_become_33 : decode cX7_become 33 = .ok (.invokestatic 59, 3) := by decide +kernel
theorem dX7_become_36 : decode cX7_become 36 = .ok (.aload_n 1, 1) := by decide +kernel
theorem dX7_become_37 : decode cX7_become 37 = .ok (.getfield 18, 3) := by decide +kernel
theorem dX7_become_40 : decode cX7_become 40 = .ok (.iconst 0, 1) := by decide +kernel
theorem dX7_become_41 : decode cX7_become 41 = .ok (.aload_n 0, 1) := by decide +kernel
theorem dX7_become_42 : decode cX7_become 42 = .ok (.getfield 18, 3) := by decide +kernel
theorem dX7_become_45 : decode cX7_become 45 = .ok (.iconst 0, 1) := by decide +kernel
theorem dX7_become_46 : decode cX7_become 46 = .ok (.aload_n 0, 1) := by decide +kernel
theorem dX7_become_47 : decode cX7_become 47 = .ok (.getfield 18, 3) := by decide +kernel
theorem dX7_become_50 : decode cX7_become 50 = .ok (.arraylength, 1) := by decide +kernel
theorem dX7_become_51 : decode cX7_become 51 = .ok (.invokestatic 59, 3) := by decide +kernel
theorem dX7_become_54 : decode cX7_become 54 = .ok (.aload_n 0, 1) := by decide +kernel
theorem dX7_become_55 : decode cX7_become 55 = .ok (.aload_n 1, 1) := by decide +kernel
theorem dX7_become_56 : decode cX7_become 56 = .ok (.getfield 25, 3) := by decide +kernel
theorem dX7_become_59 : decode cX7_become 59 = .ok (.putfield 25, 3) := by decide +kernel
theorem dX7_become_62 : decode cX7_become 62 = .ok (.aload_n 0, 1) := by decide +kernel
theorem dX7_become_63 : decode cX7_become 63 = .ok (.aload_n 1, 1) := by decide +kernel
theorem dX7_become_64 : decode cX7_become 64 = .ok (.getfield 28, 3) := by decide +kernel
theorem dX7_become_67 : decode cX7_become 67 = .ok (.putfield 28, 3) := by decide +kernel
theorem dX7_become_70 : decode cX7_become 70 = .ok (.aload_n 0, 1) := by decide +kernel
theorem dX7_become_71 : decode cX7_become 71 = .ok (.aload_n 1, 1) := by decide +kernel
theorem dX7_become_72 : decode cX7_become 72 = .ok (.getfield 31, 3) := by decide +kernel
theorem dX7_become_75 : decode cX7_become 75 = .ok (.putfield 31, 3) := by decide +kernel
theorem dX7_become_78 : decode cX7_become 78 = .ok (.aload_n 0, 1) := by decide +kernel
theorem dX7_become_79 : decode cX7_become 79 = .ok (.aload_n 1, 1) := by decide +kernel
theorem dX7_become_80 : decode cX7_become 80 = .ok (.getfield 21, 3) := by decide +kernel
theorem dX7_become_83 : decode cX7_become 83 = .ok (.putfield 21, 3) := by decide +kernel
theorem dX7_become_86 : decode cX7_become 86 = .ok (.aload_n 0, 1) := by decide +kernel
theorem dX7_become_87 : decode cX7_become 87 = .ok (.aload_n 1, 1) := by decide +kernel
theorem dX7_become_88 : decode cX7_become 88 = .ok (.getfield 40, 3) := by decide +kernel
theorem dX7_become_91 : decode cX7_become 91 = .ok (.putfield 40, 3) := by decide +kernel
theorem dX7_become_94 : decode cX7_become 94 = .ok (.aload_n 0, 1) := by decide +kernel
theorem dX7_become_95 : decode cX7_become 95 = .ok (.aload_n 1, 1) := by decide +kernel
theorem dX7_become_96 : decode cX7_become 96 = .ok (.getfield 43, 3) := by decide +kernel
theorem dX7_become_99 : decode cX7_become 99 = .ok (.putfield 43, 3) := by decide +kernel
theorem dX7_become_102 : decode cX7_become 102 = .ok (.return_, 1) := by decide +kernel
theorem dX7_writeRow_0 : decode cX7_writeRow 0 = .ok (.aload_n 0, 1) := by decide +kernel
theorem dX7_writeRow_1 : decode cX7_writeRow 1 = .ok (.getfield 9, 3) := by decide +kernel
theorem dX7_writeRow_4 : decode cX7_writeRow 4 = .ok (.iconst 0, 1) := by decide +kernel
theorem dX7_writeRow_5 : decode cX7_writeRow 5 = .ok (.aload_n 1, 1) := by decide +kernel
theorem dX7_writeRow_6 : decode cX7_writeRow 6 = .ok (.iload_n 2, 1) := by decide +kernel
theorem dX7_writeRow_7 : decode cX7_writeRow 7 = .ok (.bipush 6, 2) := by decide +kernel
theorem dX7_writeRow_9 : decode cX7_writeRow 9 = .ok (.invokestatic 59, 3) := by decide +kernel
theorem dX7_writeRow_12 : decode cX7_writeRow 12 = .ok (.aload_n 0, 1) := by decide +kernel
theorem dX7_writeRow_13 : decode cX7_writeRow 13 = .ok (.getfield 15, 3) := by decide +kernel
theorem dX7_writeRow_16 : decode cX7_writeRow 16 = .ok (.iconst 0, 1) := by decide +kernel
theorem dX7_writeRow_17 : decode cX7_writeRow 17 = .ok (.aload_n 1, 1) := by decide +kernel
theorem dX7_writeRow_18 : decode cX7_writeRow 18 = .ok (.iload_n 2, 1) := by decide +kernel
theorem dX7_writeRow_19 : decode cX7_writeRow 19 = .ok (.bipush 6, 2) := by decide +kernel
theorem dX7_writeRow_21 : decode cX7_writeRow 21 = .ok (.iadd, 1) := by decide +kernel
theorem dX7_writeRow_22 : decode cX7_writeRow 22 = .ok (.iconst 5, 1) := by decide +kernel
theorem dX7_writeRow_23 : decode cX7_writeRow 23 = .ok (.invokestatic 59, 3) := by decide +kernel
theorem dX7_writeRow_26 : decode cX7_writeRow 26 = .ok (.iload_n 2, 1) := by decide +kernel
theorem dX7_writeRow_27 : decode cX7_writeRow 27 = .ok (.bipush 6, 2) := by decide +kernel
theorem dX7_writeRow_29 : decode cX7_writeRow 29 = .ok (.iadd, 1) := by decide +kernel
theorem dX7_writeRow_30 : decode cX7_writeRow 30 = .ok (.iconst 5, 1) := by decide +kernel
theorem dX7_writeRow_31 : decode cX7_writeRow 31 = .ok (.iadd, 1) := by decide +kernel
theorem dX7_writeRow_32 : decode cX7_writeRow 32 = .ok (.istore_n 3, 1) := by decide +kernel
theorem dX7_writeRow_33 : decode cX7_writeRow 33 = .ok (.aload_n 1, 1) := by decide +kernel
theorem dX7_writeRow_34 : decode cX7_writeRow 34 = .ok (.iload_n 3, 1) := by decide +kernel
theorem dX7_writeRow_35 : decode cX7_writeRow 35 = .ok (.aload_n 0, 1) := by decide +kernel
theorem dX7_writeRow_36 : decode cX7_writeRow 36 = .ok (.getfield 25, 3) := by decide +kernel
theorem dX7_writeRow_39 : decode cX7_writeRow 39 = .ok (.iastore, 1) := by decide +kernel
theorem dX7_writeRow_40 : decode cX7_writeRow 40 = .ok (.aload_n 1, 1) := by decide +kernel
theorem dX7_writeRow_41 : decode cX7_writeRow 41 = .ok (.iload_n 3, 1) := by decide +kernel
theorem dX7_writeRow_42 : decode cX7_writeRow 42 = .ok (.iconst 1, 1) := by decide +kernel
theorem dX7_writeRow_43 : decode cX7_writeRow 43 = .ok (.iadd, 1) := by decide +kernel
theorem dX7_writeRow_44 : decode cX7_writeRow 44 = .ok (.aload_n 0, 1) := by decide +kernel
theorem dX7_writeRow_45 : decode cX7_writeRow 45 = .ok (.getfield 28, 3) := by decide +kernel
theorem dX7_writeRow_48 : decode cX7_writeRow 48 = .ok (.iastore, 1) := by decide +kernel
theorem dX7_writeRow_49 : decode cX7_writeRow 49 = .ok (.aload_n 1, 1) := by decide +kernel
theorem dX7_writeRow_50 : decode cX7_writeRow 50 = .ok (.iload_n 3, 1) := by decide +kernel
theorem dX7_writeRow_51 : decode cX7_writeRow 51 = .ok (.iconst 2, 1) := by decide +kernel
theorem dX7_writeRow_52 : decode cX7_writeRow 52 = .ok (.iadd, 1) := by decide +kernel
theorem dX7_writeRow_53 : decode cX7_writeRow 53 = .ok (.aload_n 0, 1) := by decide +kernel
theorem dX7_writeRow_54 : decode cX7_writeRow 54 = .ok (.getfield 31, 3) := by decide +kernel
theorem dX7_writeRow_57 : decode cX7_writeRow 57 = .ok (.iastore, 1) := by decide +kernel
theorem dX7_writeRow_58 : decode cX7_writeRow 58 = .ok (.aload_n 1, 1) := by decide +kernel
theorem dX7_writeRow_59 : decode cX7_writeRow 59 = .ok (.iload_n 3, 1) := by decide +kernel
theorem dX7_writeRow_60 : decode cX7_writeRow 60 = .ok (.iconst 3, 1) := by decide +kernel
theorem dX7_writeRow_61 : decode cX7_writeRow 61 = .ok (.iadd, 1) := by decide +kernel
theorem dX7_writeRow_62 : decode cX7_writeRow 62 = .ok (.aload_n 0, 1) := by decide +kernel
theorem dX7_writeRow_63 : decode cX7_writeRow 63 = .ok (.getfield 21, 3) := by decide +kernel
theorem dX7_writeRow_66 : decode cX7_writeRow 66 = .ok (.iastore, 1) := by decide +kernel
theorem dX7_writeRow_67 : decode cX7_writeRow 67 = .ok (.aload_n 1, 1) := by decide +kernel
theorem dX7_writeRow_68 : decode cX7_writeRow 68 = .ok (.iload_n 3, 1) := by decide +kernel
theorem dX7_writeRow_69 : decode cX7_writeRow 69 = .ok (.iconst 4, 1) := by decide +kernel
theorem dX7_writeRow_70 : decode cX7_writeRow 70 = .ok (.iadd, 1) := by decide +kernel
theorem dX7_writeRow_71 : decode cX7_writeRow 71 = .ok (.aload_n 0, 1) := by decide +kernel
theorem dX7_writeRow_72 : decode cX7_writeRow 72 = .ok (.getfield 40, 3) := by decide +kernel
theorem dX7_writeRow_75 : decode cX7_writeRow 75 = .ok (.iastore, 1) := by decide +kernel
theorem dX7_writeRow_76 : decode cX7_writeRow 76 = .ok (.aload_n 1, 1) := by decide +kernel
theorem dX7_writeRow_77 : decode cX7_writeRow 77 = .ok (.iload_n 3, 1) := by decide +kernel
theorem dX7_writeRow_78 : decode cX7_writeRow 78 = .ok (.iconst 5, 1) := by decide +kernel
theorem dX7_writeRow_79 : decode cX7_writeRow 79 = .ok (.iadd, 1) := by decide +kernel
theorem dX7_writeRow_80 : decode cX7_writeRow 80 = .ok (.aload_n 0, 1) := by decide +kernel
theorem dX7_writeRow_81 : decode cX7_writeRow 81 = .ok (.getfield 43, 3) := by decide +kernel
theorem dX7_writeRow_84 : decode cX7_writeRow 84 = .ok (.iastore, 1) := by decide +kernel
theorem dX7_writeRow_85 : decode cX7_writeRow 85 = .ok (.return_, 1) := by decide +kernel
theorem dX7_readRow_0 : decode cX7_readRow 0 = .ok (.aload_n 1, 1) := by decide +kernel
theorem dX7_readRow_1 : decode cX7_readRow 1 = .ok (.iload_n 2, 1) := by decide +kernel
theorem dX7_readRow_2 : decode cX7_readRow 2 = .ok (.aload_n 0, 1) := by decide +kernel
theorem dX7_readRow_3 : decode cX7_readRow 3 = .ok (.getfield 9, 3) := by decide +kernel
theorem dX7_readRow_6 : decode cX7_readRow 6 = .ok (.iconst 0, 1) := by decide +kernel
theorem dX7_readRow_7 : decode cX7_readRow 7 = .ok (.bipush 6, 2) := by decide +kernel
theorem dX7_readRow_9 : decode cX7_readRow 9 = .ok (.invokestatic 59, 3) := by decide +kernel
theorem dX7_readRow_12 : decode cX7_readRow 12 = .ok (.aload_n 1, 1) := by decide +kernel
theorem dX7_readRow_13 : decode cX7_readRow 13 = .ok (.iload_n 2, 1) := by decide +kernel
theorem dX7_readRow_14 : decode cX7_readRow 14 = .ok (.bipush 6, 2) := by decide +kernel
theorem dX7_readRow_16 : decode cX7_readRow 16 = .ok (.iadd, 1) := by decide +kernel
theorem dX7_readRow_17 : decode cX7_readRow 17 = .ok (.aload_n 0, 1) := by decide +kernel
theorem dX7_readRow_18 : decode cX7_readRow 18 = .ok (.getfield 15, 3) := by decide +kernel
theorem dX7_readRow_21 : decode cX7_readRow 21 = .ok (.iconst 0, 1) := by decide +kernel
theorem dX7_readRow_22 : decode cX7_readRow 22 = .ok (.iconst 5, 1) := by decide +kernel
theorem dX7_readRow_23 : decode cX7_readRow 23 = .ok (.invokestatic 59, 3) := by decide +kernel
theorem dX7_readRow_26 : decode cX7_readRow 26 = .ok (.iload_n 2, 1) := by decide +kernel
theorem dX7_readRow_27 : decode cX7_readRow 27 = .ok (.bipush 6, 2) := by decide +kernel
theorem dX7_readRow_29 : decode cX7_readRow 29 = .ok (.iadd, 1) := by decide +kernel
theorem dX7_readRow_30 : decode cX7_readRow 30 = .ok (.iconst 5, 1) := by decide +kernel
theorem dX7_readRow_31 : decode cX7_readRow 31 = .ok (.iadd, 1) := by decide +kernel
theorem dX7_readRow_32 : decode cX7_readRow 32 = .ok (.istore_n 3, 1) := by decide +kernel
theorem dX7_readRow_33 : decode cX7_readRow 33 = .ok (.aload_n 0, 1) := by decide +kernel
theorem dX7_readRow_34 : decode cX7_readRow 34 = .ok (.aload_n 1, 1) := by decide +kernel
theorem dX7_readRow_35 : decode cX7_readRow 35 = .ok (.iload_n 3, 1) := by decide +kernel
theorem dX7_readRow_36 : decode cX7_readRow 36 = .ok (.iaload, 1) := by decide +kernel
theorem dX7_readRow_37 : decode cX7_readRow 37 = .ok (.putfield 25, 3) := by decide +kernel
theorem dX7_readRow_40 : decode cX7_readRow 40 = .ok (.aload_n 0, 1) := by decide +kernel
theorem dX7_readRow_41 : decode cX7_readRow 41 = .ok (.aload_n 1, 1) := by decide +kernel
theorem dX7_readRow_42 : decode cX7_readRow 42 = .ok (.iload_n 3, 1) := by decide +kernel
theorem dX7_readRow_43 : decode cX7_readRow 43 = .ok (.iconst 1, 1) := by decide +kernel
theorem dX7_readRow_44 : decode cX7_readRow 44 = .ok (.iadd, 1) := by decide +kernel
theorem dX7_readRow_45 : decode cX7_readRow 45 = .ok (.iaload, 1) := by decide +kernel
theorem dX7_readRow_46 : decode cX7_readRow 46 = .ok (.putfield 28, 3) := by decide +kernel
theorem dX7_readRow_49 : decode cX7_readRow 49 = .ok (.aload_n 0, 1) := by decide +kernel
theorem dX7_readRow_50 : decode cX7_readRow 50 = .ok (.aload_n 1, 1) := by decide +kernel
theorem dX7_readRow_51 : decode cX7_readRow 51 = .ok (.iload_n 3, 1) := by decide +kernel
theorem dX7_readRow_52 : decode cX7_readRow 52 = .ok (.iconst 2, 1) := by decide +kernel
theorem dX7_readRow_53 : decode cX7_readRow 53 = .ok (.iadd, 1) := by decide +kernel
theorem dX7_readRow_54 : decode cX7_readRow 54 = .ok (.iaload, 1) := by decide +kernel
theorem dX7_readRow_55 : decode cX7_readRow 55 = .ok (.putfield 31, 3) := by decide +kernel
theorem dX7_readRow_58 : decode cX7_readRow 58 = .ok (.aload_n 0, 1) := by decide +kernel
theorem dX7_readRow_59 : decode cX7_readRow 59 = .ok (.aload_n 1, 1) := by decide +kernel
theorem dX7_readRow_60 : decode cX7_readRow 60 = .ok (.iload_n 3, 1) := by decide +kernel
theorem dX7_readRow_61 : decode cX7_readRow 61 = .ok (.iconst 3, 1) := by decide +kernel
theorem dX7_readRow_62 : decode cX7_readRow 62 = .ok (.iadd, 1) := by decide +kernel
theorem dX7_readRow_63 : decode cX7_readRow 63 = .ok (.iaload, 1) := by decide +kernel
theorem dX7_readRow_64 : decode cX7_readRow 64 = .ok (.putfield 21, 3) := by decide +kernel
theorem dX7_readRow_67 : decode cX7_readRow 67 = .ok (.aload_n 0, 1) := by decide +kernel
theorem dX7_readRow_68 : decode cX7_readRow 68 = .ok (.aload_n 1, 1) := by decide +kernel
theorem dX7_readRow_69 : decode cX7_readRow 69 = .ok (.iload_n 3, 1) := by decide +kernel
theorem dX7_readRow_70 : decode cX7_readRow 70 = .ok (.iconst 4, 1) := by decide +kernel
theorem dX7_readRow_71 : decode cX7_readRow 71 = .ok (.iadd, 1) := by decide +kernel
theorem dX7_readRow_72 : decode cX7_readRow 72 = .ok (.iaload, 1) := by decide +kernel
theorem dX7_readRow_73 : decode cX7_readRow 73 = .ok (.putfield 40, 3) := by decide +kernel
theorem dX7_readRow_76 : decode cX7_readRow 76 = .ok (.aload_n 0, 1) := by decide +kernel
theorem dX7_readRow_77 : decode cX7_readRow 77 = .ok (.aload_n 1, 1) := by decide +kernel
theorem dX7_readRow_78 : decode cX7_readRow 78 = .ok (.iload_n 3, 1) := by decide +kernel
theorem dX7_readRow_79 : decode cX7_readRow 79 = .ok (.iconst 5, 1) := by decide +kernel
theorem dX7_readRow_80 : decode cX7_readRow 80 = .ok (.iadd, 1) := by decide +kernel
theorem dX7_readRow_81 : decode cX7_readRow 81 = .ok (.iaload, 1) := by decide +kernel
theorem dX7_readRow_82 : decode cX7_readRow 82 = .ok (.putfield 43, 3) := by decide +kernel
theorem dX7_readRow_85 : decode cX7_readRow 85 = .ok (.return_, 1) := by decide +kernel
theorem dX7_passMonth_0 : decode cX7_passMonth 0 = .ok (.aload_n 0, 1) := by decide +kernel
theorem dX7_passMonth_1 : decode cX7_passMonth 1 = .ok (.dup, 1) := by decide +kernel
theorem dX7_passMonth_2 : decode cX7_passMonth 2 = .ok (.getfield 43, 3) := by decide +kernel
theorem dX7_passMonth_5 : decode cX7_passMonth 5 = .ok (.iconst 1, 1) := by decide +kernel
theorem dX7_passMonth_6 : decode cX7_passMonth 6 = .ok (.iadd, 1) := by decide +kernel
theorem dX7_passMonth_7 : decode cX7_passMonth 7 = .ok (.putfield 43, 3) := by decide +kernel
theorem dX7_passMonth_10 : decode cX7_passMonth 10 = .ok (.aload_n 0, 1) := by decide +kernel
theorem dX7_passMonth_11 : decode cX7_passMonth 11 = .ok (.sipush 999, 3) := by decide +kernel
theorem dX7_passMonth_14 : decode cX7_passMonth 14 = .ok (.aload_n 0, 1) := by decide +kernel
theorem dX7_passMonth_15 : decode cX7_passMonth 15 = .ok (.getfield 40, 3) := by decide +kernel
theorem dX7_passMonth_18 : decode cX7_passMonth 18 = .ok (.iconst 1, 1) := by decide +kernel
theorem dX7_passMonth_19 : decode cX7_passMonth 19 = .ok (.iadd, 1) := by decide +kernel
theorem dX7_passMonth_20 : decode cX7_passMonth 20 = .ok (.invokestatic 65, 3) := by decide +kernel
theorem dX7_passMonth_23 : decode cX7_passMonth 23 = .ok (.putfield 40, 3) := by decide +kernel
theorem dX7_passMonth_26 : decode cX7_passMonth 26 = .ok (.return_, 1) := by decide +kernel
theorem dX7_hang_0 : decode cX7_hang 0 = .ok (.aload_n 0, 1) := by decide +kernel
theorem dX7_hang_1 : decode cX7_hang 1 = .ok (.getfield 25, 3) := by decide +kernel
theorem dX7_hang_4 : decode cX7_hang 4 = .ok (.iconst 4, 1) := by decide +kernel
theorem dX7_hang_5 : decode cX7_hang 5 = .ok (.imul, 1) := by decide +kernel
theorem dX7_hang_6 : decode cX7_hang 6 = .ok (.istore 4, 2) := by decide +kernel
theorem dX7_hang_8 : decode cX7_hang 8 = .ok (.aload_n 0, 1) := by decide +kernel
theorem dX7_hang_9 : decode cX7_hang 9 = .ok (.getfield 18, 3) := by decide +kernel
theorem dX7_hang_12 : decode cX7_hang 12 = .ok (.iload 4, 2) := by decide +kernel
theorem dX7_hang_14 : decode cX7_hang 14 = .ok (.iconst 0, 1) := by decide +kernel
theorem dX7_hang_15 : decode cX7_hang 15 = .ok (.iadd, 1) := by decide +kernel
theorem dX7_hang_16 : decode cX7_hang 16 = .ok (.iload_n 1, 1) := by decide +kernel
theorem dX7_hang_17 : decode cX7_hang 17 = .ok (.iastore, 1) := by decide +kernel
theorem dX7_hang_18 : decode cX7_hang 18 = .ok (.aload_n 0, 1) := by decide +kernel
theorem dX7_hang_19 : decode cX7_hang 19 = .ok (.getfield 18, 3) := by decide +kernel
theorem dX7_hang_22 : decode cX7_hang 22 = .ok (.iload 4, 2) := by decide +kernel
theorem dX7_hang_24 : decode cX7_hang 24 = .ok (.iconst 1, 1) := by decide +kernel
theorem dX7_hang_25 : decode cX7_hang 25 = .ok (.iadd, 1) := by decide +kernel
theorem dX7_hang_26 : decode cX7_hang 26 = .ok (.iload_n 2, 1) := by decide +kernel
theorem dX7_hang_27 : decode cX7_hang 27 = .ok (.iastore, 1) := by decide +kernel
theorem dX7_hang_28 : decode cX7_hang 28 = .ok (.aload_n 0, 1) := by decide +kernel
theorem dX7_hang_29 : decode cX7_hang 29 = .ok (.getfield 18, 3) := by decide +kernel
theorem dX7_hang_32 : decode cX7_hang 32 = .ok (.iload 4, 2) := by decide +kernel
theorem dX7_hang_34 : decode cX7_hang 34 = .ok (.iconst 2, 1) := by decide +kernel
theorem dX7_hang_35 : decode cX7_hang 35 = .ok (.iadd, 1) := by decide +kernel
theorem dX7_hang_36 : decode cX7_hang 36 = .ok (.iload_n 3, 1) := by decide +kernel
theorem dX7_hang_37 : decode cX7_hang 37 = .ok (.iastore, 1) := by decide +kernel
theorem dX7_hang_38 : decode cX7_hang 38 = .ok (.aload_n 0, 1) := by decide +kernel
theorem dX7_hang_39 : decode cX7_hang 39 = .ok (.getfield 18, 3) := by decide +kernel
theorem dX7_hang_42 : decode cX7_hang 42 = .ok (.iload 4, 2) := by decide +kernel
theorem dX7_hang_44 : decode cX7_hang 44 = .ok (.iconst 3, 1) := by decide +kernel
theorem dX7_hang_45 : decode cX7_hang 45 = .ok (.iadd, 1) := by decide +kernel
theorem dX7_hang_46 : decode cX7_hang 46 = .ok (.aload_n 0, 1) := by decide +kernel
theorem dX7_hang_47 : decode cX7_hang 47 = .ok (.getfield 43, 3) := by decide +kernel
theorem dX7_hang_50 : decode cX7_hang 50 = .ok (.iastore, 1) := by decide +kernel
theorem dX7_hang_51 : decode cX7_hang 51 = .ok (.aload_n 0, 1) := by decide +kernel
theorem dX7_hang_52 : decode cX7_hang 52 = .ok (.dup, 1) := by decide +kernel
theorem dX7_hang_53 : decode cX7_hang 53 = .ok (.getfield 25, 3) := by decide +kernel
theorem dX7_hang_56 : decode cX7_hang 56 = .ok (.iconst 1, 1) := by decide +kernel
theorem dX7_hang_57 : decode cX7_hang 57 = .ok (.iadd, 1) := by decide +kernel
theorem dX7_hang_58 : decode cX7_hang 58 = .ok (.putfield 25, 3) := by decide +kernel
theorem dX7_hang_61 : decode cX7_hang 61 = .ok (.return_, 1) := by decide +kernel
theorem dX7_ofPortrait_0 : decode cX7_ofPortrait 0 = .ok (.aload_n 0, 1) := by decide +kernel
theorem dX7_ofPortrait_1 : decode cX7_ofPortrait 1 = .ok (.getfield 18, 3) := by decide +kernel
theorem dX7_ofPortrait_4 : decode cX7_ofPortrait 4 = .ok (.iload_n 1, 1) := by decide +kernel
theorem dX7_ofPortrait_5 : decode cX7_ofPortrait 5 = .ok (.iconst 4, 1) := by decide +kernel
theorem dX7_ofPortrait_6 : decode cX7_ofPortrait 6 = .ok (.imul, 1) := by decide +kernel
theorem dX7_ofPortrait_7 : decode cX7_ofPortrait 7 = .ok (.iload_n 2, 1) := by decide +kernel
theorem dX7_ofPortrait_8 : decode cX7_ofPortrait 8 = .ok (.iadd, 1) := by decide +kernel
theorem dX7_ofPortrait_9 : decode cX7_ofPortrait 9 = .ok (.iaload, 1) := by decide +kernel
theorem dX7_ofPortrait_10 : decode cX7_ofPortrait 10 = .ok (.ireturn, 1) := by decide +kernel
theorem dX7_latestBy_0 : decode cX7_latestBy 0 = .ok (.aload_n 0, 1) := by decide +kernel
theorem dX7_latestBy_1 : decode cX7_latestBy 1 = .ok (.getfield 25, 3) := by decide +kernel
theorem dX7_latestBy_4 : decode cX7_latestBy 4 = .ok (.iconst 1, 1) := by decide +kernel
theorem dX7_latestBy_5 : decode cX7_latestBy 5 = .ok (.isub, 1) := by decide +kernel
theorem dX7_latestBy_6 : decode cX7_latestBy 6 = .ok (.istore_n 2, 1) := by decide +kernel
theorem dX7_latestBy_7 : decode cX7_latestBy 7 = .ok (.iload_n 2, 1) := by decide +kernel
theorem dX7_latestBy_8 : decode cX7_latestBy 8 = .ok (.ifCond .lt 21, 3) := by decide +kernel
theorem dX7_latestBy_11 : decode cX7_latestBy 11 = .ok (.aload_n 0, 1) := by decide +kernel
theorem dX7_latestBy_12 : decode cX7_latestBy 12 = .ok (.iload_n 2, 1) := by decide +kernel
theorem dX7_latestBy_13 : decode cX7_latestBy 13 = .ok (.iconst 1, 1) := by decide +kernel
theorem dX7_latestBy_14 : decode cX7_latestBy 14 = .ok (.invokevirtual 70, 3) := by decide +kernel
theorem dX7_latestBy_17 : decode cX7_latestBy 17 = .ok (.iload_n 1, 1) := by decide +kernel
theorem dX7_latestBy_18 : decode cX7_latestBy 18 = .ok (.if_icmp .ne 5, 3) := by decide +kernel
theorem dX7_latestBy_21 : decode cX7_latestBy 21 = .ok (.iload_n 2, 1) := by decide +kernel
theorem dX7_latestBy_22 : decode cX7_latestBy 22 = .ok (.ireturn, 1) := by decide +kernel
theorem dX7_latestBy_23 : decode cX7_latestBy 23 = .ok (.iinc 2 (-1), 3) := by decide +kernel
theorem dX7_latestBy_26 : decode cX7_latestBy 26 = .ok (.goto (-19), 3) := by decide +kernel
theorem dX7_latestBy_29 : decode cX7_latestBy 29 = .ok (.iconst (-1), 1) := by decide +kernel
theorem dX7_latestBy_30 : decode cX7_latestBy 30 = .ok (.ireturn, 1) := by decide +kernel
theorem dX7_portraitsOf_0 : decode cX7_portraitsOf 0 = .ok (.iconst 0, 1) := by decide +kernel
theorem dX7_portraitsOf_1 : decode cX7_portraitsOf 1 = .ok (.istore_n 2, 1) := by decide +kernel
theorem dX7_portraitsOf_2 : decode cX7_portraitsOf 2 = .ok (.iconst 0, 1) := by decide +kernel
theorem dX7_portraitsOf_3 : decode cX7_portraitsOf 3 = .ok (.istore_n 3, 1) := by decide +kernel
theorem dX7_portraitsOf_4 : decode cX7_portraitsOf 4 = .ok (.iload_n 3, 1) := by decide +kernel
theorem dX7_portraitsOf_5 : decode cX7_portraitsOf 5 = .ok (.aload_n 0, 1) := by decide +kernel
theorem dX7_portraitsOf_6 : decode cX7_portraitsOf 6 = .ok (.getfield 25, 3) := by decide +kernel
theorem dX7_portraitsOf_9 : decode cX7_portraitsOf 9 = .ok (.if_icmp .ge 22, 3) := by decide +kernel
theorem dX7_portraitsOf_12 : decode cX7_portraitsOf 12 = .ok (.aload_n 0, 1) := by decide +kernel
theorem dX7_portraitsOf_13 : decode cX7_portraitsOf 13 = .ok (.iload_n 3, 1) := by decide +kernel
theorem dX7_portraitsOf_14 : decode cX7_portraitsOf 14 = .ok (.iconst 0, 1) := by decide +kernel
theorem dX7_portraitsOf_15 : decode cX7_portraitsOf 15 = .ok (.invokevirtual 70, 3) := by decide +kernel
theorem dX7_portraitsOf_18 : decode cX7_portraitsOf 18 = .ok (.iload_n 1, 1) := by decide +kernel
theorem dX7_portraitsOf_19 : decode cX7_portraitsOf 19 = .ok (.if_icmp .ne 6, 3) := by decide +kernel
theorem dX7_portraitsOf_22 : decode cX7_portraitsOf 22 = .ok (.iinc 2 1, 3) := by decide +kernel
theorem dX7_portraitsOf_25 : decode cX7_portraitsOf 25 = .ok (.iinc 3 1, 3) := by decide +kernel
theorem dX7_portraitsOf_28 : decode cX7_portraitsOf 28 = .ok (.goto (-24), 3) := by decide +kernel
theorem dX7_portraitsOf_31 : decode cX7_portraitsOf 31 = .ok (.iload_n 2, 1) := by decide +kernel
theorem dX7_portraitsOf_32 : decode cX7_portraitsOf 32 = .ok (.ireturn, 1) := by decide +kernel
theorem dX7_shownTogether_0 : decode cX7_shownTogether 0 = .ok (.iconst 0, 1) := by decide +kernel
theorem dX7_shownTogether_1 : decode cX7_shownTogether 1 = .ok (.istore_n 2, 1) := by decide +kernel
theorem dX7_shownTogether_2 : decode cX7_shownTogether 2 = .ok (.iconst 0, 1) := by decide +kernel
theorem dX7_shownTogether_3 : decode cX7_shownTogether 3 = .ok (.istore_n 3, 1) := by decide +kernel
theorem dX7_shownTogether_4 : decode cX7_shownTogether 4 = .ok (.iload_n 3, 1) := by decide +kernel
theorem dX7_shownTogether_5 : decode cX7_shownTogether 5 = .ok (.aload_n 0, 1) := by decide +kernel
theorem dX7_shownTogether_6 : decode cX7_shownTogether 6 = .ok (.getfield 25, 3) := by decide +kernel
theorem dX7_shownTogether_9 : decode cX7_shownTogether 9 = .ok (.if_icmp .ge 28, 3) := by decide +kernel
theorem dX7_shownTogether_12 : decode cX7_shownTogether 12 = .ok (.aload_n 0, 1) := by decide +kernel
theorem dX7_shownTogether_13 : decode cX7_shownTogether 13 = .ok (.iload_n 3, 1) := by decide +kernel
theorem dX7_shownTogether_14 : decode cX7_shownTogether 14 = .ok (.iconst 0, 1) := by decide +kernel
theorem dX7_shownTogether_15 : decode cX7_shownTogether 15 = .ok (.invokevirtual 70, 3) := by decide +kernel
theorem dX7_shownTogether_18 : decode cX7_shownTogether 18 = .ok (.iload_n 1, 1) := by decide +kernel
theorem dX7_shownTogether_19 : decode cX7_shownTogether 19 = .ok (.if_icmp .ne 12, 3) := by decide +kernel
theorem dX7_shownTogether_22 : decode cX7_shownTogether 22 = .ok (.iload_n 2, 1) := by decide +kernel
theorem dX7_shownTogether_23 : decode cX7_shownTogether 23 = .ok (.aload_n 0, 1) := by decide +kernel
theorem dX7_shownTogether_24 : decode cX7_shownTogether 24 = .ok (.iload_n 3, 1) := by decide +kernel
theorem dX7_shownTogether_25 : decode cX7_shownTogether 25 = .ok (.iconst 2, 1) := by decide +kernel
theorem dX7_shownTogether_26 : decode cX7_shownTogether 26 = .ok (.invokevirtual 70, 3) := by decide +kernel
theorem dX7_shownTogether_29 : decode cX7_shownTogether 29 = .ok (.iadd, 1) := by decide +kernel
theorem dX7_shownTogether_30 : decode cX7_shownTogether 30 = .ok (.istore_n 2, 1) := by decide +kernel
theorem dX7_shownTogether_31 : decode cX7_shownTogether 31 = .ok (.iinc 3 1, 3) := by decide +kernel
theorem dX7_shownTogether_34 : decode cX7_shownTogether 34 = .ok (.goto (-30), 3) := by decide +kernel
theorem dX7_shownTogether_37 : decode cX7_shownTogether 37 = .ok (.iload_n 2, 1) := by decide +kernel
theorem dX7_shownTogether_38 : decode cX7_shownTogether 38 = .ok (.ireturn, 1) := by decide +kernel
theorem dX10_gain_0 : decode cX10_gain 0 = .ok (.iload_n 0, 1) := by decide +kernel
theorem dX10_gain_1 : decode cX10_gain 1 = .ok (.iload_n 1, 1) := by decide +kernel
theorem dX10_gain_2 : decode cX10_gain 2 = .ok (.if_icmp .le 8, 3) := by decide +kernel
theorem dX10_gain_5 : decode cX10_gain 5 = .ok (.bipush 6, 2) := by decide +kernel
theorem dX10_gain_7 : decode cX10_gain 7 = .ok (.goto 13, 3) := by decide +kernel
theorem dX10_gain_10 : decode cX10_gain 10 = .ok (.iload_n 0, 1) := by decide +kernel
theorem dX10_gain_11 : decode cX10_gain 11 = .ok (.iload_n 1, 1) := by decide +kernel
theorem dX10_gain_12 : decode cX10_gain 12 = .ok (.if_icmp .ne 7, 3) := by decide +kernel
theorem dX10_gain_15 : decode cX10_gain 15 = .ok (.iconst 3, 1) := by decide +kernel
theorem dX10_gain_16 : decode cX10_gain 16 = .ok (.goto 4, 3) := by decide +kernel
theorem dX10_gain_19 : decode cX10_gain 19 = .ok (.iconst 0, 1) := by decide +kernel
theorem dX10_gain_20 : decode cX10_gain 20 = .ok (.istore_n 3, 1) := by decide +kernel
theorem dX10_gain_21 : decode cX10_gain 21 = .ok (.iload_n 3, 1) := by decide +kernel
theorem dX10_gain_22 : decode cX10_gain 22 = .ok (.iload_n 2, 1) := by decide +kernel
theorem dX10_gain_23 : decode cX10_gain 23 = .ok (.iconst 2, 1) := by decide +kernel
theorem dX10_gain_24 : decode cX10_gain 24 = .ok (.idiv, 1) := by decide +kernel
theorem dX10_gain_25 : decode cX10_gain 25 = .ok (.isub, 1) := by decide +kernel
theorem dX10_gain_26 : decode cX10_gain 26 = .ok (.ireturn, 1) := by decide +kernel
theorem dX10_hasCourt_0 : decode cX10_hasCourt 0 = .ok (.aload_n 0, 1) := by decide +kernel
theorem dX10_hasCourt_1 : decode cX10_hasCourt 1 = .ok (.getfield 37, 3) := by decide +kernel
theorem dX10_hasCourt_4 : decode cX10_hasCourt 4 = .ok (.getfield 134, 3) := by decide +kernel
theorem dX10_hasCourt_7 : decode cX10_hasCourt 7 = .ok (.ifCond .le 7, 3) := by decide +kernel
theorem dX10_hasCourt_10 : decode cX10_hasCourt 10 = .ok (.iconst 1, 1) := by decide +kernel
theorem dX10_hasCourt_11 : decode cX10_hasCourt 11 = .ok (.goto 4, 3) := by decide +kernel
theorem dX10_hasCourt_14 : decode cX10_hasCourt 14 = .ok (.iconst 0, 1) := by decide +kernel
theorem dX10_hasCourt_15 : decode cX10_hasCourt 15 = .ok (.ireturn, 1) := by decide +kernel
theorem dX10_isBride_0 : decode cX10_isBride 0 = .ok (.iload_n 1, 1) := by decide +kernel
theorem dX10_isBride_1 : decode cX10_isBride 1 = .ok (.ifCond .lt 18, 3) := by decide +kernel
theorem dX10_isBride_4 : decode cX10_isBride 4 = .ok (.iload_n 1, 1) := by decide +kernel
theorem dX10_isBride_5 : decode cX10_isBride 5 = .ok (.aload_n 0, 1) := by decide +kernel
theorem dX10_isBride_6 : decode cX10_isBride 6 = .ok (.getfield 37, 3) := by decide +kernel
theorem dX10_isBride_9 : decode cX10_isBride 9 = .ok (.getfield 134, 3) := by decide +kernel
theorem dX10_isBride_12 : decode cX10_isBride 12 = .ok (.if_icmp .ge 7, 3) := by decide +kernel
theorem dX10_isBride_15 : decode cX10_isBride 15 = .ok (.iconst 1, 1) := by decide +kernel
theorem dX10_isBride_16 : decode cX10_isBride 16 = .ok (.goto 4, 3) := by decide +kernel
theorem dX10_isBride_19 : decode cX10_isBride 19 = .ok (.iconst 0, 1) := by decide +kernel
theorem dX10_isBride_20 : decode cX10_isBride 20 = .ok (.ireturn, 1) := by decide +kernel
theorem dX10_isPainter_0 : decode cX10_isPainter 0 = .ok (.iload_n 1, 1) := by decide +kernel
theorem dX10_isPainter_1 : decode cX10_isPainter 1 = .ok (.ifCond .lt 18, 3) := by decide +kernel
theorem dX10_isPainter_4 : decode cX10_isPainter 4 = .ok (.iload_n 1, 1) := by decide +kernel
theorem dX10_isPainter_5 : decode cX10_isPainter 5 = .ok (.aload_n 0, 1) := by decide +kernel
theorem dX10_isPainter_6 : decode cX10_isPainter 6 = .ok (.getfield 37, 3) := by decide +kernel
theorem dX10_isPainter_9 : decode cX10_isPainter 9 = .ok (.getfield 266, 3) := by decide +kernel
theorem dX10_isPainter_12 : decode cX10_isPainter 12 = .ok (.if_icmp .ge 7, 3) := by decide +kernel
theorem dX10_isPainter_15 : decode cX10_isPainter 15 = .ok (.iconst 1, 1) := by decide +kernel
theorem dX10_isPainter_16 : decode cX10_isPainter 16 = .ok (.goto 4, 3) := by decide +kernel
theorem dX10_isPainter_19 : decode cX10_isPainter 19 = .ok (.iconst 0, 1) := by decide +kernel
theorem dX10_isPainter_20 : decode cX10_isPainter 20 = .ok (.ireturn, 1) := by decide +kernel
theorem dX10_isFace_0 : decode cX10_isFace 0 = .ok (.iload_n 0, 1) := by decide +kernel
theorem dX10_isFace_1 : decode cX10_isFace 1 = .ok (.ifCond .lt 13, 3) := by decide +kernel
theorem dX10_isFace_4 : decode cX10_isFace 4 = .ok (.iload_n 0, 1) := by decide +kernel
theorem dX10_isFace_5 : decode cX10_isFace 5 = .ok (.bipush 10, 2) := by decide +kernel
theorem dX10_isFace_7 : decode cX10_isFace 7 = .ok (.if_icmp .ge 7, 3) := by decide +kernel
theorem dX10_isFace_10 : decode cX10_isFace 10 = .ok (.iconst 1, 1) := by decide +kernel
theorem dX10_isFace_11 : decode cX10_isFace 11 = .ok (.goto 4, 3) := by decide +kernel
theorem dX10_isFace_14 : decode cX10_isFace 14 = .ok (.iconst 0, 1) := by decide +kernel
theorem dX10_isFace_15 : decode cX10_isFace 15 = .ok (.ireturn, 1) := by decide +kernel
theorem dX10_isDigit_0 : decode cX10_isDigit 0 = .ok (.iload_n 0, 1) := by decide +kernel
theorem dX10_isDigit_1 : decode cX10_isDigit 1 = .ok (.ifCond .lt 13, 3) := by decide +kernel
theorem dX10_isDigit_4 : decode cX10_isDigit 4 = .ok (.iload_n 0, 1) := by decide +kernel
theorem dX10_isDigit_5 : decode cX10_isDigit 5 = .ok (.bipush 9, 2) := by decide +kernel
theorem dX10_isDigit_7 : decode cX10_isDigit 7 = .ok (.if_icmp .gt 7, 3) := by decide +kernel
theorem dX10_isDigit_10 : decode cX10_isDigit 10 = .ok (.iconst 1, 1) := by decide +kernel
theorem dX10_isDigit_11 : decode cX10_isDigit 11 = .ok (.goto 4, 3) := by decide +kernel
theorem dX10_isDigit_14 : decode cX10_isDigit 14 = .ok (.iconst 0, 1) := by decide +kernel
theorem dX10_isDigit_15 : decode cX10_isDigit 15 = .ok (.ireturn, 1) := by decide +kernel
theorem dX10_bit_0 : decode cX10_bit 0 = .ok (.iload_n 0, 1) := by decide +kernel
theorem dX10_bit_1 : decode cX10_bit 1 = .ok (.iload_n 1, 1) := by decide +kernel
theorem dX10_bit_2 : decode cX10_bit 2 = .ok (.ishr, 1) := by decide +kernel
theorem dX10_bit_3 : decode cX10_bit 3 = .ok (.iconst 1, 1) := by decide +kernel
theorem dX10_bit_4 : decode cX10_bit 4 = .ok (.iand, 1) := by decide +kernel
theorem dX10_bit_5 : decode cX10_bit 5 = .ok (.ireturn, 1) := by decide +kernel
