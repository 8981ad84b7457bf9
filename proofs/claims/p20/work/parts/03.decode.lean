theorem dX0_keep_0 : decode cX0_keep 0 = .ok (.aload_n 1, 1) := by decide +kernel
theorem dX0_keep_1 : decode cX0_keep 1 = .ok (.aload_n 0, 1) := by decide +kernel
theorem dX0_keep_2 : decode cX0_keep 2 = .ok (.getfield 11, 3) := by decide +kernel
theorem dX0_keep_5 : decode cX0_keep 5 = .ok (.aload_n 0, 1) := by decide +kernel
theorem dX0_keep_6 : decode cX0_keep 6 = .ok (.getfield 17, 3) := by decide +kernel
theorem dX0_keep_9 : decode cX0_keep 9 = .ok (.bipush 17, 2) := by decide +kernel
theorem dX0_keep_11 : decode cX0_keep 11 = .ok (.imul, 1) := by decide +kernel
theorem dX0_keep_12 : decode cX0_keep 12 = .ok (.invokevirtual 21, 3) := by decide +kernel
theorem dX0_keep_15 : decode cX0_keep 15 = .ok (.aload_n 0, 1) := by decide +kernel
theorem dX0_keep_16 : decode cX0_keep 16 = .ok (.aload_n 0, 1) := by decide +kernel
theorem dX0_keep_17 : decode cX0_keep 17 = .ok (.getfield 17, 3) := by decide +kernel
theorem dX0_keep_20 : decode cX0_keep 20 = .ok (.iconst 1, 1) := by decide +kernel
theorem dX0_keep_21 : decode cX0_keep 21 = .ok (.iadd, 1) := by decide +kernel
theorem dX0_keep_22 : decode cX0_keep 22 = .ok (.bipush 40, 2) := by decide +kernel
theorem dX0_keep_24 : decode cX0_keep 24 = .ok (.irem, 1) := by decide +kernel
theorem dX0_keep_25 : decode cX0_keep 25 = .ok (.putfield 17, 3) := by decide +kernel
theorem dX0_keep_28 : decode cX0_keep 28 = .ok (.aload_n 0, 1) := by decide +kernel
theorem dX0_keep_29 : decode cX0_keep 29 = .ok (.bipush 40, 2) := by decide +kernel
theorem dX0_keep_31 : decode cX0_keep 31 = .ok (.aload_n 0, 1) := by decide +kernel
theorem dX0_keep_32 : decode cX0_keep 32 = .ok (.getfield 25, 3) := by decide +kernel
theorem dX0_keep_35 : decode cX0_keep 35 = .ok (.iconst 1, 1) := by decide +kernel
theorem dX0_keep_36 : decode cX0_keep 36 = .ok (.iadd, 1) := by decide +kernel
theorem dX0_keep_37 : decode cX0_keep 37 = .ok (.invokestatic 28, 3) := by decide +kernel
theorem dX0_keep_40 : decode cX0_keep 40 = .ok (.putfield 25, 3) := by decide +kernel
theorem dX0_keep_43 : decode cX0_keep 43 = .ok (.return_, 1) := by decide +kernel
theorem dX0_takeBack_0 : decode cX0_takeBack 0 = .ok (.aload_n 0, 1) := by decide +kernel
theorem dX0_takeBack_1 : decode cX0_takeBack 1 = .ok (.getfield 25, 3) := by decide +kernel
theorem dX0_takeBack_4 : decode cX0_takeBack 4 = .ok (.ifCond .ne 5, 3) := by decide +kernel
theorem dX0_takeBack_7 : decode cX0_takeBack 7 = .ok (.iconst 0, 1) := by decide +kernel
theorem dX0_takeBack_8 : decode cX0_takeBack 8 = .ok (.ireturn, 1) := by decide +kernel
theorem dX0_takeBack_9 : decode cX0_takeBack 9 = .ok (.aload_n 0, 1) := by decide +kernel
theorem dX0_takeBack_10 : decode cX0_takeBack 10 = .ok (.aload_n 0, 1) := by decide +kernel
theorem dX0_takeBack_11 : decode cX0_takeBack 11 = .ok (.getfield 17, 3) := by decide +kernel
theorem dX0_takeBack_14 : decode cX0_takeBack 14 = .ok (.bipush 40, 2) := by decide +kernel
theorem dX0_takeBack_16 : decode cX0_takeBack 16 = .ok (.iadd, 1) := by decide +kernel
theorem dX0_takeBack_17 : decode cX0_takeBack 17 = .ok (.iconst 1, 1) := by decide +kernel
theorem dX0_takeBack_18 : decode cX0_takeBack 18 = .ok (.isub, 1) := by decide +kernel
theorem dX0_takeBack_19 : decode cX0_takeBack 19 = .ok (.bipush 40, 2) := by decide +kernel
theorem dX0_takeBack_21 : decode cX0_takeBack 21 = .ok (.irem, 1) := by decide +kernel
theorem dX0_takeBack_22 : decode cX0_takeBack 22 = .ok (.putfield 17, 3) := by decide +kernel
theorem dX0_takeBack_25 : decode cX0_takeBack 25 = .ok (.aload_n 0, 1) := by decide +kernel
theorem dX0_takeBack_26 : decode cX0_takeBack 26 = .ok (.dup, 1) := by decide +kernel
theorem dX0_takeBack_27 : decode cX0_takeBack 27 = .ok (.getfield 25, 3) := by decide +kernel
theorem dX0_takeBack_30 : decode cX0_takeBack 30 = .ok (.iconst 1, 1) := by decide +kernel
theorem dX0_takeBack_31 : decode cX0_takeBack 31 = .ok (.isub, 1) := by decide +kernel
theorem dX0_takeBack_32 : decode cX0_takeBack 32 = .ok (.putfield 25, 3) := by decide +kernel
theorem dX0_takeBack_35 : decode cX0_takeBack 35 = .ok (.aload_n 1, 1) := by decide +kernel
theorem dX0_takeBack_36 : decode cX0_takeBack 36 = .ok (.aload_n 0, 1) := by decide +kernel
theorem dX0_takeBack_37 : decode cX0_takeBack 37 = .ok (.getfield 11, 3) := by decide +kernel
theorem dX0_takeBack_40 : decode cX0_takeBack 40 = .ok (.aload_n 0, 1) := by decide +kernel
theorem dX0_takeBack_41 : decode cX0_takeBack 41 = .ok (.getfield 17, 3) := by decide +kernel
theorem dX0_takeBack_44 : decode cX0_takeBack 44 = .ok (.bipush 17, 2) := by decide +kernel
theorem dX0_takeBack_46 : decode cX0_takeBack 46 = .ok (.imul, 1) := by decide +kernel
theorem dX0_takeBack_47 : decode cX0_takeBack 47 = .ok (.invokevirtual 34, 3) := by decide +kernel
theorem dX0_takeBack_50 : decode cX0_takeBack 50 = .ok (.iconst 1, 1) := by decide +kernel
theorem dX0_takeBack_51 : decode cX0_takeBack 51 = .ok (.ireturn, 1) := by decide +kernel
theorem dX0_forget_0 : decode cX0_forget 0 = .ok (.aload_n 0, 1) := by decide +kernel
theorem dX0_forget_1 : decode cX0_forget 1 = .ok (.iconst 0, 1) := by decide +kernel
theorem dX0_forget_2 : decode cX0_forget 2 = .ok (.putfield 25, 3) := by decide +kernel
theorem dX0_forget_5 : decode cX0_forget 5 = .ok (.return_, 1) := by decide +kernel
theorem dX1_firstPurse_0 : decode cX1_firstPurse 0 = .ok (.aload_n 0, 1) := by decide +kernel
theorem dX1_firstPurse_1 : decode cX1_firstPurse 1 = .ok (.getfield 9, 3) := by decide +kernel
theorem dX1_firstPurse_4 : decode cX1_firstPurse 4 = .ok (.iconst 0, 1) := by decide +kernel
theorem dX1_firstPurse_5 : decode cX1_firstPurse 5 = .ok (.iaload, 1) := by decide +kernel
theorem dX1_firstPurse_6 : decode cX1_firstPurse 6 = .ok (.ireturn, 1) := by decide +kernel
theorem dX1_wantOfFace_0 : decode cX1_wantOfFace 0 = .ok (.aload_n 0, 1) := by decide +kernel
theorem dX1_wantOfFace_1 : decode cX1_wantOfFace 1 = .ok (.getfield 9, 3) := by decide +kernel
theorem dX1_wantOfFace_4 : decode cX1_wantOfFace 4 = .ok (.iconst 1, 1) := by decide +kernel
theorem dX1_wantOfFace_5 : decode cX1_wantOfFace 5 = .ok (.iaload, 1) := by decide +kernel
theorem dX1_wantOfFace_6 : decode cX1_wantOfFace 6 = .ok (.ireturn, 1) := by decide +kernel
theorem dX1_wantOfDowry_0 : decode cX1_wantOfDowry 0 = .ok (.aload_n 0, 1) := by decide +kernel
theorem dX1_wantOfDowry_1 : decode cX1_wantOfDowry 1 = .ok (.getfield 9, 3) := by decide +kernel
theorem dX1_wantOfDowry_4 : decode cX1_wantOfDowry 4 = .ok (.iconst 2, 1) := by decide +kernel
theorem dX1_wantOfDowry_5 : decode cX1_wantOfDowry 5 = .ok (.iaload, 1) := by decide +kernel
theorem dX1_wantOfDowry_6 : decode cX1_wantOfDowry 6 = .ok (.ireturn, 1) := by decide +kernel
theorem dX1_ofBride_0 : decode cX1_ofBride 0 = .ok (.aload_n 0, 1) := by decide +kernel
theorem dX1_ofBride_1 : decode cX1_ofBride 1 = .ok (.getfield 15, 3) := by decide +kernel
theorem dX1_ofBride_4 : decode cX1_ofBride 4 = .ok (.iload_n 1, 1) := by decide +kernel
theorem dX1_ofBride_5 : decode cX1_ofBride 5 = .ok (.iconst 4, 1) := by decide +kernel
theorem dX1_ofBride_6 : decode cX1_ofBride 6 = .ok (.imul, 1) := by decide +kernel
theorem dX1_ofBride_7 : decode cX1_ofBride 7 = .ok (.iload_n 2, 1) := by decide +kernel
theorem dX1_ofBride_8 : decode cX1_ofBride 8 = .ok (.iadd, 1) := by decide +kernel
theorem dX1_ofBride_9 : decode cX1_ofBride 9 = .ok (.iaload, 1) := by decide +kernel
theorem dX1_ofBride_10 : decode cX1_ofBride 10 = .ok (.ireturn, 1) := by decide +kernel
theorem dX1_ofPainter_0 : decode cX1_ofPainter 0 = .ok (.aload_n 0, 1) := by decide +kernel
theorem dX1_ofPainter_1 : decode cX1_ofPainter 1 = .ok (.getfield 18, 3) := by decide +kernel
theorem dX1_ofPainter_4 : decode cX1_ofPainter 4 = .ok (.iload_n 1, 1) := by decide +kernel
theorem dX1_ofPainter_5 : decode cX1_ofPainter 5 = .ok (.iconst 4, 1) := by decide +kernel
theorem dX1_ofPainter_6 : decode cX1_ofPainter 6 = .ok (.imul, 1) := by decide +kernel
theorem dX1_ofPainter_7 : decode cX1_ofPainter 7 = .ok (.iload_n 2, 1) := by decide +kernel
theorem dX1_ofPainter_8 : decode cX1_ofPainter 8 = .ok (.iadd, 1) := by decide +kernel
theorem dX1_ofPainter_9 : decode cX1_ofPainter 9 = .ok (.iaload, 1) := by decide +kernel
theorem dX1_ofPainter_10 : decode cX1_ofPainter 10 = .ok (.ireturn, 1) := by decide +kernel
theorem dX1_faceOf_0 : decode cX1_faceOf 0 = .ok (.aload_n 0, 1) := by decide +kernel
theorem dX1_faceOf_1 : decode cX1_faceOf 1 = .ok (.iload_n 1, 1) := by decide +kernel
theorem dX1_faceOf_2 : decode cX1_faceOf 2 = .ok (.iconst 0, 1) := by decide +kernel
theorem dX1_faceOf_3 : decode cX1_faceOf 3 = .ok (.invokevirtual 34, 3) := by decide +kernel
theorem dX1_faceOf_6 : decode cX1_faceOf 6 = .ok (.ireturn, 1) := by decide +kernel
theorem dX1_dowryOf_0 : decode cX1_dowryOf 0 = .ok (.aload_n 0, 1) := by decide +kernel
theorem dX1_dowryOf_1 : decode cX1_dowryOf 1 = .ok (.iload_n 1, 1) := by decide +kernel
theorem dX1_dowryOf_2 : decode cX1_dowryOf 2 = .ok (.iconst 1, 1) := by decide +kernel
theorem dX1_dowryOf_3 : decode cX1_dowryOf 3 = .ok (.invokevirtual 34, 3) := by decide +kernel
theorem dX1_dowryOf_6 : decode cX1_dowryOf 6 = .ok (.ireturn, 1) := by decide +kernel
theorem dX1_wartsOf_0 : decode cX1_wartsOf 0 = .ok (.aload_n 0, 1) := by decide +kernel
theorem dX1_wartsOf_1 : decode cX1_wartsOf 1 = .ok (.iload_n 1, 1) := by decide +kernel
theorem dX1_wartsOf_2 : decode cX1_wartsOf 2 = .ok (.iconst 2, 1) := by decide +kernel
theorem dX1_wartsOf_3 : decode cX1_wartsOf 3 = .ok (.invokevirtual 34, 3) := by decide +kernel
theorem dX1_wartsOf_6 : decode cX1_wartsOf 6 = .ok (.ireturn, 1) := by decide +kernel
theorem dX1_skillOf_0 : decode cX1_skillOf 0 = .ok (.aload_n 0, 1) := by decide +kernel
theorem dX1_skillOf_1 : decode cX1_skillOf 1 = .ok (.iload_n 1, 1) := by decide +kernel
theorem dX1_skillOf_2 : decode cX1_skillOf 2 = .ok (.iconst 0, 1) := by decide +kernel
theorem dX1_skillOf_3 : decode cX1_skillOf 3 = .ok (.invokevirtual 38, 3) := by decide +kernel
theorem dX1_skillOf_6 : decode cX1_skillOf 6 = .ok (.ireturn, 1) := by decide +kernel
theorem dX1_feeOf_0 : decode cX1_feeOf 0 = .ok (.aload_n 0, 1) := by decide +kernel
theorem dX1_feeOf_1 : decode cX1_feeOf 1 = .ok (.iload_n 1, 1) := by decide +kernel
theorem dX1_feeOf_2 : decode cX1_feeOf 2 = .ok (.iconst 1, 1) := by decide +kernel
theorem dX1_feeOf_3 : decode cX1_feeOf 3 = .ok (.invokevirtual 38, 3) := by decide +kernel
theorem dX1_feeOf_6 : decode cX1_feeOf 6 = .ok (.ireturn, 1) := by decide +kernel
theorem dX1_kindOf_0 : decode cX1_kindOf 0 = .ok (.aload_n 0, 1) := by decide +kernel
theorem dX1_kindOf_1 : decode cX1_kindOf 1 = .ok (.iload_n 1, 1) := by decide +kernel
theorem dX1_kindOf_2 : decode cX1_kindOf 2 = .ok (.iconst 3, 1) := by decide +kernel
theorem dX1_kindOf_3 : decode cX1_kindOf 3 = .ok (.invokevirtual 38, 3) := by decide +kernel
theorem dX1_kindOf_6 : decode cX1_kindOf 6 = .ok (.ireturn, 1) := by decide +kernel
theorem dX1_worthWith_0 : decode cX1_worthWith 0 = .ok (.iload_n 2, 1) := by decide +kernel
theorem dX1_worthWith_1 : decode cX1_worthWith 1 = .ok (.aload_n 0, 1) := by decide +kernel
theorem dX1_worthWith_2 : decode cX1_worthWith 2 = .ok (.invokevirtual 41, 3) := by decide +kernel
theorem dX1_worthWith_5 : decode cX1_worthWith 5 = .ok (.imul, 1) := by decide +kernel
theorem dX1_worthWith_6 : decode cX1_worthWith 6 = .ok (.aload_n 0, 1) := by decide +kernel
theorem dX1_worthWith_7 : decode cX1_worthWith 7 = .ok (.iload_n 1, 1) := by decide +kernel
theorem dX1_worthWith_8 : decode cX1_worthWith 8 = .ok (.invokevirtual 45, 3) := by decide +kernel
theorem dX1_worthWith_11 : decode cX1_worthWith 11 = .ok (.bipush 10, 2) := by decide +kernel
theorem dX1_worthWith_13 : decode cX1_worthWith 13 = .ok (.idiv, 1) := by decide +kernel
theorem dX1_worthWith_14 : decode cX1_worthWith 14 = .ok (.aload_n 0, 1) := by decide +kernel
theorem dX1_worthWith_15 : decode cX1_worthWith 15 = .ok (.invokevirtual 49, 3) := by decide +kernel
theorem dX1_worthWith_18 : decode cX1_worthWith 18 = .ok (.imul, 1) := by decide +kernel
theorem dX1_worthWith_19 : decode cX1_worthWith 19 = .ok (.iadd, 1) := by decide +kernel
theorem dX1_worthWith_20 : decode cX1_worthWith 20 = .ok (.ireturn, 1) := by decide +kernel
theorem dX1_trueWorth_0 : decode cX1_trueWorth 0 = .ok (.aload_n 0, 1) := by decide +kernel
theorem dX1_trueWorth_1 : decode cX1_trueWorth 1 = .ok (.iload_n 1, 1) := by decide +kernel
theorem dX1_trueWorth_2 : decode cX1_trueWorth 2 = .ok (.aload_n 0, 1) := by decide +kernel
theorem dX1_trueWorth_3 : decode cX1_trueWorth 3 = .ok (.iload_n 1, 1) := by decide +kernel
theorem dX1_trueWorth_4 : decode cX1_trueWorth 4 = .ok (.invokevirtual 52, 3) := by decide +kernel
theorem dX1_trueWorth_7 : decode cX1_trueWorth 7 = .ok (.invokevirtual 55, 3) := by decide +kernel
theorem dX1_trueWorth_10 : decode cX1_trueWorth 10 = .ok (.ireturn, 1) := by decide +kernel
theorem dX1_topBride_0 : decode cX1_topBride 0 = .ok (.iconst 0, 1) := by decide +kernel
theorem dX1_topBride_1 : decode cX1_topBride 1 = .ok (.istore_n 2, 1) := by decide +kernel
theorem dX1_topBride_2 : decode cX1_topBride 2 = .ok (.iconst 1, 1) := by decide +kernel
theorem dX1_topBride_3 : decode cX1_topBride 3 = .ok (.istore_n 3, 1) := by decide +kernel
theorem dX1_topBride_4 : decode cX1_topBride 4 = .ok (.iload_n 3, 1) := by decide +kernel
theorem dX1_topBride_5 : decode cX1_topBride 5 = .ok (.aload_n 0, 1) := by decide +kernel
theorem dX1_topBride_6 : decode cX1_topBride 6 = .ok (.getfield 21, 3) := by decide +kernel
theorem dX1_topBride_9 : decode cX1_topBride 9 = .ok (.if_icmp .ge 26, 3) := by decide +kernel
theorem dX1_topBride_12 : decode cX1_topBride 12 = .ok (.aload_n 0, 1) := by decide +kernel
theorem dX1_topBride_13 : decode cX1_topBride 13 = .ok (.iload_n 3, 1) := by decide +kernel
theorem dX1_topBride_14 : decode cX1_topBride 14 = .ok (.iload_n 1, 1) := by decide +kernel
theorem dX1_topBride_15 : decode cX1_topBride 15 = .ok (.invokevirtual 34, 3) := by decide +kernel
theorem dX1_topBride_18 : decode cX1_topBride 18 = .ok (.aload_n 0, 1) := by decide +kernel
theorem dX1_topBride_19 : decode cX1_topBride 19 = .ok (.iload_n 2, 1) := by decide +kernel
theorem dX1_topBride_20 : decode cX1_topBride 20 = .ok (.iload_n 1, 1) := by decide +kernel
theorem dX1_topBride_21 : decode cX1_topBride 21 = .ok (.invokevirtual 34, 3) := by decide +kernel
theorem dX1_topBride_24 : decode cX1_topBride 24 = .ok (.if_icmp .le 5, 3) := by decide +kernel
theorem dX1_topBride_27 : decode cX1_topBride 27 = .ok (.iload_n 3, 1) := by decide +kernel
theorem dX1_topBride_28 : decode cX1_topBride 28 = .ok (.istore_n 2, 1) := by decide +kernel
theorem dX1_topBride_29 : decode cX1_topBride 29 = .ok (.iinc 3 1, 3) := by decide +kernel
theorem dX1_topBride_32 : decode cX1_topBride 32 = .ok (.goto (-28), 3) := by decide +kernel
theorem dX1_topBride_35 : decode cX1_topBride 35 = .ok (.iload_n 2, 1) := by decide +kernel
theorem dX1_topBride_36 : decode cX1_topBride 36 = .ok (.ireturn, 1) := by decide +kernel
theorem dX1_cheapPainter_0 : decode cX1_cheapPainter 0 = .ok (.iconst 0, 1) := by decide +kernel
theorem dX1_cheapPainter_1 : decode cX1_cheapPainter 1 = .ok (.istore_n 1, 1) := by decide +kernel
theorem dX1_cheapPainter_2 : decode cX1_cheapPainter 2 = .ok (.iconst 1, 1) := by decide +kernel
theorem dX1_cheapPainter_3 : decode cX1_cheapPainter 3 = .ok (.istore_n 2, 1) := by decide +kernel
theorem dX1_cheapPainter_4 : decode cX1_cheapPainter 4 = .ok (.iload_n 2, 1) := by decide +kernel
theorem dX1_cheapPainter_5 : decode cX1_cheapPainter 5 = .ok (.aload_n 0, 1) := by decide +kernel
theorem dX1_cheapPainter_6 : decode cX1_cheapPainter 6 = .ok (.getfield 25, 3) := by decide +kernel
theorem dX1_cheapPainter_9 : decode cX1_cheapPainter 9 = .ok (.if_icmp .ge 24, 3) := by decide +kernel
theorem dX1_cheapPainter_12 : decode cX1_cheapPainter 12 = .ok (.aload_n 0, 1) := by decide +kernel
theorem dX1_cheapPainter_13 : decode cX1_cheapPainter 13 = .ok (.iload_n 2, 1) := by decide +kernel
theorem dX1_cheapPainter_14 : decode cX1_cheapPainter 14 = .ok (.invokevirtual 58, 3) := by decide +kernel
theorem dX1_cheapPainter_17 : decode cX1_cheapPainter 17 = .ok (.aload_n 0, 1) := by decide +kernel
theorem dX1_cheapPainter_18 : decode cX1_cheapPainter 18 = .ok (.iload_n 1, 1) := by decide +kernel
theorem dX1_cheapPainter_19 : decode cX1_cheapPainter 19 = .ok (.invokevirtual 58, 3) := by decide +kernel
theorem dX1_cheapPainter_22 : decode cX1_cheapPainter 22 = .ok (.if_icmp .ge 5, 3) := by decide +kernel
theorem dX1_cheapPainter_25 : decode cX1_cheapPainter 25 = .ok (.iload_n 2, 1) := by decide +kernel
theorem dX1_cheapPainter_26 : decode cX1_cheapPainter 26 = .ok (.istore_n 1, 1) := by decide +kernel
theorem dX1_cheapPainter_27 : decode cX1_cheapPainter 27 = .ok (.iinc 2 1, 3) := by decide +kernel
theorem dX1_cheapPainter_30 : decode cX1_cheapPainter 30 = .ok (.goto (-26), 3) := by decide +kernel
theorem dX1_cheapPainter_33 : decode cX1_cheapPainter 33 = .ok (.iload_n 1, 1) := by decide +kernel
theorem dX1_cheapPainter_34 : decode cX1_cheapPainter 34 = .ok (.ireturn, 1) := by decide +kernel
theorem dX1_rankByFee_0 : decode cX1_rankByFee 0 = .ok (.iconst 0, 1) := by decide +kernel
theorem dX1_rankByFee_1 : decode cX1_rankByFee 1 = .ok (.istore_n 2, 1) := by decide +kernel
theorem dX1_rankByFee_2 : decode cX1_rankByFee 2 = .ok (.iconst 0, 1) := by decide +kernel
theorem dX1_rankByFee_3 : decode cX1_rankByFee 3 = .ok (.istore_n 3, 1) := by decide +kernel
theorem dX1_rankByFee_4 : decode cX1_rankByFee 4 = .ok (.iload_n 3, 1) := by decide +kernel
theorem dX1_rankByFee_5 : decode cX1_rankByFee 5 = .ok (.aload_n 0, 1) := by decide +kernel
theorem dX1_rankByFee_6 : decode cX1_rankByFee 6 = .ok (.getfield 25, 3) := by decide +kernel
theorem dX1_rankByFee_9 : decode cX1_rankByFee 9 = .ok (.if_icmp .ge 40, 3) := by decide +kernel
theorem dX1_rankByFee_12 : decode cX1_rankByFee 12 = .ok (.aload_n 0, 1) := by decide +kernel
theorem dX1_rankByFee_13 : decode cX1_rankByFee 13 = .ok (.iload_n 3, 1) := by decide +kernel
theorem dX1_rankByFee_14 : decode cX1_rankByFee 14 = .ok (.invokevirtual 58, 3) := by decide +kernel
theorem dX1_rankByFee_17 : decode cX1_rankByFee 17 = .ok (.aload_n 0, 1) := by decide +kernel
theorem dX1_rankByFee_18 : decode cX1_rankByFee 18 = .ok (.iload_n 1, 1) := by decide +kernel
theorem dX1_rankByFee_19 : decode cX1_rankByFee 19 = .ok (.invokevirtual 58, 3) := by decide +kernel
theorem dX1_rankByFee_22 : decode cX1_rankByFee 22 = .ok (.isub, 1) := by decide +kernel
theorem dX1_rankByFee_23 : decode cX1_rankByFee 23 = .ok (.istore 4, 2) := by decide +kernel
theorem dX1_rankByFee_25 : decode cX1_rankByFee 25 = .ok (.iload 4, 2) := by decide +kernel
theorem dX1_rankByFee_27 : decode cX1_rankByFee 27 = .ok (.ifCond .lt 13, 3) := by decide +kernel
theorem dX1_rankByFee_30 : decode cX1_rankByFee 30 = .ok (.iload 4, 2) := by decide +kernel
theorem dX1_rankByFee_32 : decode cX1_rankByFee 32 = .ok (.ifCond .ne 11, 3) := by decide +kernel
theorem dX1_rankByFee_35 : decode cX1_rankByFee 35 = .ok (.iload_n 3, 1) := by decide +kernel
theorem dX1_rankByFee_36 : decode cX1_rankByFee 36 = .ok (.iload_n 1, 1) := by decide +kernel
theorem dX1_rankByFee_37 : decode cX1_rankByFee 37 = .ok (.if_icmp .ge 6, 3) := by decide +kernel
theorem dX1_rankByFee_40 : decode cX1_rankByFee 40 = .ok (.iinc 2 1, 3) := by decide +kernel
theorem dX1_rankByFee_43 : decode cX1_rankByFee 43 = .ok (.iinc 3 1, 3) := by decide +kernel
theorem dX1_rankByFee_46 : decode cX1_rankByFee 46 = .ok (.goto (-42), 3) := by decide +kernel
theorem dX1_rankByFee_49 : decode cX1_rankByFee 49 = .ok (.iload_n 2, 1) := by decide +kernel
theorem dX1_rankByFee_50 : decode cX1_rankByFee 50 = .ok (.ireturn, 1) := by decide +kernel
theorem dX3_begin_0 : decode cX3_begin 0 = .ok (.aload_n 0, 1) := by decide +kernel
theorem dX3_begin_1 : decode cX3_begin 1 = .ok (.lload_n 1, 1) := by decide +kernel
theorem dX3_begin_2 : decode cX3_begin 2 = .ok (.putfield 7, 3) := by decide +kernel
theorem dX3_begin_5 : decode cX3_begin 5 = .ok (.return_, 1) := by decide +kernel
theorem dX3_below_0 : decode cX3_below 0 = .ok (.aload_n 0, 1) := by decide +kernel
theorem dX3_below_1 : decode cX3_below 1 = .ok (.aload_n 0, 1) := by decide +kernel
theorem dX3_below_2 : decode cX3_below 2 = .ok (.getfield 7, 3) := by decide +kernel
theorem dX3_below_5 : decode cX3_below 5 = .ok (.ldc2_w 13, 3) := by decide +kernel
theorem dX3_below_8 : decode cX3_below 8 = .ok (.lmul, 1) := by decide +kernel
theorem dX3_below_9 : decode cX3_below 9 = .ok (.ldc2_w 15, 3) := by decide +kernel
theorem dX3_below_12 : decode cX3_below 12 = .ok (.ladd, 1) := by decide +kernel
theorem dX3_below_13 : decode cX3_below 13 = .ok (.putfield 7, 3) := by decide +kernel
theorem dX3_below_16 : decode cX3_below 16 = .ok (.iload_n 1, 1) := by decide +kernel
theorem dX3_below_17 : decode cX3_below 17 = .ok (.iconst 1, 1) := by decide +kernel
theorem dX3_below_18 : decode cX3_below 18 = .ok (.if_icmp .ge 7, 3) := by decide +kernel
theorem dX3_below_21 : decode cX3_below 21 = .ok (.iconst 0, 1) := by decide +kernel
theorem dX3_below_22 : decode cX3_below 22 = .ok (.goto 14, 3) := by decide +kernel
theorem dX3_below_25 : decode cX3_below 25 = .ok (.aload_n 0, 1) := by decide +kernel
theorem dX3_below_26 : decode cX3_below 26 = .ok (.getfield 7, 3) := by decide +kernel
theorem dX3_below_29 : decode cX3_below 29 = .ok (.bipush 33, 2) := by decide +kernel
theorem dX3_below_31 : decode cX3_below 31 = .ok (.lushr, 1) := by decide +kernel
theorem dX3_below_32 : decode cX3_below 32 = .ok (.iload_n 1, 1) := by decide +kernel
theorem dX3_below_33 : decode cX3_below 33 = .ok (.i2l, 1) := by decide +kernel
theorem dX3_below_34 : decode cX3_below 34 = .ok (.lrem, 1) := by decide +kernel
theorem dX3_below_35 : decode cX3_below 35 = .ok (.l2i, 1) := by decide +kernel
theorem dX3_below_36 : decode cX3_below 36 = .ok (.ireturn, 1) := by decide +kernel
theorem dX4_answer_0 : decode cX4_answer 0 = .ok (.iconst 0, 1) := by decide +kernel
theorem dX4_answer_1 : decode cX4_answer 1 = .ok (.istore_n 3, 1) := by decide +kernel
theorem dX4_answer_2 : decode cX4_answer 2 = .ok (.iconst 0, 1) := by decide +kernel
theorem dX4_answer_3 : decode cX4_answer 3 = .ok (.istore 4, 2) := by decide +kernel
theorem dX4_answer_5 : decode cX4_answer 5 = .ok (.iconst 0, 1) := by decide +kernel
theorem dX4_answer_6 : decode cX4_answer 6 = .ok (.istore 5, 2) := by decide +kernel
theorem dX4_answer_8 : decode cX4_answer 8 = .ok (.iload 5, 2) := by decide +kernel
theorem dX4_answer_10 : decode cX4_answer 10 = .ok (.aload_n 0, 1) := by decide +kernel
theorem dX4_answer_11 : decode cX4_answer 11 = .ok (.getfield 7, 3) := by decide +kernel
theorem dX4_answer_14 : decode cX4_answer 14 = .ok (.arraylength, 1) := by decide +kernel
theorem dX4_answer_15 : decode cX4_answer 15 = .ok (.if_icmp .ge 196, 3) := by decide +kernel
theorem dX4_answer_18 : decode cX4_answer 18 = .ok (.aload_n 0, 1) := by decide +kernel
theorem dX4_answer_19 : decode cX4_answer 19 = .ok (.getfield 7, 3) := by decide +kernel
theorem dX4_answer_22 : decode cX4_answer 22 = .ok (.iload 5, 2) := by decide +kernel
theorem dX4_answer_24 : decode cX4_answer 24 = .ok (.iaload, 1) := by decide +kernel
theorem dX4_answer_25 : decode cX4_answer 25 = .ok (.sipush 255, 3) := by decide +kernel
theorem dX4_answer_28 : decode cX4_answer 28 = .ok (.iand, 1) := by decide +kernel
theorem dX4_answer_29 : decode cX4_answer 29 = .ok (.istore 6, 2) := by decide +kernel
theorem dX4_answer_31 : decode cX4_answer 31 = .ok (.aload_n 0, 1) := by decide +kernel
theorem dX4_answer_32 : decode cX4_answer 32 = .ok (.getfield 7, 3) := by decide +kernel
theorem dX4_answer_35 : decode cX4_answer 35 = .ok (.iload 5, 2) := by decide +kernel
theorem dX4_answer_37 : decode cX4_answer 37 = .ok (.iaload, 1) := by decide +kernel
theorem dX4_answer_38 : decode cX4_answer 38 = .ok (.bipush 8, 2) := by decide +kernel
theorem dX4_answer_40 : decode cX4_answer 40 = .ok (.ishr, 1) := by decide +kernel
theorem dX4_answer_41 : decode cX4_answer 41 = .ok (.istore 7, 2) := by decide +kernel
theorem dX4_answer_43 : decode cX4_answer 43 = .ok (.iload 4, 2) := by decide +kernel
theorem dX4_answer_45 : decode cX4_answer 45 = .ok (.ifCond .eq 20, 3) := by decide +kernel
theorem dX4_answer_48 : decode cX4_answer 48 = .ok (.iload 6, 2) := by decide +kernel
theorem dX4_answer_50 : decode cX4_answer 50 = .ok (.bipush 59, 2) := by decide +kernel
theorem dX4_answer_52 : decode cX4_answer 52 = .ok (.if_icmp .eq 7, 3) := by decide +kernel
theorem dX4_answer_55 : decode cX4_answer 55 = .ok (.iconst 1, 1) := by decide +kernel
theorem dX4_answer_56 : decode cX4_answer 56 = .ok (.goto 4, 3) := by decide +kernel
theorem dX4_answer_59 : decode cX4_answer 59 = .ok (.iconst 0, 1) := by decide +kernel
theorem dX4_answer_60 : decode cX4_answer 60 = .ok (.istore 4, 2) := by decide +kernel
theorem dX4_answer_62 : decode cX4_answer 62 = .ok (.goto 143, 3) := by decide +kernel
theorem dX4_answer_65 : decode cX4_answer 65 = .ok (.iload 6, 2) := by decide +kernel
theorem dX4_answer_67 : decode cX4_answer 67 = .ok (.iconst 1, 1) := by decide +kernel
theorem dX4_answer_68 : decode cX4_answer 68 = .ok (.if_icmp .eq 9, 3) := by decide +kernel
theorem dX4_answer_71 : decode cX4_answer 71 = .ok (.iload 6, 2) := by decide +kernel
theorem dX4_answer_73 : decode cX4_answer 73 = .ok (.iconst 2, 1) := by decide +kernel
theorem dX4_answer_74 : decode cX4_answer 74 = .ok (.if_icmp .ne 35, 3) := by decide +kernel
theorem dX4_answer_77 : decode cX4_answer 77 = .ok (.iload_n 3, 1) := by decide +kernel
theorem dX4_answer_78 : decode cX4_answer 78 = .ok (.aload_n 2, 1) := by decide +kernel
theorem dX4_answer_79 : decode cX4_answer 79 = .ok (.arraylength, 1) := by decide +kernel
theorem dX4_answer_80 : decode cX4_answer 80 = .ok (.if_icmp .lt 5, 3) := by decide +kernel
theorem dX4_answer_83 : decode cX4_answer 83 = .ok (.iconst 0, 1) := by decide +kernel
theorem dX4_answer_84 : decode cX4_answer 84 = .ok (.ireturn, 1) := by decide +kernel
theorem dX4_answer_85 : decode cX4_answer 85 = .ok (.aload_n 2, 1) := by decide +kernel
theorem dX4_answer_86 : decode cX4_answer 86 = .ok (.iload_n 3, 1) := by decide +kernel
theorem dX4_answer_87 : decode cX4_answer 87 = .ok (.iload 6, 2) := by decide +kernel
theorem dX4_answer_89 : decode cX4_answer 89 = .ok (.iconst 1, 1) := by decide +kernel
theorem dX4_answer_90 : decode cX4_answer 90 = .ok (.if_icmp .ne 8, 3) := by decide +kernel
theorem dX4_answer_93 : decode cX4_answer 93 = .ok (.iload 7, 2) := by decide +kernel
theorem dX4_answer_95 : decode cX4_answer 95 = .ok (.goto 7, 3) := by decide +kernel
theorem dX4_answer_98 : decode cX4_answer 98 = .ok (.aload_n 1, 1) := by decide +kernel
theorem dX4_answer_99 : decode cX4_answer 99 = .ok (.iload 7, 2) := by decide +kernel
theorem dX4_answer_101 : decode cX4_answer 101 = .ok (.iaload, 1) := by decide +kernel
theorem dX4_answer_102 : decode cX4_answer 102 = .ok (.iastore, 1) := by decide +kernel
theorem dX4_answer_103 : decode cX4_answer 103 = .ok (.iinc 3 1, 3) := by decide +kernel
theorem dX4_answer_106 : decode cX4_answer 106 = .ok (.goto 99, 3) := by decide +kernel
theorem dX4_answer_109 : decode cX4_answer 109 = .ok (.iload_n 3, 1) := by decide +kernel
theorem dX4_answer_110 : decode cX4_answer 110 = .ok (.iconst 1, 1) := by decide +kernel
theorem dX4_answer_111 : decode cX4_answer 111 = .ok (.if_icmp .ge 5, 3) := by decide +kernel
theorem dX4_answer_114 : decode cX4_answer 114 = .ok (.iconst 0, 1) := by decide +kernel
theorem dX4_answer_115 : decode cX4_answer 115 = .ok (.ireturn, 1) := by decide +kernel
theorem dX4_answer_116 : decode cX4_answer 116 = .ok (.iload 6, 2) := by decide +kernel
theorem dX4_answer_118 : decode cX4_answer 118 = .ok (.bipush 59, 2) := by decide +kernel
theorem dX4_answer_120 : decode cX4_answer 120 = .ok (.if_icmp .ne 9, 3) := by decide +kernel
theorem dX4_answer_123 : decode cX4_answer 123 = .ok (.aload_n 2, 1) := by decide +kernel
theorem dX4_answer_124 : decode cX4_answer 124 = .ok (.iload_n 3, 1) := by decide +kernel
theorem dX4_answer_125 : decode cX4_answer 125 = .ok (.iconst 1, 1) := by decide +kernel
theorem dX4_answer_126 : decode cX4_answer 126 = .ok (.isub, 1) := by decide +kernel
theorem dX4_answer_127 : decode cX4_answer 127 = .ok (.iaload, 1) := by decide +kernel
theorem dX4_answer_128 : decode cX4_answer 128 = .ok (.ireturn, 1) := by decide +kernel
theorem dX4_answer_129 : decode cX4_answer 129 = .ok (.iload 6, 2) := by decide +kernel
theorem dX4_answer_131 : decode cX4_answer 131 = .ok (.bipush 63, 2) := by decide +kernel
theorem dX4_answer_133 : decode cX4_answer 133 = .ok (.if_icmp .ne 22, 3) := by decide +kernel
theorem dX4_answer_136 : decode cX4_answer 136 = .ok (.iinc 3 (-1), 3) := by decide +kernel
theorem dX4_answer_139 : decode cX4_answer 139 = .ok (.aload_n 2, 1) := by decide +kernel
theorem dX4_answer_140 : decode cX4_answer 140 = .ok (.iload_n 3, 1) := by decide +kernel
theorem dX4_answer_141 : decode cX4_answer 141 = .ok (.iaload, 1) := by decide +kernel
theorem dX4_answer_142 : decode cX4_answer 142 = .ok (.ifCond .ne 7, 3) := by decide +kernel
theorem dX4_answer_145 : decode cX4_answer 145 = .ok (.iconst 1, 1) := by decide +kernel
theorem dX4_answer_146 : decode cX4_answer 146 = .ok (.goto 4, 3) := by decide +kernel
theorem dX4_answer_149 : decode cX4_answer 149 = .ok (.iconst 0, 1) := by decide +kernel
theorem dX4_answer_150 : decode cX4_answer 150 = .ok (.istore 4, 2) := by decide +kernel
theorem dX4_answer_152 : decode cX4_answer 152 = .ok (.goto 53, 3) := by decide +kernel
theorem dX4_answer_155 : decode cX4_answer 155 = .ok (.iload 6, 2) := by decide +kernel
theorem dX4_answer_157 : decode cX4_answer 157 = .ok (.bipush 33, 2) := by decide +kernel
theorem dX4_answer_159 : decode cX4_answer 159 = .ok (.if_icmp .ne 18, 3) := by decide +kernel
theorem dX4_answer_162 : decode cX4_answer 162 = .ok (.aload_n 2, 1) := by decide +kernel
theorem dX4_answer_163 : decode cX4_answer 163 = .ok (.iload_n 3, 1) := by decide +kernel
theorem dX4_answer_164 : decode cX4_answer 164 = .ok (.iconst 1, 1) := by decide +kernel
theorem dX4_answer_165 : decode cX4_answer 165 = .ok (.isub, 1) := by decide +kernel
theorem dX4_answer_166 : decode cX4_answer 166 = .ok (.iconst 1, 1) := by decide +kernel
theorem dX4_answer_167 : decode cX4_answer 167 = .ok (.aload_n 2, 1) := by decide +kernel
theorem dX4_answer_168 : decode cX4_answer 168 = .ok (.iload_n 3, 1) := by decide +kernel
theorem dX4_answer_169 : decode cX4_answer 169 = .ok (.iconst 1, 1) := by decide +kernel
theorem dX4_answer_170 : decode cX4_answer 170 = .ok (.isub, 1) := by decide +kernel
theorem dX4_answer_171 : decode cX4_answer 171 = .ok (.iaload, 1) := by decide +kernel
theorem dX4_answer_172 : decode cX4_answer 172 = .ok (.isub, 1) := by decide +kernel
theorem dX4_answer_173 : decode cX4_answer 173 = .ok (.iastore, 1) := by decide +kernel
theorem dX4_answer_174 : decode cX4_answer 174 = .ok (.goto 31, 3) := by decide +kernel
theorem dX4_answer_177 : decode cX4_answer 177 = .ok (.iload_n 3, 1) := by decide +kernel
theorem dX4_answer_178 : decode cX4_answer 178 = .ok (.iconst 2, 1) := by decide +kernel
theorem dX4_answer_179 : decode cX4_answer 179 = .ok (.if_icmp .ge 5, 3) := by decide +kernel
theorem dX4_answer_182 : decode cX4_answer 182 = .ok (.iconst 0, 1) := by decide +kernel
theorem dX4_answer_183 : decode cX4_answer 183 = .ok (.ireturn, 1) := by decide +kernel
theorem dX4_answer_184 : decode cX4_answer 184 = .ok (.iinc 3 (-1), 3) := by decide +kernel
theorem dX4_answer_187 : decode cX4_answer 187 = .ok (.aload_n 2, 1) := by decide +kernel
theorem dX4_answer_188 : decode cX4_answer 188 = .ok (.iload_n 3, 1) := by decide +kernel
theorem dX4_answer_189 : decode cX4_answer 189 = .ok (.iconst 1, 1) := by decide +kernel
theorem dX4_answer_190 : decode cX4_answer 190 = .ok (.isub, 1) := by decide +kernel
theorem dX4_answer_191 : decode cX4_answer 191 = .ok (.iload 6, 2) := by decide +kernel
theorem dX4_answer_193 : decode cX4_answer 193 = .ok (.aload_n 2, 1) := by decide +kernel
theorem dX4_answer_194 : decode cX4_answer 194 = .ok (.iload_n 3, 1) := by decide +kernel
theorem dX4_answer_195 : decode cX4_answer 195 = .ok (.iconst 1, 1) := by decide +kernel
theorem dX4_answer_196 : decode cX4_answer 196 = .ok (.isub, 1) := by decide +kernel
theorem dX4_answer_197 : decode cX4_answer 197 = .ok (.iaload, 1) := by decide +kernel
theorem dX4_answer_198 : decode cX4_answer 198 = .ok (.aload_n 2, 1) := by decide +kernel
theorem dX4_answer_199 : decode cX4_answer 199 = .ok (.iload_n 3, 1) := by decide +kernel
theorem dX4_answer_200 : decode cX4_answer 200 = .ok (.iaload, 1) := by decide +kernel
theorem dX4_answer_201 : decode cX4_answer 201 = .ok (.invokestatic 13, 3) := by decide +kernel
theorem dX4_answer_204 : decode cX4_answer 204 = .ok (.iastore, 1) := by decide +kernel
theorem dX4_answer_205 : decode cX4_answer 205 = .ok (.iinc 5 1, 3) := by decide +kernel
theorem dX4_answer_208 : decode cX4_answer 208 = .ok (.goto (-200), 3) := by decide +kernel
theorem dX4_answer_211 : decode cX4_answer 211 = .ok (.iconst 0, 1) := by decide +kernel
theorem dX4_answer_212 : decode cX4_answer 212 = .ok (.ireturn, 1) := by decide +kernel
theorem dX4_joined_0 : decode cX4_joined 0 = .ok (.lconst 0, 1) := by decide +kernel
theorem dX4_joined_1 : decode cX4_joined 1 = .ok (.lstore_n 3, 1) := by decide +kernel
theorem dX4_joined_2 : decode cX4_joined 2 = .ok (.iload_n 0, 1) := by decide +kernel
theorem dX4_joined_3 : decode cX4_joined 3 = .ok (.lookupswitch 141 #[(38, 106), (42, 132), (43, 114), (45, 123), (60, 84), (61, 73), (62, 95), (124, 110)], 73) := by decide +kernel
theorem dX4_joined_76 : decode cX4_joined 76 = .ok (.iload_n 1, 1) := by decide +kernel
theorem dX4_joined_77 : decode cX4_joined 77 = .ok (.iload_n 2, 1) := by decide +kernel
theorem dX4_joined_78 : decode cX4_joined 78 = .ok (.if_icmp .ne 7, 3) := by decide +kernel
theorem dX4_joined_81 : decode cX4_joined 81 = .ok (.iconst 1, 1) := by decide +kernel
theorem dX4_joined_82 : decode cX4_joined 82 = .ok (.goto 4, 3) := by decide +kernel
theorem dX4_joined_85 : decode cX4_joined 85 = .ok (.iconst 0, 1) := by decide +kernel
theorem dX4_joined_86 : decode cX4_joined 86 = .ok (.ireturn, 1) := by decide +kernel
theorem dX4_joined_87 : decode cX4_joined 87 = .ok (.iload_n 1, 1) := by decide +kernel
theorem dX4_joined_88 : decode cX4_joined 88 = .ok (.iload_n 2, 1) := by decide +kernel
theorem dX4_joined_89 : decode cX4_joined 89 = .ok (.if_icmp .ge 7, 3) := by decide +kernel
theorem dX4_joined_92 : decode cX4_joined 92 = .ok (.iconst 1, 1) := by decide +kernel
theorem dX4_joined_93 : decode cX4_joined 93 = .ok (.goto 4, 3) := by decide +kernel
theorem dX4_joined_96 : decode cX4_joined 96 = .ok (.iconst 0, 1) := by decide +kernel
theorem dX4_joined_97 : decode cX4_joined 97 = .ok (.ireturn, 1) := by decide +kernel
theorem dX4_joined_98 : decode cX4_joined 98 = .ok (.iload_n 1, 1) := by decide +kernel
theorem dX4_joined_99 : decode cX4_joined 99 = .ok (.iload_n 2, 1) := by decide +kernel
theorem dX4_joined_100 : decode cX4_joined 100 = .ok (.if_icmp .le 7, 3) := by decide +kernel
theorem dX4_joined_103 : decode cX4_joined 103 = .ok (.iconst 1, 1) := by decide +kernel
theorem dX4_joined_104 : decode cX4_joined 104 = .ok (.goto 4, 3) := by decide +kernel
theorem dX4_joined_107 : decode cX4_joined 107 = .ok (.iconst 0, 1) := by decide +kernel
theorem dX4_joined_108 : decode cX4_joined 108 = .ok (.ireturn, 1) := by decide +kernel
theorem dX4_joined_109 : decode cX4_joined 109 = .ok (.iload_n 1, 1) := by decide +kernel
theorem dX4_joined_110 : decode cX4_joined 110 = .ok (.iload_n 2, 1) := by decide +kernel
theorem dX4_joined_111 : decode cX4_joined 111 = .ok (.iand, 1) := by decide +kernel
theorem dX4_joined_112 : decode cX4_joined 112 = .ok (.ireturn, 1) := by decide +kernel
theorem dX4_joined_113 : decode cX4_joined 113 = .ok (.iload_n 1, 1) := by decide +kernel
theorem dX4_joined_114 : decode cX4_joined 114 = .ok (.iload_n 2, 1) := by decide +kernel
theorem dX4_joined_115 : decode cX4_joined 115 = .ok (.ior, 1) := by decide +kernel
theorem dX4_joined_116 : decode cX4_joined 116 = .ok (.ireturn, 1) := by decide +kernel
theorem dX4_joined_117 : decode cX4_joined 117 = .ok (.iload_n 1, 1) := by decide +kernel
theorem dX4_joined_118 : decode cX4_joined 118 = .ok (.i2l, 1) := by decide +kernel
theorem dX4_joined_119 : decode cX4_joined 119 = .ok (.iload_n 2, 1) := by decide +kernel
theorem dX4_joined_120 : decode cX4_joined 120 = .ok (.i2l, 1) := by decide +kernel
theorem dX4_joined_121 : decode cX4_joined 121 = .ok (.ladd, 1) := by decide +kernel
theorem dX4_joined_122 : decode cX4_joined 122 = .ok (.lstore_n 3, 1) := by decide +kernel
theorem dX4_joined_123 : decode cX4_joined 123 = .ok (.goto 34, 3) := by decide +kernel
theorem dX4_joined_126 : decode cX4_joined 126 = .ok (.iload_n 1, 1) := by decide +kernel
theorem dX4_joined_127 : decode cX4_joined 127 = .ok (.i2l, 1) := by decide +kernel
theorem dX4_joined_128 : decode cX4_joined 128 = .ok (.iload_n 2, 1) := by decide +kernel
theorem dX4_joined_129 : decode cX4_joined 129 = .ok (.i2l, 1) := by decide +kernel
theorem dX4_joined_130 : decode cX4_joined 130 = .ok (.lsub, 1) := by decide +kernel
theorem dX4_joined_131 : decode cX4_joined 131 = .ok (.lstore_n 3, 1) := by decide +kernel
theorem dX4_joined_132 : decode cX4_joined 132 = .ok (.goto 25, 3) := by decide +kernel
theorem dX4_joined_135 : decode cX4_joined 135 = .ok (.iload_n 1, 1) := by decide +kernel
theorem dX4_joined_136 : decode cX4_joined 136 = .ok (.i2l, 1) := by decide +kernel
theorem dX4_joined_137 : decode cX4_joined 137 = .ok (.iload_n 2, 1) := by decide +kernel
theorem dX4_joined_138 : decode cX4_joined 138 = .ok (.i2l, 1) := by decide +kernel
theorem dX4_joined_139 : decode cX4_joined 139 = .ok (.lmul, 1) := by decide +kernel
theorem dX4_joined_140 : decode cX4_joined 140 = .ok (.lstore_n 3, 1) := by decide +kernel
theorem dX4_joined_141 : decode cX4_joined 141 = .ok (.goto 16, 3) := by decide +kernel
theorem dX4_joined_144 : decode cX4_joined 144 = .ok (.iload_n 2, 1) := by decide +kernel
theorem dX4_joined_145 : decode cX4_joined 145 = .ok (.ifCond .ne 7, 3) := by decide +kernel
theorem dX4_joined_148 : decode cX4_joined 148 = .ok (.lconst 0, 1) := by decide +kernel
theorem dX4_joined_149 : decode cX4_joined 149 = .ok (.goto 7, 3) := by decide +kernel
theorem dX4_joined_152 : decode cX4_joined 152 = .ok (.iload_n 1, 1) := by decide +kernel
theorem dX4_joined_153 : decode cX4_joined 153 = .ok (.iload_n 2, 1) := by decide +kernel
theorem dX4_joined_154 : decode cX4_joined 154 = .ok (.idiv, 1) := by decide +kernel
theorem dX4_joined_155 : decode cX4_joined 155 = .ok (.i2l, 1) := by decide +kernel
theorem dX4_joined_156 : decode cX4_joined 156 = .ok (.lstore_n 3, 1) := by decide +kernel
theorem dX4_joined_157 : decode cX4_joined 157 = .ok (.lload_n 3, 1) := by decide +kernel
theorem dX4_joined_158 : decode cX4_joined 158 = .ok (.ldc2_w 17, 3) := by decide +kernel
theorem dX4_joined_161 : decode cX4_joined 161 = .ok (.lcmp, 1) := by decide +kernel
theorem dX4_joined_162 : decode cX4_joined 162 = .ok (.ifCond .le 8, 3) := by decide +kernel
theorem dX4_joined_165 : decode cX4_joined 165 = .ok (.ldc 19, 2) := by decide +kernel
theorem dX4_joined_167 : decode cX4_joined 167 = .ok (.goto 18, 3) := by decide +kernel
theorem dX4_joined_170 : decode cX4_joined 170 = .ok (.lload_n 3, 1) := by decide +kernel
theorem dX4_joined_171 : decode cX4_joined 171 = .ok (.ldc2_w 20, 3) := by decide +kernel
theorem dX4_joined_174 : decode cX4_joined 174 = .ok (.lcmp, 1) := by decide +kernel
theorem dX4_joined_175 : decode cX4_joined 175 = .ok (.ifCond .ge 8, 3) := by decide +kernel
theorem dX4_joined_178 : decode cX4_joined 178 = .ok (.ldc 22, 2) := by decide +kernel
theorem dX4_joined_180 : decode cX4_joined 180 = .ok (.goto 5, 3) := by decide +kernel
theorem dX4_joined_183 : decode cX4_joined 183 = .ok (.lload_n 3, 1) := by decide +kernel
theorem dX4_joined_184 : decode cX4_joined 184 = .ok (.l2i, 1) := by decide +kernel
theorem dX4_joined_185 : decode cX4_joined 185 = .ok (.ireturn, 1) := by decide +kernel
theorem dX7_begin_0 : decode cX7_begin 0 = .ok (.aload_n 0, 1) := by decide +kernel
theorem dX7_begin_1 : decode cX7_begin 1 = .ok (.iconst 0, 1) := by decide +kernel
theorem dX7_begin_2 : decode cX7_begin 2 = .ok (.putfield 25, 3) := by decide +kernel
theorem dX7_begin_5 : decode cX7_begin 5 = .ok (.aload_n 0, 1) := by decide +kernel
theorem dX7_begin_6 : decode cX7_begin 6 = .ok (.iconst 0, 1) := by decide +kernel
theorem dX7_begin_7 : decode cX7_begin 7 = .ok (.putfield 28, 3) := by decide +kernel
theorem dX7_begin_10 : decode cX7_begin 10 = .ok (.aload_n 0, 1) := by decide +kernel
theorem dX7_begin_11 : decode cX7_begin 11 = .ok (.iconst 0, 1) := by decide +kernel
theorem dX7_begin_12 : decode cX7_begin 12 = .ok (.putfield 31, 3) := by decide +kernel
theorem dX7_begin_15 : decode cX7_begin 15 = .ok (.aload_n 0, 1) := by decide +kernel
theorem dX7_begin_16 : decode cX7_begin 16 = .ok (.iconst (-1), 1) := by decide +kernel
theorem dX7_begin_17 : decode cX7_begin 17 = .ok (.putfield 21, 3) := by decide +kernel
theorem dX7_begin_20 : decode cX7_begin 20 = .ok (.aload_n 0, 1) := by decide +kernel
theorem dX7_begin_21 : decode cX7_begin 21 = .ok (.aload_n 1, 1) := by decide +kernel
theorem dX7_begin_22 : decode cX7_begin 22 = .ok (.invokevirtual 34, 3) := by decide +kernel
theorem dX7_begin_25 : decode cX7_begin 25 = .ok (.putfield 40, 3) := by decide +kernel
theorem dX7_begin_28 : decode cX7_begin 28 = .ok (.aload_n 0, 1) := by decide +kernel
theorem dX7_begin_29 : decode cX7_begin 29 = .ok (.iconst 0, 1) := by decide +kernel
theorem dX7_begin_30 : decode cX7_begin 30 = .ok (.putfield 43, 3) := by decide +kernel
theorem dX7_begin_33 : decode cX7_begin 33 = .ok (.iconst 0, 1) := by decide +kernel
theorem dX7_begin_34 : decode cX7_begin 34 = .ok (.istore_n 2, 1) := by decide +kernel
theorem dX7_begin_35 : decode cX7_begin 35 = .ok (.iload_n 2, 1) := by decide +kernel
theorem dX7_begin_36 : decode cX7_begin 36 = .ok (.aload_n 1, 1) := by decide +kernel
theorem dX7_begin_37 : decode cX7_begin 37 = .ok (.getfield 46, 3) := by decide +kernel
theorem dX7_begin_40 : decode cX7_begin 40 = .ok (.if_icmp .ge 21, 3) := by decide +kernel
theorem dX7_begin_43 : decode cX7_begin 43 = .ok (.aload_n 0, 1) := by decide +kernel
theorem dX7_begin_44 : decode cX7_begin 44 = .ok (.getfield 9, 3) := by decide +kernel
theorem dX7_begin_47 : decode cX7_begin 47 = .ok (.iload_n 2, 1) := by decide +kernel
theorem dX7_begin_48 : decode cX7_begin 48 = .ok (.aload_n 1, 1) := by decide +kernel
theorem dX7_begin_49 : decode cX7_begin 49 = .ok (.iload_n 2, 1) := by decide +kernel
theorem dX7_begin_50 : decode cX7_begin 50 = .ok (.iconst 3, 1) := by decide +kernel
theorem dX7_begin_51 : decode cX7_begin 51 = .ok (.invokevirtual 49, 3) := by decide +kernel
theorem dX7_begin_54 : decode cX7_begin 54 = .ok (.iastore, 1) := by decide +kernel
theorem dX7_begin_55 : decode cX7_begin 55 = .ok (.iinc 2 1, 3) := by decide +kernel
theorem dX7_begin_58 : decode cX7_begin 58 = .ok (.goto (-23), 3) := by decide +kernel
theorem dX7_begin_61 : decode cX7_begin 61 = .ok (.iconst 0, 1) := by decide +kernel
theorem dX7_begin_62 : decode cX7_begin 62 = .ok (.istore_n 2, 1) := by decide +kernel
theorem dX7_begin_63 : decode cX7_begin 63 = .ok (.iload_n 2, 1) := by decide +kernel
theorem dX7_begin_64 : decode cX7_begin 64 = .ok (.aload_n 1, 1) := by decide +kernel
theorem dX7_begin_65 : decode cX7_begin 65 = .ok (.getfield 53, 3) := by decide +kernel
theorem dX7_begin_68 : decode cX7_begin 68 = .ok (.if_icmp .ge 21, 3) := by decide +kernel
theorem dX7_begin_71 : decode cX7_begin 71 = .ok (.aload_n 0, 1) := by decide +kernel
theorem dX7_begin_72 : decode cX7_begin 72 = .ok (.getfield 15, 3) := by decide +kernel
theorem dX7_begin_75 : decode cX7_begin 75 = .ok (.iload_n 2, 1) := by decide +kernel
theorem dX7_begin_76 : decode cX7_begin 76 = .ok (.aload_n 1, 1) := by decide +kernel
theorem dX7_begin_77 : decode cX7_begin 77 = .ok (.iload_n 2, 1) := by decide +kernel
theorem dX7_begin_78 : decode cX7_begin 78 = .ok (.iconst 2, 1) := by decide +kernel
theorem dX7_begin_79 : decode cX7_begin 79 = .ok (.invokevirtual 56, 3) := by decide +kernel
theorem dX7_begin_82 : decode cX7_begin 82 = .ok (.iastore, 1) := by decide +kernel
theorem dX7_begin_83 : decode cX7_begin 83 = .ok (.iinc 2 1, 3) := by decide +kernel
theorem dX7_begin_86 : decode cX7_begin 86 = .ok (.goto (-23), 3) := by decide +kernel
theorem dX7_begin_89 : decode cX7_begin 89 = .ok (.return_, 1) := by decide +kernel
theorem dX7_become_0 : decode cX7_become 0 = .ok (.aload_n 1, 1) := by decide +kernel
theorem dX7_become_1 : decode cX7_become 1 = .ok (.getfield 9, 3) := by decide +kernel
theorem dX7_become_4 : decode cX7_become 4 = .ok (.iconst 0, 1) := by decide +kernel
theorem dX7_become_5 : decode cX7_become 5 = .ok (.aload_n 0, 1) := by decide +kernel
theorem dX7_become_6 : decode cX7_become 6 = .ok (.getfield 9, 3) := by decide +kernel
theorem dX7_become_9 : decode cX7_become 9 = .ok (.iconst 0, 1) := by decide +kernel
theorem dX7_become_10 : decode cX7_become 10 = .ok (.aload_n 0, 1) := by decide +kernel
theorem dX7_become_11 : decode cX7_become 11 = .ok (.getfield 9, 3) := by decide +kernel
theorem dX7_become_14 : decode cX7_become 14 = .ok (.arraylength, 1) := by decide +kernel
theorem dX7_become_15 : decode cX7_become 15 = .ok (.invokestatic 59, 3) := by decide +kernel
theorem dX7_become_18 : decode cX7_become 18 = .ok (.aload_n 1, 1) := by decide +kernel
theorem dX7_become_19 : decode cX7_become 19 = .ok (.getfield 15, 3) := by decide +kernel
theorem dX7_become_22 : decode cX7_become 22 = .ok (.iconst 0, 1) := by decide +kernel
theorem dX7_become_23 : decode cX7_become 23 = .ok (.aload_n 0, 1) := by decide +kernel
theorem dX7_become_24 : decode cX7_become 24 = .ok (.getfield 15, 3) := by decide +kernel
theorem dX7_become_27 : decode cX7_become 27 = .ok (.iconst 0, 1) := by decide +kernel
theorem dX7_become_28 : decode cX7_become 28 = .ok (.aload_n 0, 1) := by decide +kernel
theorem dX7_become_29 : decode cX7_become 29 = .ok (.getfield 15, 3) := by decide +kernel
theorem dX7_become_32 : decode cX7_become 32 = .ok (.arraylength, 1) := by decide +kernel
theorem dX7_become_33 : decode cX7_become 33 = .ok (.invokestatic 59, 3) := by decide +kernel
theorem dX7_become_36 : decode cX7_become 36 = .ok (.aload_n 1, 1) := by decide +kernel
theorem dX7_become_37 : decode cX7_become 37 = .ok (.getfield 18, 3) := by decide +kernel
theorem dX7_become_40 : decode cX7_become 40 = .ok (.iconst 0, 1) := by decide +kernel
theorem dX7_become_41 : decode cX7_become 41 = .ok (.aload_n 0, 1) := by decide +kernel
theorem dX7_become_42 : decode cX7_become 42 = .ok (.getfield 18, 3) := by decide +kernel
theorem dX7_become_45 : decode cX7_become 45 = .ok (.iconst 0, 1) := by decide +kernel
theorem dX7_become_46 : decode cX7_become 46 = .ok (.aload_n 0, 1) := by decide +kernel
theorem dX7_become_47 : decode cX7_become 47 = .ok (.getfield 18, 3) := by decide +kernel
theorem dX7_become_50 : decode cX7_become 50 = .ok (.arraylength, 1) := by decide +kernel
theorem dX7_become_51 : decode cX7_become 51 = .ok (.invokestatic 59, 3) := by decide +kernel
theorem dX7_become_54 : decode cX7_become 54 = .ok (.aload_n 0, 1) := by decide +kernel
theorem dX7_become_55 : decode cX7_become 55 = .ok (.aload_n 1, 1) := by decide +kernel
theorem dX7_become_56 : decode cX7_become 56 = .ok (.getfield 25, 3) := by decide +kernel
theorem dX7_become_59 : decode cX7_become 59 = .ok (.putfield 25, 3) := by decide +kernel
theorem dX7_become_62 : decode cX7_become 62 = .ok (.aload_n 0, 1) := by decide +kernel
theorem dX7_become_63 : decode cX7_become 63 = .ok (.aload_n 1, 1) := by decide +kernel
theorem dX7_become_64 : decode cX7_become 64 = .ok (.getfield 28, 3) := by decide +kernel
theorem dX7_become_67 : decode cX7_become 67 = .ok (.putfield 28, 3) := by decide +kernel
theorem dX7_become_70 : decode cX7_become 70 = .ok (.aload_n 0, 1) := by decide +kernel
theorem dX7_become_71 : decode cX7_become 71 = .ok (.aload_n 1, 1) := by decide +kernel
theorem dX7_become_72 : decode cX7_become 72 = .ok (.getfield 31, 3) := by decide +kernel
theorem dX7_become_75 : decode cX7_become 75 = .ok (.putfield 31, 3) := by decide +kernel
theorem dX7_become_78 : decode cX7_become 78 = .ok (.aload_n 0, 1) := by decide +kernel
theorem dX7_become_79 : decode cX7_become 79 = .ok (.aload_n 1, 1) := by decide +kernel
theorem dX7_become_80 : decode cX7_become 80 = .ok (.getfield 21, 3) := by decide +kernel
theorem dX7_become_83 : decode cX7_become 83 = .ok (.putfield 21, 3) := by decide +kernel
theorem dX7_become_86 : decode cX7_become 86 = .ok (.aload_n 0, 1) := by decide +kernel
theorem dX7_become_87 : decode cX7_become 87 = .ok (.aload_n 1, 1) := by decide +kernel
theorem dX7_become_88 : decode cX7_become 88 = .ok (.getfield 40, 3) := by decide +kernel
theorem dX7_become_91 : decode cX7_become 91 = .ok (.putfield 40, 3) := by decide +kernel
theorem dX7_become_94 : decode cX7_become 94 = .ok (.aload_n 0, 1) := by decide +kernel
theorem dX7_become_95 : decode cX7_become 95 = .ok (.aload_n 1, 1) := by decide +kernel
theorem dX7_become_96 : decode cX7_become 96 = .ok (.getfield 43, 3) := by decide +kernel
theorem dX7_become_99 : decode cX7_become 99 = .ok (.putfield 43, 3) := by decide +kernel
theorem dX7_become_102 : decode cX7_become 102 = .ok (.return_, 1) := by decide +kernel
theorem dX7_writeRow_0 : decode cX7_writeRow 0 = .ok (.aload_n 0, 1) := by decide +kernel
theorem dX7_writeRow_1 : decode cX7_writeRow 1 = .ok (.getfield 9, 3) := by decide +kernel
theorem dX7_writeRow_4 : decode cX7_writeRow 4 = .ok (.iconst 0, 1) := by decide +kernel
theorem dX7_writeRow_5 : decode cX7_writeRow 5 = .ok (.aload_n 1, 1) := by decide +kernel
theorem dX7_writeRow_6 : decode cX7_writeRow 6 = .ok (.iload_n 2, 1) := by decide +kernel
theorem dX7_writeRow_7 : decode cX7_writeRow 7 = .ok (.bipush 6, 2) := by decide +kernel
theorem dX7_writeRow_9 : decode cX7_writeRow 9 = .ok (.invokestatic 59, 3) := by decide +kernel
theorem dX7_writeRow_12 : decode cX7_writeRow 12 = .ok (.aload_n 0, 1) := by decide +kernel
theorem dX7_writeRow_13 : decode cX7_writeRow 13 = .ok (.getfield 15, 3) := by decide +kernel
theorem dX7_writeRow_16 : decode cX7_writeRow 16 = .ok (.iconst 0, 1) := by decide +kernel
theorem dX7_writeRow_17 : decode cX7_writeRow 17 = .ok (.aload_n 1, 1) := by decide +kernel
theorem dX7_writeRow_18 : decode cX7_writeRow 18 = .ok (.iload_n 2, 1) := by decide +kernel
theorem dX7_writeRow_19 : decode cX7_writeRow 19 = .ok (.bipush 6, 2) := by decide +kernel
theorem dX7_writeRow_21 : decode cX7_writeRow 21 = .ok (.iadd, 1) := by decide +kernel
theorem dX7_writeRow_22 : decode cX7_writeRow 22 = .ok (.iconst 5, 1) := by decide +kernel
theorem dX7_writeRow_23 : decode cX7_writeRow 23 = .ok (.invokestatic 59, 3) := by decide +kernel
theorem dX7_writeRow_26 : decode cX7_writeRow 26 = .ok (.iload_n 2, 1) := by decide +kernel
theorem dX7_writeRow_27 : decode cX7_writeRow 27 = .ok (.bipush 6, 2) := by decide +kernel
theorem dX7_writeRow_29 : decode cX7_writeRow 29 = .ok (.iadd, 1) := by decide +kernel
theorem dX7_writeRow_30 : decode cX7_writeRow 30 = .ok (.iconst 5, 1) := by decide +kernel
theorem dX7_writeRow_31 : decode cX7_writeRow 31 = .ok (.iadd, 1) := by decide +kernel
theorem dX7_writeRow_32 : decode cX7_writeRow 32 = .ok (.istore_n 3, 1) := by decide +kernel
theorem dX7_writeRow_33 : decode cX7_writeRow 33 = .ok (.aload_n 1, 1) := by decide +kernel
theorem dX7_writeRow_34 : decode cX7_writeRow 34 = .ok (.iload_n 3, 1) := by decide +kernel
theorem dX7_writeRow_35 : decode cX7_writeRow 35 = .ok (.aload_n 0, 1) := by decide +kernel
theorem dX7_writeRow_36 : decode cX7_writeRow 36 = .ok (.getfield 25, 3) := by decide +kernel
theorem dX7_writeRow_39 : decode cX7_writeRow 39 = .ok (.iastore, 1) := by decide +kernel
theorem dX7_writeRow_40 : decode cX7_writeRow 40 = .ok (.aload_n 1, 1) := by decide +kernel
theorem dX7_writeRow_41 : decode cX7_writeRow 41 = .ok (.iload_n 3, 1) := by decide +kernel
theorem dX7_writeRow_42 : decode cX7_writeRow 42 = .ok (.iconst 1, 1) := by decide +kernel
theorem dX7_writeRow_43 : decode cX7_writeRow 43 = .ok (.iadd, 1) := by decide +kernel
theorem dX7_writeRow_44 : decode cX7_writeRow 44 = .ok (.aload_n 0, 1) := by decide +kernel
theorem dX7_writeRow_45 : decode cX7_writeRow 45 = .ok (.getfield 28, 3) := by decide +kernel
theorem dX7_writeRow_48 : decode cX7_writeRow 48 = .ok (.iastore, 1) := by decide +kernel
theorem dX7_writeRow_49 : decode cX7_writeRow 49 = .ok (.aload_n 1, 1) := by decide +kernel
theorem dX7_writeRow_50 : decode cX7_writeRow 50 = .ok (.iload_n 3, 1) := by decide +kernel
theorem dX7_writeRow_51 : decode cX7_writeRow 51 = .ok (.iconst 2, 1) := by decide +kernel
theorem dX7_writeRow_52 : decode cX7_writeRow 52 = .ok (.iadd, 1) := by decide +kernel
theorem dX7_writeRow_53 : decode cX7_writeRow 53 = .ok (.aload_n 0, 1) := by decide +kernel
theorem dX7_writeRow_54 : decode cX7_writeRow 54 = .ok (.getfield 31, 3) := by decide +kernel
theorem dX7_writeRow_57 : decode cX7_writeRow 57 = .ok (.iastore, 1) := by decide +kernel
theorem dX7_writeRow_58 : decode cX7_writeRow 58 = .ok (.aload_n 1, 1) := by decide +kernel
theorem dX7_writeRow_59 : decode cX7_writeRow 59 = .ok (.iload_n 3, 1) := by decide +kernel
theorem dX7_writeRow_60 : decode cX7_writeRow 60 = .ok (.iconst 3, 1) := by decide +kernel
theorem dX7_writeRow_61 : decode cX7_writeRow 61 = .ok (.iadd, 1) := by decide +kernel
theorem dX7_writeRow_62 : decode cX7_writeRow 62 = .ok (.aload_n 0, 1) := by decide +kernel
theorem dX7_writeRow_63 : decode cX7_writeRow 63 = .ok (.getfield 21, 3) := by decide +kernel
theorem dX7_writeRow_66 : decode cX7_writeRow 66 = .ok (.iastore, 1) := by decide +kernel
theorem dX7_writeRow_67 : decode cX7_writeRow 67 = .ok (.aload_n 1, 1) := by decide +kernel
theorem dX7_writeRow_68 : decode cX7_writeRow 68 = .ok (.iload_n 3, 1) := by decide +kernel
theorem dX7_writeRow_69 : decode cX7_writeRow 69 = .ok (.iconst 4, 1) := by decide +kernel
theorem dX7_writeRow_70 : decode cX7_writeRow 70 = .ok (.iadd, 1) := by decide +kernel
theorem dX7_writeRow_71 : decode cX7_writeRow 71 = .ok (.aload_n 0, 1) := by decide +kernel
theorem dX7_writeRow_72 : decode cX7_writeRow 72 = .ok (.getfield 40, 3) := by decide +kernel
theorem dX7_writeRow_75 : decode cX7_writeRow 75 = .ok (.iastore, 1) := by decide +kernel
theorem dX7_writeRow_76 : decode cX7_writeRow 76 = .ok (.aload_n 1, 1) := by decide +kernel
theorem dX7_writeRow_77 : decode cX7_writeRow 77 = .ok (.iload_n 3, 1) := by decide +kernel
theorem dX7_writeRow_78 : decode cX7_writeRow 78 = .ok (.iconst 5, 1) := by decide +kernel
theorem dX7_writeRow_79 : decode cX7_writeRow 79 = .ok (.iadd, 1) := by decide +kernel
theorem dX7_writeRow_80 : decode cX7_writeRow 80 = .ok (.aload_n 0, 1) := by decide +kernel
theorem dX7_writeRow_81 : decode cX7_writeRow 81 = .ok (.getfield 43, 3) := by decide +kernel
theorem dX7_writeRow_84 : decode cX7_writeRow 84 = .ok (.iastore, 1) := by decide +kernel
theorem dX7_writeRow_85 : decode cX7_writeRow 85 = .ok (.return_, 1) := by decide +kernel
theorem dX7_readRow_0 : decode cX7_readRow 0 = .ok (.aload_n 1, 1) := by decide +kernel
theorem dX7_readRow_1 : decode cX7_readRow 1 = .ok (.iload_n 2, 1) := by decide +kernel
theorem dX7_readRow_2 : decode cX7_readRow 2 = .ok (.aload_n 0, 1) := by decide +kernel
theorem dX7_readRow_3 : decode cX7_readRow 3 = .ok (.getfield 9, 3) := by decide +kernel
theorem dX7_readRow_6 : decode cX7_readRow 6 = .ok (.iconst 0, 1) := by decide +kernel
theorem dX7_readRow_7 : decode cX7_readRow 7 = .ok (.bipush 6, 2) := by decide +kernel
theorem dX7_readRow_9 : decode cX7_readRow 9 = .ok (.invokestatic 59, 3) := by decide +kernel
theorem dX7_readRow_12 : decode cX7_readRow 12 = .ok (.aload_n 1, 1) := by decide +kernel
theorem dX7_readRow_13 : decode cX7_readRow 13 = .ok (.iload_n 2, 1) := by decide +kernel
theorem dX7_readRow_14 : decode cX7_readRow 14 = .ok (.bipush 6, 2) := by decide +kernel
theorem dX7_readRow_16 : decode cX7_readRow 16 = .ok (.iadd, 1) := by decide +kernel
theorem dX7_readRow_17 : decode cX7_readRow 17 = .ok (.aload_n 0, 1) := by decide +kernel
theorem dX7_readRow_18 : decode cX7_readRow 18 = .ok (.getfield 15, 3) := by decide +kernel
theorem dX7_readRow_21 : decode cX7_readRow 21 = .ok (.iconst 0, 1) := by decide +kernel
theorem dX7_readRow_22 : decode cX7_readRow 22 = .ok (.iconst 5, 1) := by decide +kernel
theorem dX7_readRow_23 : decode cX7_readRow 23 = .ok (.invokestatic 59, 3) := by decide +kernel
theorem dX7_readRow_26 : decode cX7_readRow 26 = .ok (.iload_n 2, 1) := by decide +kernel
theorem dX7_readRow_27 : decode cX7_readRow 27 = .ok (.bipush 6, 2) := by decide +kernel
theorem dX7_readRow_29 : decode cX7_readRow 29 = .ok (.iadd, 1) := by decide +kernel
theorem dX7_readRow_30 : decode cX7_readRow 30 = .ok (.iconst 5, 1) := by decide +kernel
theorem dX7_readRow_31 : decode cX7_readRow 31 = .ok (.iadd, 1) := by decide +kernel
theorem dX7_readRow_32 : decode cX7_readRow 32 = .ok (.istore_n 3, 1) := by decide +kernel
theorem dX7_readRow_33 : decode cX7_readRow 33 = .ok (.aload_n 0, 1) := by decide +kernel
theorem dX7_readRow_34 : decode cX7_readRow 34 = .ok (.aload_n 1, 1) := by decide +kernel
theorem dX7_readRow_35 : decode cX7_readRow 35 = .ok (.iload_n 3, 1) := by decide +kernel
theorem dX7_readRow_36 : decode cX7_readRow 36 = .ok (.iaload, 1) := by decide +kernel
theorem dX7_readRow_37 : decode cX7_readRow 37 = .ok (.putfield 25, 3) := by decide +kernel
theorem dX7_readRow_40 : decode cX7_readRow 40 = .ok (.aload_n 0, 1) := by decide +kernel
theorem dX7_readRow_41 : decode cX7_readRow 41 = .ok (.aload_n 1, 1) := by decide +kernel
theorem dX7_readRow_42 : decode cX7_readRow 42 = .ok (.iload_n 3, 1) := by decide +kernel
theorem dX7_readRow_43 : decode cX7_readRow 43 = .ok (.iconst 1, 1) := by decide +kernel
theorem dX7_readRow_44 : decode cX7_readRow 44 = .ok (.iadd, 1) := by decide +kernel
theorem dX7_readRow_45 : decode cX7_readRow 45 = .ok (.iaload, 1) := by decide +kernel
theorem dX7_readRow_46 : decode cX7_readRow 46 = .ok (.putfield 28, 3) := by decide +kernel
theorem dX7_readRow_49 : decode cX7_readRow 49 = .ok (.aload_n 0, 1) := by decide +kernel
theorem dX7_readRow_50 : decode cX7_readRow 50 = .ok (.aload_n 1, 1) := by decide +kernel
theorem dX7_readRow_51 : decode cX7_readRow 51 = .ok (.iload_n 3, 1) := by decide +kernel
theorem dX7_readRow_52 : decode cX7_readRow 52 = .ok (.iconst 2, 1) := by decide +kernel
theorem dX7_readRow_53 : decode cX7_readRow 53 = .ok (.iadd, 1) := by decide +kernel
theorem dX7_readRow_54 : decode cX7_readRow 54 = .ok (.iaload, 1) := by decide +kernel
theorem dX7_readRow_55 : decode cX7_readRow 55 = .ok (.putfield 31, 3) := by decide +kernel
theorem dX7_readRow_58 : decode cX7_readRow 58 = .ok (.aload_n 0, 1) := by decide +kernel
theorem dX7_readRow_59 : decode cX7_readRow 59 = .ok (.aload_n 1, 1) := by decide +kernel
theorem dX7_readRow_60 : decode cX7_readRow 60 = .ok (.iload_n 3, 1) := by decide +kernel
theorem dX7_readRow_61 : decode cX7_readRow 61 = .ok (.iconst 3, 1) := by decide +kernel
theorem dX7_readRow_62 : decode cX7_readRow 62 = .ok (.iadd, 1) := by decide +kernel
theorem dX7_readRow_63 : decode cX7_readRow 63 = .ok (.iaload, 1) := by decide +kernel
theorem dX7_readRow_64 : decode cX7_readRow 64 = .ok (.putfield 21, 3) := by decide +kernel
theorem dX7_readRow_67 : decode cX7_readRow 67 = .ok (.aload_n 0, 1) := by decide +kernel
theorem dX7_readRow_68 : decode cX7_readRow 68 = .ok (.aload_n 1, 1) := by decide +kernel
theorem dX7_readRow_69 : decode cX7_readRow 69 = .ok (.iload_n 3, 1) := by decide +kernel
theorem dX7_readRow_70 : decode cX7_readRow 70 = .ok (.iconst 4, 1) := by decide +kernel
theorem dX7_readRow_71 : decode cX7_readRow 71 = .ok (.iadd, 1) := by decide +kernel
theorem dX7_readRow_72 : decode cX7_readRow 72 = .ok (.iaload, 1) := by decide +kernel
theorem dX7_readRow_73 : decode cX7_readRow 73 = .ok (.putfield 40, 3) := by decide +kernel
theorem dX7_readRow_76 : decode cX7_readRow 76 = .ok (.aload_n 0, 1) := by decide +kernel
theorem dX7_readRow_77 : decode cX7_readRow 77 = .ok (.aload_n 1, 1) := by decide +kernel
theorem dX7_readRow_78 : decode cX7_readRow 78 = .ok (.iload_n 3, 1) := by decide +kernel
theorem dX7_readRow_79 : decode cX7_readRow 79 = .ok (.iconst 5, 1) := by decide +kernel
theorem dX7_readRow_80 : decode cX7_readRow 80 = .ok (.iadd, 1) := by decide +kernel
theorem dX7_readRow_81 : decode cX7_readRow 81 = .ok (.iaload, 1) := by decide +kernel
theorem dX7_readRow_82 : decode cX7_readRow 82 = .ok (.putfield 43, 3) := by decide +kernel
theorem dX7_readRow_85 : decode cX7_readRow 85 = .ok (.return_, 1) := by decide +kernel
theorem dX7_passMonth_0 : decode cX7_passMonth 0 = .ok (.aload_n 0, 1) := by decide +kernel
theorem dX7_passMonth_1 : decode cX7_passMonth 1 = .ok (.dup, 1) := by decide +kernel
theorem dX7_passMonth_2 : decode cX7_passMonth 2 = .ok (.getfield 43, 3) := by decide +kernel
theorem dX7_passMonth_5 : decode cX7_passMonth 5 = .ok (.iconst 1, 1) := by decide +kernel
theorem dX7_passMonth_6 : decode cX7_passMonth 6 = .ok (.iadd, 1) := by decide +kernel
theorem dX7_passMonth_7 : decode cX7_passMonth 7 = .ok (.putfield 43, 3) := by decide +kernel
theorem dX7_passMonth_10 : decode cX7_passMonth 10 = .ok (.aload_n 0, 1) := by decide +kernel
theorem dX7_passMonth_11 : decode cX7_passMonth 11 = .ok (.sipush 999, 3) := by decide +kernel
theorem dX7_passMonth_14 : decode cX7_passMonth 14 = .ok (.aload_n 0, 1) := by decide +kernel
theorem dX7_passMonth_15 : decode cX7_passMonth 15 = .ok (.getfield 40, 3) := by decide +kernel
theorem dX7_passMonth_18 : decode cX7_passMonth 18 = .ok (.iconst 1, 1) := by decide +kernel
theorem dX7_passMonth_19 : decode cX7_passMonth 19 = .ok (.iadd, 1) := by decide +kernel
theorem dX7_passMonth_20 : decode cX7_passMonth 20 = .ok (.invokestatic 65, 3) := by decide +kernel
theorem dX7_passMonth_23 : decode cX7_passMonth 23 = .ok (.putfield 40, 3) := by decide +kernel
theorem dX7_passMonth_26 : decode cX7_passMonth 26 = .ok (.return_, 1) := by decide +kernel
theorem dX7_hang_0 : decode cX7_hang 0 = .ok (.aload_n 0, 1) := by decide +kernel
theorem dX7_hang_1 : decode cX7_hang 1 = .ok (.getfield 25, 3) := by decide +kernel
theorem dX7_hang_4 : decode cX7_hang 4 = .ok (.iconst 4, 1) := by decide +kernel
theorem dX7_hang_5 : decode cX7_hang 5 = .ok (.imul, 1) := by decide +kernel
theorem dX7_hang_6 : decode cX7_hang 6 = .ok (.istore 4, 2) := by decide +kernel
theorem dX7_hang_8 : decode cX7_hang 8 = .ok (.aload_n 0, 1) := by decide +kernel
theorem dX7_hang_9 : decode cX7_hang 9 = .ok (.getfield 18, 3) := by decide +kernel
theorem dX7_hang_12 : decode cX7_hang 12 = .ok (.iload 4, 2) := by decide +kernel
theorem dX7_hang_14 : decode cX7_hang 14 = .ok (.iconst 0, 1) := by decide +kernel
theorem dX7_hang_15 : decode cX7_hang 15 = .ok (.iadd, 1) := by decide +kernel
theorem dX7_hang_16 : decode cX7_hang 16 = .ok (.iload_n 1, 1) := by decide +kernel
theorem dX7_hang_17 : decode cX7_hang 17 = .ok (.iastore, 1) := by decide +kernel
theorem dX7_hang_18 : decode cX7_hang 18 = .ok (.aload_n 0, 1) := by decide +kernel
theorem dX7_hang_19 : decode cX7_hang 19 = .ok (.getfield 18, 3) := by decide +kernel
theorem dX7_hang_22 : decode cX7_hang 22 = .ok (.iload 4, 2) := by decide +kernel
theorem dX7_hang_24 : decode cX7_hang 24 = .ok (.iconst 1, 1) := by decide +kernel
theorem dX7_hang_25 : decode cX7_hang 25 = .ok (.iadd, 1) := by decide +kernel
theorem dX7_hang_26 : decode cX7_hang 26 = .ok (.iload_n 2, 1) := by decide +kernel
theorem dX7_hang_27 : decode cX7_hang 27 = .ok (.iastore, 1) := by decide +kernel
theorem dX7_hang_28 : decode cX7_hang 28 = .ok (.aload_n 0, 1) := by decide +kernel
theorem dX7_hang_29 : decode cX7_hang 29 = .ok (.getfield 18, 3) := by decide +kernel
theorem dX7_hang_32 : decode cX7_hang 32 = .ok (.iload 4, 2) := by decide +kernel
theorem dX7_hang_34 : decode cX7_hang 34 = .ok (.iconst 2, 1) := by decide +kernel
theorem dX7_hang_35 : decode cX7_hang 35 = .ok (.iadd, 1) := by decide +kernel
theorem dX7_hang_36 : decode cX7_hang 36 = .ok (.iload_n 3, 1) := by decide +kernel
theorem dX7_hang_37 : decode cX7_hang 37 = .ok (.iastore, 1) := by decide +kernel
theorem dX7_hang_38 : decode cX7_hang 38 = .ok (.aload_n 0, 1) := by decide +kernel
theorem dX7_hang_39 : decode cX7_hang 39 = .ok (.getfield 18, 3) := by decide +kernel
theorem dX7_hang_42 : decode cX7_hang 42 = .ok (.iload 4, 2) := by decide +kernel
theorem dX7_hang_44 : decode cX7_hang 44 = .ok (.iconst 3, 1) := by decide +kernel
theorem dX7_hang_45 : decode cX7_hang 45 = .ok (.iadd, 1) := by decide +kernel
theorem dX7_hang_46 : decode cX7_hang 46 = .ok (.aload_n 0, 1) := by decide +kernel
theorem dX7_hang_47 : decode cX7_hang 47 = .ok (.getfield 43, 3) := by decide +kernel
theorem dX7_hang_50 : decode cX7_hang 50 = .ok (.iastore, 1) := by decide +kernel
theorem dX7_hang_51 : decode cX7_hang 51 = .ok (.aload_n 0, 1) := by decide +kernel
theorem dX7_hang_52 : decode cX7_hang 52 = .ok (.dup, 1) := by decide +kernel
theorem dX7_hang_53 : decode cX7_hang 53 = .ok (.getfield 25, 3) := by decide +kernel
theorem dX7_hang_56 : decode cX7_hang 56 = .ok (.iconst 1, 1) := by decide +kernel
theorem dX7_hang_57 : decode cX7_hang 57 = .ok (.iadd, 1) := by decide +kernel
theorem dX7_hang_58 : decode cX7_hang 58 = .ok (.putfield 25, 3) := by decide +kernel
theorem dX7_hang_61 : decode cX7_hang 61 = .ok (.return_, 1) := by decide +kernel
theorem dX7_ofPortrait_0 : decode cX7_ofPortrait 0 = .ok (.aload_n 0, 1) := by decide +kernel
theorem dX7_ofPortrait_1 : decode cX7_ofPortrait 1 = .ok (.getfield 18, 3) := by decide +kernel
theorem dX7_ofPortrait_4 : decode cX7_ofPortrait 4 = .ok (.iload_n 1, 1) := by decide +kernel
theorem dX7_ofPortrait_5 : decode cX7_ofPortrait 5 = .ok (.iconst 4, 1) := by decide +kernel
theorem dX7_ofPortrait_6 : decode cX7_ofPortrait 6 = .ok (.imul, 1) := by decide +kernel
theorem dX7_ofPortrait_7 : decode cX7_ofPortrait 7 = .ok (.iload_n 2, 1) := by decide +kernel
theorem dX7_ofPortrait_8 : decode cX7_ofPortrait 8 = .ok (.iadd, 1) := by decide +kernel
theorem dX7_ofPortrait_9 : decode cX7_ofPortrait 9 = .ok (.iaload, 1) := by decide +kernel
theorem dX7_ofPortrait_10 : decode cX7_ofPortrait 10 = .ok (.ireturn, 1) := by decide +kernel
theorem dX7_latestBy_0 : decode cX7_latestBy 0 = .ok (.aload_n 0, 1) := by decide +kernel
theorem dX7_latestBy_1 : decode cX7_latestBy 1 = .ok (.getfield 25, 3) := by decide +kernel
theorem dX7_latestBy_4 : decode cX7_latestBy 4 = .ok (.iconst 1, 1) := by decide +kernel
theorem dX7_latestBy_5 : decode cX7_latestBy 5 = .ok (.isub, 1) := by decide +kernel
theorem dX7_latestBy_6 : decode cX7_latestBy 6 = .ok (.istore_n 2, 1) := by decide +kernel
theorem dX7_latestBy_7 : decode cX7_latestBy 7 = .ok (.iload_n 2, 1) := by decide +kernel
theorem dX7_latestBy_8 : decode cX7_latestBy 8 = .ok (.ifCond .lt 21, 3) := by decide +kernel
theorem dX7_latestBy_11 : decode cX7_latestBy 11 = .ok (.aload_n 0, 1) := by decide +kernel
theorem dX7_latestBy_12 : decode cX7_latestBy 12 = .ok (.iload_n 2, 1) := by decide +kernel
theorem dX7_latestBy_13 : decode cX7_latestBy 13 = .ok (.iconst 1, 1) := by decide +kernel
theorem dX7_latestBy_14 : decode cX7_latestBy 14 = .ok (.invokevirtual 70, 3) := by decide +kernel
theorem dX7_latestBy_17 : decode cX7_latestBy 17 = .ok (.iload_n 1, 1) := by decide +kernel
theorem dX7_latestBy_18 : decode cX7_latestBy 18 = .ok (.if_icmp .ne 5, 3) := by decide +kernel
theorem dX7_latestBy_21 : decode cX7_latestBy 21 = .ok (.iload_n 2, 1) := by decide +kernel
theorem dX7_latestBy_22 : decode cX7_latestBy 22 = .ok (.ireturn, 1) := by decide +kernel
theorem dX7_latestBy_23 : decode cX7_latestBy 23 = .ok (.iinc 2 (-1), 3) := by decide +kernel
theorem dX7_latestBy_26 : decode cX7_latestBy 26 = .ok (.goto (-19), 3) := by decide +kernel
theorem dX7_latestBy_29 : decode cX7_latestBy 29 = .ok (.iconst (-1), 1) := by decide +kernel
theorem dX7_latestBy_30 : decode cX7_latestBy 30 = .ok (.ireturn, 1) := by decide +kernel
theorem dX7_portraitsOf_0 : decode cX7_portraitsOf 0 = .ok (.iconst 0, 1) := by decide +kernel
theorem dX7_portraitsOf_1 : decode cX7_portraitsOf 1 = .ok (.istore_n 2, 1) := by decide +kernel
theorem dX7_portraitsOf_2 : decode cX7_portraitsOf 2 = .ok (.iconst 0, 1) := by decide +kernel
theorem dX7_portraitsOf_3 : decode cX7_portraitsOf 3 = .ok (.istore_n 3, 1) := by decide +kernel
theorem dX7_portraitsOf_4 : decode cX7_portraitsOf 4 = .ok (.iload_n 3, 1) := by decide +kernel
theorem dX7_portraitsOf_5 : decode cX7_portraitsOf 5 = .ok (.aload_n 0, 1) := by decide +kernel
theorem dX7_portraitsOf_6 : decode cX7_portraitsOf 6 = .ok (.getfield 25, 3) := by decide +kernel
theorem dX7_portraitsOf_9 : decode cX7_portraitsOf 9 = .ok (.if_icmp .ge 22, 3) := by decide +kernel
theorem dX7_portraitsOf_12 : decode cX7_portraitsOf 12 = .ok (.aload_n 0, 1) := by decide +kernel
theorem dX7_portraitsOf_13 : decode cX7_portraitsOf 13 = .ok (.iload_n 3, 1) := by decide +kernel
theorem dX7_portraitsOf_14 : decode cX7_portraitsOf 14 = .ok (.iconst 0, 1) := by decide +kernel
theorem dX7_portraitsOf_15 : decode cX7_portraitsOf 15 = .ok (.invokevirtual 70, 3) := by decide +kernel
theorem dX7_portraitsOf_18 : decode cX7_portraitsOf 18 = .ok (.iload_n 1, 1) := by decide +kernel
theorem dX7_portraitsOf_19 : decode cX7_portraitsOf 19 = .ok (.if_icmp .ne 6, 3) := by decide +kernel
theorem dX7_portraitsOf_22 : decode cX7_portraitsOf 22 = .ok (.iinc 2 1, 3) := by decide +kernel
theorem dX7_portraitsOf_25 : decode cX7_portraitsOf 25 = .ok (.iinc 3 1, 3) := by decide +kernel
theorem dX7_portraitsOf_28 : decode cX7_portraitsOf 28 = .ok (.goto (-24), 3) := by decide +kernel
theorem dX7_portraitsOf_31 : decode cX7_portraitsOf 31 = .ok (.iload_n 2, 1) := by decide +kernel
theorem dX7_portraitsOf_32 : decode cX7_portraitsOf 32 = .ok (.ireturn, 1) := by decide +kernel
theorem dX7_shownTogether_0 : decode cX7_shownTogether 0 = .ok (.iconst 0, 1) := by decide +kernel
theorem dX7_shownTogether_1 : decode cX7_shownTogether 1 = .ok (.istore_n 2, 1) := by decide +kernel
theorem dX7_shownTogether_2 : decode cX7_shownTogether 2 = .ok (.iconst 0, 1) := by decide +kernel
theorem dX7_shownTogether_3 : decode cX7_shownTogether 3 = .ok (.istore_n 3, 1) := by decide +kernel
theorem dX7_shownTogether_4 : decode cX7_shownTogether 4 = .ok (.iload_n 3, 1) := by decide +kernel
theorem dX7_shownTogether_5 : decode cX7_shownTogether 5 = .ok (.aload_n 0, 1) := by decide +kernel
theorem dX7_shownTogether_6 : decode cX7_shownTogether 6 = .ok (.getfield 25, 3) := by decide +kernel
theorem dX7_shownTogether_9 : decode cX7_shownTogether 9 = .ok (.if_icmp .ge 28, 3) := by decide +kernel
theorem dX7_shownTogether_12 : decode cX7_shownTogether 12 = .ok (.aload_n 0, 1) := by decide +kernel
theorem dX7_shownTogether_13 : decode cX7_shownTogether 13 = .ok (.iload_n 3, 1) := by decide +kernel
theorem dX7_shownTogether_14 : decode cX7_shownTogether 14 = .ok (.iconst 0, 1) := by decide +kernel
theorem dX7_shownTogether_15 : decode cX7_shownTogether 15 = .ok (.invokevirtual 70, 3) := by decide +kernel
theorem dX7_shownTogether_18 : decode cX7_shownTogether 18 = .ok (.iload_n 1, 1) := by decide +kernel
theorem dX7_shownTogether_19 : decode cX7_shownTogether 19 = .ok (.if_icmp .ne 12, 3) := by decide +kernel
theorem dX7_shownTogether_22 : decode cX7_shownTogether 22 = .ok (.iload_n 2, 1) := by decide +kernel
theorem dX7_shownTogether_23 : decode cX7_shownTogether 23 = .ok (.aload_n 0, 1) := by decide +kernel
theorem dX7_shownTogether_24 : decode cX7_shownTogether 24 = .ok (.iload_n 3, 1) := by decide +kernel
theorem dX7_shownTogether_25 : decode cX7_shownTogether 25 = .ok (.iconst 2, 1) := by decide +kernel
theorem dX7_shownTogether_26 : decode cX7_shownTogether 26 = .ok (.invokevirtual 70, 3) := by decide +kernel
theorem dX7_shownTogether_29 : decode cX7_shownTogether 29 = .ok (.iadd, 1) := by decide +kernel
theorem dX7_shownTogether_30 : decode cX7_shownTogether 30 = .ok (.istore_n 2, 1) := by decide +kernel
theorem dX7_shownTogether_31 : decode cX7_shownTogether 31 = .ok (.iinc 3 1, 3) := by decide +kernel
theorem dX7_shownTogether_34 : decode cX7_shownTogether 34 = .ok (.goto (-30), 3) := by decide +kernel
theorem dX7_shownTogether_37 : decode cX7_shownTogether 37 = .ok (.iload_n 2, 1) := by decide +kernel
theorem dX7_shownTogether_38 : decode cX7_shownTogether 38 = .ok (.ireturn, 1) := by decide +kernel
theorem dX8_flatteryFor_0 : decode cX8_flatteryFor 0 = .ok (.iconst 0, 1) := by decide +kernel
theorem dX8_flatteryFor_1 : decode cX8_flatteryFor 1 = .ok (.iload_n 2, 1) := by decide +kernel
theorem dX8_flatteryFor_2 : decode cX8_flatteryFor 2 = .ok (.aload_n 0, 1) := by decide +kernel
theorem dX8_flatteryFor_3 : decode cX8_flatteryFor 3 = .ok (.getfield 28, 3) := by decide +kernel
theorem dX8_flatteryFor_6 : decode cX8_flatteryFor 6 = .ok (.getfield 32, 3) := by decide +kernel
theorem dX8_flatteryFor_9 : decode cX8_flatteryFor 9 = .ok (.iload_n 1, 1) := by decide +kernel
theorem dX8_flatteryFor_10 : decode cX8_flatteryFor 10 = .ok (.iaload, 1) := by decide +kernel
theorem dX8_flatteryFor_11 : decode cX8_flatteryFor 11 = .ok (.iconst 3, 1) := by decide +kernel
theorem dX8_flatteryFor_12 : decode cX8_flatteryFor 12 = .ok (.idiv, 1) := by decide +kernel
theorem dX8_flatteryFor_13 : decode cX8_flatteryFor 13 = .ok (.isub, 1) := by decide +kernel
theorem dX8_flatteryFor_14 : decode cX8_flatteryFor 14 = .ok (.invokestatic 37, 3) := by decide +kernel
theorem dX8_flatteryFor_17 : decode cX8_flatteryFor 17 = .ok (.ireturn, 1) := by decide +kernel
theorem dX8_lookOf_0 : decode cX8_lookOf 0 = .ok (.iload_n 3, 1) := by decide +kernel
theorem dX8_lookOf_1 : decode cX8_lookOf 1 = .ok (.aload_n 0, 1) := by decide +kernel
theorem dX8_lookOf_2 : decode cX8_lookOf 2 = .ok (.iload_n 1, 1) := by decide +kernel
theorem dX8_lookOf_3 : decode cX8_lookOf 3 = .ok (.iload 4, 2) := by decide +kernel
theorem dX8_lookOf_5 : decode cX8_lookOf 5 = .ok (.invokevirtual 43, 3) := by decide +kernel
theorem dX8_lookOf_8 : decode cX8_lookOf 8 = .ok (.iadd, 1) := by decide +kernel
theorem dX8_lookOf_9 : decode cX8_lookOf 9 = .ok (.aload_n 0, 1) := by decide +kernel
theorem dX8_lookOf_10 : decode cX8_lookOf 10 = .ok (.getfield 24, 3) := by decide +kernel
theorem dX8_lookOf_13 : decode cX8_lookOf 13 = .ok (.iload_n 2, 1) := by decide +kernel
theorem dX8_lookOf_14 : decode cX8_lookOf 14 = .ok (.invokevirtual 46, 3) := by decide +kernel
theorem dX8_lookOf_17 : decode cX8_lookOf 17 = .ok (.iconst 2, 1) := by decide +kernel
theorem dX8_lookOf_18 : decode cX8_lookOf 18 = .ok (.idiv, 1) := by decide +kernel
theorem dX8_lookOf_19 : decode cX8_lookOf 19 = .ok (.isub, 1) := by decide +kernel
theorem dX8_lookOf_20 : decode cX8_lookOf 20 = .ok (.istore 5, 2) := by decide +kernel
theorem dX8_lookOf_22 : decode cX8_lookOf 22 = .ok (.aload_n 0, 1) := by decide +kernel
theorem dX8_lookOf_23 : decode cX8_lookOf 23 = .ok (.getfield 52, 3) := by decide +kernel
theorem dX8_lookOf_26 : decode cX8_lookOf 26 = .ok (.ifnull 91, 3) := by decide +kernel
theorem dX8_lookOf_29 : decode cX8_lookOf 29 = .ok (.aload_n 0, 1) := by decide +kernel
theorem dX8_lookOf_30 : decode cX8_lookOf 30 = .ok (.getfield 18, 3) := by decide +kernel
theorem dX8_lookOf_33 : decode cX8_lookOf 33 = .ok (.iconst 0, 1) := by decide +kernel
theorem dX8_lookOf_34 : decode cX8_lookOf 34 = .ok (.iload_n 3, 1) := by decide +kernel
theorem dX8_lookOf_35 : decode cX8_lookOf 35 = .ok (.iastore, 1) := by decide +kernel
theorem dX8_lookOf_36 : decode cX8_lookOf 36 = .ok (.aload_n 0, 1) := by decide +kernel
theorem dX8_lookOf_37 : decode cX8_lookOf 37 = .ok (.getfield 18, 3) := by decide +kernel
theorem dX8_lookOf_40 : decode cX8_lookOf 40 = .ok (.iconst 1, 1) := by decide +kernel
theorem dX8_lookOf_41 : decode cX8_lookOf 41 = .ok (.aload_n 0, 1) := by decide +kernel
theorem dX8_lookOf_42 : decode cX8_lookOf 42 = .ok (.getfield 24, 3) := by decide +kernel
theorem dX8_lookOf_45 : decode cX8_lookOf 45 = .ok (.iload_n 2, 1) := by decide +kernel
theorem dX8_lookOf_46 : decode cX8_lookOf 46 = .ok (.invokevirtual 46, 3) := by decide +kernel
theorem dX8_lookOf_49 : decode cX8_lookOf 49 = .ok (.iastore, 1) := by decide +kernel
theorem dX8_lookOf_50 : decode cX8_lookOf 50 = .ok (.aload_n 0, 1) := by decide +kernel
theorem dX8_lookOf_51 : decode cX8_lookOf 51 = .ok (.getfield 18, 3) := by decide +kernel
theorem dX8_lookOf_54 : decode cX8_lookOf 54 = .ok (.iconst 2, 1) := by decide +kernel
theorem dX8_lookOf_55 : decode cX8_lookOf 55 = .ok (.iload 4, 2) := by decide +kernel
theorem dX8_lookOf_57 : decode cX8_lookOf 57 = .ok (.iastore, 1) := by decide +kernel
theorem dX8_lookOf_58 : decode cX8_lookOf 58 = .ok (.aload_n 0, 1) := by decide +kernel
theorem dX8_lookOf_59 : decode cX8_lookOf 59 = .ok (.getfield 18, 3) := by decide +kernel
theorem dX8_lookOf_62 : decode cX8_lookOf 62 = .ok (.iconst 3, 1) := by decide +kernel
theorem dX8_lookOf_63 : decode cX8_lookOf 63 = .ok (.aload_n 0, 1) := by decide +kernel
theorem dX8_lookOf_64 : decode cX8_lookOf 64 = .ok (.getfield 24, 3) := by decide +kernel
theorem dX8_lookOf_67 : decode cX8_lookOf 67 = .ok (.iload_n 1, 1) := by decide +kernel
theorem dX8_lookOf_68 : decode cX8_lookOf 68 = .ok (.invokevirtual 56, 3) := by decide +kernel
theorem dX8_lookOf_71 : decode cX8_lookOf 71 = .ok (.iastore, 1) := by decide +kernel
theorem dX8_lookOf_72 : decode cX8_lookOf 72 = .ok (.aload_n 0, 1) := by decide +kernel
theorem dX8_lookOf_73 : decode cX8_lookOf 73 = .ok (.getfield 18, 3) := by decide +kernel
theorem dX8_lookOf_76 : decode cX8_lookOf 76 = .ok (.iconst 4, 1) := by decide +kernel
theorem dX8_lookOf_77 : decode cX8_lookOf 77 = .ok (.aload_n 0, 1) := by decide +kernel
theorem dX8_lookOf_78 : decode cX8_lookOf 78 = .ok (.getfield 28, 3) := by decide +kernel
theorem dX8_lookOf_81 : decode cX8_lookOf 81 = .ok (.getfield 32, 3) := by decide +kernel
theorem dX8_lookOf_84 : decode cX8_lookOf 84 = .ok (.iload_n 1, 1) := by decide +kernel
theorem dX8_lookOf_85 : decode cX8_lookOf 85 = .ok (.iaload, 1) := by decide +kernel
theorem dX8_lookOf_86 : decode cX8_lookOf 86 = .ok (.iastore, 1) := by decide +kernel
theorem dX8_lookOf_87 : decode cX8_lookOf 87 = .ok (.aload_n 0, 1) := by decide +kernel
theorem dX8_lookOf_88 : decode cX8_lookOf 88 = .ok (.getfield 18, 3) := by decide +kernel
theorem dX8_lookOf_91 : decode cX8_lookOf 91 = .ok (.iconst 5, 1) := by decide +kernel
theorem dX8_lookOf_92 : decode cX8_lookOf 92 = .ok (.aload_n 0, 1) := by decide +kernel
theorem dX8_lookOf_93 : decode cX8_lookOf 93 = .ok (.getfield 28, 3) := by decide +kernel
theorem dX8_lookOf_96 : decode cX8_lookOf 96 = .ok (.getfield 59, 3) := by decide +kernel
theorem dX8_lookOf_99 : decode cX8_lookOf 99 = .ok (.iastore, 1) := by decide +kernel
theorem dX8_lookOf_100 : decode cX8_lookOf 100 = .ok (.aload_n 0, 1) := by decide +kernel
theorem dX8_lookOf_101 : decode cX8_lookOf 101 = .ok (.getfield 52, 3) := by decide +kernel
theorem dX8_lookOf_104 : decode cX8_lookOf 104 = .ok (.aload_n 0, 1) := by decide +kernel
theorem dX8_lookOf_105 : decode cX8_lookOf 105 = .ok (.getfield 18, 3) := by decide +kernel
theorem dX8_lookOf_108 : decode cX8_lookOf 108 = .ok (.aload_n 0, 1) := by decide +kernel
theorem dX8_lookOf_109 : decode cX8_lookOf 109 = .ok (.getfield 21, 3) := by decide +kernel
theorem dX8_lookOf_112 : decode cX8_lookOf 112 = .ok (.invokevirtual 63, 3) := by decide +kernel
theorem dX8_lookOf_115 : decode cX8_lookOf 115 = .ok (.istore 5, 2) := by decide +kernel
theorem dX8_lookOf_117 : decode cX8_lookOf 117 = .ok (.iconst 0, 1) := by decide +kernel
theorem dX8_lookOf_118 : decode cX8_lookOf 118 = .ok (.bipush 9, 2) := by decide +kernel
theorem dX8_lookOf_120 : decode cX8_lookOf 120 = .ok (.iload 5, 2) := by decide +kernel
theorem dX8_lookOf_122 : decode cX8_lookOf 122 = .ok (.invokestatic 69, 3) := by decide +kernel
theorem dX8_lookOf_125 : decode cX8_lookOf 125 = .ok (.invokestatic 37, 3) := by decide +kernel
theorem dX8_lookOf_128 : decode cX8_lookOf 128 = .ok (.ireturn, 1) := by decide +kernel
theorem dX8_showOf_0 : decode cX8_showOf 0 = .ok (.aload_n 0, 1) := by decide +kernel
theorem dX8_showOf_1 : decode cX8_showOf 1 = .ok (.getfield 24, 3) := by decide +kernel
theorem dX8_showOf_4 : decode cX8_showOf 4 = .ok (.iload_n 1, 1) := by decide +kernel
theorem dX8_showOf_5 : decode cX8_showOf 5 = .ok (.invokevirtual 72, 3) := by decide +kernel
theorem dX8_showOf_8 : decode cX8_showOf 8 = .ok (.istore 4, 2) := by decide +kernel
theorem dX8_showOf_10 : decode cX8_showOf 10 = .ok (.iload 4, 2) := by decide +kernel
theorem dX8_showOf_12 : decode cX8_showOf 12 = .ok (.iconst 3, 1) := by decide +kernel
theorem dX8_showOf_13 : decode cX8_showOf 13 = .ok (.if_icmp .ne 14, 3) := by decide +kernel
theorem dX8_showOf_16 : decode cX8_showOf 16 = .ok (.aload_n 0, 1) := by decide +kernel
theorem dX8_showOf_17 : decode cX8_showOf 17 = .ok (.getfield 28, 3) := by decide +kernel
theorem dX8_showOf_20 : decode cX8_showOf 20 = .ok (.iload_n 1, 1) := by decide +kernel
theorem dX8_showOf_21 : decode cX8_showOf 21 = .ok (.invokevirtual 75, 3) := by decide +kernel
theorem dX8_showOf_24 : decode cX8_showOf 24 = .ok (.goto 4, 3) := by decide +kernel
theorem dX8_showOf_27 : decode cX8_showOf 27 = .ok (.iconst (-1), 1) := by decide +kernel
theorem dX8_showOf_28 : decode cX8_showOf 28 = .ok (.istore 5, 2) := by decide +kernel
theorem dX8_showOf_30 : decode cX8_showOf 30 = .ok (.iload 5, 2) := by decide +kernel
theorem dX8_showOf_32 : decode cX8_showOf 32 = .ok (.iconst (-1), 1) := by decide +kernel
theorem dX8_showOf_33 : decode cX8_showOf 33 = .ok (.if_icmp .eq 14, 3) := by decide +kernel
theorem dX8_showOf_36 : decode cX8_showOf 36 = .ok (.aload_n 0, 1) := by decide +kernel
theorem dX8_showOf_37 : decode cX8_showOf 37 = .ok (.getfield 28, 3) := by decide +kernel
theorem dX8_showOf_40 : decode cX8_showOf 40 = .ok (.iload 5, 2) := by decide +kernel
theorem dX8_showOf_42 : decode cX8_showOf 42 = .ok (.iconst 2, 1) := by decide +kernel
theorem dX8_showOf_43 : decode cX8_showOf 43 = .ok (.invokevirtual 78, 3) := by decide +kernel
theorem dX8_showOf_46 : decode cX8_showOf 46 = .ok (.ireturn, 1) := by decide +kernel
theorem dX8_showOf_47 : decode cX8_showOf 47 = .ok (.aload_n 0, 1) := by decide +kernel
theorem dX8_showOf_48 : decode cX8_showOf 48 = .ok (.iload_n 1, 1) := by decide +kernel
theorem dX8_showOf_49 : decode cX8_showOf 49 = .ok (.iload_n 2, 1) := by decide +kernel
theorem dX8_showOf_50 : decode cX8_showOf 50 = .ok (.iload_n 3, 1) := by decide +kernel
theorem dX8_showOf_51 : decode cX8_showOf 51 = .ok (.aload_n 0, 1) := by decide +kernel
theorem dX8_showOf_52 : decode cX8_showOf 52 = .ok (.getfield 28, 3) := by decide +kernel
theorem dX8_showOf_55 : decode cX8_showOf 55 = .ok (.getfield 81, 3) := by decide +kernel
theorem dX8_showOf_58 : decode cX8_showOf 58 = .ok (.iload_n 2, 1) := by decide +kernel
theorem dX8_showOf_59 : decode cX8_showOf 59 = .ok (.iaload, 1) := by decide +kernel
theorem dX8_showOf_60 : decode cX8_showOf 60 = .ok (.invokevirtual 84, 3) := by decide +kernel
theorem dX8_showOf_63 : decode cX8_showOf 63 = .ok (.istore 6, 2) := by decide +kernel
theorem dX8_showOf_65 : decode cX8_showOf 65 = .ok (.iload 4, 2) := by decide +kernel
theorem dX8_showOf_67 : decode cX8_showOf 67 = .ok (.lookupswitch 42 #[(1, 25), (2, 33)], 25) := by decide +kernel
theorem dX8_showOf_92 : decode cX8_showOf 92 = .ok (.iload 6, 2) := by decide +kernel
theorem dX8_showOf_94 : decode cX8_showOf 94 = .ok (.bipush 7, 2) := by decide +kernel
theorem dX8_showOf_96 : decode cX8_showOf 96 = .ok (.iadd, 1) := by decide +kernel
theorem dX8_showOf_97 : decode cX8_showOf 97 = .ok (.iconst 2, 1) := by decide +kernel
theorem dX8_showOf_98 : decode cX8_showOf 98 = .ok (.idiv, 1) := by decide +kernel
theorem dX8_showOf_99 : decode cX8_showOf 99 = .ok (.ireturn, 1) := by decide +kernel
theorem dX8_showOf_100 : decode cX8_showOf 100 = .ok (.iconst 0, 1) := by decide +kernel
theorem dX8_showOf_101 : decode cX8_showOf 101 = .ok (.iload 6, 2) := by decide +kernel
theorem dX8_showOf_103 : decode cX8_showOf 103 = .ok (.iconst 2, 1) := by decide +kernel
theorem dX8_showOf_104 : decode cX8_showOf 104 = .ok (.isub, 1) := by decide +kernel
theorem dX8_showOf_105 : decode cX8_showOf 105 = .ok (.invokestatic 37, 3) := by decide +kernel
theorem dX8_showOf_108 : decode cX8_showOf 108 = .ok (.ireturn, 1) := by decide +kernel
theorem dX8_showOf_109 : decode cX8_showOf 109 = .ok (.iload 6, 2) := by decide +kernel
theorem dX8_showOf_111 : decode cX8_showOf 111 = .ok (.ireturn, 1) := by decide +kernel
theorem dX9_add_0 : decode cX9_add 0 = .ok (.bipush 24, 2) := by decide +kernel
theorem dX9_add_2 : decode cX9_add 2 = .ok (.istore_n 2, 1) := by decide +kernel
theorem dX9_add_3 : decode cX9_add 3 = .ok (.iload_n 2, 1) := by decide +kernel
theorem dX9_add_4 : decode cX9_add 4 = .ok (.ifCond .lt 53, 3) := by decide +kernel
theorem dX9_add_7 : decode cX9_add 7 = .ok (.iload_n 1, 1) := by decide +kernel
theorem dX9_add_8 : decode cX9_add 8 = .ok (.iload_n 2, 1) := by decide +kernel
theorem dX9_add_9 : decode cX9_add 9 = .ok (.iushr, 1) := by decide +kernel
theorem dX9_add_10 : decode cX9_add 10 = .ok (.sipush 255, 3) := by decide +kernel
theorem dX9_add_13 : decode cX9_add 13 = .ok (.iand, 1) := by decide +kernel
theorem dX9_add_14 : decode cX9_add 14 = .ok (.istore_n 3, 1) := by decide +kernel
theorem dX9_add_15 : decode cX9_add 15 = .ok (.iload_n 3, 1) := by decide +kernel
theorem dX9_add_16 : decode cX9_add 16 = .ok (.ifCond .eq 35, 3) := by decide +kernel
theorem dX9_add_19 : decode cX9_add 19 = .ok (.aload_n 0, 1) := by decide +kernel
theorem dX9_add_20 : decode cX9_add 20 = .ok (.getfield 15, 3) := by decide +kernel
theorem dX9_add_23 : decode cX9_add 23 = .ok (.aload_n 0, 1) := by decide +kernel
theorem dX9_add_24 : decode cX9_add 24 = .ok (.getfield 9, 3) := by decide +kernel
theorem dX9_add_27 : decode cX9_add 27 = .ok (.arraylength, 1) := by decide +kernel
theorem dX9_add_28 : decode cX9_add 28 = .ok (.if_icmp .ge 23, 3) := by decide +kernel
theorem dX9_add_31 : decode cX9_add 31 = .ok (.aload_n 0, 1) := by decide +kernel
theorem dX9_add_32 : decode cX9_add 32 = .ok (.getfield 9, 3) := by decide +kernel
theorem dX9_add_35 : decode cX9_add 35 = .ok (.aload_n 0, 1) := by decide +kernel
theorem dX9_add_36 : decode cX9_add 36 = .ok (.getfield 15, 3) := by decide +kernel
theorem dX9_add_39 : decode cX9_add 39 = .ok (.iload_n 3, 1) := by decide +kernel
theorem dX9_add_40 : decode cX9_add 40 = .ok (.iastore, 1) := by decide +kernel
theorem dX9_add_41 : decode cX9_add 41 = .ok (.aload_n 0, 1) := by decide +kernel
theorem dX9_add_42 : decode cX9_add 42 = .ok (.dup, 1) := by decide +kernel
theorem dX9_add_43 : decode cX9_add 43 = .ok (.getfield 15, 3) := by decide +kernel
theorem dX9_add_46 : decode cX9_add 46 = .ok (.iconst 1, 1) := by decide +kernel
theorem dX9_add_47 : decode cX9_add 47 = .ok (.iadd, 1) := by decide +kernel
theorem dX9_add_48 : decode cX9_add 48 = .ok (.putfield 15, 3) := by decide +kernel
theorem dX9_add_51 : decode cX9_add 51 = .ok (.iinc 2 (-8), 3) := by decide +kernel
theorem dX9_add_54 : decode cX9_add 54 = .ok (.goto (-51), 3) := by decide +kernel
theorem dX9_add_57 : decode cX9_add 57 = .ok (.return_, 1) := by decide +kernel
theorem dX9_peek_0 : decode cX9_peek 0 = .ok (.aload_n 0, 1) := by decide +kernel
theorem dX9_peek_1 : decode cX9_peek 1 = .ok (.getfield 19, 3) := by decide +kernel
theorem dX9_peek_4 : decode cX9_peek 4 = .ok (.aload_n 0, 1) := by decide +kernel
theorem dX9_peek_5 : decode cX9_peek 5 = .ok (.getfield 15, 3) := by decide +kernel
theorem dX9_peek_8 : decode cX9_peek 8 = .ok (.if_icmp .ge 30, 3) := by decide +kernel
theorem dX9_peek_11 : decode cX9_peek 11 = .ok (.aload_n 0, 1) := by decide +kernel
theorem dX9_peek_12 : decode cX9_peek 12 = .ok (.getfield 9, 3) := by decide +kernel
theorem dX9_peek_15 : decode cX9_peek 15 = .ok (.aload_n 0, 1) := by decide +kernel
theorem dX9_peek_16 : decode cX9_peek 16 = .ok (.getfield 19, 3) := by decide +kernel
theorem dX9_peek_19 : decode cX9_peek 19 = .ok (.iaload, 1) := by decide +kernel
theorem dX9_peek_20 : decode cX9_peek 20 = .ok (.bipush 32, 2) := by decide +kernel
theorem dX9_peek_22 : decode cX9_peek 22 = .ok (.if_icmp .ne 16, 3) := by decide +kernel
theorem dX9_peek_25 : decode cX9_peek 25 = .ok (.aload_n 0, 1) := by decide +kernel
theorem dX9_peek_26 : decode cX9_peek 26 = .ok (.dup, 1) := by decide +kernel
theorem dX9_peek_27 : decode cX9_peek 27 = .ok (.getfield 19, 3) := by decide +kernel
theorem dX9_peek_30 : decode cX9_peek 30 = .ok (.iconst 1, 1) := by decide +kernel
theorem dX9_peek_31 : decode cX9_peek 31 = .ok (.iadd, 1) := by decide +kernel
theorem dX9_peek_32 : decode cX9_peek 32 = .ok (.putfield 19, 3) := by decide +kernel
theorem dX9_peek_35 : decode cX9_peek 35 = .ok (.goto (-35), 3) := by decide +kernel
theorem dX9_peek_38 : decode cX9_peek 38 = .ok (.aload_n 0, 1) := by decide +kernel
theorem dX9_peek_39 : decode cX9_peek 39 = .ok (.getfield 19, 3) := by decide +kernel
theorem dX9_peek_42 : decode cX9_peek 42 = .ok (.aload_n 0, 1) := by decide +kernel
theorem dX9_peek_43 : decode cX9_peek 43 = .ok (.getfield 15, 3) := by decide +kernel
theorem dX9_peek_46 : decode cX9_peek 46 = .ok (.if_icmp .ge 15, 3) := by decide +kernel
theorem dX9_peek_49 : decode cX9_peek 49 = .ok (.aload_n 0, 1) := by decide +kernel
theorem dX9_peek_50 : decode cX9_peek 50 = .ok (.getfield 9, 3) := by decide +kernel
theorem dX9_peek_53 : decode cX9_peek 53 = .ok (.aload_n 0, 1) := by decide +kernel
theorem dX9_peek_54 : decode cX9_peek 54 = .ok (.getfield 19, 3) := by decide +kernel
theorem dX9_peek_57 : decode cX9_peek 57 = .ok (.iaload, 1) := by decide +kernel
theorem dX9_peek_58 : decode cX9_peek 58 = .ok (.goto 4, 3) := by decide +kernel
theorem dX9_peek_61 : decode cX9_peek 61 = .ok (.iconst 0, 1) := by decide +kernel
theorem dX9_peek_62 : decode cX9_peek 62 = .ok (.ireturn, 1) := by decide +kernel
theorem dX9_takes_0 : decode cX9_takes 0 = .ok (.aload_n 0, 1) := by decide +kernel
theorem dX9_takes_1 : decode cX9_takes 1 = .ok (.invokevirtual 22, 3) := by decide +kernel
theorem dX9_takes_4 : decode cX9_takes 4 = .ok (.iload_n 1, 1) := by decide +kernel
theorem dX9_takes_5 : decode cX9_takes 5 = .ok (.if_icmp .eq 5, 3) := by decide +kernel
theorem dX9_takes_8 : decode cX9_takes 8 = .ok (.iconst 0, 1) := by decide +kernel
theorem dX9_takes_9 : decode cX9_takes 9 = .ok (.ireturn, 1) := by decide +kernel
theorem dX9_takes_10 : decode cX9_takes 10 = .ok (.aload_n 0, 1) := by decide +kernel
theorem dX9_takes_11 : decode cX9_takes 11 = .ok (.dup, 1) := by decide +kernel
theorem dX9_takes_12 : decode cX9_takes 12 = .ok (.getfield 19, 3) := by decide +kernel
theorem dX9_takes_15 : decode cX9_takes 15 = .ok (.iconst 1, 1) := by decide +kernel
theorem dX9_takes_16 : decode cX9_takes 16 = .ok (.iadd, 1) := by decide +kernel
theorem dX9_takes_17 : decode cX9_takes 17 = .ok (.putfield 19, 3) := by decide +kernel
theorem dX9_takes_20 : decode cX9_takes 20 = .ok (.iconst 1, 1) := by decide +kernel
theorem dX9_takes_21 : decode cX9_takes 21 = .ok (.ireturn, 1) := by decide +kernel
theorem dX9_number_0 : decode cX9_number 0 = .ok (.iconst 0, 1) := by decide +kernel
theorem dX9_number_1 : decode cX9_number 1 = .ok (.istore_n 3, 1) := by decide +kernel
theorem dX9_number_2 : decode cX9_number 2 = .ok (.iconst 0, 1) := by decide +kernel
theorem dX9_number_3 : decode cX9_number 3 = .ok (.istore 4, 2) := by decide +kernel
theorem dX9_number_5 : decode cX9_number 5 = .ok (.aload_n 0, 1) := by decide +kernel
theorem dX9_number_6 : decode cX9_number 6 = .ok (.getfield 19, 3) := by decide +kernel
theorem dX9_number_9 : decode cX9_number 9 = .ok (.aload_n 0, 1) := by decide +kernel
theorem dX9_number_10 : decode cX9_number 10 = .ok (.getfield 15, 3) := by decide +kernel
theorem dX9_number_13 : decode cX9_number 13 = .ok (.if_icmp .ge 73, 3) := by decide +kernel
theorem dX9_number_16 : decode cX9_number 16 = .ok (.aload_n 0, 1) := by decide +kernel
theorem dX9_number_17 : decode cX9_number 17 = .ok (.getfield 9, 3) := by decide +kernel
theorem dX9_number_20 : decode cX9_number 20 = .ok (.aload_n 0, 1) := by decide +kernel
theorem dX9_number_21 : decode cX9_number 21 = .ok (.getfield 19, 3) := by decide +kernel
theorem dX9_number_24 : decode cX9_number 24 = .ok (.iaload, 1) := by decide +kernel
theorem dX9_number_25 : decode cX9_number 25 = .ok (.bipush 48, 2) := by decide +kernel
theorem dX9_number_27 : decode cX9_number 27 = .ok (.if_icmp .lt 59, 3) := by decide +kernel
theorem dX9_number_30 : decode cX9_number 30 = .ok (.aload_n 0, 1) := by decide +kernel
theorem dX9_number_31 : decode cX9_number 31 = .ok (.getfield 9, 3) := by decide +kernel
theorem dX9_number_34 : decode cX9_number 34 = .ok (.aload_n 0, 1) := by decide +kernel
theorem dX9_number_35 : decode cX9_number 35 = .ok (.getfield 19, 3) := by decide +kernel
theorem dX9_number_38 : decode cX9_number 38 = .ok (.iaload, 1) := by decide +kernel
theorem dX9_number_39 : decode cX9_number 39 = .ok (.bipush 57, 2) := by decide +kernel
theorem dX9_number_41 : decode cX9_number 41 = .ok (.if_icmp .gt 45, 3) := by decide +kernel
theorem dX9_number_44 : decode cX9_number 44 = .ok (.iload 4, 2) := by decide +kernel
theorem dX9_number_46 : decode cX9_number 46 = .ok (.iload_n 1, 1) := by decide +kernel
theorem dX9_number_47 : decode cX9_number 47 = .ok (.if_icmp .ne 5, 3) := by decide +kernel
theorem dX9_number_50 : decode cX9_number 50 = .ok (.iconst (-1), 1) := by decide +kernel
theorem dX9_number_51 : decode cX9_number 51 = .ok (.ireturn, 1) := by decide +kernel
theorem dX9_number_52 : decode cX9_number 52 = .ok (.bipush 10, 2) := by decide +kernel
theorem dX9_number_54 : decode cX9_number 54 = .ok (.iload_n 3, 1) := by decide +kernel
theorem dX9_number_55 : decode cX9_number 55 = .ok (.imul, 1) := by decide +kernel
theorem dX9_number_56 : decode cX9_number 56 = .ok (.aload_n 0, 1) := by decide +kernel
theorem dX9_number_57 : decode cX9_number 57 = .ok (.getfield 9, 3) := by decide +kernel
theorem dX9_number_60 : decode cX9_number 60 = .ok (.aload_n 0, 1) := by decide +kernel
theorem dX9_number_61 : decode cX9_number 61 = .ok (.getfield 19, 3) := by decide +kernel
theorem dX9_number_64 : decode cX9_number 64 = .ok (.iaload, 1) := by decide +kernel
theorem dX9_number_65 : decode cX9_number 65 = .ok (.iadd, 1) := by decide +kernel
theorem dX9_number_66 : decode cX9_number 66 = .ok (.bipush 48, 2) := by decide +kernel
theorem dX9_number_68 : decode cX9_number 68 = .ok (.isub, 1) := by decide +kernel
theorem dX9_number_69 : decode cX9_number 69 = .ok (.istore_n 3, 1) := by decide +kernel
theorem dX9_number_70 : decode cX9_number 70 = .ok (.iinc 4 1, 3) := by decide +kernel
theorem dX9_number_73 : decode cX9_number 73 = .ok (.aload_n 0, 1) := by decide +kernel
theorem dX9_number_74 : decode cX9_number 74 = .ok (.dup, 1) := by decide +kernel
theorem dX9_number_75 : decode cX9_number 75 = .ok (.getfield 19, 3) := by decide +kernel
theorem dX9_number_78 : decode cX9_number 78 = .ok (.iconst 1, 1) := by decide +kernel
theorem dX9_number_79 : decode cX9_number 79 = .ok (.iadd, 1) := by decide +kernel
theorem dX9_number_80 : decode cX9_number 80 = .ok (.putfield 19, 3) := by decide +kernel
theorem dX9_number_83 : decode cX9_number 83 = .ok (.goto (-78), 3) := by decide +kernel
theorem dX9_number_86 : decode cX9_number 86 = .ok (.iload 4, 2) := by decide +kernel
theorem dX9_number_88 : decode cX9_number 88 = .ok (.ifCond .ne 5, 3) := by decide +kernel
theorem dX9_number_91 : decode cX9_number 91 = .ok (.iconst (-1), 1) := by decide +kernel
theorem dX9_number_92 : decode cX9_number 92 = .ok (.ireturn, 1) := by decide +kernel
theorem dX9_number_93 : decode cX9_number 93 = .ok (.iload_n 3, 1) := by decide +kernel
theorem dX9_number_94 : decode cX9_number 94 = .ok (.iload_n 2, 1) := by decide +kernel
theorem dX9_number_95 : decode cX9_number 95 = .ok (.if_icmp .le 15, 3) := by decide +kernel
theorem dX9_number_98 : decode cX9_number 98 = .ok (.aload_n 0, 1) := by decide +kernel
theorem dX9_number_99 : decode cX9_number 99 = .ok (.dup, 1) := by decide +kernel
theorem dX9_number_100 : decode cX9_number 100 = .ok (.getfield 19, 3) := by decide +kernel
theorem dX9_number_103 : decode cX9_number 103 = .ok (.iconst 1, 1) := by decide +kernel
theorem dX9_number_104 : decode cX9_number 104 = .ok (.isub, 1) := by decide +kernel
theorem dX9_number_105 : decode cX9_number 105 = .ok (.putfield 19, 3) := by decide +kernel
theorem dX9_number_108 : decode cX9_number 108 = .ok (.iconst (-1), 1) := by decide +kernel
theorem dX9_number_109 : decode cX9_number 109 = .ok (.ireturn, 1) := by decide +kernel
theorem dX9_number_110 : decode cX9_number 110 = .ok (.iload_n 3, 1) := by decide +kernel
theorem dX9_number_111 : decode cX9_number 111 = .ok (.ireturn, 1) := by decide +kernel
theorem dX10_gain_0 : decode cX10_gain 0 = .ok (.iload_n 0, 1) := by decide +kernel
theorem dX10_gain_1 : decode cX10_gain 1 = .ok (.iload_n 1, 1) := by decide +kernel
theorem dX10_gain_2 : decode cX10_gain 2 = .ok (.if_icmp .le 8, 3) := by decide +kernel
theorem dX10_gain_5 : decode cX10_gain 5 = .ok (.bipush 6, 2) := by decide +kernel
theorem dX10_gain_7 : decode cX10_gain 7 = .ok (.goto 13, 3) := by decide +kernel
theorem dX10_gain_10 : decode cX10_gain 10 = .ok (.iload_n 0, 1) := by decide +kernel
theorem dX10_gain_11 : decode cX10_gain 11 = .ok (.iload_n 1, 1) := by decide +kernel
theorem dX10_gain_12 : decode cX10_gain 12 = .ok (.if_icmp .ne 7, 3) := by decide +kernel
theorem dX10_gain_15 : decode cX10_gain 15 = .ok (.iconst 3, 1) := by decide +kernel
theorem dX10_gain_16 : decode cX10_gain 16 = .ok (.goto 4, 3) := by decide +kernel
theorem dX10_gain_19 : decode cX10_gain 19 = .ok (.iconst 0, 1) := by decide +kernel
theorem dX10_gain_20 : decode cX10_gain 20 = .ok (.istore_n 3, 1) := by decide +kernel
theorem dX10_gain_21 : decode cX10_gain 21 = .ok (.iload_n 3, 1) := by decide +kernel
theorem dX10_gain_22 : decode cX10_gain 22 = .ok (.iload_n 2, 1) := by decide +kernel
theorem dX10_gain_23 : decode cX10_gain 23 = .ok (.iconst 2, 1) := by decide +kernel
theorem dX10_gain_24 : decode cX10_gain 24 = .ok (.idiv, 1) := by decide +kernel
theorem dX10_gain_25 : decode cX10_gain 25 = .ok (.isub, 1) := by decide +kernel
theorem dX10_gain_26 : decode cX10_gain 26 = .ok (.ireturn, 1) := by decide +kernel
theorem dX10_hasCourt_0 : decode cX10_hasCourt 0 = .ok (.aload_n 0, 1) := by decide +kernel
theorem dX10_hasCourt_1 : decode cX10_hasCourt 1 = .ok (.getfield 37, 3) := by decide +kernel
theorem dX10_hasCourt_4 : decode cX10_hasCourt 4 = .ok (.getfield 134, 3) := by decide +kernel
theorem dX10_hasCourt_7 : decode cX10_hasCourt 7 = .ok (.ifCond .le 7, 3) := by decide +kernel
theorem dX10_hasCourt_10 : decode cX10_hasCourt 10 = .ok (.iconst 1, 1) := by decide +kernel
theorem dX10_hasCourt_11 : decode cX10_hasCourt 11 = .ok (.goto 4, 3) := by decide +kernel
theorem dX10_hasCourt_14 : decode cX10_hasCourt 14 = .ok (.iconst 0, 1) := by decide +kernel
theorem dX10_hasCourt_15 : decode cX10_hasCourt 15 = .ok (.ireturn, 1) := by decide +kernel
theorem dX10_isBride_0 : decode cX10_isBride 0 = .ok (.iload_n 1, 1) := by decide +kernel
theorem dX10_isBride_1 : decode cX10_isBride 1 = .ok (.ifCond .lt 18, 3) := by decide +kernel
theorem dX10_isBride_4 : decode cX10_isBride 4 = .ok (.iload_n 1, 1) := by decide +kernel
theorem dX10_isBride_5 : decode cX10_isBride 5 = .ok (.aload_n 0, 1) := by decide +kernel
theorem dX10_isBride_6 : decode cX10_isBride 6 = .ok (.getfield 37, 3) := by decide +kernel
theorem dX10_isBride_9 : decode cX10_isBride 9 = .ok (.getfield 134, 3) := by decide +kernel
theorem dX10_isBride_12 : decode cX10_isBride 12 = .ok (.if_icmp .ge 7, 3) := by decide +kernel
theorem dX10_isBride_15 : decode cX10_isBride 15 = .ok (.iconst 1, 1) := by decide +kernel
theorem dX10_isBride_16 : decode cX10_isBride 16 = .ok (.goto 4, 3) := by decide +kernel
theorem dX10_isBride_19 : decode cX10_isBride 19 = .ok (.iconst 0, 1) := by decide +kernel
theorem dX10_isBride_20 : decode cX10_isBride 20 = .ok (.ireturn, 1) := by decide +kernel
theorem dX10_isPainter_0 : decode cX10_isPainter 0 = .ok (.iload_n 1, 1) := by decide +kernel
theorem dX10_isPainter_1 : decode cX10_isPainter 1 = .ok (.ifCond .lt 18, 3) := by decide +kernel
theorem dX10_isPainter_4 : decode cX10_isPainter 4 = .ok (.iload_n 1, 1) := by decide +kernel
theorem dX10_isPainter_5 : decode cX10_isPainter 5 = .ok (.aload_n 0, 1) := by decide +kernel
theorem dX10_isPainter_6 : decode cX10_isPainter 6 = .ok (.getfield 37, 3) := by decide +kernel
theorem dX10_isPainter_9 : decode cX10_isPainter 9 = .ok (.getfield 266, 3) := by decide +kernel
theorem dX10_isPainter_12 : decode cX10_isPainter 12 = .ok (.if_icmp .ge 7, 3) := by decide +kernel
theorem dX10_isPainter_15 : decode cX10_isPainter 15 = .ok (.iconst 1, 1) := by decide +kernel
theorem dX10_isPainter_16 : decode cX10_isPainter 16 = .ok (.goto 4, 3) := by decide +kernel
theorem dX10_isPainter_19 : decode cX10_isPainter 19 = .ok (.iconst 0, 1) := by decide +kernel
theorem dX10_isPainter_20 : decode cX10_isPainter 20 = .ok (.ireturn, 1) := by decide +kernel
theorem dX10_isFace_0 : decode cX10_isFace 0 = .ok (.iload_n 0, 1) := by decide +kernel
theorem dX10_isFace_1 : decode cX10_isFace 1 = .ok (.ifCond .lt 13, 3) := by decide +kernel
theorem dX10_isFace_4 : decode cX10_isFace 4 = .ok (.iload_n 0, 1) := by decide +kernel
theorem dX10_isFace_5 : decode cX10_isFace 5 = .ok (.bipush 10, 2) := by decide +kernel
theorem dX10_isFace_7 : decode cX10_isFace 7 = .ok (.if_icmp .ge 7, 3) := by decide +kernel
theorem dX10_isFace_10 : decode cX10_isFace 10 = .ok (.iconst 1, 1) := by decide +kernel
theorem dX10_isFace_11 : decode cX10_isFace 11 = .ok (.goto 4, 3) := by decide +kernel
theorem dX10_isFace_14 : decode cX10_isFace 14 = .ok (.iconst 0, 1) := by decide +kernel
theorem dX10_isFace_15 : decode cX10_isFace 15 = .ok (.ireturn, 1) := by decide +kernel
theorem dX10_isDigit_0 : decode cX10_isDigit 0 = .ok (.iload_n 0, 1) := by decide +kernel
theorem dX10_isDigit_1 : decode cX10_isDigit 1 = .ok (.ifCond .lt 13, 3) := by decide +kernel
theorem dX10_isDigit_4 : decode cX10_isDigit 4 = .ok (.iload_n 0, 1) := by decide +kernel
theorem dX10_isDigit_5 : decode cX10_isDigit 5 = .ok (.bipush 9, 2) := by decide +kernel
theorem dX10_isDigit_7 : decode cX10_isDigit 7 = .ok (.if_icmp .gt 7, 3) := by decide +kernel
theorem dX10_isDigit_10 : decode cX10_isDigit 10 = .ok (.iconst 1, 1) := by decide +kernel
theorem dX10_isDigit_11 : decode cX10_isDigit 11 = .ok (.goto 4, 3) := by decide +kernel
theorem dX10_isDigit_14 : decode cX10_isDigit 14 = .ok (.iconst 0, 1) := by decide +kernel
theorem dX10_isDigit_15 : decode cX10_isDigit 15 = .ok (.ireturn, 1) := by decide +kernel
theorem dX10_bit_0 : decode cX10_bit 0 = .ok (.iload_n 0, 1) := by decide +kernel
theorem dX10_bit_1 : decode cX10_bit 1 = .ok (.iload_n 1, 1) := by decide +kernel
theorem dX10_bit_2 : decode cX10_bit 2 = .ok (.ishr, 1) := by decide +kernel
theorem dX10_bit_3 : decode cX10_bit 3 = .ok (.iconst 1, 1) := by decide +kernel
theorem dX10_bit_4 : decode cX10_bit 4 = .ok (.iand, 1) := by decide +kernel
theorem dX10_bit_5 : decode cX10_bit 5 = .ok (.ireturn, 1) := by decide +kernel
