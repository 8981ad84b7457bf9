set_option maxRecDepth 100000 in
theorem dX0_keep_0_z : ((((decode cX0_keep 0 = .ok (.aload_n 1, 1) ∧ decode cX0_keep 1 = .ok (.aload_n 0, 1)) ∧ (decode cX0_keep 2 = .ok (.getfield 11, 3) ∧ decode cX0_keep 5 = .ok (.aload_n 0, 1))) ∧ ((decode cX0_keep 6 = .ok (.getfield 17, 3) ∧ decode cX0_keep 9 = .ok (.bipush 17, 2)) ∧ (decode cX0_keep 11 = .ok (.imul, 1) ∧ decode cX0_keep 12 = .ok (.invokevirtual 21, 3)))) ∧ (((decode cX0_keep 15 = .ok (.aload_n 0, 1) ∧ decode cX0_keep 16 = .ok (.aload_n 0, 1)) ∧ (decode cX0_keep 17 = .ok (.getfield 17, 3) ∧ decode cX0_keep 20 = .ok (.iconst 1, 1))) ∧ ((decode cX0_keep 21 = .ok (.iadd, 1) ∧ decode cX0_keep 22 = .ok (.bipush 40, 2)) ∧ (decode cX0_keep 24 = .ok (.irem, 1) ∧ decode cX0_keep 25 = .ok (.putfield 17, 3))))) := by decide +kernel
theorem dX0_keep_0 : decode cX0_keep 0 = .ok (.aload_n 1, 1) := dX0_keep_0_z.1.1.1.1
theorem dX0_keep_1 : decode cX0_keep 1 = .ok (.aload_n 0, 1) := dX0_keep_0_z.1.1.1.2
theorem dX0_keep_2 : decode cX0_keep 2 = .ok (.getfield 11, 3) := dX0_keep_0_z.1.1.2.1
theorem dX0_keep_5 : decode cX0_keep 5 = .ok (.aload_n 0, 1) := dX0_keep_0_z.1.1.2.2
theorem dX0_keep_6 : decode cX0_keep 6 = .ok (.getfield 17, 3) := dX0_keep_0_z.1.2.1.1
theorem dX0_keep_9 : decode cX0_keep 9 = .ok (.bipush 17, 2) := dX0_keep_0_z.1.2.1.2
theorem dX0_keep_11 : decode cX0_keep 11 = .ok (.imul, 1) := dX0_keep_0_z.1.2.2.1
theorem dX0_keep_12 : decode cX0_keep 12 = .ok (.invokevirtual 21, 3) := dX0_keep_0_z.1.2.2.2
theorem dX0_keep_15 : decode cX0_keep 15 = .ok (.aload_n 0, 1) := dX0_keep_0_z.2.1.1.1
theorem dX0_keep_16 : decode cX0_keep 16 = .ok (.aload_n 0, 1) := dX0_keep_0_z.2.1.1.2
theorem dX0_keep_17 : decode cX0_keep 17 = .ok (.getfield 17, 3) := dX0_keep_0_z.2.1.2.1
theorem dX0_keep_20 : decode cX0_keep 20 = .ok (.iconst 1, 1) := dX0_keep_0_z.2.1.2.2
theorem dX0_keep_21 : decode cX0_keep 21 = .ok (.iadd, 1) := dX0_keep_0_z.2.2.1.1
theorem dX0_keep_22 : decode cX0_keep 22 = .ok (.bipush 40, 2) := dX0_keep_0_z.2.2.1.2
theorem dX0_keep_24 : decode cX0_keep 24 = .ok (.irem, 1) := dX0_keep_0_z.2.2.2.1
theorem dX0_keep_25 : decode cX0_keep 25 = .ok (.putfield 17, 3) := dX0_keep_0_z.2.2.2.2
set_option maxRecDepth 100000 in
theorem dX0_keep_28_z : ((((decode cX0_keep 28 = .ok (.aload_n 0, 1) ∧ decode cX0_keep 29 = .ok (.bipush 40, 2)) ∧ decode cX0_keep 31 = .ok (.aload_n 0, 1)) ∧ (decode cX0_keep 32 = .ok (.getfield 25, 3) ∧ decode cX0_keep 35 = .ok (.iconst 1, 1))) ∧ ((decode cX0_keep 36 = .ok (.iadd, 1) ∧ decode cX0_keep 37 = .ok (.invokestatic 28, 3)) ∧ (decode cX0_keep 40 = .ok (.putfield 25, 3) ∧ decode cX0_keep 43 = .ok (.return_, 1)))) := by decide +kernel
theorem dX0_keep_28 : decode cX0_keep 28 = .ok (.aload_n 0, 1) := dX0_keep_28_z.1.1.1.1
theorem dX0_keep_29 : decode cX0_keep 29 = .ok (.bipush 40, 2) := dX0_keep_28_z.1.1.1.2
theorem dX0_keep_31 : decode cX0_keep 31 = .ok (.aload_n 0, 1) := dX0_keep_28_z.1.1.2
theorem dX0_keep_32 : decode cX0_keep 32 = .ok (.getfield 25, 3) := dX0_keep_28_z.1.2.1
theorem dX0_keep_35 : decode cX0_keep 35 = .ok (.iconst 1, 1) := dX0_keep_28_z.1.2.2
theorem dX0_keep_36 : decode cX0_keep 36 = .ok (.iadd, 1) := dX0_keep_28_z.2.1.1
theorem dX0_keep_37 : decode cX0_keep 37 = .ok (.invokestatic 28, 3) := dX0_keep_28_z.2.1.2
theorem dX0_keep_40 : decode cX0_keep 40 = .ok (.putfield 25, 3) := dX0_keep_28_z.2.2.1
theorem dX0_keep_43 : decode cX0_keep 43 = .ok (.return_, 1) := dX0_keep_28_z.2.2.2
set_option maxRecDepth 100000 in
theorem dX0_takeBack_0_z : ((((decode cX0_takeBack 0 = .ok (.aload_n 0, 1) ∧ decode cX0_takeBack 1 = .ok (.getfield 25, 3)) ∧ (decode cX0_takeBack 4 = .ok (.ifCond .ne 5, 3) ∧ decode cX0_takeBack 7 = .ok (.iconst 0, 1))) ∧ ((decode cX0_takeBack 8 = .ok (.ireturn, 1) ∧ decode cX0_takeBack 9 = .ok (.aload_n 0, 1)) ∧ (decode cX0_takeBack 10 = .ok (.aload_n 0, 1) ∧ decode cX0_takeBack 11 = .ok (.getfield 17, 3)))) ∧ (((decode cX0_takeBack 14 = .ok (.bipush 40, 2) ∧ decode cX0_takeBack 16 = .ok (.iadd, 1)) ∧ (decode cX0_takeBack 17 = .ok (.iconst 1, 1) ∧ decode cX0_takeBack 18 = .ok (.isub, 1))) ∧ ((decode cX0_takeBack 19 = .ok (.bipush 40, 2) ∧ decode cX0_takeBack 21 = .ok (.irem, 1)) ∧ (decode cX0_takeBack 22 = .ok (.putfield 17, 3) ∧ decode cX0_takeBack 25 = .ok (.aload_n 0, 1))))) := by decide +kernel
theorem dX0_takeBack_0 : decode cX0_takeBack 0 = .ok (.aload_n 0, 1) := dX0_takeBack_0_z.1.1.1.1
theorem dX0_takeBack_1 : decode cX0_takeBack 1 = .ok (.getfield 25, 3) := dX0_takeBack_0_z.1.1.1.2
theorem dX0_takeBack_4 : decode cX0_takeBack 4 = .ok (.ifCond .ne 5, 3) := dX0_takeBack_0_z.1.1.2.1
theorem dX0_takeBack_7 : decode cX0_takeBack 7 = .ok (.iconst 0, 1) := dX0_takeBack_0_z.1.1.2.2
theorem dX0_takeBack_8 : decode cX0_takeBack 8 = .ok (.ireturn, 1) := dX0_takeBack_0_z.1.2.1.1
theorem dX0_takeBack_9 : decode cX0_takeBack 9 = .ok (.aload_n 0, 1) := dX0_takeBack_0_z.1.2.1.2
theorem dX0_takeBack_10 : decode cX0_takeBack 10 = .ok (.aload_n 0, 1) := dX0_takeBack_0_z.1.2.2.1
theorem dX0_takeBack_11 : decode cX0_takeBack 11 = .ok (.getfield 17, 3) := dX0_takeBack_0_z.1.2.2.2
theorem dX0_takeBack_14 : decode cX0_takeBack 14 = .ok (.bipush 40, 2) := dX0_takeBack_0_z.2.1.1.1
theorem dX0_takeBack_16 : decode cX0_takeBack 16 = .ok (.iadd, 1) := dX0_takeBack_0_z.2.1.1.2
theorem dX0_takeBack_17 : decode cX0_takeBack 17 = .ok (.iconst 1, 1) := dX0_takeBack_0_z.2.1.2.1
theorem dX0_takeBack_18 : decode cX0_takeBack 18 = .ok (.isub, 1) := dX0_takeBack_0_z.2.1.2.2
theorem dX0_takeBack_19 : decode cX0_takeBack 19 = .ok (.bipush 40, 2) := dX0_takeBack_0_z.2.2.1.1
theorem dX0_takeBack_21 : decode cX0_takeBack 21 = .ok (.irem, 1) := dX0_takeBack_0_z.2.2.1.2
theorem dX0_takeBack_22 : decode cX0_takeBack 22 = .ok (.putfield 17, 3) := dX0_takeBack_0_z.2.2.2.1
theorem dX0_takeBack_25 : decode cX0_takeBack 25 = .ok (.aload_n 0, 1) := dX0_takeBack_0_z.2.2.2.2
set_option maxRecDepth 100000 in
theorem dX0_takeBack_26_z : ((((decode cX0_takeBack 26 = .ok (.dup, 1) ∧ decode cX0_takeBack 27 = .ok (.getfield 25, 3)) ∧ (decode cX0_takeBack 30 = .ok (.iconst 1, 1) ∧ decode cX0_takeBack 31 = .ok (.isub, 1))) ∧ ((decode cX0_takeBack 32 = .ok (.putfield 25, 3) ∧ decode cX0_takeBack 35 = .ok (.aload_n 1, 1)) ∧ (decode cX0_takeBack 36 = .ok (.aload_n 0, 1) ∧ decode cX0_takeBack 37 = .ok (.getfield 11, 3)))) ∧ (((decode cX0_takeBack 40 = .ok (.aload_n 0, 1) ∧ decode cX0_takeBack 41 = .ok (.getfield 17, 3)) ∧ (decode cX0_takeBack 44 = .ok (.bipush 17, 2) ∧ decode cX0_takeBack 46 = .ok (.imul, 1))) ∧ ((decode cX0_takeBack 47 = .ok (.invokevirtual 34, 3) ∧ decode cX0_takeBack 50 = .ok (.iconst 1, 1)) ∧ decode cX0_takeBack 51 = .ok (.ireturn, 1)))) := by decide +kernel
theorem dX0_takeBack_26 : decode cX0_takeBack 26 = .ok (.dup, 1) := dX0_takeBack_26_z.1.1.1.1
theorem dX0_takeBack_27 : decode cX0_takeBack 27 = .ok (.getfield 25, 3) := dX0_takeBack_26_z.1.1.1.2
theorem dX0_takeBack_30 : decode cX0_takeBack 30 = .ok (.iconst 1, 1) := dX0_takeBack_26_z.1.1.2.1
theorem dX0_takeBack_31 : decode cX0_takeBack 31 = .ok (.isub, 1) := dX0_takeBack_26_z.1.1.2.2
theorem dX0_takeBack_32 : decode cX0_takeBack 32 = .ok (.putfield 25, 3) := dX0_takeBack_26_z.1.2.1.1
theorem dX0_takeBack_35 : decode cX0_takeBack 35 = .ok (.aload_n 1, 1) := dX0_takeBack_26_z.1.2.1.2
theorem dX0_takeBack_36 : decode cX0_takeBack 36 = .ok (.aload_n 0, 1) := dX0_takeBack_26_z.1.2.2.1
theorem dX0_takeBack_37 : decode cX0_takeBack 37 = .ok (.getfield 11, 3) := dX0_takeBack_26_z.1.2.2.2
theorem dX0_takeBack_40 : decode cX0_takeBack 40 = .ok (.aload_n 0, 1) := dX0_takeBack_26_z.2.1.1.1
theorem dX0_takeBack_41 : decode cX0_takeBack 41 = .ok (.getfield 17, 3) := dX0_takeBack_26_z.2.1.1.2
theorem dX0_takeBack_44 : decode cX0_takeBack 44 = .ok (.bipush 17, 2) := dX0_takeBack_26_z.2.1.2.1
theorem dX0_takeBack_46 : decode cX0_takeBack 46 = .ok (.imul, 1) := dX0_takeBack_26_z.2.1.2.2
theorem dX0_takeBack_47 : decode cX0_takeBack 47 = .ok (.invokevirtual 34, 3) := dX0_takeBack_26_z.2.2.1.1
theorem dX0_takeBack_50 : decode cX0_takeBack 50 = .ok (.iconst 1, 1) := dX0_takeBack_26_z.2.2.1.2
theorem dX0_takeBack_51 : decode cX0_takeBack 51 = .ok (.ireturn, 1) := dX0_takeBack_26_z.2.2.2
set_option maxRecDepth 100000 in
theorem dX0_forget_0_z : ((decode cX0_forget 0 = .ok (.aload_n 0, 1) ∧ decode cX0_forget 1 = .ok (.iconst 0, 1)) ∧ (decode cX0_forget 2 = .ok (.putfield 25, 3) ∧ decode cX0_forget 5 = .ok (.return_, 1))) := by decide +kernel
theorem dX0_forget_0 : decode cX0_forget 0 = .ok (.aload_n 0, 1) := dX0_forget_0_z.1.1
theorem dX0_forget_1 : decode cX0_forget 1 = .ok (.iconst 0, 1) := dX0_forget_0_z.1.2
theorem dX0_forget_2 : decode cX0_forget 2 = .ok (.putfield 25, 3) := dX0_forget_0_z.2.1
theorem dX0_forget_5 : decode cX0_forget 5 = .ok (.return_, 1) := dX0_forget_0_z.2.2
set_option maxRecDepth 100000 in
theorem dX1_firstPurse_0_z : (((decode cX1_firstPurse 0 = .ok (.aload_n 0, 1) ∧ decode cX1_firstPurse 1 = .ok (.getfield 9, 3)) ∧ decode cX1_firstPurse 4 = .ok (.iconst 0, 1)) ∧ (decode cX1_firstPurse 5 = .ok (.iaload, 1) ∧ decode cX1_firstPurse 6 = .ok (.ireturn, 1))) := by decide +kernel
theorem dX1_firstPurse_0 : decode cX1_firstPurse 0 = .ok (.aload_n 0, 1) := dX1_firstPurse_0_z.1.1.1
theorem dX1_firstPurse_1 : decode cX1_firstPurse 1 = .ok (.getfield 9, 3) := dX1_firstPurse_0_z.1.1.2
theorem dX1_firstPurse_4 : decode cX1_firstPurse 4 = .ok (.iconst 0, 1) := dX1_firstPurse_0_z.1.2
theorem dX1_firstPurse_5 : decode cX1_firstPurse 5 = .ok (.iaload, 1) := dX1_firstPurse_0_z.2.1
theorem dX1_firstPurse_6 : decode cX1_firstPurse 6 = .ok (.ireturn, 1) := dX1_firstPurse_0_z.2.2
set_option maxRecDepth 100000 in
theorem dX1_wantOfFace_0_z : (((decode cX1_wantOfFace 0 = .ok (.aload_n 0, 1) ∧ decode cX1_wantOfFace 1 = .ok (.getfield 9, 3)) ∧ decode cX1_wantOfFace 4 = .ok (.iconst 1, 1)) ∧ (decode cX1_wantOfFace 5 = .ok (.iaload, 1) ∧ decode cX1_wantOfFace 6 = .ok (.ireturn, 1))) := by decide +kernel
theorem dX1_wantOfFace_0 : decode cX1_wantOfFace 0 = .ok (.aload_n 0, 1) := dX1_wantOfFace_0_z.1.1.1
theorem dX1_wantOfFace_1 : decode cX1_wantOfFace 1 = .ok (.getfield 9, 3) := dX1_wantOfFace_0_z.1.1.2
theorem dX1_wantOfFace_4 : decode cX1_wantOfFace 4 = .ok (.iconst 1, 1) := dX1_wantOfFace_0_z.1.2
theorem dX1_wantOfFace_5 : decode cX1_wantOfFace 5 = .ok (.iaload, 1) := dX1_wantOfFace_0_z.2.1
theorem dX1_wantOfFace_6 : decode cX1_wantOfFace 6 = .ok (.ireturn, 1) := dX1_wantOfFace_0_z.2.2
set_option maxRecDepth 100000 in
theorem dX1_wantOfDowry_0_z : (((decode cX1_wantOfDowry 0 = .ok (.aload_n 0, 1) ∧ decode cX1_wantOfDowry 1 = .ok (.getfield 9, 3)) ∧ decode cX1_wantOfDowry 4 = .ok (.iconst 2, 1)) ∧ (decode cX1_wantOfDowry 5 = .ok (.iaload, 1) ∧ decode cX1_wantOfDowry 6 = .ok (.ireturn, 1))) := by decide +kernel
theorem dX1_wantOfDowry_0 : decode cX1_wantOfDowry 0 = .ok (.aload_n 0, 1) := dX1_wantOfDowry_0_z.1.1.1
theorem dX1_wantOfDowry_1 : decode cX1_wantOfDowry 1 = .ok (.getfield 9, 3) := dX1_wantOfDowry_0_z.1.1.2
theorem dX1_wantOfDowry_4 : decode cX1_wantOfDowry 4 = .ok (.iconst 2, 1) := dX1_wantOfDowry_0_z.1.2
theorem dX1_wantOfDowry_5 : decode cX1_wantOfDowry 5 = .ok (.iaload, 1) := dX1_wantOfDowry_0_z.2.1
theorem dX1_wantOfDowry_6 : decode cX1_wantOfDowry 6 = .ok (.ireturn, 1) := dX1_wantOfDowry_0_z.2.2
set_option maxRecDepth 100000 in
theorem dX1_ofBride_0_z : ((((decode cX1_ofBride 0 = .ok (.aload_n 0, 1) ∧ decode cX1_ofBride 1 = .ok (.getfield 15, 3)) ∧ decode cX1_ofBride 4 = .ok (.iload_n 1, 1)) ∧ (decode cX1_ofBride 5 = .ok (.iconst 4, 1) ∧ decode cX1_ofBride 6 = .ok (.imul, 1))) ∧ ((decode cX1_ofBride 7 = .ok (.iload_n 2, 1) ∧ decode cX1_ofBride 8 = .ok (.iadd, 1)) ∧ (decode cX1_ofBride 9 = .ok (.iaload, 1) ∧ decode cX1_ofBride 10 = .ok (.ireturn, 1)))) := by decide +kernel
theorem dX1_ofBride_0 : decode cX1_ofBride 0 = .ok (.aload_n 0, 1) := dX1_ofBride_0_z.1.1.1.1
theorem dX1_ofBride_1 : decode cX1_ofBride 1 = .ok (.getfield 15, 3) := dX1_ofBride_0_z.1.1.1.2
theorem dX1_ofBride_4 : decode cX1_ofBride 4 = .ok (.iload_n 1, 1) := dX1_ofBride_0_z.1.1.2
theorem dX1_ofBride_5 : decode cX1_ofBride 5 = .ok (.iconst 4, 1) := dX1_ofBride_0_z.1.2.1
theorem dX1_ofBride_6 : decode cX1_ofBride 6 = .ok (.imul, 1) := dX1_ofBride_0_z.1.2.2
theorem dX1_ofBride_7 : decode cX1_ofBride 7 = .ok (.iload_n 2, 1) := dX1_ofBride_0_z.2.1.1
theorem dX1_ofBride_8 : decode cX1_ofBride 8 = .ok (.iadd, 1) := dX1_ofBride_0_z.2.1.2
theorem dX1_ofBride_9 : decode cX1_ofBride 9 = .ok (.iaload, 1) := dX1_ofBride_0_z.2.2.1
theorem dX1_ofBride_10 : decode cX1_ofBride 10 = .ok (.ireturn, 1) := dX1_ofBride_0_z.2.2.2
set_option maxRecDepth 100000 in
theorem dX1_ofPainter_0_z : ((((decode cX1_ofPainter 0 = .ok (.aload_n 0, 1) ∧ decode cX1_ofPainter 1 = .ok (.getfield 18, 3)) ∧ decode cX1_ofPainter 4 = .ok (.iload_n 1, 1)) ∧ (decode cX1_ofPainter 5 = .ok (.iconst 4, 1) ∧ decode cX1_ofPainter 6 = .ok (.imul, 1))) ∧ ((decode cX1_ofPainter 7 = .ok (.iload_n 2, 1) ∧ decode cX1_ofPainter 8 = .ok (.iadd, 1)) ∧ (decode cX1_ofPainter 9 = .ok (.iaload, 1) ∧ decode cX1_ofPainter 10 = .ok (.ireturn, 1)))) := by decide +kernel
theorem dX1_ofPainter_0 : decode cX1_ofPainter 0 = .ok (.aload_n 0, 1) := dX1_ofPainter_0_z.1.1.1.1
theorem dX1_ofPainter_1 : decode cX1_ofPainter 1 = .ok (.getfield 18, 3) := dX1_ofPainter_0_z.1.1.1.2
theorem dX1_ofPainter_4 : decode cX1_ofPainter 4 = .ok (.iload_n 1, 1) := dX1_ofPainter_0_z.1.1.2
theorem dX1_ofPainter_5 : decode cX1_ofPainter 5 = .ok (.iconst 4, 1) := dX1_ofPainter_0_z.1.2.1
theorem dX1_ofPainter_6 : decode cX1_ofPainter 6 = .ok (.imul, 1) := dX1_ofPainter_0_z.1.2.2
theorem dX1_ofPainter_7 : decode cX1_ofPainter 7 = .ok (.iload_n 2, 1) := dX1_ofPainter_0_z.2.1.1
theorem dX1_ofPainter_8 : decode cX1_ofPainter 8 = .ok (.iadd, 1) := dX1_ofPainter_0_z.2.1.2
theorem dX1_ofPainter_9 : decode cX1_ofPainter 9 = .ok (.iaload, 1) := dX1_ofPainter_0_z.2.2.1
theorem dX1_ofPainter_10 : decode cX1_ofPainter 10 = .ok (.ireturn, 1) := dX1_ofPainter_0_z.2.2.2
set_option maxRecDepth 100000 in
theorem dX1_faceOf_0_z : (((decode cX1_faceOf 0 = .ok (.aload_n 0, 1) ∧ decode cX1_faceOf 1 = .ok (.iload_n 1, 1)) ∧ decode cX1_faceOf 2 = .ok (.iconst 0, 1)) ∧ (decode cX1_faceOf 3 = .ok (.invokevirtual 34, 3) ∧ decode cX1_faceOf 6 = .ok (.ireturn, 1))) := by decide +kernel
theorem dX1_faceOf_0 : decode cX1_faceOf 0 = .ok (.aload_n 0, 1) := dX1_faceOf_0_z.1.1.1
theorem dX1_faceOf_1 : decode cX1_faceOf 1 = .ok (.iload_n 1, 1) := dX1_faceOf_0_z.1.1.2
theorem dX1_faceOf_2 : decode cX1_faceOf 2 = .ok (.iconst 0, 1) := dX1_faceOf_0_z.1.2
theorem dX1_faceOf_3 : decode cX1_faceOf 3 = .ok (.invokevirtual 34, 3) := dX1_faceOf_0_z.2.1
theorem dX1_faceOf_6 : decode cX1_faceOf 6 = .ok (.ireturn, 1) := dX1_faceOf_0_z.2.2
set_option maxRecDepth 100000 in
theorem dX1_dowryOf_0_z : (((decode cX1_dowryOf 0 = .ok (.aload_n 0, 1) ∧ decode cX1_dowryOf 1 = .ok (.iload_n 1, 1)) ∧ decode cX1_dowryOf 2 = .ok (.iconst 1, 1)) ∧ (decode cX1_dowryOf 3 = .ok (.invokevirtual 34, 3) ∧ decode cX1_dowryOf 6 = .ok (.ireturn, 1))) := by decide +kernel
theorem dX1_dowryOf_0 : decode cX1_dowryOf 0 = .ok (.aload_n 0, 1) := dX1_dowryOf_0_z.1.1.1
theorem dX1_dowryOf_1 : decode cX1_dowryOf 1 = .ok (.iload_n 1, 1) := dX1_dowryOf_0_z.1.1.2
theorem dX1_dowryOf_2 : decode cX1_dowryOf 2 = .ok (.iconst 1, 1) := dX1_dowryOf_0_z.1.2
theorem dX1_dowryOf_3 : decode cX1_dowryOf 3 = .ok (.invokevirtual 34, 3) := dX1_dowryOf_0_z.2.1
theorem dX1_dowryOf_6 : decode cX1_dowryOf 6 = .ok (.ireturn, 1) := dX1_dowryOf_0_z.2.2
set_option maxRecDepth 100000 in
theorem dX1_wartsOf_0_z : (((decode cX1_wartsOf 0 = .ok (.aload_n 0, 1) ∧ decode cX1_wartsOf 1 = .ok (.iload_n 1, 1)) ∧ decode cX1_wartsOf 2 = .ok (.iconst 2, 1)) ∧ (decode cX1_wartsOf 3 = .ok (.invokevirtual 34, 3) ∧ decode cX1_wartsOf 6 = .ok (.ireturn, 1))) := by decide +kernel
theorem dX1_wartsOf_0 : decode cX1_wartsOf 0 = .ok (.aload_n 0, 1) := dX1_wartsOf_0_z.1.1.1
theorem dX1_wartsOf_1 : decode cX1_wartsOf 1 = .ok (.iload_n 1, 1) := dX1_wartsOf_0_z.1.1.2
theorem dX1_wartsOf_2 : decode cX1_wartsOf 2 = .ok (.iconst 2, 1) := dX1_wartsOf_0_z.1.2
theorem dX1_wartsOf_3 : decode cX1_wartsOf 3 = .ok (.invokevirtual 34, 3) := dX1_wartsOf_0_z.2.1
theorem dX1_wartsOf_6 : decode cX1_wartsOf 6 = .ok (.ireturn, 1) := dX1_wartsOf_0_z.2.2
set_option maxRecDepth 100000 in
theorem dX1_skillOf_0_z : (((decode cX1_skillOf 0 = .ok (.aload_n 0, 1) ∧ decode cX1_skillOf 1 = .ok (.iload_n 1, 1)) ∧ decode cX1_skillOf 2 = .ok (.iconst 0, 1)) ∧ (decode cX1_skillOf 3 = .ok (.invokevirtual 38, 3) ∧ decode cX1_skillOf 6 = .ok (.ireturn, 1))) := by decide +kernel
theorem dX1_skillOf_0 : decode cX1_skillOf 0 = .ok (.aload_n 0, 1) := dX1_skillOf_0_z.1.1.1
theorem dX1_skillOf_1 : decode cX1_skillOf 1 = .ok (.iload_n 1, 1) := dX1_skillOf_0_z.1.1.2
theorem dX1_skillOf_2 : decode cX1_skillOf 2 = .ok (.iconst 0, 1) := dX1_skillOf_0_z.1.2
theorem dX1_skillOf_3 : decode cX1_skillOf 3 = .ok (.invokevirtual 38, 3) := dX1_skillOf_0_z.2.1
theorem dX1_skillOf_6 : decode cX1_skillOf 6 = .ok (.ireturn, 1) := dX1_skillOf_0_z.2.2
set_option maxRecDepth 100000 in
theorem dX1_feeOf_0_z : (((decode cX1_feeOf 0 = .ok (.aload_n 0, 1) ∧ decode cX1_feeOf 1 = .ok (.iload_n 1, 1)) ∧ decode cX1_feeOf 2 = .ok (.iconst 1, 1)) ∧ (decode cX1_feeOf 3 = .ok (.invokevirtual 38, 3) ∧ decode cX1_feeOf 6 = .ok (.ireturn, 1))) := by decide +kernel
theorem dX1_feeOf_0 : decode cX1_feeOf 0 = .ok (.aload_n 0, 1) := dX1_feeOf_0_z.1.1.1
theorem dX1_feeOf_1 : decode cX1_feeOf 1 = .ok (.iload_n 1, 1) := dX1_feeOf_0_z.1.1.2
theorem dX1_feeOf_2 : decode cX1_feeOf 2 = .ok (.iconst 1, 1) := dX1_feeOf_0_z.1.2
theorem dX1_feeOf_3 : decode cX1_feeOf 3 = .ok (.invokevirtual 38, 3) := dX1_feeOf_0_z.2.1
theorem dX1_feeOf_6 : decode cX1_feeOf 6 = .ok (.ireturn, 1) := dX1_feeOf_0_z.2.2
set_option maxRecDepth 100000 in
theorem dX1_kindOf_0_z : (((decode cX1_kindOf 0 = .ok (.aload_n 0, 1) ∧ decode cX1_kindOf 1 = .ok (.iload_n 1, 1)) ∧ decode cX1_kindOf 2 = .ok (.iconst 3, 1)) ∧ (decode cX1_kindOf 3 = .ok (.invokevirtual 38, 3) ∧ decode cX1_kindOf 6 = .ok (.ireturn, 1))) := by decide +kernel
theorem dX1_kindOf_0 : decode cX1_kindOf 0 = .ok (.aload_n 0, 1) := dX1_kindOf_0_z.1.1.1
theorem dX1_kindOf_1 : decode cX1_kindOf 1 = .ok (.iload_n 1, 1) := dX1_kindOf_0_z.1.1.2
theorem dX1_kindOf_2 : decode cX1_kindOf 2 = .ok (.iconst 3, 1) := dX1_kindOf_0_z.1.2
theorem dX1_kindOf_3 : decode cX1_kindOf 3 = .ok (.invokevirtual 38, 3) := dX1_kindOf_0_z.2.1
theorem dX1_kindOf_6 : decode cX1_kindOf 6 = .ok (.ireturn, 1) := dX1_kindOf_0_z.2.2
set_option maxRecDepth 100000 in
theorem dX1_worthWith_0_z : ((((decode cX1_worthWith 0 = .ok (.iload_n 2, 1) ∧ decode cX1_worthWith 1 = .ok (.aload_n 0, 1)) ∧ (decode cX1_worthWith 2 = .ok (.invokevirtual 41, 3) ∧ decode cX1_worthWith 5 = .ok (.imul, 1))) ∧ ((decode cX1_worthWith 6 = .ok (.aload_n 0, 1) ∧ decode cX1_worthWith 7 = .ok (.iload_n 1, 1)) ∧ decode cX1_worthWith 8 = .ok (.invokevirtual 45, 3))) ∧ (((decode cX1_worthWith 11 = .ok (.bipush 10, 2) ∧ decode cX1_worthWith 13 = .ok (.idiv, 1)) ∧ (decode cX1_worthWith 14 = .ok (.aload_n 0, 1) ∧ decode cX1_worthWith 15 = .ok (.invokevirtual 49, 3))) ∧ ((decode cX1_worthWith 18 = .ok (.imul, 1) ∧ decode cX1_worthWith 19 = .ok (.iadd, 1)) ∧ decode cX1_worthWith 20 = .ok (.ireturn, 1)))) := by decide +kernel
theorem dX1_worthWith_0 : decode cX1_worthWith 0 = .ok (.iload_n 2, 1) := dX1_worthWith_0_z.1.1.1.1
theorem dX1_worthWith_1 : decode cX1_worthWith 1 = .ok (.aload_n 0, 1) := dX1_worthWith_0_z.1.1.1.2
theorem dX1_worthWith_2 : decode cX1_worthWith 2 = .ok (.invokevirtual 41, 3) := dX1_worthWith_0_z.1.1.2.1
theorem dX1_worthWith_5 : decode cX1_worthWith 5 = .ok (.imul, 1) := dX1_worthWith_0_z.1.1.2.2
theorem dX1_worthWith_6 : decode cX1_worthWith 6 = .ok (.aload_n 0, 1) := dX1_worthWith_0_z.1.2.1.1
theorem dX1_worthWith_7 : decode cX1_worthWith 7 = .ok (.iload_n 1, 1) := dX1_worthWith_0_z.1.2.1.2
theorem dX1_worthWith_8 : decode cX1_worthWith 8 = .ok (.invokevirtual 45, 3) := dX1_worthWith_0_z.1.2.2
theorem dX1_worthWith_11 : decode cX1_worthWith 11 = .ok (.bipush 10, 2) := dX1_worthWith_0_z.2.1.1.1
theorem dX1_worthWith_13 : decode cX1_worthWith 13 = .ok (.idiv, 1) := dX1_worthWith_0_z.2.1.1.2
theorem dX1_worthWith_14 : decode cX1_worthWith 14 = .ok (.aload_n 0, 1) := dX1_worthWith_0_z.2.1.2.1
theorem dX1_worthWith_15 : decode cX1_worthWith 15 = .ok (.invokevirtual 49, 3) := dX1_worthWith_0_z.2.1.2.2
theorem dX1_worthWith_18 : decode cX1_worthWith 18 = .ok (.imul, 1) := dX1_worthWith_0_z.2.2.1.1
theorem dX1_worthWith_19 : decode cX1_worthWith 19 = .ok (.iadd, 1) := dX1_worthWith_0_z.2.2.1.2
theorem dX1_worthWith_20 : decode cX1_worthWith 20 = .ok (.ireturn, 1) := dX1_worthWith_0_z.2.2.2
set_option maxRecDepth 100000 in
theorem dX1_trueWorth_0_z : (((decode cX1_trueWorth 0 = .ok (.aload_n 0, 1) ∧ decode cX1_trueWorth 1 = .ok (.iload_n 1, 1)) ∧ (decode cX1_trueWorth 2 = .ok (.aload_n 0, 1) ∧ decode cX1_trueWorth 3 = .ok (.iload_n 1, 1))) ∧ ((decode cX1_trueWorth 4 = .ok (.invokevirtual 52, 3) ∧ decode cX1_trueWorth 7 = .ok (.invokevirtual 55, 3)) ∧ decode cX1_trueWorth 10 = .ok (.ireturn, 1))) := by decide +kernel
theorem dX1_trueWorth_0 : decode cX1_trueWorth 0 = .ok (.aload_n 0, 1) := dX1_trueWorth_0_z.1.1.1
theorem dX1_trueWorth_1 : decode cX1_trueWorth 1 = .ok (.iload_n 1, 1) := dX1_trueWorth_0_z.1.1.2
theorem dX1_trueWorth_2 : decode cX1_trueWorth 2 = .ok (.aload_n 0, 1) := dX1_trueWorth_0_z.1.2.1
theorem dX1_trueWorth_3 : decode cX1_trueWorth 3 = .ok (.iload_n 1, 1) := dX1_trueWorth_0_z.1.2.2
theorem dX1_trueWorth_4 : decode cX1_trueWorth 4 = .ok (.invokevirtual 52, 3) := dX1_trueWorth_0_z.2.1.1
theorem dX1_trueWorth_7 : decode cX1_trueWorth 7 = .ok (.invokevirtual 55, 3) := dX1_trueWorth_0_z.2.1.2
theorem dX1_trueWorth_10 : decode cX1_trueWorth 10 = .ok (.ireturn, 1) := dX1_trueWorth_0_z.2.2
set_option maxRecDepth 100000 in
theorem dX1_topBride_0_z : ((((decode cX1_topBride 0 = .ok (.iconst 0, 1) ∧ decode cX1_topBride 1 = .ok (.istore_n 2, 1)) ∧ (decode cX1_topBride 2 = .ok (.iconst 1, 1) ∧ decode cX1_topBride 3 = .ok (.istore_n 3, 1))) ∧ ((decode cX1_topBride 4 = .ok (.iload_n 3, 1) ∧ decode cX1_topBride 5 = .ok (.aload_n 0, 1)) ∧ (decode cX1_topBride 6 = .ok (.getfield 21, 3) ∧ decode cX1_topBride 9 = .ok (.if_icmp .ge 26, 3)))) ∧ (((decode cX1_topBride 12 = .ok (.aload_n 0, 1) ∧ decode cX1_topBride 13 = .ok (.iload_n 3, 1)) ∧ (decode cX1_topBride 14 = .ok (.iload_n 1, 1) ∧ decode cX1_topBride 15 = .ok (.invokevirtual 34, 3))) ∧ ((decode cX1_topBride 18 = .ok (.aload_n 0, 1) ∧ decode cX1_topBride 19 = .ok (.iload_n 2, 1)) ∧ (decode cX1_topBride 20 = .ok (.iload_n 1, 1) ∧ decode cX1_topBride 21 = .ok (.invokevirtual 34, 3))))) := by decide +kernel
theorem dX1_topBride_0 : decode cX1_topBride 0 = .ok (.iconst 0, 1) := dX1_topBride_0_z.1.1.1.1
theorem dX1_topBride_1 : decode cX1_topBride 1 = .ok (.istore_n 2, 1) := dX1_topBride_0_z.1.1.1.2
theorem dX1_topBride_2 : decode cX1_topBride 2 = .ok (.iconst 1, 1) := dX1_topBride_0_z.1.1.2.1
theorem dX1_topBride_3 : decode cX1_topBride 3 = .ok (.istore_n 3, 1) := dX1_topBride_0_z.1.1.2.2
theorem dX1_topBride_4 : decode cX1_topBride 4 = .ok (.iload_n 3, 1) := dX1_topBride_0_z.1.2.1.1
theorem dX1_topBride_5 : decode cX1_topBride 5 = .ok (.aload_n 0, 1) := dX1_topBride_0_z.1.2.1.2
theorem dX1_topBride_6 : decode cX1_topBride 6 = .ok (.getfield 21, 3) := dX1_topBride_0_z.1.2.2.1
theorem dX1_topBride_9 : decode cX1_topBride 9 = .ok (.if_icmp .ge 26, 3) := dX1_topBride_0_z.1.2.2.2
theorem dX1_topBride_12 : decode cX1_topBride 12 = .ok (.aload_n 0, 1) := dX1_topBride_0_z.2.1.1.1
theorem dX1_topBride_13 : decode cX1_topBride 13 = .ok (.iload_n 3, 1) := dX1_topBride_0_z.2.1.1.2
theorem dX1_topBride_14 : decode cX1_topBride 14 = .ok (.iload_n 1, 1) := dX1_topBride_0_z.2.1.2.1
theorem dX1_topBride_15 : decode cX1_topBride 15 = .ok (.invokevirtual 34, 3) := dX1_topBride_0_z.2.1.2.2
theorem dX1_topBride_18 : decode cX1_topBride 18 = .ok (.aload_n 0, 1) := dX1_topBride_0_z.2.2.1.1
theorem dX1_topBride_19 : decode cX1_topBride 19 = .ok (.iload_n 2, 1) := dX1_topBride_0_z.2.2.1.2
theorem dX1_topBride_20 : decode cX1_topBride 20 = .ok (.iload_n 1, 1) := dX1_topBride_0_z.2.2.2.1
theorem dX1_topBride_21 : decode cX1_topBride 21 = .ok (.invokevirtual 34, 3) := dX1_topBride_0_z.2.2.2.2
set_option maxRecDepth 100000 in
theorem dX1_topBride_24_z : (((decode cX1_topBride 24 = .ok (.if_icmp .le 5, 3) ∧ decode cX1_topBride 27 = .ok (.iload_n 3, 1)) ∧ (decode cX1_topBride 28 = .ok (.istore_n 2, 1) ∧ decode cX1_topBride 29 = .ok (.iinc 3 1, 3))) ∧ ((decode cX1_topBride 32 = .ok (.goto (-28), 3) ∧ decode cX1_topBride 35 = .ok (.iload_n 2, 1)) ∧ decode cX1_topBride 36 = .ok (.ireturn, 1))) := by decide +kernel
theorem dX1_topBride_24 : decode cX1_topBride 24 = .ok (.if_icmp .le 5, 3) := dX1_topBride_24_z.1.1.1
theorem dX1_topBride_27 : decode cX1_topBride 27 = .ok (.iload_n 3, 1) := dX1_topBride_24_z.1.1.2
theorem dX1_topBride_28 : decode cX1_topBride 28 = .ok (.istore_n 2, 1) := dX1_topBride_24_z.1.2.1
theorem dX1_topBride_29 : decode cX1_topBride 29 = .ok (.iinc 3 1, 3) := dX1_topBride_24_z.1.2.2
theorem dX1_topBride_32 : decode cX1_topBride 32 = .ok (.goto (-28), 3) := dX1_topBride_24_z.2.1.1
theorem dX1_topBride_35 : decode cX1_topBride 35 = .ok (.iload_n 2, 1) := dX1_topBride_24_z.2.1.2
theorem dX1_topBride_36 : decode cX1_topBride 36 = .ok (.ireturn, 1) := dX1_topBride_24_z.2.2
set_option maxRecDepth 100000 in
theorem dX1_cheapPainter_0_z : ((((decode cX1_cheapPainter 0 = .ok (.iconst 0, 1) ∧ decode cX1_cheapPainter 1 = .ok (.istore_n 1, 1)) ∧ (decode cX1_cheapPainter 2 = .ok (.iconst 1, 1) ∧ decode cX1_cheapPainter 3 = .ok (.istore_n 2, 1))) ∧ ((decode cX1_cheapPainter 4 = .ok (.iload_n 2, 1) ∧ decode cX1_cheapPainter 5 = .ok (.aload_n 0, 1)) ∧ (decode cX1_cheapPainter 6 = .ok (.getfield 25, 3) ∧ decode cX1_cheapPainter 9 = .ok (.if_icmp .ge 24, 3)))) ∧ (((decode cX1_cheapPainter 12 = .ok (.aload_n 0, 1) ∧ decode cX1_cheapPainter 13 = .ok (.iload_n 2, 1)) ∧ (decode cX1_cheapPainter 14 = .ok (.invokevirtual 58, 3) ∧ decode cX1_cheapPainter 17 = .ok (.aload_n 0, 1))) ∧ ((decode cX1_cheapPainter 18 = .ok (.iload_n 1, 1) ∧ decode cX1_cheapPainter 19 = .ok (.invokevirtual 58, 3)) ∧ (decode cX1_cheapPainter 22 = .ok (.if_icmp .ge 5, 3) ∧ decode cX1_cheapPainter 25 = .ok (.iload_n 2, 1))))) := by decide +kernel
theorem dX1_cheapPainter_0 : decode cX1_cheapPainter 0 = .ok (.iconst 0, 1) := dX1_cheapPainter_0_z.1.1.1.1
theorem dX1_cheapPainter_1 : decode cX1_cheapPainter 1 = .ok (.istore_n 1, 1) := dX1_cheapPainter_0_z.1.1.1.2
theorem dX1_cheapPainter_2 : decode cX1_cheapPainter 2 = .ok (.iconst 1, 1) := dX1_cheapPainter_0_z.1.1.2.1
theorem dX1_cheapPainter_3 : decode cX1_cheapPainter 3 = .ok (.istore_n 2, 1) := dX1_cheapPainter_0_z.1.1.2.2
theorem dX1_cheapPainter_4 : decode cX1_cheapPainter 4 = .ok (.iload_n 2, 1) := dX1_cheapPainter_0_z.1.2.1.1
theorem dX1_cheapPainter_5 : decode cX1_cheapPainter 5 = .ok (.aload_n 0, 1) := dX1_cheapPainter_0_z.1.2.1.2
theorem dX1_cheapPainter_6 : decode cX1_cheapPainter 6 = .ok (.getfield 25, 3) := dX1_cheapPainter_0_z.1.2.2.1
theorem dX1_cheapPainter_9 : decode cX1_cheapPainter 9 = .ok (.if_icmp .ge 24, 3) := dX1_cheapPainter_0_z.1.2.2.2
theorem dX1_cheapPainter_12 : decode cX1_cheapPainter 12 = .ok (.aload_n 0, 1) := dX1_cheapPainter_0_z.2.1.1.1
theorem dX1_cheapPainter_13 : decode cX1_cheapPainter 13 = .ok (.iload_n 2, 1) := dX1_cheapPainter_0_z.2.1.1.2
theorem dX1_cheapPainter_14 : decode cX1_cheapPainter 14 = .ok (.invokevirtual 58, 3) := dX1_cheapPainter_0_z.2.1.2.1
theorem dX1_cheapPainter_17 : decode cX1_cheapPainter 17 = .ok (.aload_n 0, 1) := dX1_cheapPainter_0_z.2.1.2.2
theorem dX1_cheapPainter_18 : decode cX1_cheapPainter 18 = .ok (.iload_n 1, 1) := dX1_cheapPainter_0_z.2.2.1.1
theorem dX1_cheapPainter_19 : decode cX1_cheapPainter 19 = .ok (.invokevirtual 58, 3) := dX1_cheapPainter_0_z.2.2.1.2
theorem dX1_cheapPainter_22 : decode cX1_cheapPainter 22 = .ok (.if_icmp .ge 5, 3) := dX1_cheapPainter_0_z.2.2.2.1
theorem dX1_cheapPainter_25 : decode cX1_cheapPainter 25 = .ok (.iload_n 2, 1) := dX1_cheapPainter_0_z.2.2.2.2
set_option maxRecDepth 100000 in
theorem dX1_cheapPainter_26_z : (((decode cX1_cheapPainter 26 = .ok (.istore_n 1, 1) ∧ decode cX1_cheapPainter 27 = .ok (.iinc 2 1, 3)) ∧ decode cX1_cheapPainter 30 = .ok (.goto (-26), 3)) ∧ (decode cX1_cheapPainter 33 = .ok (.iload_n 1, 1) ∧ decode cX1_cheapPainter 34 = .ok (.ireturn, 1))) := by decide +kernel
theorem dX1_cheapPainter_26 : decode cX1_cheapPainter 26 = .ok (.istore_n 1, 1) := dX1_cheapPainter_26_z.1.1.1
theorem dX1_cheapPainter_27 : decode cX1_cheapPainter 27 = .ok (.iinc 2 1, 3) := dX1_cheapPainter_26_z.1.1.2
theorem dX1_cheapPainter_30 : decode cX1_cheapPainter 30 = .ok (.goto (-26), 3) := dX1_cheapPainter_26_z.1.2
theorem dX1_cheapPainter_33 : decode cX1_cheapPainter 33 = .ok (.iload_n 1, 1) := dX1_cheapPainter_26_z.2.1
theorem dX1_cheapPainter_34 : decode cX1_cheapPainter 34 = .ok (.ireturn, 1) := dX1_cheapPainter_26_z.2.2
set_option maxRecDepth 100000 in
theorem dX1_rankByFee_0_z : ((((decode cX1_rankByFee 0 = .ok (.iconst 0, 1) ∧ decode cX1_rankByFee 1 = .ok (.istore_n 2, 1)) ∧ (decode cX1_rankByFee 2 = .ok (.iconst 0, 1) ∧ decode cX1_rankByFee 3 = .ok (.istore_n 3, 1))) ∧ ((decode cX1_rankByFee 4 = .ok (.iload_n 3, 1) ∧ decode cX1_rankByFee 5 = .ok (.aload_n 0, 1)) ∧ (decode cX1_rankByFee 6 = .ok (.getfield 25, 3) ∧ decode cX1_rankByFee 9 = .ok (.if_icmp .ge 40, 3)))) ∧ (((decode cX1_rankByFee 12 = .ok (.aload_n 0, 1) ∧ decode cX1_rankByFee 13 = .ok (.iload_n 3, 1)) ∧ (decode cX1_rankByFee 14 = .ok (.invokevirtual 58, 3) ∧ decode cX1_rankByFee 17 = .ok (.aload_n 0, 1))) ∧ ((decode cX1_rankByFee 18 = .ok (.iload_n 1, 1) ∧ decode cX1_rankByFee 19 = .ok (.invokevirtual 58, 3)) ∧ (decode cX1_rankByFee 22 = .ok (.isub, 1) ∧ decode cX1_rankByFee 23 = .ok (.istore 4, 2))))) := by decide +kernel
theorem dX1_rankByFee_0 : decode cX1_rankByFee 0 = .ok (.iconst 0, 1) := dX1_rankByFee_0_z.1.1.1.1
theorem dX1_rankByFee_1 : decode cX1_rankByFee 1 = .ok (.istore_n 2, 1) := dX1_rankByFee_0_z.1.1.1.2
theorem dX1_rankByFee_2 : decode cX1_rankByFee 2 = .ok (.iconst 0, 1) := dX1_rankByFee_0_z.1.1.2.1
theorem dX1_rankByFee_3 : decode cX1_rankByFee 3 = .ok (.istore_n 3, 1) := dX1_rankByFee_0_z.1.1.2.2
theorem dX1_rankByFee_4 : decode cX1_rankByFee 4 = .ok (.iload_n 3, 1) := dX1_rankByFee_0_z.1.2.1.1
theorem dX1_rankByFee_5 : decode cX1_rankByFee 5 = .ok (.aload_n 0, 1) := dX1_rankByFee_0_z.1.2.1.2
theorem dX1_rankByFee_6 : decode cX1_rankByFee 6 = .ok (.getfield 25, 3) := dX1_rankByFee_0_z.1.2.2.1
theorem dX1_rankByFee_9 : decode cX1_rankByFee 9 = .ok (.if_icmp .ge 40, 3) := dX1_rankByFee_0_z.1.2.2.2
theorem dX1_rankByFee_12 : decode cX1_rankByFee 12 = .ok (.aload_n 0, 1) := dX1_rankByFee_0_z.2.1.1.1
theorem dX1_rankByFee_13 : decode cX1_rankByFee 13 = .ok (.iload_n 3, 1) := dX1_rankByFee_0_z.2.1.1.2
theorem dX1_rankByFee_14 : decode cX1_rankByFee 14 = .ok (.invokevirtual 58, 3) := dX1_rankByFee_0_z.2.1.2.1
theorem dX1_rankByFee_17 : decode cX1_rankByFee 17 = .ok (.aload_n 0, 1) := dX1_rankByFee_0_z.2.1.2.2
theorem dX1_rankByFee_18 : decode cX1_rankByFee 18 = .ok (.iload_n 1, 1) := dX1_rankByFee_0_z.2.2.1.1
theorem dX1_rankByFee_19 : decode cX1_rankByFee 19 = .ok (.invokevirtual 58, 3) := dX1_rankByFee_0_z.2.2.1.2
theorem dX1_rankByFee_22 : decode cX1_rankByFee 22 = .ok (.isub, 1) := dX1_rankByFee_0_z.2.2.2.1
theorem dX1_rankByFee_23 : decode cX1_rankByFee 23 = .ok (.istore 4, 2) := dX1_rankByFee_0_z.2.2.2.2
set_option maxRecDepth 100000 in
theorem dX1_rankByFee_25_z : ((((decode cX1_rankByFee 25 = .ok (.iload 4, 2) ∧ decode cX1_rankByFee 27 = .ok (.ifCond .lt 13, 3)) ∧ decode cX1_rankByFee 30 = .ok (.iload 4, 2)) ∧ ((decode cX1_rankByFee 32 = .ok (.ifCond .ne 11, 3) ∧ decode cX1_rankByFee 35 = .ok (.iload_n 3, 1)) ∧ decode cX1_rankByFee 36 = .ok (.iload_n 1, 1))) ∧ (((decode cX1_rankByFee 37 = .ok (.if_icmp .ge 6, 3) ∧ decode cX1_rankByFee 40 = .ok (.iinc 2 1, 3)) ∧ decode cX1_rankByFee 43 = .ok (.iinc 3 1, 3)) ∧ ((decode cX1_rankByFee 46 = .ok (.goto (-42), 3) ∧ decode cX1_rankByFee 49 = .ok (.iload_n 2, 1)) ∧ decode cX1_rankByFee 50 = .ok (.ireturn, 1)))) := by decide +kernel
theorem dX1_rankByFee_25 : decode cX1_rankByFee 25 = .ok (.iload 4, 2) := dX1_rankByFee_25_z.1.1.1.1
theorem dX1_rankByFee_27 : decode cX1_rankByFee 27 = .ok (.ifCond .lt 13, 3) := dX1_rankByFee_25_z.1.1.1.2
theorem dX1_rankByFee_30 : decode cX1_rankByFee 30 = .ok (.iload 4, 2) := dX1_rankByFee_25_z.1.1.2
theorem dX1_rankByFee_32 : decode cX1_rankByFee 32 = .ok (.ifCond .ne 11, 3) := dX1_rankByFee_25_z.1.2.1.1
theorem dX1_rankByFee_35 : decode cX1_rankByFee 35 = .ok (.iload_n 3, 1) := dX1_rankByFee_25_z.1.2.1.2
theorem dX1_rankByFee_36 : decode cX1_rankByFee 36 = .ok (.iload_n 1, 1) := dX1_rankByFee_25_z.1.2.2
theorem dX1_rankByFee_37 : decode cX1_rankByFee 37 = .ok (.if_icmp .ge 6, 3) := dX1_rankByFee_25_z.2.1.1.1
theorem dX1_rankByFee_40 : decode cX1_rankByFee 40 = .ok (.iinc 2 1, 3) := dX1_rankByFee_25_z.2.1.1.2
theorem dX1_rankByFee_43 : decode cX1_rankByFee 43 = .ok (.iinc 3 1, 3) := dX1_rankByFee_25_z.2.1.2
theorem dX1_rankByFee_46 : decode cX1_rankByFee 46 = .ok (.goto (-42), 3) := dX1_rankByFee_25_z.2.2.1.1
theorem dX1_rankByFee_49 : decode cX1_rankByFee 49 = .ok (.iload_n 2, 1) := dX1_rankByFee_25_z.2.2.1.2
theorem dX1_rankByFee_50 : decode cX1_rankByFee 50 = .ok (.ireturn, 1) := dX1_rankByFee_25_z.2.2.2
set_option maxRecDepth 100000 in
theorem dX3_begin_0_z : ((decode cX3_begin 0 = .ok (.aload_n 0, 1) ∧ decode cX3_begin 1 = .ok (.lload_n 1, 1)) ∧ (decode cX3_begin 2 = .ok (.putfield 7, 3) ∧ decode cX3_begin 5 = .ok (.return_, 1))) := by decide +kernel
theorem dX3_begin_0 : decode cX3_begin 0 = .ok (.aload_n 0, 1) := dX3_begin_0_z.1.1
theorem dX3_begin_1 : decode cX3_begin 1 = .ok (.lload_n 1, 1) := dX3_begin_0_z.1.2
theorem dX3_begin_2 : decode cX3_begin 2 = .ok (.putfield 7, 3) := dX3_begin_0_z.2.1
theorem dX3_begin_5 : decode cX3_begin 5 = .ok (.return_, 1) := dX3_begin_0_z.2.2
set_option maxRecDepth 100000 in
theorem dX3_below_0_z : ((((decode cX3_below 0 = .ok (.aload_n 0, 1) ∧ decode cX3_below 1 = .ok (.aload_n 0, 1)) ∧ (decode cX3_below 2 = .ok (.getfield 7, 3) ∧ decode cX3_below 5 = .ok (.ldc2_w 13, 3))) ∧ ((decode cX3_below 8 = .ok (.lmul, 1) ∧ decode cX3_below 9 = .ok (.ldc2_w 15, 3)) ∧ (decode cX3_below 12 = .ok (.ladd, 1) ∧ decode cX3_below 13 = .ok (.putfield 7, 3)))) ∧ (((decode cX3_below 16 = .ok (.iload_n 1, 1) ∧ decode cX3_below 17 = .ok (.iconst 1, 1)) ∧ (decode cX3_below 18 = .ok (.if_icmp .ge 7, 3) ∧ decode cX3_below 21 = .ok (.iconst 0, 1))) ∧ ((decode cX3_below 22 = .ok (.goto 14, 3) ∧ decode cX3_below 25 = .ok (.aload_n 0, 1)) ∧ (decode cX3_below 26 = .ok (.getfield 7, 3) ∧ decode cX3_below 29 = .ok (.bipush 33, 2))))) := by decide +kernel
theorem dX3_below_0 : decode cX3_below 0 = .ok (.aload_n 0, 1) := dX3_below_0_z.1.1.1.1
theorem dX3_below_1 : decode cX3_below 1 = .ok (.aload_n 0, 1) := dX3_below_0_z.1.1.1.2
theorem dX3_below_2 : decode cX3_below 2 = .ok (.getfield 7, 3) := dX3_below_0_z.1.1.2.1
theorem dX3_below_5 : decode cX3_below 5 = .ok (.ldc2_w 13, 3) := dX3_below_0_z.1.1.2.2
theorem dX3_below_8 : decode cX3_below 8 = .ok (.lmul, 1) := dX3_below_0_z.1.2.1.1
theorem dX3_below_9 : decode cX3_below 9 = .ok (.ldc2_w 15, 3) := dX3_below_0_z.1.2.1.2
theorem dX3_below_12 : decode cX3_below 12 = .ok (.ladd, 1) := dX3_below_0_z.1.2.2.1
theorem dX3_below_13 : decode cX3_below 13 = .ok (.putfield 7, 3) := dX3_below_0_z.1.2.2.2
theorem dX3_below_16 : decode cX3_below 16 = .ok (.iload_n 1, 1) := dX3_below_0_z.2.1.1.1
theorem dX3_below_17 : decode cX3_below 17 = .ok (.iconst 1, 1) := dX3_below_0_z.2.1.1.2
theorem dX3_below_18 : decode cX3_below 18 = .ok (.if_icmp .ge 7, 3) := dX3_below_0_z.2.1.2.1
theorem dX3_below_21 : decode cX3_below 21 = .ok (.iconst 0, 1) := dX3_below_0_z.2.1.2.2
theorem dX3_below_22 : decode cX3_below 22 = .ok (.goto 14, 3) := dX3_below_0_z.2.2.1.1
theorem dX3_below_25 : decode cX3_below 25 = .ok (.aload_n 0, 1) := dX3_below_0_z.2.2.1.2
theorem dX3_below_26 : decode cX3_below 26 = .ok (.getfield 7, 3) := dX3_below_0_z.2.2.2.1
theorem dX3_below_29 : decode cX3_below 29 = .ok (.bipush 33, 2) := dX3_below_0_z.2.2.2.2
set_option maxRecDepth 100000 in
theorem dX3_below_31_z : (((decode cX3_below 31 = .ok (.lushr, 1) ∧ decode cX3_below 32 = .ok (.iload_n 1, 1)) ∧ decode cX3_below 33 = .ok (.i2l, 1)) ∧ ((decode cX3_below 34 = .ok (.lrem, 1) ∧ decode cX3_below 35 = .ok (.l2i, 1)) ∧ decode cX3_below 36 = .ok (.ireturn, 1))) := by decide +kernel
theorem dX3_below_31 : decode cX3_below 31 = .ok (.lushr, 1) := dX3_below_31_z.1.1.1
theorem dX3_below_32 : decode cX3_below 32 = .ok (.iload_n 1, 1) := dX3_below_31_z.1.1.2
theorem dX3_below_33 : decode cX3_below 33 = .ok (.i2l, 1) := dX3_below_31_z.1.2
theorem dX3_below_34 : decode cX3_below 34 = .ok (.lrem, 1) := dX3_below_31_z.2.1.1
theorem dX3_below_35 : decode cX3_below 35 = .ok (.l2i, 1) := dX3_below_31_z.2.1.2
theorem dX3_below_36 : decode cX3_below 36 = .ok (.ireturn, 1) := dX3_below_31_z.2.2
set_option maxRecDepth 100000 in
theorem dX4_answer_0_z : ((((decode cX4_answer 0 = .ok (.iconst 0, 1) ∧ decode cX4_answer 1 = .ok (.istore_n 3, 1)) ∧ (decode cX4_answer 2 = .ok (.iconst 0, 1) ∧ decode cX4_answer 3 = .ok (.istore 4, 2))) ∧ ((decode cX4_answer 5 = .ok (.iconst 0, 1) ∧ decode cX4_answer 6 = .ok (.istore 5, 2)) ∧ (decode cX4_answer 8 = .ok (.iload 5, 2) ∧ decode cX4_answer 10 = .ok (.aload_n 0, 1)))) ∧ (((decode cX4_answer 11 = .ok (.getfield 7, 3) ∧ decode cX4_answer 14 = .ok (.arraylength, 1)) ∧ (decode cX4_answer 15 = .ok (.if_icmp .ge 196, 3) ∧ decode cX4_answer 18 = .ok (.aload_n 0, 1))) ∧ ((decode cX4_answer 19 = .ok (.getfield 7, 3) ∧ decode cX4_answer 22 = .ok (.iload 5, 2)) ∧ (decode cX4_answer 24 = .ok (.iaload, 1) ∧ decode cX4_answer 25 = .ok (.sipush 255, 3))))) := by decide +kernel
theorem dX4_answer_0 : decode cX4_answer 0 = .ok (.iconst 0, 1) := dX4_answer_0_z.1.1.1.1
theorem dX4_answer_1 : decode cX4_answer 1 = .ok (.istore_n 3, 1) := dX4_answer_0_z.1.1.1.2
theorem dX4_answer_2 : decode cX4_answer 2 = .ok (.iconst 0, 1) := dX4_answer_0_z.1.1.2.1
theorem dX4_answer_3 : decode cX4_answer 3 = .ok (.istore 4, 2) := dX4_answer_0_z.1.1.2.2
theorem dX4_answer_5 : decode cX4_answer 5 = .ok (.iconst 0, 1) := dX4_answer_0_z.1.2.1.1
theorem dX4_answer_6 : decode cX4_answer 6 = .ok (.istore 5, 2) := dX4_answer_0_z.1.2.1.2
theorem dX4_answer_8 : decode cX4_answer 8 = .ok (.iload 5, 2) := dX4_answer_0_z.1.2.2.1
theorem dX4_answer_10 : decode cX4_answer 10 = .ok (.aload_n 0, 1) := dX4_answer_0_z.1.2.2.2
theorem dX4_answer_11 : decode cX4_answer 11 = .ok (.getfield 7, 3) := dX4_answer_0_z.2.1.1.1
theorem dX4_answer_14 : decode cX4_answer 14 = .ok (.arraylength, 1) := dX4_answer_0_z.2.1.1.2
theorem dX4_answer_15 : decode cX4_answer 15 = .ok (.if_icmp .ge 196, 3) := dX4_answer_0_z.2.1.2.1
theorem dX4_answer_18 : decode cX4_answer 18 = .ok (.aload_n 0, 1) := dX4_answer_0_z.2.1.2.2
theorem dX4_answer_19 : decode cX4_answer 19 = .ok (.getfield 7, 3) := dX4_answer_0_z.2.2.1.1
theorem dX4_answer_22 : decode cX4_answer 22 = .ok (.iload 5, 2) := dX4_answer_0_z.2.2.1.2
theorem dX4_answer_24 : decode cX4_answer 24 = .ok (.iaload, 1) := dX4_answer_0_z.2.2.2.1
theorem dX4_answer_25 : decode cX4_answer 25 = .ok (.sipush 255, 3) := dX4_answer_0_z.2.2.2.2
set_option maxRecDepth 100000 in
theorem dX4_answer_28_z : ((((decode cX4_answer 28 = .ok (.iand, 1) ∧ decode cX4_answer 29 = .ok (.istore 6, 2)) ∧ (decode cX4_answer 31 = .ok (.aload_n 0, 1) ∧ decode cX4_answer 32 = .ok (.getfield 7, 3))) ∧ ((decode cX4_answer 35 = .ok (.iload 5, 2) ∧ decode cX4_answer 37 = .ok (.iaload, 1)) ∧ (decode cX4_answer 38 = .ok (.bipush 8, 2) ∧ decode cX4_answer 40 = .ok (.ishr, 1)))) ∧ (((decode cX4_answer 41 = .ok (.istore 7, 2) ∧ decode cX4_answer 43 = .ok (.iload 4, 2)) ∧ (decode cX4_answer 45 = .ok (.ifCond .eq 20, 3) ∧ decode cX4_answer 48 = .ok (.iload 6, 2))) ∧ ((decode cX4_answer 50 = .ok (.bipush 59, 2) ∧ decode cX4_answer 52 = .ok (.if_icmp .eq 7, 3)) ∧ (decode cX4_answer 55 = .ok (.iconst 1, 1) ∧ decode cX4_answer 56 = .ok (.goto 4, 3))))) := by decide +kernel
theorem dX4_answer_28 : decode cX4_answer 28 = .ok (.iand, 1) := dX4_answer_28_z.1.1.1.1
theorem dX4_answer_29 : decode cX4_answer 29 = .ok (.istore 6, 2) := dX4_answer_28_z.1.1.1.2
theorem dX4_answer_31 : decode cX4_answer 31 = .ok (.aload_n 0, 1) := dX4_answer_28_z.1.1.2.1
theorem dX4_answer_32 : decode cX4_answer 32 = .ok (.getfield 7, 3) := dX4_answer_28_z.1.1.2.2
theorem dX4_answer_35 : decode cX4_answer 35 = .ok (.iload 5, 2) := dX4_answer_28_z.1.2.1.1
theorem dX4_answer_37 : decode cX4_answer 37 = .ok (.iaload, 1) := dX4_answer_28_z.1.2.1.2
theorem dX4_answer_38 : decode cX4_answer 38 = .ok (.bipush 8, 2) := dX4_answer_28_z.1.2.2.1
theorem dX4_answer_40 : decode cX4_answer 40 = .ok (.ishr, 1) := dX4_answer_28_z.1.2.2.2
theorem dX4_answer_41 : decode cX4_answer 41 = .ok (.istore 7, 2) := dX4_answer_28_z.2.1.1.1
theorem dX4_answer_43 : decode cX4_answer 43 = .ok (.iload 4, 2) := dX4_answer_28_z.2.1.1.2
theorem dX4_answer_45 : decode cX4_answer 45 = .ok (.ifCond .eq 20, 3) := dX4_answer_28_z.2.1.2.1
theorem dX4_answer_48 : decode cX4_answer 48 = .ok (.iload 6, 2) := dX4_answer_28_z.2.1.2.2
theorem dX4_answer_50 : decode cX4_answer 50 = .ok (.bipush 59, 2) := dX4_answer_28_z.2.2.1.1
theorem dX4_answer_52 : decode cX4_answer 52 = .ok (.if_icmp .eq 7, 3) := dX4_answer_28_z.2.2.1.2
theorem dX4_answer_55 : decode cX4_answer 55 = .ok (.iconst 1, 1) := dX4_answer_28_z.2.2.2.1
theorem dX4_answer_56 : decode cX4_answer 56 = .ok (.goto 4, 3) := dX4_answer_28_z.2.2.2.2
set_option maxRecDepth 100000 in
theorem dX4_answer_59_z : ((((decode cX4_answer 59 = .ok (.iconst 0, 1) ∧ decode cX4_answer 60 = .ok (.istore 4, 2)) ∧ (decode cX4_answer 62 = .ok (.goto 143, 3) ∧ decode cX4_answer 65 = .ok (.iload 6, 2))) ∧ ((decode cX4_answer 67 = .ok (.iconst 1, 1) ∧ decode cX4_answer 68 = .ok (.if_icmp .eq 9, 3)) ∧ (decode cX4_answer 71 = .ok (.iload 6, 2) ∧ decode cX4_answer 73 = .ok (.iconst 2, 1)))) ∧ (((decode cX4_answer 74 = .ok (.if_icmp .ne 35, 3) ∧ decode cX4_answer 77 = .ok (.iload_n 3, 1)) ∧ (decode cX4_answer 78 = .ok (.aload_n 2, 1) ∧ decode cX4_answer 79 = .ok (.arraylength, 1))) ∧ ((decode cX4_answer 80 = .ok (.if_icmp .lt 5, 3) ∧ decode cX4_answer 83 = .ok (.iconst 0, 1)) ∧ (decode cX4_answer 84 = .ok (.ireturn, 1) ∧ decode cX4_answer 85 = .ok (.aload_n 2, 1))))) := by decide +kernel
theorem dX4_answer_59 : decode cX4_answer 59 = .ok (.iconst 0, 1) := dX4_answer_59_z.1.1.1.1
theorem dX4_answer_60 : decode cX4_answer 60 = .ok (.istore 4, 2) := dX4_answer_59_z.1.1.1.2
theorem dX4_answer_62 : decode cX4_answer 62 = .ok (.goto 143, 3) := dX4_answer_59_z.1.1.2.1
theorem dX4_answer_65 : decode cX4_answer 65 = .ok (.iload 6, 2) := dX4_answer_59_z.1.1.2.2
theorem dX4_answer_67 : decode cX4_answer 67 = .ok (.iconst 1, 1) := dX4_answer_59_z.1.2.1.1
theorem dX4_answer_68 : decode cX4_answer 68 = .ok (.if_icmp .eq 9, 3) := dX4_answer_59_z.1.2.1.2
theorem dX4_answer_71 : decode cX4_answer 71 = .ok (.iload 6, 2) := dX4_answer_59_z.1.2.2.1
theorem dX4_answer_73 : decode cX4_answer 73 = .ok (.iconst 2, 1) := dX4_answer_59_z.1.2.2.2
theorem dX4_answer_74 : decode cX4_answer 74 = .ok (.if_icmp .ne 35, 3) := dX4_answer_59_z.2.1.1.1
theorem dX4_answer_77 : decode cX4_answer 77 = .ok (.iload_n 3, 1) := dX4_answer_59_z.2.1.1.2
theorem dX4_answer_78 : decode cX4_answer 78 = .ok (.aload_n 2, 1) := dX4_answer_59_z.2.1.2.1
theorem dX4_answer_79 : decode cX4_answer 79 = .ok (.arraylength, 1) := dX4_answer_59_z.2.1.2.2
theorem dX4_answer_80 : decode cX4_answer 80 = .ok (.if_icmp .lt 5, 3) := dX4_answer_59_z.2.2.1.1
theorem dX4_answer_83 : decode cX4_answer 83 = .ok (.iconst 0, 1) := dX4_answer_59_z.2.2.1.2
theorem dX4_answer_84 : decode cX4_answer 84 = .ok (.ireturn, 1) := dX4_answer_59_z.2.2.2.1
theorem dX4_answer_85 : decode cX4_answer 85 = .ok (.aload_n 2, 1) := dX4_answer_59_z.2.2.2.2
set_option maxRecDepth 100000 in
theorem dX4_answer_86_z : ((((decode cX4_answer 86 = .ok (.iload_n 3, 1) ∧ decode cX4_answer 87 = .ok (.iload 6, 2)) ∧ (decode cX4_answer 89 = .ok (.iconst 1, 1) ∧ decode cX4_answer 90 = .ok (.if_icmp .ne 8, 3))) ∧ ((decode cX4_answer 93 = .ok (.iload 7, 2) ∧ decode cX4_answer 95 = .ok (.goto 7, 3)) ∧ (decode cX4_answer 98 = .ok (.aload_n 1, 1) ∧ decode cX4_answer 99 = .ok (.iload 7, 2)))) ∧ (((decode cX4_answer 101 = .ok (.iaload, 1) ∧ decode cX4_answer 102 = .ok (.iastore, 1)) ∧ (decode cX4_answer 103 = .ok (.iinc 3 1, 3) ∧ decode cX4_answer 106 = .ok (.goto 99, 3))) ∧ ((decode cX4_answer 109 = .ok (.iload_n 3, 1) ∧ decode cX4_answer 110 = .ok (.iconst 1, 1)) ∧ (decode cX4_answer 111 = .ok (.if_icmp .ge 5, 3) ∧ decode cX4_answer 114 = .ok (.iconst 0, 1))))) := by decide +kernel
theorem dX4_answer_86 : decode cX4_answer 86 = .ok (.iload_n 3, 1) := dX4_answer_86_z.1.1.1.1
theorem dX4_answer_87 : decode cX4_answer 87 = .ok (.iload 6, 2) := dX4_answer_86_z.1.1.1.2
theorem dX4_answer_89 : decode cX4_answer 89 = .ok (.iconst 1, 1) := dX4_answer_86_z.1.1.2.1
theorem dX4_answer_90 : decode cX4_answer 90 = .ok (.if_icmp .ne 8, 3) := dX4_answer_86_z.1.1.2.2
theorem dX4_answer_93 : decode cX4_answer 93 = .ok (.iload 7, 2) := dX4_answer_86_z.1.2.1.1
theorem dX4_answer_95 : decode cX4_answer 95 = .ok (.goto 7, 3) := dX4_answer_86_z.1.2.1.2
theorem dX4_answer_98 : decode cX4_answer 98 = .ok (.aload_n 1, 1) := dX4_answer_86_z.1.2.2.1
theorem dX4_answer_99 : decode cX4_answer 99 = .ok (.iload 7, 2) := dX4_answer_86_z.1.2.2.2
theorem dX4_answer_101 : decode cX4_answer 101 = .ok (.iaload, 1) := dX4_answer_86_z.2.1.1.1
theorem dX4_answer_102 : decode cX4_answer 102 = .ok (.iastore, 1) := dX4_answer_86_z.2.1.1.2
theorem dX4_answer_103 : decode cX4_answer 103 = .ok (.iinc 3 1, 3) := dX4_answer_86_z.2.1.2.1
theorem dX4_answer_106 : decode cX4_answer 106 = .ok (.goto 99, 3) := dX4_answer_86_z.2.1.2.2
theorem dX4_answer_109 : decode cX4_answer 109 = .ok (.iload_n 3, 1) := dX4_answer_86_z.2.2.1.1
theorem dX4_answer_110 : decode cX4_answer 110 = .ok (.iconst 1, 1) := dX4_answer_86_z.2.2.1.2
theorem dX4_answer_111 : decode cX4_answer 111 = .ok (.if_icmp .ge 5, 3) := dX4_answer_86_z.2.2.2.1
theorem dX4_answer_114 : decode cX4_answer 114 = .ok (.iconst 0, 1) := dX4_answer_86_z.2.2.2.2
set_option maxRecDepth 100000 in
theorem dX4_answer_115_z : ((((decode cX4_answer 115 = .ok (.ireturn, 1) ∧ decode cX4_answer 116 = .ok (.iload 6, 2)) ∧ (decode cX4_answer 118 = .ok (.bipush 59, 2) ∧ decode cX4_answer 120 = .ok (.if_icmp .ne 9, 3))) ∧ ((decode cX4_answer 123 = .ok (.aload_n 2, 1) ∧ decode cX4_answer 124 = .ok (.iload_n 3, 1)) ∧ (decode cX4_answer 125 = .ok (.iconst 1, 1) ∧ decode cX4_answer 126 = .ok (.isub, 1)))) ∧ (((decode cX4_answer 127 = .ok (.iaload, 1) ∧ decode cX4_answer 128 = .ok (.ireturn, 1)) ∧ (decode cX4_answer 129 = .ok (.iload 6, 2) ∧ decode cX4_answer 131 = .ok (.bipush 63, 2))) ∧ ((decode cX4_answer 133 = .ok (.if_icmp .ne 22, 3) ∧ decode cX4_answer 136 = .ok (.iinc 3 (-1), 3)) ∧ (decode cX4_answer 139 = .ok (.aload_n 2, 1) ∧ decode cX4_answer 140 = .ok (.iload_n 3, 1))))) := by decide +kernel
theorem dX4_answer_115 : decode cX4_answer 115 = .ok (.ireturn, 1) := dX4_answer_115_z.1.1.1.1
theorem dX4_answer_116 : decode cX4_answer 116 = .ok (.iload 6, 2) := dX4_answer_115_z.1.1.1.2
theorem dX4_answer_118 : decode cX4_answer 118 = .ok (.bipush 59, 2) := dX4_answer_115_z.1.1.2.1
theorem dX4_answer_120 : decode cX4_answer 120 = .ok (.if_icmp .ne 9, 3) := dX4_answer_115_z.1.1.2.2
theorem dX4_answer_123 : decode cX4_answer 123 = .ok (.aload_n 2, 1) := dX4_answer_115_z.1.2.1.1
theorem dX4_answer_124 : decode cX4_answer 124 = .ok (.iload_n 3, 1) := dX4_answer_115_z.1.2.1.2
theorem dX4_answer_125 : decode cX4_answer 125 = .ok (.iconst 1, 1) := dX4_answer_115_z.1.2.2.1
theorem dX4_answer_126 : decode cX4_answer 126 = .ok (.isub, 1) := dX4_answer_115_z.1.2.2.2
theorem dX4_answer_127 : decode cX4_answer 127 = .ok (.iaload, 1) := dX4_answer_115_z.2.1.1.1
theorem dX4_answer_128 : decode cX4_answer 128 = .ok (.ireturn, 1) := dX4_answer_115_z.2.1.1.2
theorem dX4_answer_129 : decode cX4_answer 129 = .ok (.iload 6, 2) := dX4_answer_115_z.2.1.2.1
theorem dX4_answer_131 : decode cX4_answer 131 = .ok (.bipush 63, 2) := dX4_answer_115_z.2.1.2.2
theorem dX4_answer_133 : decode cX4_answer 133 = .ok (.if_icmp .ne 22, 3) := dX4_answer_115_z.2.2.1.1
theorem dX4_answer_136 : decode cX4_answer 136 = .ok (.iinc 3 (-1), 3) := dX4_answer_115_z.2.2.1.2
theorem dX4_answer_139 : decode cX4_answer 139 = .ok (.aload_n 2, 1) := dX4_answer_115_z.2.2.2.1
theorem dX4_answer_140 : decode cX4_answer 140 = .ok (.iload_n 3, 1) := dX4_answer_115_z.2.2.2.2
set_option maxRecDepth 100000 in
theorem dX4_answer_141_z : ((((decode cX4_answer 141 = .ok (.iaload, 1) ∧ decode cX4_answer 142 = .ok (.ifCond .ne 7, 3)) ∧ (decode cX4_answer 145 = .ok (.iconst 1, 1) ∧ decode cX4_answer 146 = .ok (.goto 4, 3))) ∧ ((decode cX4_answer 149 = .ok (.iconst 0, 1) ∧ decode cX4_answer 150 = .ok (.istore 4, 2)) ∧ (decode cX4_answer 152 = .ok (.goto 53, 3) ∧ decode cX4_answer 155 = .ok (.iload 6, 2)))) ∧ (((decode cX4_answer 157 = .ok (.bipush 33, 2) ∧ decode cX4_answer 159 = .ok (.if_icmp .ne 18, 3)) ∧ (decode cX4_answer 162 = .ok (.aload_n 2, 1) ∧ decode cX4_answer 163 = .ok (.iload_n 3, 1))) ∧ ((decode cX4_answer 164 = .ok (.iconst 1, 1) ∧ decode cX4_answer 165 = .ok (.isub, 1)) ∧ (decode cX4_answer 166 = .ok (.iconst 1, 1) ∧ decode cX4_answer 167 = .ok (.aload_n 2, 1))))) := by decide +kernel
theorem dX4_answer_141 : decode cX4_answer 141 = .ok (.iaload, 1) := dX4_answer_141_z.1.1.1.1
theorem dX4_answer_142 : decode cX4_answer 142 = .ok (.ifCond .ne 7, 3) := dX4_answer_141_z.1.1.1.2
theorem dX4_answer_145 : decode cX4_answer 145 = .ok (.iconst 1, 1) := dX4_answer_141_z.1.1.2.1
theorem dX4_answer_146 : decode cX4_answer 146 = .ok (.goto 4, 3) := dX4_answer_141_z.1.1.2.2
theorem dX4_answer_149 : decode cX4_answer 149 = .ok (.iconst 0, 1) := dX4_answer_141_z.1.2.1.1
theorem dX4_answer_150 : decode cX4_answer 150 = .ok (.istore 4, 2) := dX4_answer_141_z.1.2.1.2
theorem dX4_answer_152 : decode cX4_answer 152 = .ok (.goto 53, 3) := dX4_answer_141_z.1.2.2.1
theorem dX4_answer_155 : decode cX4_answer 155 = .ok (.iload 6, 2) := dX4_answer_141_z.1.2.2.2
theorem dX4_answer_157 : decode cX4_answer 157 = .ok (.bipush 33, 2) := dX4_answer_141_z.2.1.1.1
theorem dX4_answer_159 : decode cX4_answer 159 = .ok (.if_icmp .ne 18, 3) := dX4_answer_141_z.2.1.1.2
theorem dX4_answer_162 : decode cX4_answer 162 = .ok (.aload_n 2, 1) := dX4_answer_141_z.2.1.2.1
theorem dX4_answer_163 : decode cX4_answer 163 = .ok (.iload_n 3, 1) := dX4_answer_141_z.2.1.2.2
theorem dX4_answer_164 : decode cX4_answer 164 = .ok (.iconst 1, 1) := dX4_answer_141_z.2.2.1.1
theorem dX4_answer_165 : decode cX4_answer 165 = .ok (.isub, 1) := dX4_answer_141_z.2.2.1.2
theorem dX4_answer_166 : decode cX4_answer 166 = .ok (.iconst 1, 1) := dX4_answer_141_z.2.2.2.1
theorem dX4_answer_167 : decode cX4_answer 167 = .ok (.aload_n 2, 1) := dX4_answer_141_z.2.2.2.2
set_option maxRecDepth 100000 in
theorem dX4_answer_168_z : ((((decode cX4_answer 168 = .ok (.iload_n 3, 1) ∧ decode cX4_answer 169 = .ok (.iconst 1, 1)) ∧ (decode cX4_answer 170 = .ok (.isub, 1) ∧ decode cX4_answer 171 = .ok (.iaload, 1))) ∧ ((decode cX4_answer 172 = .ok (.isub, 1) ∧ decode cX4_answer 173 = .ok (.iastore, 1)) ∧ (decode cX4_answer 174 = .ok (.goto 31, 3) ∧ decode cX4_answer 177 = .ok (.iload_n 3, 1)))) ∧ (((decode cX4_answer 178 = .ok (.iconst 2, 1) ∧ decode cX4_answer 179 = .ok (.if_icmp .ge 5, 3)) ∧ (decode cX4_answer 182 = .ok (.iconst 0, 1) ∧ decode cX4_answer 183 = .ok (.ireturn, 1))) ∧ ((decode cX4_answer 184 = .ok (.iinc 3 (-1), 3) ∧ decode cX4_answer 187 = .ok (.aload_n 2, 1)) ∧ (decode cX4_answer 188 = .ok (.iload_n 3, 1) ∧ decode cX4_answer 189 = .ok (.iconst 1, 1))))) := by decide +kernel
theorem dX4_answer_168 : decode cX4_answer 168 = .ok (.iload_n 3, 1) := dX4_answer_168_z.1.1.1.1
theorem dX4_answer_169 : decode cX4_answer 169 = .ok (.iconst 1, 1) := dX4_answer_168_z.1.1.1.2
theorem dX4_answer_170 : decode cX4_answer 170 = .ok (.isub, 1) := dX4_answer_168_z.1.1.2.1
theorem dX4_answer_171 : decode cX4_answer 171 = .ok (.iaload, 1) := dX4_answer_168_z.1.1.2.2
theorem dX4_answer_172 : decode cX4_answer 172 = .ok (.isub, 1) := dX4_answer_168_z.1.2.1.1
theorem dX4_answer_173 : decode cX4_answer 173 = .ok (.iastore, 1) := dX4_answer_168_z.1.2.1.2
theorem dX4_answer_174 : decode cX4_answer 174 = .ok (.goto 31, 3) := dX4_answer_168_z.1.2.2.1
theorem dX4_answer_177 : decode cX4_answer 177 = .ok (.iload_n 3, 1) := dX4_answer_168_z.1.2.2.2
theorem dX4_answer_178 : decode cX4_answer 178 = .ok (.iconst 2, 1) := dX4_answer_168_z.2.1.1.1
theorem dX4_answer_179 : decode cX4_answer 179 = .ok (.if_icmp .ge 5, 3) := dX4_answer_168_z.2.1.1.2
theorem dX4_answer_182 : decode cX4_answer 182 = .ok (.iconst 0, 1) := dX4_answer_168_z.2.1.2.1
theorem dX4_answer_183 : decode cX4_answer 183 = .ok (.ireturn, 1) := dX4_answer_168_z.2.1.2.2
theorem dX4_answer_184 : decode cX4_answer 184 = .ok (.iinc 3 (-1), 3) := dX4_answer_168_z.2.2.1.1
theorem dX4_answer_187 : decode cX4_answer 187 = .ok (.aload_n 2, 1) := dX4_answer_168_z.2.2.1.2
theorem dX4_answer_188 : decode cX4_answer 188 = .ok (.iload_n 3, 1) := dX4_answer_168_z.2.2.2.1
theorem dX4_answer_189 : decode cX4_answer 189 = .ok (.iconst 1, 1) := dX4_answer_168_z.2.2.2.2
set_option maxRecDepth 100000 in
theorem dX4_answer_190_z : ((((decode cX4_answer 190 = .ok (.isub, 1) ∧ decode cX4_answer 191 = .ok (.iload 6, 2)) ∧ (decode cX4_answer 193 = .ok (.aload_n 2, 1) ∧ decode cX4_answer 194 = .ok (.iload_n 3, 1))) ∧ ((decode cX4_answer 195 = .ok (.iconst 1, 1) ∧ decode cX4_answer 196 = .ok (.isub, 1)) ∧ (decode cX4_answer 197 = .ok (.iaload, 1) ∧ decode cX4_answer 198 = .ok (.aload_n 2, 1)))) ∧ (((decode cX4_answer 199 = .ok (.iload_n 3, 1) ∧ decode cX4_answer 200 = .ok (.iaload, 1)) ∧ (decode cX4_answer 201 = .ok (.invokestatic 13, 3) ∧ decode cX4_answer 204 = .ok (.iastore, 1))) ∧ ((decode cX4_answer 205 = .ok (.iinc 5 1, 3) ∧ decode cX4_answer 208 = .ok (.goto (-200), 3)) ∧ (decode cX4_answer 211 = .ok (.iconst 0, 1) ∧ decode cX4_answer 212 = .ok (.ireturn, 1))))) := by decide +kernel
theorem dX4_answer_190 : decode cX4_answer 190 = .ok (.isub, 1) := dX4_answer_190_z.1.1.1.1
theorem dX4_answer_191 : decode cX4_answer 191 = .ok (.iload 6, 2) := dX4_answer_190_z.1.1.1.2
theorem dX4_answer_193 : decode cX4_answer 193 = .ok (.aload_n 2, 1) := dX4_answer_190_z.1.1.2.1
theorem dX4_answer_194 : decode cX4_answer 194 = .ok (.iload_n 3, 1) := dX4_answer_190_z.1.1.2.2
theorem dX4_answer_195 : decode cX4_answer 195 = .ok (.iconst 1, 1) := dX4_answer_190_z.1.2.1.1
theorem dX4_answer_196 : decode cX4_answer 196 = .ok (.isub, 1) := dX4_answer_190_z.1.2.1.2
theorem dX4_answer_197 : decode cX4_answer 197 = .ok (.iaload, 1) := dX4_answer_190_z.1.2.2.1
theorem dX4_answer_198 : decode cX4_answer 198 = .ok (.aload_n 2, 1) := dX4_answer_190_z.1.2.2.2
theorem dX4_answer_199 : decode cX4_answer 199 = .ok (.iload_n 3, 1) := dX4_answer_190_z.2.1.1.1
theorem dX4_answer_200 : decode cX4_answer 200 = .ok (.iaload, 1) := dX4_answer_190_z.2.1.1.2
theorem dX4_answer_201 : decode cX4_answer 201 = .ok (.invokestatic 13, 3) := dX4_answer_190_z.2.1.2.1
theorem dX4_answer_204 : decode cX4_answer 204 = .ok (.iastore, 1) := dX4_answer_190_z.2.1.2.2
theorem dX4_answer_205 : decode cX4_answer 205 = .ok (.iinc 5 1, 3) := dX4_answer_190_z.2.2.1.1
theorem dX4_answer_208 : decode cX4_answer 208 = .ok (.goto (-200), 3) := dX4_answer_190_z.2.2.1.2
theorem dX4_answer_211 : decode cX4_answer 211 = .ok (.iconst 0, 1) := dX4_answer_190_z.2.2.2.1
theorem dX4_answer_212 : decode cX4_answer 212 = .ok (.ireturn, 1) := dX4_answer_190_z.2.2.2.2
set_option maxRecDepth 100000 in
theorem dX4_joined_0_z : ((((decode cX4_joined 0 = .ok (.lconst 0, 1) ∧ decode cX4_joined 1 = .ok (.lstore_n 3, 1)) ∧ (decode cX4_joined 2 = .ok (.iload_n 0, 1) ∧ decode cX4_joined 3 = .ok (.lookupswitch 141 #[(38, 106), (42, 132), (43, 114), (45, 123), (60, 84), (61, 73), (62, 95), (124, 110)], 73))) ∧ ((decode cX4_joined 76 = .ok (.iload_n 1, 1) ∧ decode cX4_joined 77 = .ok (.iload_n 2, 1)) ∧ (decode cX4_joined 78 = .ok (.if_icmp .ne 7, 3) ∧ decode cX4_joined 81 = .ok (.iconst 1, 1)))) ∧ (((decode cX4_joined 82 = .ok (.goto 4, 3) ∧ decode cX4_joined 85 = .ok (.iconst 0, 1)) ∧ (decode cX4_joined 86 = .ok (.ireturn, 1) ∧ decode cX4_joined 87 = .ok (.iload_n 1, 1))) ∧ ((decode cX4_joined 88 = .ok (.iload_n 2, 1) ∧ decode cX4_joined 89 = .ok (.if_icmp .ge 7, 3)) ∧ (decode cX4_joined 92 = .ok (.iconst 1, 1) ∧ decode cX4_joined 93 = .ok (.goto 4, 3))))) := by decide +kernel
theorem dX4_joined_0 : decode cX4_joined 0 = .ok (.lconst 0, 1) := dX4_joined_0_z.1.1.1.1
theorem dX4_joined_1 : decode cX4_joined 1 = .ok (.lstore_n 3, 1) := dX4_joined_0_z.1.1.1.2
theorem dX4_joined_2 : decode cX4_joined 2 = .ok (.iload_n 0, 1) := dX4_joined_0_z.1.1.2.1
theorem dX4_joined_3 : decode cX4_joined 3 = .ok (.lookupswitch 141 #[(38, 106), (42, 132), (43, 114), (45, 123), (60, 84), (61, 73), (62, 95), (124, 110)], 73) := dX4_joined_0_z.1.1.2.2
theorem dX4_joined_76 : decode cX4_joined 76 = .ok (.iload_n 1, 1) := dX4_joined_0_z.1.2.1.1
theorem dX4_joined_77 : decode cX4_joined 77 = .ok (.iload_n 2, 1) := dX4_joined_0_z.1.2.1.2
theorem dX4_joined_78 : decode cX4_joined 78 = .ok (.if_icmp .ne 7, 3) := dX4_joined_0_z.1.2.2.1
theorem dX4_joined_81 : decode cX4_joined 81 = .ok (.iconst 1, 1) := dX4_joined_0_z.1.2.2.2
theorem dX4_joined_82 : decode cX4_joined 82 = .ok (.goto 4, 3) := dX4_joined_0_z.2.1.1.1
theorem dX4_joined_85 : decode cX4_joined 85 = .ok (.iconst 0, 1) := dX4_joined_0_z.2.1.1.2
theorem dX4_joined_86 : decode cX4_joined 86 = .ok (.ireturn, 1) := dX4_joined_0_z.2.1.2.1
theorem dX4_joined_87 : decode cX4_joined 87 = .ok (.iload_n 1, 1) := dX4_joined_0_z.2.1.2.2
theorem dX4_joined_88 : decode cX4_joined 88 = .ok (.iload_n 2, 1) := dX4_joined_0_z.2.2.1.1
theorem dX4_joined_89 : decode cX4_joined 89 = .ok (.if_icmp .ge 7, 3) := dX4_joined_0_z.2.2.1.2
theorem dX4_joined_92 : decode cX4_joined 92 = .ok (.iconst 1, 1) := dX4_joined_0_z.2.2.2.1
theorem dX4_joined_93 : decode cX4_joined 93 = .ok (.goto 4, 3) := dX4_joined_0_z.2.2.2.2
set_option maxRecDepth 100000 in
theorem dX4_joined_96_z : ((((decode cX4_joined 96 = .ok (.iconst 0, 1) ∧ decode cX4_joined 97 = .ok (.ireturn, 1)) ∧ (decode cX4_joined 98 = .ok (.iload_n 1, 1) ∧ decode cX4_joined 99 = .ok (.iload_n 2, 1))) ∧ ((decode cX4_joined 100 = .ok (.if_icmp .le 7, 3) ∧ decode cX4_joined 103 = .ok (.iconst 1, 1)) ∧ (decode cX4_joined 104 = .ok (.goto 4, 3) ∧ decode cX4_joined 107 = .ok (.iconst 0, 1)))) ∧ (((decode cX4_joined 108 = .ok (.ireturn, 1) ∧ decode cX4_joined 109 = .ok (.iload_n 1, 1)) ∧ (decode cX4_joined 110 = .ok (.iload_n 2, 1) ∧ decode cX4_joined 111 = .ok (.iand, 1))) ∧ ((decode cX4_joined 112 = .ok (.ireturn, 1) ∧ decode cX4_joined 113 = .ok (.iload_n 1, 1)) ∧ (decode cX4_joined 114 = .ok (.iload_n 2, 1) ∧ decode cX4_joined 115 = .ok (.ior, 1))))) := by decide +kernel
theorem dX4_joined_96 : decode cX4_joined 96 = .ok (.iconst 0, 1) := dX4_joined_96_z.1.1.1.1
theorem dX4_joined_97 : decode cX4_joined 97 = .ok (.ireturn, 1) := dX4_joined_96_z.1.1.1.2
theorem dX4_joined_98 : decode cX4_joined 98 = .ok (.iload_n 1, 1) := dX4_joined_96_z.1.1.2.1
theorem dX4_joined_99 : decode cX4_joined 99 = .ok (.iload_n 2, 1) := dX4_joined_96_z.1.1.2.2
theorem dX4_joined_100 : decode cX4_joined 100 = .ok (.if_icmp .le 7, 3) := dX4_joined_96_z.1.2.1.1
theorem dX4_joined_103 : decode cX4_joined 103 = .ok (.iconst 1, 1) := dX4_joined_96_z.1.2.1.2
theorem dX4_joined_104 : decode cX4_joined 104 = .ok (.goto 4, 3) := dX4_joined_96_z.1.2.2.1
theorem dX4_joined_107 : decode cX4_joined 107 = .ok (.iconst 0, 1) := dX4_joined_96_z.1.2.2.2
theorem dX4_joined_108 : decode cX4_joined 108 = .ok (.ireturn, 1) := dX4_joined_96_z.2.1.1.1
theorem dX4_joined_109 : decode cX4_joined 109 = .ok (.iload_n 1, 1) := dX4_joined_96_z.2.1.1.2
theorem dX4_joined_110 : decode cX4_joined 110 = .ok (.iload_n 2, 1) := dX4_joined_96_z.2.1.2.1
theorem dX4_joined_111 : decode cX4_joined 111 = .ok (.iand, 1) := dX4_joined_96_z.2.1.2.2
theorem dX4_joined_112 : decode cX4_joined 112 = .ok (.ireturn, 1) := dX4_joined_96_z.2.2.1.1
theorem dX4_joined_113 : decode cX4_joined 113 = .ok (.iload_n 1, 1) := dX4_joined_96_z.2.2.1.2
theorem dX4_joined_114 : decode cX4_joined 114 = .ok (.iload_n 2, 1) := dX4_joined_96_z.2.2.2.1
theorem dX4_joined_115 : decode cX4_joined 115 = .ok (.ior, 1) := dX4_joined_96_z.2.2.2.2
set_option maxRecDepth 100000 in
theorem dX4_joined_116_z : ((((decode cX4_joined 116 = .ok (.ireturn, 1) ∧ decode cX4_joined 117 = .ok (.iload_n 1, 1)) ∧ (decode cX4_joined 118 = .ok (.i2l, 1) ∧ decode cX4_joined 119 = .ok (.iload_n 2, 1))) ∧ ((decode cX4_joined 120 = .ok (.i2l, 1) ∧ decode cX4_joined 121 = .ok (.ladd, 1)) ∧ (decode cX4_joined 122 = .ok (.lstore_n 3, 1) ∧ decode cX4_joined 123 = .ok (.goto 34, 3)))) ∧ (((decode cX4_joined 126 = .ok (.iload_n 1, 1) ∧ decode cX4_joined 127 = .ok (.i2l, 1)) ∧ (decode cX4_joined 128 = .ok (.iload_n 2, 1) ∧ decode cX4_joined 129 = .ok (.i2l, 1))) ∧ ((decode cX4_joined 130 = .ok (.lsub, 1) ∧ decode cX4_joined 131 = .ok (.lstore_n 3, 1)) ∧ (decode cX4_joined 132 = .ok (.goto 25, 3) ∧ decode cX4_joined 135 = .ok (.iload_n 1, 1))))) := by decide +kernel
theorem dX4_joined_116 : decode cX4_joined 116 = .ok (.ireturn, 1) := dX4_joined_116_z.1.1.1.1
theorem dX4_joined_117 : decode cX4_joined 117 = .ok (.iload_n 1, 1) := dX4_joined_116_z.1.1.1.2
theorem dX4_joined_118 : decode cX4_joined 118 = .ok (.i2l, 1) := dX4_joined_116_z.1.1.2.1
theorem dX4_joined_119 : decode cX4_joined 119 = .ok (.iload_n 2, 1) := dX4_joined_116_z.1.1.2.2
theorem dX4_joined_120 : decode cX4_joined 120 = .ok (.i2l, 1) := dX4_joined_116_z.1.2.1.1
theorem dX4_joined_121 : decode cX4_joined 121 = .ok (.ladd, 1) := dX4_joined_116_z.1.2.1.2
theorem dX4_joined_122 : decode cX4_joined 122 = .ok (.lstore_n 3, 1) := dX4_joined_116_z.1.2.2.1
theorem dX4_joined_123 : decode cX4_joined 123 = .ok (.goto 34, 3) := dX4_joined_116_z.1.2.2.2
theorem dX4_joined_126 : decode cX4_joined 126 = .ok (.iload_n 1, 1) := dX4_joined_116_z.2.1.1.1
theorem dX4_joined_127 : decode cX4_joined 127 = .ok (.i2l, 1) := dX4_joined_116_z.2.1.1.2
theorem dX4_joined_128 : decode cX4_joined 128 = .ok (.iload_n 2, 1) := dX4_joined_116_z.2.1.2.1
theorem dX4_joined_129 : decode cX4_joined 129 = .ok (.i2l, 1) := dX4_joined_116_z.2.1.2.2
theorem dX4_joined_130 : decode cX4_joined 130 = .ok (.lsub, 1) := dX4_joined_116_z.2.2.1.1
theorem dX4_joined_131 : decode cX4_joined 131 = .ok (.lstore_n 3, 1) := dX4_joined_116_z.2.2.1.2
theorem dX4_joined_132 : decode cX4_joined 132 = .ok (.goto 25, 3) := dX4_joined_116_z.2.2.2.1
theorem dX4_joined_135 : decode cX4_joined 135 = .ok (.iload_n 1, 1) := dX4_joined_116_z.2.2.2.2
set_option maxRecDepth 100000 in
theorem dX4_joined_136_z : ((((decode cX4_joined 136 = .ok (.i2l, 1) ∧ decode cX4_joined 137 = .ok (.iload_n 2, 1)) ∧ (decode cX4_joined 138 = .ok (.i2l, 1) ∧ decode cX4_joined 139 = .ok (.lmul, 1))) ∧ ((decode cX4_joined 140 = .ok (.lstore_n 3, 1) ∧ decode cX4_joined 141 = .ok (.goto 16, 3)) ∧ (decode cX4_joined 144 = .ok (.iload_n 2, 1) ∧ decode cX4_joined 145 = .ok (.ifCond .ne 7, 3)))) ∧ (((decode cX4_joined 148 = .ok (.lconst 0, 1) ∧ decode cX4_joined 149 = .ok (.goto 7, 3)) ∧ (decode cX4_joined 152 = .ok (.iload_n 1, 1) ∧ decode cX4_joined 153 = .ok (.iload_n 2, 1))) ∧ ((decode cX4_joined 154 = .ok (.idiv, 1) ∧ decode cX4_joined 155 = .ok (.i2l, 1)) ∧ (decode cX4_joined 156 = .ok (.lstore_n 3, 1) ∧ decode cX4_joined 157 = .ok (.lload_n 3, 1))))) := by decide +kernel
theorem dX4_joined_136 : decode cX4_joined 136 = .ok (.i2l, 1) := dX4_joined_136_z.1.1.1.1
theorem dX4_joined_137 : decode cX4_joined 137 = .ok (.iload_n 2, 1) := dX4_joined_136_z.1.1.1.2
theorem dX4_joined_138 : decode cX4_joined 138 = .ok (.i2l, 1) := dX4_joined_136_z.1.1.2.1
theorem dX4_joined_139 : decode cX4_joined 139 = .ok (.lmul, 1) := dX4_joined_136_z.1.1.2.2
theorem dX4_joined_140 : decode cX4_joined 140 = .ok (.lstore_n 3, 1) := dX4_joined_136_z.1.2.1.1
theorem dX4_joined_141 : decode cX4_joined 141 = .ok (.goto 16, 3) := dX4_joined_136_z.1.2.1.2
theorem dX4_joined_144 : decode cX4_joined 144 = .ok (.iload_n 2, 1) := dX4_joined_136_z.1.2.2.1
theorem dX4_joined_145 : decode cX4_joined 145 = .ok (.ifCond .ne 7, 3) := dX4_joined_136_z.1.2.2.2
theorem dX4_joined_148 : decode cX4_joined 148 = .ok (.lconst 0, 1) := dX4_joined_136_z.2.1.1.1
theorem dX4_joined_149 : decode cX4_joined 149 = .ok (.goto 7, 3) := dX4_joined_136_z.2.1.1.2
theorem dX4_joined_152 : decode cX4_joined 152 = .ok (.iload_n 1, 1) := dX4_joined_136_z.2.1.2.1
theorem dX4_joined_153 : decode cX4_joined 153 = .ok (.iload_n 2, 1) := dX4_joined_136_z.2.1.2.2
theorem dX4_joined_154 : decode cX4_joined 154 = .ok (.idiv, 1) := dX4_joined_136_z.2.2.1.1
theorem dX4_joined_155 : decode cX4_joined 155 = .ok (.i2l, 1) := dX4_joined_136_z.2.2.1.2
theorem dX4_joined_156 : decode cX4_joined 156 = .ok (.lstore_n 3, 1) := dX4_joined_136_z.2.2.2.1
theorem dX4_joined_157 : decode cX4_joined 157 = .ok (.lload_n 3, 1) := dX4_joined_136_z.2.2.2.2
set_option maxRecDepth 100000 in
theorem dX4_joined_158_z : ((((decode cX4_joined 158 = .ok (.ldc2_w 17, 3) ∧ decode cX4_joined 161 = .ok (.lcmp, 1)) ∧ (decode cX4_joined 162 = .ok (.ifCond .le 8, 3) ∧ decode cX4_joined 165 = .ok (.ldc 19, 2))) ∧ ((decode cX4_joined 167 = .ok (.goto 18, 3) ∧ decode cX4_joined 170 = .ok (.lload_n 3, 1)) ∧ decode cX4_joined 171 = .ok (.ldc2_w 20, 3))) ∧ (((decode cX4_joined 174 = .ok (.lcmp, 1) ∧ decode cX4_joined 175 = .ok (.ifCond .ge 8, 3)) ∧ (decode cX4_joined 178 = .ok (.ldc 22, 2) ∧ decode cX4_joined 180 = .ok (.goto 5, 3))) ∧ ((decode cX4_joined 183 = .ok (.lload_n 3, 1) ∧ decode cX4_joined 184 = .ok (.l2i, 1)) ∧ decode cX4_joined 185 = .ok (.ireturn, 1)))) := by decide +kernel
theorem dX4_joined_158 : decode cX4_joined 158 = .ok (.ldc2_w 17, 3) := dX4_joined_158_z.1.1.1.1
theorem dX4_joined_161 : decode cX4_joined 161 = .ok (.lcmp, 1) := dX4_joined_158_z.1.1.1.2
theorem dX4_joined_162 : decode cX4_joined 162 = .ok (.ifCond .le 8, 3) := dX4_joined_158_z.1.1.2.1
theorem dX4_joined_165 : decode cX4_joined 165 = .ok (.ldc 19, 2) := dX4_joined_158_z.1.1.2.2
theorem dX4_joined_167 : decode cX4_joined 167 = .ok (.goto 18, 3) := dX4_joined_158_z.1.2.1.1
theorem dX4_joined_170 : decode cX4_joined 170 = .ok (.lload_n 3, 1) := dX4_joined_158_z.1.2.1.2
theorem dX4_joined_171 : decode cX4_joined 171 = .ok (.ldc2_w 20, 3) := dX4_joined_158_z.1.2.2
theorem dX4_joined_174 : decode cX4_joined 174 = .ok (.lcmp, 1) := dX4_joined_158_z.2.1.1.1
theorem dX4_joined_175 : decode cX4_joined 175 = .ok (.ifCond .ge 8, 3) := dX4_joined_158_z.2.1.1.2
theorem dX4_joined_178 : decode cX4_joined 178 = .ok (.ldc 22, 2) := dX4_joined_158_z.2.1.2.1
theorem dX4_joined_180 : decode cX4_joined 180 = .ok (.goto 5, 3) := dX4_joined_158_z.2.1.2.2
theorem dX4_joined_183 : decode cX4_joined 183 = .ok (.lload_n 3, 1) := dX4_joined_158_z.2.2.1.1
theorem dX4_joined_184 : decode cX4_joined 184 = .ok (.l2i, 1) := dX4_joined_158_z.2.2.1.2
theorem dX4_joined_185 : decode cX4_joined 185 = .ok (.ireturn, 1) := dX4_joined_158_z.2.2.2
set_option maxRecDepth 100000 in
theorem dX6_fitting_0_z : ((((decode cX6_fitting 0 = .ok (.aload_n 0, 1) ∧ decode cX6_fitting 1 = .ok (.getfield 25, 3)) ∧ (decode cX6_fitting 4 = .ok (.iload_n 1, 1) ∧ decode cX6_fitting 5 = .ok (.invokevirtual 37, 3))) ∧ ((decode cX6_fitting 8 = .ok (.istore_n 2, 1) ∧ decode cX6_fitting 9 = .ok (.sipush 1023, 3)) ∧ (decode cX6_fitting 12 = .ok (.istore_n 3, 1) ∧ decode cX6_fitting 13 = .ok (.aload_n 0, 1)))) ∧ (((decode cX6_fitting 14 = .ok (.getfield 29, 3) ∧ decode cX6_fitting 17 = .ok (.getfield 43, 3)) ∧ (decode cX6_fitting 20 = .ok (.iload_n 1, 1) ∧ decode cX6_fitting 21 = .ok (.invokestatic 49, 3))) ∧ ((decode cX6_fitting 24 = .ok (.iconst 1, 1) ∧ decode cX6_fitting 25 = .ok (.if_icmp .ne 20, 3)) ∧ (decode cX6_fitting 28 = .ok (.iload_n 3, 1) ∧ decode cX6_fitting 29 = .ok (.iload_n 2, 1))))) := by decide +kernel
theorem dX6_fitting_0 : decode cX6_fitting 0 = .ok (.aload_n 0, 1) := dX6_fitting_0_z.1.1.1.1
theorem dX6_fitting_1 : decode cX6_fitting 1 = .ok (.getfield 25, 3) := dX6_fitting_0_z.1.1.1.2
theorem dX6_fitting_4 : decode cX6_fitting 4 = .ok (.iload_n 1, 1) := dX6_fitting_0_z.1.1.2.1
theorem dX6_fitting_5 : decode cX6_fitting 5 = .ok (.invokevirtual 37, 3) := dX6_fitting_0_z.1.1.2.2
theorem dX6_fitting_8 : decode cX6_fitting 8 = .ok (.istore_n 2, 1) := dX6_fitting_0_z.1.2.1.1
theorem dX6_fitting_9 : decode cX6_fitting 9 = .ok (.sipush 1023, 3) := dX6_fitting_0_z.1.2.1.2
theorem dX6_fitting_12 : decode cX6_fitting 12 = .ok (.istore_n 3, 1) := dX6_fitting_0_z.1.2.2.1
theorem dX6_fitting_13 : decode cX6_fitting 13 = .ok (.aload_n 0, 1) := dX6_fitting_0_z.1.2.2.2
theorem dX6_fitting_14 : decode cX6_fitting 14 = .ok (.getfield 29, 3) := dX6_fitting_0_z.2.1.1.1
theorem dX6_fitting_17 : decode cX6_fitting 17 = .ok (.getfield 43, 3) := dX6_fitting_0_z.2.1.1.2
theorem dX6_fitting_20 : decode cX6_fitting 20 = .ok (.iload_n 1, 1) := dX6_fitting_0_z.2.1.2.1
theorem dX6_fitting_21 : decode cX6_fitting 21 = .ok (.invokestatic 49, 3) := dX6_fitting_0_z.2.1.2.2
theorem dX6_fitting_24 : decode cX6_fitting 24 = .ok (.iconst 1, 1) := dX6_fitting_0_z.2.2.1.1
theorem dX6_fitting_25 : decode cX6_fitting 25 = .ok (.if_icmp .ne 20, 3) := dX6_fitting_0_z.2.2.1.2
theorem dX6_fitting_28 : decode cX6_fitting 28 = .ok (.iload_n 3, 1) := dX6_fitting_0_z.2.2.2.1
theorem dX6_fitting_29 : decode cX6_fitting 29 = .ok (.iload_n 2, 1) := dX6_fitting_0_z.2.2.2.2
set_option maxRecDepth 100000 in
theorem dX6_fitting_30_z : ((((decode cX6_fitting 30 = .ok (.iconst 5, 1) ∧ decode cX6_fitting 31 = .ok (.if_icmp .lt 9, 3)) ∧ (decode cX6_fitting 34 = .ok (.sipush 992, 3) ∧ decode cX6_fitting 37 = .ok (.goto 6, 3))) ∧ ((decode cX6_fitting 40 = .ok (.sipush (-993), 3) ∧ decode cX6_fitting 43 = .ok (.iand, 1)) ∧ (decode cX6_fitting 44 = .ok (.istore_n 3, 1) ∧ decode cX6_fitting 45 = .ok (.aload_n 0, 1)))) ∧ (((decode cX6_fitting 46 = .ok (.getfield 29, 3) ∧ decode cX6_fitting 49 = .ok (.getfield 53, 3)) ∧ (decode cX6_fitting 52 = .ok (.iload_n 1, 1) ∧ decode cX6_fitting 53 = .ok (.invokestatic 49, 3))) ∧ ((decode cX6_fitting 56 = .ok (.iconst 1, 1) ∧ decode cX6_fitting 57 = .ok (.if_icmp .ne 22, 3)) ∧ (decode cX6_fitting 60 = .ok (.iload_n 3, 1) ∧ decode cX6_fitting 61 = .ok (.iload_n 2, 1))))) := by decide +kernel
theorem dX6_fitting_30 : decode cX6_fitting 30 = .ok (.iconst 5, 1) := dX6_fitting_30_z.1.1.1.1
theorem dX6_fitting_31 : decode cX6_fitting 31 = .ok (.if_icmp .lt 9, 3) := dX6_fitting_30_z.1.1.1.2
theorem dX6_fitting_34 : decode cX6_fitting 34 = .ok (.sipush 992, 3) := dX6_fitting_30_z.1.1.2.1
theorem dX6_fitting_37 : decode cX6_fitting 37 = .ok (.goto 6, 3) := dX6_fitting_30_z.1.1.2.2
theorem dX6_fitting_40 : decode cX6_fitting 40 = .ok (.sipush (-993), 3) := dX6_fitting_30_z.1.2.1.1
theorem dX6_fitting_43 : decode cX6_fitting 43 = .ok (.iand, 1) := dX6_fitting_30_z.1.2.1.2
theorem dX6_fitting_44 : decode cX6_fitting 44 = .ok (.istore_n 3, 1) := dX6_fitting_30_z.1.2.2.1
theorem dX6_fitting_45 : decode cX6_fitting 45 = .ok (.aload_n 0, 1) := dX6_fitting_30_z.1.2.2.2
theorem dX6_fitting_46 : decode cX6_fitting 46 = .ok (.getfield 29, 3) := dX6_fitting_30_z.2.1.1.1
theorem dX6_fitting_49 : decode cX6_fitting 49 = .ok (.getfield 53, 3) := dX6_fitting_30_z.2.1.1.2
theorem dX6_fitting_52 : decode cX6_fitting 52 = .ok (.iload_n 1, 1) := dX6_fitting_30_z.2.1.2.1
theorem dX6_fitting_53 : decode cX6_fitting 53 = .ok (.invokestatic 49, 3) := dX6_fitting_30_z.2.1.2.2
theorem dX6_fitting_56 : decode cX6_fitting 56 = .ok (.iconst 1, 1) := dX6_fitting_30_z.2.2.1.1
theorem dX6_fitting_57 : decode cX6_fitting 57 = .ok (.if_icmp .ne 22, 3) := dX6_fitting_30_z.2.2.1.2
theorem dX6_fitting_60 : decode cX6_fitting 60 = .ok (.iload_n 3, 1) := dX6_fitting_30_z.2.2.2.1
theorem dX6_fitting_61 : decode cX6_fitting 61 = .ok (.iload_n 2, 1) := dX6_fitting_30_z.2.2.2.2
set_option maxRecDepth 100000 in
theorem dX6_fitting_62_z : ((((decode cX6_fitting 62 = .ok (.iconst 2, 1) ∧ decode cX6_fitting 63 = .ok (.irem, 1)) ∧ decode cX6_fitting 64 = .ok (.iconst 1, 1)) ∧ ((decode cX6_fitting 65 = .ok (.if_icmp .ne 9, 3) ∧ decode cX6_fitting 68 = .ok (.sipush 682, 3)) ∧ decode cX6_fitting 71 = .ok (.goto 6, 3))) ∧ (((decode cX6_fitting 74 = .ok (.sipush (-683), 3) ∧ decode cX6_fitting 77 = .ok (.iand, 1)) ∧ decode cX6_fitting 78 = .ok (.istore_n 3, 1)) ∧ (decode cX6_fitting 79 = .ok (.iload_n 3, 1) ∧ decode cX6_fitting 80 = .ok (.ireturn, 1)))) := by decide +kernel
theorem dX6_fitting_62 : decode cX6_fitting 62 = .ok (.iconst 2, 1) := dX6_fitting_62_z.1.1.1.1
theorem dX6_fitting_63 : decode cX6_fitting 63 = .ok (.irem, 1) := dX6_fitting_62_z.1.1.1.2
theorem dX6_fitting_64 : decode cX6_fitting 64 = .ok (.iconst 1, 1) := dX6_fitting_62_z.1.1.2
theorem dX6_fitting_65 : decode cX6_fitting 65 = .ok (.if_icmp .ne 9, 3) := dX6_fitting_62_z.1.2.1.1
theorem dX6_fitting_68 : decode cX6_fitting 68 = .ok (.sipush 682, 3) := dX6_fitting_62_z.1.2.1.2
theorem dX6_fitting_71 : decode cX6_fitting 71 = .ok (.goto 6, 3) := dX6_fitting_62_z.1.2.2
theorem dX6_fitting_74 : decode cX6_fitting 74 = .ok (.sipush (-683), 3) := dX6_fitting_62_z.2.1.1.1
theorem dX6_fitting_77 : decode cX6_fitting 77 = .ok (.iand, 1) := dX6_fitting_62_z.2.1.1.2
theorem dX6_fitting_78 : decode cX6_fitting 78 = .ok (.istore_n 3, 1) := dX6_fitting_62_z.2.1.2
theorem dX6_fitting_79 : decode cX6_fitting 79 = .ok (.iload_n 3, 1) := dX6_fitting_62_z.2.2.1
theorem dX6_fitting_80 : decode cX6_fitting 80 = .ok (.ireturn, 1) := dX6_fitting_62_z.2.2.2
set_option maxRecDepth 100000 in
theorem dX6_weigh_0_z : ((((decode cX6_weigh 0 = .ok (.aload_n 0, 1) ∧ decode cX6_weigh 1 = .ok (.iload_n 1, 1)) ∧ (decode cX6_weigh 2 = .ok (.invokevirtual 56, 3) ∧ decode cX6_weigh 5 = .ok (.istore_n 2, 1))) ∧ ((decode cX6_weigh 6 = .ok (.iconst 0, 1) ∧ decode cX6_weigh 7 = .ok (.istore_n 3, 1)) ∧ (decode cX6_weigh 8 = .ok (.iload_n 3, 1) ∧ decode cX6_weigh 9 = .ok (.bipush 10, 2)))) ∧ (((decode cX6_weigh 11 = .ok (.if_icmp .ge 21, 3) ∧ decode cX6_weigh 14 = .ok (.aload_n 0, 1)) ∧ (decode cX6_weigh 15 = .ok (.getfield 9, 3) ∧ decode cX6_weigh 18 = .ok (.iload_n 3, 1))) ∧ ((decode cX6_weigh 19 = .ok (.iload_n 2, 1) ∧ decode cX6_weigh 20 = .ok (.iload_n 3, 1)) ∧ (decode cX6_weigh 21 = .ok (.invokestatic 49, 3) ∧ decode cX6_weigh 24 = .ok (.i2l, 1))))) := by decide +kernel
theorem dX6_weigh_0 : decode cX6_weigh 0 = .ok (.aload_n 0, 1) := dX6_weigh_0_z.1.1.1.1
theorem dX6_weigh_1 : decode cX6_weigh 1 = .ok (.iload_n 1, 1) := dX6_weigh_0_z.1.1.1.2
theorem dX6_weigh_2 : decode cX6_weigh 2 = .ok (.invokevirtual 56, 3) := dX6_weigh_0_z.1.1.2.1
theorem dX6_weigh_5 : decode cX6_weigh 5 = .ok (.istore_n 2, 1) := dX6_weigh_0_z.1.1.2.2
theorem dX6_weigh_6 : decode cX6_weigh 6 = .ok (.iconst 0, 1) := dX6_weigh_0_z.1.2.1.1
theorem dX6_weigh_7 : decode cX6_weigh 7 = .ok (.istore_n 3, 1) := dX6_weigh_0_z.1.2.1.2
theorem dX6_weigh_8 : decode cX6_weigh 8 = .ok (.iload_n 3, 1) := dX6_weigh_0_z.1.2.2.1
theorem dX6_weigh_9 : decode cX6_weigh 9 = .ok (.bipush 10, 2) := dX6_weigh_0_z.1.2.2.2
theorem dX6_weigh_11 : decode cX6_weigh 11 = .ok (.if_icmp .ge 21, 3) := dX6_weigh_0_z.2.1.1.1
theorem dX6_weigh_14 : decode cX6_weigh 14 = .ok (.aload_n 0, 1) := dX6_weigh_0_z.2.1.1.2
theorem dX6_weigh_15 : decode cX6_weigh 15 = .ok (.getfield 9, 3) := dX6_weigh_0_z.2.1.2.1
theorem dX6_weigh_18 : decode cX6_weigh 18 = .ok (.iload_n 3, 1) := dX6_weigh_0_z.2.1.2.2
theorem dX6_weigh_19 : decode cX6_weigh 19 = .ok (.iload_n 2, 1) := dX6_weigh_0_z.2.2.1.1
theorem dX6_weigh_20 : decode cX6_weigh 20 = .ok (.iload_n 3, 1) := dX6_weigh_0_z.2.2.1.2
theorem dX6_weigh_21 : decode cX6_weigh 21 = .ok (.invokestatic 49, 3) := dX6_weigh_0_z.2.2.2.1
theorem dX6_weigh_24 : decode cX6_weigh 24 = .ok (.i2l, 1) := dX6_weigh_0_z.2.2.2.2
set_option maxRecDepth 100000 in
theorem dX6_weigh_25_z : ((((decode cX6_weigh 25 = .ok (.lastore, 1) ∧ decode cX6_weigh 26 = .ok (.iinc 3 1, 3)) ∧ (decode cX6_weigh 29 = .ok (.goto (-21), 3) ∧ decode cX6_weigh 32 = .ok (.iconst 0, 1))) ∧ ((decode cX6_weigh 33 = .ok (.istore_n 3, 1) ∧ decode cX6_weigh 34 = .ok (.aload_n 0, 1)) ∧ (decode cX6_weigh 35 = .ok (.getfield 29, 3) ∧ decode cX6_weigh 38 = .ok (.getfield 59, 3)))) ∧ (((decode cX6_weigh 41 = .ok (.iconst 1, 1) ∧ decode cX6_weigh 42 = .ok (.isub, 1)) ∧ (decode cX6_weigh 43 = .ok (.istore 4, 2) ∧ decode cX6_weigh 45 = .ok (.iload 4, 2))) ∧ ((decode cX6_weigh 47 = .ok (.ifCond .lt 56, 3) ∧ decode cX6_weigh 50 = .ok (.iload_n 3, 1)) ∧ (decode cX6_weigh 51 = .ok (.bipush 12, 2) ∧ decode cX6_weigh 53 = .ok (.if_icmp .ge 50, 3))))) := by decide +kernel
theorem dX6_weigh_25 : decode cX6_weigh 25 = .ok (.lastore, 1) := dX6_weigh_25_z.1.1.1.1
theorem dX6_weigh_26 : decode cX6_weigh 26 = .ok (.iinc 3 1, 3) := dX6_weigh_25_z.1.1.1.2
theorem dX6_weigh_29 : decode cX6_weigh 29 = .ok (.goto (-21), 3) := dX6_weigh_25_z.1.1.2.1
theorem dX6_weigh_32 : decode cX6_weigh 32 = .ok (.iconst 0, 1) := dX6_weigh_25_z.1.1.2.2
theorem dX6_weigh_33 : decode cX6_weigh 33 = .ok (.istore_n 3, 1) := dX6_weigh_25_z.1.2.1.1
theorem dX6_weigh_34 : decode cX6_weigh 34 = .ok (.aload_n 0, 1) := dX6_weigh_25_z.1.2.1.2
theorem dX6_weigh_35 : decode cX6_weigh 35 = .ok (.getfield 29, 3) := dX6_weigh_25_z.1.2.2.1
theorem dX6_weigh_38 : decode cX6_weigh 38 = .ok (.getfield 59, 3) := dX6_weigh_25_z.1.2.2.2
theorem dX6_weigh_41 : decode cX6_weigh 41 = .ok (.iconst 1, 1) := dX6_weigh_25_z.2.1.1.1
theorem dX6_weigh_42 : decode cX6_weigh 42 = .ok (.isub, 1) := dX6_weigh_25_z.2.1.1.2
theorem dX6_weigh_43 : decode cX6_weigh 43 = .ok (.istore 4, 2) := dX6_weigh_25_z.2.1.2.1
theorem dX6_weigh_45 : decode cX6_weigh 45 = .ok (.iload 4, 2) := dX6_weigh_25_z.2.1.2.2
theorem dX6_weigh_47 : decode cX6_weigh 47 = .ok (.ifCond .lt 56, 3) := dX6_weigh_25_z.2.2.1.1
theorem dX6_weigh_50 : decode cX6_weigh 50 = .ok (.iload_n 3, 1) := dX6_weigh_25_z.2.2.1.2
theorem dX6_weigh_51 : decode cX6_weigh 51 = .ok (.bipush 12, 2) := dX6_weigh_25_z.2.2.2.1
theorem dX6_weigh_53 : decode cX6_weigh 53 = .ok (.if_icmp .ge 50, 3) := dX6_weigh_25_z.2.2.2.2
set_option maxRecDepth 100000 in
theorem dX6_weigh_56_z : ((((decode cX6_weigh 56 = .ok (.aload_n 0, 1) ∧ decode cX6_weigh 57 = .ok (.getfield 29, 3)) ∧ (decode cX6_weigh 60 = .ok (.iload 4, 2) ∧ decode cX6_weigh 62 = .ok (.iconst 0, 1))) ∧ ((decode cX6_weigh 63 = .ok (.invokevirtual 62, 3) ∧ decode cX6_weigh 66 = .ok (.iload_n 1, 1)) ∧ (decode cX6_weigh 67 = .ok (.if_icmp .ne 30, 3) ∧ decode cX6_weigh 70 = .ok (.aload_n 0, 1)))) ∧ (((decode cX6_weigh 71 = .ok (.aload_n 0, 1) ∧ decode cX6_weigh 72 = .ok (.getfield 29, 3)) ∧ (decode cX6_weigh 75 = .ok (.iload 4, 2) ∧ decode cX6_weigh 77 = .ok (.iconst 1, 1))) ∧ ((decode cX6_weigh 78 = .ok (.invokevirtual 62, 3) ∧ decode cX6_weigh 81 = .ok (.invokevirtual 65, 3)) ∧ (decode cX6_weigh 84 = .ok (.ifCond .eq 13, 3) ∧ decode cX6_weigh 87 = .ok (.iinc 3 1, 3))))) := by decide +kernel
theorem dX6_weigh_56 : decode cX6_weigh 56 = .ok (.aload_n 0, 1) := dX6_weigh_56_z.1.1.1.1
theorem dX6_weigh_57 : decode cX6_weigh 57 = .ok (.getfield 29, 3) := dX6_weigh_56_z.1.1.1.2
theorem dX6_weigh_60 : decode cX6_weigh 60 = .ok (.iload 4, 2) := dX6_weigh_56_z.1.1.2.1
theorem dX6_weigh_62 : decode cX6_weigh 62 = .ok (.iconst 0, 1) := dX6_weigh_56_z.1.1.2.2
theorem dX6_weigh_63 : decode cX6_weigh 63 = .ok (.invokevirtual 62, 3) := dX6_weigh_56_z.1.2.1.1
theorem dX6_weigh_66 : decode cX6_weigh 66 = .ok (.iload_n 1, 1) := dX6_weigh_56_z.1.2.1.2
theorem dX6_weigh_67 : decode cX6_weigh 67 = .ok (.if_icmp .ne 30, 3) := dX6_weigh_56_z.1.2.2.1
theorem dX6_weigh_70 : decode cX6_weigh 70 = .ok (.aload_n 0, 1) := dX6_weigh_56_z.1.2.2.2
theorem dX6_weigh_71 : decode cX6_weigh 71 = .ok (.aload_n 0, 1) := dX6_weigh_56_z.2.1.1.1
theorem dX6_weigh_72 : decode cX6_weigh 72 = .ok (.getfield 29, 3) := dX6_weigh_56_z.2.1.1.2
theorem dX6_weigh_75 : decode cX6_weigh 75 = .ok (.iload 4, 2) := dX6_weigh_56_z.2.1.2.1
theorem dX6_weigh_77 : decode cX6_weigh 77 = .ok (.iconst 1, 1) := dX6_weigh_56_z.2.1.2.2
theorem dX6_weigh_78 : decode cX6_weigh 78 = .ok (.invokevirtual 62, 3) := dX6_weigh_56_z.2.2.1.1
theorem dX6_weigh_81 : decode cX6_weigh 81 = .ok (.invokevirtual 65, 3) := dX6_weigh_56_z.2.2.1.2
theorem dX6_weigh_84 : decode cX6_weigh 84 = .ok (.ifCond .eq 13, 3) := dX6_weigh_56_z.2.2.2.1
theorem dX6_weigh_87 : decode cX6_weigh 87 = .ok (.iinc 3 1, 3) := dX6_weigh_56_z.2.2.2.2
set_option maxRecDepth 100000 in
theorem dX6_weigh_90_z : ((((decode cX6_weigh 90 = .ok (.aload_n 0, 1) ∧ decode cX6_weigh 91 = .ok (.iload 4, 2)) ∧ (decode cX6_weigh 93 = .ok (.iload_n 1, 1) ∧ decode cX6_weigh 94 = .ok (.invokevirtual 69, 3))) ∧ ((decode cX6_weigh 97 = .ok (.iinc 4 (-1), 3) ∧ decode cX6_weigh 100 = .ok (.goto (-55), 3)) ∧ (decode cX6_weigh 103 = .ok (.aload_n 0, 1) ∧ decode cX6_weigh 104 = .ok (.lconst 0, 1)))) ∧ (((decode cX6_weigh 105 = .ok (.putfield 73, 3) ∧ decode cX6_weigh 108 = .ok (.iconst 0, 1)) ∧ (decode cX6_weigh 109 = .ok (.istore 4, 2) ∧ decode cX6_weigh 111 = .ok (.iload 4, 2))) ∧ ((decode cX6_weigh 113 = .ok (.bipush 10, 2) ∧ decode cX6_weigh 115 = .ok (.if_icmp .ge 25, 3)) ∧ (decode cX6_weigh 118 = .ok (.aload_n 0, 1) ∧ decode cX6_weigh 119 = .ok (.dup, 1))))) := by decide +kernel
theorem dX6_weigh_90 : decode cX6_weigh 90 = .ok (.aload_n 0, 1) := dX6_weigh_90_z.1.1.1.1
theorem dX6_weigh_91 : decode cX6_weigh 91 = .ok (.iload 4, 2) := dX6_weigh_90_z.1.1.1.2
theorem dX6_weigh_93 : decode cX6_weigh 93 = .ok (.iload_n 1, 1) := dX6_weigh_90_z.1.1.2.1
theorem dX6_weigh_94 : decode cX6_weigh 94 = .ok (.invokevirtual 69, 3) := dX6_weigh_90_z.1.1.2.2
theorem dX6_weigh_97 : decode cX6_weigh 97 = .ok (.iinc 4 (-1), 3) := dX6_weigh_90_z.1.2.1.1
theorem dX6_weigh_100 : decode cX6_weigh 100 = .ok (.goto (-55), 3) := dX6_weigh_90_z.1.2.1.2
theorem dX6_weigh_103 : decode cX6_weigh 103 = .ok (.aload_n 0, 1) := dX6_weigh_90_z.1.2.2.1
theorem dX6_weigh_104 : decode cX6_weigh 104 = .ok (.lconst 0, 1) := dX6_weigh_90_z.1.2.2.2
theorem dX6_weigh_105 : decode cX6_weigh 105 = .ok (.putfield 73, 3) := dX6_weigh_90_z.2.1.1.1
theorem dX6_weigh_108 : decode cX6_weigh 108 = .ok (.iconst 0, 1) := dX6_weigh_90_z.2.1.1.2
theorem dX6_weigh_109 : decode cX6_weigh 109 = .ok (.istore 4, 2) := dX6_weigh_90_z.2.1.2.1
theorem dX6_weigh_111 : decode cX6_weigh 111 = .ok (.iload 4, 2) := dX6_weigh_90_z.2.1.2.2
theorem dX6_weigh_113 : decode cX6_weigh 113 = .ok (.bipush 10, 2) := dX6_weigh_90_z.2.2.1.1
theorem dX6_weigh_115 : decode cX6_weigh 115 = .ok (.if_icmp .ge 25, 3) := dX6_weigh_90_z.2.2.1.2
theorem dX6_weigh_118 : decode cX6_weigh 118 = .ok (.aload_n 0, 1) := dX6_weigh_90_z.2.2.2.1
theorem dX6_weigh_119 : decode cX6_weigh 119 = .ok (.dup, 1) := dX6_weigh_90_z.2.2.2.2
set_option maxRecDepth 100000 in
theorem dX6_weigh_120_z : ((((decode cX6_weigh 120 = .ok (.getfield 73, 3) ∧ decode cX6_weigh 123 = .ok (.aload_n 0, 1)) ∧ (decode cX6_weigh 124 = .ok (.getfield 9, 3) ∧ decode cX6_weigh 127 = .ok (.iload 4, 2))) ∧ ((decode cX6_weigh 129 = .ok (.laload, 1) ∧ decode cX6_weigh 130 = .ok (.ladd, 1)) ∧ (decode cX6_weigh 131 = .ok (.putfield 73, 3) ∧ decode cX6_weigh 134 = .ok (.iinc 4 1, 3)))) ∧ (((decode cX6_weigh 137 = .ok (.goto (-26), 3) ∧ decode cX6_weigh 140 = .ok (.aload_n 0, 1)) ∧ (decode cX6_weigh 141 = .ok (.iconst 0, 1) ∧ decode cX6_weigh 142 = .ok (.putfield 77, 3))) ∧ ((decode cX6_weigh 145 = .ok (.iconst 1, 1) ∧ decode cX6_weigh 146 = .ok (.istore 4, 2)) ∧ (decode cX6_weigh 148 = .ok (.iload 4, 2) ∧ decode cX6_weigh 150 = .ok (.bipush 10, 2))))) := by decide +kernel
theorem dX6_weigh_120 : decode cX6_weigh 120 = .ok (.getfield 73, 3) := dX6_weigh_120_z.1.1.1.1
theorem dX6_weigh_123 : decode cX6_weigh 123 = .ok (.aload_n 0, 1) := dX6_weigh_120_z.1.1.1.2
theorem dX6_weigh_124 : decode cX6_weigh 124 = .ok (.getfield 9, 3) := dX6_weigh_120_z.1.1.2.1
theorem dX6_weigh_127 : decode cX6_weigh 127 = .ok (.iload 4, 2) := dX6_weigh_120_z.1.1.2.2
theorem dX6_weigh_129 : decode cX6_weigh 129 = .ok (.laload, 1) := dX6_weigh_120_z.1.2.1.1
theorem dX6_weigh_130 : decode cX6_weigh 130 = .ok (.ladd, 1) := dX6_weigh_120_z.1.2.1.2
theorem dX6_weigh_131 : decode cX6_weigh 131 = .ok (.putfield 73, 3) := dX6_weigh_120_z.1.2.2.1
theorem dX6_weigh_134 : decode cX6_weigh 134 = .ok (.iinc 4 1, 3) := dX6_weigh_120_z.1.2.2.2
theorem dX6_weigh_137 : decode cX6_weigh 137 = .ok (.goto (-26), 3) := dX6_weigh_120_z.2.1.1.1
theorem dX6_weigh_140 : decode cX6_weigh 140 = .ok (.aload_n 0, 1) := dX6_weigh_120_z.2.1.1.2
theorem dX6_weigh_141 : decode cX6_weigh 141 = .ok (.iconst 0, 1) := dX6_weigh_120_z.2.1.2.1
theorem dX6_weigh_142 : decode cX6_weigh 142 = .ok (.putfield 77, 3) := dX6_weigh_120_z.2.1.2.2
theorem dX6_weigh_145 : decode cX6_weigh 145 = .ok (.iconst 1, 1) := dX6_weigh_120_z.2.2.1.1
theorem dX6_weigh_146 : decode cX6_weigh 146 = .ok (.istore 4, 2) := dX6_weigh_120_z.2.2.1.2
theorem dX6_weigh_148 : decode cX6_weigh 148 = .ok (.iload 4, 2) := dX6_weigh_120_z.2.2.2.1
theorem dX6_weigh_150 : decode cX6_weigh 150 = .ok (.bipush 10, 2) := dX6_weigh_120_z.2.2.2.2
set_option maxRecDepth 100000 in
theorem dX6_weigh_152_z : ((((decode cX6_weigh 152 = .ok (.if_icmp .ge 32, 3) ∧ decode cX6_weigh 155 = .ok (.aload_n 0, 1)) ∧ (decode cX6_weigh 156 = .ok (.iload 4, 2) ∧ decode cX6_weigh 158 = .ok (.invokevirtual 80, 3))) ∧ ((decode cX6_weigh 161 = .ok (.aload_n 0, 1) ∧ decode cX6_weigh 162 = .ok (.aload_n 0, 1)) ∧ (decode cX6_weigh 163 = .ok (.getfield 77, 3) ∧ decode cX6_weigh 166 = .ok (.invokevirtual 80, 3)))) ∧ (((decode cX6_weigh 169 = .ok (.if_icmp .le 9, 3) ∧ decode cX6_weigh 172 = .ok (.aload_n 0, 1)) ∧ (decode cX6_weigh 173 = .ok (.iload 4, 2) ∧ decode cX6_weigh 175 = .ok (.putfield 77, 3))) ∧ ((decode cX6_weigh 178 = .ok (.iinc 4 1, 3) ∧ decode cX6_weigh 181 = .ok (.goto (-33), 3)) ∧ decode cX6_weigh 184 = .ok (.return_, 1)))) := by decide +kernel
theorem dX6_weigh_152 : decode cX6_weigh 152 = .ok (.if_icmp .ge 32, 3) := dX6_weigh_152_z.1.1.1.1
theorem dX6_weigh_155 : decode cX6_weigh 155 = .ok (.aload_n 0, 1) := dX6_weigh_152_z.1.1.1.2
theorem dX6_weigh_156 : decode cX6_weigh 156 = .ok (.iload 4, 2) := dX6_weigh_152_z.1.1.2.1
theorem dX6_weigh_158 : decode cX6_weigh 158 = .ok (.invokevirtual 80, 3) := dX6_weigh_152_z.1.1.2.2
theorem dX6_weigh_161 : decode cX6_weigh 161 = .ok (.aload_n 0, 1) := dX6_weigh_152_z.1.2.1.1
theorem dX6_weigh_162 : decode cX6_weigh 162 = .ok (.aload_n 0, 1) := dX6_weigh_152_z.1.2.1.2
theorem dX6_weigh_163 : decode cX6_weigh 163 = .ok (.getfield 77, 3) := dX6_weigh_152_z.1.2.2.1
theorem dX6_weigh_166 : decode cX6_weigh 166 = .ok (.invokevirtual 80, 3) := dX6_weigh_152_z.1.2.2.2
theorem dX6_weigh_169 : decode cX6_weigh 169 = .ok (.if_icmp .le 9, 3) := dX6_weigh_152_z.2.1.1.1
theorem dX6_weigh_172 : decode cX6_weigh 172 = .ok (.aload_n 0, 1) := dX6_weigh_152_z.2.1.1.2
theorem dX6_weigh_173 : decode cX6_weigh 173 = .ok (.iload 4, 2) := dX6_weigh_152_z.2.1.2.1
theorem dX6_weigh_175 : decode cX6_weigh 175 = .ok (.putfield 77, 3) := dX6_weigh_152_z.2.1.2.2
theorem dX6_weigh_178 : decode cX6_weigh 178 = .ok (.iinc 4 1, 3) := dX6_weigh_152_z.2.2.1.1
theorem dX6_weigh_181 : decode cX6_weigh 181 = .ok (.goto (-33), 3) := dX6_weigh_152_z.2.2.1.2
theorem dX6_weigh_184 : decode cX6_weigh 184 = .ok (.return_, 1) := dX6_weigh_152_z.2.2.2
set_option maxRecDepth 100000 in
theorem dX6_weighBy_0_z : ((((decode cX6_weighBy 0 = .ok (.aload_n 0, 1) ∧ decode cX6_weighBy 1 = .ok (.getfield 29, 3)) ∧ (decode cX6_weighBy 4 = .ok (.iload_n 1, 1) ∧ decode cX6_weighBy 5 = .ok (.iconst 1, 1))) ∧ ((decode cX6_weighBy 6 = .ok (.invokevirtual 62, 3) ∧ decode cX6_weighBy 9 = .ok (.istore_n 3, 1)) ∧ (decode cX6_weighBy 10 = .ok (.aload_n 0, 1) ∧ decode cX6_weighBy 11 = .ok (.getfield 29, 3)))) ∧ (((decode cX6_weighBy 14 = .ok (.iload_n 1, 1) ∧ decode cX6_weighBy 15 = .ok (.iconst 2, 1)) ∧ (decode cX6_weighBy 16 = .ok (.invokevirtual 62, 3) ∧ decode cX6_weighBy 19 = .ok (.istore 4, 2))) ∧ ((decode cX6_weighBy 21 = .ok (.iconst 0, 1) ∧ decode cX6_weighBy 22 = .ok (.istore 5, 2)) ∧ (decode cX6_weighBy 24 = .ok (.iload 5, 2) ∧ decode cX6_weighBy 26 = .ok (.bipush 10, 2))))) := by decide +kernel
theorem dX6_weighBy_0 : decode cX6_weighBy 0 = .ok (.aload_n 0, 1) := dX6_weighBy_0_z.1.1.1.1
theorem dX6_weighBy_1 : decode cX6_weighBy 1 = .ok (.getfield 29, 3) := dX6_weighBy_0_z.1.1.1.2
theorem dX6_weighBy_4 : decode cX6_weighBy 4 = .ok (.iload_n 1, 1) := dX6_weighBy_0_z.1.1.2.1
theorem dX6_weighBy_5 : decode cX6_weighBy 5 = .ok (.iconst 1, 1) := dX6_weighBy_0_z.1.1.2.2
theorem dX6_weighBy_6 : decode cX6_weighBy 6 = .ok (.invokevirtual 62, 3) := dX6_weighBy_0_z.1.2.1.1
theorem dX6_weighBy_9 : decode cX6_weighBy 9 = .ok (.istore_n 3, 1) := dX6_weighBy_0_z.1.2.1.2
theorem dX6_weighBy_10 : decode cX6_weighBy 10 = .ok (.aload_n 0, 1) := dX6_weighBy_0_z.1.2.2.1
theorem dX6_weighBy_11 : decode cX6_weighBy 11 = .ok (.getfield 29, 3) := dX6_weighBy_0_z.1.2.2.2
theorem dX6_weighBy_14 : decode cX6_weighBy 14 = .ok (.iload_n 1, 1) := dX6_weighBy_0_z.2.1.1.1
theorem dX6_weighBy_15 : decode cX6_weighBy 15 = .ok (.iconst 2, 1) := dX6_weighBy_0_z.2.1.1.2
theorem dX6_weighBy_16 : decode cX6_weighBy 16 = .ok (.invokevirtual 62, 3) := dX6_weighBy_0_z.2.1.2.1
theorem dX6_weighBy_19 : decode cX6_weighBy 19 = .ok (.istore 4, 2) := dX6_weighBy_0_z.2.1.2.2
theorem dX6_weighBy_21 : decode cX6_weighBy 21 = .ok (.iconst 0, 1) := dX6_weighBy_0_z.2.2.1.1
theorem dX6_weighBy_22 : decode cX6_weighBy 22 = .ok (.istore 5, 2) := dX6_weighBy_0_z.2.2.1.2
theorem dX6_weighBy_24 : decode cX6_weighBy 24 = .ok (.iload 5, 2) := dX6_weighBy_0_z.2.2.2.1
theorem dX6_weighBy_26 : decode cX6_weighBy 26 = .ok (.bipush 10, 2) := dX6_weighBy_0_z.2.2.2.2
set_option maxRecDepth 100000 in
theorem dX6_weighBy_28_z : ((((decode cX6_weighBy 28 = .ok (.if_icmp .ge 68, 3) ∧ decode cX6_weighBy 31 = .ok (.aload_n 0, 1)) ∧ (decode cX6_weighBy 32 = .ok (.getfield 9, 3) ∧ decode cX6_weighBy 35 = .ok (.iload 5, 2))) ∧ ((decode cX6_weighBy 37 = .ok (.laload, 1) ∧ decode cX6_weighBy 38 = .ok (.lconst 0, 1)) ∧ (decode cX6_weighBy 39 = .ok (.lcmp, 1) ∧ decode cX6_weighBy 40 = .ok (.ifCond .eq 50, 3)))) ∧ (((decode cX6_weighBy 43 = .ok (.aload_n 0, 1) ∧ decode cX6_weighBy 44 = .ok (.getfield 33, 3)) ∧ (decode cX6_weighBy 47 = .ok (.iload_n 3, 1) ∧ decode cX6_weighBy 48 = .ok (.iload_n 2, 1))) ∧ ((decode cX6_weighBy 49 = .ok (.iload 5, 2) ∧ decode cX6_weighBy 51 = .ok (.invokevirtual 83, 3)) ∧ (decode cX6_weighBy 54 = .ok (.iload 4, 2) ∧ decode cX6_weighBy 56 = .ok (.isub, 1))))) := by decide +kernel
theorem dX6_weighBy_28 : decode cX6_weighBy 28 = .ok (.if_icmp .ge 68, 3) := dX6_weighBy_28_z.1.1.1.1
theorem dX6_weighBy_31 : decode cX6_weighBy 31 = .ok (.aload_n 0, 1) := dX6_weighBy_28_z.1.1.1.2
theorem dX6_weighBy_32 : decode cX6_weighBy 32 = .ok (.getfield 9, 3) := dX6_weighBy_28_z.1.1.2.1
theorem dX6_weighBy_35 : decode cX6_weighBy 35 = .ok (.iload 5, 2) := dX6_weighBy_28_z.1.1.2.2
theorem dX6_weighBy_37 : decode cX6_weighBy 37 = .ok (.laload, 1) := dX6_weighBy_28_z.1.2.1.1
theorem dX6_weighBy_38 : decode cX6_weighBy 38 = .ok (.lconst 0, 1) := dX6_weighBy_28_z.1.2.1.2
theorem dX6_weighBy_39 : decode cX6_weighBy 39 = .ok (.lcmp, 1) := dX6_weighBy_28_z.1.2.2.1
theorem dX6_weighBy_40 : decode cX6_weighBy 40 = .ok (.ifCond .eq 50, 3) := dX6_weighBy_28_z.1.2.2.2
theorem dX6_weighBy_43 : decode cX6_weighBy 43 = .ok (.aload_n 0, 1) := dX6_weighBy_28_z.2.1.1.1
theorem dX6_weighBy_44 : decode cX6_weighBy 44 = .ok (.getfield 33, 3) := dX6_weighBy_28_z.2.1.1.2
theorem dX6_weighBy_47 : decode cX6_weighBy 47 = .ok (.iload_n 3, 1) := dX6_weighBy_28_z.2.1.2.1
theorem dX6_weighBy_48 : decode cX6_weighBy 48 = .ok (.iload_n 2, 1) := dX6_weighBy_28_z.2.1.2.2
theorem dX6_weighBy_49 : decode cX6_weighBy 49 = .ok (.iload 5, 2) := dX6_weighBy_28_z.2.2.1.1
theorem dX6_weighBy_51 : decode cX6_weighBy 51 = .ok (.invokevirtual 83, 3) := dX6_weighBy_28_z.2.2.1.2
theorem dX6_weighBy_54 : decode cX6_weighBy 54 = .ok (.iload 4, 2) := dX6_weighBy_28_z.2.2.2.1
theorem dX6_weighBy_56 : decode cX6_weighBy 56 = .ok (.isub, 1) := dX6_weighBy_28_z.2.2.2.2
set_option maxRecDepth 100000 in
theorem dX6_weighBy_57_z : ((((decode cX6_weighBy 57 = .ok (.invokestatic 89, 3) ∧ decode cX6_weighBy 60 = .ok (.istore 6, 2)) ∧ (decode cX6_weighBy 62 = .ok (.aload_n 0, 1) ∧ decode cX6_weighBy 63 = .ok (.getfield 9, 3))) ∧ ((decode cX6_weighBy 66 = .ok (.iload 5, 2) ∧ decode cX6_weighBy 68 = .ok (.dup2, 1)) ∧ (decode cX6_weighBy 69 = .ok (.laload, 1) ∧ decode cX6_weighBy 70 = .ok (.iconst 1, 1)))) ∧ (((decode cX6_weighBy 71 = .ok (.iconst 1, 1) ∧ decode cX6_weighBy 72 = .ok (.aload_n 0, 1)) ∧ (decode cX6_weighBy 73 = .ok (.getfield 25, 3) ∧ decode cX6_weighBy 76 = .ok (.iload_n 3, 1))) ∧ ((decode cX6_weighBy 77 = .ok (.invokevirtual 94, 3) ∧ decode cX6_weighBy 80 = .ok (.iadd, 1)) ∧ (decode cX6_weighBy 81 = .ok (.iload 6, 2) ∧ decode cX6_weighBy 83 = .ok (.isub, 1))))) := by decide +kernel
theorem dX6_weighBy_57 : decode cX6_weighBy 57 = .ok (.invokestatic 89, 3) := dX6_weighBy_57_z.1.1.1.1
theorem dX6_weighBy_60 : decode cX6_weighBy 60 = .ok (.istore 6, 2) := dX6_weighBy_57_z.1.1.1.2
theorem dX6_weighBy_62 : decode cX6_weighBy 62 = .ok (.aload_n 0, 1) := dX6_weighBy_57_z.1.1.2.1
theorem dX6_weighBy_63 : decode cX6_weighBy 63 = .ok (.getfield 9, 3) := dX6_weighBy_57_z.1.1.2.2
theorem dX6_weighBy_66 : decode cX6_weighBy 66 = .ok (.iload 5, 2) := dX6_weighBy_57_z.1.2.1.1
theorem dX6_weighBy_68 : decode cX6_weighBy 68 = .ok (.dup2, 1) := dX6_weighBy_57_z.1.2.1.2
theorem dX6_weighBy_69 : decode cX6_weighBy 69 = .ok (.laload, 1) := dX6_weighBy_57_z.1.2.2.1
theorem dX6_weighBy_70 : decode cX6_weighBy 70 = .ok (.iconst 1, 1) := dX6_weighBy_57_z.1.2.2.2
theorem dX6_weighBy_71 : decode cX6_weighBy 71 = .ok (.iconst 1, 1) := dX6_weighBy_57_z.2.1.1.1
theorem dX6_weighBy_72 : decode cX6_weighBy 72 = .ok (.aload_n 0, 1) := dX6_weighBy_57_z.2.1.1.2
theorem dX6_weighBy_73 : decode cX6_weighBy 73 = .ok (.getfield 25, 3) := dX6_weighBy_57_z.2.1.2.1
theorem dX6_weighBy_76 : decode cX6_weighBy 76 = .ok (.iload_n 3, 1) := dX6_weighBy_57_z.2.1.2.2
theorem dX6_weighBy_77 : decode cX6_weighBy 77 = .ok (.invokevirtual 94, 3) := dX6_weighBy_57_z.2.2.1.1
theorem dX6_weighBy_80 : decode cX6_weighBy 80 = .ok (.iadd, 1) := dX6_weighBy_57_z.2.2.1.2
theorem dX6_weighBy_81 : decode cX6_weighBy 81 = .ok (.iload 6, 2) := dX6_weighBy_57_z.2.2.2.1
theorem dX6_weighBy_83 : decode cX6_weighBy 83 = .ok (.isub, 1) := dX6_weighBy_57_z.2.2.2.2
set_option maxRecDepth 100000 in
theorem dX6_weighBy_84_z : (((decode cX6_weighBy 84 = .ok (.invokestatic 97, 3) ∧ decode cX6_weighBy 87 = .ok (.i2l, 1)) ∧ (decode cX6_weighBy 88 = .ok (.lmul, 1) ∧ decode cX6_weighBy 89 = .ok (.lastore, 1))) ∧ ((decode cX6_weighBy 90 = .ok (.iinc 5 1, 3) ∧ decode cX6_weighBy 93 = .ok (.goto (-69), 3)) ∧ decode cX6_weighBy 96 = .ok (.return_, 1))) := by decide +kernel
theorem dX6_weighBy_84 : decode cX6_weighBy 84 = .ok (.invokestatic 97, 3) := dX6_weighBy_84_z.1.1.1
theorem dX6_weighBy_87 : decode cX6_weighBy 87 = .ok (.i2l, 1) := dX6_weighBy_84_z.1.1.2
theorem dX6_weighBy_88 : decode cX6_weighBy 88 = .ok (.lmul, 1) := dX6_weighBy_84_z.1.2.1
theorem dX6_weighBy_89 : decode cX6_weighBy 89 = .ok (.lastore, 1) := dX6_weighBy_84_z.1.2.2
theorem dX6_weighBy_90 : decode cX6_weighBy 90 = .ok (.iinc 5 1, 3) := dX6_weighBy_84_z.2.1.1
theorem dX6_weighBy_93 : decode cX6_weighBy 93 = .ok (.goto (-69), 3) := dX6_weighBy_84_z.2.1.2
theorem dX6_weighBy_96 : decode cX6_weighBy 96 = .ok (.return_, 1) := dX6_weighBy_84_z.2.2
set_option maxRecDepth 100000 in
theorem dX6_share_0_z : ((((decode cX6_share 0 = .ok (.aload_n 0, 1) ∧ decode cX6_share 1 = .ok (.getfield 73, 3)) ∧ (decode cX6_share 4 = .ok (.lconst 0, 1) ∧ decode cX6_share 5 = .ok (.lcmp, 1))) ∧ ((decode cX6_share 6 = .ok (.ifCond .ne 7, 3) ∧ decode cX6_share 9 = .ok (.iconst 0, 1)) ∧ (decode cX6_share 10 = .ok (.goto 19, 3) ∧ decode cX6_share 13 = .ok (.aload_n 0, 1)))) ∧ (((decode cX6_share 14 = .ok (.getfield 9, 3) ∧ decode cX6_share 17 = .ok (.iload_n 1, 1)) ∧ (decode cX6_share 18 = .ok (.laload, 1) ∧ decode cX6_share 19 = .ok (.ldc2_w 100, 3))) ∧ ((decode cX6_share 22 = .ok (.lmul, 1) ∧ decode cX6_share 23 = .ok (.aload_n 0, 1)) ∧ (decode cX6_share 24 = .ok (.getfield 73, 3) ∧ decode cX6_share 27 = .ok (.ldiv, 1))))) := by decide +kernel
theorem dX6_share_0 : decode cX6_share 0 = .ok (.aload_n 0, 1) := dX6_share_0_z.1.1.1.1
theorem dX6_share_1 : decode cX6_share 1 = .ok (.getfield 73, 3) := dX6_share_0_z.1.1.1.2
theorem dX6_share_4 : decode cX6_share 4 = .ok (.lconst 0, 1) := dX6_share_0_z.1.1.2.1
theorem dX6_share_5 : decode cX6_share 5 = .ok (.lcmp, 1) := dX6_share_0_z.1.1.2.2
theorem dX6_share_6 : decode cX6_share 6 = .ok (.ifCond .ne 7, 3) := dX6_share_0_z.1.2.1.1
theorem dX6_share_9 : decode cX6_share 9 = .ok (.iconst 0, 1) := dX6_share_0_z.1.2.1.2
theorem dX6_share_10 : decode cX6_share 10 = .ok (.goto 19, 3) := dX6_share_0_z.1.2.2.1
theorem dX6_share_13 : decode cX6_share 13 = .ok (.aload_n 0, 1) := dX6_share_0_z.1.2.2.2
theorem dX6_share_14 : decode cX6_share 14 = .ok (.getfield 9, 3) := dX6_share_0_z.2.1.1.1
theorem dX6_share_17 : decode cX6_share 17 = .ok (.iload_n 1, 1) := dX6_share_0_z.2.1.1.2
theorem dX6_share_18 : decode cX6_share 18 = .ok (.laload, 1) := dX6_share_0_z.2.1.2.1
theorem dX6_share_19 : decode cX6_share 19 = .ok (.ldc2_w 100, 3) := dX6_share_0_z.2.1.2.2
theorem dX6_share_22 : decode cX6_share 22 = .ok (.lmul, 1) := dX6_share_0_z.2.2.1.1
theorem dX6_share_23 : decode cX6_share 23 = .ok (.aload_n 0, 1) := dX6_share_0_z.2.2.1.2
theorem dX6_share_24 : decode cX6_share 24 = .ok (.getfield 73, 3) := dX6_share_0_z.2.2.2.1
theorem dX6_share_27 : decode cX6_share 27 = .ok (.ldiv, 1) := dX6_share_0_z.2.2.2.2
set_option maxRecDepth 100000 in
theorem dX6_share_28_z : (decode cX6_share 28 = .ok (.l2i, 1) ∧ decode cX6_share 29 = .ok (.ireturn, 1)) := by decide +kernel
theorem dX6_share_28 : decode cX6_share 28 = .ok (.l2i, 1) := dX6_share_28_z.1
theorem dX6_share_29 : decode cX6_share 29 = .ok (.ireturn, 1) := dX6_share_28_z.2
set_option maxRecDepth 100000 in
theorem dX6_sketches_0_z : ((((decode cX6_sketches 0 = .ok (.aload_n 0, 1) ∧ decode cX6_sketches 1 = .ok (.getfield 25, 3)) ∧ decode cX6_sketches 4 = .ok (.iload_n 1, 1)) ∧ (decode cX6_sketches 5 = .ok (.invokevirtual 102, 3) ∧ decode cX6_sketches 8 = .ok (.iconst 3, 1))) ∧ (((decode cX6_sketches 9 = .ok (.if_icmp .eq 7, 3) ∧ decode cX6_sketches 12 = .ok (.iconst 1, 1)) ∧ decode cX6_sketches 13 = .ok (.goto 4, 3)) ∧ (decode cX6_sketches 16 = .ok (.iconst 0, 1) ∧ decode cX6_sketches 17 = .ok (.ireturn, 1)))) := by decide +kernel
theorem dX6_sketches_0 : decode cX6_sketches 0 = .ok (.aload_n 0, 1) := dX6_sketches_0_z.1.1.1.1
theorem dX6_sketches_1 : decode cX6_sketches 1 = .ok (.getfield 25, 3) := dX6_sketches_0_z.1.1.1.2
theorem dX6_sketches_4 : decode cX6_sketches 4 = .ok (.iload_n 1, 1) := dX6_sketches_0_z.1.1.2
theorem dX6_sketches_5 : decode cX6_sketches 5 = .ok (.invokevirtual 102, 3) := dX6_sketches_0_z.1.2.1
theorem dX6_sketches_8 : decode cX6_sketches 8 = .ok (.iconst 3, 1) := dX6_sketches_0_z.1.2.2
theorem dX6_sketches_9 : decode cX6_sketches 9 = .ok (.if_icmp .eq 7, 3) := dX6_sketches_0_z.2.1.1.1
theorem dX6_sketches_12 : decode cX6_sketches 12 = .ok (.iconst 1, 1) := dX6_sketches_0_z.2.1.1.2
theorem dX6_sketches_13 : decode cX6_sketches 13 = .ok (.goto 4, 3) := dX6_sketches_0_z.2.1.2
theorem dX6_sketches_16 : decode cX6_sketches 16 = .ok (.iconst 0, 1) := dX6_sketches_0_z.2.2.1
theorem dX6_sketches_17 : decode cX6_sketches 17 = .ok (.ireturn, 1) := dX6_sketches_0_z.2.2.2
set_option maxRecDepth 100000 in
theorem dX6_bestSketcher_0_z : ((((decode cX6_bestSketcher 0 = .ok (.aload_n 0, 1) ∧ decode cX6_bestSketcher 1 = .ok (.iload_n 1, 1)) ∧ (decode cX6_bestSketcher 2 = .ok (.invokevirtual 56, 3) ∧ decode cX6_bestSketcher 5 = .ok (.istore_n 2, 1))) ∧ ((decode cX6_bestSketcher 6 = .ok (.iconst (-1), 1) ∧ decode cX6_bestSketcher 7 = .ok (.istore_n 3, 1)) ∧ (decode cX6_bestSketcher 8 = .ok (.bipush 11, 2) ∧ decode cX6_bestSketcher 10 = .ok (.istore 4, 2)))) ∧ (((decode cX6_bestSketcher 12 = .ok (.iconst 0, 1) ∧ decode cX6_bestSketcher 13 = .ok (.istore 5, 2)) ∧ (decode cX6_bestSketcher 15 = .ok (.iload 5, 2) ∧ decode cX6_bestSketcher 17 = .ok (.aload_n 0, 1))) ∧ ((decode cX6_bestSketcher 18 = .ok (.getfield 25, 3) ∧ decode cX6_bestSketcher 21 = .ok (.getfield 105, 3)) ∧ (decode cX6_bestSketcher 24 = .ok (.if_icmp .ge 45, 3) ∧ decode cX6_bestSketcher 27 = .ok (.aload_n 0, 1))))) := by decide +kernel
theorem dX6_bestSketcher_0 : decode cX6_bestSketcher 0 = .ok (.aload_n 0, 1) := dX6_bestSketcher_0_z.1.1.1.1
theorem dX6_bestSketcher_1 : decode cX6_bestSketcher 1 = .ok (.iload_n 1, 1) := dX6_bestSketcher_0_z.1.1.1.2
theorem dX6_bestSketcher_2 : decode cX6_bestSketcher 2 = .ok (.invokevirtual 56, 3) := dX6_bestSketcher_0_z.1.1.2.1
theorem dX6_bestSketcher_5 : decode cX6_bestSketcher 5 = .ok (.istore_n 2, 1) := dX6_bestSketcher_0_z.1.1.2.2
theorem dX6_bestSketcher_6 : decode cX6_bestSketcher 6 = .ok (.iconst (-1), 1) := dX6_bestSketcher_0_z.1.2.1.1
theorem dX6_bestSketcher_7 : decode cX6_bestSketcher 7 = .ok (.istore_n 3, 1) := dX6_bestSketcher_0_z.1.2.1.2
theorem dX6_bestSketcher_8 : decode cX6_bestSketcher 8 = .ok (.bipush 11, 2) := dX6_bestSketcher_0_z.1.2.2.1
theorem dX6_bestSketcher_10 : decode cX6_bestSketcher 10 = .ok (.istore 4, 2) := dX6_bestSketcher_0_z.1.2.2.2
theorem dX6_bestSketcher_12 : decode cX6_bestSketcher 12 = .ok (.iconst 0, 1) := dX6_bestSketcher_0_z.2.1.1.1
theorem dX6_bestSketcher_13 : decode cX6_bestSketcher 13 = .ok (.istore 5, 2) := dX6_bestSketcher_0_z.2.1.1.2
theorem dX6_bestSketcher_15 : decode cX6_bestSketcher 15 = .ok (.iload 5, 2) := dX6_bestSketcher_0_z.2.1.2.1
theorem dX6_bestSketcher_17 : decode cX6_bestSketcher 17 = .ok (.aload_n 0, 1) := dX6_bestSketcher_0_z.2.1.2.2
theorem dX6_bestSketcher_18 : decode cX6_bestSketcher 18 = .ok (.getfield 25, 3) := dX6_bestSketcher_0_z.2.2.1.1
theorem dX6_bestSketcher_21 : decode cX6_bestSketcher 21 = .ok (.getfield 105, 3) := dX6_bestSketcher_0_z.2.2.1.2
theorem dX6_bestSketcher_24 : decode cX6_bestSketcher 24 = .ok (.if_icmp .ge 45, 3) := dX6_bestSketcher_0_z.2.2.2.1
theorem dX6_bestSketcher_27 : decode cX6_bestSketcher 27 = .ok (.aload_n 0, 1) := dX6_bestSketcher_0_z.2.2.2.2
set_option maxRecDepth 100000 in
theorem dX6_bestSketcher_28_z : ((((decode cX6_bestSketcher 28 = .ok (.iload 5, 2) ∧ decode cX6_bestSketcher 30 = .ok (.invokevirtual 65, 3)) ∧ (decode cX6_bestSketcher 33 = .ok (.ifCond .ne 6, 3) ∧ decode cX6_bestSketcher 36 = .ok (.goto 27, 3))) ∧ ((decode cX6_bestSketcher 39 = .ok (.aload_n 0, 1) ∧ decode cX6_bestSketcher 40 = .ok (.iload 5, 2)) ∧ (decode cX6_bestSketcher 42 = .ok (.iload_n 1, 1) ∧ decode cX6_bestSketcher 43 = .ok (.iload_n 2, 1)))) ∧ (((decode cX6_bestSketcher 44 = .ok (.invokevirtual 108, 3) ∧ decode cX6_bestSketcher 47 = .ok (.istore 6, 2)) ∧ (decode cX6_bestSketcher 49 = .ok (.iload 6, 2) ∧ decode cX6_bestSketcher 51 = .ok (.iload 4, 2))) ∧ ((decode cX6_bestSketcher 53 = .ok (.if_icmp .ge 10, 3) ∧ decode cX6_bestSketcher 56 = .ok (.iload 5, 2)) ∧ (decode cX6_bestSketcher 58 = .ok (.istore_n 3, 1) ∧ decode cX6_bestSketcher 59 = .ok (.iload 6, 2))))) := by decide +kernel
theorem dX6_bestSketcher_28 : decode cX6_bestSketcher 28 = .ok (.iload 5, 2) := dX6_bestSketcher_28_z.1.1.1.1
theorem dX6_bestSketcher_30 : decode cX6_bestSketcher 30 = .ok (.invokevirtual 65, 3) := dX6_bestSketcher_28_z.1.1.1.2
theorem dX6_bestSketcher_33 : decode cX6_bestSketcher 33 = .ok (.ifCond .ne 6, 3) := dX6_bestSketcher_28_z.1.1.2.1
theorem dX6_bestSketcher_36 : decode cX6_bestSketcher 36 = .ok (.goto 27, 3) := dX6_bestSketcher_28_z.1.1.2.2
theorem dX6_bestSketcher_39 : decode cX6_bestSketcher 39 = .ok (.aload_n 0, 1) := dX6_bestSketcher_28_z.1.2.1.1
theorem dX6_bestSketcher_40 : decode cX6_bestSketcher 40 = .ok (.iload 5, 2) := dX6_bestSketcher_28_z.1.2.1.2
theorem dX6_bestSketcher_42 : decode cX6_bestSketcher 42 = .ok (.iload_n 1, 1) := dX6_bestSketcher_28_z.1.2.2.1
theorem dX6_bestSketcher_43 : decode cX6_bestSketcher 43 = .ok (.iload_n 2, 1) := dX6_bestSketcher_28_z.1.2.2.2
theorem dX6_bestSketcher_44 : decode cX6_bestSketcher 44 = .ok (.invokevirtual 108, 3) := dX6_bestSketcher_28_z.2.1.1.1
theorem dX6_bestSketcher_47 : decode cX6_bestSketcher 47 = .ok (.istore 6, 2) := dX6_bestSketcher_28_z.2.1.1.2
theorem dX6_bestSketcher_49 : decode cX6_bestSketcher 49 = .ok (.iload 6, 2) := dX6_bestSketcher_28_z.2.1.2.1
theorem dX6_bestSketcher_51 : decode cX6_bestSketcher 51 = .ok (.iload 4, 2) := dX6_bestSketcher_28_z.2.1.2.2
theorem dX6_bestSketcher_53 : decode cX6_bestSketcher 53 = .ok (.if_icmp .ge 10, 3) := dX6_bestSketcher_28_z.2.2.1.1
theorem dX6_bestSketcher_56 : decode cX6_bestSketcher 56 = .ok (.iload 5, 2) := dX6_bestSketcher_28_z.2.2.1.2
theorem dX6_bestSketcher_58 : decode cX6_bestSketcher 58 = .ok (.istore_n 3, 1) := dX6_bestSketcher_28_z.2.2.2.1
theorem dX6_bestSketcher_59 : decode cX6_bestSketcher 59 = .ok (.iload 6, 2) := dX6_bestSketcher_28_z.2.2.2.2
set_option maxRecDepth 100000 in
theorem dX6_bestSketcher_61_z : (((decode cX6_bestSketcher 61 = .ok (.istore 4, 2) ∧ decode cX6_bestSketcher 63 = .ok (.iinc 5 1, 3)) ∧ decode cX6_bestSketcher 66 = .ok (.goto (-51), 3)) ∧ (decode cX6_bestSketcher 69 = .ok (.iload_n 3, 1) ∧ decode cX6_bestSketcher 70 = .ok (.ireturn, 1))) := by decide +kernel
theorem dX6_bestSketcher_61 : decode cX6_bestSketcher 61 = .ok (.istore 4, 2) := dX6_bestSketcher_61_z.1.1.1
theorem dX6_bestSketcher_63 : decode cX6_bestSketcher 63 = .ok (.iinc 5 1, 3) := dX6_bestSketcher_61_z.1.1.2
theorem dX6_bestSketcher_66 : decode cX6_bestSketcher 66 = .ok (.goto (-51), 3) := dX6_bestSketcher_61_z.1.2
theorem dX6_bestSketcher_69 : decode cX6_bestSketcher 69 = .ok (.iload_n 3, 1) := dX6_bestSketcher_61_z.2.1
theorem dX6_bestSketcher_70 : decode cX6_bestSketcher 70 = .ok (.ireturn, 1) := dX6_bestSketcher_61_z.2.2
set_option maxRecDepth 100000 in
theorem dX6_mostAlike_0_z : ((((decode cX6_mostAlike 0 = .ok (.aload_n 0, 1) ∧ decode cX6_mostAlike 1 = .ok (.getfield 19, 3)) ∧ (decode cX6_mostAlike 4 = .ok (.iconst 0, 1) ∧ decode cX6_mostAlike 5 = .ok (.invokestatic 111, 3))) ∧ ((decode cX6_mostAlike 8 = .ok (.iconst 0, 1) ∧ decode cX6_mostAlike 9 = .ok (.istore 4, 2)) ∧ (decode cX6_mostAlike 11 = .ok (.iconst 0, 1) ∧ decode cX6_mostAlike 12 = .ok (.istore 5, 2)))) ∧ (((decode cX6_mostAlike 14 = .ok (.iload 5, 2) ∧ decode cX6_mostAlike 16 = .ok (.bipush 10, 2)) ∧ (decode cX6_mostAlike 18 = .ok (.if_icmp .ge 57, 3) ∧ decode cX6_mostAlike 21 = .ok (.iload_n 3, 1))) ∧ ((decode cX6_mostAlike 22 = .ok (.iload 5, 2) ∧ decode cX6_mostAlike 24 = .ok (.invokestatic 49, 3)) ∧ (decode cX6_mostAlike 27 = .ok (.iconst 1, 1) ∧ decode cX6_mostAlike 28 = .ok (.if_icmp .ne 41, 3))))) := by decide +kernel
theorem dX6_mostAlike_0 : decode cX6_mostAlike 0 = .ok (.aload_n 0, 1) := dX6_mostAlike_0_z.1.1.1.1
theorem dX6_mostAlike_1 : decode cX6_mostAlike 1 = .ok (.getfield 19, 3) := dX6_mostAlike_0_z.1.1.1.2
theorem dX6_mostAlike_4 : decode cX6_mostAlike 4 = .ok (.iconst 0, 1) := dX6_mostAlike_0_z.1.1.2.1
theorem dX6_mostAlike_5 : decode cX6_mostAlike 5 = .ok (.invokestatic 111, 3) := dX6_mostAlike_0_z.1.1.2.2
theorem dX6_mostAlike_8 : decode cX6_mostAlike 8 = .ok (.iconst 0, 1) := dX6_mostAlike_0_z.1.2.1.1
theorem dX6_mostAlike_9 : decode cX6_mostAlike 9 = .ok (.istore 4, 2) := dX6_mostAlike_0_z.1.2.1.2
theorem dX6_mostAlike_11 : decode cX6_mostAlike 11 = .ok (.iconst 0, 1) := dX6_mostAlike_0_z.1.2.2.1
theorem dX6_mostAlike_12 : decode cX6_mostAlike 12 = .ok (.istore 5, 2) := dX6_mostAlike_0_z.1.2.2.2
theorem dX6_mostAlike_14 : decode cX6_mostAlike 14 = .ok (.iload 5, 2) := dX6_mostAlike_0_z.2.1.1.1
theorem dX6_mostAlike_16 : decode cX6_mostAlike 16 = .ok (.bipush 10, 2) := dX6_mostAlike_0_z.2.1.1.2
theorem dX6_mostAlike_18 : decode cX6_mostAlike 18 = .ok (.if_icmp .ge 57, 3) := dX6_mostAlike_0_z.2.1.2.1
theorem dX6_mostAlike_21 : decode cX6_mostAlike 21 = .ok (.iload_n 3, 1) := dX6_mostAlike_0_z.2.1.2.2
theorem dX6_mostAlike_22 : decode cX6_mostAlike 22 = .ok (.iload 5, 2) := dX6_mostAlike_0_z.2.2.1.1
theorem dX6_mostAlike_24 : decode cX6_mostAlike 24 = .ok (.invokestatic 49, 3) := dX6_mostAlike_0_z.2.2.1.2
theorem dX6_mostAlike_27 : decode cX6_mostAlike 27 = .ok (.iconst 1, 1) := dX6_mostAlike_0_z.2.2.2.1
theorem dX6_mostAlike_28 : decode cX6_mostAlike 28 = .ok (.if_icmp .ne 41, 3) := dX6_mostAlike_0_z.2.2.2.2
set_option maxRecDepth 100000 in
theorem dX6_mostAlike_31_z : ((((decode cX6_mostAlike 31 = .ok (.aload_n 0, 1) ∧ decode cX6_mostAlike 32 = .ok (.getfield 33, 3)) ∧ (decode cX6_mostAlike 35 = .ok (.iload_n 1, 1) ∧ decode cX6_mostAlike 36 = .ok (.iload_n 2, 1))) ∧ ((decode cX6_mostAlike 37 = .ok (.iload 5, 2) ∧ decode cX6_mostAlike 39 = .ok (.invokevirtual 83, 3)) ∧ (decode cX6_mostAlike 42 = .ok (.istore 6, 2) ∧ decode cX6_mostAlike 44 = .ok (.aload_n 0, 1)))) ∧ (((decode cX6_mostAlike 45 = .ok (.getfield 19, 3) ∧ decode cX6_mostAlike 48 = .ok (.iload 6, 2)) ∧ (decode cX6_mostAlike 50 = .ok (.dup2, 1) ∧ decode cX6_mostAlike 51 = .ok (.iaload, 1))) ∧ ((decode cX6_mostAlike 52 = .ok (.iconst 1, 1) ∧ decode cX6_mostAlike 53 = .ok (.iadd, 1)) ∧ (decode cX6_mostAlike 54 = .ok (.iastore, 1) ∧ decode cX6_mostAlike 55 = .ok (.iload 4, 2))))) := by decide +kernel
theorem dX6_mostAlike_31 : decode cX6_mostAlike 31 = .ok (.aload_n 0, 1) := dX6_mostAlike_31_z.1.1.1.1
theorem dX6_mostAlike_32 : decode cX6_mostAlike 32 = .ok (.getfield 33, 3) := dX6_mostAlike_31_z.1.1.1.2
theorem dX6_mostAlike_35 : decode cX6_mostAlike 35 = .ok (.iload_n 1, 1) := dX6_mostAlike_31_z.1.1.2.1
theorem dX6_mostAlike_36 : decode cX6_mostAlike 36 = .ok (.iload_n 2, 1) := dX6_mostAlike_31_z.1.1.2.2
theorem dX6_mostAlike_37 : decode cX6_mostAlike 37 = .ok (.iload 5, 2) := dX6_mostAlike_31_z.1.2.1.1
theorem dX6_mostAlike_39 : decode cX6_mostAlike 39 = .ok (.invokevirtual 83, 3) := dX6_mostAlike_31_z.1.2.1.2
theorem dX6_mostAlike_42 : decode cX6_mostAlike 42 = .ok (.istore 6, 2) := dX6_mostAlike_31_z.1.2.2.1
theorem dX6_mostAlike_44 : decode cX6_mostAlike 44 = .ok (.aload_n 0, 1) := dX6_mostAlike_31_z.1.2.2.2
theorem dX6_mostAlike_45 : decode cX6_mostAlike 45 = .ok (.getfield 19, 3) := dX6_mostAlike_31_z.2.1.1.1
theorem dX6_mostAlike_48 : decode cX6_mostAlike 48 = .ok (.iload 6, 2) := dX6_mostAlike_31_z.2.1.1.2
theorem dX6_mostAlike_50 : decode cX6_mostAlike 50 = .ok (.dup2, 1) := dX6_mostAlike_31_z.2.1.2.1
theorem dX6_mostAlike_51 : decode cX6_mostAlike 51 = .ok (.iaload, 1) := dX6_mostAlike_31_z.2.1.2.2
theorem dX6_mostAlike_52 : decode cX6_mostAlike 52 = .ok (.iconst 1, 1) := dX6_mostAlike_31_z.2.2.1.1
theorem dX6_mostAlike_53 : decode cX6_mostAlike 53 = .ok (.iadd, 1) := dX6_mostAlike_31_z.2.2.1.2
theorem dX6_mostAlike_54 : decode cX6_mostAlike 54 = .ok (.iastore, 1) := dX6_mostAlike_31_z.2.2.2.1
theorem dX6_mostAlike_55 : decode cX6_mostAlike 55 = .ok (.iload 4, 2) := dX6_mostAlike_31_z.2.2.2.2
set_option maxRecDepth 100000 in
theorem dX6_mostAlike_57_z : ((((decode cX6_mostAlike 57 = .ok (.aload_n 0, 1) ∧ decode cX6_mostAlike 58 = .ok (.getfield 19, 3)) ∧ decode cX6_mostAlike 61 = .ok (.iload 6, 2)) ∧ (decode cX6_mostAlike 63 = .ok (.iaload, 1) ∧ decode cX6_mostAlike 64 = .ok (.invokestatic 97, 3))) ∧ (((decode cX6_mostAlike 67 = .ok (.istore 4, 2) ∧ decode cX6_mostAlike 69 = .ok (.iinc 5 1, 3)) ∧ decode cX6_mostAlike 72 = .ok (.goto (-58), 3)) ∧ (decode cX6_mostAlike 75 = .ok (.iload 4, 2) ∧ decode cX6_mostAlike 77 = .ok (.ireturn, 1)))) := by decide +kernel
theorem dX6_mostAlike_57 : decode cX6_mostAlike 57 = .ok (.aload_n 0, 1) := dX6_mostAlike_57_z.1.1.1.1
theorem dX6_mostAlike_58 : decode cX6_mostAlike 58 = .ok (.getfield 19, 3) := dX6_mostAlike_57_z.1.1.1.2
theorem dX6_mostAlike_61 : decode cX6_mostAlike 61 = .ok (.iload 6, 2) := dX6_mostAlike_57_z.1.1.2
theorem dX6_mostAlike_63 : decode cX6_mostAlike 63 = .ok (.iaload, 1) := dX6_mostAlike_57_z.1.2.1
theorem dX6_mostAlike_64 : decode cX6_mostAlike 64 = .ok (.invokestatic 97, 3) := dX6_mostAlike_57_z.1.2.2
theorem dX6_mostAlike_67 : decode cX6_mostAlike 67 = .ok (.istore 4, 2) := dX6_mostAlike_57_z.2.1.1.1
theorem dX6_mostAlike_69 : decode cX6_mostAlike 69 = .ok (.iinc 5 1, 3) := dX6_mostAlike_57_z.2.1.1.2
theorem dX6_mostAlike_72 : decode cX6_mostAlike 72 = .ok (.goto (-58), 3) := dX6_mostAlike_57_z.2.1.2
theorem dX6_mostAlike_75 : decode cX6_mostAlike 75 = .ok (.iload 4, 2) := dX6_mostAlike_57_z.2.2.1
theorem dX6_mostAlike_77 : decode cX6_mostAlike 77 = .ok (.ireturn, 1) := dX6_mostAlike_57_z.2.2.2
set_option maxRecDepth 100000 in
theorem dX6_fewestSketchers_0_z : ((((decode cX6_fewestSketchers 0 = .ok (.aload_n 0, 1) ∧ decode cX6_fewestSketchers 1 = .ok (.iload_n 1, 1)) ∧ (decode cX6_fewestSketchers 2 = .ok (.invokevirtual 56, 3) ∧ decode cX6_fewestSketchers 5 = .ok (.istore_n 2, 1))) ∧ ((decode cX6_fewestSketchers 6 = .ok (.aload_n 0, 1) ∧ decode cX6_fewestSketchers 7 = .ok (.getfield 22, 3)) ∧ (decode cX6_fewestSketchers 10 = .ok (.iconst 0, 1) ∧ decode cX6_fewestSketchers 11 = .ok (.invokestatic 111, 3)))) ∧ (((decode cX6_fewestSketchers 14 = .ok (.iconst 0, 1) ∧ decode cX6_fewestSketchers 15 = .ok (.istore_n 3, 1)) ∧ (decode cX6_fewestSketchers 16 = .ok (.iconst 0, 1) ∧ decode cX6_fewestSketchers 17 = .ok (.istore 4, 2))) ∧ ((decode cX6_fewestSketchers 19 = .ok (.iload 4, 2) ∧ decode cX6_fewestSketchers 21 = .ok (.aload_n 0, 1)) ∧ (decode cX6_fewestSketchers 22 = .ok (.getfield 25, 3) ∧ decode cX6_fewestSketchers 25 = .ok (.getfield 105, 3))))) := by decide +kernel
theorem dX6_fewestSketchers_0 : decode cX6_fewestSketchers 0 = .ok (.aload_n 0, 1) := dX6_fewestSketchers_0_z.1.1.1.1
theorem dX6_fewestSketchers_1 : decode cX6_fewestSketchers 1 = .ok (.iload_n 1, 1) := dX6_fewestSketchers_0_z.1.1.1.2
theorem dX6_fewestSketchers_2 : decode cX6_fewestSketchers 2 = .ok (.invokevirtual 56, 3) := dX6_fewestSketchers_0_z.1.1.2.1
theorem dX6_fewestSketchers_5 : decode cX6_fewestSketchers 5 = .ok (.istore_n 2, 1) := dX6_fewestSketchers_0_z.1.1.2.2
theorem dX6_fewestSketchers_6 : decode cX6_fewestSketchers 6 = .ok (.aload_n 0, 1) := dX6_fewestSketchers_0_z.1.2.1.1
theorem dX6_fewestSketchers_7 : decode cX6_fewestSketchers 7 = .ok (.getfield 22, 3) := dX6_fewestSketchers_0_z.1.2.1.2
theorem dX6_fewestSketchers_10 : decode cX6_fewestSketchers 10 = .ok (.iconst 0, 1) := dX6_fewestSketchers_0_z.1.2.2.1
theorem dX6_fewestSketchers_11 : decode cX6_fewestSketchers 11 = .ok (.invokestatic 111, 3) := dX6_fewestSketchers_0_z.1.2.2.2
theorem dX6_fewestSketchers_14 : decode cX6_fewestSketchers 14 = .ok (.iconst 0, 1) := dX6_fewestSketchers_0_z.2.1.1.1
theorem dX6_fewestSketchers_15 : decode cX6_fewestSketchers 15 = .ok (.istore_n 3, 1) := dX6_fewestSketchers_0_z.2.1.1.2
theorem dX6_fewestSketchers_16 : decode cX6_fewestSketchers 16 = .ok (.iconst 0, 1) := dX6_fewestSketchers_0_z.2.1.2.1
theorem dX6_fewestSketchers_17 : decode cX6_fewestSketchers 17 = .ok (.istore 4, 2) := dX6_fewestSketchers_0_z.2.1.2.2
theorem dX6_fewestSketchers_19 : decode cX6_fewestSketchers 19 = .ok (.iload 4, 2) := dX6_fewestSketchers_0_z.2.2.1.1
theorem dX6_fewestSketchers_21 : decode cX6_fewestSketchers 21 = .ok (.aload_n 0, 1) := dX6_fewestSketchers_0_z.2.2.1.2
theorem dX6_fewestSketchers_22 : decode cX6_fewestSketchers 22 = .ok (.getfield 25, 3) := dX6_fewestSketchers_0_z.2.2.2.1
theorem dX6_fewestSketchers_25 : decode cX6_fewestSketchers 25 = .ok (.getfield 105, 3) := dX6_fewestSketchers_0_z.2.2.2.2
set_option maxRecDepth 100000 in
theorem dX6_fewestSketchers_28_z : ((((decode cX6_fewestSketchers 28 = .ok (.if_icmp .ge 27, 3) ∧ decode cX6_fewestSketchers 31 = .ok (.aload_n 0, 1)) ∧ (decode cX6_fewestSketchers 32 = .ok (.iload 4, 2) ∧ decode cX6_fewestSketchers 34 = .ok (.invokevirtual 65, 3))) ∧ ((decode cX6_fewestSketchers 37 = .ok (.ifCond .eq 12, 3) ∧ decode cX6_fewestSketchers 40 = .ok (.aload_n 0, 1)) ∧ (decode cX6_fewestSketchers 41 = .ok (.iload 4, 2) ∧ decode cX6_fewestSketchers 43 = .ok (.iload_n 1, 1)))) ∧ (((decode cX6_fewestSketchers 44 = .ok (.iload_n 2, 1) ∧ decode cX6_fewestSketchers 45 = .ok (.invokevirtual 117, 3)) ∧ (decode cX6_fewestSketchers 48 = .ok (.istore_n 3, 1) ∧ decode cX6_fewestSketchers 49 = .ok (.iinc 4 1, 3))) ∧ ((decode cX6_fewestSketchers 52 = .ok (.goto (-33), 3) ∧ decode cX6_fewestSketchers 55 = .ok (.iload_n 3, 1)) ∧ (decode cX6_fewestSketchers 56 = .ok (.ifCond .ne 5, 3) ∧ decode cX6_fewestSketchers 59 = .ok (.iconst (-1), 1))))) := by decide +kernel
theorem dX6_fewestSketchers_28 : decode cX6_fewestSketchers 28 = .ok (.if_icmp .ge 27, 3) := dX6_fewestSketchers_28_z.1.1.1.1
theorem dX6_fewestSketchers_31 : decode cX6_fewestSketchers 31 = .ok (.aload_n 0, 1) := dX6_fewestSketchers_28_z.1.1.1.2
theorem dX6_fewestSketchers_32 : decode cX6_fewestSketchers 32 = .ok (.iload 4, 2) := dX6_fewestSketchers_28_z.1.1.2.1
theorem dX6_fewestSketchers_34 : decode cX6_fewestSketchers 34 = .ok (.invokevirtual 65, 3) := dX6_fewestSketchers_28_z.1.1.2.2
theorem dX6_fewestSketchers_37 : decode cX6_fewestSketchers 37 = .ok (.ifCond .eq 12, 3) := dX6_fewestSketchers_28_z.1.2.1.1
theorem dX6_fewestSketchers_40 : decode cX6_fewestSketchers 40 = .ok (.aload_n 0, 1) := dX6_fewestSketchers_28_z.1.2.1.2
theorem dX6_fewestSketchers_41 : decode cX6_fewestSketchers 41 = .ok (.iload 4, 2) := dX6_fewestSketchers_28_z.1.2.2.1
theorem dX6_fewestSketchers_43 : decode cX6_fewestSketchers 43 = .ok (.iload_n 1, 1) := dX6_fewestSketchers_28_z.1.2.2.2
theorem dX6_fewestSketchers_44 : decode cX6_fewestSketchers 44 = .ok (.iload_n 2, 1) := dX6_fewestSketchers_28_z.2.1.1.1
theorem dX6_fewestSketchers_45 : decode cX6_fewestSketchers 45 = .ok (.invokevirtual 117, 3) := dX6_fewestSketchers_28_z.2.1.1.2
theorem dX6_fewestSketchers_48 : decode cX6_fewestSketchers 48 = .ok (.istore_n 3, 1) := dX6_fewestSketchers_28_z.2.1.2.1
theorem dX6_fewestSketchers_49 : decode cX6_fewestSketchers 49 = .ok (.iinc 4 1, 3) := dX6_fewestSketchers_28_z.2.1.2.2
theorem dX6_fewestSketchers_52 : decode cX6_fewestSketchers 52 = .ok (.goto (-33), 3) := dX6_fewestSketchers_28_z.2.2.1.1
theorem dX6_fewestSketchers_55 : decode cX6_fewestSketchers 55 = .ok (.iload_n 3, 1) := dX6_fewestSketchers_28_z.2.2.1.2
theorem dX6_fewestSketchers_56 : decode cX6_fewestSketchers 56 = .ok (.ifCond .ne 5, 3) := dX6_fewestSketchers_28_z.2.2.2.1
theorem dX6_fewestSketchers_59 : decode cX6_fewestSketchers 59 = .ok (.iconst (-1), 1) := dX6_fewestSketchers_28_z.2.2.2.2
set_option maxRecDepth 100000 in
theorem dX6_fewestSketchers_60_z : ((((decode cX6_fewestSketchers 60 = .ok (.ireturn, 1) ∧ decode cX6_fewestSketchers 61 = .ok (.iconst (-1), 1)) ∧ (decode cX6_fewestSketchers 62 = .ok (.istore 4, 2) ∧ decode cX6_fewestSketchers 64 = .ok (.iconst 0, 1))) ∧ ((decode cX6_fewestSketchers 65 = .ok (.istore 5, 2) ∧ decode cX6_fewestSketchers 67 = .ok (.iload 5, 2)) ∧ (decode cX6_fewestSketchers 69 = .ok (.iconst 1, 1) ∧ decode cX6_fewestSketchers 70 = .ok (.aload_n 0, 1)))) ∧ (((decode cX6_fewestSketchers 71 = .ok (.getfield 25, 3) ∧ decode cX6_fewestSketchers 74 = .ok (.getfield 105, 3)) ∧ (decode cX6_fewestSketchers 77 = .ok (.ishl, 1) ∧ decode cX6_fewestSketchers 78 = .ok (.if_icmp .ge 54, 3))) ∧ ((decode cX6_fewestSketchers 81 = .ok (.iload 4, 2) ∧ decode cX6_fewestSketchers 83 = .ok (.iconst (-1), 1)) ∧ (decode cX6_fewestSketchers 84 = .ok (.if_icmp .eq 16, 3) ∧ decode cX6_fewestSketchers 87 = .ok (.iload 5, 2))))) := by decide +kernel
theorem dX6_fewestSketchers_60 : decode cX6_fewestSketchers 60 = .ok (.ireturn, 1) := dX6_fewestSketchers_60_z.1.1.1.1
theorem dX6_fewestSketchers_61 : decode cX6_fewestSketchers 61 = .ok (.iconst (-1), 1) := dX6_fewestSketchers_60_z.1.1.1.2
theorem dX6_fewestSketchers_62 : decode cX6_fewestSketchers 62 = .ok (.istore 4, 2) := dX6_fewestSketchers_60_z.1.1.2.1
theorem dX6_fewestSketchers_64 : decode cX6_fewestSketchers 64 = .ok (.iconst 0, 1) := dX6_fewestSketchers_60_z.1.1.2.2
theorem dX6_fewestSketchers_65 : decode cX6_fewestSketchers 65 = .ok (.istore 5, 2) := dX6_fewestSketchers_60_z.1.2.1.1
theorem dX6_fewestSketchers_67 : decode cX6_fewestSketchers 67 = .ok (.iload 5, 2) := dX6_fewestSketchers_60_z.1.2.1.2
theorem dX6_fewestSketchers_69 : decode cX6_fewestSketchers 69 = .ok (.iconst 1, 1) := dX6_fewestSketchers_60_z.1.2.2.1
theorem dX6_fewestSketchers_70 : decode cX6_fewestSketchers 70 = .ok (.aload_n 0, 1) := dX6_fewestSketchers_60_z.1.2.2.2
theorem dX6_fewestSketchers_71 : decode cX6_fewestSketchers 71 = .ok (.getfield 25, 3) := dX6_fewestSketchers_60_z.2.1.1.1
theorem dX6_fewestSketchers_74 : decode cX6_fewestSketchers 74 = .ok (.getfield 105, 3) := dX6_fewestSketchers_60_z.2.1.1.2
theorem dX6_fewestSketchers_77 : decode cX6_fewestSketchers 77 = .ok (.ishl, 1) := dX6_fewestSketchers_60_z.2.1.2.1
theorem dX6_fewestSketchers_78 : decode cX6_fewestSketchers 78 = .ok (.if_icmp .ge 54, 3) := dX6_fewestSketchers_60_z.2.1.2.2
theorem dX6_fewestSketchers_81 : decode cX6_fewestSketchers 81 = .ok (.iload 4, 2) := dX6_fewestSketchers_60_z.2.2.1.1
theorem dX6_fewestSketchers_83 : decode cX6_fewestSketchers 83 = .ok (.iconst (-1), 1) := dX6_fewestSketchers_60_z.2.2.1.2
theorem dX6_fewestSketchers_84 : decode cX6_fewestSketchers 84 = .ok (.if_icmp .eq 16, 3) := dX6_fewestSketchers_60_z.2.2.2.1
theorem dX6_fewestSketchers_87 : decode cX6_fewestSketchers 87 = .ok (.iload 5, 2) := dX6_fewestSketchers_60_z.2.2.2.2
set_option maxRecDepth 100000 in
theorem dX6_fewestSketchers_89_z : ((((decode cX6_fewestSketchers 89 = .ok (.invokestatic 120, 3) ∧ decode cX6_fewestSketchers 92 = .ok (.iload 4, 2)) ∧ (decode cX6_fewestSketchers 94 = .ok (.invokestatic 120, 3) ∧ decode cX6_fewestSketchers 97 = .ok (.if_icmp .ge 7, 3))) ∧ ((decode cX6_fewestSketchers 100 = .ok (.iconst 1, 1) ∧ decode cX6_fewestSketchers 101 = .ok (.goto 4, 3)) ∧ (decode cX6_fewestSketchers 104 = .ok (.iconst 0, 1) ∧ decode cX6_fewestSketchers 105 = .ok (.istore 6, 2)))) ∧ (((decode cX6_fewestSketchers 107 = .ok (.iload 6, 2) ∧ decode cX6_fewestSketchers 109 = .ok (.ifCond .eq 17, 3)) ∧ (decode cX6_fewestSketchers 112 = .ok (.aload_n 0, 1) ∧ decode cX6_fewestSketchers 113 = .ok (.iload 5, 2))) ∧ ((decode cX6_fewestSketchers 115 = .ok (.iload_n 3, 1) ∧ decode cX6_fewestSketchers 116 = .ok (.invokevirtual 125, 3)) ∧ (decode cX6_fewestSketchers 119 = .ok (.ifCond .eq 7, 3) ∧ decode cX6_fewestSketchers 122 = .ok (.iload 5, 2))))) := by decide +kernel
theorem dX6_fewestSketchers_89 : decode cX6_fewestSketchers 89 = .ok (.invokestatic 120, 3) := dX6_fewestSketchers_89_z.1.1.1.1
theorem dX6_fewestSketchers_92 : decode cX6_fewestSketchers 92 = .ok (.iload 4, 2) := dX6_fewestSketchers_89_z.1.1.1.2
theorem dX6_fewestSketchers_94 : decode cX6_fewestSketchers 94 = .ok (.invokestatic 120, 3) := dX6_fewestSketchers_89_z.1.1.2.1
theorem dX6_fewestSketchers_97 : decode cX6_fewestSketchers 97 = .ok (.if_icmp .ge 7, 3) := dX6_fewestSketchers_89_z.1.1.2.2
theorem dX6_fewestSketchers_100 : decode cX6_fewestSketchers 100 = .ok (.iconst 1, 1) := dX6_fewestSketchers_89_z.1.2.1.1
theorem dX6_fewestSketchers_101 : decode cX6_fewestSketchers 101 = .ok (.goto 4, 3) := dX6_fewestSketchers_89_z.1.2.1.2
theorem dX6_fewestSketchers_104 : decode cX6_fewestSketchers 104 = .ok (.iconst 0, 1) := dX6_fewestSketchers_89_z.1.2.2.1
theorem dX6_fewestSketchers_105 : decode cX6_fewestSketchers 105 = .ok (.istore 6, 2) := dX6_fewestSketchers_89_z.1.2.2.2
theorem dX6_fewestSketchers_107 : decode cX6_fewestSketchers 107 = .ok (.iload 6, 2) := dX6_fewestSketchers_89_z.2.1.1.1
theorem dX6_fewestSketchers_109 : decode cX6_fewestSketchers 109 = .ok (.ifCond .eq 17, 3) := dX6_fewestSketchers_89_z.2.1.1.2
theorem dX6_fewestSketchers_112 : decode cX6_fewestSketchers 112 = .ok (.aload_n 0, 1) := dX6_fewestSketchers_89_z.2.1.2.1
theorem dX6_fewestSketchers_113 : decode cX6_fewestSketchers 113 = .ok (.iload 5, 2) := dX6_fewestSketchers_89_z.2.1.2.2
theorem dX6_fewestSketchers_115 : decode cX6_fewestSketchers 115 = .ok (.iload_n 3, 1) := dX6_fewestSketchers_89_z.2.2.1.1
theorem dX6_fewestSketchers_116 : decode cX6_fewestSketchers 116 = .ok (.invokevirtual 125, 3) := dX6_fewestSketchers_89_z.2.2.1.2
theorem dX6_fewestSketchers_119 : decode cX6_fewestSketchers 119 = .ok (.ifCond .eq 7, 3) := dX6_fewestSketchers_89_z.2.2.2.1
theorem dX6_fewestSketchers_122 : decode cX6_fewestSketchers 122 = .ok (.iload 5, 2) := dX6_fewestSketchers_89_z.2.2.2.2
set_option maxRecDepth 100000 in
theorem dX6_fewestSketchers_124_z : (((decode cX6_fewestSketchers 124 = .ok (.istore 4, 2) ∧ decode cX6_fewestSketchers 126 = .ok (.iinc 5 1, 3)) ∧ decode cX6_fewestSketchers 129 = .ok (.goto (-62), 3)) ∧ (decode cX6_fewestSketchers 132 = .ok (.iload 4, 2) ∧ decode cX6_fewestSketchers 134 = .ok (.ireturn, 1))) := by decide +kernel
theorem dX6_fewestSketchers_124 : decode cX6_fewestSketchers 124 = .ok (.istore 4, 2) := dX6_fewestSketchers_124_z.1.1.1
theorem dX6_fewestSketchers_126 : decode cX6_fewestSketchers 126 = .ok (.iinc 5 1, 3) := dX6_fewestSketchers_124_z.1.1.2
theorem dX6_fewestSketchers_129 : decode cX6_fewestSketchers 129 = .ok (.goto (-62), 3) := dX6_fewestSketchers_124_z.1.2
theorem dX6_fewestSketchers_132 : decode cX6_fewestSketchers 132 = .ok (.iload 4, 2) := dX6_fewestSketchers_124_z.2.1
theorem dX6_fewestSketchers_134 : decode cX6_fewestSketchers 134 = .ok (.ireturn, 1) := dX6_fewestSketchers_124_z.2.2
set_option maxRecDepth 100000 in
theorem dX6_addTeller_0_z : ((((decode cX6_addTeller 0 = .ok (.iconst 0, 1) ∧ decode cX6_addTeller 1 = .ok (.istore 4, 2)) ∧ (decode cX6_addTeller 3 = .ok (.iload 4, 2) ∧ decode cX6_addTeller 5 = .ok (.bipush 10, 2))) ∧ ((decode cX6_addTeller 7 = .ok (.if_icmp .ge 27, 3) ∧ decode cX6_addTeller 10 = .ok (.aload_n 0, 1)) ∧ (decode cX6_addTeller 11 = .ok (.getfield 15, 3) ∧ decode cX6_addTeller 14 = .ok (.iload 4, 2)))) ∧ (((decode cX6_addTeller 16 = .ok (.aload_n 0, 1) ∧ decode cX6_addTeller 17 = .ok (.getfield 33, 3)) ∧ (decode cX6_addTeller 20 = .ok (.iload_n 1, 1) ∧ decode cX6_addTeller 21 = .ok (.iload_n 2, 1))) ∧ ((decode cX6_addTeller 22 = .ok (.iload 4, 2) ∧ decode cX6_addTeller 24 = .ok (.invokevirtual 83, 3)) ∧ (decode cX6_addTeller 27 = .ok (.iastore, 1) ∧ decode cX6_addTeller 28 = .ok (.iinc 4 1, 3))))) := by decide +kernel
theorem dX6_addTeller_0 : decode cX6_addTeller 0 = .ok (.iconst 0, 1) := dX6_addTeller_0_z.1.1.1.1
theorem dX6_addTeller_1 : decode cX6_addTeller 1 = .ok (.istore 4, 2) := dX6_addTeller_0_z.1.1.1.2
theorem dX6_addTeller_3 : decode cX6_addTeller 3 = .ok (.iload 4, 2) := dX6_addTeller_0_z.1.1.2.1
theorem dX6_addTeller_5 : decode cX6_addTeller 5 = .ok (.bipush 10, 2) := dX6_addTeller_0_z.1.1.2.2
theorem dX6_addTeller_7 : decode cX6_addTeller 7 = .ok (.if_icmp .ge 27, 3) := dX6_addTeller_0_z.1.2.1.1
theorem dX6_addTeller_10 : decode cX6_addTeller 10 = .ok (.aload_n 0, 1) := dX6_addTeller_0_z.1.2.1.2
theorem dX6_addTeller_11 : decode cX6_addTeller 11 = .ok (.getfield 15, 3) := dX6_addTeller_0_z.1.2.2.1
theorem dX6_addTeller_14 : decode cX6_addTeller 14 = .ok (.iload 4, 2) := dX6_addTeller_0_z.1.2.2.2
theorem dX6_addTeller_16 : decode cX6_addTeller 16 = .ok (.aload_n 0, 1) := dX6_addTeller_0_z.2.1.1.1
theorem dX6_addTeller_17 : decode cX6_addTeller 17 = .ok (.getfield 33, 3) := dX6_addTeller_0_z.2.1.1.2
theorem dX6_addTeller_20 : decode cX6_addTeller 20 = .ok (.iload_n 1, 1) := dX6_addTeller_0_z.2.1.2.1
theorem dX6_addTeller_21 : decode cX6_addTeller 21 = .ok (.iload_n 2, 1) := dX6_addTeller_0_z.2.1.2.2
theorem dX6_addTeller_22 : decode cX6_addTeller 22 = .ok (.iload 4, 2) := dX6_addTeller_0_z.2.2.1.1
theorem dX6_addTeller_24 : decode cX6_addTeller 24 = .ok (.invokevirtual 83, 3) := dX6_addTeller_0_z.2.2.1.2
theorem dX6_addTeller_27 : decode cX6_addTeller 27 = .ok (.iastore, 1) := dX6_addTeller_0_z.2.2.2.1
theorem dX6_addTeller_28 : decode cX6_addTeller 28 = .ok (.iinc 4 1, 3) := dX6_addTeller_0_z.2.2.2.2
set_option maxRecDepth 100000 in
theorem dX6_addTeller_31_z : ((((decode cX6_addTeller 31 = .ok (.goto (-28), 3) ∧ decode cX6_addTeller 34 = .ok (.iconst 0, 1)) ∧ (decode cX6_addTeller 35 = .ok (.istore 4, 2) ∧ decode cX6_addTeller 37 = .ok (.iconst 0, 1))) ∧ ((decode cX6_addTeller 38 = .ok (.istore 5, 2) ∧ decode cX6_addTeller 40 = .ok (.iload 5, 2)) ∧ (decode cX6_addTeller 42 = .ok (.bipush 10, 2) ∧ decode cX6_addTeller 44 = .ok (.if_icmp .ge 82, 3)))) ∧ (((decode cX6_addTeller 47 = .ok (.iload 5, 2) ∧ decode cX6_addTeller 49 = .ok (.iconst 1, 1)) ∧ (decode cX6_addTeller 50 = .ok (.iadd, 1) ∧ decode cX6_addTeller 51 = .ok (.istore 6, 2))) ∧ ((decode cX6_addTeller 53 = .ok (.iload 6, 2) ∧ decode cX6_addTeller 55 = .ok (.bipush 10, 2)) ∧ (decode cX6_addTeller 57 = .ok (.if_icmp .ge 63, 3) ∧ decode cX6_addTeller 60 = .ok (.iload_n 3, 1))))) := by decide +kernel
theorem dX6_addTeller_31 : decode cX6_addTeller 31 = .ok (.goto (-28), 3) := dX6_addTeller_31_z.1.1.1.1
theorem dX6_addTeller_34 : decode cX6_addTeller 34 = .ok (.iconst 0, 1) := dX6_addTeller_31_z.1.1.1.2
theorem dX6_addTeller_35 : decode cX6_addTeller 35 = .ok (.istore 4, 2) := dX6_addTeller_31_z.1.1.2.1
theorem dX6_addTeller_37 : decode cX6_addTeller 37 = .ok (.iconst 0, 1) := dX6_addTeller_31_z.1.1.2.2
theorem dX6_addTeller_38 : decode cX6_addTeller 38 = .ok (.istore 5, 2) := dX6_addTeller_31_z.1.2.1.1
theorem dX6_addTeller_40 : decode cX6_addTeller 40 = .ok (.iload 5, 2) := dX6_addTeller_31_z.1.2.1.2
theorem dX6_addTeller_42 : decode cX6_addTeller 42 = .ok (.bipush 10, 2) := dX6_addTeller_31_z.1.2.2.1
theorem dX6_addTeller_44 : decode cX6_addTeller 44 = .ok (.if_icmp .ge 82, 3) := dX6_addTeller_31_z.1.2.2.2
theorem dX6_addTeller_47 : decode cX6_addTeller 47 = .ok (.iload 5, 2) := dX6_addTeller_31_z.2.1.1.1
theorem dX6_addTeller_49 : decode cX6_addTeller 49 = .ok (.iconst 1, 1) := dX6_addTeller_31_z.2.1.1.2
theorem dX6_addTeller_50 : decode cX6_addTeller 50 = .ok (.iadd, 1) := dX6_addTeller_31_z.2.1.2.1
theorem dX6_addTeller_51 : decode cX6_addTeller 51 = .ok (.istore 6, 2) := dX6_addTeller_31_z.2.1.2.2
theorem dX6_addTeller_53 : decode cX6_addTeller 53 = .ok (.iload 6, 2) := dX6_addTeller_31_z.2.2.1.1
theorem dX6_addTeller_55 : decode cX6_addTeller 55 = .ok (.bipush 10, 2) := dX6_addTeller_31_z.2.2.1.2
theorem dX6_addTeller_57 : decode cX6_addTeller 57 = .ok (.if_icmp .ge 63, 3) := dX6_addTeller_31_z.2.2.2.1
theorem dX6_addTeller_60 : decode cX6_addTeller 60 = .ok (.iload_n 3, 1) := dX6_addTeller_31_z.2.2.2.2
set_option maxRecDepth 100000 in
theorem dX6_addTeller_61_z : ((((decode cX6_addTeller 61 = .ok (.iload 5, 2) ∧ decode cX6_addTeller 63 = .ok (.invokestatic 49, 3)) ∧ (decode cX6_addTeller 66 = .ok (.ifCond .eq 48, 3) ∧ decode cX6_addTeller 69 = .ok (.iload_n 3, 1))) ∧ ((decode cX6_addTeller 70 = .ok (.iload 6, 2) ∧ decode cX6_addTeller 72 = .ok (.invokestatic 49, 3)) ∧ (decode cX6_addTeller 75 = .ok (.ifCond .ne 6, 3) ∧ decode cX6_addTeller 78 = .ok (.goto 36, 3)))) ∧ (((decode cX6_addTeller 81 = .ok (.aload_n 0, 1) ∧ decode cX6_addTeller 82 = .ok (.getfield 15, 3)) ∧ (decode cX6_addTeller 85 = .ok (.iload 5, 2) ∧ decode cX6_addTeller 87 = .ok (.iaload, 1))) ∧ ((decode cX6_addTeller 88 = .ok (.aload_n 0, 1) ∧ decode cX6_addTeller 89 = .ok (.getfield 15, 3)) ∧ (decode cX6_addTeller 92 = .ok (.iload 6, 2) ∧ decode cX6_addTeller 94 = .ok (.iaload, 1))))) := by decide +kernel
theorem dX6_addTeller_61 : decode cX6_addTeller 61 = .ok (.iload 5, 2) := dX6_addTeller_61_z.1.1.1.1
theorem dX6_addTeller_63 : decode cX6_addTeller 63 = .ok (.invokestatic 49, 3) := dX6_addTeller_61_z.1.1.1.2
theorem dX6_addTeller_66 : decode cX6_addTeller 66 = .ok (.ifCond .eq 48, 3) := dX6_addTeller_61_z.1.1.2.1
theorem dX6_addTeller_69 : decode cX6_addTeller 69 = .ok (.iload_n 3, 1) := dX6_addTeller_61_z.1.1.2.2
theorem dX6_addTeller_70 : decode cX6_addTeller 70 = .ok (.iload 6, 2) := dX6_addTeller_61_z.1.2.1.1
theorem dX6_addTeller_72 : decode cX6_addTeller 72 = .ok (.invokestatic 49, 3) := dX6_addTeller_61_z.1.2.1.2
theorem dX6_addTeller_75 : decode cX6_addTeller 75 = .ok (.ifCond .ne 6, 3) := dX6_addTeller_61_z.1.2.2.1
theorem dX6_addTeller_78 : decode cX6_addTeller 78 = .ok (.goto 36, 3) := dX6_addTeller_61_z.1.2.2.2
theorem dX6_addTeller_81 : decode cX6_addTeller 81 = .ok (.aload_n 0, 1) := dX6_addTeller_61_z.2.1.1.1
theorem dX6_addTeller_82 : decode cX6_addTeller 82 = .ok (.getfield 15, 3) := dX6_addTeller_61_z.2.1.1.2
theorem dX6_addTeller_85 : decode cX6_addTeller 85 = .ok (.iload 5, 2) := dX6_addTeller_61_z.2.1.2.1
theorem dX6_addTeller_87 : decode cX6_addTeller 87 = .ok (.iaload, 1) := dX6_addTeller_61_z.2.1.2.2
theorem dX6_addTeller_88 : decode cX6_addTeller 88 = .ok (.aload_n 0, 1) := dX6_addTeller_61_z.2.2.1.1
theorem dX6_addTeller_89 : decode cX6_addTeller 89 = .ok (.getfield 15, 3) := dX6_addTeller_61_z.2.2.1.2
theorem dX6_addTeller_92 : decode cX6_addTeller 92 = .ok (.iload 6, 2) := dX6_addTeller_61_z.2.2.2.1
theorem dX6_addTeller_94 : decode cX6_addTeller 94 = .ok (.iaload, 1) := dX6_addTeller_61_z.2.2.2.2
set_option maxRecDepth 100000 in
theorem dX6_addTeller_95_z : ((((decode cX6_addTeller 95 = .ok (.if_icmp .eq 16, 3) ∧ decode cX6_addTeller 98 = .ok (.aload_n 0, 1)) ∧ (decode cX6_addTeller 99 = .ok (.getfield 22, 3) ∧ decode cX6_addTeller 102 = .ok (.iload 4, 2))) ∧ ((decode cX6_addTeller 104 = .ok (.dup2, 1) ∧ decode cX6_addTeller 105 = .ok (.iaload, 1)) ∧ (decode cX6_addTeller 106 = .ok (.iconst 1, 1) ∧ decode cX6_addTeller 107 = .ok (.iload_n 1, 1)))) ∧ (((decode cX6_addTeller 108 = .ok (.ishl, 1) ∧ decode cX6_addTeller 109 = .ok (.ior, 1)) ∧ (decode cX6_addTeller 110 = .ok (.iastore, 1) ∧ decode cX6_addTeller 111 = .ok (.iinc 4 1, 3))) ∧ ((decode cX6_addTeller 114 = .ok (.iinc 6 1, 3) ∧ decode cX6_addTeller 117 = .ok (.goto (-64), 3)) ∧ (decode cX6_addTeller 120 = .ok (.iinc 5 1, 3) ∧ decode cX6_addTeller 123 = .ok (.goto (-83), 3))))) := by decide +kernel
theorem dX6_addTeller_95 : decode cX6_addTeller 95 = .ok (.if_icmp .eq 16, 3) := dX6_addTeller_95_z.1.1.1.1
theorem dX6_addTeller_98 : decode cX6_addTeller 98 = .ok (.aload_n 0, 1) := dX6_addTeller_95_z.1.1.1.2
theorem dX6_addTeller_99 : decode cX6_addTeller 99 = .ok (.getfield 22, 3) := dX6_addTeller_95_z.1.1.2.1
theorem dX6_addTeller_102 : decode cX6_addTeller 102 = .ok (.iload 4, 2) := dX6_addTeller_95_z.1.1.2.2
theorem dX6_addTeller_104 : decode cX6_addTeller 104 = .ok (.dup2, 1) := dX6_addTeller_95_z.1.2.1.1
theorem dX6_addTeller_105 : decode cX6_addTeller 105 = .ok (.iaload, 1) := dX6_addTeller_95_z.1.2.1.2
theorem dX6_addTeller_106 : decode cX6_addTeller 106 = .ok (.iconst 1, 1) := dX6_addTeller_95_z.1.2.2.1
theorem dX6_addTeller_107 : decode cX6_addTeller 107 = .ok (.iload_n 1, 1) := dX6_addTeller_95_z.1.2.2.2
theorem dX6_addTeller_108 : decode cX6_addTeller 108 = .ok (.ishl, 1) := dX6_addTeller_95_z.2.1.1.1
theorem dX6_addTeller_109 : decode cX6_addTeller 109 = .ok (.ior, 1) := dX6_addTeller_95_z.2.1.1.2
theorem dX6_addTeller_110 : decode cX6_addTeller 110 = .ok (.iastore, 1) := dX6_addTeller_95_z.2.1.2.1
theorem dX6_addTeller_111 : decode cX6_addTeller 111 = .ok (.iinc 4 1, 3) := dX6_addTeller_95_z.2.1.2.2
theorem dX6_addTeller_114 : decode cX6_addTeller 114 = .ok (.iinc 6 1, 3) := dX6_addTeller_95_z.2.2.1.1
theorem dX6_addTeller_117 : decode cX6_addTeller 117 = .ok (.goto (-64), 3) := dX6_addTeller_95_z.2.2.1.2
theorem dX6_addTeller_120 : decode cX6_addTeller 120 = .ok (.iinc 5 1, 3) := dX6_addTeller_95_z.2.2.2.1
theorem dX6_addTeller_123 : decode cX6_addTeller 123 = .ok (.goto (-83), 3) := dX6_addTeller_95_z.2.2.2.2
set_option maxRecDepth 100000 in
theorem dX6_addTeller_126_z : (decode cX6_addTeller 126 = .ok (.iload 4, 2) ∧ decode cX6_addTeller 128 = .ok (.ireturn, 1)) := by decide +kernel
theorem dX6_addTeller_126 : decode cX6_addTeller 126 = .ok (.iload 4, 2) := dX6_addTeller_126_z.1
theorem dX6_addTeller_128 : decode cX6_addTeller 128 = .ok (.ireturn, 1) := dX6_addTeller_126_z.2
set_option maxRecDepth 100000 in
theorem dX6_tellsAll_0_z : ((((decode cX6_tellsAll 0 = .ok (.iconst 0, 1) ∧ decode cX6_tellsAll 1 = .ok (.istore_n 3, 1)) ∧ (decode cX6_tellsAll 2 = .ok (.iload_n 3, 1) ∧ decode cX6_tellsAll 3 = .ok (.iload_n 2, 1))) ∧ ((decode cX6_tellsAll 4 = .ok (.if_icmp .ge 22, 3) ∧ decode cX6_tellsAll 7 = .ok (.aload_n 0, 1)) ∧ (decode cX6_tellsAll 8 = .ok (.getfield 22, 3) ∧ decode cX6_tellsAll 11 = .ok (.iload_n 3, 1)))) ∧ (((decode cX6_tellsAll 12 = .ok (.iaload, 1) ∧ decode cX6_tellsAll 13 = .ok (.iload_n 1, 1)) ∧ (decode cX6_tellsAll 14 = .ok (.iand, 1) ∧ decode cX6_tellsAll 15 = .ok (.ifCond .ne 5, 3))) ∧ ((decode cX6_tellsAll 18 = .ok (.iconst 0, 1) ∧ decode cX6_tellsAll 19 = .ok (.ireturn, 1)) ∧ (decode cX6_tellsAll 20 = .ok (.iinc 3 1, 3) ∧ decode cX6_tellsAll 23 = .ok (.goto (-21), 3))))) := by decide +kernel
theorem dX6_tellsAll_0 : decode cX6_tellsAll 0 = .ok (.iconst 0, 1) := dX6_tellsAll_0_z.1.1.1.1
theorem dX6_tellsAll_1 : decode cX6_tellsAll 1 = .ok (.istore_n 3, 1) := dX6_tellsAll_0_z.1.1.1.2
theorem dX6_tellsAll_2 : decode cX6_tellsAll 2 = .ok (.iload_n 3, 1) := dX6_tellsAll_0_z.1.1.2.1
theorem dX6_tellsAll_3 : decode cX6_tellsAll 3 = .ok (.iload_n 2, 1) := dX6_tellsAll_0_z.1.1.2.2
theorem dX6_tellsAll_4 : decode cX6_tellsAll 4 = .ok (.if_icmp .ge 22, 3) := dX6_tellsAll_0_z.1.2.1.1
theorem dX6_tellsAll_7 : decode cX6_tellsAll 7 = .ok (.aload_n 0, 1) := dX6_tellsAll_0_z.1.2.1.2
theorem dX6_tellsAll_8 : decode cX6_tellsAll 8 = .ok (.getfield 22, 3) := dX6_tellsAll_0_z.1.2.2.1
theorem dX6_tellsAll_11 : decode cX6_tellsAll 11 = .ok (.iload_n 3, 1) := dX6_tellsAll_0_z.1.2.2.2
theorem dX6_tellsAll_12 : decode cX6_tellsAll 12 = .ok (.iaload, 1) := dX6_tellsAll_0_z.2.1.1.1
theorem dX6_tellsAll_13 : decode cX6_tellsAll 13 = .ok (.iload_n 1, 1) := dX6_tellsAll_0_z.2.1.1.2
theorem dX6_tellsAll_14 : decode cX6_tellsAll 14 = .ok (.iand, 1) := dX6_tellsAll_0_z.2.1.2.1
theorem dX6_tellsAll_15 : decode cX6_tellsAll 15 = .ok (.ifCond .ne 5, 3) := dX6_tellsAll_0_z.2.1.2.2
theorem dX6_tellsAll_18 : decode cX6_tellsAll 18 = .ok (.iconst 0, 1) := dX6_tellsAll_0_z.2.2.1.1
theorem dX6_tellsAll_19 : decode cX6_tellsAll 19 = .ok (.ireturn, 1) := dX6_tellsAll_0_z.2.2.1.2
theorem dX6_tellsAll_20 : decode cX6_tellsAll 20 = .ok (.iinc 3 1, 3) := dX6_tellsAll_0_z.2.2.2.1
theorem dX6_tellsAll_23 : decode cX6_tellsAll 23 = .ok (.goto (-21), 3) := dX6_tellsAll_0_z.2.2.2.2
set_option maxRecDepth 100000 in
theorem dX6_tellsAll_26_z : (decode cX6_tellsAll 26 = .ok (.iconst 1, 1) ∧ decode cX6_tellsAll 27 = .ok (.ireturn, 1)) := by decide +kernel
theorem dX6_tellsAll_26 : decode cX6_tellsAll 26 = .ok (.iconst 1, 1) := dX6_tellsAll_26_z.1
theorem dX6_tellsAll_27 : decode cX6_tellsAll 27 = .ok (.ireturn, 1) := dX6_tellsAll_26_z.2
set_option maxRecDepth 100000 in
theorem dX7_begin_0_z : ((((decode cX7_begin 0 = .ok (.aload_n 0, 1) ∧ decode cX7_begin 1 = .ok (.iconst 0, 1)) ∧ (decode cX7_begin 2 = .ok (.putfield 25, 3) ∧ decode cX7_begin 5 = .ok (.aload_n 0, 1))) ∧ ((decode cX7_begin 6 = .ok (.iconst 0, 1) ∧ decode cX7_begin 7 = .ok (.putfield 28, 3)) ∧ (decode cX7_begin 10 = .ok (.aload_n 0, 1) ∧ decode cX7_begin 11 = .ok (.iconst 0, 1)))) ∧ (((decode cX7_begin 12 = .ok (.putfield 31, 3) ∧ decode cX7_begin 15 = .ok (.aload_n 0, 1)) ∧ (decode cX7_begin 16 = .ok (.iconst (-1), 1) ∧ decode cX7_begin 17 = .ok (.putfield 21, 3))) ∧ ((decode cX7_begin 20 = .ok (.aload_n 0, 1) ∧ decode cX7_begin 21 = .ok (.aload_n 1, 1)) ∧ (decode cX7_begin 22 = .ok (.invokevirtual 34, 3) ∧ decode cX7_begin 25 = .ok (.putfield 40, 3))))) := by decide +kernel
theorem dX7_begin_0 : decode cX7_begin 0 = .ok (.aload_n 0, 1) := dX7_begin_0_z.1.1.1.1
theorem dX7_begin_1 : decode cX7_begin 1 = .ok (.iconst 0, 1) := dX7_begin_0_z.1.1.1.2
theorem dX7_begin_2 : decode cX7_begin 2 = .ok (.putfield 25, 3) := dX7_begin_0_z.1.1.2.1
theorem dX7_begin_5 : decode cX7_begin 5 = .ok (.aload_n 0, 1) := dX7_begin_0_z.1.1.2.2
theorem dX7_begin_6 : decode cX7_begin 6 = .ok (.iconst 0, 1) := dX7_begin_0_z.1.2.1.1
theorem dX7_begin_7 : decode cX7_begin 7 = .ok (.putfield 28, 3) := dX7_begin_0_z.1.2.1.2
theorem dX7_begin_10 : decode cX7_begin 10 = .ok (.aload_n 0, 1) := dX7_begin_0_z.1.2.2.1
theorem dX7_begin_11 : decode cX7_begin 11 = .ok (.iconst 0, 1) := dX7_begin_0_z.1.2.2.2
theorem dX7_begin_12 : decode cX7_begin 12 = .ok (.putfield 31, 3) := dX7_begin_0_z.2.1.1.1
theorem dX7_begin_15 : decode cX7_begin 15 = .ok (.aload_n 0, 1) := dX7_begin_0_z.2.1.1.2
theorem dX7_begin_16 : decode cX7_begin 16 = .ok (.iconst (-1), 1) := dX7_begin_0_z.2.1.2.1
theorem dX7_begin_17 : decode cX7_begin 17 = .ok (.putfield 21, 3) := dX7_begin_0_z.2.1.2.2
theorem dX7_begin_20 : decode cX7_begin 20 = .ok (.aload_n 0, 1) := dX7_begin_0_z.2.2.1.1
theorem dX7_begin_21 : decode cX7_begin 21 = .ok (.aload_n 1, 1) := dX7_begin_0_z.2.2.1.2
theorem dX7_begin_22 : decode cX7_begin 22 = .ok (.invokevirtual 34, 3) := dX7_begin_0_z.2.2.2.1
theorem dX7_begin_25 : decode cX7_begin 25 = .ok (.putfield 40, 3) := dX7_begin_0_z.2.2.2.2
set_option maxRecDepth 100000 in
theorem dX7_begin_28_z : ((((decode cX7_begin 28 = .ok (.aload_n 0, 1) ∧ decode cX7_begin 29 = .ok (.iconst 0, 1)) ∧ (decode cX7_begin 30 = .ok (.putfield 43, 3) ∧ decode cX7_begin 33 = .ok (.iconst 0, 1))) ∧ ((decode cX7_begin 34 = .ok (.istore_n 2, 1) ∧ decode cX7_begin 35 = .ok (.iload_n 2, 1)) ∧ (decode cX7_begin 36 = .ok (.aload_n 1, 1) ∧ decode cX7_begin 37 = .ok (.getfield 46, 3)))) ∧ (((decode cX7_begin 40 = .ok (.if_icmp .ge 21, 3) ∧ decode cX7_begin 43 = .ok (.aload_n 0, 1)) ∧ (decode cX7_begin 44 = .ok (.getfield 9, 3) ∧ decode cX7_begin 47 = .ok (.iload_n 2, 1))) ∧ ((decode cX7_begin 48 = .ok (.aload_n 1, 1) ∧ decode cX7_begin 49 = .ok (.iload_n 2, 1)) ∧ (decode cX7_begin 50 = .ok (.iconst 3, 1) ∧ decode cX7_begin 51 = .ok (.invokevirtual 49, 3))))) := by decide +kernel
theorem dX7_begin_28 : decode cX7_begin 28 = .ok (.aload_n 0, 1) := dX7_begin_28_z.1.1.1.1
theorem dX7_begin_29 : decode cX7_begin 29 = .ok (.iconst 0, 1) := dX7_begin_28_z.1.1.1.2
theorem dX7_begin_30 : decode cX7_begin 30 = .ok (.putfield 43, 3) := dX7_begin_28_z.1.1.2.1
theorem dX7_begin_33 : decode cX7_begin 33 = .ok (.iconst 0, 1) := dX7_begin_28_z.1.1.2.2
theorem dX7_begin_34 : decode cX7_begin 34 = .ok (.istore_n 2, 1) := dX7_begin_28_z.1.2.1.1
theorem dX7_begin_35 : decode cX7_begin 35 = .ok (.iload_n 2, 1) := dX7_begin_28_z.1.2.1.2
theorem dX7_begin_36 : decode cX7_begin 36 = .ok (.aload_n 1, 1) := dX7_begin_28_z.1.2.2.1
theorem dX7_begin_37 : decode cX7_begin 37 = .ok (.getfield 46, 3) := dX7_begin_28_z.1.2.2.2
theorem dX7_begin_40 : decode cX7_begin 40 = .ok (.if_icmp .ge 21, 3) := dX7_begin_28_z.2.1.1.1
theorem dX7_begin_43 : decode cX7_begin 43 = .ok (.aload_n 0, 1) := dX7_begin_28_z.2.1.1.2
theorem dX7_begin_44 : decode cX7_begin 44 = .ok (.getfield 9, 3) := dX7_begin_28_z.2.1.2.1
theorem dX7_begin_47 : decode cX7_begin 47 = .ok (.iload_n 2, 1) := dX7_begin_28_z.2.1.2.2
theorem dX7_begin_48 : decode cX7_begin 48 = .ok (.aload_n 1, 1) := dX7_begin_28_z.2.2.1.1
theorem dX7_begin_49 : decode cX7_begin 49 = .ok (.iload_n 2, 1) := dX7_begin_28_z.2.2.1.2
theorem dX7_begin_50 : decode cX7_begin 50 = .ok (.iconst 3, 1) := dX7_begin_28_z.2.2.2.1
theorem dX7_begin_51 : decode cX7_begin 51 = .ok (.invokevirtual 49, 3) := dX7_begin_28_z.2.2.2.2
set_option maxRecDepth 100000 in
theorem dX7_begin_54_z : ((((decode cX7_begin 54 = .ok (.iastore, 1) ∧ decode cX7_begin 55 = .ok (.iinc 2 1, 3)) ∧ (decode cX7_begin 58 = .ok (.goto (-23), 3) ∧ decode cX7_begin 61 = .ok (.iconst 0, 1))) ∧ ((decode cX7_begin 62 = .ok (.istore_n 2, 1) ∧ decode cX7_begin 63 = .ok (.iload_n 2, 1)) ∧ (decode cX7_begin 64 = .ok (.aload_n 1, 1) ∧ decode cX7_begin 65 = .ok (.getfield 53, 3)))) ∧ (((decode cX7_begin 68 = .ok (.if_icmp .ge 21, 3) ∧ decode cX7_begin 71 = .ok (.aload_n 0, 1)) ∧ (decode cX7_begin 72 = .ok (.getfield 15, 3) ∧ decode cX7_begin 75 = .ok (.iload_n 2, 1))) ∧ ((decode cX7_begin 76 = .ok (.aload_n 1, 1) ∧ decode cX7_begin 77 = .ok (.iload_n 2, 1)) ∧ (decode cX7_begin 78 = .ok (.iconst 2, 1) ∧ decode cX7_begin 79 = .ok (.invokevirtual 56, 3))))) := by decide +kernel
theorem dX7_begin_54 : decode cX7_begin 54 = .ok (.iastore, 1) := dX7_begin_54_z.1.1.1.1
theorem dX7_begin_55 : decode cX7_begin 55 = .ok (.iinc 2 1, 3) := dX7_begin_54_z.1.1.1.2
theorem dX7_begin_58 : decode cX7_begin 58 = .ok (.goto (-23), 3) := dX7_begin_54_z.1.1.2.1
theorem dX7_begin_61 : decode cX7_begin 61 = .ok (.iconst 0, 1) := dX7_begin_54_z.1.1.2.2
theorem dX7_begin_62 : decode cX7_begin 62 = .ok (.istore_n 2, 1) := dX7_begin_54_z.1.2.1.1
theorem dX7_begin_63 : decode cX7_begin 63 = .ok (.iload_n 2, 1) := dX7_begin_54_z.1.2.1.2
theorem dX7_begin_64 : decode cX7_begin 64 = .ok (.aload_n 1, 1) := dX7_begin_54_z.1.2.2.1
theorem dX7_begin_65 : decode cX7_begin 65 = .ok (.getfield 53, 3) := dX7_begin_54_z.1.2.2.2
theorem dX7_begin_68 : decode cX7_begin 68 = .ok (.if_icmp .ge 21, 3) := dX7_begin_54_z.2.1.1.1
theorem dX7_begin_71 : decode cX7_begin 71 = .ok (.aload_n 0, 1) := dX7_begin_54_z.2.1.1.2
theorem dX7_begin_72 : decode cX7_begin 72 = .ok (.getfield 15, 3) := dX7_begin_54_z.2.1.2.1
theorem dX7_begin_75 : decode cX7_begin 75 = .ok (.iload_n 2, 1) := dX7_begin_54_z.2.1.2.2
theorem dX7_begin_76 : decode cX7_begin 76 = .ok (.aload_n 1, 1) := dX7_begin_54_z.2.2.1.1
theorem dX7_begin_77 : decode cX7_begin 77 = .ok (.iload_n 2, 1) := dX7_begin_54_z.2.2.1.2
theorem dX7_begin_78 : decode cX7_begin 78 = .ok (.iconst 2, 1) := dX7_begin_54_z.2.2.2.1
theorem dX7_begin_79 : decode cX7_begin 79 = .ok (.invokevirtual 56, 3) := dX7_begin_54_z.2.2.2.2
set_option maxRecDepth 100000 in
theorem dX7_begin_82_z : ((decode cX7_begin 82 = .ok (.iastore, 1) ∧ decode cX7_begin 83 = .ok (.iinc 2 1, 3)) ∧ (decode cX7_begin 86 = .ok (.goto (-23), 3) ∧ decode cX7_begin 89 = .ok (.return_, 1))) := by decide +kernel
theorem dX7_begin_82 : decode cX7_begin 82 = .ok (.iastore, 1) := dX7_begin_82_z.1.1
theorem dX7_begin_83 : decode cX7_begin 83 = .ok (.iinc 2 1, 3) := dX7_begin_82_z.1.2
theorem dX7_begin_86 : decode cX7_begin 86 = .ok (.goto (-23), 3) := dX7_begin_82_z.2.1
theorem dX7_begin_89 : decode cX7_begin 89 = .ok (.return_, 1) := dX7_begin_82_z.2.2
set_option maxRecDepth 100000 in
theorem dX7_become_0_z : ((((decode cX7_become 0 = .ok (.aload_n 1, 1) ∧ decode cX7_become 1 = .ok (.getfield 9, 3)) ∧ (decode cX7_become 4 = .ok (.iconst 0, 1) ∧ decode cX7_become 5 = .ok (.aload_n 0, 1))) ∧ ((decode cX7_become 6 = .ok (.getfield 9, 3) ∧ decode cX7_become 9 = .ok (.iconst 0, 1)) ∧ (decode cX7_become 10 = .ok (.aload_n 0, 1) ∧ decode cX7_become 11 = .ok (.getfield 9, 3)))) ∧ (((decode cX7_become 14 = .ok (.arraylength, 1) ∧ decode cX7_become 15 = .ok (.invokestatic 59, 3)) ∧ (decode cX7_become 18 = .ok (.aload_n 1, 1) ∧ decode cX7_become 19 = .ok (.getfield 15, 3))) ∧ ((decode cX7_become 22 = .ok (.iconst 0, 1) ∧ decode cX7_become 23 = .ok (.aload_n 0, 1)) ∧ (decode cX7_become 24 = .ok (.getfield 15, 3) ∧ decode cX7_become 27 = .ok (.iconst 0, 1))))) := by decide +kernel
theorem dX7_become_0 : decode cX7_become 0 = .ok (.aload_n 1, 1) := dX7_become_0_z.1.1.1.1
theorem dX7_become_1 : decode cX7_become 1 = .ok (.getfield 9, 3) := dX7_become_0_z.1.1.1.2
theorem dX7_become_4 : decode cX7_become 4 = .ok (.iconst 0, 1) := dX7_become_0_z.1.1.2.1
theorem dX7_become_5 : decode cX7_become 5 = .ok (.aload_n 0, 1) := dX7_become_0_z.1.1.2.2
theorem dX7_become_6 : decode cX7_become 6 = .ok (.getfield 9, 3) := dX7_become_0_z.1.2.1.1
theorem dX7_become_9 : decode cX7_become 9 = .ok (.iconst 0, 1) := dX7_become_0_z.1.2.1.2
theorem dX7_become_10 : decode cX7_become 10 = .ok (.aload_n 0, 1) := dX7_become_0_z.1.2.2.1
theorem dX7_become_11 : decode cX7_become 11 = .ok (.getfield 9, 3) := dX7_become_0_z.1.2.2.2
theorem dX7_become_14 : decode cX7_become 14 = .ok (.arraylength, 1) := dX7_become_0_z.2.1.1.1
theorem dX7_become_15 : decode cX7_become 15 = .ok (.invokestatic 59, 3) := dX7_become_0_z.2.1.1.2
theorem dX7_become_18 : decode cX7_become 18 = .ok (.aload_n 1, 1) := dX7_become_0_z.2.1.2.1
theorem dX7_become_19 : decode cX7_become 19 = .ok (.getfield 15, 3) := dX7_become_0_z.2.1.2.2
theorem dX7_become_22 : decode cX7_become 22 = .ok (.iconst 0, 1) := dX7_become_0_z.2.2.1.1
theorem dX7_become_23 : decode cX7_become 23 = .ok (.aload_n 0, 1) := dX7_become_0_z.2.2.1.2
theorem dX7_become_24 : decode cX7_become 24 = .ok (.getfield 15, 3) := dX7_become_0_z.2.2.2.1
theorem dX7_become_27 : decode cX7_become 27 = .ok (.iconst 0, 1) := dX7_become_0_z.2.2.2.2
set_option maxRecDepth 100000 in
theorem dX7_become_28_z : ((((decode cX7_become 28 = .ok (.aload_n 0, 1) ∧ decode cX7_become 29 = .ok (.getfield 15, 3)) ∧ (decode cX7_become 32 = .ok (.arraylength, 1) ∧ decode cX7_become 33 = .ok (.invokestatic 59, 3))) ∧ ((decode cX7_become 36 = .ok (.aload_n 1, 1) ∧ decode cX7_become 37 = .ok (.getfield 18, 3)) ∧ (decode cX7_become 40 = .ok (.iconst 0, 1) ∧ decode cX7_become 41 = .ok (.aload_n 0, 1)))) ∧ (((decode cX7_become 42 = .ok (.getfield 18, 3) ∧ decode cX7_become 45 = .ok (.iconst 0, 1)) ∧ (decode cX7_become 46 = .ok (.aload_n 0, 1) ∧ decode cX7_become 47 = .ok (.getfield 18, 3))) ∧ ((decode cX7_become 50 = .ok (.arraylength, 1) ∧ decode cX7_become 51 = .ok (.invokestatic 59, 3)) ∧ (decode cX7_become 54 = .ok (.aload_n 0, 1) ∧ decode cX7_become 55 = .ok (.aload_n 1, 1))))) := by decide +kernel
theorem dX7_become_28 : decode cX7_become 28 = .ok (.aload_n 0, 1) := dX7_become_28_z.1.1.1.1
theorem dX7_become_29 : decode cX7_become 29 = .ok (.getfield 15, 3) := dX7_become_28_z.1.1.1.2
theorem dX7_become_32 : decode cX7_become 32 = .ok (.arraylength, 1) := dX7_become_28_z.1.1.2.1
theorem dX7_become_33 : decode cX7_become 33 = .ok (.invokestatic 59, 3) := dX7_become_28_z.1.1.2.2
theorem dX7_become_36 : decode cX7_become 36 = .ok (.aload_n 1, 1) := dX7_become_28_z.1.2.1.1
theorem dX7_become_37 : decode cX7_become 37 = .ok (.getfield 18, 3) := dX7_become_28_z.1.2.1.2
theorem dX7_become_40 : decode cX7_become 40 = .ok (.iconst 0, 1) := dX7_become_28_z.1.2.2.1
theorem dX7_become_41 : decode cX7_become 41 = .ok (.aload_n 0, 1) := dX7_become_28_z.1.2.2.2
theorem dX7_become_42 : decode cX7_become 42 = .ok (.getfield 18, 3) := dX7_become_28_z.2.1.1.1
theorem dX7_become_45 : decode cX7_become 45 = .ok (.iconst 0, 1) := dX7_become_28_z.2.1.1.2
theorem dX7_become_46 : decode cX7_become 46 = .ok (.aload_n 0, 1) := dX7_become_28_z.2.1.2.1
theorem dX7_become_47 : decode cX7_become 47 = .ok (.getfield 18, 3) := dX7_become_28_z.2.1.2.2
theorem dX7_become_50 : decode cX7_become 50 = .ok (.arraylength, 1) := dX7_become_28_z.2.2.1.1
theorem dX7_become_51 : decode cX7_become 51 = .ok (.invokestatic 59, 3) := dX7_become_28_z.2.2.1.2
theorem dX7_become_54 : decode cX7_become 54 = .ok (.aload_n 0, 1) := dX7_become_28_z.2.2.2.1
theorem dX7_become_55 : decode cX7_become 55 = .ok (.aload_n 1, 1) := dX7_become_28_z.2.2.2.2
set_option maxRecDepth 100000 in
theorem dX7_become_56_z : ((((decode cX7_become 56 = .ok (.getfield 25, 3) ∧ decode cX7_become 59 = .ok (.putfield 25, 3)) ∧ (decode cX7_become 62 = .ok (.aload_n 0, 1) ∧ decode cX7_become 63 = .ok (.aload_n 1, 1))) ∧ ((decode cX7_become 64 = .ok (.getfield 28, 3) ∧ decode cX7_become 67 = .ok (.putfield 28, 3)) ∧ (decode cX7_become 70 = .ok (.aload_n 0, 1) ∧ decode cX7_become 71 = .ok (.aload_n 1, 1)))) ∧ (((decode cX7_become 72 = .ok (.getfield 31, 3) ∧ decode cX7_become 75 = .ok (.putfield 31, 3)) ∧ (decode cX7_become 78 = .ok (.aload_n 0, 1) ∧ decode cX7_become 79 = .ok (.aload_n 1, 1))) ∧ ((decode cX7_become 80 = .ok (.getfield 21, 3) ∧ decode cX7_become 83 = .ok (.putfield 21, 3)) ∧ (decode cX7_become 86 = .ok (.aload_n 0, 1) ∧ decode cX7_become 87 = .ok (.aload_n 1, 1))))) := by decide +kernel
theorem dX7_become_56 : decode cX7_become 56 = .ok (.getfield 25, 3) := dX7_become_56_z.1.1.1.1
theorem dX7_become_59 : decode cX7_become 59 = .ok (.putfield 25, 3) := dX7_become_56_z.1.1.1.2
theorem dX7_become_62 : decode cX7_become 62 = .ok (.aload_n 0, 1) := dX7_become_56_z.1.1.2.1
theorem dX7_become_63 : decode cX7_become 63 = .ok (.aload_n 1, 1) := dX7_become_56_z.1.1.2.2
theorem dX7_become_64 : decode cX7_become 64 = .ok (.getfield 28, 3) := dX7_become_56_z.1.2.1.1
theorem dX7_become_67 : decode cX7_become 67 = .ok (.putfield 28, 3) := dX7_become_56_z.1.2.1.2
theorem dX7_become_70 : decode cX7_become 70 = .ok (.aload_n 0, 1) := dX7_become_56_z.1.2.2.1
theorem dX7_become_71 : decode cX7_become 71 = .ok (.aload_n 1, 1) := dX7_become_56_z.1.2.2.2
theorem dX7_become_72 : decode cX7_become 72 = .ok (.getfield 31, 3) := dX7_become_56_z.2.1.1.1
theorem dX7_become_75 : decode cX7_become 75 = .ok (.putfield 31, 3) := dX7_become_56_z.2.1.1.2
theorem dX7_become_78 : decode cX7_become 78 = .ok (.aload_n 0, 1) := dX7_become_56_z.2.1.2.1
theorem dX7_become_79 : decode cX7_become 79 = .ok (.aload_n 1, 1) := dX7_become_56_z.2.1.2.2
theorem dX7_become_80 : decode cX7_become 80 = .ok (.getfield 21, 3) := dX7_become_56_z.2.2.1.1
theorem dX7_become_83 : decode cX7_become 83 = .ok (.putfield 21, 3) := dX7_become_56_z.2.2.1.2
theorem dX7_become_86 : decode cX7_become 86 = .ok (.aload_n 0, 1) := dX7_become_56_z.2.2.2.1
theorem dX7_become_87 : decode cX7_become 87 = .ok (.aload_n 1, 1) := dX7_become_56_z.2.2.2.2
set_option maxRecDepth 100000 in
theorem dX7_become_88_z : (((decode cX7_become 88 = .ok (.getfield 40, 3) ∧ decode cX7_become 91 = .ok (.putfield 40, 3)) ∧ (decode cX7_become 94 = .ok (.aload_n 0, 1) ∧ decode cX7_become 95 = .ok (.aload_n 1, 1))) ∧ ((decode cX7_become 96 = .ok (.getfield 43, 3) ∧ decode cX7_become 99 = .ok (.putfield 43, 3)) ∧ decode cX7_become 102 = .ok (.return_, 1))) := by decide +kernel
theorem dX7_become_88 : decode cX7_become 88 = .ok (.getfield 40, 3) := dX7_become_88_z.1.1.1
theorem dX7_become_91 : decode cX7_become 91 = .ok (.putfield 40, 3) := dX7_become_88_z.1.1.2
theorem dX7_become_94 : decode cX7_become 94 = .ok (.aload_n 0, 1) := dX7_become_88_z.1.2.1
theorem dX7_become_95 : decode cX7_become 95 = .ok (.aload_n 1, 1) := dX7_become_88_z.1.2.2
theorem dX7_become_96 : decode cX7_become 96 = .ok (.getfield 43, 3) := dX7_become_88_z.2.1.1
theorem dX7_become_99 : decode cX7_become 99 = .ok (.putfield 43, 3) := dX7_become_88_z.2.1.2
theorem dX7_become_102 : decode cX7_become 102 = .ok (.return_, 1) := dX7_become_88_z.2.2
set_option maxRecDepth 100000 in
theorem dX7_writeRow_0_z : ((((decode cX7_writeRow 0 = .ok (.aload_n 0, 1) ∧ decode cX7_writeRow 1 = .ok (.getfield 9, 3)) ∧ (decode cX7_writeRow 4 = .ok (.iconst 0, 1) ∧ decode cX7_writeRow 5 = .ok (.aload_n 1, 1))) ∧ ((decode cX7_writeRow 6 = .ok (.iload_n 2, 1) ∧ decode cX7_writeRow 7 = .ok (.bipush 6, 2)) ∧ (decode cX7_writeRow 9 = .ok (.invokestatic 59, 3) ∧ decode cX7_writeRow 12 = .ok (.aload_n 0, 1)))) ∧ (((decode cX7_writeRow 13 = .ok (.getfield 15, 3) ∧ decode cX7_writeRow 16 = .ok (.iconst 0, 1)) ∧ (decode cX7_writeRow 17 = .ok (.aload_n 1, 1) ∧ decode cX7_writeRow 18 = .ok (.iload_n 2, 1))) ∧ ((decode cX7_writeRow 19 = .ok (.bipush 6, 2) ∧ decode cX7_writeRow 21 = .ok (.iadd, 1)) ∧ (decode cX7_writeRow 22 = .ok (.iconst 5, 1) ∧ decode cX7_writeRow 23 = .ok (.invokestatic 59, 3))))) := by decide +kernel
theorem dX7_writeRow_0 : decode cX7_writeRow 0 = .ok (.aload_n 0, 1) := dX7_writeRow_0_z.1.1.1.1
theorem dX7_writeRow_1 : decode cX7_writeRow 1 = .ok (.getfield 9, 3) := dX7_writeRow_0_z.1.1.1.2
theorem dX7_writeRow_4 : decode cX7_writeRow 4 = .ok (.iconst 0, 1) := dX7_writeRow_0_z.1.1.2.1
theorem dX7_writeRow_5 : decode cX7_writeRow 5 = .ok (.aload_n 1, 1) := dX7_writeRow_0_z.1.1.2.2
theorem dX7_writeRow_6 : decode cX7_writeRow 6 = .ok (.iload_n 2, 1) := dX7_writeRow_0_z.1.2.1.1
theorem dX7_writeRow_7 : decode cX7_writeRow 7 = .ok (.bipush 6, 2) := dX7_writeRow_0_z.1.2.1.2
theorem dX7_writeRow_9 : decode cX7_writeRow 9 = .ok (.invokestatic 59, 3) := dX7_writeRow_0_z.1.2.2.1
theorem dX7_writeRow_12 : decode cX7_writeRow 12 = .ok (.aload_n 0, 1) := dX7_writeRow_0_z.1.2.2.2
theorem dX7_writeRow_13 : decode cX7_writeRow 13 = .ok (.getfield 15, 3) := dX7_writeRow_0_z.2.1.1.1
theorem dX7_writeRow_16 : decode cX7_writeRow 16 = .ok (.iconst 0, 1) := dX7_writeRow_0_z.2.1.1.2
theorem dX7_writeRow_17 : decode cX7_writeRow 17 = .ok (.aload_n 1, 1) := dX7_writeRow_0_z.2.1.2.1
theorem dX7_writeRow_18 : decode cX7_writeRow 18 = .ok (.iload_n 2, 1) := dX7_writeRow_0_z.2.1.2.2
theorem dX7_writeRow_19 : decode cX7_writeRow 19 = .ok (.bipush 6, 2) := dX7_writeRow_0_z.2.2.1.1
theorem dX7_writeRow_21 : decode cX7_writeRow 21 = .ok (.iadd, 1) := dX7_writeRow_0_z.2.2.1.2
theorem dX7_writeRow_22 : decode cX7_writeRow 22 = .ok (.iconst 5, 1) := dX7_writeRow_0_z.2.2.2.1
theorem dX7_writeRow_23 : decode cX7_writeRow 23 = .ok (.invokestatic 59, 3) := dX7_writeRow_0_z.2.2.2.2
set_option maxRecDepth 100000 in
theorem dX7_writeRow_26_z : ((((decode cX7_writeRow 26 = .ok (.iload_n 2, 1) ∧ decode cX7_writeRow 27 = .ok (.bipush 6, 2)) ∧ (decode cX7_writeRow 29 = .ok (.iadd, 1) ∧ decode cX7_writeRow 30 = .ok (.iconst 5, 1))) ∧ ((decode cX7_writeRow 31 = .ok (.iadd, 1) ∧ decode cX7_writeRow 32 = .ok (.istore_n 3, 1)) ∧ (decode cX7_writeRow 33 = .ok (.aload_n 1, 1) ∧ decode cX7_writeRow 34 = .ok (.iload_n 3, 1)))) ∧ (((decode cX7_writeRow 35 = .ok (.aload_n 0, 1) ∧ decode cX7_writeRow 36 = .ok (.getfield 25, 3)) ∧ (decode cX7_writeRow 39 = .ok (.iastore, 1) ∧ decode cX7_writeRow 40 = .ok (.aload_n 1, 1))) ∧ ((decode cX7_writeRow 41 = .ok (.iload_n 3, 1) ∧ decode cX7_writeRow 42 = .ok (.iconst 1, 1)) ∧ (decode cX7_writeRow 43 = .ok (.iadd, 1) ∧ decode cX7_writeRow 44 = .ok (.aload_n 0, 1))))) := by decide +kernel
theorem dX7_writeRow_26 : decode cX7_writeRow 26 = .ok (.iload_n 2, 1) := dX7_writeRow_26_z.1.1.1.1
theorem dX7_writeRow_27 : decode cX7_writeRow 27 = .ok (.bipush 6, 2) := dX7_writeRow_26_z.1.1.1.2
theorem dX7_writeRow_29 : decode cX7_writeRow 29 = .ok (.iadd, 1) := dX7_writeRow_26_z.1.1.2.1
theorem dX7_writeRow_30 : decode cX7_writeRow 30 = .ok (.iconst 5, 1) := dX7_writeRow_26_z.1.1.2.2
theorem dX7_writeRow_31 : decode cX7_writeRow 31 = .ok (.iadd, 1) := dX7_writeRow_26_z.1.2.1.1
theorem dX7_writeRow_32 : decode cX7_writeRow 32 = .ok (.istore_n 3, 1) := dX7_writeRow_26_z.1.2.1.2
theorem dX7_writeRow_33 : decode cX7_writeRow 33 = .ok (.aload_n 1, 1) := dX7_writeRow_26_z.1.2.2.1
theorem dX7_writeRow_34 : decode cX7_writeRow 34 = .ok (.iload_n 3, 1) := dX7_writeRow_26_z.1.2.2.2
theorem dX7_writeRow_35 : decode cX7_writeRow 35 = .ok (.aload_n 0, 1) := dX7_writeRow_26_z.2.1.1.1
theorem dX7_writeRow_36 : decode cX7_writeRow 36 = .ok (.getfield 25, 3) := dX7_writeRow_26_z.2.1.1.2
theorem dX7_writeRow_39 : decode cX7_writeRow 39 = .ok (.iastore, 1) := dX7_writeRow_26_z.2.1.2.1
theorem dX7_writeRow_40 : decode cX7_writeRow 40 = .ok (.aload_n 1, 1) := dX7_writeRow_26_z.2.1.2.2
theorem dX7_writeRow_41 : decode cX7_writeRow 41 = .ok (.iload_n 3, 1) := dX7_writeRow_26_z.2.2.1.1
theorem dX7_writeRow_42 : decode cX7_writeRow 42 = .ok (.iconst 1, 1) := dX7_writeRow_26_z.2.2.1.2
theorem dX7_writeRow_43 : decode cX7_writeRow 43 = .ok (.iadd, 1) := dX7_writeRow_26_z.2.2.2.1
theorem dX7_writeRow_44 : decode cX7_writeRow 44 = .ok (.aload_n 0, 1) := dX7_writeRow_26_z.2.2.2.2
set_option maxRecDepth 100000 in
theorem dX7_writeRow_45_z : ((((decode cX7_writeRow 45 = .ok (.getfield 28, 3) ∧ decode cX7_writeRow 48 = .ok (.iastore, 1)) ∧ (decode cX7_writeRow 49 = .ok (.aload_n 1, 1) ∧ decode cX7_writeRow 50 = .ok (.iload_n 3, 1))) ∧ ((decode cX7_writeRow 51 = .ok (.iconst 2, 1) ∧ decode cX7_writeRow 52 = .ok (.iadd, 1)) ∧ (decode cX7_writeRow 53 = .ok (.aload_n 0, 1) ∧ decode cX7_writeRow 54 = .ok (.getfield 31, 3)))) ∧ (((decode cX7_writeRow 57 = .ok (.iastore, 1) ∧ decode cX7_writeRow 58 = .ok (.aload_n 1, 1)) ∧ (decode cX7_writeRow 59 = .ok (.iload_n 3, 1) ∧ decode cX7_writeRow 60 = .ok (.iconst 3, 1))) ∧ ((decode cX7_writeRow 61 = .ok (.iadd, 1) ∧ decode cX7_writeRow 62 = .ok (.aload_n 0, 1)) ∧ (decode cX7_writeRow 63 = .ok (.getfield 21, 3) ∧ decode cX7_writeRow 66 = .ok (.iastore, 1))))) := by decide +kernel
theorem dX7_writeRow_45 : decode cX7_writeRow 45 = .ok (.getfield 28, 3) := dX7_writeRow_45_z.1.1.1.1
theorem dX7_writeRow_48 : decode cX7_writeRow 48 = .ok (.iastore, 1) := dX7_writeRow_45_z.1.1.1.2
theorem dX7_writeRow_49 : decode cX7_writeRow 49 = .ok (.aload_n 1, 1) := dX7_writeRow_45_z.1.1.2.1
theorem dX7_writeRow_50 : decode cX7_writeRow 50 = .ok (.iload_n 3, 1) := dX7_writeRow_45_z.1.1.2.2
theorem dX7_writeRow_51 : decode cX7_writeRow 51 = .ok (.iconst 2, 1) := dX7_writeRow_45_z.1.2.1.1
theorem dX7_writeRow_52 : decode cX7_writeRow 52 = .ok (.iadd, 1) := dX7_writeRow_45_z.1.2.1.2
theorem dX7_writeRow_53 : decode cX7_writeRow 53 = .ok (.aload_n 0, 1) := dX7_writeRow_45_z.1.2.2.1
theorem dX7_writeRow_54 : decode cX7_writeRow 54 = .ok (.getfield 31, 3) := dX7_writeRow_45_z.1.2.2.2
theorem dX7_writeRow_57 : decode cX7_writeRow 57 = .ok (.iastore, 1) := dX7_writeRow_45_z.2.1.1.1
theorem dX7_writeRow_58 : decode cX7_writeRow 58 = .ok (.aload_n 1, 1) := dX7_writeRow_45_z.2.1.1.2
theorem dX7_writeRow_59 : decode cX7_writeRow 59 = .ok (.iload_n 3, 1) := dX7_writeRow_45_z.2.1.2.1
theorem dX7_writeRow_60 : decode cX7_writeRow 60 = .ok (.iconst 3, 1) := dX7_writeRow_45_z.2.1.2.2
theorem dX7_writeRow_61 : decode cX7_writeRow 61 = .ok (.iadd, 1) := dX7_writeRow_45_z.2.2.1.1
theorem dX7_writeRow_62 : decode cX7_writeRow 62 = .ok (.aload_n 0, 1) := dX7_writeRow_45_z.2.2.1.2
theorem dX7_writeRow_63 : decode cX7_writeRow 63 = .ok (.getfield 21, 3) := dX7_writeRow_45_z.2.2.2.1
theorem dX7_writeRow_66 : decode cX7_writeRow 66 = .ok (.iastore, 1) := dX7_writeRow_45_z.2.2.2.2
set_option maxRecDepth 100000 in
theorem dX7_writeRow_67_z : ((((decode cX7_writeRow 67 = .ok (.aload_n 1, 1) ∧ decode cX7_writeRow 68 = .ok (.iload_n 3, 1)) ∧ (decode cX7_writeRow 69 = .ok (.iconst 4, 1) ∧ decode cX7_writeRow 70 = .ok (.iadd, 1))) ∧ ((decode cX7_writeRow 71 = .ok (.aload_n 0, 1) ∧ decode cX7_writeRow 72 = .ok (.getfield 40, 3)) ∧ (decode cX7_writeRow 75 = .ok (.iastore, 1) ∧ decode cX7_writeRow 76 = .ok (.aload_n 1, 1)))) ∧ (((decode cX7_writeRow 77 = .ok (.iload_n 3, 1) ∧ decode cX7_writeRow 78 = .ok (.iconst 5, 1)) ∧ (decode cX7_writeRow 79 = .ok (.iadd, 1) ∧ decode cX7_writeRow 80 = .ok (.aload_n 0, 1))) ∧ ((decode cX7_writeRow 81 = .ok (.getfield 43, 3) ∧ decode cX7_writeRow 84 = .ok (.iastore, 1)) ∧ decode cX7_writeRow 85 = .ok (.return_, 1)))) := by decide +kernel
theorem dX7_writeRow_67 : decode cX7_writeRow 67 = .ok (.aload_n 1, 1) := dX7_writeRow_67_z.1.1.1.1
theorem dX7_writeRow_68 : decode cX7_writeRow 68 = .ok (.iload_n 3, 1) := dX7_writeRow_67_z.1.1.1.2
theorem dX7_writeRow_69 : decode cX7_writeRow 69 = .ok (.iconst 4, 1) := dX7_writeRow_67_z.1.1.2.1
theorem dX7_writeRow_70 : decode cX7_writeRow 70 = .ok (.iadd, 1) := dX7_writeRow_67_z.1.1.2.2
theorem dX7_writeRow_71 : decode cX7_writeRow 71 = .ok (.aload_n 0, 1) := dX7_writeRow_67_z.1.2.1.1
theorem dX7_writeRow_72 : decode cX7_writeRow 72 = .ok (.getfield 40, 3) := dX7_writeRow_67_z.1.2.1.2
theorem dX7_writeRow_75 : decode cX7_writeRow 75 = .ok (.iastore, 1) := dX7_writeRow_67_z.1.2.2.1
theorem dX7_writeRow_76 : decode cX7_writeRow 76 = .ok (.aload_n 1, 1) := dX7_writeRow_67_z.1.2.2.2
theorem dX7_writeRow_77 : decode cX7_writeRow 77 = .ok (.iload_n 3, 1) := dX7_writeRow_67_z.2.1.1.1
theorem dX7_writeRow_78 : decode cX7_writeRow 78 = .ok (.iconst 5, 1) := dX7_writeRow_67_z.2.1.1.2
theorem dX7_writeRow_79 : decode cX7_writeRow 79 = .ok (.iadd, 1) := dX7_writeRow_67_z.2.1.2.1
theorem dX7_writeRow_80 : decode cX7_writeRow 80 = .ok (.aload_n 0, 1) := dX7_writeRow_67_z.2.1.2.2
theorem dX7_writeRow_81 : decode cX7_writeRow 81 = .ok (.getfield 43, 3) := dX7_writeRow_67_z.2.2.1.1
theorem dX7_writeRow_84 : decode cX7_writeRow 84 = .ok (.iastore, 1) := dX7_writeRow_67_z.2.2.1.2
theorem dX7_writeRow_85 : decode cX7_writeRow 85 = .ok (.return_, 1) := dX7_writeRow_67_z.2.2.2
set_option maxRecDepth 100000 in
theorem dX7_readRow_0_z : ((((decode cX7_readRow 0 = .ok (.aload_n 1, 1) ∧ decode cX7_readRow 1 = .ok (.iload_n 2, 1)) ∧ (decode cX7_readRow 2 = .ok (.aload_n 0, 1) ∧ decode cX7_readRow 3 = .ok (.getfield 9, 3))) ∧ ((decode cX7_readRow 6 = .ok (.iconst 0, 1) ∧ decode cX7_readRow 7 = .ok (.bipush 6, 2)) ∧ (decode cX7_readRow 9 = .ok (.invokestatic 59, 3) ∧ decode cX7_readRow 12 = .ok (.aload_n 1, 1)))) ∧ (((decode cX7_readRow 13 = .ok (.iload_n 2, 1) ∧ decode cX7_readRow 14 = .ok (.bipush 6, 2)) ∧ (decode cX7_readRow 16 = .ok (.iadd, 1) ∧ decode cX7_readRow 17 = .ok (.aload_n 0, 1))) ∧ ((decode cX7_readRow 18 = .ok (.getfield 15, 3) ∧ decode cX7_readRow 21 = .ok (.iconst 0, 1)) ∧ (decode cX7_readRow 22 = .ok (.iconst 5, 1) ∧ decode cX7_readRow 23 = .ok (.invokestatic 59, 3))))) := by decide +kernel
theorem dX7_readRow_0 : decode cX7_readRow 0 = .ok (.aload_n 1, 1) := dX7_readRow_0_z.1.1.1.1
theorem dX7_readRow_1 : decode cX7_readRow 1 = .ok (.iload_n 2, 1) := dX7_readRow_0_z.1.1.1.2
theorem dX7_readRow_2 : decode cX7_readRow 2 = .ok (.aload_n 0, 1) := dX7_readRow_0_z.1.1.2.1
theorem dX7_readRow_3 : decode cX7_readRow 3 = .ok (.getfield 9, 3) := dX7_readRow_0_z.1.1.2.2
theorem dX7_readRow_6 : decode cX7_readRow 6 = .ok (.iconst 0, 1) := dX7_readRow_0_z.1.2.1.1
theorem dX7_readRow_7 : decode cX7_readRow 7 = .ok (.bipush 6, 2) := dX7_readRow_0_z.1.2.1.2
theorem dX7_readRow_9 : decode cX7_readRow 9 = .ok (.invokestatic 59, 3) := dX7_readRow_0_z.1.2.2.1
theorem dX7_readRow_12 : decode cX7_readRow 12 = .ok (.aload_n 1, 1) := dX7_readRow_0_z.1.2.2.2
theorem dX7_readRow_13 : decode cX7_readRow 13 = .ok (.iload_n 2, 1) := dX7_readRow_0_z.2.1.1.1
theorem dX7_readRow_14 : decode cX7_readRow 14 = .ok (.bipush 6, 2) := dX7_readRow_0_z.2.1.1.2
theorem dX7_readRow_16 : decode cX7_readRow 16 = .ok (.iadd, 1) := dX7_readRow_0_z.2.1.2.1
theorem dX7_readRow_17 : decode cX7_readRow 17 = .ok (.aload_n 0, 1) := dX7_readRow_0_z.2.1.2.2
theorem dX7_readRow_18 : decode cX7_readRow 18 = .ok (.getfield 15, 3) := dX7_readRow_0_z.2.2.1.1
theorem dX7_readRow_21 : decode cX7_readRow 21 = .ok (.iconst 0, 1) := dX7_readRow_0_z.2.2.1.2
theorem dX7_readRow_22 : decode cX7_readRow 22 = .ok (.iconst 5, 1) := dX7_readRow_0_z.2.2.2.1
theorem dX7_readRow_23 : decode cX7_readRow 23 = .ok (.invokestatic 59, 3) := dX7_readRow_0_z.2.2.2.2
set_option maxRecDepth 100000 in
theorem dX7_readRow_26_z : ((((decode cX7_readRow 26 = .ok (.iload_n 2, 1) ∧ decode cX7_readRow 27 = .ok (.bipush 6, 2)) ∧ (decode cX7_readRow 29 = .ok (.iadd, 1) ∧ decode cX7_readRow 30 = .ok (.iconst 5, 1))) ∧ ((decode cX7_readRow 31 = .ok (.iadd, 1) ∧ decode cX7_readRow 32 = .ok (.istore_n 3, 1)) ∧ (decode cX7_readRow 33 = .ok (.aload_n 0, 1) ∧ decode cX7_readRow 34 = .ok (.aload_n 1, 1)))) ∧ (((decode cX7_readRow 35 = .ok (.iload_n 3, 1) ∧ decode cX7_readRow 36 = .ok (.iaload, 1)) ∧ (decode cX7_readRow 37 = .ok (.putfield 25, 3) ∧ decode cX7_readRow 40 = .ok (.aload_n 0, 1))) ∧ ((decode cX7_readRow 41 = .ok (.aload_n 1, 1) ∧ decode cX7_readRow 42 = .ok (.iload_n 3, 1)) ∧ (decode cX7_readRow 43 = .ok (.iconst 1, 1) ∧ decode cX7_readRow 44 = .ok (.iadd, 1))))) := by decide +kernel
theorem dX7_readRow_26 : decode cX7_readRow 26 = .ok (.iload_n 2, 1) := dX7_readRow_26_z.1.1.1.1
theorem dX7_readRow_27 : decode cX7_readRow 27 = .ok (.bipush 6, 2) := dX7_readRow_26_z.1.1.1.2
theorem dX7_readRow_29 : decode cX7_readRow 29 = .ok (.iadd, 1) := dX7_readRow_26_z.1.1.2.1
theorem dX7_readRow_30 : decode cX7_readRow 30 = .ok (.iconst 5, 1) := dX7_readRow_26_z.1.1.2.2
theorem dX7_readRow_31 : decode cX7_readRow 31 = .ok (.iadd, 1) := dX7_readRow_26_z.1.2.1.1
theorem dX7_readRow_32 : decode cX7_readRow 32 = .ok (.istore_n 3, 1) := dX7_readRow_26_z.1.2.1.2
theorem dX7_readRow_33 : decode cX7_readRow 33 = .ok (.aload_n 0, 1) := dX7_readRow_26_z.1.2.2.1
theorem dX7_readRow_34 : decode cX7_readRow 34 = .ok (.aload_n 1, 1) := dX7_readRow_26_z.1.2.2.2
theorem dX7_readRow_35 : decode cX7_readRow 35 = .ok (.iload_n 3, 1) := dX7_readRow_26_z.2.1.1.1
theorem dX7_readRow_36 : decode cX7_readRow 36 = .ok (.iaload, 1) := dX7_readRow_26_z.2.1.1.2
theorem dX7_readRow_37 : decode cX7_readRow 37 = .ok (.putfield 25, 3) := dX7_readRow_26_z.2.1.2.1
theorem dX7_readRow_40 : decode cX7_readRow 40 = .ok (.aload_n 0, 1) := dX7_readRow_26_z.2.1.2.2
theorem dX7_readRow_41 : decode cX7_readRow 41 = .ok (.aload_n 1, 1) := dX7_readRow_26_z.2.2.1.1
theorem dX7_readRow_42 : decode cX7_readRow 42 = .ok (.iload_n 3, 1) := dX7_readRow_26_z.2.2.1.2
theorem dX7_readRow_43 : decode cX7_readRow 43 = .ok (.iconst 1, 1) := dX7_readRow_26_z.2.2.2.1
theorem dX7_readRow_44 : decode cX7_readRow 44 = .ok (.iadd, 1) := dX7_readRow_26_z.2.2.2.2
set_option maxRecDepth 100000 in
theorem dX7_readRow_45_z : ((((decode cX7_readRow 45 = .ok (.iaload, 1) ∧ decode cX7_readRow 46 = .ok (.putfield 28, 3)) ∧ (decode cX7_readRow 49 = .ok (.aload_n 0, 1) ∧ decode cX7_readRow 50 = .ok (.aload_n 1, 1))) ∧ ((decode cX7_readRow 51 = .ok (.iload_n 3, 1) ∧ decode cX7_readRow 52 = .ok (.iconst 2, 1)) ∧ (decode cX7_readRow 53 = .ok (.iadd, 1) ∧ decode cX7_readRow 54 = .ok (.iaload, 1)))) ∧ (((decode cX7_readRow 55 = .ok (.putfield 31, 3) ∧ decode cX7_readRow 58 = .ok (.aload_n 0, 1)) ∧ (decode cX7_readRow 59 = .ok (.aload_n 1, 1) ∧ decode cX7_readRow 60 = .ok (.iload_n 3, 1))) ∧ ((decode cX7_readRow 61 = .ok (.iconst 3, 1) ∧ decode cX7_readRow 62 = .ok (.iadd, 1)) ∧ (decode cX7_readRow 63 = .ok (.iaload, 1) ∧ decode cX7_readRow 64 = .ok (.putfield 21, 3))))) := by decide +kernel
theorem dX7_readRow_45 : decode cX7_readRow 45 = .ok (.iaload, 1) := dX7_readRow_45_z.1.1.1.1
theorem dX7_readRow_46 : decode cX7_readRow 46 = .ok (.putfield 28, 3) := dX7_readRow_45_z.1.1.1.2
theorem dX7_readRow_49 : decode cX7_readRow 49 = .ok (.aload_n 0, 1) := dX7_readRow_45_z.1.1.2.1
theorem dX7_readRow_50 : decode cX7_readRow 50 = .ok (.aload_n 1, 1) := dX7_readRow_45_z.1.1.2.2
theorem dX7_readRow_51 : decode cX7_readRow 51 = .ok (.iload_n 3, 1) := dX7_readRow_45_z.1.2.1.1
theorem dX7_readRow_52 : decode cX7_readRow 52 = .ok (.iconst 2, 1) := dX7_readRow_45_z.1.2.1.2
theorem dX7_readRow_53 : decode cX7_readRow 53 = .ok (.iadd, 1) := dX7_readRow_45_z.1.2.2.1
theorem dX7_readRow_54 : decode cX7_readRow 54 = .ok (.iaload, 1) := dX7_readRow_45_z.1.2.2.2
theorem dX7_readRow_55 : decode cX7_readRow 55 = .ok (.putfield 31, 3) := dX7_readRow_45_z.2.1.1.1
theorem dX7_readRow_58 : decode cX7_readRow 58 = .ok (.aload_n 0, 1) := dX7_readRow_45_z.2.1.1.2
theorem dX7_readRow_59 : decode cX7_readRow 59 = .ok (.aload_n 1, 1) := dX7_readRow_45_z.2.1.2.1
theorem dX7_readRow_60 : decode cX7_readRow 60 = .ok (.iload_n 3, 1) := dX7_readRow_45_z.2.1.2.2
theorem dX7_readRow_61 : decode cX7_readRow 61 = .ok (.iconst 3, 1) := dX7_readRow_45_z.2.2.1.1
theorem dX7_readRow_62 : decode cX7_readRow 62 = .ok (.iadd, 1) := dX7_readRow_45_z.2.2.1.2
theorem dX7_readRow_63 : decode cX7_readRow 63 = .ok (.iaload, 1) := dX7_readRow_45_z.2.2.2.1
theorem dX7_readRow_64 : decode cX7_readRow 64 = .ok (.putfield 21, 3) := dX7_readRow_45_z.2.2.2.2
set_option maxRecDepth 100000 in
theorem dX7_readRow_67_z : ((((decode cX7_readRow 67 = .ok (.aload_n 0, 1) ∧ decode cX7_readRow 68 = .ok (.aload_n 1, 1)) ∧ (decode cX7_readRow 69 = .ok (.iload_n 3, 1) ∧ decode cX7_readRow 70 = .ok (.iconst 4, 1))) ∧ ((decode cX7_readRow 71 = .ok (.iadd, 1) ∧ decode cX7_readRow 72 = .ok (.iaload, 1)) ∧ (decode cX7_readRow 73 = .ok (.putfield 40, 3) ∧ decode cX7_readRow 76 = .ok (.aload_n 0, 1)))) ∧ (((decode cX7_readRow 77 = .ok (.aload_n 1, 1) ∧ decode cX7_readRow 78 = .ok (.iload_n 3, 1)) ∧ (decode cX7_readRow 79 = .ok (.iconst 5, 1) ∧ decode cX7_readRow 80 = .ok (.iadd, 1))) ∧ ((decode cX7_readRow 81 = .ok (.iaload, 1) ∧ decode cX7_readRow 82 = .ok (.putfield 43, 3)) ∧ decode cX7_readRow 85 = .ok (.return_, 1)))) := by decide +kernel
theorem dX7_readRow_67 : decode cX7_readRow 67 = .ok (.aload_n 0, 1) := dX7_readRow_67_z.1.1.1.1
theorem dX7_readRow_68 : decode cX7_readRow 68 = .ok (.aload_n 1, 1) := dX7_readRow_67_z.1.1.1.2
theorem dX7_readRow_69 : decode cX7_readRow 69 = .ok (.iload_n 3, 1) := dX7_readRow_67_z.1.1.2.1
theorem dX7_readRow_70 : decode cX7_readRow 70 = .ok (.iconst 4, 1) := dX7_readRow_67_z.1.1.2.2
theorem dX7_readRow_71 : decode cX7_readRow 71 = .ok (.iadd, 1) := dX7_readRow_67_z.1.2.1.1
theorem dX7_readRow_72 : decode cX7_readRow 72 = .ok (.iaload, 1) := dX7_readRow_67_z.1.2.1.2
theorem dX7_readRow_73 : decode cX7_readRow 73 = .ok (.putfield 40, 3) := dX7_readRow_67_z.1.2.2.1
theorem dX7_readRow_76 : decode cX7_readRow 76 = .ok (.aload_n 0, 1) := dX7_readRow_67_z.1.2.2.2
theorem dX7_readRow_77 : decode cX7_readRow 77 = .ok (.aload_n 1, 1) := dX7_readRow_67_z.2.1.1.1
theorem dX7_readRow_78 : decode cX7_readRow 78 = .ok (.iload_n 3, 1) := dX7_readRow_67_z.2.1.1.2
theorem dX7_readRow_79 : decode cX7_readRow 79 = .ok (.iconst 5, 1) := dX7_readRow_67_z.2.1.2.1
theorem dX7_readRow_80 : decode cX7_readRow 80 = .ok (.iadd, 1) := dX7_readRow_67_z.2.1.2.2
theorem dX7_readRow_81 : decode cX7_readRow 81 = .ok (.iaload, 1) := dX7_readRow_67_z.2.2.1.1
theorem dX7_readRow_82 : decode cX7_readRow 82 = .ok (.putfield 43, 3) := dX7_readRow_67_z.2.2.1.2
theorem dX7_readRow_85 : decode cX7_readRow 85 = .ok (.return_, 1) := dX7_readRow_67_z.2.2.2
set_option maxRecDepth 100000 in
theorem dX7_passMonth_0_z : ((((decode cX7_passMonth 0 = .ok (.aload_n 0, 1) ∧ decode cX7_passMonth 1 = .ok (.dup, 1)) ∧ (decode cX7_passMonth 2 = .ok (.getfield 43, 3) ∧ decode cX7_passMonth 5 = .ok (.iconst 1, 1))) ∧ ((decode cX7_passMonth 6 = .ok (.iadd, 1) ∧ decode cX7_passMonth 7 = .ok (.putfield 43, 3)) ∧ (decode cX7_passMonth 10 = .ok (.aload_n 0, 1) ∧ decode cX7_passMonth 11 = .ok (.sipush 999, 3)))) ∧ (((decode cX7_passMonth 14 = .ok (.aload_n 0, 1) ∧ decode cX7_passMonth 15 = .ok (.getfield 40, 3)) ∧ (decode cX7_passMonth 18 = .ok (.iconst 1, 1) ∧ decode cX7_passMonth 19 = .ok (.iadd, 1))) ∧ ((decode cX7_passMonth 20 = .ok (.invokestatic 65, 3) ∧ decode cX7_passMonth 23 = .ok (.putfield 40, 3)) ∧ decode cX7_passMonth 26 = .ok (.return_, 1)))) := by decide +kernel
theorem dX7_passMonth_0 : decode cX7_passMonth 0 = .ok (.aload_n 0, 1) := dX7_passMonth_0_z.1.1.1.1
theorem dX7_passMonth_1 : decode cX7_passMonth 1 = .ok (.dup, 1) := dX7_passMonth_0_z.1.1.1.2
theorem dX7_passMonth_2 : decode cX7_passMonth 2 = .ok (.getfield 43, 3) := dX7_passMonth_0_z.1.1.2.1
theorem dX7_passMonth_5 : decode cX7_passMonth 5 = .ok (.iconst 1, 1) := dX7_passMonth_0_z.1.1.2.2
theorem dX7_passMonth_6 : decode cX7_passMonth 6 = .ok (.iadd, 1) := dX7_passMonth_0_z.1.2.1.1
theorem dX7_passMonth_7 : decode cX7_passMonth 7 = .ok (.putfield 43, 3) := dX7_passMonth_0_z.1.2.1.2
theorem dX7_passMonth_10 : decode cX7_passMonth 10 = .ok (.aload_n 0, 1) := dX7_passMonth_0_z.1.2.2.1
theorem dX7_passMonth_11 : decode cX7_passMonth 11 = .ok (.sipush 999, 3) := dX7_passMonth_0_z.1.2.2.2
theorem dX7_passMonth_14 : decode cX7_passMonth 14 = .ok (.aload_n 0, 1) := dX7_passMonth_0_z.2.1.1.1
theorem dX7_passMonth_15 : decode cX7_passMonth 15 = .ok (.getfield 40, 3) := dX7_passMonth_0_z.2.1.1.2
theorem dX7_passMonth_18 : decode cX7_passMonth 18 = .ok (.iconst 1, 1) := dX7_passMonth_0_z.2.1.2.1
theorem dX7_passMonth_19 : decode cX7_passMonth 19 = .ok (.iadd, 1) := dX7_passMonth_0_z.2.1.2.2
theorem dX7_passMonth_20 : decode cX7_passMonth 20 = .ok (.invokestatic 65, 3) := dX7_passMonth_0_z.2.2.1.1
theorem dX7_passMonth_23 : decode cX7_passMonth 23 = .ok (.putfield 40, 3) := dX7_passMonth_0_z.2.2.1.2
theorem dX7_passMonth_26 : decode cX7_passMonth 26 = .ok (.return_, 1) := dX7_passMonth_0_z.2.2.2
set_option maxRecDepth 100000 in
theorem dX7_hang_0_z : ((((decode cX7_hang 0 = .ok (.aload_n 0, 1) ∧ decode cX7_hang 1 = .ok (.getfield 25, 3)) ∧ (decode cX7_hang 4 = .ok (.iconst 4, 1) ∧ decode cX7_hang 5 = .ok (.imul, 1))) ∧ ((decode cX7_hang 6 = .ok (.istore 4, 2) ∧ decode cX7_hang 8 = .ok (.aload_n 0, 1)) ∧ (decode cX7_hang 9 = .ok (.getfield 18, 3) ∧ decode cX7_hang 12 = .ok (.iload 4, 2)))) ∧ (((decode cX7_hang 14 = .ok (.iconst 0, 1) ∧ decode cX7_hang 15 = .ok (.iadd, 1)) ∧ (decode cX7_hang 16 = .ok (.iload_n 1, 1) ∧ decode cX7_hang 17 = .ok (.iastore, 1))) ∧ ((decode cX7_hang 18 = .ok (.aload_n 0, 1) ∧ decode cX7_hang 19 = .ok (.getfield 18, 3)) ∧ (decode cX7_hang 22 = .ok (.iload 4, 2) ∧ decode cX7_hang 24 = .ok (.iconst 1, 1))))) := by decide +kernel
theorem dX7_hang_0 : decode cX7_hang 0 = .ok (.aload_n 0, 1) := dX7_hang_0_z.1.1.1.1
theorem dX7_hang_1 : decode cX7_hang 1 = .ok (.getfield 25, 3) := dX7_hang_0_z.1.1.1.2
theorem dX7_hang_4 : decode cX7_hang 4 = .ok (.iconst 4, 1) := dX7_hang_0_z.1.1.2.1
theorem dX7_hang_5 : decode cX7_hang 5 = .ok (.imul, 1) := dX7_hang_0_z.1.1.2.2
theorem dX7_hang_6 : decode cX7_hang 6 = .ok (.istore 4, 2) := dX7_hang_0_z.1.2.1.1
theorem dX7_hang_8 : decode cX7_hang 8 = .ok (.aload_n 0, 1) := dX7_hang_0_z.1.2.1.2
theorem dX7_hang_9 : decode cX7_hang 9 = .ok (.getfield 18, 3) := dX7_hang_0_z.1.2.2.1
theorem dX7_hang_12 : decode cX7_hang 12 = .ok (.iload 4, 2) := dX7_hang_0_z.1.2.2.2
theorem dX7_hang_14 : decode cX7_hang 14 = .ok (.iconst 0, 1) := dX7_hang_0_z.2.1.1.1
theorem dX7_hang_15 : decode cX7_hang 15 = .ok (.iadd, 1) := dX7_hang_0_z.2.1.1.2
theorem dX7_hang_16 : decode cX7_hang 16 = .ok (.iload_n 1, 1) := dX7_hang_0_z.2.1.2.1
theorem dX7_hang_17 : decode cX7_hang 17 = .ok (.iastore, 1) := dX7_hang_0_z.2.1.2.2
theorem dX7_hang_18 : decode cX7_hang 18 = .ok (.aload_n 0, 1) := dX7_hang_0_z.2.2.1.1
theorem dX7_hang_19 : decode cX7_hang 19 = .ok (.getfield 18, 3) := dX7_hang_0_z.2.2.1.2
theorem dX7_hang_22 : decode cX7_hang 22 = .ok (.iload 4, 2) := dX7_hang_0_z.2.2.2.1
theorem dX7_hang_24 : decode cX7_hang 24 = .ok (.iconst 1, 1) := dX7_hang_0_z.2.2.2.2
set_option maxRecDepth 100000 in
theorem dX7_hang_25_z : ((((decode cX7_hang 25 = .ok (.iadd, 1) ∧ decode cX7_hang 26 = .ok (.iload_n 2, 1)) ∧ (decode cX7_hang 27 = .ok (.iastore, 1) ∧ decode cX7_hang 28 = .ok (.aload_n 0, 1))) ∧ ((decode cX7_hang 29 = .ok (.getfield 18, 3) ∧ decode cX7_hang 32 = .ok (.iload 4, 2)) ∧ (decode cX7_hang 34 = .ok (.iconst 2, 1) ∧ decode cX7_hang 35 = .ok (.iadd, 1)))) ∧ (((decode cX7_hang 36 = .ok (.iload_n 3, 1) ∧ decode cX7_hang 37 = .ok (.iastore, 1)) ∧ (decode cX7_hang 38 = .ok (.aload_n 0, 1) ∧ decode cX7_hang 39 = .ok (.getfield 18, 3))) ∧ ((decode cX7_hang 42 = .ok (.iload 4, 2) ∧ decode cX7_hang 44 = .ok (.iconst 3, 1)) ∧ (decode cX7_hang 45 = .ok (.iadd, 1) ∧ decode cX7_hang 46 = .ok (.aload_n 0, 1))))) := by decide +kernel
theorem dX7_hang_25 : decode cX7_hang 25 = .ok (.iadd, 1) := dX7_hang_25_z.1.1.1.1
theorem dX7_hang_26 : decode cX7_hang 26 = .ok (.iload_n 2, 1) := dX7_hang_25_z.1.1.1.2
theorem dX7_hang_27 : decode cX7_hang 27 = .ok (.iastore, 1) := dX7_hang_25_z.1.1.2.1
theorem dX7_hang_28 : decode cX7_hang 28 = .ok (.aload_n 0, 1) := dX7_hang_25_z.1.1.2.2
theorem dX7_hang_29 : decode cX7_hang 29 = .ok (.getfield 18, 3) := dX7_hang_25_z.1.2.1.1
theorem dX7_hang_32 : decode cX7_hang 32 = .ok (.iload 4, 2) := dX7_hang_25_z.1.2.1.2
theorem dX7_hang_34 : decode cX7_hang 34 = .ok (.iconst 2, 1) := dX7_hang_25_z.1.2.2.1
theorem dX7_hang_35 : decode cX7_hang 35 = .ok (.iadd, 1) := dX7_hang_25_z.1.2.2.2
theorem dX7_hang_36 : decode cX7_hang 36 = .ok (.iload_n 3, 1) := dX7_hang_25_z.2.1.1.1
theorem dX7_hang_37 : decode cX7_hang 37 = .ok (.iastore, 1) := dX7_hang_25_z.2.1.1.2
theorem dX7_hang_38 : decode cX7_hang 38 = .ok (.aload_n 0, 1) := dX7_hang_25_z.2.1.2.1
theorem dX7_hang_39 : decode cX7_hang 39 = .ok (.getfield 18, 3) := dX7_hang_25_z.2.1.2.2
theorem dX7_hang_42 : decode cX7_hang 42 = .ok (.iload 4, 2) := dX7_hang_25_z.2.2.1.1
theorem dX7_hang_44 : decode cX7_hang 44 = .ok (.iconst 3, 1) := dX7_hang_25_z.2.2.1.2
theorem dX7_hang_45 : decode cX7_hang 45 = .ok (.iadd, 1) := dX7_hang_25_z.2.2.2.1
theorem dX7_hang_46 : decode cX7_hang 46 = .ok (.aload_n 0, 1) := dX7_hang_25_z.2.2.2.2
set_option maxRecDepth 100000 in
theorem dX7_hang_47_z : ((((decode cX7_hang 47 = .ok (.getfield 43, 3) ∧ decode cX7_hang 50 = .ok (.iastore, 1)) ∧ decode cX7_hang 51 = .ok (.aload_n 0, 1)) ∧ (decode cX7_hang 52 = .ok (.dup, 1) ∧ decode cX7_hang 53 = .ok (.getfield 25, 3))) ∧ ((decode cX7_hang 56 = .ok (.iconst 1, 1) ∧ decode cX7_hang 57 = .ok (.iadd, 1)) ∧ (decode cX7_hang 58 = .ok (.putfield 25, 3) ∧ decode cX7_hang 61 = .ok (.return_, 1)))) := by decide +kernel
theorem dX7_hang_47 : decode cX7_hang 47 = .ok (.getfield 43, 3) := dX7_hang_47_z.1.1.1.1
theorem dX7_hang_50 : decode cX7_hang 50 = .ok (.iastore, 1) := dX7_hang_47_z.1.1.1.2
theorem dX7_hang_51 : decode cX7_hang 51 = .ok (.aload_n 0, 1) := dX7_hang_47_z.1.1.2
theorem dX7_hang_52 : decode cX7_hang 52 = .ok (.dup, 1) := dX7_hang_47_z.1.2.1
theorem dX7_hang_53 : decode cX7_hang 53 = .ok (.getfield 25, 3) := dX7_hang_47_z.1.2.2
theorem dX7_hang_56 : decode cX7_hang 56 = .ok (.iconst 1, 1) := dX7_hang_47_z.2.1.1
theorem dX7_hang_57 : decode cX7_hang 57 = .ok (.iadd, 1) := dX7_hang_47_z.2.1.2
theorem dX7_hang_58 : decode cX7_hang 58 = .ok (.putfield 25, 3) := dX7_hang_47_z.2.2.1
theorem dX7_hang_61 : decode cX7_hang 61 = .ok (.return_, 1) := dX7_hang_47_z.2.2.2
set_option maxRecDepth 100000 in
theorem dX7_ofPortrait_0_z : ((((decode cX7_ofPortrait 0 = .ok (.aload_n 0, 1) ∧ decode cX7_ofPortrait 1 = .ok (.getfield 18, 3)) ∧ decode cX7_ofPortrait 4 = .ok (.iload_n 1, 1)) ∧ (decode cX7_ofPortrait 5 = .ok (.iconst 4, 1) ∧ decode cX7_ofPortrait 6 = .ok (.imul, 1))) ∧ ((decode cX7_ofPortrait 7 = .ok (.iload_n 2, 1) ∧ decode cX7_ofPortrait 8 = .ok (.iadd, 1)) ∧ (decode cX7_ofPortrait 9 = .ok (.iaload, 1) ∧ decode cX7_ofPortrait 10 = .ok (.ireturn, 1)))) := by decide +kernel
theorem dX7_ofPortrait_0 : decode cX7_ofPortrait 0 = .ok (.aload_n 0, 1) := dX7_ofPortrait_0_z.1.1.1.1
theorem dX7_ofPortrait_1 : decode cX7_ofPortrait 1 = .ok (.getfield 18, 3) := dX7_ofPortrait_0_z.1.1.1.2
theorem dX7_ofPortrait_4 : decode cX7_ofPortrait 4 = .ok (.iload_n 1, 1) := dX7_ofPortrait_0_z.1.1.2
theorem dX7_ofPortrait_5 : decode cX7_ofPortrait 5 = .ok (.iconst 4, 1) := dX7_ofPortrait_0_z.1.2.1
theorem dX7_ofPortrait_6 : decode cX7_ofPortrait 6 = .ok (.imul, 1) := dX7_ofPortrait_0_z.1.2.2
theorem dX7_ofPortrait_7 : decode cX7_ofPortrait 7 = .ok (.iload_n 2, 1) := dX7_ofPortrait_0_z.2.1.1
theorem dX7_ofPortrait_8 : decode cX7_ofPortrait 8 = .ok (.iadd, 1) := dX7_ofPortrait_0_z.2.1.2
theorem dX7_ofPortrait_9 : decode cX7_ofPortrait 9 = .ok (.iaload, 1) := dX7_ofPortrait_0_z.2.2.1
theorem dX7_ofPortrait_10 : decode cX7_ofPortrait 10 = .ok (.ireturn, 1) := dX7_ofPortrait_0_z.2.2.2
set_option maxRecDepth 100000 in
theorem dX7_latestBy_0_z : ((((decode cX7_latestBy 0 = .ok (.aload_n 0, 1) ∧ decode cX7_latestBy 1 = .ok (.getfield 25, 3)) ∧ (decode cX7_latestBy 4 = .ok (.iconst 1, 1) ∧ decode cX7_latestBy 5 = .ok (.isub, 1))) ∧ ((decode cX7_latestBy 6 = .ok (.istore_n 2, 1) ∧ decode cX7_latestBy 7 = .ok (.iload_n 2, 1)) ∧ (decode cX7_latestBy 8 = .ok (.ifCond .lt 21, 3) ∧ decode cX7_latestBy 11 = .ok (.aload_n 0, 1)))) ∧ (((decode cX7_latestBy 12 = .ok (.iload_n 2, 1) ∧ decode cX7_latestBy 13 = .ok (.iconst 1, 1)) ∧ (decode cX7_latestBy 14 = .ok (.invokevirtual 70, 3) ∧ decode cX7_latestBy 17 = .ok (.iload_n 1, 1))) ∧ ((decode cX7_latestBy 18 = .ok (.if_icmp .ne 5, 3) ∧ decode cX7_latestBy 21 = .ok (.iload_n 2, 1)) ∧ (decode cX7_latestBy 22 = .ok (.ireturn, 1) ∧ decode cX7_latestBy 23 = .ok (.iinc 2 (-1), 3))))) := by decide +kernel
theorem dX7_latestBy_0 : decode cX7_latestBy 0 = .ok (.aload_n 0, 1) := dX7_latestBy_0_z.1.1.1.1
theorem dX7_latestBy_1 : decode cX7_latestBy 1 = .ok (.getfield 25, 3) := dX7_latestBy_0_z.1.1.1.2
theorem dX7_latestBy_4 : decode cX7_latestBy 4 = .ok (.iconst 1, 1) := dX7_latestBy_0_z.1.1.2.1
theorem dX7_latestBy_5 : decode cX7_latestBy 5 = .ok (.isub, 1) := dX7_latestBy_0_z.1.1.2.2
theorem dX7_latestBy_6 : decode cX7_latestBy 6 = .ok (.istore_n 2, 1) := dX7_latestBy_0_z.1.2.1.1
theorem dX7_latestBy_7 : decode cX7_latestBy 7 = .ok (.iload_n 2, 1) := dX7_latestBy_0_z.1.2.1.2
theorem dX7_latestBy_8 : decode cX7_latestBy 8 = .ok (.ifCond .lt 21, 3) := dX7_latestBy_0_z.1.2.2.1
theorem dX7_latestBy_11 : decode cX7_latestBy 11 = .ok (.aload_n 0, 1) := dX7_latestBy_0_z.1.2.2.2
theorem dX7_latestBy_12 : decode cX7_latestBy 12 = .ok (.iload_n 2, 1) := dX7_latestBy_0_z.2.1.1.1
theorem dX7_latestBy_13 : decode cX7_latestBy 13 = .ok (.iconst 1, 1) := dX7_latestBy_0_z.2.1.1.2
theorem dX7_latestBy_14 : decode cX7_latestBy 14 = .ok (.invokevirtual 70, 3) := dX7_latestBy_0_z.2.1.2.1
theorem dX7_latestBy_17 : decode cX7_latestBy 17 = .ok (.iload_n 1, 1) := dX7_latestBy_0_z.2.1.2.2
theorem dX7_latestBy_18 : decode cX7_latestBy 18 = .ok (.if_icmp .ne 5, 3) := dX7_latestBy_0_z.2.2.1.1
theorem dX7_latestBy_21 : decode cX7_latestBy 21 = .ok (.iload_n 2, 1) := dX7_latestBy_0_z.2.2.1.2
theorem dX7_latestBy_22 : decode cX7_latestBy 22 = .ok (.ireturn, 1) := dX7_latestBy_0_z.2.2.2.1
theorem dX7_latestBy_23 : decode cX7_latestBy 23 = .ok (.iinc 2 (-1), 3) := dX7_latestBy_0_z.2.2.2.2
set_option maxRecDepth 100000 in
theorem dX7_latestBy_26_z : ((decode cX7_latestBy 26 = .ok (.goto (-19), 3) ∧ decode cX7_latestBy 29 = .ok (.iconst (-1), 1)) ∧ decode cX7_latestBy 30 = .ok (.ireturn, 1)) := by decide +kernel
theorem dX7_latestBy_26 : decode cX7_latestBy 26 = .ok (.goto (-19), 3) := dX7_latestBy_26_z.1.1
theorem dX7_latestBy_29 : decode cX7_latestBy 29 = .ok (.iconst (-1), 1) := dX7_latestBy_26_z.1.2
theorem dX7_latestBy_30 : decode cX7_latestBy 30 = .ok (.ireturn, 1) := dX7_latestBy_26_z.2
set_option maxRecDepth 100000 in
theorem dX7_portraitsOf_0_z : ((((decode cX7_portraitsOf 0 = .ok (.iconst 0, 1) ∧ decode cX7_portraitsOf 1 = .ok (.istore_n 2, 1)) ∧ (decode cX7_portraitsOf 2 = .ok (.iconst 0, 1) ∧ decode cX7_portraitsOf 3 = .ok (.istore_n 3, 1))) ∧ ((decode cX7_portraitsOf 4 = .ok (.iload_n 3, 1) ∧ decode cX7_portraitsOf 5 = .ok (.aload_n 0, 1)) ∧ (decode cX7_portraitsOf 6 = .ok (.getfield 25, 3) ∧ decode cX7_portraitsOf 9 = .ok (.if_icmp .ge 22, 3)))) ∧ (((decode cX7_portraitsOf 12 = .ok (.aload_n 0, 1) ∧ decode cX7_portraitsOf 13 = .ok (.iload_n 3, 1)) ∧ (decode cX7_portraitsOf 14 = .ok (.iconst 0, 1) ∧ decode cX7_portraitsOf 15 = .ok (.invokevirtual 70, 3))) ∧ ((decode cX7_portraitsOf 18 = .ok (.iload_n 1, 1) ∧ decode cX7_portraitsOf 19 = .ok (.if_icmp .ne 6, 3)) ∧ (decode cX7_portraitsOf 22 = .ok (.iinc 2 1, 3) ∧ decode cX7_portraitsOf 25 = .ok (.iinc 3 1, 3))))) := by decide +kernel
theorem dX7_portraitsOf_0 : decode cX7_portraitsOf 0 = .ok (.iconst 0, 1) := dX7_portraitsOf_0_z.1.1.1.1
theorem dX7_portraitsOf_1 : decode cX7_portraitsOf 1 = .ok (.istore_n 2, 1) := dX7_portraitsOf_0_z.1.1.1.2
theorem dX7_portraitsOf_2 : decode cX7_portraitsOf 2 = .ok (.iconst 0, 1) := dX7_portraitsOf_0_z.1.1.2.1
theorem dX7_portraitsOf_3 : decode cX7_portraitsOf 3 = .ok (.istore_n 3, 1) := dX7_portraitsOf_0_z.1.1.2.2
theorem dX7_portraitsOf_4 : decode cX7_portraitsOf 4 = .ok (.iload_n 3, 1) := dX7_portraitsOf_0_z.1.2.1.1
theorem dX7_portraitsOf_5 : decode cX7_portraitsOf 5 = .ok (.aload_n 0, 1) := dX7_portraitsOf_0_z.1.2.1.2
theorem dX7_portraitsOf_6 : decode cX7_portraitsOf 6 = .ok (.getfield 25, 3) := dX7_portraitsOf_0_z.1.2.2.1
theorem dX7_portraitsOf_9 : decode cX7_portraitsOf 9 = .ok (.if_icmp .ge 22, 3) := dX7_portraitsOf_0_z.1.2.2.2
theorem dX7_portraitsOf_12 : decode cX7_portraitsOf 12 = .ok (.aload_n 0, 1) := dX7_portraitsOf_0_z.2.1.1.1
theorem dX7_portraitsOf_13 : decode cX7_portraitsOf 13 = .ok (.iload_n 3, 1) := dX7_portraitsOf_0_z.2.1.1.2
theorem dX7_portraitsOf_14 : decode cX7_portraitsOf 14 = .ok (.iconst 0, 1) := dX7_portraitsOf_0_z.2.1.2.1
theorem dX7_portraitsOf_15 : decode cX7_portraitsOf 15 = .ok (.invokevirtual 70, 3) := dX7_portraitsOf_0_z.2.1.2.2
theorem dX7_portraitsOf_18 : decode cX7_portraitsOf 18 = .ok (.iload_n 1, 1) := dX7_portraitsOf_0_z.2.2.1.1
theorem dX7_portraitsOf_19 : decode cX7_portraitsOf 19 = .ok (.if_icmp .ne 6, 3) := dX7_portraitsOf_0_z.2.2.1.2
theorem dX7_portraitsOf_22 : decode cX7_portraitsOf 22 = .ok (.iinc 2 1, 3) := dX7_portraitsOf_0_z.2.2.2.1
theorem dX7_portraitsOf_25 : decode cX7_portraitsOf 25 = .ok (.iinc 3 1, 3) := dX7_portraitsOf_0_z.2.2.2.2
set_option maxRecDepth 100000 in
theorem dX7_portraitsOf_28_z : ((decode cX7_portraitsOf 28 = .ok (.goto (-24), 3) ∧ decode cX7_portraitsOf 31 = .ok (.iload_n 2, 1)) ∧ decode cX7_portraitsOf 32 = .ok (.ireturn, 1)) := by decide +kernel
theorem dX7_portraitsOf_28 : decode cX7_portraitsOf 28 = .ok (.goto (-24), 3) := dX7_portraitsOf_28_z.1.1
theorem dX7_portraitsOf_31 : decode cX7_portraitsOf 31 = .ok (.iload_n 2, 1) := dX7_portraitsOf_28_z.1.2
theorem dX7_portraitsOf_32 : decode cX7_portraitsOf 32 = .ok (.ireturn, 1) := dX7_portraitsOf_28_z.2
set_option maxRecDepth 100000 in
theorem dX7_shownTogether_0_z : ((((decode cX7_shownTogether 0 = .ok (.iconst 0, 1) ∧ decode cX7_shownTogether 1 = .ok (.istore_n 2, 1)) ∧ (decode cX7_shownTogether 2 = .ok (.iconst 0, 1) ∧ decode cX7_shownTogether 3 = .ok (.istore_n 3, 1))) ∧ ((decode cX7_shownTogether 4 = .ok (.iload_n 3, 1) ∧ decode cX7_shownTogether 5 = .ok (.aload_n 0, 1)) ∧ (decode cX7_shownTogether 6 = .ok (.getfield 25, 3) ∧ decode cX7_shownTogether 9 = .ok (.if_icmp .ge 28, 3)))) ∧ (((decode cX7_shownTogether 12 = .ok (.aload_n 0, 1) ∧ decode cX7_shownTogether 13 = .ok (.iload_n 3, 1)) ∧ (decode cX7_shownTogether 14 = .ok (.iconst 0, 1) ∧ decode cX7_shownTogether 15 = .ok (.invokevirtual 70, 3))) ∧ ((decode cX7_shownTogether 18 = .ok (.iload_n 1, 1) ∧ decode cX7_shownTogether 19 = .ok (.if_icmp .ne 12, 3)) ∧ (decode cX7_shownTogether 22 = .ok (.iload_n 2, 1) ∧ decode cX7_shownTogether 23 = .ok (.aload_n 0, 1))))) := by decide +kernel
theorem dX7_shownTogether_0 : decode cX7_shownTogether 0 = .ok (.iconst 0, 1) := dX7_shownTogether_0_z.1.1.1.1
theorem dX7_shownTogether_1 : decode cX7_shownTogether 1 = .ok (.istore_n 2, 1) := dX7_shownTogether_0_z.1.1.1.2
theorem dX7_shownTogether_2 : decode cX7_shownTogether 2 = .ok (.iconst 0, 1) := dX7_shownTogether_0_z.1.1.2.1
theorem dX7_shownTogether_3 : decode cX7_shownTogether 3 = .ok (.istore_n 3, 1) := dX7_shownTogether_0_z.1.1.2.2
theorem dX7_shownTogether_4 : decode cX7_shownTogether 4 = .ok (.iload_n 3, 1) := dX7_shownTogether_0_z.1.2.1.1
theorem dX7_shownTogether_5 : decode cX7_shownTogether 5 = .ok (.aload_n 0, 1) := dX7_shownTogether_0_z.1.2.1.2
theorem dX7_shownTogether_6 : decode cX7_shownTogether 6 = .ok (.getfield 25, 3) := dX7_shownTogether_0_z.1.2.2.1
theorem dX7_shownTogether_9 : decode cX7_shownTogether 9 = .ok (.if_icmp .ge 28, 3) := dX7_shownTogether_0_z.1.2.2.2
theorem dX7_shownTogether_12 : decode cX7_shownTogether 12 = .ok (.aload_n 0, 1) := dX7_shownTogether_0_z.2.1.1.1
theorem dX7_shownTogether_13 : decode cX7_shownTogether 13 = .ok (.iload_n 3, 1) := dX7_shownTogether_0_z.2.1.1.2
theorem dX7_shownTogether_14 : decode cX7_shownTogether 14 = .ok (.iconst 0, 1) := dX7_shownTogether_0_z.2.1.2.1
theorem dX7_shownTogether_15 : decode cX7_shownTogether 15 = .ok (.invokevirtual 70, 3) := dX7_shownTogether_0_z.2.1.2.2
theorem dX7_shownTogether_18 : decode cX7_shownTogether 18 = .ok (.iload_n 1, 1) := dX7_shownTogether_0_z.2.2.1.1
theorem dX7_shownTogether_19 : decode cX7_shownTogether 19 = .ok (.if_icmp .ne 12, 3) := dX7_shownTogether_0_z.2.2.1.2
theorem dX7_shownTogether_22 : decode cX7_shownTogether 22 = .ok (.iload_n 2, 1) := dX7_shownTogether_0_z.2.2.2.1
theorem dX7_shownTogether_23 : decode cX7_shownTogether 23 = .ok (.aload_n 0, 1) := dX7_shownTogether_0_z.2.2.2.2
set_option maxRecDepth 100000 in
theorem dX7_shownTogether_24_z : ((((decode cX7_shownTogether 24 = .ok (.iload_n 3, 1) ∧ decode cX7_shownTogether 25 = .ok (.iconst 2, 1)) ∧ decode cX7_shownTogether 26 = .ok (.invokevirtual 70, 3)) ∧ (decode cX7_shownTogether 29 = .ok (.iadd, 1) ∧ decode cX7_shownTogether 30 = .ok (.istore_n 2, 1))) ∧ ((decode cX7_shownTogether 31 = .ok (.iinc 3 1, 3) ∧ decode cX7_shownTogether 34 = .ok (.goto (-30), 3)) ∧ (decode cX7_shownTogether 37 = .ok (.iload_n 2, 1) ∧ decode cX7_shownTogether 38 = .ok (.ireturn, 1)))) := by decide +kernel
theorem dX7_shownTogether_24 : decode cX7_shownTogether 24 = .ok (.iload_n 3, 1) := dX7_shownTogether_24_z.1.1.1.1
theorem dX7_shownTogether_25 : decode cX7_shownTogether 25 = .ok (.iconst 2, 1) := dX7_shownTogether_24_z.1.1.1.2
theorem dX7_shownTogether_26 : decode cX7_shownTogether 26 = .ok (.invokevirtual 70, 3) := dX7_shownTogether_24_z.1.1.2
theorem dX7_shownTogether_29 : decode cX7_shownTogether 29 = .ok (.iadd, 1) := dX7_shownTogether_24_z.1.2.1
theorem dX7_shownTogether_30 : decode cX7_shownTogether 30 = .ok (.istore_n 2, 1) := dX7_shownTogether_24_z.1.2.2
theorem dX7_shownTogether_31 : decode cX7_shownTogether 31 = .ok (.iinc 3 1, 3) := dX7_shownTogether_24_z.2.1.1
theorem dX7_shownTogether_34 : decode cX7_shownTogether 34 = .ok (.goto (-30), 3) := dX7_shownTogether_24_z.2.1.2
theorem dX7_shownTogether_37 : decode cX7_shownTogether 37 = .ok (.iload_n 2, 1) := dX7_shownTogether_24_z.2.2.1
theorem dX7_shownTogether_38 : decode cX7_shownTogether 38 = .ok (.ireturn, 1) := dX7_shownTogether_24_z.2.2.2
set_option maxRecDepth 100000 in
theorem dX8_flatteryFor_0_z : ((((decode cX8_flatteryFor 0 = .ok (.iconst 0, 1) ∧ decode cX8_flatteryFor 1 = .ok (.iload_n 2, 1)) ∧ decode cX8_flatteryFor 2 = .ok (.aload_n 0, 1)) ∧ ((decode cX8_flatteryFor 3 = .ok (.getfield 28, 3) ∧ decode cX8_flatteryFor 6 = .ok (.getfield 32, 3)) ∧ decode cX8_flatteryFor 9 = .ok (.iload_n 1, 1))) ∧ (((decode cX8_flatteryFor 10 = .ok (.iaload, 1) ∧ decode cX8_flatteryFor 11 = .ok (.iconst 3, 1)) ∧ decode cX8_flatteryFor 12 = .ok (.idiv, 1)) ∧ ((decode cX8_flatteryFor 13 = .ok (.isub, 1) ∧ decode cX8_flatteryFor 14 = .ok (.invokestatic 37, 3)) ∧ decode cX8_flatteryFor 17 = .ok (.ireturn, 1)))) := by decide +kernel
theorem dX8_flatteryFor_0 : decode cX8_flatteryFor 0 = .ok (.iconst 0, 1) := dX8_flatteryFor_0_z.1.1.1.1
theorem dX8_flatteryFor_1 : decode cX8_flatteryFor 1 = .ok (.iload_n 2, 1) := dX8_flatteryFor_0_z.1.1.1.2
theorem dX8_flatteryFor_2 : decode cX8_flatteryFor 2 = .ok (.aload_n 0, 1) := dX8_flatteryFor_0_z.1.1.2
theorem dX8_flatteryFor_3 : decode cX8_flatteryFor 3 = .ok (.getfield 28, 3) := dX8_flatteryFor_0_z.1.2.1.1
theorem dX8_flatteryFor_6 : decode cX8_flatteryFor 6 = .ok (.getfield 32, 3) := dX8_flatteryFor_0_z.1.2.1.2
theorem dX8_flatteryFor_9 : decode cX8_flatteryFor 9 = .ok (.iload_n 1, 1) := dX8_flatteryFor_0_z.1.2.2
theorem dX8_flatteryFor_10 : decode cX8_flatteryFor 10 = .ok (.iaload, 1) := dX8_flatteryFor_0_z.2.1.1.1
theorem dX8_flatteryFor_11 : decode cX8_flatteryFor 11 = .ok (.iconst 3, 1) := dX8_flatteryFor_0_z.2.1.1.2
theorem dX8_flatteryFor_12 : decode cX8_flatteryFor 12 = .ok (.idiv, 1) := dX8_flatteryFor_0_z.2.1.2
theorem dX8_flatteryFor_13 : decode cX8_flatteryFor 13 = .ok (.isub, 1) := dX8_flatteryFor_0_z.2.2.1.1
theorem dX8_flatteryFor_14 : decode cX8_flatteryFor 14 = .ok (.invokestatic 37, 3) := dX8_flatteryFor_0_z.2.2.1.2
theorem dX8_flatteryFor_17 : decode cX8_flatteryFor 17 = .ok (.ireturn, 1) := dX8_flatteryFor_0_z.2.2.2
set_option maxRecDepth 100000 in
theorem dX8_lookOf_0_z : ((((decode cX8_lookOf 0 = .ok (.iload_n 3, 1) ∧ decode cX8_lookOf 1 = .ok (.aload_n 0, 1)) ∧ (decode cX8_lookOf 2 = .ok (.iload_n 1, 1) ∧ decode cX8_lookOf 3 = .ok (.iload 4, 2))) ∧ ((decode cX8_lookOf 5 = .ok (.invokevirtual 43, 3) ∧ decode cX8_lookOf 8 = .ok (.iadd, 1)) ∧ (decode cX8_lookOf 9 = .ok (.aload_n 0, 1) ∧ decode cX8_lookOf 10 = .ok (.getfield 24, 3)))) ∧ (((decode cX8_lookOf 13 = .ok (.iload_n 2, 1) ∧ decode cX8_lookOf 14 = .ok (.invokevirtual 46, 3)) ∧ (decode cX8_lookOf 17 = .ok (.iconst 2, 1) ∧ decode cX8_lookOf 18 = .ok (.idiv, 1))) ∧ ((decode cX8_lookOf 19 = .ok (.isub, 1) ∧ decode cX8_lookOf 20 = .ok (.istore 5, 2)) ∧ (decode cX8_lookOf 22 = .ok (.aload_n 0, 1) ∧ decode cX8_lookOf 23 = .ok (.getfield 52, 3))))) := by decide +kernel
theorem dX8_lookOf_0 : decode cX8_lookOf 0 = .ok (.iload_n 3, 1) := dX8_lookOf_0_z.1.1.1.1
theorem dX8_lookOf_1 : decode cX8_lookOf 1 = .ok (.aload_n 0, 1) := dX8_lookOf_0_z.1.1.1.2
theorem dX8_lookOf_2 : decode cX8_lookOf 2 = .ok (.iload_n 1, 1) := dX8_lookOf_0_z.1.1.2.1
theorem dX8_lookOf_3 : decode cX8_lookOf 3 = .ok (.iload 4, 2) := dX8_lookOf_0_z.1.1.2.2
theorem dX8_lookOf_5 : decode cX8_lookOf 5 = .ok (.invokevirtual 43, 3) := dX8_lookOf_0_z.1.2.1.1
theorem dX8_lookOf_8 : decode cX8_lookOf 8 = .ok (.iadd, 1) := dX8_lookOf_0_z.1.2.1.2
theorem dX8_lookOf_9 : decode cX8_lookOf 9 = .ok (.aload_n 0, 1) := dX8_lookOf_0_z.1.2.2.1
theorem dX8_lookOf_10 : decode cX8_lookOf 10 = .ok (.getfield 24, 3) := dX8_lookOf_0_z.1.2.2.2
theorem dX8_lookOf_13 : decode cX8_lookOf 13 = .ok (.iload_n 2, 1) := dX8_lookOf_0_z.2.1.1.1
theorem dX8_lookOf_14 : decode cX8_lookOf 14 = .ok (.invokevirtual 46, 3) := dX8_lookOf_0_z.2.1.1.2
theorem dX8_lookOf_17 : decode cX8_lookOf 17 = .ok (.iconst 2, 1) := dX8_lookOf_0_z.2.1.2.1
theorem dX8_lookOf_18 : decode cX8_lookOf 18 = .ok (.idiv, 1) := dX8_lookOf_0_z.2.1.2.2
theorem dX8_lookOf_19 : decode cX8_lookOf 19 = .ok (.isub, 1) := dX8_lookOf_0_z.2.2.1.1
theorem dX8_lookOf_20 : decode cX8_lookOf 20 = .ok (.istore 5, 2) := dX8_lookOf_0_z.2.2.1.2
theorem dX8_lookOf_22 : decode cX8_lookOf 22 = .ok (.aload_n 0, 1) := dX8_lookOf_0_z.2.2.2.1
theorem dX8_lookOf_23 : decode cX8_lookOf 23 = .ok (.getfield 52, 3) := dX8_lookOf_0_z.2.2.2.2
set_option maxRecDepth 100000 in
theorem dX8_lookOf_26_z : ((((decode cX8_lookOf 26 = .ok (.ifnull 91, 3) ∧ decode cX8_lookOf 29 = .ok (.aload_n 0, 1)) ∧ (decode cX8_lookOf 30 = .ok (.getfield 18, 3) ∧ decode cX8_lookOf 33 = .ok (.iconst 0, 1))) ∧ ((decode cX8_lookOf 34 = .ok (.iload_n 3, 1) ∧ decode cX8_lookOf 35 = .ok (.iastore, 1)) ∧ (decode cX8_lookOf 36 = .ok (.aload_n 0, 1) ∧ decode cX8_lookOf 37 = .ok (.getfield 18, 3)))) ∧ (((decode cX8_lookOf 40 = .ok (.iconst 1, 1) ∧ decode cX8_lookOf 41 = .ok (.aload_n 0, 1)) ∧ (decode cX8_lookOf 42 = .ok (.getfield 24, 3) ∧ decode cX8_lookOf 45 = .ok (.iload_n 2, 1))) ∧ ((decode cX8_lookOf 46 = .ok (.invokevirtual 46, 3) ∧ decode cX8_lookOf 49 = .ok (.iastore, 1)) ∧ (decode cX8_lookOf 50 = .ok (.aload_n 0, 1) ∧ decode cX8_lookOf 51 = .ok (.getfield 18, 3))))) := by decide +kernel
theorem dX8_lookOf_26 : decode cX8_lookOf 26 = .ok (.ifnull 91, 3) := dX8_lookOf_26_z.1.1.1.1
theorem dX8_lookOf_29 : decode cX8_lookOf 29 = .ok (.aload_n 0, 1) := dX8_lookOf_26_z.1.1.1.2
theorem dX8_lookOf_30 : decode cX8_lookOf 30 = .ok (.getfield 18, 3) := dX8_lookOf_26_z.1.1.2.1
theorem dX8_lookOf_33 : decode cX8_lookOf 33 = .ok (.iconst 0, 1) := dX8_lookOf_26_z.1.1.2.2
theorem dX8_lookOf_34 : decode cX8_lookOf 34 = .ok (.iload_n 3, 1) := dX8_lookOf_26_z.1.2.1.1
theorem dX8_lookOf_35 : decode cX8_lookOf 35 = .ok (.iastore, 1) := dX8_lookOf_26_z.1.2.1.2
theorem dX8_lookOf_36 : decode cX8_lookOf 36 = .ok (.aload_n 0, 1) := dX8_lookOf_26_z.1.2.2.1
theorem dX8_lookOf_37 : decode cX8_lookOf 37 = .ok (.getfield 18, 3) := dX8_lookOf_26_z.1.2.2.2
theorem dX8_lookOf_40 : decode cX8_lookOf 40 = .ok (.iconst 1, 1) := dX8_lookOf_26_z.2.1.1.1
theorem dX8_lookOf_41 : decode cX8_lookOf 41 = .ok (.aload_n 0, 1) := dX8_lookOf_26_z.2.1.1.2
theorem dX8_lookOf_42 : decode cX8_lookOf 42 = .ok (.getfield 24, 3) := dX8_lookOf_26_z.2.1.2.1
theorem dX8_lookOf_45 : decode cX8_lookOf 45 = .ok (.iload_n 2, 1) := dX8_lookOf_26_z.2.1.2.2
theorem dX8_lookOf_46 : decode cX8_lookOf 46 = .ok (.invokevirtual 46, 3) := dX8_lookOf_26_z.2.2.1.1
theorem dX8_lookOf_49 : decode cX8_lookOf 49 = .ok (.iastore, 1) := dX8_lookOf_26_z.2.2.1.2
theorem dX8_lookOf_50 : decode cX8_lookOf 50 = .ok (.aload_n 0, 1) := dX8_lookOf_26_z.2.2.2.1
theorem dX8_lookOf_51 : decode cX8_lookOf 51 = .ok (.getfield 18, 3) := dX8_lookOf_26_z.2.2.2.2
set_option maxRecDepth 100000 in
theorem dX8_lookOf_54_z : ((((decode cX8_lookOf 54 = .ok (.iconst 2, 1) ∧ decode cX8_lookOf 55 = .ok (.iload 4, 2)) ∧ (decode cX8_lookOf 57 = .ok (.iastore, 1) ∧ decode cX8_lookOf 58 = .ok (.aload_n 0, 1))) ∧ ((decode cX8_lookOf 59 = .ok (.getfield 18, 3) ∧ decode cX8_lookOf 62 = .ok (.iconst 3, 1)) ∧ (decode cX8_lookOf 63 = .ok (.aload_n 0, 1) ∧ decode cX8_lookOf 64 = .ok (.getfield 24, 3)))) ∧ (((decode cX8_lookOf 67 = .ok (.iload_n 1, 1) ∧ decode cX8_lookOf 68 = .ok (.invokevirtual 56, 3)) ∧ (decode cX8_lookOf 71 = .ok (.iastore, 1) ∧ decode cX8_lookOf 72 = .ok (.aload_n 0, 1))) ∧ ((decode cX8_lookOf 73 = .ok (.getfield 18, 3) ∧ decode cX8_lookOf 76 = .ok (.iconst 4, 1)) ∧ (decode cX8_lookOf 77 = .ok (.aload_n 0, 1) ∧ decode cX8_lookOf 78 = .ok (.getfield 28, 3))))) := by decide +kernel
theorem dX8_lookOf_54 : decode cX8_lookOf 54 = .ok (.iconst 2, 1) := dX8_lookOf_54_z.1.1.1.1
theorem dX8_lookOf_55 : decode cX8_lookOf 55 = .ok (.iload 4, 2) := dX8_lookOf_54_z.1.1.1.2
theorem dX8_lookOf_57 : decode cX8_lookOf 57 = .ok (.iastore, 1) := dX8_lookOf_54_z.1.1.2.1
theorem dX8_lookOf_58 : decode cX8_lookOf 58 = .ok (.aload_n 0, 1) := dX8_lookOf_54_z.1.1.2.2
theorem dX8_lookOf_59 : decode cX8_lookOf 59 = .ok (.getfield 18, 3) := dX8_lookOf_54_z.1.2.1.1
theorem dX8_lookOf_62 : decode cX8_lookOf 62 = .ok (.iconst 3, 1) := dX8_lookOf_54_z.1.2.1.2
theorem dX8_lookOf_63 : decode cX8_lookOf 63 = .ok (.aload_n 0, 1) := dX8_lookOf_54_z.1.2.2.1
theorem dX8_lookOf_64 : decode cX8_lookOf 64 = .ok (.getfield 24, 3) := dX8_lookOf_54_z.1.2.2.2
theorem dX8_lookOf_67 : decode cX8_lookOf 67 = .ok (.iload_n 1, 1) := dX8_lookOf_54_z.2.1.1.1
theorem dX8_lookOf_68 : decode cX8_lookOf 68 = .ok (.invokevirtual 56, 3) := dX8_lookOf_54_z.2.1.1.2
theorem dX8_lookOf_71 : decode cX8_lookOf 71 = .ok (.iastore, 1) := dX8_lookOf_54_z.2.1.2.1
theorem dX8_lookOf_72 : decode cX8_lookOf 72 = .ok (.aload_n 0, 1) := dX8_lookOf_54_z.2.1.2.2
theorem dX8_lookOf_73 : decode cX8_lookOf 73 = .ok (.getfield 18, 3) := dX8_lookOf_54_z.2.2.1.1
theorem dX8_lookOf_76 : decode cX8_lookOf 76 = .ok (.iconst 4, 1) := dX8_lookOf_54_z.2.2.1.2
theorem dX8_lookOf_77 : decode cX8_lookOf 77 = .ok (.aload_n 0, 1) := dX8_lookOf_54_z.2.2.2.1
theorem dX8_lookOf_78 : decode cX8_lookOf 78 = .ok (.getfield 28, 3) := dX8_lookOf_54_z.2.2.2.2
set_option maxRecDepth 100000 in
theorem dX8_lookOf_81_z : ((((decode cX8_lookOf 81 = .ok (.getfield 32, 3) ∧ decode cX8_lookOf 84 = .ok (.iload_n 1, 1)) ∧ (decode cX8_lookOf 85 = .ok (.iaload, 1) ∧ decode cX8_lookOf 86 = .ok (.iastore, 1))) ∧ ((decode cX8_lookOf 87 = .ok (.aload_n 0, 1) ∧ decode cX8_lookOf 88 = .ok (.getfield 18, 3)) ∧ (decode cX8_lookOf 91 = .ok (.iconst 5, 1) ∧ decode cX8_lookOf 92 = .ok (.aload_n 0, 1)))) ∧ (((decode cX8_lookOf 93 = .ok (.getfield 28, 3) ∧ decode cX8_lookOf 96 = .ok (.getfield 59, 3)) ∧ (decode cX8_lookOf 99 = .ok (.iastore, 1) ∧ decode cX8_lookOf 100 = .ok (.aload_n 0, 1))) ∧ ((decode cX8_lookOf 101 = .ok (.getfield 52, 3) ∧ decode cX8_lookOf 104 = .ok (.aload_n 0, 1)) ∧ (decode cX8_lookOf 105 = .ok (.getfield 18, 3) ∧ decode cX8_lookOf 108 = .ok (.aload_n 0, 1))))) := by decide +kernel
theorem dX8_lookOf_81 : decode cX8_lookOf 81 = .ok (.getfield 32, 3) := dX8_lookOf_81_z.1.1.1.1
theorem dX8_lookOf_84 : decode cX8_lookOf 84 = .ok (.iload_n 1, 1) := dX8_lookOf_81_z.1.1.1.2
theorem dX8_lookOf_85 : decode cX8_lookOf 85 = .ok (.iaload, 1) := dX8_lookOf_81_z.1.1.2.1
theorem dX8_lookOf_86 : decode cX8_lookOf 86 = .ok (.iastore, 1) := dX8_lookOf_81_z.1.1.2.2
theorem dX8_lookOf_87 : decode cX8_lookOf 87 = .ok (.aload_n 0, 1) := dX8_lookOf_81_z.1.2.1.1
theorem dX8_lookOf_88 : decode cX8_lookOf 88 = .ok (.getfield 18, 3) := dX8_lookOf_81_z.1.2.1.2
theorem dX8_lookOf_91 : decode cX8_lookOf 91 = .ok (.iconst 5, 1) := dX8_lookOf_81_z.1.2.2.1
theorem dX8_lookOf_92 : decode cX8_lookOf 92 = .ok (.aload_n 0, 1) := dX8_lookOf_81_z.1.2.2.2
theorem dX8_lookOf_93 : decode cX8_lookOf 93 = .ok (.getfield 28, 3) := dX8_lookOf_81_z.2.1.1.1
theorem dX8_lookOf_96 : decode cX8_lookOf 96 = .ok (.getfield 59, 3) := dX8_lookOf_81_z.2.1.1.2
theorem dX8_lookOf_99 : decode cX8_lookOf 99 = .ok (.iastore, 1) := dX8_lookOf_81_z.2.1.2.1
theorem dX8_lookOf_100 : decode cX8_lookOf 100 = .ok (.aload_n 0, 1) := dX8_lookOf_81_z.2.1.2.2
theorem dX8_lookOf_101 : decode cX8_lookOf 101 = .ok (.getfield 52, 3) := dX8_lookOf_81_z.2.2.1.1
theorem dX8_lookOf_104 : decode cX8_lookOf 104 = .ok (.aload_n 0, 1) := dX8_lookOf_81_z.2.2.1.2
theorem dX8_lookOf_105 : decode cX8_lookOf 105 = .ok (.getfield 18, 3) := dX8_lookOf_81_z.2.2.2.1
theorem dX8_lookOf_108 : decode cX8_lookOf 108 = .ok (.aload_n 0, 1) := dX8_lookOf_81_z.2.2.2.2
set_option maxRecDepth 100000 in
theorem dX8_lookOf_109_z : ((((decode cX8_lookOf 109 = .ok (.getfield 21, 3) ∧ decode cX8_lookOf 112 = .ok (.invokevirtual 63, 3)) ∧ decode cX8_lookOf 115 = .ok (.istore 5, 2)) ∧ (decode cX8_lookOf 117 = .ok (.iconst 0, 1) ∧ decode cX8_lookOf 118 = .ok (.bipush 9, 2))) ∧ ((decode cX8_lookOf 120 = .ok (.iload 5, 2) ∧ decode cX8_lookOf 122 = .ok (.invokestatic 69, 3)) ∧ (decode cX8_lookOf 125 = .ok (.invokestatic 37, 3) ∧ decode cX8_lookOf 128 = .ok (.ireturn, 1)))) := by decide +kernel
theorem dX8_lookOf_109 : decode cX8_lookOf 109 = .ok (.getfield 21, 3) := dX8_lookOf_109_z.1.1.1.1
theorem dX8_lookOf_112 : decode cX8_lookOf 112 = .ok (.invokevirtual 63, 3) := dX8_lookOf_109_z.1.1.1.2
theorem dX8_lookOf_115 : decode cX8_lookOf 115 = .ok (.istore 5, 2) := dX8_lookOf_109_z.1.1.2
theorem dX8_lookOf_117 : decode cX8_lookOf 117 = .ok (.iconst 0, 1) := dX8_lookOf_109_z.1.2.1
theorem dX8_lookOf_118 : decode cX8_lookOf 118 = .ok (.bipush 9, 2) := dX8_lookOf_109_z.1.2.2
theorem dX8_lookOf_120 : decode cX8_lookOf 120 = .ok (.iload 5, 2) := dX8_lookOf_109_z.2.1.1
theorem dX8_lookOf_122 : decode cX8_lookOf 122 = .ok (.invokestatic 69, 3) := dX8_lookOf_109_z.2.1.2
theorem dX8_lookOf_125 : decode cX8_lookOf 125 = .ok (.invokestatic 37, 3) := dX8_lookOf_109_z.2.2.1
theorem dX8_lookOf_128 : decode cX8_lookOf 128 = .ok (.ireturn, 1) := dX8_lookOf_109_z.2.2.2
set_option maxRecDepth 100000 in
theorem dX8_showOf_0_z : ((((decode cX8_showOf 0 = .ok (.aload_n 0, 1) ∧ decode cX8_showOf 1 = .ok (.getfield 24, 3)) ∧ (decode cX8_showOf 4 = .ok (.iload_n 1, 1) ∧ decode cX8_showOf 5 = .ok (.invokevirtual 72, 3))) ∧ ((decode cX8_showOf 8 = .ok (.istore 4, 2) ∧ decode cX8_showOf 10 = .ok (.iload 4, 2)) ∧ (decode cX8_showOf 12 = .ok (.iconst 3, 1) ∧ decode cX8_showOf 13 = .ok (.if_icmp .ne 14, 3)))) ∧ (((decode cX8_showOf 16 = .ok (.aload_n 0, 1) ∧ decode cX8_showOf 17 = .ok (.getfield 28, 3)) ∧ (decode cX8_showOf 20 = .ok (.iload_n 1, 1) ∧ decode cX8_showOf 21 = .ok (.invokevirtual 75, 3))) ∧ ((decode cX8_showOf 24 = .ok (.goto 4, 3) ∧ decode cX8_showOf 27 = .ok (.iconst (-1), 1)) ∧ (decode cX8_showOf 28 = .ok (.istore 5, 2) ∧ decode cX8_showOf 30 = .ok (.iload 5, 2))))) := by decide +kernel
theorem dX8_showOf_0 : decode cX8_showOf 0 = .ok (.aload_n 0, 1) := dX8_showOf_0_z.1.1.1.1
theorem dX8_showOf_1 : decode cX8_showOf 1 = .ok (.getfield 24, 3) := dX8_showOf_0_z.1.1.1.2
theorem dX8_showOf_4 : decode cX8_showOf 4 = .ok (.iload_n 1, 1) := dX8_showOf_0_z.1.1.2.1
theorem dX8_showOf_5 : decode cX8_showOf 5 = .ok (.invokevirtual 72, 3) := dX8_showOf_0_z.1.1.2.2
theorem dX8_showOf_8 : decode cX8_showOf 8 = .ok (.istore 4, 2) := dX8_showOf_0_z.1.2.1.1
theorem dX8_showOf_10 : decode cX8_showOf 10 = .ok (.iload 4, 2) := dX8_showOf_0_z.1.2.1.2
theorem dX8_showOf_12 : decode cX8_showOf 12 = .ok (.iconst 3, 1) := dX8_showOf_0_z.1.2.2.1
theorem dX8_showOf_13 : decode cX8_showOf 13 = .ok (.if_icmp .ne 14, 3) := dX8_showOf_0_z.1.2.2.2
theorem dX8_showOf_16 : decode cX8_showOf 16 = .ok (.aload_n 0, 1) := dX8_showOf_0_z.2.1.1.1
theorem dX8_showOf_17 : decode cX8_showOf 17 = .ok (.getfield 28, 3) := dX8_showOf_0_z.2.1.1.2
theorem dX8_showOf_20 : decode cX8_showOf 20 = .ok (.iload_n 1, 1) := dX8_showOf_0_z.2.1.2.1
theorem dX8_showOf_21 : decode cX8_showOf 21 = .ok (.invokevirtual 75, 3) := dX8_showOf_0_z.2.1.2.2
theorem dX8_showOf_24 : decode cX8_showOf 24 = .ok (.goto 4, 3) := dX8_showOf_0_z.2.2.1.1
theorem dX8_showOf_27 : decode cX8_showOf 27 = .ok (.iconst (-1), 1) := dX8_showOf_0_z.2.2.1.2
theorem dX8_showOf_28 : decode cX8_showOf 28 = .ok (.istore 5, 2) := dX8_showOf_0_z.2.2.2.1
theorem dX8_showOf_30 : decode cX8_showOf 30 = .ok (.iload 5, 2) := dX8_showOf_0_z.2.2.2.2
set_option maxRecDepth 100000 in
theorem dX8_showOf_32_z : ((((decode cX8_showOf 32 = .ok (.iconst (-1), 1) ∧ decode cX8_showOf 33 = .ok (.if_icmp .eq 14, 3)) ∧ (decode cX8_showOf 36 = .ok (.aload_n 0, 1) ∧ decode cX8_showOf 37 = .ok (.getfield 28, 3))) ∧ ((decode cX8_showOf 40 = .ok (.iload 5, 2) ∧ decode cX8_showOf 42 = .ok (.iconst 2, 1)) ∧ (decode cX8_showOf 43 = .ok (.invokevirtual 78, 3) ∧ decode cX8_showOf 46 = .ok (.ireturn, 1)))) ∧ (((decode cX8_showOf 47 = .ok (.aload_n 0, 1) ∧ decode cX8_showOf 48 = .ok (.iload_n 1, 1)) ∧ (decode cX8_showOf 49 = .ok (.iload_n 2, 1) ∧ decode cX8_showOf 50 = .ok (.iload_n 3, 1))) ∧ ((decode cX8_showOf 51 = .ok (.aload_n 0, 1) ∧ decode cX8_showOf 52 = .ok (.getfield 28, 3)) ∧ (decode cX8_showOf 55 = .ok (.getfield 81, 3) ∧ decode cX8_showOf 58 = .ok (.iload_n 2, 1))))) := by decide +kernel
theorem dX8_showOf_32 : decode cX8_showOf 32 = .ok (.iconst (-1), 1) := dX8_showOf_32_z.1.1.1.1
theorem dX8_showOf_33 : decode cX8_showOf 33 = .ok (.if_icmp .eq 14, 3) := dX8_showOf_32_z.1.1.1.2
theorem dX8_showOf_36 : decode cX8_showOf 36 = .ok (.aload_n 0, 1) := dX8_showOf_32_z.1.1.2.1
theorem dX8_showOf_37 : decode cX8_showOf 37 = .ok (.getfield 28, 3) := dX8_showOf_32_z.1.1.2.2
theorem dX8_showOf_40 : decode cX8_showOf 40 = .ok (.iload 5, 2) := dX8_showOf_32_z.1.2.1.1
theorem dX8_showOf_42 : decode cX8_showOf 42 = .ok (.iconst 2, 1) := dX8_showOf_32_z.1.2.1.2
theorem dX8_showOf_43 : decode cX8_showOf 43 = .ok (.invokevirtual 78, 3) := dX8_showOf_32_z.1.2.2.1
theorem dX8_showOf_46 : decode cX8_showOf 46 = .ok (.ireturn, 1) := dX8_showOf_32_z.1.2.2.2
theorem dX8_showOf_47 : decode cX8_showOf 47 = .ok (.aload_n 0, 1) := dX8_showOf_32_z.2.1.1.1
theorem dX8_showOf_48 : decode cX8_showOf 48 = .ok (.iload_n 1, 1) := dX8_showOf_32_z.2.1.1.2
theorem dX8_showOf_49 : decode cX8_showOf 49 = .ok (.iload_n 2, 1) := dX8_showOf_32_z.2.1.2.1
theorem dX8_showOf_50 : decode cX8_showOf 50 = .ok (.iload_n 3, 1) := dX8_showOf_32_z.2.1.2.2
theorem dX8_showOf_51 : decode cX8_showOf 51 = .ok (.aload_n 0, 1) := dX8_showOf_32_z.2.2.1.1
theorem dX8_showOf_52 : decode cX8_showOf 52 = .ok (.getfield 28, 3) := dX8_showOf_32_z.2.2.1.2
theorem dX8_showOf_55 : decode cX8_showOf 55 = .ok (.getfield 81, 3) := dX8_showOf_32_z.2.2.2.1
theorem dX8_showOf_58 : decode cX8_showOf 58 = .ok (.iload_n 2, 1) := dX8_showOf_32_z.2.2.2.2
set_option maxRecDepth 100000 in
theorem dX8_showOf_59_z : ((((decode cX8_showOf 59 = .ok (.iaload, 1) ∧ decode cX8_showOf 60 = .ok (.invokevirtual 84, 3)) ∧ (decode cX8_showOf 63 = .ok (.istore 6, 2) ∧ decode cX8_showOf 65 = .ok (.iload 4, 2))) ∧ ((decode cX8_showOf 67 = .ok (.lookupswitch 42 #[(1, 25), (2, 33)], 25) ∧ decode cX8_showOf 92 = .ok (.iload 6, 2)) ∧ (decode cX8_showOf 94 = .ok (.bipush 7, 2) ∧ decode cX8_showOf 96 = .ok (.iadd, 1)))) ∧ (((decode cX8_showOf 97 = .ok (.iconst 2, 1) ∧ decode cX8_showOf 98 = .ok (.idiv, 1)) ∧ (decode cX8_showOf 99 = .ok (.ireturn, 1) ∧ decode cX8_showOf 100 = .ok (.iconst 0, 1))) ∧ ((decode cX8_showOf 101 = .ok (.iload 6, 2) ∧ decode cX8_showOf 103 = .ok (.iconst 2, 1)) ∧ (decode cX8_showOf 104 = .ok (.isub, 1) ∧ decode cX8_showOf 105 = .ok (.invokestatic 37, 3))))) := by decide +kernel
theorem dX8_showOf_59 : decode cX8_showOf 59 = .ok (.iaload, 1) := dX8_showOf_59_z.1.1.1.1
theorem dX8_showOf_60 : decode cX8_showOf 60 = .ok (.invokevirtual 84, 3) := dX8_showOf_59_z.1.1.1.2
theorem dX8_showOf_63 : decode cX8_showOf 63 = .ok (.istore 6, 2) := dX8_showOf_59_z.1.1.2.1
theorem dX8_showOf_65 : decode cX8_showOf 65 = .ok (.iload 4, 2) := dX8_showOf_59_z.1.1.2.2
theorem dX8_showOf_67 : decode cX8_showOf 67 = .ok (.lookupswitch 42 #[(1, 25), (2, 33)], 25) := dX8_showOf_59_z.1.2.1.1
theorem dX8_showOf_92 : decode cX8_showOf 92 = .ok (.iload 6, 2) := dX8_showOf_59_z.1.2.1.2
theorem dX8_showOf_94 : decode cX8_showOf 94 = .ok (.bipush 7, 2) := dX8_showOf_59_z.1.2.2.1
theorem dX8_showOf_96 : decode cX8_showOf 96 = .ok (.iadd, 1) := dX8_showOf_59_z.1.2.2.2
theorem dX8_showOf_97 : decode cX8_showOf 97 = .ok (.iconst 2, 1) := dX8_showOf_59_z.2.1.1.1
theorem dX8_showOf_98 : decode cX8_showOf 98 = .ok (.idiv, 1) := dX8_showOf_59_z.2.1.1.2
theorem dX8_showOf_99 : decode cX8_showOf 99 = .ok (.ireturn, 1) := dX8_showOf_59_z.2.1.2.1
theorem dX8_showOf_100 : decode cX8_showOf 100 = .ok (.iconst 0, 1) := dX8_showOf_59_z.2.1.2.2
theorem dX8_showOf_101 : decode cX8_showOf 101 = .ok (.iload 6, 2) := dX8_showOf_59_z.2.2.1.1
theorem dX8_showOf_103 : decode cX8_showOf 103 = .ok (.iconst 2, 1) := dX8_showOf_59_z.2.2.1.2
theorem dX8_showOf_104 : decode cX8_showOf 104 = .ok (.isub, 1) := dX8_showOf_59_z.2.2.2.1
theorem dX8_showOf_105 : decode cX8_showOf 105 = .ok (.invokestatic 37, 3) := dX8_showOf_59_z.2.2.2.2
set_option maxRecDepth 100000 in
theorem dX8_showOf_108_z : ((decode cX8_showOf 108 = .ok (.ireturn, 1) ∧ decode cX8_showOf 109 = .ok (.iload 6, 2)) ∧ decode cX8_showOf 111 = .ok (.ireturn, 1)) := by decide +kernel
theorem dX8_showOf_108 : decode cX8_showOf 108 = .ok (.ireturn, 1) := dX8_showOf_108_z.1.1
theorem dX8_showOf_109 : decode cX8_showOf 109 = .ok (.iload 6, 2) := dX8_showOf_108_z.1.2
theorem dX8_showOf_111 : decode cX8_showOf 111 = .ok (.ireturn, 1) := dX8_showOf_108_z.2
set_option maxRecDepth 100000 in
theorem dX8_fillLooks_0_z : ((((decode cX8_fillLooks 0 = .ok (.iconst 0, 1) ∧ decode cX8_fillLooks 1 = .ok (.istore 4, 2)) ∧ (decode cX8_fillLooks 3 = .ok (.iload 4, 2) ∧ decode cX8_fillLooks 5 = .ok (.aload_n 3, 1))) ∧ ((decode cX8_fillLooks 6 = .ok (.arraylength, 1) ∧ decode cX8_fillLooks 7 = .ok (.if_icmp .ge 29, 3)) ∧ (decode cX8_fillLooks 10 = .ok (.aload_n 3, 1) ∧ decode cX8_fillLooks 11 = .ok (.iload 4, 2)))) ∧ (((decode cX8_fillLooks 13 = .ok (.aload_n 0, 1) ∧ decode cX8_fillLooks 14 = .ok (.iload_n 1, 1)) ∧ (decode cX8_fillLooks 15 = .ok (.iload_n 2, 1) ∧ decode cX8_fillLooks 16 = .ok (.aload_n 0, 1))) ∧ ((decode cX8_fillLooks 17 = .ok (.getfield 24, 3) ∧ decode cX8_fillLooks 20 = .ok (.iload_n 2, 1)) ∧ (decode cX8_fillLooks 21 = .ok (.invokevirtual 88, 3) ∧ decode cX8_fillLooks 24 = .ok (.iload 4, 2))))) := by decide +kernel
theorem dX8_fillLooks_0 : decode cX8_fillLooks 0 = .ok (.iconst 0, 1) := dX8_fillLooks_0_z.1.1.1.1
theorem dX8_fillLooks_1 : decode cX8_fillLooks 1 = .ok (.istore 4, 2) := dX8_fillLooks_0_z.1.1.1.2
theorem dX8_fillLooks_3 : decode cX8_fillLooks 3 = .ok (.iload 4, 2) := dX8_fillLooks_0_z.1.1.2.1
theorem dX8_fillLooks_5 : decode cX8_fillLooks 5 = .ok (.aload_n 3, 1) := dX8_fillLooks_0_z.1.1.2.2
theorem dX8_fillLooks_6 : decode cX8_fillLooks 6 = .ok (.arraylength, 1) := dX8_fillLooks_0_z.1.2.1.1
theorem dX8_fillLooks_7 : decode cX8_fillLooks 7 = .ok (.if_icmp .ge 29, 3) := dX8_fillLooks_0_z.1.2.1.2
theorem dX8_fillLooks_10 : decode cX8_fillLooks 10 = .ok (.aload_n 3, 1) := dX8_fillLooks_0_z.1.2.2.1
theorem dX8_fillLooks_11 : decode cX8_fillLooks 11 = .ok (.iload 4, 2) := dX8_fillLooks_0_z.1.2.2.2
theorem dX8_fillLooks_13 : decode cX8_fillLooks 13 = .ok (.aload_n 0, 1) := dX8_fillLooks_0_z.2.1.1.1
theorem dX8_fillLooks_14 : decode cX8_fillLooks 14 = .ok (.iload_n 1, 1) := dX8_fillLooks_0_z.2.1.1.2
theorem dX8_fillLooks_15 : decode cX8_fillLooks 15 = .ok (.iload_n 2, 1) := dX8_fillLooks_0_z.2.1.2.1
theorem dX8_fillLooks_16 : decode cX8_fillLooks 16 = .ok (.aload_n 0, 1) := dX8_fillLooks_0_z.2.1.2.2
theorem dX8_fillLooks_17 : decode cX8_fillLooks 17 = .ok (.getfield 24, 3) := dX8_fillLooks_0_z.2.2.1.1
theorem dX8_fillLooks_20 : decode cX8_fillLooks 20 = .ok (.iload_n 2, 1) := dX8_fillLooks_0_z.2.2.1.2
theorem dX8_fillLooks_21 : decode cX8_fillLooks 21 = .ok (.invokevirtual 88, 3) := dX8_fillLooks_0_z.2.2.2.1
theorem dX8_fillLooks_24 : decode cX8_fillLooks 24 = .ok (.iload 4, 2) := dX8_fillLooks_0_z.2.2.2.2
set_option maxRecDepth 100000 in
theorem dX8_fillLooks_26_z : (((decode cX8_fillLooks 26 = .ok (.invokevirtual 84, 3) ∧ decode cX8_fillLooks 29 = .ok (.iastore, 1)) ∧ decode cX8_fillLooks 30 = .ok (.iinc 4 1, 3)) ∧ (decode cX8_fillLooks 33 = .ok (.goto (-30), 3) ∧ decode cX8_fillLooks 36 = .ok (.return_, 1))) := by decide +kernel
theorem dX8_fillLooks_26 : decode cX8_fillLooks 26 = .ok (.invokevirtual 84, 3) := dX8_fillLooks_26_z.1.1.1
theorem dX8_fillLooks_29 : decode cX8_fillLooks 29 = .ok (.iastore, 1) := dX8_fillLooks_26_z.1.1.2
theorem dX8_fillLooks_30 : decode cX8_fillLooks 30 = .ok (.iinc 4 1, 3) := dX8_fillLooks_26_z.1.2
theorem dX8_fillLooks_33 : decode cX8_fillLooks 33 = .ok (.goto (-30), 3) := dX8_fillLooks_26_z.2.1
theorem dX8_fillLooks_36 : decode cX8_fillLooks 36 = .ok (.return_, 1) := dX8_fillLooks_26_z.2.2
set_option maxRecDepth 100000 in
theorem dX9_add_0_z : ((((decode cX9_add 0 = .ok (.bipush 24, 2) ∧ decode cX9_add 2 = .ok (.istore_n 2, 1)) ∧ (decode cX9_add 3 = .ok (.iload_n 2, 1) ∧ decode cX9_add 4 = .ok (.ifCond .lt 53, 3))) ∧ ((decode cX9_add 7 = .ok (.iload_n 1, 1) ∧ decode cX9_add 8 = .ok (.iload_n 2, 1)) ∧ (decode cX9_add 9 = .ok (.iushr, 1) ∧ decode cX9_add 10 = .ok (.sipush 255, 3)))) ∧ (((decode cX9_add 13 = .ok (.iand, 1) ∧ decode cX9_add 14 = .ok (.istore_n 3, 1)) ∧ (decode cX9_add 15 = .ok (.iload_n 3, 1) ∧ decode cX9_add 16 = .ok (.ifCond .eq 35, 3))) ∧ ((decode cX9_add 19 = .ok (.aload_n 0, 1) ∧ decode cX9_add 20 = .ok (.getfield 15, 3)) ∧ (decode cX9_add 23 = .ok (.aload_n 0, 1) ∧ decode cX9_add 24 = .ok (.getfield 9, 3))))) := by decide +kernel
theorem dX9_add_0 : decode cX9_add 0 = .ok (.bipush 24, 2) := dX9_add_0_z.1.1.1.1
theorem dX9_add_2 : decode cX9_add 2 = .ok (.istore_n 2, 1) := dX9_add_0_z.1.1.1.2
theorem dX9_add_3 : decode cX9_add 3 = .ok (.iload_n 2, 1) := dX9_add_0_z.1.1.2.1
theorem dX9_add_4 : decode cX9_add 4 = .ok (.ifCond .lt 53, 3) := dX9_add_0_z.1.1.2.2
theorem dX9_add_7 : decode cX9_add 7 = .ok (.iload_n 1, 1) := dX9_add_0_z.1.2.1.1
theorem dX9_add_8 : decode cX9_add 8 = .ok (.iload_n 2, 1) := dX9_add_0_z.1.2.1.2
theorem dX9_add_9 : decode cX9_add 9 = .ok (.iushr, 1) := dX9_add_0_z.1.2.2.1
theorem dX9_add_10 : decode cX9_add 10 = .ok (.sipush 255, 3) := dX9_add_0_z.1.2.2.2
theorem dX9_add_13 : decode cX9_add 13 = .ok (.iand, 1) := dX9_add_0_z.2.1.1.1
theorem dX9_add_14 : decode cX9_add 14 = .ok (.istore_n 3, 1) := dX9_add_0_z.2.1.1.2
theorem dX9_add_15 : decode cX9_add 15 = .ok (.iload_n 3, 1) := dX9_add_0_z.2.1.2.1
theorem dX9_add_16 : decode cX9_add 16 = .ok (.ifCond .eq 35, 3) := dX9_add_0_z.2.1.2.2
theorem dX9_add_19 : decode cX9_add 19 = .ok (.aload_n 0, 1) := dX9_add_0_z.2.2.1.1
theorem dX9_add_20 : decode cX9_add 20 = .ok (.getfield 15, 3) := dX9_add_0_z.2.2.1.2
theorem dX9_add_23 : decode cX9_add 23 = .ok (.aload_n 0, 1) := dX9_add_0_z.2.2.2.1
theorem dX9_add_24 : decode cX9_add 24 = .ok (.getfield 9, 3) := dX9_add_0_z.2.2.2.2
set_option maxRecDepth 100000 in
theorem dX9_add_27_z : ((((decode cX9_add 27 = .ok (.arraylength, 1) ∧ decode cX9_add 28 = .ok (.if_icmp .ge 23, 3)) ∧ (decode cX9_add 31 = .ok (.aload_n 0, 1) ∧ decode cX9_add 32 = .ok (.getfield 9, 3))) ∧ ((decode cX9_add 35 = .ok (.aload_n 0, 1) ∧ decode cX9_add 36 = .ok (.getfield 15, 3)) ∧ (decode cX9_add 39 = .ok (.iload_n 3, 1) ∧ decode cX9_add 40 = .ok (.iastore, 1)))) ∧ (((decode cX9_add 41 = .ok (.aload_n 0, 1) ∧ decode cX9_add 42 = .ok (.dup, 1)) ∧ (decode cX9_add 43 = .ok (.getfield 15, 3) ∧ decode cX9_add 46 = .ok (.iconst 1, 1))) ∧ ((decode cX9_add 47 = .ok (.iadd, 1) ∧ decode cX9_add 48 = .ok (.putfield 15, 3)) ∧ (decode cX9_add 51 = .ok (.iinc 2 (-8), 3) ∧ decode cX9_add 54 = .ok (.goto (-51), 3))))) := by decide +kernel
theorem dX9_add_27 : decode cX9_add 27 = .ok (.arraylength, 1) := dX9_add_27_z.1.1.1.1
theorem dX9_add_28 : decode cX9_add 28 = .ok (.if_icmp .ge 23, 3) := dX9_add_27_z.1.1.1.2
theorem dX9_add_31 : decode cX9_add 31 = .ok (.aload_n 0, 1) := dX9_add_27_z.1.1.2.1
theorem dX9_add_32 : decode cX9_add 32 = .ok (.getfield 9, 3) := dX9_add_27_z.1.1.2.2
theorem dX9_add_35 : decode cX9_add 35 = .ok (.aload_n 0, 1) := dX9_add_27_z.1.2.1.1
theorem dX9_add_36 : decode cX9_add 36 = .ok (.getfield 15, 3) := dX9_add_27_z.1.2.1.2
theorem dX9_add_39 : decode cX9_add 39 = .ok (.iload_n 3, 1) := dX9_add_27_z.1.2.2.1
theorem dX9_add_40 : decode cX9_add 40 = .ok (.iastore, 1) := dX9_add_27_z.1.2.2.2
theorem dX9_add_41 : decode cX9_add 41 = .ok (.aload_n 0, 1) := dX9_add_27_z.2.1.1.1
theorem dX9_add_42 : decode cX9_add 42 = .ok (.dup, 1) := dX9_add_27_z.2.1.1.2
theorem dX9_add_43 : decode cX9_add 43 = .ok (.getfield 15, 3) := dX9_add_27_z.2.1.2.1
theorem dX9_add_46 : decode cX9_add 46 = .ok (.iconst 1, 1) := dX9_add_27_z.2.1.2.2
theorem dX9_add_47 : decode cX9_add 47 = .ok (.iadd, 1) := dX9_add_27_z.2.2.1.1
theorem dX9_add_48 : decode cX9_add 48 = .ok (.putfield 15, 3) := dX9_add_27_z.2.2.1.2
theorem dX9_add_51 : decode cX9_add 51 = .ok (.iinc 2 (-8), 3) := dX9_add_27_z.2.2.2.1
theorem dX9_add_54 : decode cX9_add 54 = .ok (.goto (-51), 3) := dX9_add_27_z.2.2.2.2
theorem dX9_add_57 : decode cX9_add 57 = .ok (.return_, 1) := by decide +kernel
set_option maxRecDepth 100000 in
theorem dX9_peek_0_z : ((((decode cX9_peek 0 = .ok (.aload_n 0, 1) ∧ decode cX9_peek 1 = .ok (.getfield 19, 3)) ∧ (decode cX9_peek 4 = .ok (.aload_n 0, 1) ∧ decode cX9_peek 5 = .ok (.getfield 15, 3))) ∧ ((decode cX9_peek 8 = .ok (.if_icmp .ge 30, 3) ∧ decode cX9_peek 11 = .ok (.aload_n 0, 1)) ∧ (decode cX9_peek 12 = .ok (.getfield 9, 3) ∧ decode cX9_peek 15 = .ok (.aload_n 0, 1)))) ∧ (((decode cX9_peek 16 = .ok (.getfield 19, 3) ∧ decode cX9_peek 19 = .ok (.iaload, 1)) ∧ (decode cX9_peek 20 = .ok (.bipush 32, 2) ∧ decode cX9_peek 22 = .ok (.if_icmp .ne 16, 3))) ∧ ((decode cX9_peek 25 = .ok (.aload_n 0, 1) ∧ decode cX9_peek 26 = .ok (.dup, 1)) ∧ (decode cX9_peek 27 = .ok (.getfield 19, 3) ∧ decode cX9_peek 30 = .ok (.iconst 1, 1))))) := by decide +kernel
theorem dX9_peek_0 : decode cX9_peek 0 = .ok (.aload_n 0, 1) := dX9_peek_0_z.1.1.1.1
theorem dX9_peek_1 : decode cX9_peek 1 = .ok (.getfield 19, 3) := dX9_peek_0_z.1.1.1.2
theorem dX9_peek_4 : decode cX9_peek 4 = .ok (.aload_n 0, 1) := dX9_peek_0_z.1.1.2.1
theorem dX9_peek_5 : decode cX9_peek 5 = .ok (.getfield 15, 3) := dX9_peek_0_z.1.1.2.2
theorem dX9_peek_8 : decode cX9_peek 8 = .ok (.if_icmp .ge 30, 3) := dX9_peek_0_z.1.2.1.1
theorem dX9_peek_11 : decode cX9_peek 11 = .ok (.aload_n 0, 1) := dX9_peek_0_z.1.2.1.2
theorem dX9_peek_12 : decode cX9_peek 12 = .ok (.getfield 9, 3) := dX9_peek_0_z.1.2.2.1
theorem dX9_peek_15 : decode cX9_peek 15 = .ok (.aload_n 0, 1) := dX9_peek_0_z.1.2.2.2
theorem dX9_peek_16 : decode cX9_peek 16 = .ok (.getfield 19, 3) := dX9_peek_0_z.2.1.1.1
theorem dX9_peek_19 : decode cX9_peek 19 = .ok (.iaload, 1) := dX9_peek_0_z.2.1.1.2
theorem dX9_peek_20 : decode cX9_peek 20 = .ok (.bipush 32, 2) := dX9_peek_0_z.2.1.2.1
theorem dX9_peek_22 : decode cX9_peek 22 = .ok (.if_icmp .ne 16, 3) := dX9_peek_0_z.2.1.2.2
theorem dX9_peek_25 : decode cX9_peek 25 = .ok (.aload_n 0, 1) := dX9_peek_0_z.2.2.1.1
theorem dX9_peek_26 : decode cX9_peek 26 = .ok (.dup, 1) := dX9_peek_0_z.2.2.1.2
theorem dX9_peek_27 : decode cX9_peek 27 = .ok (.getfield 19, 3) := dX9_peek_0_z.2.2.2.1
theorem dX9_peek_30 : decode cX9_peek 30 = .ok (.iconst 1, 1) := dX9_peek_0_z.2.2.2.2
set_option maxRecDepth 100000 in
theorem dX9_peek_31_z : ((((decode cX9_peek 31 = .ok (.iadd, 1) ∧ decode cX9_peek 32 = .ok (.putfield 19, 3)) ∧ (decode cX9_peek 35 = .ok (.goto (-35), 3) ∧ decode cX9_peek 38 = .ok (.aload_n 0, 1))) ∧ ((decode cX9_peek 39 = .ok (.getfield 19, 3) ∧ decode cX9_peek 42 = .ok (.aload_n 0, 1)) ∧ (decode cX9_peek 43 = .ok (.getfield 15, 3) ∧ decode cX9_peek 46 = .ok (.if_icmp .ge 15, 3)))) ∧ (((decode cX9_peek 49 = .ok (.aload_n 0, 1) ∧ decode cX9_peek 50 = .ok (.getfield 9, 3)) ∧ (decode cX9_peek 53 = .ok (.aload_n 0, 1) ∧ decode cX9_peek 54 = .ok (.getfield 19, 3))) ∧ ((decode cX9_peek 57 = .ok (.iaload, 1) ∧ decode cX9_peek 58 = .ok (.goto 4, 3)) ∧ (decode cX9_peek 61 = .ok (.iconst 0, 1) ∧ decode cX9_peek 62 = .ok (.ireturn, 1))))) := by decide +kernel
theorem dX9_peek_31 : decode cX9_peek 31 = .ok (.iadd, 1) := dX9_peek_31_z.1.1.1.1
theorem dX9_peek_32 : decode cX9_peek 32 = .ok (.putfield 19, 3) := dX9_peek_31_z.1.1.1.2
theorem dX9_peek_35 : decode cX9_peek 35 = .ok (.goto (-35), 3) := dX9_peek_31_z.1.1.2.1
theorem dX9_peek_38 : decode cX9_peek 38 = .ok (.aload_n 0, 1) := dX9_peek_31_z.1.1.2.2
theorem dX9_peek_39 : decode cX9_peek 39 = .ok (.getfield 19, 3) := dX9_peek_31_z.1.2.1.1
theorem dX9_peek_42 : decode cX9_peek 42 = .ok (.aload_n 0, 1) := dX9_peek_31_z.1.2.1.2
theorem dX9_peek_43 : decode cX9_peek 43 = .ok (.getfield 15, 3) := dX9_peek_31_z.1.2.2.1
theorem dX9_peek_46 : decode cX9_peek 46 = .ok (.if_icmp .ge 15, 3) := dX9_peek_31_z.1.2.2.2
theorem dX9_peek_49 : decode cX9_peek 49 = .ok (.aload_n 0, 1) := dX9_peek_31_z.2.1.1.1
theorem dX9_peek_50 : decode cX9_peek 50 = .ok (.getfield 9, 3) := dX9_peek_31_z.2.1.1.2
theorem dX9_peek_53 : decode cX9_peek 53 = .ok (.aload_n 0, 1) := dX9_peek_31_z.2.1.2.1
theorem dX9_peek_54 : decode cX9_peek 54 = .ok (.getfield 19, 3) := dX9_peek_31_z.2.1.2.2
theorem dX9_peek_57 : decode cX9_peek 57 = .ok (.iaload, 1) := dX9_peek_31_z.2.2.1.1
theorem dX9_peek_58 : decode cX9_peek 58 = .ok (.goto 4, 3) := dX9_peek_31_z.2.2.1.2
theorem dX9_peek_61 : decode cX9_peek 61 = .ok (.iconst 0, 1) := dX9_peek_31_z.2.2.2.1
theorem dX9_peek_62 : decode cX9_peek 62 = .ok (.ireturn, 1) := dX9_peek_31_z.2.2.2.2
set_option maxRecDepth 100000 in
theorem dX9_takes_0_z : ((((decode cX9_takes 0 = .ok (.aload_n 0, 1) ∧ decode cX9_takes 1 = .ok (.invokevirtual 22, 3)) ∧ (decode cX9_takes 4 = .ok (.iload_n 1, 1) ∧ decode cX9_takes 5 = .ok (.if_icmp .eq 5, 3))) ∧ ((decode cX9_takes 8 = .ok (.iconst 0, 1) ∧ decode cX9_takes 9 = .ok (.ireturn, 1)) ∧ decode cX9_takes 10 = .ok (.aload_n 0, 1))) ∧ (((decode cX9_takes 11 = .ok (.dup, 1) ∧ decode cX9_takes 12 = .ok (.getfield 19, 3)) ∧ (decode cX9_takes 15 = .ok (.iconst 1, 1) ∧ decode cX9_takes 16 = .ok (.iadd, 1))) ∧ ((decode cX9_takes 17 = .ok (.putfield 19, 3) ∧ decode cX9_takes 20 = .ok (.iconst 1, 1)) ∧ decode cX9_takes 21 = .ok (.ireturn, 1)))) := by decide +kernel
theorem dX9_takes_0 : decode cX9_takes 0 = .ok (.aload_n 0, 1) := dX9_takes_0_z.1.1.1.1
theorem dX9_takes_1 : decode cX9_takes 1 = .ok (.invokevirtual 22, 3) := dX9_takes_0_z.1.1.1.2
theorem dX9_takes_4 : decode cX9_takes 4 = .ok (.iload_n 1, 1) := dX9_takes_0_z.1.1.2.1
theorem dX9_takes_5 : decode cX9_takes 5 = .ok (.if_icmp .eq 5, 3) := dX9_takes_0_z.1.1.2.2
theorem dX9_takes_8 : decode cX9_takes 8 = .ok (.iconst 0, 1) := dX9_takes_0_z.1.2.1.1
theorem dX9_takes_9 : decode cX9_takes 9 = .ok (.ireturn, 1) := dX9_takes_0_z.1.2.1.2
theorem dX9_takes_10 : decode cX9_takes 10 = .ok (.aload_n 0, 1) := dX9_takes_0_z.1.2.2
theorem dX9_takes_11 : decode cX9_takes 11 = .ok (.dup, 1) := dX9_takes_0_z.2.1.1.1
theorem dX9_takes_12 : decode cX9_takes 12 = .ok (.getfield 19, 3) := dX9_takes_0_z.2.1.1.2
theorem dX9_takes_15 : decode cX9_takes 15 = .ok (.iconst 1, 1) := dX9_takes_0_z.2.1.2.1
theorem dX9_takes_16 : decode cX9_takes 16 = .ok (.iadd, 1) := dX9_takes_0_z.2.1.2.2
theorem dX9_takes_17 : decode cX9_takes 17 = .ok (.putfield 19, 3) := dX9_takes_0_z.2.2.1.1
theorem dX9_takes_20 : decode cX9_takes 20 = .ok (.iconst 1, 1) := dX9_takes_0_z.2.2.1.2
theorem dX9_takes_21 : decode cX9_takes 21 = .ok (.ireturn, 1) := dX9_takes_0_z.2.2.2
set_option maxRecDepth 100000 in
theorem dX9_number_0_z : ((((decode cX9_number 0 = .ok (.iconst 0, 1) ∧ decode cX9_number 1 = .ok (.istore_n 3, 1)) ∧ (decode cX9_number 2 = .ok (.iconst 0, 1) ∧ decode cX9_number 3 = .ok (.istore 4, 2))) ∧ ((decode cX9_number 5 = .ok (.aload_n 0, 1) ∧ decode cX9_number 6 = .ok (.getfield 19, 3)) ∧ (decode cX9_number 9 = .ok (.aload_n 0, 1) ∧ decode cX9_number 10 = .ok (.getfield 15, 3)))) ∧ (((decode cX9_number 13 = .ok (.if_icmp .ge 73, 3) ∧ decode cX9_number 16 = .ok (.aload_n 0, 1)) ∧ (decode cX9_number 17 = .ok (.getfield 9, 3) ∧ decode cX9_number 20 = .ok (.aload_n 0, 1))) ∧ ((decode cX9_number 21 = .ok (.getfield 19, 3) ∧ decode cX9_number 24 = .ok (.iaload, 1)) ∧ (decode cX9_number 25 = .ok (.bipush 48, 2) ∧ decode cX9_number 27 = .ok (.if_icmp .lt 59, 3))))) := by decide +kernel
theorem dX9_number_0 : decode cX9_number 0 = .ok (.iconst 0, 1) := dX9_number_0_z.1.1.1.1
theorem dX9_number_1 : decode cX9_number 1 = .ok (.istore_n 3, 1) := dX9_number_0_z.1.1.1.2
theorem dX9_number_2 : decode cX9_number 2 = .ok (.iconst 0, 1) := dX9_number_0_z.1.1.2.1
theorem dX9_number_3 : decode cX9_number 3 = .ok (.istore 4, 2) := dX9_number_0_z.1.1.2.2
theorem dX9_number_5 : decode cX9_number 5 = .ok (.aload_n 0, 1) := dX9_number_0_z.1.2.1.1
theorem dX9_number_6 : decode cX9_number 6 = .ok (.getfield 19, 3) := dX9_number_0_z.1.2.1.2
theorem dX9_number_9 : decode cX9_number 9 = .ok (.aload_n 0, 1) := dX9_number_0_z.1.2.2.1
theorem dX9_number_10 : decode cX9_number 10 = .ok (.getfield 15, 3) := dX9_number_0_z.1.2.2.2
theorem dX9_number_13 : decode cX9_number 13 = .ok (.if_icmp .ge 73, 3) := dX9_number_0_z.2.1.1.1
theorem dX9_number_16 : decode cX9_number 16 = .ok (.aload_n 0, 1) := dX9_number_0_z.2.1.1.2
theorem dX9_number_17 : decode cX9_number 17 = .ok (.getfield 9, 3) := dX9_number_0_z.2.1.2.1
theorem dX9_number_20 : decode cX9_number 20 = .ok (.aload_n 0, 1) := dX9_number_0_z.2.1.2.2
theorem dX9_number_21 : decode cX9_number 21 = .ok (.getfield 19, 3) := dX9_number_0_z.2.2.1.1
theorem dX9_number_24 : decode cX9_number 24 = .ok (.iaload, 1) := dX9_number_0_z.2.2.1.2
theorem dX9_number_25 : decode cX9_number 25 = .ok (.bipush 48, 2) := dX9_number_0_z.2.2.2.1
theorem dX9_number_27 : decode cX9_number 27 = .ok (.if_icmp .lt 59, 3) := dX9_number_0_z.2.2.2.2
set_option maxRecDepth 100000 in
theorem dX9_number_30_z : ((((decode cX9_number 30 = .ok (.aload_n 0, 1) ∧ decode cX9_number 31 = .ok (.getfield 9, 3)) ∧ (decode cX9_number 34 = .ok (.aload_n 0, 1) ∧ decode cX9_number 35 = .ok (.getfield 19, 3))) ∧ ((decode cX9_number 38 = .ok (.iaload, 1) ∧ decode cX9_number 39 = .ok (.bipush 57, 2)) ∧ (decode cX9_number 41 = .ok (.if_icmp .gt 45, 3) ∧ decode cX9_number 44 = .ok (.iload 4, 2)))) ∧ (((decode cX9_number 46 = .ok (.iload_n 1, 1) ∧ decode cX9_number 47 = .ok (.if_icmp .ne 5, 3)) ∧ (decode cX9_number 50 = .ok (.iconst (-1), 1) ∧ decode cX9_number 51 = .ok (.ireturn, 1))) ∧ ((decode cX9_number 52 = .ok (.bipush 10, 2) ∧ decode cX9_number 54 = .ok (.iload_n 3, 1)) ∧ (decode cX9_number 55 = .ok (.imul, 1) ∧ decode cX9_number 56 = .ok (.aload_n 0, 1))))) := by decide +kernel
theorem dX9_number_30 : decode cX9_number 30 = .ok (.aload_n 0, 1) := dX9_number_30_z.1.1.1.1
theorem dX9_number_31 : decode cX9_number 31 = .ok (.getfield 9, 3) := dX9_number_30_z.1.1.1.2
theorem dX9_number_34 : decode cX9_number 34 = .ok (.aload_n 0, 1) := dX9_number_30_z.1.1.2.1
theorem dX9_number_35 : decode cX9_number 35 = .ok (.getfield 19, 3) := dX9_number_30_z.1.1.2.2
theorem dX9_number_38 : decode cX9_number 38 = .ok (.iaload, 1) := dX9_number_30_z.1.2.1.1
theorem dX9_number_39 : decode cX9_number 39 = .ok (.bipush 57, 2) := dX9_number_30_z.1.2.1.2
theorem dX9_number_41 : decode cX9_number 41 = .ok (.if_icmp .gt 45, 3) := dX9_number_30_z.1.2.2.1
theorem dX9_number_44 : decode cX9_number 44 = .ok (.iload 4, 2) := dX9_number_30_z.1.2.2.2
theorem dX9_number_46 : decode cX9_number 46 = .ok (.iload_n 1, 1) := dX9_number_30_z.2.1.1.1
theorem dX9_number_47 : decode cX9_number 47 = .ok (.if_icmp .ne 5, 3) := dX9_number_30_z.2.1.1.2
theorem dX9_number_50 : decode cX9_number 50 = .ok (.iconst (-1), 1) := dX9_number_30_z.2.1.2.1
theorem dX9_number_51 : decode cX9_number 51 = .ok (.ireturn, 1) := dX9_number_30_z.2.1.2.2
theorem dX9_number_52 : decode cX9_number 52 = .ok (.bipush 10, 2) := dX9_number_30_z.2.2.1.1
theorem dX9_number_54 : decode cX9_number 54 = .ok (.iload_n 3, 1) := dX9_number_30_z.2.2.1.2
theorem dX9_number_55 : decode cX9_number 55 = .ok (.imul, 1) := dX9_number_30_z.2.2.2.1
theorem dX9_number_56 : decode cX9_number 56 = .ok (.aload_n 0, 1) := dX9_number_30_z.2.2.2.2
set_option maxRecDepth 100000 in
theorem dX9_number_57_z : ((((decode cX9_number 57 = .ok (.getfield 9, 3) ∧ decode cX9_number 60 = .ok (.aload_n 0, 1)) ∧ (decode cX9_number 61 = .ok (.getfield 19, 3) ∧ decode cX9_number 64 = .ok (.iaload, 1))) ∧ ((decode cX9_number 65 = .ok (.iadd, 1) ∧ decode cX9_number 66 = .ok (.bipush 48, 2)) ∧ (decode cX9_number 68 = .ok (.isub, 1) ∧ decode cX9_number 69 = .ok (.istore_n 3, 1)))) ∧ (((decode cX9_number 70 = .ok (.iinc 4 1, 3) ∧ decode cX9_number 73 = .ok (.aload_n 0, 1)) ∧ (decode cX9_number 74 = .ok (.dup, 1) ∧ decode cX9_number 75 = .ok (.getfield 19, 3))) ∧ ((decode cX9_number 78 = .ok (.iconst 1, 1) ∧ decode cX9_number 79 = .ok (.iadd, 1)) ∧ (decode cX9_number 80 = .ok (.putfield 19, 3) ∧ decode cX9_number 83 = .ok (.goto (-78), 3))))) := by decide +kernel
theorem dX9_number_57 : decode cX9_number 57 = .ok (.getfield 9, 3) := dX9_number_57_z.1.1.1.1
theorem dX9_number_60 : decode cX9_number 60 = .ok (.aload_n 0, 1) := dX9_number_57_z.1.1.1.2
theorem dX9_number_61 : decode cX9_number 61 = .ok (.getfield 19, 3) := dX9_number_57_z.1.1.2.1
theorem dX9_number_64 : decode cX9_number 64 = .ok (.iaload, 1) := dX9_number_57_z.1.1.2.2
theorem dX9_number_65 : decode cX9_number 65 = .ok (.iadd, 1) := dX9_number_57_z.1.2.1.1
theorem dX9_number_66 : decode cX9_number 66 = .ok (.bipush 48, 2) := dX9_number_57_z.1.2.1.2
theorem dX9_number_68 : decode cX9_number 68 = .ok (.isub, 1) := dX9_number_57_z.1.2.2.1
theorem dX9_number_69 : decode cX9_number 69 = .ok (.istore_n 3, 1) := dX9_number_57_z.1.2.2.2
theorem dX9_number_70 : decode cX9_number 70 = .ok (.iinc 4 1, 3) := dX9_number_57_z.2.1.1.1
theorem dX9_number_73 : decode cX9_number 73 = .ok (.aload_n 0, 1) := dX9_number_57_z.2.1.1.2
theorem dX9_number_74 : decode cX9_number 74 = .ok (.dup, 1) := dX9_number_57_z.2.1.2.1
theorem dX9_number_75 : decode cX9_number 75 = .ok (.getfield 19, 3) := dX9_number_57_z.2.1.2.2
theorem dX9_number_78 : decode cX9_number 78 = .ok (.iconst 1, 1) := dX9_number_57_z.2.2.1.1
theorem dX9_number_79 : decode cX9_number 79 = .ok (.iadd, 1) := dX9_number_57_z.2.2.1.2
theorem dX9_number_80 : decode cX9_number 80 = .ok (.putfield 19, 3) := dX9_number_57_z.2.2.2.1
theorem dX9_number_83 : decode cX9_number 83 = .ok (.goto (-78), 3) := dX9_number_57_z.2.2.2.2
set_option maxRecDepth 100000 in
theorem dX9_number_86_z : ((((decode cX9_number 86 = .ok (.iload 4, 2) ∧ decode cX9_number 88 = .ok (.ifCond .ne 5, 3)) ∧ (decode cX9_number 91 = .ok (.iconst (-1), 1) ∧ decode cX9_number 92 = .ok (.ireturn, 1))) ∧ ((decode cX9_number 93 = .ok (.iload_n 3, 1) ∧ decode cX9_number 94 = .ok (.iload_n 2, 1)) ∧ (decode cX9_number 95 = .ok (.if_icmp .le 15, 3) ∧ decode cX9_number 98 = .ok (.aload_n 0, 1)))) ∧ (((decode cX9_number 99 = .ok (.dup, 1) ∧ decode cX9_number 100 = .ok (.getfield 19, 3)) ∧ (decode cX9_number 103 = .ok (.iconst 1, 1) ∧ decode cX9_number 104 = .ok (.isub, 1))) ∧ ((decode cX9_number 105 = .ok (.putfield 19, 3) ∧ decode cX9_number 108 = .ok (.iconst (-1), 1)) ∧ (decode cX9_number 109 = .ok (.ireturn, 1) ∧ decode cX9_number 110 = .ok (.iload_n 3, 1))))) := by decide +kernel
theorem dX9_number_86 : decode cX9_number 86 = .ok (.iload 4, 2) := dX9_number_86_z.1.1.1.1
theorem dX9_number_88 : decode cX9_number 88 = .ok (.ifCond .ne 5, 3) := dX9_number_86_z.1.1.1.2
theorem dX9_number_91 : decode cX9_number 91 = .ok (.iconst (-1), 1) := dX9_number_86_z.1.1.2.1
theorem dX9_number_92 : decode cX9_number 92 = .ok (.ireturn, 1) := dX9_number_86_z.1.1.2.2
theorem dX9_number_93 : decode cX9_number 93 = .ok (.iload_n 3, 1) := dX9_number_86_z.1.2.1.1
theorem dX9_number_94 : decode cX9_number 94 = .ok (.iload_n 2, 1) := dX9_number_86_z.1.2.1.2
theorem dX9_number_95 : decode cX9_number 95 = .ok (.if_icmp .le 15, 3) := dX9_number_86_z.1.2.2.1
theorem dX9_number_98 : decode cX9_number 98 = .ok (.aload_n 0, 1) := dX9_number_86_z.1.2.2.2
theorem dX9_number_99 : decode cX9_number 99 = .ok (.dup, 1) := dX9_number_86_z.2.1.1.1
theorem dX9_number_100 : decode cX9_number 100 = .ok (.getfield 19, 3) := dX9_number_86_z.2.1.1.2
theorem dX9_number_103 : decode cX9_number 103 = .ok (.iconst 1, 1) := dX9_number_86_z.2.1.2.1
theorem dX9_number_104 : decode cX9_number 104 = .ok (.isub, 1) := dX9_number_86_z.2.1.2.2
theorem dX9_number_105 : decode cX9_number 105 = .ok (.putfield 19, 3) := dX9_number_86_z.2.2.1.1
theorem dX9_number_108 : decode cX9_number 108 = .ok (.iconst (-1), 1) := dX9_number_86_z.2.2.1.2
theorem dX9_number_109 : decode cX9_number 109 = .ok (.ireturn, 1) := dX9_number_86_z.2.2.2.1
theorem dX9_number_110 : decode cX9_number 110 = .ok (.iload_n 3, 1) := dX9_number_86_z.2.2.2.2
theorem dX9_number_111 : decode cX9_number 111 = .ok (.ireturn, 1) := by decide +kernel
set_option maxRecDepth 100000 in
theorem dX10_feed_0_z : ((((decode cX10_feed 0 = .ok (.aload_n 0, 1) ∧ decode cX10_feed 1 = .ok (.getfield 10, 3)) ∧ (decode cX10_feed 4 = .ok (.getfield 96, 3) ∧ decode cX10_feed 7 = .ok (.istore 6, 2))) ∧ ((decode cX10_feed 9 = .ok (.aload_n 0, 1) ∧ decode cX10_feed 10 = .ok (.getfield 10, 3)) ∧ (decode cX10_feed 13 = .ok (.iload_n 1, 1) ∧ decode cX10_feed 14 = .ok (.invokevirtual 99, 3)))) ∧ (((decode cX10_feed 17 = .ok (.aload_n 0, 1) ∧ decode cX10_feed 18 = .ok (.getfield 10, 3)) ∧ (decode cX10_feed 21 = .ok (.iload_n 2, 1) ∧ decode cX10_feed 22 = .ok (.invokevirtual 99, 3))) ∧ ((decode cX10_feed 25 = .ok (.aload_n 0, 1) ∧ decode cX10_feed 26 = .ok (.getfield 10, 3)) ∧ (decode cX10_feed 29 = .ok (.iload_n 3, 1) ∧ decode cX10_feed 30 = .ok (.invokevirtual 99, 3))))) := by decide +kernel
theorem dX10_feed_0 : decode cX10_feed 0 = .ok (.aload_n 0, 1) := dX10_feed_0_z.1.1.1.1
theorem dX10_feed_1 : decode cX10_feed 1 = .ok (.getfield 10, 3) := dX10_feed_0_z.1.1.1.2
theorem dX10_feed_4 : decode cX10_feed 4 = .ok (.getfield 96, 3) := dX10_feed_0_z.1.1.2.1
theorem dX10_feed_7 : decode cX10_feed 7 = .ok (.istore 6, 2) := dX10_feed_0_z.1.1.2.2
theorem dX10_feed_9 : decode cX10_feed 9 = .ok (.aload_n 0, 1) := dX10_feed_0_z.1.2.1.1
theorem dX10_feed_10 : decode cX10_feed 10 = .ok (.getfield 10, 3) := dX10_feed_0_z.1.2.1.2
theorem dX10_feed_13 : decode cX10_feed 13 = .ok (.iload_n 1, 1) := dX10_feed_0_z.1.2.2.1
theorem dX10_feed_14 : decode cX10_feed 14 = .ok (.invokevirtual 99, 3) := dX10_feed_0_z.1.2.2.2
theorem dX10_feed_17 : decode cX10_feed 17 = .ok (.aload_n 0, 1) := dX10_feed_0_z.2.1.1.1
theorem dX10_feed_18 : decode cX10_feed 18 = .ok (.getfield 10, 3) := dX10_feed_0_z.2.1.1.2
theorem dX10_feed_21 : decode cX10_feed 21 = .ok (.iload_n 2, 1) := dX10_feed_0_z.2.1.2.1
theorem dX10_feed_22 : decode cX10_feed 22 = .ok (.invokevirtual 99, 3) := dX10_feed_0_z.2.1.2.2
theorem dX10_feed_25 : decode cX10_feed 25 = .ok (.aload_n 0, 1) := dX10_feed_0_z.2.2.1.1
theorem dX10_feed_26 : decode cX10_feed 26 = .ok (.getfield 10, 3) := dX10_feed_0_z.2.2.1.2
theorem dX10_feed_29 : decode cX10_feed 29 = .ok (.iload_n 3, 1) := dX10_feed_0_z.2.2.2.1
theorem dX10_feed_30 : decode cX10_feed 30 = .ok (.invokevirtual 99, 3) := dX10_feed_0_z.2.2.2.2
set_option maxRecDepth 100000 in
theorem dX10_feed_33_z : ((((decode cX10_feed 33 = .ok (.aload_n 0, 1) ∧ decode cX10_feed 34 = .ok (.getfield 10, 3)) ∧ (decode cX10_feed 37 = .ok (.iload 4, 2) ∧ decode cX10_feed 39 = .ok (.invokevirtual 99, 3))) ∧ ((decode cX10_feed 42 = .ok (.aload_n 0, 1) ∧ decode cX10_feed 43 = .ok (.getfield 10, 3)) ∧ (decode cX10_feed 46 = .ok (.iload 5, 2) ∧ decode cX10_feed 48 = .ok (.invokevirtual 99, 3)))) ∧ (((decode cX10_feed 51 = .ok (.aload_n 0, 1) ∧ decode cX10_feed 52 = .ok (.getfield 10, 3)) ∧ (decode cX10_feed 55 = .ok (.getfield 96, 3) ∧ decode cX10_feed 58 = .ok (.sipush 240, 3))) ∧ ((decode cX10_feed 61 = .ok (.if_icmp .le 14, 3) ∧ decode cX10_feed 64 = .ok (.aload_n 0, 1)) ∧ (decode cX10_feed 65 = .ok (.getfield 10, 3) ∧ decode cX10_feed 68 = .ok (.iload 6, 2))))) := by decide +kernel
theorem dX10_feed_33 : decode cX10_feed 33 = .ok (.aload_n 0, 1) := dX10_feed_33_z.1.1.1.1
theorem dX10_feed_34 : decode cX10_feed 34 = .ok (.getfield 10, 3) := dX10_feed_33_z.1.1.1.2
theorem dX10_feed_37 : decode cX10_feed 37 = .ok (.iload 4, 2) := dX10_feed_33_z.1.1.2.1
theorem dX10_feed_39 : decode cX10_feed 39 = .ok (.invokevirtual 99, 3) := dX10_feed_33_z.1.1.2.2
theorem dX10_feed_42 : decode cX10_feed 42 = .ok (.aload_n 0, 1) := dX10_feed_33_z.1.2.1.1
theorem dX10_feed_43 : decode cX10_feed 43 = .ok (.getfield 10, 3) := dX10_feed_33_z.1.2.1.2
theorem dX10_feed_46 : decode cX10_feed 46 = .ok (.iload 5, 2) := dX10_feed_33_z.1.2.2.1
theorem dX10_feed_48 : decode cX10_feed 48 = .ok (.invokevirtual 99, 3) := dX10_feed_33_z.1.2.2.2
theorem dX10_feed_51 : decode cX10_feed 51 = .ok (.aload_n 0, 1) := dX10_feed_33_z.2.1.1.1
theorem dX10_feed_52 : decode cX10_feed 52 = .ok (.getfield 10, 3) := dX10_feed_33_z.2.1.1.2
theorem dX10_feed_55 : decode cX10_feed 55 = .ok (.getfield 96, 3) := dX10_feed_33_z.2.1.2.1
theorem dX10_feed_58 : decode cX10_feed 58 = .ok (.sipush 240, 3) := dX10_feed_33_z.2.1.2.2
theorem dX10_feed_61 : decode cX10_feed 61 = .ok (.if_icmp .le 14, 3) := dX10_feed_33_z.2.2.1.1
theorem dX10_feed_64 : decode cX10_feed 64 = .ok (.aload_n 0, 1) := dX10_feed_33_z.2.2.1.2
theorem dX10_feed_65 : decode cX10_feed 65 = .ok (.getfield 10, 3) := dX10_feed_33_z.2.2.2.1
theorem dX10_feed_68 : decode cX10_feed 68 = .ok (.iload 6, 2) := dX10_feed_33_z.2.2.2.2
set_option maxRecDepth 100000 in
theorem dX10_feed_70_z : (((decode cX10_feed 70 = .ok (.putfield 96, 3) ∧ decode cX10_feed 73 = .ok (.iconst (-1), 1)) ∧ (decode cX10_feed 74 = .ok (.ireturn, 1) ∧ decode cX10_feed 75 = .ok (.aload_n 0, 1))) ∧ ((decode cX10_feed 76 = .ok (.getfield 10, 3) ∧ decode cX10_feed 79 = .ok (.getfield 96, 3)) ∧ decode cX10_feed 82 = .ok (.ireturn, 1))) := by decide +kernel
theorem dX10_feed_70 : decode cX10_feed 70 = .ok (.putfield 96, 3) := dX10_feed_70_z.1.1.1
theorem dX10_feed_73 : decode cX10_feed 73 = .ok (.iconst (-1), 1) := dX10_feed_70_z.1.1.2
theorem dX10_feed_74 : decode cX10_feed 74 = .ok (.ireturn, 1) := dX10_feed_70_z.1.2.1
theorem dX10_feed_75 : decode cX10_feed 75 = .ok (.aload_n 0, 1) := dX10_feed_70_z.1.2.2
theorem dX10_feed_76 : decode cX10_feed 76 = .ok (.getfield 10, 3) := dX10_feed_70_z.2.1.1
theorem dX10_feed_79 : decode cX10_feed 79 = .ok (.getfield 96, 3) := dX10_feed_70_z.2.1.2
theorem dX10_feed_82 : decode cX10_feed 82 = .ok (.ireturn, 1) := dX10_feed_70_z.2.2
set_option maxRecDepth 100000 in
theorem dX10_end_0_z : ((((decode cX10_end 0 = .ok (.iload_n 1, 1) ∧ decode cX10_end 1 = .ok (.ifCond .lt 14, 3)) ∧ (decode cX10_end 4 = .ok (.iload_n 1, 1) ∧ decode cX10_end 5 = .ok (.aload_n 0, 1))) ∧ ((decode cX10_end 6 = .ok (.getfield 10, 3) ∧ decode cX10_end 9 = .ok (.getfield 96, 3)) ∧ (decode cX10_end 12 = .ok (.if_icmp .le 5, 3) ∧ decode cX10_end 15 = .ok (.iconst 0, 1)))) ∧ (((decode cX10_end 16 = .ok (.ireturn, 1) ∧ decode cX10_end 17 = .ok (.aload_n 0, 1)) ∧ (decode cX10_end 18 = .ok (.getfield 10, 3) ∧ decode cX10_end 21 = .ok (.iload_n 1, 1))) ∧ ((decode cX10_end 22 = .ok (.putfield 96, 3) ∧ decode cX10_end 25 = .ok (.iconst 1, 1)) ∧ decode cX10_end 26 = .ok (.ireturn, 1)))) := by decide +kernel
theorem dX10_end_0 : decode cX10_end 0 = .ok (.iload_n 1, 1) := dX10_end_0_z.1.1.1.1
theorem dX10_end_1 : decode cX10_end 1 = .ok (.ifCond .lt 14, 3) := dX10_end_0_z.1.1.1.2
theorem dX10_end_4 : decode cX10_end 4 = .ok (.iload_n 1, 1) := dX10_end_0_z.1.1.2.1
theorem dX10_end_5 : decode cX10_end 5 = .ok (.aload_n 0, 1) := dX10_end_0_z.1.1.2.2
theorem dX10_end_6 : decode cX10_end 6 = .ok (.getfield 10, 3) := dX10_end_0_z.1.2.1.1
theorem dX10_end_9 : decode cX10_end 9 = .ok (.getfield 96, 3) := dX10_end_0_z.1.2.1.2
theorem dX10_end_12 : decode cX10_end 12 = .ok (.if_icmp .le 5, 3) := dX10_end_0_z.1.2.2.1
theorem dX10_end_15 : decode cX10_end 15 = .ok (.iconst 0, 1) := dX10_end_0_z.1.2.2.2
theorem dX10_end_16 : decode cX10_end 16 = .ok (.ireturn, 1) := dX10_end_0_z.2.1.1.1
theorem dX10_end_17 : decode cX10_end 17 = .ok (.aload_n 0, 1) := dX10_end_0_z.2.1.1.2
theorem dX10_end_18 : decode cX10_end 18 = .ok (.getfield 10, 3) := dX10_end_0_z.2.1.2.1
theorem dX10_end_21 : decode cX10_end 21 = .ok (.iload_n 1, 1) := dX10_end_0_z.2.1.2.2
theorem dX10_end_22 : decode cX10_end 22 = .ok (.putfield 96, 3) := dX10_end_0_z.2.2.1.1
theorem dX10_end_25 : decode cX10_end 25 = .ok (.iconst 1, 1) := dX10_end_0_z.2.2.1.2
theorem dX10_end_26 : decode cX10_end 26 = .ok (.ireturn, 1) := dX10_end_0_z.2.2.2
set_option maxRecDepth 100000 in
theorem dX10_rule_0_z : ((((decode cX10_rule 0 = .ok (.aload_n 0, 1) ∧ decode cX10_rule 1 = .ok (.invokevirtual 141, 3)) ∧ (decode cX10_rule 4 = .ok (.ifCond .ne 5, 3) ∧ decode cX10_rule 7 = .ok (.iconst (-1), 1))) ∧ ((decode cX10_rule 8 = .ok (.ireturn, 1) ∧ decode cX10_rule 9 = .ok (.iload_n 1, 1)) ∧ (decode cX10_rule 10 = .ok (.tableswitch 50 0 2 #[26, 34, 42], 26) ∧ decode cX10_rule 36 = .ok (.aload_n 0, 1)))) ∧ (((decode cX10_rule 37 = .ok (.getfield 49, 3) ∧ decode cX10_rule 40 = .ok (.getfield 145, 3)) ∧ (decode cX10_rule 43 = .ok (.ireturn, 1) ∧ decode cX10_rule 44 = .ok (.aload_n 0, 1))) ∧ ((decode cX10_rule 45 = .ok (.getfield 37, 3) ∧ decode cX10_rule 48 = .ok (.invokevirtual 148, 3)) ∧ (decode cX10_rule 51 = .ok (.ireturn, 1) ∧ decode cX10_rule 52 = .ok (.aload_n 0, 1))))) := by decide +kernel
theorem dX10_rule_0 : decode cX10_rule 0 = .ok (.aload_n 0, 1) := dX10_rule_0_z.1.1.1.1
theorem dX10_rule_1 : decode cX10_rule 1 = .ok (.invokevirtual 141, 3) := dX10_rule_0_z.1.1.1.2
theorem dX10_rule_4 : decode cX10_rule 4 = .ok (.ifCond .ne 5, 3) := dX10_rule_0_z.1.1.2.1
theorem dX10_rule_7 : decode cX10_rule 7 = .ok (.iconst (-1), 1) := dX10_rule_0_z.1.1.2.2
theorem dX10_rule_8 : decode cX10_rule 8 = .ok (.ireturn, 1) := dX10_rule_0_z.1.2.1.1
theorem dX10_rule_9 : decode cX10_rule 9 = .ok (.iload_n 1, 1) := dX10_rule_0_z.1.2.1.2
theorem dX10_rule_10 : decode cX10_rule 10 = .ok (.tableswitch 50 0 2 #[26, 34, 42], 26) := dX10_rule_0_z.1.2.2.1
theorem dX10_rule_36 : decode cX10_rule 36 = .ok (.aload_n 0, 1) := dX10_rule_0_z.1.2.2.2
theorem dX10_rule_37 : decode cX10_rule 37 = .ok (.getfield 49, 3) := dX10_rule_0_z.2.1.1.1
theorem dX10_rule_40 : decode cX10_rule 40 = .ok (.getfield 145, 3) := dX10_rule_0_z.2.1.1.2
theorem dX10_rule_43 : decode cX10_rule 43 = .ok (.ireturn, 1) := dX10_rule_0_z.2.1.2.1
theorem dX10_rule_44 : decode cX10_rule 44 = .ok (.aload_n 0, 1) := dX10_rule_0_z.2.1.2.2
theorem dX10_rule_45 : decode cX10_rule 45 = .ok (.getfield 37, 3) := dX10_rule_0_z.2.2.1.1
theorem dX10_rule_48 : decode cX10_rule 48 = .ok (.invokevirtual 148, 3) := dX10_rule_0_z.2.2.1.2
theorem dX10_rule_51 : decode cX10_rule 51 = .ok (.ireturn, 1) := dX10_rule_0_z.2.2.2.1
theorem dX10_rule_52 : decode cX10_rule 52 = .ok (.aload_n 0, 1) := dX10_rule_0_z.2.2.2.2
set_option maxRecDepth 100000 in
theorem dX10_rule_53_z : (((decode cX10_rule 53 = .ok (.getfield 37, 3) ∧ decode cX10_rule 56 = .ok (.invokevirtual 151, 3)) ∧ decode cX10_rule 59 = .ok (.ireturn, 1)) ∧ (decode cX10_rule 60 = .ok (.iconst (-1), 1) ∧ decode cX10_rule 61 = .ok (.ireturn, 1))) := by decide +kernel
theorem dX10_rule_53 : decode cX10_rule 53 = .ok (.getfield 37, 3) := dX10_rule_53_z.1.1.1
theorem dX10_rule_56 : decode cX10_rule 56 = .ok (.invokevirtual 151, 3) := dX10_rule_53_z.1.1.2
theorem dX10_rule_59 : decode cX10_rule 59 = .ok (.ireturn, 1) := dX10_rule_53_z.1.2
theorem dX10_rule_60 : decode cX10_rule 60 = .ok (.iconst (-1), 1) := dX10_rule_53_z.2.1
theorem dX10_rule_61 : decode cX10_rule 61 = .ok (.ireturn, 1) := dX10_rule_53_z.2.2
set_option maxRecDepth 100000 in
theorem dX10_painter_0_z : ((((decode cX10_painter 0 = .ok (.aload_n 0, 1) ∧ decode cX10_painter 1 = .ok (.iload_n 1, 1)) ∧ (decode cX10_painter 2 = .ok (.invokevirtual 184, 3) ∧ decode cX10_painter 5 = .ok (.ifCond .ne 5, 3))) ∧ ((decode cX10_painter 8 = .ok (.iconst (-1), 1) ∧ decode cX10_painter 9 = .ok (.ireturn, 1)) ∧ (decode cX10_painter 10 = .ok (.iload_n 2, 1) ∧ decode cX10_painter 11 = .ok (.tableswitch 66 0 3 #[29, 38, 47, 57], 29)))) ∧ (((decode cX10_painter 40 = .ok (.aload_n 0, 1) ∧ decode cX10_painter 41 = .ok (.getfield 37, 3)) ∧ (decode cX10_painter 44 = .ok (.iload_n 1, 1) ∧ decode cX10_painter 45 = .ok (.invokevirtual 187, 3))) ∧ ((decode cX10_painter 48 = .ok (.ireturn, 1) ∧ decode cX10_painter 49 = .ok (.aload_n 0, 1)) ∧ (decode cX10_painter 50 = .ok (.getfield 37, 3) ∧ decode cX10_painter 53 = .ok (.iload_n 1, 1))))) := by decide +kernel
theorem dX10_painter_0 : decode cX10_painter 0 = .ok (.aload_n 0, 1) := dX10_painter_0_z.1.1.1.1
theorem dX10_painter_1 : decode cX10_painter 1 = .ok (.iload_n 1, 1) := dX10_painter_0_z.1.1.1.2
theorem dX10_painter_2 : decode cX10_painter 2 = .ok (.invokevirtual 184, 3) := dX10_painter_0_z.1.1.2.1
theorem dX10_painter_5 : decode cX10_painter 5 = .ok (.ifCond .ne 5, 3) := dX10_painter_0_z.1.1.2.2
theorem dX10_painter_8 : decode cX10_painter 8 = .ok (.iconst (-1), 1) := dX10_painter_0_z.1.2.1.1
theorem dX10_painter_9 : decode cX10_painter 9 = .ok (.ireturn, 1) := dX10_painter_0_z.1.2.1.2
theorem dX10_painter_10 : decode cX10_painter 10 = .ok (.iload_n 2, 1) := dX10_painter_0_z.1.2.2.1
theorem dX10_painter_11 : decode cX10_painter 11 = .ok (.tableswitch 66 0 3 #[29, 38, 47, 57], 29) := dX10_painter_0_z.1.2.2.2
theorem dX10_painter_40 : decode cX10_painter 40 = .ok (.aload_n 0, 1) := dX10_painter_0_z.2.1.1.1
theorem dX10_painter_41 : decode cX10_painter 41 = .ok (.getfield 37, 3) := dX10_painter_0_z.2.1.1.2
theorem dX10_painter_44 : decode cX10_painter 44 = .ok (.iload_n 1, 1) := dX10_painter_0_z.2.1.2.1
theorem dX10_painter_45 : decode cX10_painter 45 = .ok (.invokevirtual 187, 3) := dX10_painter_0_z.2.1.2.2
theorem dX10_painter_48 : decode cX10_painter 48 = .ok (.ireturn, 1) := dX10_painter_0_z.2.2.1.1
theorem dX10_painter_49 : decode cX10_painter 49 = .ok (.aload_n 0, 1) := dX10_painter_0_z.2.2.1.2
theorem dX10_painter_50 : decode cX10_painter 50 = .ok (.getfield 37, 3) := dX10_painter_0_z.2.2.2.1
theorem dX10_painter_53 : decode cX10_painter 53 = .ok (.iload_n 1, 1) := dX10_painter_0_z.2.2.2.2
set_option maxRecDepth 100000 in
theorem dX10_painter_54_z : ((((decode cX10_painter 54 = .ok (.invokevirtual 190, 3) ∧ decode cX10_painter 57 = .ok (.ireturn, 1)) ∧ (decode cX10_painter 58 = .ok (.aload_n 0, 1) ∧ decode cX10_painter 59 = .ok (.getfield 49, 3))) ∧ ((decode cX10_painter 62 = .ok (.getfield 193, 3) ∧ decode cX10_painter 65 = .ok (.iload_n 1, 1)) ∧ (decode cX10_painter 66 = .ok (.iaload, 1) ∧ decode cX10_painter 67 = .ok (.ireturn, 1)))) ∧ (((decode cX10_painter 68 = .ok (.aload_n 0, 1) ∧ decode cX10_painter 69 = .ok (.getfield 37, 3)) ∧ (decode cX10_painter 72 = .ok (.iload_n 1, 1) ∧ decode cX10_painter 73 = .ok (.invokevirtual 196, 3))) ∧ ((decode cX10_painter 76 = .ok (.ireturn, 1) ∧ decode cX10_painter 77 = .ok (.iconst (-1), 1)) ∧ decode cX10_painter 78 = .ok (.ireturn, 1)))) := by decide +kernel
theorem dX10_painter_54 : decode cX10_painter 54 = .ok (.invokevirtual 190, 3) := dX10_painter_54_z.1.1.1.1
theorem dX10_painter_57 : decode cX10_painter 57 = .ok (.ireturn, 1) := dX10_painter_54_z.1.1.1.2
theorem dX10_painter_58 : decode cX10_painter 58 = .ok (.aload_n 0, 1) := dX10_painter_54_z.1.1.2.1
theorem dX10_painter_59 : decode cX10_painter 59 = .ok (.getfield 49, 3) := dX10_painter_54_z.1.1.2.2
theorem dX10_painter_62 : decode cX10_painter 62 = .ok (.getfield 193, 3) := dX10_painter_54_z.1.2.1.1
theorem dX10_painter_65 : decode cX10_painter 65 = .ok (.iload_n 1, 1) := dX10_painter_54_z.1.2.1.2
theorem dX10_painter_66 : decode cX10_painter 66 = .ok (.iaload, 1) := dX10_painter_54_z.1.2.2.1
theorem dX10_painter_67 : decode cX10_painter 67 = .ok (.ireturn, 1) := dX10_painter_54_z.1.2.2.2
theorem dX10_painter_68 : decode cX10_painter 68 = .ok (.aload_n 0, 1) := dX10_painter_54_z.2.1.1.1
theorem dX10_painter_69 : decode cX10_painter 69 = .ok (.getfield 37, 3) := dX10_painter_54_z.2.1.1.2
theorem dX10_painter_72 : decode cX10_painter 72 = .ok (.iload_n 1, 1) := dX10_painter_54_z.2.1.2.1
theorem dX10_painter_73 : decode cX10_painter 73 = .ok (.invokevirtual 196, 3) := dX10_painter_54_z.2.1.2.2
theorem dX10_painter_76 : decode cX10_painter 76 = .ok (.ireturn, 1) := dX10_painter_54_z.2.2.1.1
theorem dX10_painter_77 : decode cX10_painter 77 = .ok (.iconst (-1), 1) := dX10_painter_54_z.2.2.1.2
theorem dX10_painter_78 : decode cX10_painter 78 = .ok (.ireturn, 1) := dX10_painter_54_z.2.2.2
set_option maxRecDepth 100000 in
theorem dX10_flattery_0_z : ((((decode cX10_flattery 0 = .ok (.aload_n 0, 1) ∧ decode cX10_flattery 1 = .ok (.iload_n 1, 1)) ∧ (decode cX10_flattery 2 = .ok (.invokevirtual 184, 3) ∧ decode cX10_flattery 5 = .ok (.ifCond .eq 11, 3))) ∧ ((decode cX10_flattery 8 = .ok (.aload_n 0, 1) ∧ decode cX10_flattery 9 = .ok (.iload_n 2, 1)) ∧ (decode cX10_flattery 10 = .ok (.invokevirtual 154, 3) ∧ decode cX10_flattery 13 = .ok (.ifCond .ne 5, 3)))) ∧ (((decode cX10_flattery 16 = .ok (.iconst (-1), 1) ∧ decode cX10_flattery 17 = .ok (.ireturn, 1)) ∧ (decode cX10_flattery 18 = .ok (.aload_n 0, 1) ∧ decode cX10_flattery 19 = .ok (.getfield 68, 3))) ∧ ((decode cX10_flattery 22 = .ok (.iload_n 1, 1) ∧ decode cX10_flattery 23 = .ok (.aload_n 0, 1)) ∧ (decode cX10_flattery 24 = .ok (.getfield 49, 3) ∧ decode cX10_flattery 27 = .ok (.getfield 171, 3))))) := by decide +kernel
theorem dX10_flattery_0 : decode cX10_flattery 0 = .ok (.aload_n 0, 1) := dX10_flattery_0_z.1.1.1.1
theorem dX10_flattery_1 : decode cX10_flattery 1 = .ok (.iload_n 1, 1) := dX10_flattery_0_z.1.1.1.2
theorem dX10_flattery_2 : decode cX10_flattery 2 = .ok (.invokevirtual 184, 3) := dX10_flattery_0_z.1.1.2.1
theorem dX10_flattery_5 : decode cX10_flattery 5 = .ok (.ifCond .eq 11, 3) := dX10_flattery_0_z.1.1.2.2
theorem dX10_flattery_8 : decode cX10_flattery 8 = .ok (.aload_n 0, 1) := dX10_flattery_0_z.1.2.1.1
theorem dX10_flattery_9 : decode cX10_flattery 9 = .ok (.iload_n 2, 1) := dX10_flattery_0_z.1.2.1.2
theorem dX10_flattery_10 : decode cX10_flattery 10 = .ok (.invokevirtual 154, 3) := dX10_flattery_0_z.1.2.2.1
theorem dX10_flattery_13 : decode cX10_flattery 13 = .ok (.ifCond .ne 5, 3) := dX10_flattery_0_z.1.2.2.2
theorem dX10_flattery_16 : decode cX10_flattery 16 = .ok (.iconst (-1), 1) := dX10_flattery_0_z.2.1.1.1
theorem dX10_flattery_17 : decode cX10_flattery 17 = .ok (.ireturn, 1) := dX10_flattery_0_z.2.1.1.2
theorem dX10_flattery_18 : decode cX10_flattery 18 = .ok (.aload_n 0, 1) := dX10_flattery_0_z.2.1.2.1
theorem dX10_flattery_19 : decode cX10_flattery 19 = .ok (.getfield 68, 3) := dX10_flattery_0_z.2.1.2.2
theorem dX10_flattery_22 : decode cX10_flattery 22 = .ok (.iload_n 1, 1) := dX10_flattery_0_z.2.2.1.1
theorem dX10_flattery_23 : decode cX10_flattery 23 = .ok (.aload_n 0, 1) := dX10_flattery_0_z.2.2.1.2
theorem dX10_flattery_24 : decode cX10_flattery 24 = .ok (.getfield 49, 3) := dX10_flattery_0_z.2.2.2.1
theorem dX10_flattery_27 : decode cX10_flattery 27 = .ok (.getfield 171, 3) := dX10_flattery_0_z.2.2.2.2
set_option maxRecDepth 100000 in
theorem dX10_flattery_30_z : ((decode cX10_flattery 30 = .ok (.iload_n 2, 1) ∧ decode cX10_flattery 31 = .ok (.iaload, 1)) ∧ (decode cX10_flattery 32 = .ok (.invokevirtual 203, 3) ∧ decode cX10_flattery 35 = .ok (.ireturn, 1))) := by decide +kernel
theorem dX10_flattery_30 : decode cX10_flattery 30 = .ok (.iload_n 2, 1) := dX10_flattery_30_z.1.1
theorem dX10_flattery_31 : decode cX10_flattery 31 = .ok (.iaload, 1) := dX10_flattery_30_z.1.2
theorem dX10_flattery_32 : decode cX10_flattery 32 = .ok (.invokevirtual 203, 3) := dX10_flattery_30_z.2.1
theorem dX10_flattery_35 : decode cX10_flattery 35 = .ok (.ireturn, 1) := dX10_flattery_30_z.2.2
set_option maxRecDepth 100000 in
theorem dX10_shown_0_z : ((((decode cX10_shown 0 = .ok (.aload_n 0, 1) ∧ decode cX10_shown 1 = .ok (.iload_n 1, 1)) ∧ (decode cX10_shown 2 = .ok (.invokevirtual 184, 3) ∧ decode cX10_shown 5 = .ok (.ifCond .eq 18, 3))) ∧ ((decode cX10_shown 8 = .ok (.aload_n 0, 1) ∧ decode cX10_shown 9 = .ok (.iload_n 2, 1)) ∧ (decode cX10_shown 10 = .ok (.invokevirtual 154, 3) ∧ decode cX10_shown 13 = .ok (.ifCond .eq 10, 3)))) ∧ (((decode cX10_shown 16 = .ok (.iload_n 3, 1) ∧ decode cX10_shown 17 = .ok (.invokestatic 206, 3)) ∧ (decode cX10_shown 20 = .ok (.ifCond .ne 5, 3) ∧ decode cX10_shown 23 = .ok (.iconst (-1), 1))) ∧ ((decode cX10_shown 24 = .ok (.ireturn, 1) ∧ decode cX10_shown 25 = .ok (.aload_n 0, 1)) ∧ (decode cX10_shown 26 = .ok (.getfield 68, 3) ∧ decode cX10_shown 29 = .ok (.iload_n 1, 1))))) := by decide +kernel
theorem dX10_shown_0 : decode cX10_shown 0 = .ok (.aload_n 0, 1) := dX10_shown_0_z.1.1.1.1
theorem dX10_shown_1 : decode cX10_shown 1 = .ok (.iload_n 1, 1) := dX10_shown_0_z.1.1.1.2
theorem dX10_shown_2 : decode cX10_shown 2 = .ok (.invokevirtual 184, 3) := dX10_shown_0_z.1.1.2.1
theorem dX10_shown_5 : decode cX10_shown 5 = .ok (.ifCond .eq 18, 3) := dX10_shown_0_z.1.1.2.2
theorem dX10_shown_8 : decode cX10_shown 8 = .ok (.aload_n 0, 1) := dX10_shown_0_z.1.2.1.1
theorem dX10_shown_9 : decode cX10_shown 9 = .ok (.iload_n 2, 1) := dX10_shown_0_z.1.2.1.2
theorem dX10_shown_10 : decode cX10_shown 10 = .ok (.invokevirtual 154, 3) := dX10_shown_0_z.1.2.2.1
theorem dX10_shown_13 : decode cX10_shown 13 = .ok (.ifCond .eq 10, 3) := dX10_shown_0_z.1.2.2.2
theorem dX10_shown_16 : decode cX10_shown 16 = .ok (.iload_n 3, 1) := dX10_shown_0_z.2.1.1.1
theorem dX10_shown_17 : decode cX10_shown 17 = .ok (.invokestatic 206, 3) := dX10_shown_0_z.2.1.1.2
theorem dX10_shown_20 : decode cX10_shown 20 = .ok (.ifCond .ne 5, 3) := dX10_shown_0_z.2.1.2.1
theorem dX10_shown_23 : decode cX10_shown 23 = .ok (.iconst (-1), 1) := dX10_shown_0_z.2.1.2.2
theorem dX10_shown_24 : decode cX10_shown 24 = .ok (.ireturn, 1) := dX10_shown_0_z.2.2.1.1
theorem dX10_shown_25 : decode cX10_shown 25 = .ok (.aload_n 0, 1) := dX10_shown_0_z.2.2.1.2
theorem dX10_shown_26 : decode cX10_shown 26 = .ok (.getfield 68, 3) := dX10_shown_0_z.2.2.2.1
theorem dX10_shown_29 : decode cX10_shown 29 = .ok (.iload_n 1, 1) := dX10_shown_0_z.2.2.2.2
set_option maxRecDepth 100000 in
theorem dX10_shown_30_z : ((decode cX10_shown 30 = .ok (.iload_n 2, 1) ∧ decode cX10_shown 31 = .ok (.iload_n 3, 1)) ∧ (decode cX10_shown 32 = .ok (.invokevirtual 209, 3) ∧ decode cX10_shown 35 = .ok (.ireturn, 1))) := by decide +kernel
theorem dX10_shown_30 : decode cX10_shown 30 = .ok (.iload_n 2, 1) := dX10_shown_30_z.1.1
theorem dX10_shown_31 : decode cX10_shown 31 = .ok (.iload_n 3, 1) := dX10_shown_30_z.1.2
theorem dX10_shown_32 : decode cX10_shown 32 = .ok (.invokevirtual 209, 3) := dX10_shown_30_z.2.1
theorem dX10_shown_35 : decode cX10_shown 35 = .ok (.ireturn, 1) := dX10_shown_30_z.2.2
set_option maxRecDepth 100000 in
theorem dX10_paint_0_z : ((((decode cX10_paint 0 = .ok (.aload_n 0, 1) ∧ decode cX10_paint 1 = .ok (.iload_n 1, 1)) ∧ (decode cX10_paint 2 = .ok (.invokevirtual 184, 3) ∧ decode cX10_paint 5 = .ok (.ifCond .eq 11, 3))) ∧ ((decode cX10_paint 8 = .ok (.aload_n 0, 1) ∧ decode cX10_paint 9 = .ok (.iload_n 2, 1)) ∧ (decode cX10_paint 10 = .ok (.invokevirtual 154, 3) ∧ decode cX10_paint 13 = .ok (.ifCond .ne 9, 3)))) ∧ (((decode cX10_paint 16 = .ok (.aload_n 0, 1) ∧ decode cX10_paint 17 = .ok (.iconst 0, 1)) ∧ (decode cX10_paint 18 = .ok (.invokevirtual 213, 3) ∧ decode cX10_paint 21 = .ok (.ireturn, 1))) ∧ ((decode cX10_paint 22 = .ok (.aload_n 0, 1) ∧ decode cX10_paint 23 = .ok (.getfield 49, 3)) ∧ (decode cX10_paint 26 = .ok (.getfield 145, 3) ∧ decode cX10_paint 29 = .ok (.aload_n 0, 1))))) := by decide +kernel
theorem dX10_paint_0 : decode cX10_paint 0 = .ok (.aload_n 0, 1) := dX10_paint_0_z.1.1.1.1
theorem dX10_paint_1 : decode cX10_paint 1 = .ok (.iload_n 1, 1) := dX10_paint_0_z.1.1.1.2
theorem dX10_paint_2 : decode cX10_paint 2 = .ok (.invokevirtual 184, 3) := dX10_paint_0_z.1.1.2.1
theorem dX10_paint_5 : decode cX10_paint 5 = .ok (.ifCond .eq 11, 3) := dX10_paint_0_z.1.1.2.2
theorem dX10_paint_8 : decode cX10_paint 8 = .ok (.aload_n 0, 1) := dX10_paint_0_z.1.2.1.1
theorem dX10_paint_9 : decode cX10_paint 9 = .ok (.iload_n 2, 1) := dX10_paint_0_z.1.2.1.2
theorem dX10_paint_10 : decode cX10_paint 10 = .ok (.invokevirtual 154, 3) := dX10_paint_0_z.1.2.2.1
theorem dX10_paint_13 : decode cX10_paint 13 = .ok (.ifCond .ne 9, 3) := dX10_paint_0_z.1.2.2.2
theorem dX10_paint_16 : decode cX10_paint 16 = .ok (.aload_n 0, 1) := dX10_paint_0_z.2.1.1.1
theorem dX10_paint_17 : decode cX10_paint 17 = .ok (.iconst 0, 1) := dX10_paint_0_z.2.1.1.2
theorem dX10_paint_18 : decode cX10_paint 18 = .ok (.invokevirtual 213, 3) := dX10_paint_0_z.2.1.2.1
theorem dX10_paint_21 : decode cX10_paint 21 = .ok (.ireturn, 1) := dX10_paint_0_z.2.1.2.2
theorem dX10_paint_22 : decode cX10_paint 22 = .ok (.aload_n 0, 1) := dX10_paint_0_z.2.2.1.1
theorem dX10_paint_23 : decode cX10_paint 23 = .ok (.getfield 49, 3) := dX10_paint_0_z.2.2.1.2
theorem dX10_paint_26 : decode cX10_paint 26 = .ok (.getfield 145, 3) := dX10_paint_0_z.2.2.2.1
theorem dX10_paint_29 : decode cX10_paint 29 = .ok (.aload_n 0, 1) := dX10_paint_0_z.2.2.2.2
set_option maxRecDepth 100000 in
theorem dX10_paint_30_z : ((((decode cX10_paint 30 = .ok (.getfield 37, 3) ∧ decode cX10_paint 33 = .ok (.iload_n 1, 1)) ∧ (decode cX10_paint 34 = .ok (.invokevirtual 190, 3) ∧ decode cX10_paint 37 = .ok (.if_icmp .ge 9, 3))) ∧ ((decode cX10_paint 40 = .ok (.aload_n 0, 1) ∧ decode cX10_paint 41 = .ok (.iconst 2, 1)) ∧ (decode cX10_paint 42 = .ok (.invokevirtual 213, 3) ∧ decode cX10_paint 45 = .ok (.ireturn, 1)))) ∧ (((decode cX10_paint 46 = .ok (.aload_n 0, 1) ∧ decode cX10_paint 47 = .ok (.getfield 49, 3)) ∧ (decode cX10_paint 50 = .ok (.getfield 216, 3) ∧ decode cX10_paint 53 = .ok (.bipush 20, 2))) ∧ ((decode cX10_paint 55 = .ok (.if_icmp .lt 9, 3) ∧ decode cX10_paint 58 = .ok (.aload_n 0, 1)) ∧ (decode cX10_paint 59 = .ok (.iconst 4, 1) ∧ decode cX10_paint 60 = .ok (.invokevirtual 213, 3))))) := by decide +kernel
theorem dX10_paint_30 : decode cX10_paint 30 = .ok (.getfield 37, 3) := dX10_paint_30_z.1.1.1.1
theorem dX10_paint_33 : decode cX10_paint 33 = .ok (.iload_n 1, 1) := dX10_paint_30_z.1.1.1.2
theorem dX10_paint_34 : decode cX10_paint 34 = .ok (.invokevirtual 190, 3) := dX10_paint_30_z.1.1.2.1
theorem dX10_paint_37 : decode cX10_paint 37 = .ok (.if_icmp .ge 9, 3) := dX10_paint_30_z.1.1.2.2
theorem dX10_paint_40 : decode cX10_paint 40 = .ok (.aload_n 0, 1) := dX10_paint_30_z.1.2.1.1
theorem dX10_paint_41 : decode cX10_paint 41 = .ok (.iconst 2, 1) := dX10_paint_30_z.1.2.1.2
theorem dX10_paint_42 : decode cX10_paint 42 = .ok (.invokevirtual 213, 3) := dX10_paint_30_z.1.2.2.1
theorem dX10_paint_45 : decode cX10_paint 45 = .ok (.ireturn, 1) := dX10_paint_30_z.1.2.2.2
theorem dX10_paint_46 : decode cX10_paint 46 = .ok (.aload_n 0, 1) := dX10_paint_30_z.2.1.1.1
theorem dX10_paint_47 : decode cX10_paint 47 = .ok (.getfield 49, 3) := dX10_paint_30_z.2.1.1.2
theorem dX10_paint_50 : decode cX10_paint 50 = .ok (.getfield 216, 3) := dX10_paint_30_z.2.1.2.1
theorem dX10_paint_53 : decode cX10_paint 53 = .ok (.bipush 20, 2) := dX10_paint_30_z.2.1.2.2
theorem dX10_paint_55 : decode cX10_paint 55 = .ok (.if_icmp .lt 9, 3) := dX10_paint_30_z.2.2.1.1
theorem dX10_paint_58 : decode cX10_paint 58 = .ok (.aload_n 0, 1) := dX10_paint_30_z.2.2.1.2
theorem dX10_paint_59 : decode cX10_paint 59 = .ok (.iconst 4, 1) := dX10_paint_30_z.2.2.2.1
theorem dX10_paint_60 : decode cX10_paint 60 = .ok (.invokevirtual 213, 3) := dX10_paint_30_z.2.2.2.2
set_option maxRecDepth 100000 in
theorem dX10_paint_63_z : ((((decode cX10_paint 63 = .ok (.ireturn, 1) ∧ decode cX10_paint 64 = .ok (.aload_n 0, 1)) ∧ decode cX10_paint 65 = .ok (.getfield 59, 3)) ∧ ((decode cX10_paint 68 = .ok (.aload_n 0, 1) ∧ decode cX10_paint 69 = .ok (.getfield 49, 3)) ∧ decode cX10_paint 72 = .ok (.invokevirtual 219, 3))) ∧ (((decode cX10_paint 75 = .ok (.aload_n 0, 1) ∧ decode cX10_paint 76 = .ok (.iload_n 1, 1)) ∧ decode cX10_paint 77 = .ok (.iload_n 2, 1)) ∧ (decode cX10_paint 78 = .ok (.invokevirtual 223, 3) ∧ decode cX10_paint 81 = .ok (.ireturn, 1)))) := by decide +kernel
theorem dX10_paint_63 : decode cX10_paint 63 = .ok (.ireturn, 1) := dX10_paint_63_z.1.1.1.1
theorem dX10_paint_64 : decode cX10_paint 64 = .ok (.aload_n 0, 1) := dX10_paint_63_z.1.1.1.2
theorem dX10_paint_65 : decode cX10_paint 65 = .ok (.getfield 59, 3) := dX10_paint_63_z.1.1.2
theorem dX10_paint_68 : decode cX10_paint 68 = .ok (.aload_n 0, 1) := dX10_paint_63_z.1.2.1.1
theorem dX10_paint_69 : decode cX10_paint 69 = .ok (.getfield 49, 3) := dX10_paint_63_z.1.2.1.2
theorem dX10_paint_72 : decode cX10_paint 72 = .ok (.invokevirtual 219, 3) := dX10_paint_63_z.1.2.2
theorem dX10_paint_75 : decode cX10_paint 75 = .ok (.aload_n 0, 1) := dX10_paint_63_z.2.1.1.1
theorem dX10_paint_76 : decode cX10_paint 76 = .ok (.iload_n 1, 1) := dX10_paint_63_z.2.1.1.2
theorem dX10_paint_77 : decode cX10_paint 77 = .ok (.iload_n 2, 1) := dX10_paint_63_z.2.1.2
theorem dX10_paint_78 : decode cX10_paint 78 = .ok (.invokevirtual 223, 3) := dX10_paint_63_z.2.2.1
theorem dX10_paint_81 : decode cX10_paint 81 = .ok (.ireturn, 1) := dX10_paint_63_z.2.2.2
set_option maxRecDepth 100000 in
theorem dX10_paintNow_0_z : ((((decode cX10_paintNow 0 = .ok (.aload_n 0, 1) ∧ decode cX10_paintNow 1 = .ok (.getfield 68, 3)) ∧ (decode cX10_paintNow 4 = .ok (.iload_n 1, 1) ∧ decode cX10_paintNow 5 = .ok (.iload_n 2, 1))) ∧ ((decode cX10_paintNow 6 = .ok (.aload_n 0, 1) ∧ decode cX10_paintNow 7 = .ok (.getfield 37, 3)) ∧ (decode cX10_paintNow 10 = .ok (.iload_n 2, 1) ∧ decode cX10_paintNow 11 = .ok (.invokevirtual 161, 3)))) ∧ (((decode cX10_paintNow 14 = .ok (.invokevirtual 209, 3) ∧ decode cX10_paintNow 17 = .ok (.istore_n 3, 1)) ∧ (decode cX10_paintNow 18 = .ok (.aload_n 0, 1) ∧ decode cX10_paintNow 19 = .ok (.getfield 49, 3))) ∧ ((decode cX10_paintNow 22 = .ok (.iload_n 2, 1) ∧ decode cX10_paintNow 23 = .ok (.iload_n 1, 1)) ∧ (decode cX10_paintNow 24 = .ok (.iload_n 3, 1) ∧ decode cX10_paintNow 25 = .ok (.invokevirtual 226, 3))))) := by decide +kernel
theorem dX10_paintNow_0 : decode cX10_paintNow 0 = .ok (.aload_n 0, 1) := dX10_paintNow_0_z.1.1.1.1
theorem dX10_paintNow_1 : decode cX10_paintNow 1 = .ok (.getfield 68, 3) := dX10_paintNow_0_z.1.1.1.2
theorem dX10_paintNow_4 : decode cX10_paintNow 4 = .ok (.iload_n 1, 1) := dX10_paintNow_0_z.1.1.2.1
theorem dX10_paintNow_5 : decode cX10_paintNow 5 = .ok (.iload_n 2, 1) := dX10_paintNow_0_z.1.1.2.2
theorem dX10_paintNow_6 : decode cX10_paintNow 6 = .ok (.aload_n 0, 1) := dX10_paintNow_0_z.1.2.1.1
theorem dX10_paintNow_7 : decode cX10_paintNow 7 = .ok (.getfield 37, 3) := dX10_paintNow_0_z.1.2.1.2
theorem dX10_paintNow_10 : decode cX10_paintNow 10 = .ok (.iload_n 2, 1) := dX10_paintNow_0_z.1.2.2.1
theorem dX10_paintNow_11 : decode cX10_paintNow 11 = .ok (.invokevirtual 161, 3) := dX10_paintNow_0_z.1.2.2.2
theorem dX10_paintNow_14 : decode cX10_paintNow 14 = .ok (.invokevirtual 209, 3) := dX10_paintNow_0_z.2.1.1.1
theorem dX10_paintNow_17 : decode cX10_paintNow 17 = .ok (.istore_n 3, 1) := dX10_paintNow_0_z.2.1.1.2
theorem dX10_paintNow_18 : decode cX10_paintNow 18 = .ok (.aload_n 0, 1) := dX10_paintNow_0_z.2.1.2.1
theorem dX10_paintNow_19 : decode cX10_paintNow 19 = .ok (.getfield 49, 3) := dX10_paintNow_0_z.2.1.2.2
theorem dX10_paintNow_22 : decode cX10_paintNow 22 = .ok (.iload_n 2, 1) := dX10_paintNow_0_z.2.2.1.1
theorem dX10_paintNow_23 : decode cX10_paintNow 23 = .ok (.iload_n 1, 1) := dX10_paintNow_0_z.2.2.1.2
theorem dX10_paintNow_24 : decode cX10_paintNow 24 = .ok (.iload_n 3, 1) := dX10_paintNow_0_z.2.2.2.1
theorem dX10_paintNow_25 : decode cX10_paintNow 25 = .ok (.invokevirtual 226, 3) := dX10_paintNow_0_z.2.2.2.2
set_option maxRecDepth 100000 in
theorem dX10_paintNow_28_z : ((((decode cX10_paintNow 28 = .ok (.aload_n 0, 1) ∧ decode cX10_paintNow 29 = .ok (.getfield 49, 3)) ∧ decode cX10_paintNow 32 = .ok (.dup, 1)) ∧ ((decode cX10_paintNow 33 = .ok (.getfield 145, 3) ∧ decode cX10_paintNow 36 = .ok (.aload_n 0, 1)) ∧ decode cX10_paintNow 37 = .ok (.getfield 37, 3))) ∧ (((decode cX10_paintNow 40 = .ok (.iload_n 1, 1) ∧ decode cX10_paintNow 41 = .ok (.invokevirtual 190, 3)) ∧ decode cX10_paintNow 44 = .ok (.isub, 1)) ∧ ((decode cX10_paintNow 45 = .ok (.putfield 145, 3) ∧ decode cX10_paintNow 48 = .ok (.iload_n 3, 1)) ∧ decode cX10_paintNow 49 = .ok (.ireturn, 1)))) := by decide +kernel
theorem dX10_paintNow_28 : decode cX10_paintNow 28 = .ok (.aload_n 0, 1) := dX10_paintNow_28_z.1.1.1.1
theorem dX10_paintNow_29 : decode cX10_paintNow 29 = .ok (.getfield 49, 3) := dX10_paintNow_28_z.1.1.1.2
theorem dX10_paintNow_32 : decode cX10_paintNow 32 = .ok (.dup, 1) := dX10_paintNow_28_z.1.1.2
theorem dX10_paintNow_33 : decode cX10_paintNow 33 = .ok (.getfield 145, 3) := dX10_paintNow_28_z.1.2.1.1
theorem dX10_paintNow_36 : decode cX10_paintNow 36 = .ok (.aload_n 0, 1) := dX10_paintNow_28_z.1.2.1.2
theorem dX10_paintNow_37 : decode cX10_paintNow 37 = .ok (.getfield 37, 3) := dX10_paintNow_28_z.1.2.2
theorem dX10_paintNow_40 : decode cX10_paintNow 40 = .ok (.iload_n 1, 1) := dX10_paintNow_28_z.2.1.1.1
theorem dX10_paintNow_41 : decode cX10_paintNow 41 = .ok (.invokevirtual 190, 3) := dX10_paintNow_28_z.2.1.1.2
theorem dX10_paintNow_44 : decode cX10_paintNow 44 = .ok (.isub, 1) := dX10_paintNow_28_z.2.1.2
theorem dX10_paintNow_45 : decode cX10_paintNow 45 = .ok (.putfield 145, 3) := dX10_paintNow_28_z.2.2.1.1
theorem dX10_paintNow_48 : decode cX10_paintNow 48 = .ok (.iload_n 3, 1) := dX10_paintNow_28_z.2.2.1.2
theorem dX10_paintNow_49 : decode cX10_paintNow 49 = .ok (.ireturn, 1) := dX10_paintNow_28_z.2.2.2
set_option maxRecDepth 100000 in
theorem dX10_pay_0_z : ((((decode cX10_pay 0 = .ok (.aload_n 0, 1) ∧ decode cX10_pay 1 = .ok (.iload_n 1, 1)) ∧ (decode cX10_pay 2 = .ok (.invokevirtual 154, 3) ∧ decode cX10_pay 5 = .ok (.ifCond .ne 9, 3))) ∧ ((decode cX10_pay 8 = .ok (.aload_n 0, 1) ∧ decode cX10_pay 9 = .ok (.iconst 0, 1)) ∧ (decode cX10_pay 10 = .ok (.invokevirtual 213, 3) ∧ decode cX10_pay 13 = .ok (.ireturn, 1)))) ∧ (((decode cX10_pay 14 = .ok (.iload_n 2, 1) ∧ decode cX10_pay 15 = .ok (.bipush (-9), 2)) ∧ (decode cX10_pay 17 = .ok (.if_icmp .lt 30, 3) ∧ decode cX10_pay 20 = .ok (.iload_n 2, 1))) ∧ ((decode cX10_pay 21 = .ok (.bipush 9, 2) ∧ decode cX10_pay 23 = .ok (.if_icmp .gt 24, 3)) ∧ (decode cX10_pay 26 = .ok (.iload_n 2, 1) ∧ decode cX10_pay 27 = .ok (.ifCond .eq 20, 3))))) := by decide +kernel
theorem dX10_pay_0 : decode cX10_pay 0 = .ok (.aload_n 0, 1) := dX10_pay_0_z.1.1.1.1
theorem dX10_pay_1 : decode cX10_pay 1 = .ok (.iload_n 1, 1) := dX10_pay_0_z.1.1.1.2
theorem dX10_pay_2 : decode cX10_pay 2 = .ok (.invokevirtual 154, 3) := dX10_pay_0_z.1.1.2.1
theorem dX10_pay_5 : decode cX10_pay 5 = .ok (.ifCond .ne 9, 3) := dX10_pay_0_z.1.1.2.2
theorem dX10_pay_8 : decode cX10_pay 8 = .ok (.aload_n 0, 1) := dX10_pay_0_z.1.2.1.1
theorem dX10_pay_9 : decode cX10_pay 9 = .ok (.iconst 0, 1) := dX10_pay_0_z.1.2.1.2
theorem dX10_pay_10 : decode cX10_pay 10 = .ok (.invokevirtual 213, 3) := dX10_pay_0_z.1.2.2.1
theorem dX10_pay_13 : decode cX10_pay 13 = .ok (.ireturn, 1) := dX10_pay_0_z.1.2.2.2
theorem dX10_pay_14 : decode cX10_pay 14 = .ok (.iload_n 2, 1) := dX10_pay_0_z.2.1.1.1
theorem dX10_pay_15 : decode cX10_pay 15 = .ok (.bipush (-9), 2) := dX10_pay_0_z.2.1.1.2
theorem dX10_pay_17 : decode cX10_pay 17 = .ok (.if_icmp .lt 30, 3) := dX10_pay_0_z.2.1.2.1
theorem dX10_pay_20 : decode cX10_pay 20 = .ok (.iload_n 2, 1) := dX10_pay_0_z.2.1.2.2
theorem dX10_pay_21 : decode cX10_pay 21 = .ok (.bipush 9, 2) := dX10_pay_0_z.2.2.1.1
theorem dX10_pay_23 : decode cX10_pay 23 = .ok (.if_icmp .gt 24, 3) := dX10_pay_0_z.2.2.1.2
theorem dX10_pay_26 : decode cX10_pay 26 = .ok (.iload_n 2, 1) := dX10_pay_0_z.2.2.2.1
theorem dX10_pay_27 : decode cX10_pay 27 = .ok (.ifCond .eq 20, 3) := dX10_pay_0_z.2.2.2.2
set_option maxRecDepth 100000 in
theorem dX10_pay_30_z : ((((decode cX10_pay 30 = .ok (.aload_n 0, 1) ∧ decode cX10_pay 31 = .ok (.getfield 49, 3)) ∧ (decode cX10_pay 34 = .ok (.getfield 171, 3) ∧ decode cX10_pay 37 = .ok (.iload_n 1, 1))) ∧ ((decode cX10_pay 38 = .ok (.iaload, 1) ∧ decode cX10_pay 39 = .ok (.iload_n 2, 1)) ∧ (decode cX10_pay 40 = .ok (.iadd, 1) ∧ decode cX10_pay 41 = .ok (.invokestatic 230, 3)))) ∧ (((decode cX10_pay 44 = .ok (.ifCond .ne 9, 3) ∧ decode cX10_pay 47 = .ok (.aload_n 0, 1)) ∧ (decode cX10_pay 48 = .ok (.iconst 1, 1) ∧ decode cX10_pay 49 = .ok (.invokevirtual 213, 3))) ∧ ((decode cX10_pay 52 = .ok (.ireturn, 1) ∧ decode cX10_pay 53 = .ok (.aload_n 0, 1)) ∧ (decode cX10_pay 54 = .ok (.getfield 59, 3) ∧ decode cX10_pay 57 = .ok (.aload_n 0, 1))))) := by decide +kernel
theorem dX10_pay_30 : decode cX10_pay 30 = .ok (.aload_n 0, 1) := dX10_pay_30_z.1.1.1.1
theorem dX10_pay_31 : decode cX10_pay 31 = .ok (.getfield 49, 3) := dX10_pay_30_z.1.1.1.2
theorem dX10_pay_34 : decode cX10_pay 34 = .ok (.getfield 171, 3) := dX10_pay_30_z.1.1.2.1
theorem dX10_pay_37 : decode cX10_pay 37 = .ok (.iload_n 1, 1) := dX10_pay_30_z.1.1.2.2
theorem dX10_pay_38 : decode cX10_pay 38 = .ok (.iaload, 1) := dX10_pay_30_z.1.2.1.1
theorem dX10_pay_39 : decode cX10_pay 39 = .ok (.iload_n 2, 1) := dX10_pay_30_z.1.2.1.2
theorem dX10_pay_40 : decode cX10_pay 40 = .ok (.iadd, 1) := dX10_pay_30_z.1.2.2.1
theorem dX10_pay_41 : decode cX10_pay 41 = .ok (.invokestatic 230, 3) := dX10_pay_30_z.1.2.2.2
theorem dX10_pay_44 : decode cX10_pay 44 = .ok (.ifCond .ne 9, 3) := dX10_pay_30_z.2.1.1.1
theorem dX10_pay_47 : decode cX10_pay 47 = .ok (.aload_n 0, 1) := dX10_pay_30_z.2.1.1.2
theorem dX10_pay_48 : decode cX10_pay 48 = .ok (.iconst 1, 1) := dX10_pay_30_z.2.1.2.1
theorem dX10_pay_49 : decode cX10_pay 49 = .ok (.invokevirtual 213, 3) := dX10_pay_30_z.2.1.2.2
theorem dX10_pay_52 : decode cX10_pay 52 = .ok (.ireturn, 1) := dX10_pay_30_z.2.2.1.1
theorem dX10_pay_53 : decode cX10_pay 53 = .ok (.aload_n 0, 1) := dX10_pay_30_z.2.2.1.2
theorem dX10_pay_54 : decode cX10_pay 54 = .ok (.getfield 59, 3) := dX10_pay_30_z.2.2.2.1
theorem dX10_pay_57 : decode cX10_pay 57 = .ok (.aload_n 0, 1) := dX10_pay_30_z.2.2.2.2
set_option maxRecDepth 100000 in
theorem dX10_pay_58_z : ((((decode cX10_pay 58 = .ok (.getfield 49, 3) ∧ decode cX10_pay 61 = .ok (.invokevirtual 219, 3)) ∧ (decode cX10_pay 64 = .ok (.aload_n 0, 1) ∧ decode cX10_pay 65 = .ok (.getfield 49, 3))) ∧ ((decode cX10_pay 68 = .ok (.getfield 171, 3) ∧ decode cX10_pay 71 = .ok (.iload_n 1, 1)) ∧ (decode cX10_pay 72 = .ok (.dup2, 1) ∧ decode cX10_pay 73 = .ok (.iaload, 1)))) ∧ (((decode cX10_pay 74 = .ok (.iload_n 2, 1) ∧ decode cX10_pay 75 = .ok (.iadd, 1)) ∧ (decode cX10_pay 76 = .ok (.iastore, 1) ∧ decode cX10_pay 77 = .ok (.aload_n 0, 1))) ∧ ((decode cX10_pay 78 = .ok (.getfield 49, 3) ∧ decode cX10_pay 81 = .ok (.getfield 171, 3)) ∧ (decode cX10_pay 84 = .ok (.iload_n 1, 1) ∧ decode cX10_pay 85 = .ok (.iaload, 1))))) := by decide +kernel
theorem dX10_pay_58 : decode cX10_pay 58 = .ok (.getfield 49, 3) := dX10_pay_58_z.1.1.1.1
theorem dX10_pay_61 : decode cX10_pay 61 = .ok (.invokevirtual 219, 3) := dX10_pay_58_z.1.1.1.2
theorem dX10_pay_64 : decode cX10_pay 64 = .ok (.aload_n 0, 1) := dX10_pay_58_z.1.1.2.1
theorem dX10_pay_65 : decode cX10_pay 65 = .ok (.getfield 49, 3) := dX10_pay_58_z.1.1.2.2
theorem dX10_pay_68 : decode cX10_pay 68 = .ok (.getfield 171, 3) := dX10_pay_58_z.1.2.1.1
theorem dX10_pay_71 : decode cX10_pay 71 = .ok (.iload_n 1, 1) := dX10_pay_58_z.1.2.1.2
theorem dX10_pay_72 : decode cX10_pay 72 = .ok (.dup2, 1) := dX10_pay_58_z.1.2.2.1
theorem dX10_pay_73 : decode cX10_pay 73 = .ok (.iaload, 1) := dX10_pay_58_z.1.2.2.2
theorem dX10_pay_74 : decode cX10_pay 74 = .ok (.iload_n 2, 1) := dX10_pay_58_z.2.1.1.1
theorem dX10_pay_75 : decode cX10_pay 75 = .ok (.iadd, 1) := dX10_pay_58_z.2.1.1.2
theorem dX10_pay_76 : decode cX10_pay 76 = .ok (.iastore, 1) := dX10_pay_58_z.2.1.2.1
theorem dX10_pay_77 : decode cX10_pay 77 = .ok (.aload_n 0, 1) := dX10_pay_58_z.2.1.2.2
theorem dX10_pay_78 : decode cX10_pay 78 = .ok (.getfield 49, 3) := dX10_pay_58_z.2.2.1.1
theorem dX10_pay_81 : decode cX10_pay 81 = .ok (.getfield 171, 3) := dX10_pay_58_z.2.2.1.2
theorem dX10_pay_84 : decode cX10_pay 84 = .ok (.iload_n 1, 1) := dX10_pay_58_z.2.2.2.1
theorem dX10_pay_85 : decode cX10_pay 85 = .ok (.iaload, 1) := dX10_pay_58_z.2.2.2.2
theorem dX10_pay_86 : decode cX10_pay 86 = .ok (.ireturn, 1) := by decide +kernel
set_option maxRecDepth 100000 in
theorem dX10_threaten_0_z : ((((decode cX10_threaten 0 = .ok (.aload_n 0, 1) ∧ decode cX10_threaten 1 = .ok (.iload_n 1, 1)) ∧ (decode cX10_threaten 2 = .ok (.invokevirtual 184, 3) ∧ decode cX10_threaten 5 = .ok (.ifCond .ne 9, 3))) ∧ ((decode cX10_threaten 8 = .ok (.aload_n 0, 1) ∧ decode cX10_threaten 9 = .ok (.iconst 0, 1)) ∧ (decode cX10_threaten 10 = .ok (.invokevirtual 213, 3) ∧ decode cX10_threaten 13 = .ok (.ireturn, 1)))) ∧ (((decode cX10_threaten 14 = .ok (.aload_n 0, 1) ∧ decode cX10_threaten 15 = .ok (.getfield 49, 3)) ∧ (decode cX10_threaten 18 = .ok (.getfield 193, 3) ∧ decode cX10_threaten 21 = .ok (.iload_n 1, 1))) ∧ ((decode cX10_threaten 22 = .ok (.iaload, 1) ∧ decode cX10_threaten 23 = .ok (.bipush 9, 2)) ∧ (decode cX10_threaten 25 = .ok (.if_icmp .lt 9, 3) ∧ decode cX10_threaten 28 = .ok (.aload_n 0, 1))))) := by decide +kernel
theorem dX10_threaten_0 : decode cX10_threaten 0 = .ok (.aload_n 0, 1) := dX10_threaten_0_z.1.1.1.1
theorem dX10_threaten_1 : decode cX10_threaten 1 = .ok (.iload_n 1, 1) := dX10_threaten_0_z.1.1.1.2
theorem dX10_threaten_2 : decode cX10_threaten 2 = .ok (.invokevirtual 184, 3) := dX10_threaten_0_z.1.1.2.1
theorem dX10_threaten_5 : decode cX10_threaten 5 = .ok (.ifCond .ne 9, 3) := dX10_threaten_0_z.1.1.2.2
theorem dX10_threaten_8 : decode cX10_threaten 8 = .ok (.aload_n 0, 1) := dX10_threaten_0_z.1.2.1.1
theorem dX10_threaten_9 : decode cX10_threaten 9 = .ok (.iconst 0, 1) := dX10_threaten_0_z.1.2.1.2
theorem dX10_threaten_10 : decode cX10_threaten 10 = .ok (.invokevirtual 213, 3) := dX10_threaten_0_z.1.2.2.1
theorem dX10_threaten_13 : decode cX10_threaten 13 = .ok (.ireturn, 1) := dX10_threaten_0_z.1.2.2.2
theorem dX10_threaten_14 : decode cX10_threaten 14 = .ok (.aload_n 0, 1) := dX10_threaten_0_z.2.1.1.1
theorem dX10_threaten_15 : decode cX10_threaten 15 = .ok (.getfield 49, 3) := dX10_threaten_0_z.2.1.1.2
theorem dX10_threaten_18 : decode cX10_threaten 18 = .ok (.getfield 193, 3) := dX10_threaten_0_z.2.1.2.1
theorem dX10_threaten_21 : decode cX10_threaten 21 = .ok (.iload_n 1, 1) := dX10_threaten_0_z.2.1.2.2
theorem dX10_threaten_22 : decode cX10_threaten 22 = .ok (.iaload, 1) := dX10_threaten_0_z.2.2.1.1
theorem dX10_threaten_23 : decode cX10_threaten 23 = .ok (.bipush 9, 2) := dX10_threaten_0_z.2.2.1.2
theorem dX10_threaten_25 : decode cX10_threaten 25 = .ok (.if_icmp .lt 9, 3) := dX10_threaten_0_z.2.2.2.1
theorem dX10_threaten_28 : decode cX10_threaten 28 = .ok (.aload_n 0, 1) := dX10_threaten_0_z.2.2.2.2
set_option maxRecDepth 100000 in
theorem dX10_threaten_29_z : ((((decode cX10_threaten 29 = .ok (.iconst 1, 1) ∧ decode cX10_threaten 30 = .ok (.invokevirtual 213, 3)) ∧ (decode cX10_threaten 33 = .ok (.ireturn, 1) ∧ decode cX10_threaten 34 = .ok (.aload_n 0, 1))) ∧ ((decode cX10_threaten 35 = .ok (.getfield 59, 3) ∧ decode cX10_threaten 38 = .ok (.aload_n 0, 1)) ∧ (decode cX10_threaten 39 = .ok (.getfield 49, 3) ∧ decode cX10_threaten 42 = .ok (.invokevirtual 219, 3)))) ∧ (((decode cX10_threaten 45 = .ok (.aload_n 0, 1) ∧ decode cX10_threaten 46 = .ok (.getfield 49, 3)) ∧ (decode cX10_threaten 49 = .ok (.getfield 193, 3) ∧ decode cX10_threaten 52 = .ok (.iload_n 1, 1))) ∧ ((decode cX10_threaten 53 = .ok (.dup2, 1) ∧ decode cX10_threaten 54 = .ok (.iaload, 1)) ∧ (decode cX10_threaten 55 = .ok (.iconst 1, 1) ∧ decode cX10_threaten 56 = .ok (.iadd, 1))))) := by decide +kernel
theorem dX10_threaten_29 : decode cX10_threaten 29 = .ok (.iconst 1, 1) := dX10_threaten_29_z.1.1.1.1
theorem dX10_threaten_30 : decode cX10_threaten 30 = .ok (.invokevirtual 213, 3) := dX10_threaten_29_z.1.1.1.2
theorem dX10_threaten_33 : decode cX10_threaten 33 = .ok (.ireturn, 1) := dX10_threaten_29_z.1.1.2.1
theorem dX10_threaten_34 : decode cX10_threaten 34 = .ok (.aload_n 0, 1) := dX10_threaten_29_z.1.1.2.2
theorem dX10_threaten_35 : decode cX10_threaten 35 = .ok (.getfield 59, 3) := dX10_threaten_29_z.1.2.1.1
theorem dX10_threaten_38 : decode cX10_threaten 38 = .ok (.aload_n 0, 1) := dX10_threaten_29_z.1.2.1.2
theorem dX10_threaten_39 : decode cX10_threaten 39 = .ok (.getfield 49, 3) := dX10_threaten_29_z.1.2.2.1
theorem dX10_threaten_42 : decode cX10_threaten 42 = .ok (.invokevirtual 219, 3) := dX10_threaten_29_z.1.2.2.2
theorem dX10_threaten_45 : decode cX10_threaten 45 = .ok (.aload_n 0, 1) := dX10_threaten_29_z.2.1.1.1
theorem dX10_threaten_46 : decode cX10_threaten 46 = .ok (.getfield 49, 3) := dX10_threaten_29_z.2.1.1.2
theorem dX10_threaten_49 : decode cX10_threaten 49 = .ok (.getfield 193, 3) := dX10_threaten_29_z.2.1.2.1
theorem dX10_threaten_52 : decode cX10_threaten 52 = .ok (.iload_n 1, 1) := dX10_threaten_29_z.2.1.2.2
theorem dX10_threaten_53 : decode cX10_threaten 53 = .ok (.dup2, 1) := dX10_threaten_29_z.2.2.1.1
theorem dX10_threaten_54 : decode cX10_threaten 54 = .ok (.iaload, 1) := dX10_threaten_29_z.2.2.1.2
theorem dX10_threaten_55 : decode cX10_threaten 55 = .ok (.iconst 1, 1) := dX10_threaten_29_z.2.2.2.1
theorem dX10_threaten_56 : decode cX10_threaten 56 = .ok (.iadd, 1) := dX10_threaten_29_z.2.2.2.2
set_option maxRecDepth 100000 in
theorem dX10_threaten_57_z : (((decode cX10_threaten 57 = .ok (.iastore, 1) ∧ decode cX10_threaten 58 = .ok (.aload_n 0, 1)) ∧ (decode cX10_threaten 59 = .ok (.getfield 49, 3) ∧ decode cX10_threaten 62 = .ok (.getfield 193, 3))) ∧ ((decode cX10_threaten 65 = .ok (.iload_n 1, 1) ∧ decode cX10_threaten 66 = .ok (.iaload, 1)) ∧ decode cX10_threaten 67 = .ok (.ireturn, 1))) := by decide +kernel
theorem dX10_threaten_57 : decode cX10_threaten 57 = .ok (.iastore, 1) := dX10_threaten_57_z.1.1.1
theorem dX10_threaten_58 : decode cX10_threaten 58 = .ok (.aload_n 0, 1) := dX10_threaten_57_z.1.1.2
theorem dX10_threaten_59 : decode cX10_threaten 59 = .ok (.getfield 49, 3) := dX10_threaten_57_z.1.2.1
theorem dX10_threaten_62 : decode cX10_threaten 62 = .ok (.getfield 193, 3) := dX10_threaten_57_z.1.2.2
theorem dX10_threaten_65 : decode cX10_threaten 65 = .ok (.iload_n 1, 1) := dX10_threaten_57_z.2.1.1
theorem dX10_threaten_66 : decode cX10_threaten 66 = .ok (.iaload, 1) := dX10_threaten_57_z.2.1.2
theorem dX10_threaten_67 : decode cX10_threaten 67 = .ok (.ireturn, 1) := dX10_threaten_57_z.2.2
set_option maxRecDepth 100000 in
theorem dX10_letter_0_z : ((((decode cX10_letter 0 = .ok (.aload_n 0, 1) ∧ decode cX10_letter 1 = .ok (.iload_n 1, 1)) ∧ (decode cX10_letter 2 = .ok (.aload_n 0, 1) ∧ decode cX10_letter 3 = .ok (.getfield 49, 3))) ∧ ((decode cX10_letter 6 = .ok (.getfield 174, 3) ∧ decode cX10_letter 9 = .ok (.iconst 2, 1)) ∧ (decode cX10_letter 10 = .ok (.invokevirtual 233, 3) ∧ decode cX10_letter 13 = .ok (.ifCond .ne 5, 3)))) ∧ (((decode cX10_letter 16 = .ok (.iconst (-1), 1) ∧ decode cX10_letter 17 = .ok (.ireturn, 1)) ∧ (decode cX10_letter 18 = .ok (.aload_n 0, 1) ∧ decode cX10_letter 19 = .ok (.getfield 49, 3))) ∧ ((decode cX10_letter 22 = .ok (.dup, 1) ∧ decode cX10_letter 23 = .ok (.getfield 174, 3)) ∧ (decode cX10_letter 26 = .ok (.iconst 1, 1) ∧ decode cX10_letter 27 = .ok (.iload_n 1, 1))))) := by decide +kernel
theorem dX10_letter_0 : decode cX10_letter 0 = .ok (.aload_n 0, 1) := dX10_letter_0_z.1.1.1.1
theorem dX10_letter_1 : decode cX10_letter 1 = .ok (.iload_n 1, 1) := dX10_letter_0_z.1.1.1.2
theorem dX10_letter_2 : decode cX10_letter 2 = .ok (.aload_n 0, 1) := dX10_letter_0_z.1.1.2.1
theorem dX10_letter_3 : decode cX10_letter 3 = .ok (.getfield 49, 3) := dX10_letter_0_z.1.1.2.2
theorem dX10_letter_6 : decode cX10_letter 6 = .ok (.getfield 174, 3) := dX10_letter_0_z.1.2.1.1
theorem dX10_letter_9 : decode cX10_letter 9 = .ok (.iconst 2, 1) := dX10_letter_0_z.1.2.1.2
theorem dX10_letter_10 : decode cX10_letter 10 = .ok (.invokevirtual 233, 3) := dX10_letter_0_z.1.2.2.1
theorem dX10_letter_13 : decode cX10_letter 13 = .ok (.ifCond .ne 5, 3) := dX10_letter_0_z.1.2.2.2
theorem dX10_letter_16 : decode cX10_letter 16 = .ok (.iconst (-1), 1) := dX10_letter_0_z.2.1.1.1
theorem dX10_letter_17 : decode cX10_letter 17 = .ok (.ireturn, 1) := dX10_letter_0_z.2.1.1.2
theorem dX10_letter_18 : decode cX10_letter 18 = .ok (.aload_n 0, 1) := dX10_letter_0_z.2.1.2.1
theorem dX10_letter_19 : decode cX10_letter 19 = .ok (.getfield 49, 3) := dX10_letter_0_z.2.1.2.2
theorem dX10_letter_22 : decode cX10_letter 22 = .ok (.dup, 1) := dX10_letter_0_z.2.2.1.1
theorem dX10_letter_23 : decode cX10_letter 23 = .ok (.getfield 174, 3) := dX10_letter_0_z.2.2.1.2
theorem dX10_letter_26 : decode cX10_letter 26 = .ok (.iconst 1, 1) := dX10_letter_0_z.2.2.2.1
theorem dX10_letter_27 : decode cX10_letter 27 = .ok (.iload_n 1, 1) := dX10_letter_0_z.2.2.2.2
set_option maxRecDepth 100000 in
theorem dX10_letter_28_z : ((((decode cX10_letter 28 = .ok (.ishl, 1) ∧ decode cX10_letter 29 = .ok (.ior, 1)) ∧ (decode cX10_letter 30 = .ok (.putfield 174, 3) ∧ decode cX10_letter 33 = .ok (.aload_n 0, 1))) ∧ ((decode cX10_letter 34 = .ok (.getfield 37, 3) ∧ decode cX10_letter 37 = .ok (.iload_n 1, 1)) ∧ decode cX10_letter 38 = .ok (.invokevirtual 161, 3))) ∧ (((decode cX10_letter 41 = .ok (.iconst 5, 1) ∧ decode cX10_letter 42 = .ok (.if_icmp .lt 7, 3)) ∧ decode cX10_letter 45 = .ok (.iconst 1, 1)) ∧ ((decode cX10_letter 46 = .ok (.goto 4, 3) ∧ decode cX10_letter 49 = .ok (.iconst 0, 1)) ∧ decode cX10_letter 50 = .ok (.ireturn, 1)))) := by decide +kernel
theorem dX10_letter_28 : decode cX10_letter 28 = .ok (.ishl, 1) := dX10_letter_28_z.1.1.1.1
theorem dX10_letter_29 : decode cX10_letter 29 = .ok (.ior, 1) := dX10_letter_28_z.1.1.1.2
theorem dX10_letter_30 : decode cX10_letter 30 = .ok (.putfield 174, 3) := dX10_letter_28_z.1.1.2.1
theorem dX10_letter_33 : decode cX10_letter 33 = .ok (.aload_n 0, 1) := dX10_letter_28_z.1.1.2.2
theorem dX10_letter_34 : decode cX10_letter 34 = .ok (.getfield 37, 3) := dX10_letter_28_z.1.2.1.1
theorem dX10_letter_37 : decode cX10_letter 37 = .ok (.iload_n 1, 1) := dX10_letter_28_z.1.2.1.2
theorem dX10_letter_38 : decode cX10_letter 38 = .ok (.invokevirtual 161, 3) := dX10_letter_28_z.1.2.2
theorem dX10_letter_41 : decode cX10_letter 41 = .ok (.iconst 5, 1) := dX10_letter_28_z.2.1.1.1
theorem dX10_letter_42 : decode cX10_letter 42 = .ok (.if_icmp .lt 7, 3) := dX10_letter_28_z.2.1.1.2
theorem dX10_letter_45 : decode cX10_letter 45 = .ok (.iconst 1, 1) := dX10_letter_28_z.2.1.2
theorem dX10_letter_46 : decode cX10_letter 46 = .ok (.goto 4, 3) := dX10_letter_28_z.2.2.1.1
theorem dX10_letter_49 : decode cX10_letter 49 = .ok (.iconst 0, 1) := dX10_letter_28_z.2.2.1.2
theorem dX10_letter_50 : decode cX10_letter 50 = .ok (.ireturn, 1) := dX10_letter_28_z.2.2.2
set_option maxRecDepth 100000 in
theorem dX10_shoe_0_z : ((((decode cX10_shoe 0 = .ok (.aload_n 0, 1) ∧ decode cX10_shoe 1 = .ok (.iload_n 1, 1)) ∧ (decode cX10_shoe 2 = .ok (.aload_n 0, 1) ∧ decode cX10_shoe 3 = .ok (.getfield 49, 3))) ∧ ((decode cX10_shoe 6 = .ok (.getfield 181, 3) ∧ decode cX10_shoe 9 = .ok (.iconst 1, 1)) ∧ (decode cX10_shoe 10 = .ok (.invokevirtual 233, 3) ∧ decode cX10_shoe 13 = .ok (.ifCond .ne 5, 3)))) ∧ (((decode cX10_shoe 16 = .ok (.iconst (-1), 1) ∧ decode cX10_shoe 17 = .ok (.ireturn, 1)) ∧ (decode cX10_shoe 18 = .ok (.aload_n 0, 1) ∧ decode cX10_shoe 19 = .ok (.getfield 49, 3))) ∧ ((decode cX10_shoe 22 = .ok (.dup, 1) ∧ decode cX10_shoe 23 = .ok (.getfield 181, 3)) ∧ (decode cX10_shoe 26 = .ok (.iconst 1, 1) ∧ decode cX10_shoe 27 = .ok (.iload_n 1, 1))))) := by decide +kernel
theorem dX10_shoe_0 : decode cX10_shoe 0 = .ok (.aload_n 0, 1) := dX10_shoe_0_z.1.1.1.1
theorem dX10_shoe_1 : decode cX10_shoe 1 = .ok (.iload_n 1, 1) := dX10_shoe_0_z.1.1.1.2
theorem dX10_shoe_2 : decode cX10_shoe 2 = .ok (.aload_n 0, 1) := dX10_shoe_0_z.1.1.2.1
theorem dX10_shoe_3 : decode cX10_shoe 3 = .ok (.getfield 49, 3) := dX10_shoe_0_z.1.1.2.2
theorem dX10_shoe_6 : decode cX10_shoe 6 = .ok (.getfield 181, 3) := dX10_shoe_0_z.1.2.1.1
theorem dX10_shoe_9 : decode cX10_shoe 9 = .ok (.iconst 1, 1) := dX10_shoe_0_z.1.2.1.2
theorem dX10_shoe_10 : decode cX10_shoe 10 = .ok (.invokevirtual 233, 3) := dX10_shoe_0_z.1.2.2.1
theorem dX10_shoe_13 : decode cX10_shoe 13 = .ok (.ifCond .ne 5, 3) := dX10_shoe_0_z.1.2.2.2
theorem dX10_shoe_16 : decode cX10_shoe 16 = .ok (.iconst (-1), 1) := dX10_shoe_0_z.2.1.1.1
theorem dX10_shoe_17 : decode cX10_shoe 17 = .ok (.ireturn, 1) := dX10_shoe_0_z.2.1.1.2
theorem dX10_shoe_18 : decode cX10_shoe 18 = .ok (.aload_n 0, 1) := dX10_shoe_0_z.2.1.2.1
theorem dX10_shoe_19 : decode cX10_shoe 19 = .ok (.getfield 49, 3) := dX10_shoe_0_z.2.1.2.2
theorem dX10_shoe_22 : decode cX10_shoe 22 = .ok (.dup, 1) := dX10_shoe_0_z.2.2.1.1
theorem dX10_shoe_23 : decode cX10_shoe 23 = .ok (.getfield 181, 3) := dX10_shoe_0_z.2.2.1.2
theorem dX10_shoe_26 : decode cX10_shoe 26 = .ok (.iconst 1, 1) := dX10_shoe_0_z.2.2.2.1
theorem dX10_shoe_27 : decode cX10_shoe 27 = .ok (.iload_n 1, 1) := dX10_shoe_0_z.2.2.2.2
set_option maxRecDepth 100000 in
theorem dX10_shoe_28_z : ((((decode cX10_shoe 28 = .ok (.ishl, 1) ∧ decode cX10_shoe 29 = .ok (.ior, 1)) ∧ decode cX10_shoe 30 = .ok (.putfield 181, 3)) ∧ (decode cX10_shoe 33 = .ok (.aload_n 0, 1) ∧ decode cX10_shoe 34 = .ok (.getfield 37, 3))) ∧ (((decode cX10_shoe 37 = .ok (.iload_n 1, 1) ∧ decode cX10_shoe 38 = .ok (.invokevirtual 161, 3)) ∧ decode cX10_shoe 41 = .ok (.iconst 2, 1)) ∧ (decode cX10_shoe 42 = .ok (.irem, 1) ∧ decode cX10_shoe 43 = .ok (.ireturn, 1)))) := by decide +kernel
theorem dX10_shoe_28 : decode cX10_shoe 28 = .ok (.ishl, 1) := dX10_shoe_28_z.1.1.1.1
theorem dX10_shoe_29 : decode cX10_shoe 29 = .ok (.ior, 1) := dX10_shoe_28_z.1.1.1.2
theorem dX10_shoe_30 : decode cX10_shoe 30 = .ok (.putfield 181, 3) := dX10_shoe_28_z.1.1.2
theorem dX10_shoe_33 : decode cX10_shoe 33 = .ok (.aload_n 0, 1) := dX10_shoe_28_z.1.2.1
theorem dX10_shoe_34 : decode cX10_shoe 34 = .ok (.getfield 37, 3) := dX10_shoe_28_z.1.2.2
theorem dX10_shoe_37 : decode cX10_shoe 37 = .ok (.iload_n 1, 1) := dX10_shoe_28_z.2.1.1.1
theorem dX10_shoe_38 : decode cX10_shoe 38 = .ok (.invokevirtual 161, 3) := dX10_shoe_28_z.2.1.1.2
theorem dX10_shoe_41 : decode cX10_shoe 41 = .ok (.iconst 2, 1) := dX10_shoe_28_z.2.1.2
theorem dX10_shoe_42 : decode cX10_shoe 42 = .ok (.irem, 1) := dX10_shoe_28_z.2.2.1
theorem dX10_shoe_43 : decode cX10_shoe 43 = .ok (.ireturn, 1) := dX10_shoe_28_z.2.2.2
set_option maxRecDepth 100000 in
theorem dX10_paysToHear_0_z : ((((decode cX10_paysToHear 0 = .ok (.iconst (-1), 1) ∧ decode cX10_paysToHear 1 = .ok (.istore 4, 2)) ∧ (decode cX10_paysToHear 3 = .ok (.aload_n 0, 1) ∧ decode cX10_paysToHear 4 = .ok (.iload_n 1, 1))) ∧ ((decode cX10_paysToHear 5 = .ok (.invokevirtual 154, 3) ∧ decode cX10_paysToHear 8 = .ok (.ifCond .ne 9, 3)) ∧ (decode cX10_paysToHear 11 = .ok (.iconst 0, 1) ∧ decode cX10_paysToHear 12 = .ok (.istore 4, 2)))) ∧ (((decode cX10_paysToHear 14 = .ok (.goto 32, 3) ∧ decode cX10_paysToHear 17 = .ok (.iload_n 2, 1)) ∧ (decode cX10_paysToHear 18 = .ok (.iload_n 1, 1) ∧ decode cX10_paysToHear 19 = .ok (.invokestatic 177, 3))) ∧ ((decode cX10_paysToHear 22 = .ok (.iconst 1, 1) ∧ decode cX10_paysToHear 23 = .ok (.if_icmp .ne 9, 3)) ∧ (decode cX10_paysToHear 26 = .ok (.iconst 1, 1) ∧ decode cX10_paysToHear 27 = .ok (.istore 4, 2))))) := by decide +kernel
theorem dX10_paysToHear_0 : decode cX10_paysToHear 0 = .ok (.iconst (-1), 1) := dX10_paysToHear_0_z.1.1.1.1
theorem dX10_paysToHear_1 : decode cX10_paysToHear 1 = .ok (.istore 4, 2) := dX10_paysToHear_0_z.1.1.1.2
theorem dX10_paysToHear_3 : decode cX10_paysToHear 3 = .ok (.aload_n 0, 1) := dX10_paysToHear_0_z.1.1.2.1
theorem dX10_paysToHear_4 : decode cX10_paysToHear 4 = .ok (.iload_n 1, 1) := dX10_paysToHear_0_z.1.1.2.2
theorem dX10_paysToHear_5 : decode cX10_paysToHear 5 = .ok (.invokevirtual 154, 3) := dX10_paysToHear_0_z.1.2.1.1
theorem dX10_paysToHear_8 : decode cX10_paysToHear 8 = .ok (.ifCond .ne 9, 3) := dX10_paysToHear_0_z.1.2.1.2
theorem dX10_paysToHear_11 : decode cX10_paysToHear 11 = .ok (.iconst 0, 1) := dX10_paysToHear_0_z.1.2.2.1
theorem dX10_paysToHear_12 : decode cX10_paysToHear 12 = .ok (.istore 4, 2) := dX10_paysToHear_0_z.1.2.2.2
theorem dX10_paysToHear_14 : decode cX10_paysToHear 14 = .ok (.goto 32, 3) := dX10_paysToHear_0_z.2.1.1.1
theorem dX10_paysToHear_17 : decode cX10_paysToHear 17 = .ok (.iload_n 2, 1) := dX10_paysToHear_0_z.2.1.1.2
theorem dX10_paysToHear_18 : decode cX10_paysToHear 18 = .ok (.iload_n 1, 1) := dX10_paysToHear_0_z.2.1.2.1
theorem dX10_paysToHear_19 : decode cX10_paysToHear 19 = .ok (.invokestatic 177, 3) := dX10_paysToHear_0_z.2.1.2.2
theorem dX10_paysToHear_22 : decode cX10_paysToHear 22 = .ok (.iconst 1, 1) := dX10_paysToHear_0_z.2.2.1.1
theorem dX10_paysToHear_23 : decode cX10_paysToHear 23 = .ok (.if_icmp .ne 9, 3) := dX10_paysToHear_0_z.2.2.1.2
theorem dX10_paysToHear_26 : decode cX10_paysToHear 26 = .ok (.iconst 1, 1) := dX10_paysToHear_0_z.2.2.2.1
theorem dX10_paysToHear_27 : decode cX10_paysToHear 27 = .ok (.istore 4, 2) := dX10_paysToHear_0_z.2.2.2.2
set_option maxRecDepth 100000 in
theorem dX10_paysToHear_29_z : ((((decode cX10_paysToHear 29 = .ok (.goto 17, 3) ∧ decode cX10_paysToHear 32 = .ok (.aload_n 0, 1)) ∧ (decode cX10_paysToHear 33 = .ok (.getfield 49, 3) ∧ decode cX10_paysToHear 36 = .ok (.getfield 145, 3))) ∧ ((decode cX10_paysToHear 39 = .ok (.iload_n 3, 1) ∧ decode cX10_paysToHear 40 = .ok (.if_icmp .ge 6, 3)) ∧ (decode cX10_paysToHear 43 = .ok (.iconst 2, 1) ∧ decode cX10_paysToHear 44 = .ok (.istore 4, 2)))) ∧ (((decode cX10_paysToHear 46 = .ok (.iload 4, 2) ∧ decode cX10_paysToHear 48 = .ok (.iconst (-1), 1)) ∧ (decode cX10_paysToHear 49 = .ok (.if_icmp .eq 12, 3) ∧ decode cX10_paysToHear 52 = .ok (.aload_n 0, 1))) ∧ ((decode cX10_paysToHear 53 = .ok (.iload 4, 2) ∧ decode cX10_paysToHear 55 = .ok (.invokevirtual 213, 3)) ∧ (decode cX10_paysToHear 58 = .ok (.pop, 1) ∧ decode cX10_paysToHear 59 = .ok (.iconst 0, 1))))) := by decide +kernel
theorem dX10_paysToHear_29 : decode cX10_paysToHear 29 = .ok (.goto 17, 3) := dX10_paysToHear_29_z.1.1.1.1
theorem dX10_paysToHear_32 : decode cX10_paysToHear 32 = .ok (.aload_n 0, 1) := dX10_paysToHear_29_z.1.1.1.2
theorem dX10_paysToHear_33 : decode cX10_paysToHear 33 = .ok (.getfield 49, 3) := dX10_paysToHear_29_z.1.1.2.1
theorem dX10_paysToHear_36 : decode cX10_paysToHear 36 = .ok (.getfield 145, 3) := dX10_paysToHear_29_z.1.1.2.2
theorem dX10_paysToHear_39 : decode cX10_paysToHear 39 = .ok (.iload_n 3, 1) := dX10_paysToHear_29_z.1.2.1.1
theorem dX10_paysToHear_40 : decode cX10_paysToHear 40 = .ok (.if_icmp .ge 6, 3) := dX10_paysToHear_29_z.1.2.1.2
theorem dX10_paysToHear_43 : decode cX10_paysToHear 43 = .ok (.iconst 2, 1) := dX10_paysToHear_29_z.1.2.2.1
theorem dX10_paysToHear_44 : decode cX10_paysToHear 44 = .ok (.istore 4, 2) := dX10_paysToHear_29_z.1.2.2.2
theorem dX10_paysToHear_46 : decode cX10_paysToHear 46 = .ok (.iload 4, 2) := dX10_paysToHear_29_z.2.1.1.1
theorem dX10_paysToHear_48 : decode cX10_paysToHear 48 = .ok (.iconst (-1), 1) := dX10_paysToHear_29_z.2.1.1.2
theorem dX10_paysToHear_49 : decode cX10_paysToHear 49 = .ok (.if_icmp .eq 12, 3) := dX10_paysToHear_29_z.2.1.2.1
theorem dX10_paysToHear_52 : decode cX10_paysToHear 52 = .ok (.aload_n 0, 1) := dX10_paysToHear_29_z.2.1.2.2
theorem dX10_paysToHear_53 : decode cX10_paysToHear 53 = .ok (.iload 4, 2) := dX10_paysToHear_29_z.2.2.1.1
theorem dX10_paysToHear_55 : decode cX10_paysToHear 55 = .ok (.invokevirtual 213, 3) := dX10_paysToHear_29_z.2.2.1.2
theorem dX10_paysToHear_58 : decode cX10_paysToHear 58 = .ok (.pop, 1) := dX10_paysToHear_29_z.2.2.2.1
theorem dX10_paysToHear_59 : decode cX10_paysToHear 59 = .ok (.iconst 0, 1) := dX10_paysToHear_29_z.2.2.2.2
set_option maxRecDepth 100000 in
theorem dX10_paysToHear_60_z : ((((decode cX10_paysToHear 60 = .ok (.ireturn, 1) ∧ decode cX10_paysToHear 61 = .ok (.aload_n 0, 1)) ∧ (decode cX10_paysToHear 62 = .ok (.getfield 59, 3) ∧ decode cX10_paysToHear 65 = .ok (.aload_n 0, 1))) ∧ ((decode cX10_paysToHear 66 = .ok (.getfield 49, 3) ∧ decode cX10_paysToHear 69 = .ok (.invokevirtual 219, 3)) ∧ (decode cX10_paysToHear 72 = .ok (.aload_n 0, 1) ∧ decode cX10_paysToHear 73 = .ok (.getfield 49, 3)))) ∧ (((decode cX10_paysToHear 76 = .ok (.dup, 1) ∧ decode cX10_paysToHear 77 = .ok (.getfield 145, 3)) ∧ (decode cX10_paysToHear 80 = .ok (.iload_n 3, 1) ∧ decode cX10_paysToHear 81 = .ok (.isub, 1))) ∧ ((decode cX10_paysToHear 82 = .ok (.putfield 145, 3) ∧ decode cX10_paysToHear 85 = .ok (.iconst 1, 1)) ∧ decode cX10_paysToHear 86 = .ok (.ireturn, 1)))) := by decide +kernel
theorem dX10_paysToHear_60 : decode cX10_paysToHear 60 = .ok (.ireturn, 1) := dX10_paysToHear_60_z.1.1.1.1
theorem dX10_paysToHear_61 : decode cX10_paysToHear 61 = .ok (.aload_n 0, 1) := dX10_paysToHear_60_z.1.1.1.2
theorem dX10_paysToHear_62 : decode cX10_paysToHear 62 = .ok (.getfield 59, 3) := dX10_paysToHear_60_z.1.1.2.1
theorem dX10_paysToHear_65 : decode cX10_paysToHear 65 = .ok (.aload_n 0, 1) := dX10_paysToHear_60_z.1.1.2.2
theorem dX10_paysToHear_66 : decode cX10_paysToHear 66 = .ok (.getfield 49, 3) := dX10_paysToHear_60_z.1.2.1.1
theorem dX10_paysToHear_69 : decode cX10_paysToHear 69 = .ok (.invokevirtual 219, 3) := dX10_paysToHear_60_z.1.2.1.2
theorem dX10_paysToHear_72 : decode cX10_paysToHear 72 = .ok (.aload_n 0, 1) := dX10_paysToHear_60_z.1.2.2.1
theorem dX10_paysToHear_73 : decode cX10_paysToHear 73 = .ok (.getfield 49, 3) := dX10_paysToHear_60_z.1.2.2.2
theorem dX10_paysToHear_76 : decode cX10_paysToHear 76 = .ok (.dup, 1) := dX10_paysToHear_60_z.2.1.1.1
theorem dX10_paysToHear_77 : decode cX10_paysToHear 77 = .ok (.getfield 145, 3) := dX10_paysToHear_60_z.2.1.1.2
theorem dX10_paysToHear_80 : decode cX10_paysToHear 80 = .ok (.iload_n 3, 1) := dX10_paysToHear_60_z.2.1.2.1
theorem dX10_paysToHear_81 : decode cX10_paysToHear 81 = .ok (.isub, 1) := dX10_paysToHear_60_z.2.1.2.2
theorem dX10_paysToHear_82 : decode cX10_paysToHear 82 = .ok (.putfield 145, 3) := dX10_paysToHear_60_z.2.2.1.1
theorem dX10_paysToHear_85 : decode cX10_paysToHear 85 = .ok (.iconst 1, 1) := dX10_paysToHear_60_z.2.2.1.2
theorem dX10_paysToHear_86 : decode cX10_paysToHear 86 = .ok (.ireturn, 1) := dX10_paysToHear_60_z.2.2.2
set_option maxRecDepth 100000 in
theorem dX10_wed_0_z : ((((decode cX10_wed 0 = .ok (.aload_n 0, 1) ∧ decode cX10_wed 1 = .ok (.iload_n 1, 1)) ∧ (decode cX10_wed 2 = .ok (.invokevirtual 154, 3) ∧ decode cX10_wed 5 = .ok (.ifCond .ne 9, 3))) ∧ ((decode cX10_wed 8 = .ok (.aload_n 0, 1) ∧ decode cX10_wed 9 = .ok (.iconst 0, 1)) ∧ (decode cX10_wed 10 = .ok (.invokevirtual 213, 3) ∧ decode cX10_wed 13 = .ok (.ireturn, 1)))) ∧ (((decode cX10_wed 14 = .ok (.aload_n 0, 1) ∧ decode cX10_wed 15 = .ok (.getfield 49, 3)) ∧ (decode cX10_wed 18 = .ok (.getfield 237, 3) ∧ decode cX10_wed 21 = .ok (.iconst (-1), 1))) ∧ ((decode cX10_wed 22 = .ok (.if_icmp .eq 9, 3) ∧ decode cX10_wed 25 = .ok (.aload_n 0, 1)) ∧ (decode cX10_wed 26 = .ok (.iconst 3, 1) ∧ decode cX10_wed 27 = .ok (.invokevirtual 213, 3))))) := by decide +kernel
theorem dX10_wed_0 : decode cX10_wed 0 = .ok (.aload_n 0, 1) := dX10_wed_0_z.1.1.1.1
theorem dX10_wed_1 : decode cX10_wed 1 = .ok (.iload_n 1, 1) := dX10_wed_0_z.1.1.1.2
theorem dX10_wed_2 : decode cX10_wed 2 = .ok (.invokevirtual 154, 3) := dX10_wed_0_z.1.1.2.1
theorem dX10_wed_5 : decode cX10_wed 5 = .ok (.ifCond .ne 9, 3) := dX10_wed_0_z.1.1.2.2
theorem dX10_wed_8 : decode cX10_wed 8 = .ok (.aload_n 0, 1) := dX10_wed_0_z.1.2.1.1
theorem dX10_wed_9 : decode cX10_wed 9 = .ok (.iconst 0, 1) := dX10_wed_0_z.1.2.1.2
theorem dX10_wed_10 : decode cX10_wed 10 = .ok (.invokevirtual 213, 3) := dX10_wed_0_z.1.2.2.1
theorem dX10_wed_13 : decode cX10_wed 13 = .ok (.ireturn, 1) := dX10_wed_0_z.1.2.2.2
theorem dX10_wed_14 : decode cX10_wed 14 = .ok (.aload_n 0, 1) := dX10_wed_0_z.2.1.1.1
theorem dX10_wed_15 : decode cX10_wed 15 = .ok (.getfield 49, 3) := dX10_wed_0_z.2.1.1.2
theorem dX10_wed_18 : decode cX10_wed 18 = .ok (.getfield 237, 3) := dX10_wed_0_z.2.1.2.1
theorem dX10_wed_21 : decode cX10_wed 21 = .ok (.iconst (-1), 1) := dX10_wed_0_z.2.1.2.2
theorem dX10_wed_22 : decode cX10_wed 22 = .ok (.if_icmp .eq 9, 3) := dX10_wed_0_z.2.2.1.1
theorem dX10_wed_25 : decode cX10_wed 25 = .ok (.aload_n 0, 1) := dX10_wed_0_z.2.2.1.2
theorem dX10_wed_26 : decode cX10_wed 26 = .ok (.iconst 3, 1) := dX10_wed_0_z.2.2.2.1
theorem dX10_wed_27 : decode cX10_wed 27 = .ok (.invokevirtual 213, 3) := dX10_wed_0_z.2.2.2.2
set_option maxRecDepth 100000 in
theorem dX10_wed_30_z : ((((decode cX10_wed 30 = .ok (.ireturn, 1) ∧ decode cX10_wed 31 = .ok (.aload_n 0, 1)) ∧ (decode cX10_wed 32 = .ok (.getfield 59, 3) ∧ decode cX10_wed 35 = .ok (.aload_n 0, 1))) ∧ ((decode cX10_wed 36 = .ok (.getfield 49, 3) ∧ decode cX10_wed 39 = .ok (.invokevirtual 219, 3)) ∧ (decode cX10_wed 42 = .ok (.aload_n 0, 1) ∧ decode cX10_wed 43 = .ok (.getfield 49, 3)))) ∧ (((decode cX10_wed 46 = .ok (.iload_n 1, 1) ∧ decode cX10_wed 47 = .ok (.putfield 237, 3)) ∧ (decode cX10_wed 50 = .ok (.aload_n 0, 1) ∧ decode cX10_wed 51 = .ok (.getfield 49, 3))) ∧ ((decode cX10_wed 54 = .ok (.sipush 999, 3) ∧ decode cX10_wed 57 = .ok (.aload_n 0, 1)) ∧ (decode cX10_wed 58 = .ok (.getfield 49, 3) ∧ decode cX10_wed 61 = .ok (.getfield 145, 3))))) := by decide +kernel
theorem dX10_wed_30 : decode cX10_wed 30 = .ok (.ireturn, 1) := dX10_wed_30_z.1.1.1.1
theorem dX10_wed_31 : decode cX10_wed 31 = .ok (.aload_n 0, 1) := dX10_wed_30_z.1.1.1.2
theorem dX10_wed_32 : decode cX10_wed 32 = .ok (.getfield 59, 3) := dX10_wed_30_z.1.1.2.1
theorem dX10_wed_35 : decode cX10_wed 35 = .ok (.aload_n 0, 1) := dX10_wed_30_z.1.1.2.2
theorem dX10_wed_36 : decode cX10_wed 36 = .ok (.getfield 49, 3) := dX10_wed_30_z.1.2.1.1
theorem dX10_wed_39 : decode cX10_wed 39 = .ok (.invokevirtual 219, 3) := dX10_wed_30_z.1.2.1.2
theorem dX10_wed_42 : decode cX10_wed 42 = .ok (.aload_n 0, 1) := dX10_wed_30_z.1.2.2.1
theorem dX10_wed_43 : decode cX10_wed 43 = .ok (.getfield 49, 3) := dX10_wed_30_z.1.2.2.2
theorem dX10_wed_46 : decode cX10_wed 46 = .ok (.iload_n 1, 1) := dX10_wed_30_z.2.1.1.1
theorem dX10_wed_47 : decode cX10_wed 47 = .ok (.putfield 237, 3) := dX10_wed_30_z.2.1.1.2
theorem dX10_wed_50 : decode cX10_wed 50 = .ok (.aload_n 0, 1) := dX10_wed_30_z.2.1.2.1
theorem dX10_wed_51 : decode cX10_wed 51 = .ok (.getfield 49, 3) := dX10_wed_30_z.2.1.2.2
theorem dX10_wed_54 : decode cX10_wed 54 = .ok (.sipush 999, 3) := dX10_wed_30_z.2.2.1.1
theorem dX10_wed_57 : decode cX10_wed 57 = .ok (.aload_n 0, 1) := dX10_wed_30_z.2.2.1.2
theorem dX10_wed_58 : decode cX10_wed 58 = .ok (.getfield 49, 3) := dX10_wed_30_z.2.2.2.1
theorem dX10_wed_61 : decode cX10_wed 61 = .ok (.getfield 145, 3) := dX10_wed_30_z.2.2.2.2
set_option maxRecDepth 100000 in
theorem dX10_wed_64_z : ((((decode cX10_wed 64 = .ok (.aload_n 0, 1) ∧ decode cX10_wed 65 = .ok (.getfield 37, 3)) ∧ (decode cX10_wed 68 = .ok (.iload_n 1, 1) ∧ decode cX10_wed 69 = .ok (.invokevirtual 165, 3))) ∧ ((decode cX10_wed 72 = .ok (.bipush 10, 2) ∧ decode cX10_wed 74 = .ok (.idiv, 1)) ∧ decode cX10_wed 75 = .ok (.iadd, 1))) ∧ (((decode cX10_wed 76 = .ok (.invokestatic 240, 3) ∧ decode cX10_wed 79 = .ok (.putfield 145, 3)) ∧ decode cX10_wed 82 = .ok (.aload_n 0, 1)) ∧ ((decode cX10_wed 83 = .ok (.getfield 49, 3) ∧ decode cX10_wed 86 = .ok (.getfield 145, 3)) ∧ decode cX10_wed 89 = .ok (.ireturn, 1)))) := by decide +kernel
theorem dX10_wed_64 : decode cX10_wed 64 = .ok (.aload_n 0, 1) := dX10_wed_64_z.1.1.1.1
theorem dX10_wed_65 : decode cX10_wed 65 = .ok (.getfield 37, 3) := dX10_wed_64_z.1.1.1.2
theorem dX10_wed_68 : decode cX10_wed 68 = .ok (.iload_n 1, 1) := dX10_wed_64_z.1.1.2.1
theorem dX10_wed_69 : decode cX10_wed 69 = .ok (.invokevirtual 165, 3) := dX10_wed_64_z.1.1.2.2
theorem dX10_wed_72 : decode cX10_wed 72 = .ok (.bipush 10, 2) := dX10_wed_64_z.1.2.1.1
theorem dX10_wed_74 : decode cX10_wed 74 = .ok (.idiv, 1) := dX10_wed_64_z.1.2.1.2
theorem dX10_wed_75 : decode cX10_wed 75 = .ok (.iadd, 1) := dX10_wed_64_z.1.2.2
theorem dX10_wed_76 : decode cX10_wed 76 = .ok (.invokestatic 240, 3) := dX10_wed_64_z.2.1.1.1
theorem dX10_wed_79 : decode cX10_wed 79 = .ok (.putfield 145, 3) := dX10_wed_64_z.2.1.1.2
theorem dX10_wed_82 : decode cX10_wed 82 = .ok (.aload_n 0, 1) := dX10_wed_64_z.2.1.2
theorem dX10_wed_83 : decode cX10_wed 83 = .ok (.getfield 49, 3) := dX10_wed_64_z.2.2.1.1
theorem dX10_wed_86 : decode cX10_wed 86 = .ok (.getfield 145, 3) := dX10_wed_64_z.2.2.1.2
theorem dX10_wed_89 : decode cX10_wed 89 = .ok (.ireturn, 1) := dX10_wed_64_z.2.2.2
set_option maxRecDepth 100000 in
theorem dX10_annul_0_z : ((((decode cX10_annul 0 = .ok (.aload_n 0, 1) ∧ decode cX10_annul 1 = .ok (.invokevirtual 141, 3)) ∧ (decode cX10_annul 4 = .ok (.ifCond .ne 9, 3) ∧ decode cX10_annul 7 = .ok (.aload_n 0, 1))) ∧ ((decode cX10_annul 8 = .ok (.iconst 0, 1) ∧ decode cX10_annul 9 = .ok (.invokevirtual 213, 3)) ∧ (decode cX10_annul 12 = .ok (.ireturn, 1) ∧ decode cX10_annul 13 = .ok (.aload_n 0, 1)))) ∧ (((decode cX10_annul 14 = .ok (.getfield 49, 3) ∧ decode cX10_annul 17 = .ok (.getfield 237, 3)) ∧ (decode cX10_annul 20 = .ok (.istore_n 1, 1) ∧ decode cX10_annul 21 = .ok (.iload_n 1, 1))) ∧ ((decode cX10_annul 22 = .ok (.iconst (-1), 1) ∧ decode cX10_annul 23 = .ok (.if_icmp .ne 9, 3)) ∧ (decode cX10_annul 26 = .ok (.aload_n 0, 1) ∧ decode cX10_annul 27 = .ok (.iconst 3, 1))))) := by decide +kernel
theorem dX10_annul_0 : decode cX10_annul 0 = .ok (.aload_n 0, 1) := dX10_annul_0_z.1.1.1.1
theorem dX10_annul_1 : decode cX10_annul 1 = .ok (.invokevirtual 141, 3) := dX10_annul_0_z.1.1.1.2
theorem dX10_annul_4 : decode cX10_annul 4 = .ok (.ifCond .ne 9, 3) := dX10_annul_0_z.1.1.2.1
theorem dX10_annul_7 : decode cX10_annul 7 = .ok (.aload_n 0, 1) := dX10_annul_0_z.1.1.2.2
theorem dX10_annul_8 : decode cX10_annul 8 = .ok (.iconst 0, 1) := dX10_annul_0_z.1.2.1.1
theorem dX10_annul_9 : decode cX10_annul 9 = .ok (.invokevirtual 213, 3) := dX10_annul_0_z.1.2.1.2
theorem dX10_annul_12 : decode cX10_annul 12 = .ok (.ireturn, 1) := dX10_annul_0_z.1.2.2.1
theorem dX10_annul_13 : decode cX10_annul 13 = .ok (.aload_n 0, 1) := dX10_annul_0_z.1.2.2.2
theorem dX10_annul_14 : decode cX10_annul 14 = .ok (.getfield 49, 3) := dX10_annul_0_z.2.1.1.1
theorem dX10_annul_17 : decode cX10_annul 17 = .ok (.getfield 237, 3) := dX10_annul_0_z.2.1.1.2
theorem dX10_annul_20 : decode cX10_annul 20 = .ok (.istore_n 1, 1) := dX10_annul_0_z.2.1.2.1
theorem dX10_annul_21 : decode cX10_annul 21 = .ok (.iload_n 1, 1) := dX10_annul_0_z.2.1.2.2
theorem dX10_annul_22 : decode cX10_annul 22 = .ok (.iconst (-1), 1) := dX10_annul_0_z.2.2.1.1
theorem dX10_annul_23 : decode cX10_annul 23 = .ok (.if_icmp .ne 9, 3) := dX10_annul_0_z.2.2.1.2
theorem dX10_annul_26 : decode cX10_annul 26 = .ok (.aload_n 0, 1) := dX10_annul_0_z.2.2.2.1
theorem dX10_annul_27 : decode cX10_annul 27 = .ok (.iconst 3, 1) := dX10_annul_0_z.2.2.2.2
set_option maxRecDepth 100000 in
theorem dX10_annul_28_z : ((((decode cX10_annul 28 = .ok (.invokevirtual 213, 3) ∧ decode cX10_annul 31 = .ok (.ireturn, 1)) ∧ (decode cX10_annul 32 = .ok (.aload_n 0, 1) ∧ decode cX10_annul 33 = .ok (.iload_n 1, 1))) ∧ ((decode cX10_annul 34 = .ok (.invokevirtual 245, 3) ∧ decode cX10_annul 37 = .ok (.aload_n 0, 1)) ∧ (decode cX10_annul 38 = .ok (.getfield 37, 3) ∧ decode cX10_annul 41 = .ok (.iload_n 1, 1)))) ∧ (((decode cX10_annul 42 = .ok (.invokevirtual 161, 3) ∧ decode cX10_annul 45 = .ok (.isub, 1)) ∧ (decode cX10_annul 46 = .ok (.iconst 3, 1) ∧ decode cX10_annul 47 = .ok (.if_icmp .ge 9, 3))) ∧ ((decode cX10_annul 50 = .ok (.aload_n 0, 1) ∧ decode cX10_annul 51 = .ok (.iconst 4, 1)) ∧ (decode cX10_annul 52 = .ok (.invokevirtual 213, 3) ∧ decode cX10_annul 55 = .ok (.ireturn, 1))))) := by decide +kernel
theorem dX10_annul_28 : decode cX10_annul 28 = .ok (.invokevirtual 213, 3) := dX10_annul_28_z.1.1.1.1
theorem dX10_annul_31 : decode cX10_annul 31 = .ok (.ireturn, 1) := dX10_annul_28_z.1.1.1.2
theorem dX10_annul_32 : decode cX10_annul 32 = .ok (.aload_n 0, 1) := dX10_annul_28_z.1.1.2.1
theorem dX10_annul_33 : decode cX10_annul 33 = .ok (.iload_n 1, 1) := dX10_annul_28_z.1.1.2.2
theorem dX10_annul_34 : decode cX10_annul 34 = .ok (.invokevirtual 245, 3) := dX10_annul_28_z.1.2.1.1
theorem dX10_annul_37 : decode cX10_annul 37 = .ok (.aload_n 0, 1) := dX10_annul_28_z.1.2.1.2
theorem dX10_annul_38 : decode cX10_annul 38 = .ok (.getfield 37, 3) := dX10_annul_28_z.1.2.2.1
theorem dX10_annul_41 : decode cX10_annul 41 = .ok (.iload_n 1, 1) := dX10_annul_28_z.1.2.2.2
theorem dX10_annul_42 : decode cX10_annul 42 = .ok (.invokevirtual 161, 3) := dX10_annul_28_z.2.1.1.1
theorem dX10_annul_45 : decode cX10_annul 45 = .ok (.isub, 1) := dX10_annul_28_z.2.1.1.2
theorem dX10_annul_46 : decode cX10_annul 46 = .ok (.iconst 3, 1) := dX10_annul_28_z.2.1.2.1
theorem dX10_annul_47 : decode cX10_annul 47 = .ok (.if_icmp .ge 9, 3) := dX10_annul_28_z.2.1.2.2
theorem dX10_annul_50 : decode cX10_annul 50 = .ok (.aload_n 0, 1) := dX10_annul_28_z.2.2.1.1
theorem dX10_annul_51 : decode cX10_annul 51 = .ok (.iconst 4, 1) := dX10_annul_28_z.2.2.1.2
theorem dX10_annul_52 : decode cX10_annul 52 = .ok (.invokevirtual 213, 3) := dX10_annul_28_z.2.2.2.1
theorem dX10_annul_55 : decode cX10_annul 55 = .ok (.ireturn, 1) := dX10_annul_28_z.2.2.2.2
set_option maxRecDepth 100000 in
theorem dX10_annul_56_z : ((((decode cX10_annul 56 = .ok (.aload_n 0, 1) ∧ decode cX10_annul 57 = .ok (.getfield 59, 3)) ∧ decode cX10_annul 60 = .ok (.aload_n 0, 1)) ∧ ((decode cX10_annul 61 = .ok (.getfield 49, 3) ∧ decode cX10_annul 64 = .ok (.invokevirtual 219, 3)) ∧ decode cX10_annul 67 = .ok (.aload_n 0, 1))) ∧ (((decode cX10_annul 68 = .ok (.getfield 49, 3) ∧ decode cX10_annul 71 = .ok (.iconst (-1), 1)) ∧ decode cX10_annul 72 = .ok (.putfield 237, 3)) ∧ (decode cX10_annul 75 = .ok (.iload_n 1, 1) ∧ decode cX10_annul 76 = .ok (.ireturn, 1)))) := by decide +kernel
theorem dX10_annul_56 : decode cX10_annul 56 = .ok (.aload_n 0, 1) := dX10_annul_56_z.1.1.1.1
theorem dX10_annul_57 : decode cX10_annul 57 = .ok (.getfield 59, 3) := dX10_annul_56_z.1.1.1.2
theorem dX10_annul_60 : decode cX10_annul 60 = .ok (.aload_n 0, 1) := dX10_annul_56_z.1.1.2
theorem dX10_annul_61 : decode cX10_annul 61 = .ok (.getfield 49, 3) := dX10_annul_56_z.1.2.1.1
theorem dX10_annul_64 : decode cX10_annul 64 = .ok (.invokevirtual 219, 3) := dX10_annul_56_z.1.2.1.2
theorem dX10_annul_67 : decode cX10_annul 67 = .ok (.aload_n 0, 1) := dX10_annul_56_z.1.2.2
theorem dX10_annul_68 : decode cX10_annul 68 = .ok (.getfield 49, 3) := dX10_annul_56_z.2.1.1.1
theorem dX10_annul_71 : decode cX10_annul 71 = .ok (.iconst (-1), 1) := dX10_annul_56_z.2.1.1.2
theorem dX10_annul_72 : decode cX10_annul 72 = .ok (.putfield 237, 3) := dX10_annul_56_z.2.1.2
theorem dX10_annul_75 : decode cX10_annul 75 = .ok (.iload_n 1, 1) := dX10_annul_56_z.2.2.1
theorem dX10_annul_76 : decode cX10_annul 76 = .ok (.ireturn, 1) := dX10_annul_56_z.2.2.2
set_option maxRecDepth 100000 in
theorem dX10_months_0_z : ((((decode cX10_months 0 = .ok (.aload_n 0, 1) ∧ decode cX10_months 1 = .ok (.invokevirtual 141, 3)) ∧ (decode cX10_months 4 = .ok (.ifCond .ne 9, 3) ∧ decode cX10_months 7 = .ok (.aload_n 0, 1))) ∧ ((decode cX10_months 8 = .ok (.iconst 0, 1) ∧ decode cX10_months 9 = .ok (.invokevirtual 213, 3)) ∧ (decode cX10_months 12 = .ok (.ireturn, 1) ∧ decode cX10_months 13 = .ok (.iload_n 1, 1)))) ∧ (((decode cX10_months 14 = .ok (.iconst 1, 1) ∧ decode cX10_months 15 = .ok (.if_icmp .lt 9, 3)) ∧ (decode cX10_months 18 = .ok (.iload_n 1, 1) ∧ decode cX10_months 19 = .ok (.bipush 60, 2))) ∧ ((decode cX10_months 21 = .ok (.if_icmp .le 9, 3) ∧ decode cX10_months 24 = .ok (.aload_n 0, 1)) ∧ (decode cX10_months 25 = .ok (.iconst 1, 1) ∧ decode cX10_months 26 = .ok (.invokevirtual 213, 3))))) := by decide +kernel
theorem dX10_months_0 : decode cX10_months 0 = .ok (.aload_n 0, 1) := dX10_months_0_z.1.1.1.1
theorem dX10_months_1 : decode cX10_months 1 = .ok (.invokevirtual 141, 3) := dX10_months_0_z.1.1.1.2
theorem dX10_months_4 : decode cX10_months 4 = .ok (.ifCond .ne 9, 3) := dX10_months_0_z.1.1.2.1
theorem dX10_months_7 : decode cX10_months 7 = .ok (.aload_n 0, 1) := dX10_months_0_z.1.1.2.2
theorem dX10_months_8 : decode cX10_months 8 = .ok (.iconst 0, 1) := dX10_months_0_z.1.2.1.1
theorem dX10_months_9 : decode cX10_months 9 = .ok (.invokevirtual 213, 3) := dX10_months_0_z.1.2.1.2
theorem dX10_months_12 : decode cX10_months 12 = .ok (.ireturn, 1) := dX10_months_0_z.1.2.2.1
theorem dX10_months_13 : decode cX10_months 13 = .ok (.iload_n 1, 1) := dX10_months_0_z.1.2.2.2
theorem dX10_months_14 : decode cX10_months 14 = .ok (.iconst 1, 1) := dX10_months_0_z.2.1.1.1
theorem dX10_months_15 : decode cX10_months 15 = .ok (.if_icmp .lt 9, 3) := dX10_months_0_z.2.1.1.2
theorem dX10_months_18 : decode cX10_months 18 = .ok (.iload_n 1, 1) := dX10_months_0_z.2.1.2.1
theorem dX10_months_19 : decode cX10_months 19 = .ok (.bipush 60, 2) := dX10_months_0_z.2.1.2.2
theorem dX10_months_21 : decode cX10_months 21 = .ok (.if_icmp .le 9, 3) := dX10_months_0_z.2.2.1.1
theorem dX10_months_24 : decode cX10_months 24 = .ok (.aload_n 0, 1) := dX10_months_0_z.2.2.1.2
theorem dX10_months_25 : decode cX10_months 25 = .ok (.iconst 1, 1) := dX10_months_0_z.2.2.2.1
theorem dX10_months_26 : decode cX10_months 26 = .ok (.invokevirtual 213, 3) := dX10_months_0_z.2.2.2.2
set_option maxRecDepth 100000 in
theorem dX10_months_29_z : ((((decode cX10_months 29 = .ok (.ireturn, 1) ∧ decode cX10_months 30 = .ok (.aload_n 0, 1)) ∧ (decode cX10_months 31 = .ok (.getfield 49, 3) ∧ decode cX10_months 34 = .ok (.getfield 248, 3))) ∧ ((decode cX10_months 37 = .ok (.iload_n 1, 1) ∧ decode cX10_months 38 = .ok (.iadd, 1)) ∧ (decode cX10_months 39 = .ok (.sipush 999, 3) ∧ decode cX10_months 42 = .ok (.if_icmp .le 9, 3)))) ∧ (((decode cX10_months 45 = .ok (.aload_n 0, 1) ∧ decode cX10_months 46 = .ok (.iconst 4, 1)) ∧ (decode cX10_months 47 = .ok (.invokevirtual 213, 3) ∧ decode cX10_months 50 = .ok (.ireturn, 1))) ∧ ((decode cX10_months 51 = .ok (.iconst 0, 1) ∧ decode cX10_months 52 = .ok (.istore_n 2, 1)) ∧ (decode cX10_months 53 = .ok (.iload_n 2, 1) ∧ decode cX10_months 54 = .ok (.iload_n 1, 1))))) := by decide +kernel
theorem dX10_months_29 : decode cX10_months 29 = .ok (.ireturn, 1) := dX10_months_29_z.1.1.1.1
theorem dX10_months_30 : decode cX10_months 30 = .ok (.aload_n 0, 1) := dX10_months_29_z.1.1.1.2
theorem dX10_months_31 : decode cX10_months 31 = .ok (.getfield 49, 3) := dX10_months_29_z.1.1.2.1
theorem dX10_months_34 : decode cX10_months 34 = .ok (.getfield 248, 3) := dX10_months_29_z.1.1.2.2
theorem dX10_months_37 : decode cX10_months 37 = .ok (.iload_n 1, 1) := dX10_months_29_z.1.2.1.1
theorem dX10_months_38 : decode cX10_months 38 = .ok (.iadd, 1) := dX10_months_29_z.1.2.1.2
theorem dX10_months_39 : decode cX10_months 39 = .ok (.sipush 999, 3) := dX10_months_29_z.1.2.2.1
theorem dX10_months_42 : decode cX10_months 42 = .ok (.if_icmp .le 9, 3) := dX10_months_29_z.1.2.2.2
theorem dX10_months_45 : decode cX10_months 45 = .ok (.aload_n 0, 1) := dX10_months_29_z.2.1.1.1
theorem dX10_months_46 : decode cX10_months 46 = .ok (.iconst 4, 1) := dX10_months_29_z.2.1.1.2
theorem dX10_months_47 : decode cX10_months 47 = .ok (.invokevirtual 213, 3) := dX10_months_29_z.2.1.2.1
theorem dX10_months_50 : decode cX10_months 50 = .ok (.ireturn, 1) := dX10_months_29_z.2.1.2.2
theorem dX10_months_51 : decode cX10_months 51 = .ok (.iconst 0, 1) := dX10_months_29_z.2.2.1.1
theorem dX10_months_52 : decode cX10_months 52 = .ok (.istore_n 2, 1) := dX10_months_29_z.2.2.1.2
theorem dX10_months_53 : decode cX10_months 53 = .ok (.iload_n 2, 1) := dX10_months_29_z.2.2.2.1
theorem dX10_months_54 : decode cX10_months 54 = .ok (.iload_n 1, 1) := dX10_months_29_z.2.2.2.2
set_option maxRecDepth 100000 in
theorem dX10_months_55_z : ((((decode cX10_months 55 = .ok (.if_icmp .ge 27, 3) ∧ decode cX10_months 58 = .ok (.aload_n 0, 1)) ∧ (decode cX10_months 59 = .ok (.getfield 59, 3) ∧ decode cX10_months 62 = .ok (.aload_n 0, 1))) ∧ ((decode cX10_months 63 = .ok (.getfield 49, 3) ∧ decode cX10_months 66 = .ok (.invokevirtual 219, 3)) ∧ (decode cX10_months 69 = .ok (.aload_n 0, 1) ∧ decode cX10_months 70 = .ok (.getfield 49, 3)))) ∧ (((decode cX10_months 73 = .ok (.invokevirtual 251, 3) ∧ decode cX10_months 76 = .ok (.iinc 2 1, 3)) ∧ (decode cX10_months 79 = .ok (.goto (-26), 3) ∧ decode cX10_months 82 = .ok (.aload_n 0, 1))) ∧ ((decode cX10_months 83 = .ok (.getfield 49, 3) ∧ decode cX10_months 86 = .ok (.getfield 248, 3)) ∧ decode cX10_months 89 = .ok (.ireturn, 1)))) := by decide +kernel
theorem dX10_months_55 : decode cX10_months 55 = .ok (.if_icmp .ge 27, 3) := dX10_months_55_z.1.1.1.1
theorem dX10_months_58 : decode cX10_months 58 = .ok (.aload_n 0, 1) := dX10_months_55_z.1.1.1.2
theorem dX10_months_59 : decode cX10_months 59 = .ok (.getfield 59, 3) := dX10_months_55_z.1.1.2.1
theorem dX10_months_62 : decode cX10_months 62 = .ok (.aload_n 0, 1) := dX10_months_55_z.1.1.2.2
theorem dX10_months_63 : decode cX10_months 63 = .ok (.getfield 49, 3) := dX10_months_55_z.1.2.1.1
theorem dX10_months_66 : decode cX10_months 66 = .ok (.invokevirtual 219, 3) := dX10_months_55_z.1.2.1.2
theorem dX10_months_69 : decode cX10_months 69 = .ok (.aload_n 0, 1) := dX10_months_55_z.1.2.2.1
theorem dX10_months_70 : decode cX10_months 70 = .ok (.getfield 49, 3) := dX10_months_55_z.1.2.2.2
theorem dX10_months_73 : decode cX10_months 73 = .ok (.invokevirtual 251, 3) := dX10_months_55_z.2.1.1.1
theorem dX10_months_76 : decode cX10_months 76 = .ok (.iinc 2 1, 3) := dX10_months_55_z.2.1.1.2
theorem dX10_months_79 : decode cX10_months 79 = .ok (.goto (-26), 3) := dX10_months_55_z.2.1.2.1
theorem dX10_months_82 : decode cX10_months 82 = .ok (.aload_n 0, 1) := dX10_months_55_z.2.1.2.2
theorem dX10_months_83 : decode cX10_months 83 = .ok (.getfield 49, 3) := dX10_months_55_z.2.2.1.1
theorem dX10_months_86 : decode cX10_months 86 = .ok (.getfield 248, 3) := dX10_months_55_z.2.2.1.2
theorem dX10_months_89 : decode cX10_months 89 = .ok (.ireturn, 1) := dX10_months_55_z.2.2.2
set_option maxRecDepth 100000 in
theorem dX10_bribes_0_z : ((((decode cX10_bribes 0 = .ok (.iload_n 1, 1) ∧ decode cX10_bribes 1 = .ok (.invokestatic 230, 3)) ∧ (decode cX10_bribes 4 = .ok (.ifCond .eq 11, 3) ∧ decode cX10_bribes 7 = .ok (.iload_n 1, 1))) ∧ ((decode cX10_bribes 8 = .ok (.aload_n 0, 1) ∧ decode cX10_bribes 9 = .ok (.getfield 254, 3)) ∧ decode cX10_bribes 12 = .ok (.if_icmp .ne 5, 3))) ∧ (((decode cX10_bribes 15 = .ok (.iconst 0, 1) ∧ decode cX10_bribes 16 = .ok (.ireturn, 1)) ∧ (decode cX10_bribes 17 = .ok (.aload_n 0, 1) ∧ decode cX10_bribes 18 = .ok (.iload_n 1, 1))) ∧ ((decode cX10_bribes 19 = .ok (.putfield 254, 3) ∧ decode cX10_bribes 22 = .ok (.iconst 1, 1)) ∧ decode cX10_bribes 23 = .ok (.ireturn, 1)))) := by decide +kernel
theorem dX10_bribes_0 : decode cX10_bribes 0 = .ok (.iload_n 1, 1) := dX10_bribes_0_z.1.1.1.1
theorem dX10_bribes_1 : decode cX10_bribes 1 = .ok (.invokestatic 230, 3) := dX10_bribes_0_z.1.1.1.2
theorem dX10_bribes_4 : decode cX10_bribes 4 = .ok (.ifCond .eq 11, 3) := dX10_bribes_0_z.1.1.2.1
theorem dX10_bribes_7 : decode cX10_bribes 7 = .ok (.iload_n 1, 1) := dX10_bribes_0_z.1.1.2.2
theorem dX10_bribes_8 : decode cX10_bribes 8 = .ok (.aload_n 0, 1) := dX10_bribes_0_z.1.2.1.1
theorem dX10_bribes_9 : decode cX10_bribes 9 = .ok (.getfield 254, 3) := dX10_bribes_0_z.1.2.1.2
theorem dX10_bribes_12 : decode cX10_bribes 12 = .ok (.if_icmp .ne 5, 3) := dX10_bribes_0_z.1.2.2
theorem dX10_bribes_15 : decode cX10_bribes 15 = .ok (.iconst 0, 1) := dX10_bribes_0_z.2.1.1.1
theorem dX10_bribes_16 : decode cX10_bribes 16 = .ok (.ireturn, 1) := dX10_bribes_0_z.2.1.1.2
theorem dX10_bribes_17 : decode cX10_bribes 17 = .ok (.aload_n 0, 1) := dX10_bribes_0_z.2.1.2.1
theorem dX10_bribes_18 : decode cX10_bribes 18 = .ok (.iload_n 1, 1) := dX10_bribes_0_z.2.1.2.2
theorem dX10_bribes_19 : decode cX10_bribes 19 = .ok (.putfield 254, 3) := dX10_bribes_0_z.2.2.1.1
theorem dX10_bribes_22 : decode cX10_bribes 22 = .ok (.iconst 1, 1) := dX10_bribes_0_z.2.2.1.2
theorem dX10_bribes_23 : decode cX10_bribes 23 = .ok (.ireturn, 1) := dX10_bribes_0_z.2.2.2
set_option maxRecDepth 100000 in
theorem dX10_decades_0_z : ((((decode cX10_decades 0 = .ok (.aload_n 0, 1) ∧ decode cX10_decades 1 = .ok (.invokevirtual 141, 3)) ∧ (decode cX10_decades 4 = .ok (.ifCond .eq 29, 3) ∧ decode cX10_decades 7 = .ok (.iload_n 1, 1))) ∧ ((decode cX10_decades 8 = .ok (.iconst 1, 1) ∧ decode cX10_decades 9 = .ok (.if_icmp .lt 24, 3)) ∧ (decode cX10_decades 12 = .ok (.iload_n 1, 1) ∧ decode cX10_decades 13 = .ok (.bipush 60, 2)))) ∧ (((decode cX10_decades 15 = .ok (.if_icmp .gt 18, 3) ∧ decode cX10_decades 18 = .ok (.aload_n 0, 1)) ∧ (decode cX10_decades 19 = .ok (.getfield 49, 3) ∧ decode cX10_decades 22 = .ok (.getfield 248, 3))) ∧ ((decode cX10_decades 25 = .ok (.iload_n 1, 1) ∧ decode cX10_decades 26 = .ok (.iadd, 1)) ∧ (decode cX10_decades 27 = .ok (.sipush 999, 3) ∧ decode cX10_decades 30 = .ok (.if_icmp .le 5, 3))))) := by decide +kernel
theorem dX10_decades_0 : decode cX10_decades 0 = .ok (.aload_n 0, 1) := dX10_decades_0_z.1.1.1.1
theorem dX10_decades_1 : decode cX10_decades 1 = .ok (.invokevirtual 141, 3) := dX10_decades_0_z.1.1.1.2
theorem dX10_decades_4 : decode cX10_decades 4 = .ok (.ifCond .eq 29, 3) := dX10_decades_0_z.1.1.2.1
theorem dX10_decades_7 : decode cX10_decades 7 = .ok (.iload_n 1, 1) := dX10_decades_0_z.1.1.2.2
theorem dX10_decades_8 : decode cX10_decades 8 = .ok (.iconst 1, 1) := dX10_decades_0_z.1.2.1.1
theorem dX10_decades_9 : decode cX10_decades 9 = .ok (.if_icmp .lt 24, 3) := dX10_decades_0_z.1.2.1.2
theorem dX10_decades_12 : decode cX10_decades 12 = .ok (.iload_n 1, 1) := dX10_decades_0_z.1.2.2.1
theorem dX10_decades_13 : decode cX10_decades 13 = .ok (.bipush 60, 2) := dX10_decades_0_z.1.2.2.2
theorem dX10_decades_15 : decode cX10_decades 15 = .ok (.if_icmp .gt 18, 3) := dX10_decades_0_z.2.1.1.1
theorem dX10_decades_18 : decode cX10_decades 18 = .ok (.aload_n 0, 1) := dX10_decades_0_z.2.1.1.2
theorem dX10_decades_19 : decode cX10_decades 19 = .ok (.getfield 49, 3) := dX10_decades_0_z.2.1.2.1
theorem dX10_decades_22 : decode cX10_decades 22 = .ok (.getfield 248, 3) := dX10_decades_0_z.2.1.2.2
theorem dX10_decades_25 : decode cX10_decades 25 = .ok (.iload_n 1, 1) := dX10_decades_0_z.2.2.1.1
theorem dX10_decades_26 : decode cX10_decades 26 = .ok (.iadd, 1) := dX10_decades_0_z.2.2.1.2
theorem dX10_decades_27 : decode cX10_decades 27 = .ok (.sipush 999, 3) := dX10_decades_0_z.2.2.2.1
theorem dX10_decades_30 : decode cX10_decades 30 = .ok (.if_icmp .le 5, 3) := dX10_decades_0_z.2.2.2.2
set_option maxRecDepth 100000 in
theorem dX10_decades_33_z : ((((decode cX10_decades 33 = .ok (.iconst (-1), 1) ∧ decode cX10_decades 34 = .ok (.ireturn, 1)) ∧ (decode cX10_decades 35 = .ok (.aload_n 0, 1) ∧ decode cX10_decades 36 = .ok (.getfield 84, 3))) ∧ ((decode cX10_decades 39 = .ok (.lload_n 2, 1) ∧ decode cX10_decades 40 = .ok (.invokevirtual 257, 3)) ∧ (decode cX10_decades 43 = .ok (.iconst 0, 1) ∧ decode cX10_decades 44 = .ok (.istore 4, 2)))) ∧ (((decode cX10_decades 46 = .ok (.iload 4, 2) ∧ decode cX10_decades 48 = .ok (.iload_n 1, 1)) ∧ (decode cX10_decades 49 = .ok (.if_icmp .ge 35, 3) ∧ decode cX10_decades 52 = .ok (.aload_n 0, 1))) ∧ ((decode cX10_decades 53 = .ok (.getfield 59, 3) ∧ decode cX10_decades 56 = .ok (.aload_n 0, 1)) ∧ (decode cX10_decades 57 = .ok (.getfield 49, 3) ∧ decode cX10_decades 60 = .ok (.invokevirtual 219, 3))))) := by decide +kernel
theorem dX10_decades_33 : decode cX10_decades 33 = .ok (.iconst (-1), 1) := dX10_decades_33_z.1.1.1.1
theorem dX10_decades_34 : decode cX10_decades 34 = .ok (.ireturn, 1) := dX10_decades_33_z.1.1.1.2
theorem dX10_decades_35 : decode cX10_decades 35 = .ok (.aload_n 0, 1) := dX10_decades_33_z.1.1.2.1
theorem dX10_decades_36 : decode cX10_decades 36 = .ok (.getfield 84, 3) := dX10_decades_33_z.1.1.2.2
theorem dX10_decades_39 : decode cX10_decades 39 = .ok (.lload_n 2, 1) := dX10_decades_33_z.1.2.1.1
theorem dX10_decades_40 : decode cX10_decades 40 = .ok (.invokevirtual 257, 3) := dX10_decades_33_z.1.2.1.2
theorem dX10_decades_43 : decode cX10_decades 43 = .ok (.iconst 0, 1) := dX10_decades_33_z.1.2.2.1
theorem dX10_decades_44 : decode cX10_decades 44 = .ok (.istore 4, 2) := dX10_decades_33_z.1.2.2.2
theorem dX10_decades_46 : decode cX10_decades 46 = .ok (.iload 4, 2) := dX10_decades_33_z.2.1.1.1
theorem dX10_decades_48 : decode cX10_decades 48 = .ok (.iload_n 1, 1) := dX10_decades_33_z.2.1.1.2
theorem dX10_decades_49 : decode cX10_decades 49 = .ok (.if_icmp .ge 35, 3) := dX10_decades_33_z.2.1.2.1
theorem dX10_decades_52 : decode cX10_decades 52 = .ok (.aload_n 0, 1) := dX10_decades_33_z.2.1.2.2
theorem dX10_decades_53 : decode cX10_decades 53 = .ok (.getfield 59, 3) := dX10_decades_33_z.2.2.1.1
theorem dX10_decades_56 : decode cX10_decades 56 = .ok (.aload_n 0, 1) := dX10_decades_33_z.2.2.1.2
theorem dX10_decades_57 : decode cX10_decades 57 = .ok (.getfield 49, 3) := dX10_decades_33_z.2.2.2.1
theorem dX10_decades_60 : decode cX10_decades 60 = .ok (.invokevirtual 219, 3) := dX10_decades_33_z.2.2.2.2
set_option maxRecDepth 100000 in
theorem dX10_decades_63_z : ((((decode cX10_decades 63 = .ok (.aload_n 0, 1) ∧ decode cX10_decades 64 = .ok (.invokevirtual 260, 3)) ∧ (decode cX10_decades 67 = .ok (.aload_n 0, 1) ∧ decode cX10_decades 68 = .ok (.invokevirtual 263, 3))) ∧ ((decode cX10_decades 71 = .ok (.aload_n 0, 1) ∧ decode cX10_decades 72 = .ok (.getfield 49, 3)) ∧ decode cX10_decades 75 = .ok (.invokevirtual 251, 3))) ∧ (((decode cX10_decades 78 = .ok (.iinc 4 1, 3) ∧ decode cX10_decades 81 = .ok (.goto (-35), 3)) ∧ decode cX10_decades 84 = .ok (.aload_n 0, 1)) ∧ ((decode cX10_decades 85 = .ok (.getfield 49, 3) ∧ decode cX10_decades 88 = .ok (.getfield 248, 3)) ∧ decode cX10_decades 91 = .ok (.ireturn, 1)))) := by decide +kernel
theorem dX10_decades_63 : decode cX10_decades 63 = .ok (.aload_n 0, 1) := dX10_decades_63_z.1.1.1.1
theorem dX10_decades_64 : decode cX10_decades 64 = .ok (.invokevirtual 260, 3) := dX10_decades_63_z.1.1.1.2
theorem dX10_decades_67 : decode cX10_decades 67 = .ok (.aload_n 0, 1) := dX10_decades_63_z.1.1.2.1
theorem dX10_decades_68 : decode cX10_decades 68 = .ok (.invokevirtual 263, 3) := dX10_decades_63_z.1.1.2.2
theorem dX10_decades_71 : decode cX10_decades 71 = .ok (.aload_n 0, 1) := dX10_decades_63_z.1.2.1.1
theorem dX10_decades_72 : decode cX10_decades 72 = .ok (.getfield 49, 3) := dX10_decades_63_z.1.2.1.2
theorem dX10_decades_75 : decode cX10_decades 75 = .ok (.invokevirtual 251, 3) := dX10_decades_63_z.1.2.2
theorem dX10_decades_78 : decode cX10_decades 78 = .ok (.iinc 4 1, 3) := dX10_decades_63_z.2.1.1.1
theorem dX10_decades_81 : decode cX10_decades 81 = .ok (.goto (-35), 3) := dX10_decades_63_z.2.1.1.2
theorem dX10_decades_84 : decode cX10_decades 84 = .ok (.aload_n 0, 1) := dX10_decades_63_z.2.1.2
theorem dX10_decades_85 : decode cX10_decades 85 = .ok (.getfield 49, 3) := dX10_decades_63_z.2.2.1.1
theorem dX10_decades_88 : decode cX10_decades 88 = .ok (.getfield 248, 3) := dX10_decades_63_z.2.2.1.2
theorem dX10_decades_91 : decode cX10_decades 91 = .ok (.ireturn, 1) := dX10_decades_63_z.2.2.2
set_option maxRecDepth 100000 in
theorem dX10_paintByDraws_0_z : ((((decode cX10_paintByDraws 0 = .ok (.aload_n 0, 1) ∧ decode cX10_paintByDraws 1 = .ok (.getfield 84, 3)) ∧ (decode cX10_paintByDraws 4 = .ok (.aload_n 0, 1) ∧ decode cX10_paintByDraws 5 = .ok (.getfield 37, 3))) ∧ ((decode cX10_paintByDraws 8 = .ok (.getfield 266, 3) ∧ decode cX10_paintByDraws 11 = .ok (.invokevirtual 269, 3)) ∧ (decode cX10_paintByDraws 14 = .ok (.istore_n 1, 1) ∧ decode cX10_paintByDraws 15 = .ok (.aload_n 0, 1)))) ∧ (((decode cX10_paintByDraws 16 = .ok (.getfield 84, 3) ∧ decode cX10_paintByDraws 19 = .ok (.aload_n 0, 1)) ∧ (decode cX10_paintByDraws 20 = .ok (.getfield 37, 3) ∧ decode cX10_paintByDraws 23 = .ok (.getfield 134, 3))) ∧ ((decode cX10_paintByDraws 26 = .ok (.invokevirtual 269, 3) ∧ decode cX10_paintByDraws 29 = .ok (.istore_n 2, 1)) ∧ (decode cX10_paintByDraws 30 = .ok (.aload_n 0, 1) ∧ decode cX10_paintByDraws 31 = .ok (.getfield 49, 3))))) := by decide +kernel
theorem dX10_paintByDraws_0 : decode cX10_paintByDraws 0 = .ok (.aload_n 0, 1) := dX10_paintByDraws_0_z.1.1.1.1
theorem dX10_paintByDraws_1 : decode cX10_paintByDraws 1 = .ok (.getfield 84, 3) := dX10_paintByDraws_0_z.1.1.1.2
theorem dX10_paintByDraws_4 : decode cX10_paintByDraws 4 = .ok (.aload_n 0, 1) := dX10_paintByDraws_0_z.1.1.2.1
theorem dX10_paintByDraws_5 : decode cX10_paintByDraws 5 = .ok (.getfield 37, 3) := dX10_paintByDraws_0_z.1.1.2.2
theorem dX10_paintByDraws_8 : decode cX10_paintByDraws 8 = .ok (.getfield 266, 3) := dX10_paintByDraws_0_z.1.2.1.1
theorem dX10_paintByDraws_11 : decode cX10_paintByDraws 11 = .ok (.invokevirtual 269, 3) := dX10_paintByDraws_0_z.1.2.1.2
theorem dX10_paintByDraws_14 : decode cX10_paintByDraws 14 = .ok (.istore_n 1, 1) := dX10_paintByDraws_0_z.1.2.2.1
theorem dX10_paintByDraws_15 : decode cX10_paintByDraws 15 = .ok (.aload_n 0, 1) := dX10_paintByDraws_0_z.1.2.2.2
theorem dX10_paintByDraws_16 : decode cX10_paintByDraws 16 = .ok (.getfield 84, 3) := dX10_paintByDraws_0_z.2.1.1.1
theorem dX10_paintByDraws_19 : decode cX10_paintByDraws 19 = .ok (.aload_n 0, 1) := dX10_paintByDraws_0_z.2.1.1.2
theorem dX10_paintByDraws_20 : decode cX10_paintByDraws 20 = .ok (.getfield 37, 3) := dX10_paintByDraws_0_z.2.1.2.1
theorem dX10_paintByDraws_23 : decode cX10_paintByDraws 23 = .ok (.getfield 134, 3) := dX10_paintByDraws_0_z.2.1.2.2
theorem dX10_paintByDraws_26 : decode cX10_paintByDraws 26 = .ok (.invokevirtual 269, 3) := dX10_paintByDraws_0_z.2.2.1.1
theorem dX10_paintByDraws_29 : decode cX10_paintByDraws 29 = .ok (.istore_n 2, 1) := dX10_paintByDraws_0_z.2.2.1.2
theorem dX10_paintByDraws_30 : decode cX10_paintByDraws 30 = .ok (.aload_n 0, 1) := dX10_paintByDraws_0_z.2.2.2.1
theorem dX10_paintByDraws_31 : decode cX10_paintByDraws 31 = .ok (.getfield 49, 3) := dX10_paintByDraws_0_z.2.2.2.2
set_option maxRecDepth 100000 in
theorem dX10_paintByDraws_34_z : ((((decode cX10_paintByDraws 34 = .ok (.getfield 145, 3) ∧ decode cX10_paintByDraws 37 = .ok (.aload_n 0, 1)) ∧ (decode cX10_paintByDraws 38 = .ok (.getfield 37, 3) ∧ decode cX10_paintByDraws 41 = .ok (.iload_n 1, 1))) ∧ ((decode cX10_paintByDraws 42 = .ok (.invokevirtual 190, 3) ∧ decode cX10_paintByDraws 45 = .ok (.if_icmp .lt 22, 3)) ∧ (decode cX10_paintByDraws 48 = .ok (.aload_n 0, 1) ∧ decode cX10_paintByDraws 49 = .ok (.getfield 49, 3)))) ∧ (((decode cX10_paintByDraws 52 = .ok (.getfield 216, 3) ∧ decode cX10_paintByDraws 55 = .ok (.bipush 20, 2)) ∧ (decode cX10_paintByDraws 57 = .ok (.if_icmp .ge 10, 3) ∧ decode cX10_paintByDraws 60 = .ok (.aload_n 0, 1))) ∧ ((decode cX10_paintByDraws 61 = .ok (.iload_n 1, 1) ∧ decode cX10_paintByDraws 62 = .ok (.iload_n 2, 1)) ∧ (decode cX10_paintByDraws 63 = .ok (.invokevirtual 223, 3) ∧ decode cX10_paintByDraws 66 = .ok (.pop, 1))))) := by decide +kernel
theorem dX10_paintByDraws_34 : decode cX10_paintByDraws 34 = .ok (.getfield 145, 3) := dX10_paintByDraws_34_z.1.1.1.1
theorem dX10_paintByDraws_37 : decode cX10_paintByDraws 37 = .ok (.aload_n 0, 1) := dX10_paintByDraws_34_z.1.1.1.2
theorem dX10_paintByDraws_38 : decode cX10_paintByDraws 38 = .ok (.getfield 37, 3) := dX10_paintByDraws_34_z.1.1.2.1
theorem dX10_paintByDraws_41 : decode cX10_paintByDraws 41 = .ok (.iload_n 1, 1) := dX10_paintByDraws_34_z.1.1.2.2
theorem dX10_paintByDraws_42 : decode cX10_paintByDraws 42 = .ok (.invokevirtual 190, 3) := dX10_paintByDraws_34_z.1.2.1.1
theorem dX10_paintByDraws_45 : decode cX10_paintByDraws 45 = .ok (.if_icmp .lt 22, 3) := dX10_paintByDraws_34_z.1.2.1.2
theorem dX10_paintByDraws_48 : decode cX10_paintByDraws 48 = .ok (.aload_n 0, 1) := dX10_paintByDraws_34_z.1.2.2.1
theorem dX10_paintByDraws_49 : decode cX10_paintByDraws 49 = .ok (.getfield 49, 3) := dX10_paintByDraws_34_z.1.2.2.2
theorem dX10_paintByDraws_52 : decode cX10_paintByDraws 52 = .ok (.getfield 216, 3) := dX10_paintByDraws_34_z.2.1.1.1
theorem dX10_paintByDraws_55 : decode cX10_paintByDraws 55 = .ok (.bipush 20, 2) := dX10_paintByDraws_34_z.2.1.1.2
theorem dX10_paintByDraws_57 : decode cX10_paintByDraws 57 = .ok (.if_icmp .ge 10, 3) := dX10_paintByDraws_34_z.2.1.2.1
theorem dX10_paintByDraws_60 : decode cX10_paintByDraws 60 = .ok (.aload_n 0, 1) := dX10_paintByDraws_34_z.2.1.2.2
theorem dX10_paintByDraws_61 : decode cX10_paintByDraws 61 = .ok (.iload_n 1, 1) := dX10_paintByDraws_34_z.2.2.1.1
theorem dX10_paintByDraws_62 : decode cX10_paintByDraws 62 = .ok (.iload_n 2, 1) := dX10_paintByDraws_34_z.2.2.1.2
theorem dX10_paintByDraws_63 : decode cX10_paintByDraws 63 = .ok (.invokevirtual 223, 3) := dX10_paintByDraws_34_z.2.2.2.1
theorem dX10_paintByDraws_66 : decode cX10_paintByDraws 66 = .ok (.pop, 1) := dX10_paintByDraws_34_z.2.2.2.2
theorem dX10_paintByDraws_67 : decode cX10_paintByDraws 67 = .ok (.return_, 1) := by decide +kernel
set_option maxRecDepth 100000 in
theorem dX10_payByDraws_0_z : ((((decode cX10_payByDraws 0 = .ok (.aload_n 0, 1) ∧ decode cX10_payByDraws 1 = .ok (.getfield 84, 3)) ∧ (decode cX10_payByDraws 4 = .ok (.bipush 10, 2) ∧ decode cX10_payByDraws 6 = .ok (.invokevirtual 269, 3))) ∧ ((decode cX10_payByDraws 9 = .ok (.aload_n 0, 1) ∧ decode cX10_payByDraws 10 = .ok (.getfield 254, 3)) ∧ (decode cX10_payByDraws 13 = .ok (.if_icmp .lt 4, 3) ∧ decode cX10_payByDraws 16 = .ok (.return_, 1)))) ∧ (((decode cX10_payByDraws 17 = .ok (.aload_n 0, 1) ∧ decode cX10_payByDraws 18 = .ok (.getfield 84, 3)) ∧ (decode cX10_payByDraws 21 = .ok (.aload_n 0, 1) ∧ decode cX10_payByDraws 22 = .ok (.getfield 37, 3))) ∧ ((decode cX10_payByDraws 25 = .ok (.getfield 134, 3) ∧ decode cX10_payByDraws 28 = .ok (.invokevirtual 269, 3)) ∧ (decode cX10_payByDraws 31 = .ok (.istore_n 1, 1) ∧ decode cX10_payByDraws 32 = .ok (.aload_n 0, 1))))) := by decide +kernel
theorem dX10_payByDraws_0 : decode cX10_payByDraws 0 = .ok (.aload_n 0, 1) := dX10_payByDraws_0_z.1.1.1.1
theorem dX10_payByDraws_1 : decode cX10_payByDraws 1 = .ok (.getfield 84, 3) := dX10_payByDraws_0_z.1.1.1.2
theorem dX10_payByDraws_4 : decode cX10_payByDraws 4 = .ok (.bipush 10, 2) := dX10_payByDraws_0_z.1.1.2.1
theorem dX10_payByDraws_6 : decode cX10_payByDraws 6 = .ok (.invokevirtual 269, 3) := dX10_payByDraws_0_z.1.1.2.2
theorem dX10_payByDraws_9 : decode cX10_payByDraws 9 = .ok (.aload_n 0, 1) := dX10_payByDraws_0_z.1.2.1.1
theorem dX10_payByDraws_10 : decode cX10_payByDraws 10 = .ok (.getfield 254, 3) := dX10_payByDraws_0_z.1.2.1.2
theorem dX10_payByDraws_13 : decode cX10_payByDraws 13 = .ok (.if_icmp .lt 4, 3) := dX10_payByDraws_0_z.1.2.2.1
theorem dX10_payByDraws_16 : decode cX10_payByDraws 16 = .ok (.return_, 1) := dX10_payByDraws_0_z.1.2.2.2
theorem dX10_payByDraws_17 : decode cX10_payByDraws 17 = .ok (.aload_n 0, 1) := dX10_payByDraws_0_z.2.1.1.1
theorem dX10_payByDraws_18 : decode cX10_payByDraws 18 = .ok (.getfield 84, 3) := dX10_payByDraws_0_z.2.1.1.2
theorem dX10_payByDraws_21 : decode cX10_payByDraws 21 = .ok (.aload_n 0, 1) := dX10_payByDraws_0_z.2.1.2.1
theorem dX10_payByDraws_22 : decode cX10_payByDraws 22 = .ok (.getfield 37, 3) := dX10_payByDraws_0_z.2.1.2.2
theorem dX10_payByDraws_25 : decode cX10_payByDraws 25 = .ok (.getfield 134, 3) := dX10_payByDraws_0_z.2.2.1.1
theorem dX10_payByDraws_28 : decode cX10_payByDraws 28 = .ok (.invokevirtual 269, 3) := dX10_payByDraws_0_z.2.2.1.2
theorem dX10_payByDraws_31 : decode cX10_payByDraws 31 = .ok (.istore_n 1, 1) := dX10_payByDraws_0_z.2.2.2.1
theorem dX10_payByDraws_32 : decode cX10_payByDraws 32 = .ok (.aload_n 0, 1) := dX10_payByDraws_0_z.2.2.2.2
set_option maxRecDepth 100000 in
theorem dX10_payByDraws_33_z : ((((decode cX10_payByDraws 33 = .ok (.getfield 49, 3) ∧ decode cX10_payByDraws 36 = .ok (.getfield 171, 3)) ∧ (decode cX10_payByDraws 39 = .ok (.iload_n 1, 1) ∧ decode cX10_payByDraws 40 = .ok (.bipush 9, 2))) ∧ ((decode cX10_payByDraws 42 = .ok (.aload_n 0, 1) ∧ decode cX10_payByDraws 43 = .ok (.getfield 49, 3)) ∧ decode cX10_payByDraws 46 = .ok (.getfield 171, 3))) ∧ (((decode cX10_payByDraws 49 = .ok (.iload_n 1, 1) ∧ decode cX10_payByDraws 50 = .ok (.iaload, 1)) ∧ (decode cX10_payByDraws 51 = .ok (.iconst 1, 1) ∧ decode cX10_payByDraws 52 = .ok (.iadd, 1))) ∧ ((decode cX10_payByDraws 53 = .ok (.invokestatic 240, 3) ∧ decode cX10_payByDraws 56 = .ok (.iastore, 1)) ∧ decode cX10_payByDraws 57 = .ok (.return_, 1)))) := by decide +kernel
theorem dX10_payByDraws_33 : decode cX10_payByDraws 33 = .ok (.getfield 49, 3) := dX10_payByDraws_33_z.1.1.1.1
theorem dX10_payByDraws_36 : decode cX10_payByDraws 36 = .ok (.getfield 171, 3) := dX10_payByDraws_33_z.1.1.1.2
theorem dX10_payByDraws_39 : decode cX10_payByDraws 39 = .ok (.iload_n 1, 1) := dX10_payByDraws_33_z.1.1.2.1
theorem dX10_payByDraws_40 : decode cX10_payByDraws 40 = .ok (.bipush 9, 2) := dX10_payByDraws_33_z.1.1.2.2
theorem dX10_payByDraws_42 : decode cX10_payByDraws 42 = .ok (.aload_n 0, 1) := dX10_payByDraws_33_z.1.2.1.1
theorem dX10_payByDraws_43 : decode cX10_payByDraws 43 = .ok (.getfield 49, 3) := dX10_payByDraws_33_z.1.2.1.2
theorem dX10_payByDraws_46 : decode cX10_payByDraws 46 = .ok (.getfield 171, 3) := dX10_payByDraws_33_z.1.2.2
theorem dX10_payByDraws_49 : decode cX10_payByDraws 49 = .ok (.iload_n 1, 1) := dX10_payByDraws_33_z.2.1.1.1
theorem dX10_payByDraws_50 : decode cX10_payByDraws 50 = .ok (.iaload, 1) := dX10_payByDraws_33_z.2.1.1.2
theorem dX10_payByDraws_51 : decode cX10_payByDraws 51 = .ok (.iconst 1, 1) := dX10_payByDraws_33_z.2.1.2.1
theorem dX10_payByDraws_52 : decode cX10_payByDraws 52 = .ok (.iadd, 1) := dX10_payByDraws_33_z.2.1.2.2
theorem dX10_payByDraws_53 : decode cX10_payByDraws 53 = .ok (.invokestatic 240, 3) := dX10_payByDraws_33_z.2.2.1.1
theorem dX10_payByDraws_56 : decode cX10_payByDraws 56 = .ok (.iastore, 1) := dX10_payByDraws_33_z.2.2.1.2
theorem dX10_payByDraws_57 : decode cX10_payByDraws 57 = .ok (.return_, 1) := dX10_payByDraws_33_z.2.2.2
set_option maxRecDepth 100000 in
theorem dX10_status_0_z : ((((decode cX10_status 0 = .ok (.iload_n 1, 1) ∧ decode cX10_status 1 = .ok (.ifCond .lt 8, 3)) ∧ decode cX10_status 4 = .ok (.iload_n 1, 1)) ∧ ((decode cX10_status 5 = .ok (.iconst 5, 1) ∧ decode cX10_status 6 = .ok (.if_icmp .lt 7, 3)) ∧ decode cX10_status 9 = .ok (.iconst (-1), 1))) ∧ (((decode cX10_status 10 = .ok (.goto 9, 3) ∧ decode cX10_status 13 = .ok (.aload_n 0, 1)) ∧ decode cX10_status 14 = .ok (.getfield 88, 3)) ∧ ((decode cX10_status 17 = .ok (.iload_n 1, 1) ∧ decode cX10_status 18 = .ok (.iaload, 1)) ∧ decode cX10_status 19 = .ok (.ireturn, 1)))) := by decide +kernel
theorem dX10_status_0 : decode cX10_status 0 = .ok (.iload_n 1, 1) := dX10_status_0_z.1.1.1.1
theorem dX10_status_1 : decode cX10_status 1 = .ok (.ifCond .lt 8, 3) := dX10_status_0_z.1.1.1.2
theorem dX10_status_4 : decode cX10_status 4 = .ok (.iload_n 1, 1) := dX10_status_0_z.1.1.2
theorem dX10_status_5 : decode cX10_status 5 = .ok (.iconst 5, 1) := dX10_status_0_z.1.2.1.1
theorem dX10_status_6 : decode cX10_status 6 = .ok (.if_icmp .lt 7, 3) := dX10_status_0_z.1.2.1.2
theorem dX10_status_9 : decode cX10_status 9 = .ok (.iconst (-1), 1) := dX10_status_0_z.1.2.2
theorem dX10_status_10 : decode cX10_status 10 = .ok (.goto 9, 3) := dX10_status_0_z.2.1.1.1
theorem dX10_status_13 : decode cX10_status 13 = .ok (.aload_n 0, 1) := dX10_status_0_z.2.1.1.2
theorem dX10_status_14 : decode cX10_status 14 = .ok (.getfield 88, 3) := dX10_status_0_z.2.1.2
theorem dX10_status_17 : decode cX10_status 17 = .ok (.iload_n 1, 1) := dX10_status_0_z.2.2.1.1
theorem dX10_status_18 : decode cX10_status 18 = .ok (.iaload, 1) := dX10_status_0_z.2.2.1.2
theorem dX10_status_19 : decode cX10_status 19 = .ok (.ireturn, 1) := dX10_status_0_z.2.2.2
set_option maxRecDepth 100000 in
theorem dX10_undo_0_z : ((((decode cX10_undo 0 = .ok (.aload_n 0, 1) ∧ decode cX10_undo 1 = .ok (.getfield 59, 3)) ∧ decode cX10_undo 4 = .ok (.aload_n 0, 1)) ∧ ((decode cX10_undo 5 = .ok (.getfield 49, 3) ∧ decode cX10_undo 8 = .ok (.invokevirtual 272, 3)) ∧ decode cX10_undo 11 = .ok (.ifCond .eq 13, 3))) ∧ (((decode cX10_undo 14 = .ok (.aload_n 0, 1) ∧ decode cX10_undo 15 = .ok (.getfield 59, 3)) ∧ decode cX10_undo 18 = .ok (.getfield 276, 3)) ∧ ((decode cX10_undo 21 = .ok (.goto 4, 3) ∧ decode cX10_undo 24 = .ok (.iconst (-1), 1)) ∧ decode cX10_undo 25 = .ok (.ireturn, 1)))) := by decide +kernel
theorem dX10_undo_0 : decode cX10_undo 0 = .ok (.aload_n 0, 1) := dX10_undo_0_z.1.1.1.1
theorem dX10_undo_1 : decode cX10_undo 1 = .ok (.getfield 59, 3) := dX10_undo_0_z.1.1.1.2
theorem dX10_undo_4 : decode cX10_undo 4 = .ok (.aload_n 0, 1) := dX10_undo_0_z.1.1.2
theorem dX10_undo_5 : decode cX10_undo 5 = .ok (.getfield 49, 3) := dX10_undo_0_z.1.2.1.1
theorem dX10_undo_8 : decode cX10_undo 8 = .ok (.invokevirtual 272, 3) := dX10_undo_0_z.1.2.1.2
theorem dX10_undo_11 : decode cX10_undo 11 = .ok (.ifCond .eq 13, 3) := dX10_undo_0_z.1.2.2
theorem dX10_undo_14 : decode cX10_undo 14 = .ok (.aload_n 0, 1) := dX10_undo_0_z.2.1.1.1
theorem dX10_undo_15 : decode cX10_undo 15 = .ok (.getfield 59, 3) := dX10_undo_0_z.2.1.1.2
theorem dX10_undo_18 : decode cX10_undo 18 = .ok (.getfield 276, 3) := dX10_undo_0_z.2.1.2
theorem dX10_undo_21 : decode cX10_undo 21 = .ok (.goto 4, 3) := dX10_undo_0_z.2.2.1.1
theorem dX10_undo_24 : decode cX10_undo 24 = .ok (.iconst (-1), 1) := dX10_undo_0_z.2.2.1.2
theorem dX10_undo_25 : decode cX10_undo 25 = .ok (.ireturn, 1) := dX10_undo_0_z.2.2.2
set_option maxRecDepth 100000 in
theorem dX10_portrait_0_z : ((((decode cX10_portrait 0 = .ok (.iload_n 1, 1) ∧ decode cX10_portrait 1 = .ok (.ifCond .lt 23, 3)) ∧ (decode cX10_portrait 4 = .ok (.iload_n 1, 1) ∧ decode cX10_portrait 5 = .ok (.aload_n 0, 1))) ∧ ((decode cX10_portrait 6 = .ok (.getfield 49, 3) ∧ decode cX10_portrait 9 = .ok (.getfield 216, 3)) ∧ (decode cX10_portrait 12 = .ok (.if_icmp .ge 12, 3) ∧ decode cX10_portrait 15 = .ok (.iload_n 2, 1)))) ∧ (((decode cX10_portrait 16 = .ok (.ifCond .lt 8, 3) ∧ decode cX10_portrait 19 = .ok (.iload_n 2, 1)) ∧ (decode cX10_portrait 20 = .ok (.iconst 4, 1) ∧ decode cX10_portrait 21 = .ok (.if_icmp .lt 5, 3))) ∧ ((decode cX10_portrait 24 = .ok (.iconst (-1), 1) ∧ decode cX10_portrait 25 = .ok (.ireturn, 1)) ∧ (decode cX10_portrait 26 = .ok (.aload_n 0, 1) ∧ decode cX10_portrait 27 = .ok (.getfield 49, 3))))) := by decide +kernel
theorem dX10_portrait_0 : decode cX10_portrait 0 = .ok (.iload_n 1, 1) := dX10_portrait_0_z.1.1.1.1
theorem dX10_portrait_1 : decode cX10_portrait 1 = .ok (.ifCond .lt 23, 3) := dX10_portrait_0_z.1.1.1.2
theorem dX10_portrait_4 : decode cX10_portrait 4 = .ok (.iload_n 1, 1) := dX10_portrait_0_z.1.1.2.1
theorem dX10_portrait_5 : decode cX10_portrait 5 = .ok (.aload_n 0, 1) := dX10_portrait_0_z.1.1.2.2
theorem dX10_portrait_6 : decode cX10_portrait 6 = .ok (.getfield 49, 3) := dX10_portrait_0_z.1.2.1.1
theorem dX10_portrait_9 : decode cX10_portrait 9 = .ok (.getfield 216, 3) := dX10_portrait_0_z.1.2.1.2
theorem dX10_portrait_12 : decode cX10_portrait 12 = .ok (.if_icmp .ge 12, 3) := dX10_portrait_0_z.1.2.2.1
theorem dX10_portrait_15 : decode cX10_portrait 15 = .ok (.iload_n 2, 1) := dX10_portrait_0_z.1.2.2.2
theorem dX10_portrait_16 : decode cX10_portrait 16 = .ok (.ifCond .lt 8, 3) := dX10_portrait_0_z.2.1.1.1
theorem dX10_portrait_19 : decode cX10_portrait 19 = .ok (.iload_n 2, 1) := dX10_portrait_0_z.2.1.1.2
theorem dX10_portrait_20 : decode cX10_portrait 20 = .ok (.iconst 4, 1) := dX10_portrait_0_z.2.1.2.1
theorem dX10_portrait_21 : decode cX10_portrait 21 = .ok (.if_icmp .lt 5, 3) := dX10_portrait_0_z.2.1.2.2
theorem dX10_portrait_24 : decode cX10_portrait 24 = .ok (.iconst (-1), 1) := dX10_portrait_0_z.2.2.1.1
theorem dX10_portrait_25 : decode cX10_portrait 25 = .ok (.ireturn, 1) := dX10_portrait_0_z.2.2.1.2
theorem dX10_portrait_26 : decode cX10_portrait 26 = .ok (.aload_n 0, 1) := dX10_portrait_0_z.2.2.2.1
theorem dX10_portrait_27 : decode cX10_portrait 27 = .ok (.getfield 49, 3) := dX10_portrait_0_z.2.2.2.2
set_option maxRecDepth 100000 in
theorem dX10_portrait_30_z : ((((decode cX10_portrait 30 = .ok (.aload_n 0, 1) ∧ decode cX10_portrait 31 = .ok (.getfield 49, 3)) ∧ decode cX10_portrait 34 = .ok (.getfield 216, 3)) ∧ (decode cX10_portrait 37 = .ok (.iconst 1, 1) ∧ decode cX10_portrait 38 = .ok (.isub, 1))) ∧ (((decode cX10_portrait 39 = .ok (.iload_n 1, 1) ∧ decode cX10_portrait 40 = .ok (.isub, 1)) ∧ decode cX10_portrait 41 = .ok (.iload_n 2, 1)) ∧ (decode cX10_portrait 42 = .ok (.invokevirtual 279, 3) ∧ decode cX10_portrait 45 = .ok (.ireturn, 1)))) := by decide +kernel
theorem dX10_portrait_30 : decode cX10_portrait 30 = .ok (.aload_n 0, 1) := dX10_portrait_30_z.1.1.1.1
theorem dX10_portrait_31 : decode cX10_portrait 31 = .ok (.getfield 49, 3) := dX10_portrait_30_z.1.1.1.2
theorem dX10_portrait_34 : decode cX10_portrait 34 = .ok (.getfield 216, 3) := dX10_portrait_30_z.1.1.2
theorem dX10_portrait_37 : decode cX10_portrait 37 = .ok (.iconst 1, 1) := dX10_portrait_30_z.1.2.1
theorem dX10_portrait_38 : decode cX10_portrait 38 = .ok (.isub, 1) := dX10_portrait_30_z.1.2.2
theorem dX10_portrait_39 : decode cX10_portrait 39 = .ok (.iload_n 1, 1) := dX10_portrait_30_z.2.1.1.1
theorem dX10_portrait_40 : decode cX10_portrait 40 = .ok (.isub, 1) := dX10_portrait_30_z.2.1.1.2
theorem dX10_portrait_41 : decode cX10_portrait 41 = .ok (.iload_n 2, 1) := dX10_portrait_30_z.2.1.2
theorem dX10_portrait_42 : decode cX10_portrait 42 = .ok (.invokevirtual 279, 3) := dX10_portrait_30_z.2.2.1
theorem dX10_portrait_45 : decode cX10_portrait 45 = .ok (.ireturn, 1) := dX10_portrait_30_z.2.2.2
set_option maxRecDepth 100000 in
theorem dX10_fits_0_z : ((((decode cX10_fits 0 = .ok (.aload_n 0, 1) ∧ decode cX10_fits 1 = .ok (.iload_n 1, 1)) ∧ decode cX10_fits 2 = .ok (.invokevirtual 154, 3)) ∧ ((decode cX10_fits 5 = .ok (.ifCond .eq 14, 3) ∧ decode cX10_fits 8 = .ok (.aload_n 0, 1)) ∧ decode cX10_fits 9 = .ok (.getfield 77, 3))) ∧ (((decode cX10_fits 12 = .ok (.iload_n 1, 1) ∧ decode cX10_fits 13 = .ok (.invokevirtual 282, 3)) ∧ decode cX10_fits 16 = .ok (.goto 4, 3)) ∧ (decode cX10_fits 19 = .ok (.iconst (-1), 1) ∧ decode cX10_fits 20 = .ok (.ireturn, 1)))) := by decide +kernel
theorem dX10_fits_0 : decode cX10_fits 0 = .ok (.aload_n 0, 1) := dX10_fits_0_z.1.1.1.1
theorem dX10_fits_1 : decode cX10_fits 1 = .ok (.iload_n 1, 1) := dX10_fits_0_z.1.1.1.2
theorem dX10_fits_2 : decode cX10_fits 2 = .ok (.invokevirtual 154, 3) := dX10_fits_0_z.1.1.2
theorem dX10_fits_5 : decode cX10_fits 5 = .ok (.ifCond .eq 14, 3) := dX10_fits_0_z.1.2.1.1
theorem dX10_fits_8 : decode cX10_fits 8 = .ok (.aload_n 0, 1) := dX10_fits_0_z.1.2.1.2
theorem dX10_fits_9 : decode cX10_fits 9 = .ok (.getfield 77, 3) := dX10_fits_0_z.1.2.2
theorem dX10_fits_12 : decode cX10_fits 12 = .ok (.iload_n 1, 1) := dX10_fits_0_z.2.1.1.1
theorem dX10_fits_13 : decode cX10_fits 13 = .ok (.invokevirtual 282, 3) := dX10_fits_0_z.2.1.1.2
theorem dX10_fits_16 : decode cX10_fits 16 = .ok (.goto 4, 3) := dX10_fits_0_z.2.1.2
theorem dX10_fits_19 : decode cX10_fits 19 = .ok (.iconst (-1), 1) := dX10_fits_0_z.2.2.1
theorem dX10_fits_20 : decode cX10_fits 20 = .ok (.ireturn, 1) := dX10_fits_0_z.2.2.2
set_option maxRecDepth 100000 in
theorem dX10_belief_0_z : ((((decode cX10_belief 0 = .ok (.aload_n 0, 1) ∧ decode cX10_belief 1 = .ok (.iload_n 1, 1)) ∧ (decode cX10_belief 2 = .ok (.invokevirtual 154, 3) ∧ decode cX10_belief 5 = .ok (.ifCond .eq 10, 3))) ∧ ((decode cX10_belief 8 = .ok (.iload_n 2, 1) ∧ decode cX10_belief 9 = .ok (.invokestatic 206, 3)) ∧ (decode cX10_belief 12 = .ok (.ifCond .ne 5, 3) ∧ decode cX10_belief 15 = .ok (.iconst (-1), 1)))) ∧ (((decode cX10_belief 16 = .ok (.ireturn, 1) ∧ decode cX10_belief 17 = .ok (.aload_n 0, 1)) ∧ (decode cX10_belief 18 = .ok (.getfield 77, 3) ∧ decode cX10_belief 21 = .ok (.iload_n 1, 1))) ∧ ((decode cX10_belief 22 = .ok (.invokevirtual 285, 3) ∧ decode cX10_belief 25 = .ok (.aload_n 0, 1)) ∧ (decode cX10_belief 26 = .ok (.getfield 77, 3) ∧ decode cX10_belief 29 = .ok (.iload_n 2, 1))))) := by decide +kernel
theorem dX10_belief_0 : decode cX10_belief 0 = .ok (.aload_n 0, 1) := dX10_belief_0_z.1.1.1.1
theorem dX10_belief_1 : decode cX10_belief 1 = .ok (.iload_n 1, 1) := dX10_belief_0_z.1.1.1.2
theorem dX10_belief_2 : decode cX10_belief 2 = .ok (.invokevirtual 154, 3) := dX10_belief_0_z.1.1.2.1
theorem dX10_belief_5 : decode cX10_belief 5 = .ok (.ifCond .eq 10, 3) := dX10_belief_0_z.1.1.2.2
theorem dX10_belief_8 : decode cX10_belief 8 = .ok (.iload_n 2, 1) := dX10_belief_0_z.1.2.1.1
theorem dX10_belief_9 : decode cX10_belief 9 = .ok (.invokestatic 206, 3) := dX10_belief_0_z.1.2.1.2
theorem dX10_belief_12 : decode cX10_belief 12 = .ok (.ifCond .ne 5, 3) := dX10_belief_0_z.1.2.2.1
theorem dX10_belief_15 : decode cX10_belief 15 = .ok (.iconst (-1), 1) := dX10_belief_0_z.1.2.2.2
theorem dX10_belief_16 : decode cX10_belief 16 = .ok (.ireturn, 1) := dX10_belief_0_z.2.1.1.1
theorem dX10_belief_17 : decode cX10_belief 17 = .ok (.aload_n 0, 1) := dX10_belief_0_z.2.1.1.2
theorem dX10_belief_18 : decode cX10_belief 18 = .ok (.getfield 77, 3) := dX10_belief_0_z.2.1.2.1
theorem dX10_belief_21 : decode cX10_belief 21 = .ok (.iload_n 1, 1) := dX10_belief_0_z.2.1.2.2
theorem dX10_belief_22 : decode cX10_belief 22 = .ok (.invokevirtual 285, 3) := dX10_belief_0_z.2.2.1.1
theorem dX10_belief_25 : decode cX10_belief 25 = .ok (.aload_n 0, 1) := dX10_belief_0_z.2.2.1.2
theorem dX10_belief_26 : decode cX10_belief 26 = .ok (.getfield 77, 3) := dX10_belief_0_z.2.2.2.1
theorem dX10_belief_29 : decode cX10_belief 29 = .ok (.iload_n 2, 1) := dX10_belief_0_z.2.2.2.2
set_option maxRecDepth 100000 in
theorem dX10_belief_30_z : (decode cX10_belief 30 = .ok (.invokevirtual 288, 3) ∧ decode cX10_belief 33 = .ok (.ireturn, 1)) := by decide +kernel
theorem dX10_belief_30 : decode cX10_belief 30 = .ok (.invokevirtual 288, 3) := dX10_belief_30_z.1
theorem dX10_belief_33 : decode cX10_belief 33 = .ok (.ireturn, 1) := dX10_belief_30_z.2
set_option maxRecDepth 100000 in
theorem dX10_likely_0_z : ((((decode cX10_likely 0 = .ok (.aload_n 0, 1) ∧ decode cX10_likely 1 = .ok (.iload_n 1, 1)) ∧ (decode cX10_likely 2 = .ok (.invokevirtual 154, 3) ∧ decode cX10_likely 5 = .ok (.ifCond .eq 12, 3))) ∧ ((decode cX10_likely 8 = .ok (.iload_n 2, 1) ∧ decode cX10_likely 9 = .ok (.ifCond .lt 8, 3)) ∧ (decode cX10_likely 12 = .ok (.iload_n 2, 1) ∧ decode cX10_likely 13 = .ok (.iconst 1, 1)))) ∧ (((decode cX10_likely 14 = .ok (.if_icmp .le 5, 3) ∧ decode cX10_likely 17 = .ok (.iconst (-1), 1)) ∧ (decode cX10_likely 18 = .ok (.ireturn, 1) ∧ decode cX10_likely 19 = .ok (.aload_n 0, 1))) ∧ ((decode cX10_likely 20 = .ok (.getfield 77, 3) ∧ decode cX10_likely 23 = .ok (.iload_n 1, 1)) ∧ (decode cX10_likely 24 = .ok (.invokevirtual 285, 3) ∧ decode cX10_likely 27 = .ok (.iload_n 2, 1))))) := by decide +kernel
theorem dX10_likely_0 : decode cX10_likely 0 = .ok (.aload_n 0, 1) := dX10_likely_0_z.1.1.1.1
theorem dX10_likely_1 : decode cX10_likely 1 = .ok (.iload_n 1, 1) := dX10_likely_0_z.1.1.1.2
theorem dX10_likely_2 : decode cX10_likely 2 = .ok (.invokevirtual 154, 3) := dX10_likely_0_z.1.1.2.1
theorem dX10_likely_5 : decode cX10_likely 5 = .ok (.ifCond .eq 12, 3) := dX10_likely_0_z.1.1.2.2
theorem dX10_likely_8 : decode cX10_likely 8 = .ok (.iload_n 2, 1) := dX10_likely_0_z.1.2.1.1
theorem dX10_likely_9 : decode cX10_likely 9 = .ok (.ifCond .lt 8, 3) := dX10_likely_0_z.1.2.1.2
theorem dX10_likely_12 : decode cX10_likely 12 = .ok (.iload_n 2, 1) := dX10_likely_0_z.1.2.2.1
theorem dX10_likely_13 : decode cX10_likely 13 = .ok (.iconst 1, 1) := dX10_likely_0_z.1.2.2.2
theorem dX10_likely_14 : decode cX10_likely 14 = .ok (.if_icmp .le 5, 3) := dX10_likely_0_z.2.1.1.1
theorem dX10_likely_17 : decode cX10_likely 17 = .ok (.iconst (-1), 1) := dX10_likely_0_z.2.1.1.2
theorem dX10_likely_18 : decode cX10_likely 18 = .ok (.ireturn, 1) := dX10_likely_0_z.2.1.2.1
theorem dX10_likely_19 : decode cX10_likely 19 = .ok (.aload_n 0, 1) := dX10_likely_0_z.2.1.2.2
theorem dX10_likely_20 : decode cX10_likely 20 = .ok (.getfield 77, 3) := dX10_likely_0_z.2.2.1.1
theorem dX10_likely_23 : decode cX10_likely 23 = .ok (.iload_n 1, 1) := dX10_likely_0_z.2.2.1.2
theorem dX10_likely_24 : decode cX10_likely 24 = .ok (.invokevirtual 285, 3) := dX10_likely_0_z.2.2.2.1
theorem dX10_likely_27 : decode cX10_likely 27 = .ok (.iload_n 2, 1) := dX10_likely_0_z.2.2.2.2
set_option maxRecDepth 100000 in
theorem dX10_likely_28_z : ((((decode cX10_likely 28 = .ok (.ifCond .ne 13, 3) ∧ decode cX10_likely 31 = .ok (.aload_n 0, 1)) ∧ decode cX10_likely 32 = .ok (.getfield 77, 3)) ∧ ((decode cX10_likely 35 = .ok (.getfield 291, 3) ∧ decode cX10_likely 38 = .ok (.goto 17, 3)) ∧ decode cX10_likely 41 = .ok (.aload_n 0, 1))) ∧ (((decode cX10_likely 42 = .ok (.getfield 77, 3) ∧ decode cX10_likely 45 = .ok (.aload_n 0, 1)) ∧ decode cX10_likely 46 = .ok (.getfield 77, 3)) ∧ ((decode cX10_likely 49 = .ok (.getfield 291, 3) ∧ decode cX10_likely 52 = .ok (.invokevirtual 288, 3)) ∧ decode cX10_likely 55 = .ok (.ireturn, 1)))) := by decide +kernel
theorem dX10_likely_28 : decode cX10_likely 28 = .ok (.ifCond .ne 13, 3) := dX10_likely_28_z.1.1.1.1
theorem dX10_likely_31 : decode cX10_likely 31 = .ok (.aload_n 0, 1) := dX10_likely_28_z.1.1.1.2
theorem dX10_likely_32 : decode cX10_likely 32 = .ok (.getfield 77, 3) := dX10_likely_28_z.1.1.2
theorem dX10_likely_35 : decode cX10_likely 35 = .ok (.getfield 291, 3) := dX10_likely_28_z.1.2.1.1
theorem dX10_likely_38 : decode cX10_likely 38 = .ok (.goto 17, 3) := dX10_likely_28_z.1.2.1.2
theorem dX10_likely_41 : decode cX10_likely 41 = .ok (.aload_n 0, 1) := dX10_likely_28_z.1.2.2
theorem dX10_likely_42 : decode cX10_likely 42 = .ok (.getfield 77, 3) := dX10_likely_28_z.2.1.1.1
theorem dX10_likely_45 : decode cX10_likely 45 = .ok (.aload_n 0, 1) := dX10_likely_28_z.2.1.1.2
theorem dX10_likely_46 : decode cX10_likely 46 = .ok (.getfield 77, 3) := dX10_likely_28_z.2.1.2
theorem dX10_likely_49 : decode cX10_likely 49 = .ok (.getfield 291, 3) := dX10_likely_28_z.2.2.1.1
theorem dX10_likely_52 : decode cX10_likely 52 = .ok (.invokevirtual 288, 3) := dX10_likely_28_z.2.2.1.2
theorem dX10_likely_55 : decode cX10_likely 55 = .ok (.ireturn, 1) := dX10_likely_28_z.2.2.2
set_option maxRecDepth 100000 in
theorem dX10_sure_0_z : ((((decode cX10_sure 0 = .ok (.aload_n 0, 1) ∧ decode cX10_sure 1 = .ok (.iload_n 1, 1)) ∧ (decode cX10_sure 2 = .ok (.invokevirtual 154, 3) ∧ decode cX10_sure 5 = .ok (.ifCond .eq 15, 3))) ∧ ((decode cX10_sure 8 = .ok (.iload_n 2, 1) ∧ decode cX10_sure 9 = .ok (.iconst 1, 1)) ∧ (decode cX10_sure 10 = .ok (.if_icmp .lt 10, 3) ∧ decode cX10_sure 13 = .ok (.iload_n 2, 1)))) ∧ (((decode cX10_sure 14 = .ok (.ldc_w 294, 3) ∧ decode cX10_sure 17 = .ok (.if_icmp .le 5, 3)) ∧ (decode cX10_sure 20 = .ok (.iconst (-1), 1) ∧ decode cX10_sure 21 = .ok (.ireturn, 1))) ∧ ((decode cX10_sure 22 = .ok (.aload_n 0, 1) ∧ decode cX10_sure 23 = .ok (.getfield 77, 3)) ∧ (decode cX10_sure 26 = .ok (.iload_n 1, 1) ∧ decode cX10_sure 27 = .ok (.invokevirtual 285, 3))))) := by decide +kernel
theorem dX10_sure_0 : decode cX10_sure 0 = .ok (.aload_n 0, 1) := dX10_sure_0_z.1.1.1.1
theorem dX10_sure_1 : decode cX10_sure 1 = .ok (.iload_n 1, 1) := dX10_sure_0_z.1.1.1.2
theorem dX10_sure_2 : decode cX10_sure 2 = .ok (.invokevirtual 154, 3) := dX10_sure_0_z.1.1.2.1
theorem dX10_sure_5 : decode cX10_sure 5 = .ok (.ifCond .eq 15, 3) := dX10_sure_0_z.1.1.2.2
theorem dX10_sure_8 : decode cX10_sure 8 = .ok (.iload_n 2, 1) := dX10_sure_0_z.1.2.1.1
theorem dX10_sure_9 : decode cX10_sure 9 = .ok (.iconst 1, 1) := dX10_sure_0_z.1.2.1.2
theorem dX10_sure_10 : decode cX10_sure 10 = .ok (.if_icmp .lt 10, 3) := dX10_sure_0_z.1.2.2.1
theorem dX10_sure_13 : decode cX10_sure 13 = .ok (.iload_n 2, 1) := dX10_sure_0_z.1.2.2.2
theorem dX10_sure_14 : decode cX10_sure 14 = .ok (.ldc_w 294, 3) := dX10_sure_0_z.2.1.1.1
theorem dX10_sure_17 : decode cX10_sure 17 = .ok (.if_icmp .le 5, 3) := dX10_sure_0_z.2.1.1.2
theorem dX10_sure_20 : decode cX10_sure 20 = .ok (.iconst (-1), 1) := dX10_sure_0_z.2.1.2.1
theorem dX10_sure_21 : decode cX10_sure 21 = .ok (.ireturn, 1) := dX10_sure_0_z.2.1.2.2
theorem dX10_sure_22 : decode cX10_sure 22 = .ok (.aload_n 0, 1) := dX10_sure_0_z.2.2.1.1
theorem dX10_sure_23 : decode cX10_sure 23 = .ok (.getfield 77, 3) := dX10_sure_0_z.2.2.1.2
theorem dX10_sure_26 : decode cX10_sure 26 = .ok (.iload_n 1, 1) := dX10_sure_0_z.2.2.2.1
theorem dX10_sure_27 : decode cX10_sure 27 = .ok (.invokevirtual 285, 3) := dX10_sure_0_z.2.2.2.2
set_option maxRecDepth 100000 in
theorem dX10_sure_30_z : ((((decode cX10_sure 30 = .ok (.aload_n 0, 1) ∧ decode cX10_sure 31 = .ok (.getfield 77, 3)) ∧ decode cX10_sure 34 = .ok (.aload_n 0, 1)) ∧ ((decode cX10_sure 35 = .ok (.getfield 77, 3) ∧ decode cX10_sure 38 = .ok (.getfield 291, 3)) ∧ decode cX10_sure 41 = .ok (.invokevirtual 288, 3))) ∧ (((decode cX10_sure 44 = .ok (.iload_n 2, 1) ∧ decode cX10_sure 45 = .ok (.if_icmp .lt 7, 3)) ∧ decode cX10_sure 48 = .ok (.iconst 1, 1)) ∧ ((decode cX10_sure 49 = .ok (.goto 4, 3) ∧ decode cX10_sure 52 = .ok (.iconst 0, 1)) ∧ decode cX10_sure 53 = .ok (.ireturn, 1)))) := by decide +kernel
theorem dX10_sure_30 : decode cX10_sure 30 = .ok (.aload_n 0, 1) := dX10_sure_30_z.1.1.1.1
theorem dX10_sure_31 : decode cX10_sure 31 = .ok (.getfield 77, 3) := dX10_sure_30_z.1.1.1.2
theorem dX10_sure_34 : decode cX10_sure 34 = .ok (.aload_n 0, 1) := dX10_sure_30_z.1.1.2
theorem dX10_sure_35 : decode cX10_sure 35 = .ok (.getfield 77, 3) := dX10_sure_30_z.1.2.1.1
theorem dX10_sure_38 : decode cX10_sure 38 = .ok (.getfield 291, 3) := dX10_sure_30_z.1.2.1.2
theorem dX10_sure_41 : decode cX10_sure 41 = .ok (.invokevirtual 288, 3) := dX10_sure_30_z.1.2.2
theorem dX10_sure_44 : decode cX10_sure 44 = .ok (.iload_n 2, 1) := dX10_sure_30_z.2.1.1.1
theorem dX10_sure_45 : decode cX10_sure 45 = .ok (.if_icmp .lt 7, 3) := dX10_sure_30_z.2.1.1.2
theorem dX10_sure_48 : decode cX10_sure 48 = .ok (.iconst 1, 1) := dX10_sure_30_z.2.1.2
theorem dX10_sure_49 : decode cX10_sure 49 = .ok (.goto 4, 3) := dX10_sure_30_z.2.2.1.1
theorem dX10_sure_52 : decode cX10_sure 52 = .ok (.iconst 0, 1) := dX10_sure_30_z.2.2.1.2
theorem dX10_sure_53 : decode cX10_sure 53 = .ok (.ireturn, 1) := dX10_sure_30_z.2.2.2
set_option maxRecDepth 100000 in
theorem dX10_next_0_z : ((((decode cX10_next 0 = .ok (.aload_n 0, 1) ∧ decode cX10_next 1 = .ok (.iload_n 1, 1)) ∧ decode cX10_next 2 = .ok (.invokevirtual 154, 3)) ∧ ((decode cX10_next 5 = .ok (.ifCond .eq 14, 3) ∧ decode cX10_next 8 = .ok (.aload_n 0, 1)) ∧ decode cX10_next 9 = .ok (.getfield 77, 3))) ∧ (((decode cX10_next 12 = .ok (.iload_n 1, 1) ∧ decode cX10_next 13 = .ok (.invokevirtual 295, 3)) ∧ decode cX10_next 16 = .ok (.goto 4, 3)) ∧ (decode cX10_next 19 = .ok (.iconst (-1), 1) ∧ decode cX10_next 20 = .ok (.ireturn, 1)))) := by decide +kernel
theorem dX10_next_0 : decode cX10_next 0 = .ok (.aload_n 0, 1) := dX10_next_0_z.1.1.1.1
theorem dX10_next_1 : decode cX10_next 1 = .ok (.iload_n 1, 1) := dX10_next_0_z.1.1.1.2
theorem dX10_next_2 : decode cX10_next 2 = .ok (.invokevirtual 154, 3) := dX10_next_0_z.1.1.2
theorem dX10_next_5 : decode cX10_next 5 = .ok (.ifCond .eq 14, 3) := dX10_next_0_z.1.2.1.1
theorem dX10_next_8 : decode cX10_next 8 = .ok (.aload_n 0, 1) := dX10_next_0_z.1.2.1.2
theorem dX10_next_9 : decode cX10_next 9 = .ok (.getfield 77, 3) := dX10_next_0_z.1.2.2
theorem dX10_next_12 : decode cX10_next 12 = .ok (.iload_n 1, 1) := dX10_next_0_z.2.1.1.1
theorem dX10_next_13 : decode cX10_next 13 = .ok (.invokevirtual 295, 3) := dX10_next_0_z.2.1.1.2
theorem dX10_next_16 : decode cX10_next 16 = .ok (.goto 4, 3) := dX10_next_0_z.2.1.2
theorem dX10_next_19 : decode cX10_next 19 = .ok (.iconst (-1), 1) := dX10_next_0_z.2.2.1
theorem dX10_next_20 : decode cX10_next 20 = .ok (.ireturn, 1) := dX10_next_0_z.2.2.2
set_option maxRecDepth 100000 in
theorem dX10_apart_0_z : ((((decode cX10_apart 0 = .ok (.aload_n 0, 1) ∧ decode cX10_apart 1 = .ok (.iload_n 1, 1)) ∧ decode cX10_apart 2 = .ok (.invokevirtual 154, 3)) ∧ ((decode cX10_apart 5 = .ok (.ifCond .eq 14, 3) ∧ decode cX10_apart 8 = .ok (.aload_n 0, 1)) ∧ decode cX10_apart 9 = .ok (.getfield 77, 3))) ∧ (((decode cX10_apart 12 = .ok (.iload_n 1, 1) ∧ decode cX10_apart 13 = .ok (.invokevirtual 298, 3)) ∧ decode cX10_apart 16 = .ok (.goto 4, 3)) ∧ (decode cX10_apart 19 = .ok (.iconst (-1), 1) ∧ decode cX10_apart 20 = .ok (.ireturn, 1)))) := by decide +kernel
theorem dX10_apart_0 : decode cX10_apart 0 = .ok (.aload_n 0, 1) := dX10_apart_0_z.1.1.1.1
theorem dX10_apart_1 : decode cX10_apart 1 = .ok (.iload_n 1, 1) := dX10_apart_0_z.1.1.1.2
theorem dX10_apart_2 : decode cX10_apart 2 = .ok (.invokevirtual 154, 3) := dX10_apart_0_z.1.1.2
theorem dX10_apart_5 : decode cX10_apart 5 = .ok (.ifCond .eq 14, 3) := dX10_apart_0_z.1.2.1.1
theorem dX10_apart_8 : decode cX10_apart 8 = .ok (.aload_n 0, 1) := dX10_apart_0_z.1.2.1.2
theorem dX10_apart_9 : decode cX10_apart 9 = .ok (.getfield 77, 3) := dX10_apart_0_z.1.2.2
theorem dX10_apart_12 : decode cX10_apart 12 = .ok (.iload_n 1, 1) := dX10_apart_0_z.2.1.1.1
theorem dX10_apart_13 : decode cX10_apart 13 = .ok (.invokevirtual 298, 3) := dX10_apart_0_z.2.1.1.2
theorem dX10_apart_16 : decode cX10_apart 16 = .ok (.goto 4, 3) := dX10_apart_0_z.2.1.2
theorem dX10_apart_19 : decode cX10_apart 19 = .ok (.iconst (-1), 1) := dX10_apart_0_z.2.2.1
theorem dX10_apart_20 : decode cX10_apart 20 = .ok (.ireturn, 1) := dX10_apart_0_z.2.2.2
set_option maxRecDepth 100000 in
theorem dX10_worth_0_z : ((((decode cX10_worth 0 = .ok (.aload_n 0, 1) ∧ decode cX10_worth 1 = .ok (.iload_n 1, 1)) ∧ (decode cX10_worth 2 = .ok (.invokevirtual 154, 3) ∧ decode cX10_worth 5 = .ok (.ifCond .eq 22, 3))) ∧ ((decode cX10_worth 8 = .ok (.iload_n 2, 1) ∧ decode cX10_worth 9 = .ok (.invokestatic 206, 3)) ∧ (decode cX10_worth 12 = .ok (.ifCond .eq 15, 3) ∧ decode cX10_worth 15 = .ok (.aload_n 0, 1)))) ∧ (((decode cX10_worth 16 = .ok (.getfield 37, 3) ∧ decode cX10_worth 19 = .ok (.iload_n 1, 1)) ∧ (decode cX10_worth 20 = .ok (.iload_n 2, 1) ∧ decode cX10_worth 21 = .ok (.invokevirtual 301, 3))) ∧ ((decode cX10_worth 24 = .ok (.goto 4, 3) ∧ decode cX10_worth 27 = .ok (.iconst (-1), 1)) ∧ decode cX10_worth 28 = .ok (.ireturn, 1)))) := by decide +kernel
theorem dX10_worth_0 : decode cX10_worth 0 = .ok (.aload_n 0, 1) := dX10_worth_0_z.1.1.1.1
theorem dX10_worth_1 : decode cX10_worth 1 = .ok (.iload_n 1, 1) := dX10_worth_0_z.1.1.1.2
theorem dX10_worth_2 : decode cX10_worth 2 = .ok (.invokevirtual 154, 3) := dX10_worth_0_z.1.1.2.1
theorem dX10_worth_5 : decode cX10_worth 5 = .ok (.ifCond .eq 22, 3) := dX10_worth_0_z.1.1.2.2
theorem dX10_worth_8 : decode cX10_worth 8 = .ok (.iload_n 2, 1) := dX10_worth_0_z.1.2.1.1
theorem dX10_worth_9 : decode cX10_worth 9 = .ok (.invokestatic 206, 3) := dX10_worth_0_z.1.2.1.2
theorem dX10_worth_12 : decode cX10_worth 12 = .ok (.ifCond .eq 15, 3) := dX10_worth_0_z.1.2.2.1
theorem dX10_worth_15 : decode cX10_worth 15 = .ok (.aload_n 0, 1) := dX10_worth_0_z.1.2.2.2
theorem dX10_worth_16 : decode cX10_worth 16 = .ok (.getfield 37, 3) := dX10_worth_0_z.2.1.1.1
theorem dX10_worth_19 : decode cX10_worth 19 = .ok (.iload_n 1, 1) := dX10_worth_0_z.2.1.1.2
theorem dX10_worth_20 : decode cX10_worth 20 = .ok (.iload_n 2, 1) := dX10_worth_0_z.2.1.2.1
theorem dX10_worth_21 : decode cX10_worth 21 = .ok (.invokevirtual 301, 3) := dX10_worth_0_z.2.1.2.2
theorem dX10_worth_24 : decode cX10_worth 24 = .ok (.goto 4, 3) := dX10_worth_0_z.2.2.1.1
theorem dX10_worth_27 : decode cX10_worth 27 = .ok (.iconst (-1), 1) := dX10_worth_0_z.2.2.1.2
theorem dX10_worth_28 : decode cX10_worth 28 = .ok (.ireturn, 1) := dX10_worth_0_z.2.2.2
set_option maxRecDepth 100000 in
theorem dX10_chooses_0_z : ((((decode cX10_chooses 0 = .ok (.aload_n 0, 1) ∧ decode cX10_chooses 1 = .ok (.invokevirtual 141, 3)) ∧ (decode cX10_chooses 4 = .ok (.ifCond .eq 12, 3) ∧ decode cX10_chooses 7 = .ok (.iload_n 1, 1))) ∧ ((decode cX10_chooses 8 = .ok (.ifCond .lt 8, 3) ∧ decode cX10_chooses 11 = .ok (.iload_n 1, 1)) ∧ (decode cX10_chooses 12 = .ok (.iconst 3, 1) ∧ decode cX10_chooses 13 = .ok (.if_icmp .le 5, 3)))) ∧ (((decode cX10_chooses 16 = .ok (.iconst (-1), 1) ∧ decode cX10_chooses 17 = .ok (.ireturn, 1)) ∧ (decode cX10_chooses 18 = .ok (.iload_n 1, 1) ∧ decode cX10_chooses 19 = .ok (.iconst 3, 1))) ∧ ((decode cX10_chooses 20 = .ok (.if_icmp .ge 9, 3) ∧ decode cX10_chooses 23 = .ok (.aload_n 0, 1)) ∧ (decode cX10_chooses 24 = .ok (.iload_n 1, 1) ∧ decode cX10_chooses 25 = .ok (.invokevirtual 304, 3))))) := by decide +kernel
theorem dX10_chooses_0 : decode cX10_chooses 0 = .ok (.aload_n 0, 1) := dX10_chooses_0_z.1.1.1.1
theorem dX10_chooses_1 : decode cX10_chooses 1 = .ok (.invokevirtual 141, 3) := dX10_chooses_0_z.1.1.1.2
theorem dX10_chooses_4 : decode cX10_chooses 4 = .ok (.ifCond .eq 12, 3) := dX10_chooses_0_z.1.1.2.1
theorem dX10_chooses_7 : decode cX10_chooses 7 = .ok (.iload_n 1, 1) := dX10_chooses_0_z.1.1.2.2
theorem dX10_chooses_8 : decode cX10_chooses 8 = .ok (.ifCond .lt 8, 3) := dX10_chooses_0_z.1.2.1.1
theorem dX10_chooses_11 : decode cX10_chooses 11 = .ok (.iload_n 1, 1) := dX10_chooses_0_z.1.2.1.2
theorem dX10_chooses_12 : decode cX10_chooses 12 = .ok (.iconst 3, 1) := dX10_chooses_0_z.1.2.2.1
theorem dX10_chooses_13 : decode cX10_chooses 13 = .ok (.if_icmp .le 5, 3) := dX10_chooses_0_z.1.2.2.2
theorem dX10_chooses_16 : decode cX10_chooses 16 = .ok (.iconst (-1), 1) := dX10_chooses_0_z.2.1.1.1
theorem dX10_chooses_17 : decode cX10_chooses 17 = .ok (.ireturn, 1) := dX10_chooses_0_z.2.1.1.2
theorem dX10_chooses_18 : decode cX10_chooses 18 = .ok (.iload_n 1, 1) := dX10_chooses_0_z.2.1.2.1
theorem dX10_chooses_19 : decode cX10_chooses 19 = .ok (.iconst 3, 1) := dX10_chooses_0_z.2.1.2.2
theorem dX10_chooses_20 : decode cX10_chooses 20 = .ok (.if_icmp .ge 9, 3) := dX10_chooses_0_z.2.2.1.1
theorem dX10_chooses_23 : decode cX10_chooses 23 = .ok (.aload_n 0, 1) := dX10_chooses_0_z.2.2.1.2
theorem dX10_chooses_24 : decode cX10_chooses 24 = .ok (.iload_n 1, 1) := dX10_chooses_0_z.2.2.2.1
theorem dX10_chooses_25 : decode cX10_chooses 25 = .ok (.invokevirtual 304, 3) := dX10_chooses_0_z.2.2.2.2
set_option maxRecDepth 100000 in
theorem dX10_chooses_28_z : ((((decode cX10_chooses 28 = .ok (.ireturn, 1) ∧ decode cX10_chooses 29 = .ok (.aload_n 0, 1)) ∧ (decode cX10_chooses 30 = .ok (.getfield 37, 3) ∧ decode cX10_chooses 33 = .ok (.aload_n 0, 1))) ∧ ((decode cX10_chooses 34 = .ok (.iconst 1, 1) ∧ decode cX10_chooses 35 = .ok (.invokevirtual 304, 3)) ∧ (decode cX10_chooses 38 = .ok (.invokevirtual 307, 3) ∧ decode cX10_chooses 41 = .ok (.aload_n 0, 1)))) ∧ (((decode cX10_chooses 42 = .ok (.getfield 37, 3) ∧ decode cX10_chooses 45 = .ok (.aload_n 0, 1)) ∧ (decode cX10_chooses 46 = .ok (.iconst 0, 1) ∧ decode cX10_chooses 47 = .ok (.invokevirtual 304, 3))) ∧ ((decode cX10_chooses 50 = .ok (.invokevirtual 307, 3) ∧ decode cX10_chooses 53 = .ok (.isub, 1)) ∧ decode cX10_chooses 54 = .ok (.ireturn, 1)))) := by decide +kernel
theorem dX10_chooses_28 : decode cX10_chooses 28 = .ok (.ireturn, 1) := dX10_chooses_28_z.1.1.1.1
theorem dX10_chooses_29 : decode cX10_chooses 29 = .ok (.aload_n 0, 1) := dX10_chooses_28_z.1.1.1.2
theorem dX10_chooses_30 : decode cX10_chooses 30 = .ok (.getfield 37, 3) := dX10_chooses_28_z.1.1.2.1
theorem dX10_chooses_33 : decode cX10_chooses 33 = .ok (.aload_n 0, 1) := dX10_chooses_28_z.1.1.2.2
theorem dX10_chooses_34 : decode cX10_chooses 34 = .ok (.iconst 1, 1) := dX10_chooses_28_z.1.2.1.1
theorem dX10_chooses_35 : decode cX10_chooses 35 = .ok (.invokevirtual 304, 3) := dX10_chooses_28_z.1.2.1.2
theorem dX10_chooses_38 : decode cX10_chooses 38 = .ok (.invokevirtual 307, 3) := dX10_chooses_28_z.1.2.2.1
theorem dX10_chooses_41 : decode cX10_chooses 41 = .ok (.aload_n 0, 1) := dX10_chooses_28_z.1.2.2.2
theorem dX10_chooses_42 : decode cX10_chooses 42 = .ok (.getfield 37, 3) := dX10_chooses_28_z.2.1.1.1
theorem dX10_chooses_45 : decode cX10_chooses 45 = .ok (.aload_n 0, 1) := dX10_chooses_28_z.2.1.1.2
theorem dX10_chooses_46 : decode cX10_chooses 46 = .ok (.iconst 0, 1) := dX10_chooses_28_z.2.1.2.1
theorem dX10_chooses_47 : decode cX10_chooses 47 = .ok (.invokevirtual 304, 3) := dX10_chooses_28_z.2.1.2.2
theorem dX10_chooses_50 : decode cX10_chooses 50 = .ok (.invokevirtual 307, 3) := dX10_chooses_28_z.2.2.1.1
theorem dX10_chooses_53 : decode cX10_chooses 53 = .ok (.isub, 1) := dX10_chooses_28_z.2.2.1.2
theorem dX10_chooses_54 : decode cX10_chooses 54 = .ok (.ireturn, 1) := dX10_chooses_28_z.2.2.2
set_option maxRecDepth 100000 in
theorem dX10_choice_0_z : ((((decode cX10_choice 0 = .ok (.iconst 0, 1) ∧ decode cX10_choice 1 = .ok (.istore_n 2, 1)) ∧ (decode cX10_choice 2 = .ok (.iconst (-1), 1) ∧ decode cX10_choice 3 = .ok (.istore_n 3, 1))) ∧ ((decode cX10_choice 4 = .ok (.iconst 0, 1) ∧ decode cX10_choice 5 = .ok (.istore 4, 2)) ∧ (decode cX10_choice 7 = .ok (.iload 4, 2) ∧ decode cX10_choice 9 = .ok (.aload_n 0, 1)))) ∧ (((decode cX10_choice 10 = .ok (.getfield 37, 3) ∧ decode cX10_choice 13 = .ok (.getfield 134, 3)) ∧ (decode cX10_choice 16 = .ok (.if_icmp .ge 76, 3) ∧ decode cX10_choice 19 = .ok (.iload_n 1, 1))) ∧ ((decode cX10_choice 20 = .ok (.iconst 1, 1) ∧ decode cX10_choice 21 = .ok (.if_icmp .ne 15, 3)) ∧ (decode cX10_choice 24 = .ok (.aload_n 0, 1) ∧ decode cX10_choice 25 = .ok (.getfield 37, 3))))) := by decide +kernel
theorem dX10_choice_0 : decode cX10_choice 0 = .ok (.iconst 0, 1) := dX10_choice_0_z.1.1.1.1
theorem dX10_choice_1 : decode cX10_choice 1 = .ok (.istore_n 2, 1) := dX10_choice_0_z.1.1.1.2
theorem dX10_choice_2 : decode cX10_choice 2 = .ok (.iconst (-1), 1) := dX10_choice_0_z.1.1.2.1
theorem dX10_choice_3 : decode cX10_choice 3 = .ok (.istore_n 3, 1) := dX10_choice_0_z.1.1.2.2
theorem dX10_choice_4 : decode cX10_choice 4 = .ok (.iconst 0, 1) := dX10_choice_0_z.1.2.1.1
theorem dX10_choice_5 : decode cX10_choice 5 = .ok (.istore 4, 2) := dX10_choice_0_z.1.2.1.2
theorem dX10_choice_7 : decode cX10_choice 7 = .ok (.iload 4, 2) := dX10_choice_0_z.1.2.2.1
theorem dX10_choice_9 : decode cX10_choice 9 = .ok (.aload_n 0, 1) := dX10_choice_0_z.1.2.2.2
theorem dX10_choice_10 : decode cX10_choice 10 = .ok (.getfield 37, 3) := dX10_choice_0_z.2.1.1.1
theorem dX10_choice_13 : decode cX10_choice 13 = .ok (.getfield 134, 3) := dX10_choice_0_z.2.1.1.2
theorem dX10_choice_16 : decode cX10_choice 16 = .ok (.if_icmp .ge 76, 3) := dX10_choice_0_z.2.1.2.1
theorem dX10_choice_19 : decode cX10_choice 19 = .ok (.iload_n 1, 1) := dX10_choice_0_z.2.1.2.2
theorem dX10_choice_20 : decode cX10_choice 20 = .ok (.iconst 1, 1) := dX10_choice_0_z.2.2.1.1
theorem dX10_choice_21 : decode cX10_choice 21 = .ok (.if_icmp .ne 15, 3) := dX10_choice_0_z.2.2.1.2
theorem dX10_choice_24 : decode cX10_choice 24 = .ok (.aload_n 0, 1) := dX10_choice_0_z.2.2.2.1
theorem dX10_choice_25 : decode cX10_choice 25 = .ok (.getfield 37, 3) := dX10_choice_0_z.2.2.2.2
set_option maxRecDepth 100000 in
theorem dX10_choice_28_z : ((((decode cX10_choice 28 = .ok (.iload 4, 2) ∧ decode cX10_choice 30 = .ok (.invokevirtual 161, 3)) ∧ (decode cX10_choice 33 = .ok (.goto 4, 3) ∧ decode cX10_choice 36 = .ok (.iconst 0, 1))) ∧ ((decode cX10_choice 37 = .ok (.istore 5, 2) ∧ decode cX10_choice 39 = .ok (.iload_n 1, 1)) ∧ (decode cX10_choice 40 = .ok (.ifCond .ne 21, 3) ∧ decode cX10_choice 43 = .ok (.aload_n 0, 1)))) ∧ (((decode cX10_choice 44 = .ok (.getfield 77, 3) ∧ decode cX10_choice 47 = .ok (.iload 4, 2)) ∧ (decode cX10_choice 49 = .ok (.invokevirtual 285, 3) ∧ decode cX10_choice 52 = .ok (.aload_n 0, 1))) ∧ ((decode cX10_choice 53 = .ok (.getfield 77, 3) ∧ decode cX10_choice 56 = .ok (.getfield 291, 3)) ∧ (decode cX10_choice 59 = .ok (.istore 5, 2) ∧ decode cX10_choice 61 = .ok (.aload_n 0, 1))))) := by decide +kernel
theorem dX10_choice_28 : decode cX10_choice 28 = .ok (.iload 4, 2) := dX10_choice_28_z.1.1.1.1
theorem dX10_choice_30 : decode cX10_choice 30 = .ok (.invokevirtual 161, 3) := dX10_choice_28_z.1.1.1.2
theorem dX10_choice_33 : decode cX10_choice 33 = .ok (.goto 4, 3) := dX10_choice_28_z.1.1.2.1
theorem dX10_choice_36 : decode cX10_choice 36 = .ok (.iconst 0, 1) := dX10_choice_28_z.1.1.2.2
theorem dX10_choice_37 : decode cX10_choice 37 = .ok (.istore 5, 2) := dX10_choice_28_z.1.2.1.1
theorem dX10_choice_39 : decode cX10_choice 39 = .ok (.iload_n 1, 1) := dX10_choice_28_z.1.2.1.2
theorem dX10_choice_40 : decode cX10_choice 40 = .ok (.ifCond .ne 21, 3) := dX10_choice_28_z.1.2.2.1
theorem dX10_choice_43 : decode cX10_choice 43 = .ok (.aload_n 0, 1) := dX10_choice_28_z.1.2.2.2
theorem dX10_choice_44 : decode cX10_choice 44 = .ok (.getfield 77, 3) := dX10_choice_28_z.2.1.1.1
theorem dX10_choice_47 : decode cX10_choice 47 = .ok (.iload 4, 2) := dX10_choice_28_z.2.1.1.2
theorem dX10_choice_49 : decode cX10_choice 49 = .ok (.invokevirtual 285, 3) := dX10_choice_28_z.2.1.2.1
theorem dX10_choice_52 : decode cX10_choice 52 = .ok (.aload_n 0, 1) := dX10_choice_28_z.2.1.2.2
theorem dX10_choice_53 : decode cX10_choice 53 = .ok (.getfield 77, 3) := dX10_choice_28_z.2.2.1.1
theorem dX10_choice_56 : decode cX10_choice 56 = .ok (.getfield 291, 3) := dX10_choice_28_z.2.2.1.2
theorem dX10_choice_59 : decode cX10_choice 59 = .ok (.istore 5, 2) := dX10_choice_28_z.2.2.2.1
theorem dX10_choice_61 : decode cX10_choice 61 = .ok (.aload_n 0, 1) := dX10_choice_28_z.2.2.2.2
set_option maxRecDepth 100000 in
theorem dX10_choice_62_z : ((((decode cX10_choice 62 = .ok (.getfield 37, 3) ∧ decode cX10_choice 65 = .ok (.iload 4, 2)) ∧ (decode cX10_choice 67 = .ok (.iload 5, 2) ∧ decode cX10_choice 69 = .ok (.invokevirtual 301, 3))) ∧ ((decode cX10_choice 72 = .ok (.istore 6, 2) ∧ decode cX10_choice 74 = .ok (.iload 6, 2)) ∧ (decode cX10_choice 76 = .ok (.iload_n 3, 1) ∧ decode cX10_choice 77 = .ok (.if_icmp .le 9, 3)))) ∧ (((decode cX10_choice 80 = .ok (.iload 4, 2) ∧ decode cX10_choice 82 = .ok (.istore_n 2, 1)) ∧ (decode cX10_choice 83 = .ok (.iload 6, 2) ∧ decode cX10_choice 85 = .ok (.istore_n 3, 1))) ∧ ((decode cX10_choice 86 = .ok (.iinc 4 1, 3) ∧ decode cX10_choice 89 = .ok (.goto (-82), 3)) ∧ (decode cX10_choice 92 = .ok (.iload_n 2, 1) ∧ decode cX10_choice 93 = .ok (.ireturn, 1))))) := by decide +kernel
theorem dX10_choice_62 : decode cX10_choice 62 = .ok (.getfield 37, 3) := dX10_choice_62_z.1.1.1.1
theorem dX10_choice_65 : decode cX10_choice 65 = .ok (.iload 4, 2) := dX10_choice_62_z.1.1.1.2
theorem dX10_choice_67 : decode cX10_choice 67 = .ok (.iload 5, 2) := dX10_choice_62_z.1.1.2.1
theorem dX10_choice_69 : decode cX10_choice 69 = .ok (.invokevirtual 301, 3) := dX10_choice_62_z.1.1.2.2
theorem dX10_choice_72 : decode cX10_choice 72 = .ok (.istore 6, 2) := dX10_choice_62_z.1.2.1.1
theorem dX10_choice_74 : decode cX10_choice 74 = .ok (.iload 6, 2) := dX10_choice_62_z.1.2.1.2
theorem dX10_choice_76 : decode cX10_choice 76 = .ok (.iload_n 3, 1) := dX10_choice_62_z.1.2.2.1
theorem dX10_choice_77 : decode cX10_choice 77 = .ok (.if_icmp .le 9, 3) := dX10_choice_62_z.1.2.2.2
theorem dX10_choice_80 : decode cX10_choice 80 = .ok (.iload 4, 2) := dX10_choice_62_z.2.1.1.1
theorem dX10_choice_82 : decode cX10_choice 82 = .ok (.istore_n 2, 1) := dX10_choice_62_z.2.1.1.2
theorem dX10_choice_83 : decode cX10_choice 83 = .ok (.iload 6, 2) := dX10_choice_62_z.2.1.2.1
theorem dX10_choice_85 : decode cX10_choice 85 = .ok (.istore_n 3, 1) := dX10_choice_62_z.2.1.2.2
theorem dX10_choice_86 : decode cX10_choice 86 = .ok (.iinc 4 1, 3) := dX10_choice_62_z.2.2.1.1
theorem dX10_choice_89 : decode cX10_choice 89 = .ok (.goto (-82), 3) := dX10_choice_62_z.2.2.1.2
theorem dX10_choice_92 : decode cX10_choice 92 = .ok (.iload_n 2, 1) := dX10_choice_62_z.2.2.2.1
theorem dX10_choice_93 : decode cX10_choice 93 = .ok (.ireturn, 1) := dX10_choice_62_z.2.2.2.2
set_option maxRecDepth 100000 in
theorem dX10_game_0_z : ((((decode cX10_game 0 = .ok (.aload_n 0, 1) ∧ decode cX10_game 1 = .ok (.iload_n 1, 1)) ∧ (decode cX10_game 2 = .ok (.iload_n 2, 1) ∧ decode cX10_game 3 = .ok (.iload_n 3, 1))) ∧ ((decode cX10_game 4 = .ok (.invokevirtual 310, 3) ∧ decode cX10_game 7 = .ok (.ifCond .eq 30, 3)) ∧ (decode cX10_game 10 = .ok (.iload 4, 2) ∧ decode cX10_game 12 = .ok (.invokestatic 230, 3)))) ∧ (((decode cX10_game 15 = .ok (.ifCond .eq 22, 3) ∧ decode cX10_game 18 = .ok (.iload 5, 2)) ∧ (decode cX10_game 20 = .ok (.invokestatic 230, 3) ∧ decode cX10_game 23 = .ok (.ifCond .eq 14, 3))) ∧ ((decode cX10_game 26 = .ok (.iload 6, 2) ∧ decode cX10_game 28 = .ok (.ifCond .lt 9, 3)) ∧ (decode cX10_game 31 = .ok (.iload 6, 2) ∧ decode cX10_game 33 = .ok (.iconst 1, 1))))) := by decide +kernel
theorem dX10_game_0 : decode cX10_game 0 = .ok (.aload_n 0, 1) := dX10_game_0_z.1.1.1.1
theorem dX10_game_1 : decode cX10_game 1 = .ok (.iload_n 1, 1) := dX10_game_0_z.1.1.1.2
theorem dX10_game_2 : decode cX10_game 2 = .ok (.iload_n 2, 1) := dX10_game_0_z.1.1.2.1
theorem dX10_game_3 : decode cX10_game 3 = .ok (.iload_n 3, 1) := dX10_game_0_z.1.1.2.2
theorem dX10_game_4 : decode cX10_game 4 = .ok (.invokevirtual 310, 3) := dX10_game_0_z.1.2.1.1
theorem dX10_game_7 : decode cX10_game 7 = .ok (.ifCond .eq 30, 3) := dX10_game_0_z.1.2.1.2
theorem dX10_game_10 : decode cX10_game 10 = .ok (.iload 4, 2) := dX10_game_0_z.1.2.2.1
theorem dX10_game_12 : decode cX10_game 12 = .ok (.invokestatic 230, 3) := dX10_game_0_z.1.2.2.2
theorem dX10_game_15 : decode cX10_game 15 = .ok (.ifCond .eq 22, 3) := dX10_game_0_z.2.1.1.1
theorem dX10_game_18 : decode cX10_game 18 = .ok (.iload 5, 2) := dX10_game_0_z.2.1.1.2
theorem dX10_game_20 : decode cX10_game 20 = .ok (.invokestatic 230, 3) := dX10_game_0_z.2.1.2.1
theorem dX10_game_23 : decode cX10_game 23 = .ok (.ifCond .eq 14, 3) := dX10_game_0_z.2.1.2.2
theorem dX10_game_26 : decode cX10_game 26 = .ok (.iload 6, 2) := dX10_game_0_z.2.2.1.1
theorem dX10_game_28 : decode cX10_game 28 = .ok (.ifCond .lt 9, 3) := dX10_game_0_z.2.2.1.2
theorem dX10_game_31 : decode cX10_game 31 = .ok (.iload 6, 2) := dX10_game_0_z.2.2.2.1
theorem dX10_game_33 : decode cX10_game 33 = .ok (.iconst 1, 1) := dX10_game_0_z.2.2.2.2
set_option maxRecDepth 100000 in
theorem dX10_game_34_z : ((((decode cX10_game 34 = .ok (.if_icmp .le 7, 3) ∧ decode cX10_game 37 = .ok (.ldc_w 313, 3)) ∧ (decode cX10_game 40 = .ok (.ireturn, 1) ∧ decode cX10_game 41 = .ok (.aload_n 0, 1))) ∧ ((decode cX10_game 42 = .ok (.getfield 68, 3) ∧ decode cX10_game 45 = .ok (.iload_n 3, 1)) ∧ (decode cX10_game 46 = .ok (.iload_n 1, 1) ∧ decode cX10_game 47 = .ok (.aload_n 0, 1)))) ∧ (((decode cX10_game 48 = .ok (.getfield 37, 3) ∧ decode cX10_game 51 = .ok (.iload_n 1, 1)) ∧ (decode cX10_game 52 = .ok (.invokevirtual 161, 3) ∧ decode cX10_game 55 = .ok (.iload 4, 2))) ∧ ((decode cX10_game 57 = .ok (.invokevirtual 314, 3) ∧ decode cX10_game 60 = .ok (.istore 7, 2)) ∧ (decode cX10_game 62 = .ok (.aload_n 0, 1) ∧ decode cX10_game 63 = .ok (.getfield 68, 3))))) := by decide +kernel
theorem dX10_game_34 : decode cX10_game 34 = .ok (.if_icmp .le 7, 3) := dX10_game_34_z.1.1.1.1
theorem dX10_game_37 : decode cX10_game 37 = .ok (.ldc_w 313, 3) := dX10_game_34_z.1.1.1.2
theorem dX10_game_40 : decode cX10_game 40 = .ok (.ireturn, 1) := dX10_game_34_z.1.1.2.1
theorem dX10_game_41 : decode cX10_game 41 = .ok (.aload_n 0, 1) := dX10_game_34_z.1.1.2.2
theorem dX10_game_42 : decode cX10_game 42 = .ok (.getfield 68, 3) := dX10_game_34_z.1.2.1.1
theorem dX10_game_45 : decode cX10_game 45 = .ok (.iload_n 3, 1) := dX10_game_34_z.1.2.1.2
theorem dX10_game_46 : decode cX10_game 46 = .ok (.iload_n 1, 1) := dX10_game_34_z.1.2.2.1
theorem dX10_game_47 : decode cX10_game 47 = .ok (.aload_n 0, 1) := dX10_game_34_z.1.2.2.2
theorem dX10_game_48 : decode cX10_game 48 = .ok (.getfield 37, 3) := dX10_game_34_z.2.1.1.1
theorem dX10_game_51 : decode cX10_game 51 = .ok (.iload_n 1, 1) := dX10_game_34_z.2.1.1.2
theorem dX10_game_52 : decode cX10_game 52 = .ok (.invokevirtual 161, 3) := dX10_game_34_z.2.1.2.1
theorem dX10_game_55 : decode cX10_game 55 = .ok (.iload 4, 2) := dX10_game_34_z.2.1.2.2
theorem dX10_game_57 : decode cX10_game 57 = .ok (.invokevirtual 314, 3) := dX10_game_34_z.2.2.1.1
theorem dX10_game_60 : decode cX10_game 60 = .ok (.istore 7, 2) := dX10_game_34_z.2.2.1.2
theorem dX10_game_62 : decode cX10_game 62 = .ok (.aload_n 0, 1) := dX10_game_34_z.2.2.2.1
theorem dX10_game_63 : decode cX10_game 63 = .ok (.getfield 68, 3) := dX10_game_34_z.2.2.2.2
set_option maxRecDepth 100000 in
theorem dX10_game_66_z : ((((decode cX10_game 66 = .ok (.iload_n 3, 1) ∧ decode cX10_game 67 = .ok (.iload_n 2, 1)) ∧ (decode cX10_game 68 = .ok (.aload_n 0, 1) ∧ decode cX10_game 69 = .ok (.getfield 37, 3))) ∧ ((decode cX10_game 72 = .ok (.iload_n 2, 1) ∧ decode cX10_game 73 = .ok (.invokevirtual 161, 3)) ∧ (decode cX10_game 76 = .ok (.iload 5, 2) ∧ decode cX10_game 78 = .ok (.invokevirtual 314, 3)))) ∧ (((decode cX10_game 81 = .ok (.istore 8, 2) ∧ decode cX10_game 83 = .ok (.iload 6, 2)) ∧ (decode cX10_game 85 = .ok (.ifCond .ne 15, 3) ∧ decode cX10_game 88 = .ok (.iload 7, 2))) ∧ ((decode cX10_game 90 = .ok (.iload 8, 2) ∧ decode cX10_game 92 = .ok (.iload 4, 2)) ∧ (decode cX10_game 94 = .ok (.invokestatic 318, 3) ∧ decode cX10_game 97 = .ok (.goto 12, 3))))) := by decide +kernel
theorem dX10_game_66 : decode cX10_game 66 = .ok (.iload_n 3, 1) := dX10_game_66_z.1.1.1.1
theorem dX10_game_67 : decode cX10_game 67 = .ok (.iload_n 2, 1) := dX10_game_66_z.1.1.1.2
theorem dX10_game_68 : decode cX10_game 68 = .ok (.aload_n 0, 1) := dX10_game_66_z.1.1.2.1
theorem dX10_game_69 : decode cX10_game 69 = .ok (.getfield 37, 3) := dX10_game_66_z.1.1.2.2
theorem dX10_game_72 : decode cX10_game 72 = .ok (.iload_n 2, 1) := dX10_game_66_z.1.2.1.1
theorem dX10_game_73 : decode cX10_game 73 = .ok (.invokevirtual 161, 3) := dX10_game_66_z.1.2.1.2
theorem dX10_game_76 : decode cX10_game 76 = .ok (.iload 5, 2) := dX10_game_66_z.1.2.2.1
theorem dX10_game_78 : decode cX10_game 78 = .ok (.invokevirtual 314, 3) := dX10_game_66_z.1.2.2.2
theorem dX10_game_81 : decode cX10_game 81 = .ok (.istore 8, 2) := dX10_game_66_z.2.1.1.1
theorem dX10_game_83 : decode cX10_game 83 = .ok (.iload 6, 2) := dX10_game_66_z.2.1.1.2
theorem dX10_game_85 : decode cX10_game 85 = .ok (.ifCond .ne 15, 3) := dX10_game_66_z.2.1.2.1
theorem dX10_game_88 : decode cX10_game 88 = .ok (.iload 7, 2) := dX10_game_66_z.2.1.2.2
theorem dX10_game_90 : decode cX10_game 90 = .ok (.iload 8, 2) := dX10_game_66_z.2.2.1.1
theorem dX10_game_92 : decode cX10_game 92 = .ok (.iload 4, 2) := dX10_game_66_z.2.2.1.2
theorem dX10_game_94 : decode cX10_game 94 = .ok (.invokestatic 318, 3) := dX10_game_66_z.2.2.2.1
theorem dX10_game_97 : decode cX10_game 97 = .ok (.goto 12, 3) := dX10_game_66_z.2.2.2.2
set_option maxRecDepth 100000 in
theorem dX10_game_100_z : (((decode cX10_game 100 = .ok (.iload 8, 2) ∧ decode cX10_game 102 = .ok (.iload 7, 2)) ∧ decode cX10_game 104 = .ok (.iload 5, 2)) ∧ (decode cX10_game 106 = .ok (.invokestatic 318, 3) ∧ decode cX10_game 109 = .ok (.ireturn, 1))) := by decide +kernel
theorem dX10_game_100 : decode cX10_game 100 = .ok (.iload 8, 2) := dX10_game_100_z.1.1.1
theorem dX10_game_102 : decode cX10_game 102 = .ok (.iload 7, 2) := dX10_game_100_z.1.1.2
theorem dX10_game_104 : decode cX10_game 104 = .ok (.iload 5, 2) := dX10_game_100_z.1.2
theorem dX10_game_106 : decode cX10_game 106 = .ok (.invokestatic 318, 3) := dX10_game_100_z.2.1
theorem dX10_game_109 : decode cX10_game 109 = .ok (.ireturn, 1) := dX10_game_100_z.2.2
set_option maxRecDepth 100000 in
theorem dX10_gain_0_z : ((((decode cX10_gain 0 = .ok (.iload_n 0, 1) ∧ decode cX10_gain 1 = .ok (.iload_n 1, 1)) ∧ (decode cX10_gain 2 = .ok (.if_icmp .le 8, 3) ∧ decode cX10_gain 5 = .ok (.bipush 6, 2))) ∧ ((decode cX10_gain 7 = .ok (.goto 13, 3) ∧ decode cX10_gain 10 = .ok (.iload_n 0, 1)) ∧ (decode cX10_gain 11 = .ok (.iload_n 1, 1) ∧ decode cX10_gain 12 = .ok (.if_icmp .ne 7, 3)))) ∧ (((decode cX10_gain 15 = .ok (.iconst 3, 1) ∧ decode cX10_gain 16 = .ok (.goto 4, 3)) ∧ (decode cX10_gain 19 = .ok (.iconst 0, 1) ∧ decode cX10_gain 20 = .ok (.istore_n 3, 1))) ∧ ((decode cX10_gain 21 = .ok (.iload_n 3, 1) ∧ decode cX10_gain 22 = .ok (.iload_n 2, 1)) ∧ (decode cX10_gain 23 = .ok (.iconst 2, 1) ∧ decode cX10_gain 24 = .ok (.idiv, 1))))) := by decide +kernel
theorem dX10_gain_0 : decode cX10_gain 0 = .ok (.iload_n 0, 1) := dX10_gain_0_z.1.1.1.1
theorem dX10_gain_1 : decode cX10_gain 1 = .ok (.iload_n 1, 1) := dX10_gain_0_z.1.1.1.2
theorem dX10_gain_2 : decode cX10_gain 2 = .ok (.if_icmp .le 8, 3) := dX10_gain_0_z.1.1.2.1
theorem dX10_gain_5 : decode cX10_gain 5 = .ok (.bipush 6, 2) := dX10_gain_0_z.1.1.2.2
theorem dX10_gain_7 : decode cX10_gain 7 = .ok (.goto 13, 3) := dX10_gain_0_z.1.2.1.1
theorem dX10_gain_10 : decode cX10_gain 10 = .ok (.iload_n 0, 1) := dX10_gain_0_z.1.2.1.2
theorem dX10_gain_11 : decode cX10_gain 11 = .ok (.iload_n 1, 1) := dX10_gain_0_z.1.2.2.1
theorem dX10_gain_12 : decode cX10_gain 12 = .ok (.if_icmp .ne 7, 3) := dX10_gain_0_z.1.2.2.2
theorem dX10_gain_15 : decode cX10_gain 15 = .ok (.iconst 3, 1) := dX10_gain_0_z.2.1.1.1
theorem dX10_gain_16 : decode cX10_gain 16 = .ok (.goto 4, 3) := dX10_gain_0_z.2.1.1.2
theorem dX10_gain_19 : decode cX10_gain 19 = .ok (.iconst 0, 1) := dX10_gain_0_z.2.1.2.1
theorem dX10_gain_20 : decode cX10_gain 20 = .ok (.istore_n 3, 1) := dX10_gain_0_z.2.1.2.2
theorem dX10_gain_21 : decode cX10_gain 21 = .ok (.iload_n 3, 1) := dX10_gain_0_z.2.2.1.1
theorem dX10_gain_22 : decode cX10_gain 22 = .ok (.iload_n 2, 1) := dX10_gain_0_z.2.2.1.2
theorem dX10_gain_23 : decode cX10_gain 23 = .ok (.iconst 2, 1) := dX10_gain_0_z.2.2.2.1
theorem dX10_gain_24 : decode cX10_gain 24 = .ok (.idiv, 1) := dX10_gain_0_z.2.2.2.2
set_option maxRecDepth 100000 in
theorem dX10_gain_25_z : (decode cX10_gain 25 = .ok (.isub, 1) ∧ decode cX10_gain 26 = .ok (.ireturn, 1)) := by decide +kernel
theorem dX10_gain_25 : decode cX10_gain 25 = .ok (.isub, 1) := dX10_gain_25_z.1
theorem dX10_gain_26 : decode cX10_gain 26 = .ok (.ireturn, 1) := dX10_gain_25_z.2
set_option maxRecDepth 100000 in
theorem dX10_rests_0_z : ((((decode cX10_rests 0 = .ok (.aload_n 0, 1) ∧ decode cX10_rests 1 = .ok (.iload_n 1, 1)) ∧ (decode cX10_rests 2 = .ok (.iload_n 2, 1) ∧ decode cX10_rests 3 = .ok (.iload_n 3, 1))) ∧ ((decode cX10_rests 4 = .ok (.invokevirtual 310, 3) ∧ decode cX10_rests 7 = .ok (.ifCond .eq 9, 3)) ∧ (decode cX10_rests 10 = .ok (.iload 4, 2) ∧ decode cX10_rests 12 = .ok (.iconst (-1), 1)))) ∧ (((decode cX10_rests 13 = .ok (.if_icmp .ge 5, 3) ∧ decode cX10_rests 16 = .ok (.iconst (-1), 1)) ∧ (decode cX10_rests 17 = .ok (.ireturn, 1) ∧ decode cX10_rests 18 = .ok (.aload_n 0, 1))) ∧ ((decode cX10_rests 19 = .ok (.getfield 68, 3) ∧ decode cX10_rests 22 = .ok (.iload_n 3, 1)) ∧ (decode cX10_rests 23 = .ok (.iload_n 1, 1) ∧ decode cX10_rests 24 = .ok (.aload_n 0, 1))))) := by decide +kernel
theorem dX10_rests_0 : decode cX10_rests 0 = .ok (.aload_n 0, 1) := dX10_rests_0_z.1.1.1.1
theorem dX10_rests_1 : decode cX10_rests 1 = .ok (.iload_n 1, 1) := dX10_rests_0_z.1.1.1.2
theorem dX10_rests_2 : decode cX10_rests 2 = .ok (.iload_n 2, 1) := dX10_rests_0_z.1.1.2.1
theorem dX10_rests_3 : decode cX10_rests 3 = .ok (.iload_n 3, 1) := dX10_rests_0_z.1.1.2.2
theorem dX10_rests_4 : decode cX10_rests 4 = .ok (.invokevirtual 310, 3) := dX10_rests_0_z.1.2.1.1
theorem dX10_rests_7 : decode cX10_rests 7 = .ok (.ifCond .eq 9, 3) := dX10_rests_0_z.1.2.1.2
theorem dX10_rests_10 : decode cX10_rests 10 = .ok (.iload 4, 2) := dX10_rests_0_z.1.2.2.1
theorem dX10_rests_12 : decode cX10_rests 12 = .ok (.iconst (-1), 1) := dX10_rests_0_z.1.2.2.2
theorem dX10_rests_13 : decode cX10_rests 13 = .ok (.if_icmp .ge 5, 3) := dX10_rests_0_z.2.1.1.1
theorem dX10_rests_16 : decode cX10_rests 16 = .ok (.iconst (-1), 1) := dX10_rests_0_z.2.1.1.2
theorem dX10_rests_17 : decode cX10_rests 17 = .ok (.ireturn, 1) := dX10_rests_0_z.2.1.2.1
theorem dX10_rests_18 : decode cX10_rests 18 = .ok (.aload_n 0, 1) := dX10_rests_0_z.2.1.2.2
theorem dX10_rests_19 : decode cX10_rests 19 = .ok (.getfield 68, 3) := dX10_rests_0_z.2.2.1.1
theorem dX10_rests_22 : decode cX10_rests 22 = .ok (.iload_n 3, 1) := dX10_rests_0_z.2.2.1.2
theorem dX10_rests_23 : decode cX10_rests 23 = .ok (.iload_n 1, 1) := dX10_rests_0_z.2.2.2.1
theorem dX10_rests_24 : decode cX10_rests 24 = .ok (.aload_n 0, 1) := dX10_rests_0_z.2.2.2.2
set_option maxRecDepth 100000 in
theorem dX10_rests_25_z : ((((decode cX10_rests 25 = .ok (.getfield 68, 3) ∧ decode cX10_rests 28 = .ok (.getfield 321, 3)) ∧ (decode cX10_rests 31 = .ok (.invokevirtual 324, 3) ∧ decode cX10_rests 34 = .ok (.aload_n 0, 1))) ∧ ((decode cX10_rests 35 = .ok (.getfield 68, 3) ∧ decode cX10_rests 38 = .ok (.iload_n 3, 1)) ∧ (decode cX10_rests 39 = .ok (.iload_n 2, 1) ∧ decode cX10_rests 40 = .ok (.aload_n 0, 1)))) ∧ (((decode cX10_rests 41 = .ok (.getfield 68, 3) ∧ decode cX10_rests 44 = .ok (.getfield 328, 3)) ∧ (decode cX10_rests 47 = .ok (.invokevirtual 324, 3) ∧ decode cX10_rests 50 = .ok (.iconst 0, 1))) ∧ ((decode cX10_rests 51 = .ok (.istore 5, 2) ∧ decode cX10_rests 53 = .ok (.iconst 0, 1)) ∧ (decode cX10_rests 54 = .ok (.istore 6, 2) ∧ decode cX10_rests 56 = .ok (.iload 6, 2))))) := by decide +kernel
theorem dX10_rests_25 : decode cX10_rests 25 = .ok (.getfield 68, 3) := dX10_rests_25_z.1.1.1.1
theorem dX10_rests_28 : decode cX10_rests 28 = .ok (.getfield 321, 3) := dX10_rests_25_z.1.1.1.2
theorem dX10_rests_31 : decode cX10_rests 31 = .ok (.invokevirtual 324, 3) := dX10_rests_25_z.1.1.2.1
theorem dX10_rests_34 : decode cX10_rests 34 = .ok (.aload_n 0, 1) := dX10_rests_25_z.1.1.2.2
theorem dX10_rests_35 : decode cX10_rests 35 = .ok (.getfield 68, 3) := dX10_rests_25_z.1.2.1.1
theorem dX10_rests_38 : decode cX10_rests 38 = .ok (.iload_n 3, 1) := dX10_rests_25_z.1.2.1.2
theorem dX10_rests_39 : decode cX10_rests 39 = .ok (.iload_n 2, 1) := dX10_rests_25_z.1.2.2.1
theorem dX10_rests_40 : decode cX10_rests 40 = .ok (.aload_n 0, 1) := dX10_rests_25_z.1.2.2.2
theorem dX10_rests_41 : decode cX10_rests 41 = .ok (.getfield 68, 3) := dX10_rests_25_z.2.1.1.1
theorem dX10_rests_44 : decode cX10_rests 44 = .ok (.getfield 328, 3) := dX10_rests_25_z.2.1.1.2
theorem dX10_rests_47 : decode cX10_rests 47 = .ok (.invokevirtual 324, 3) := dX10_rests_25_z.2.1.2.1
theorem dX10_rests_50 : decode cX10_rests 50 = .ok (.iconst 0, 1) := dX10_rests_25_z.2.1.2.2
theorem dX10_rests_51 : decode cX10_rests 51 = .ok (.istore 5, 2) := dX10_rests_25_z.2.2.1.1
theorem dX10_rests_53 : decode cX10_rests 53 = .ok (.iconst 0, 1) := dX10_rests_25_z.2.2.1.2
theorem dX10_rests_54 : decode cX10_rests 54 = .ok (.istore 6, 2) := dX10_rests_25_z.2.2.2.1
theorem dX10_rests_56 : decode cX10_rests 56 = .ok (.iload 6, 2) := dX10_rests_25_z.2.2.2.2
set_option maxRecDepth 100000 in
theorem dX10_rests_58_z : ((((decode cX10_rests 58 = .ok (.bipush 9, 2) ∧ decode cX10_rests 60 = .ok (.if_icmp .gt 97, 3)) ∧ (decode cX10_rests 63 = .ok (.iconst 0, 1) ∧ decode cX10_rests 64 = .ok (.istore 7, 2))) ∧ ((decode cX10_rests 66 = .ok (.iload 7, 2) ∧ decode cX10_rests 68 = .ok (.bipush 9, 2)) ∧ (decode cX10_rests 70 = .ok (.if_icmp .gt 81, 3) ∧ decode cX10_rests 73 = .ok (.aload_n 0, 1)))) ∧ (((decode cX10_rests 74 = .ok (.getfield 68, 3) ∧ decode cX10_rests 77 = .ok (.getfield 321, 3)) ∧ (decode cX10_rests 80 = .ok (.iload 6, 2) ∧ decode cX10_rests 82 = .ok (.aload_n 0, 1))) ∧ ((decode cX10_rests 83 = .ok (.getfield 68, 3) ∧ decode cX10_rests 86 = .ok (.getfield 328, 3)) ∧ (decode cX10_rests 89 = .ok (.iload 7, 2) ∧ decode cX10_rests 91 = .ok (.iaload, 1))))) := by decide +kernel
theorem dX10_rests_58 : decode cX10_rests 58 = .ok (.bipush 9, 2) := dX10_rests_58_z.1.1.1.1
theorem dX10_rests_60 : decode cX10_rests 60 = .ok (.if_icmp .gt 97, 3) := dX10_rests_58_z.1.1.1.2
theorem dX10_rests_63 : decode cX10_rests 63 = .ok (.iconst 0, 1) := dX10_rests_58_z.1.1.2.1
theorem dX10_rests_64 : decode cX10_rests 64 = .ok (.istore 7, 2) := dX10_rests_58_z.1.1.2.2
theorem dX10_rests_66 : decode cX10_rests 66 = .ok (.iload 7, 2) := dX10_rests_58_z.1.2.1.1
theorem dX10_rests_68 : decode cX10_rests 68 = .ok (.bipush 9, 2) := dX10_rests_58_z.1.2.1.2
theorem dX10_rests_70 : decode cX10_rests 70 = .ok (.if_icmp .gt 81, 3) := dX10_rests_58_z.1.2.2.1
theorem dX10_rests_73 : decode cX10_rests 73 = .ok (.aload_n 0, 1) := dX10_rests_58_z.1.2.2.2
theorem dX10_rests_74 : decode cX10_rests 74 = .ok (.getfield 68, 3) := dX10_rests_58_z.2.1.1.1
theorem dX10_rests_77 : decode cX10_rests 77 = .ok (.getfield 321, 3) := dX10_rests_58_z.2.1.1.2
theorem dX10_rests_80 : decode cX10_rests 80 = .ok (.iload 6, 2) := dX10_rests_58_z.2.1.2.1
theorem dX10_rests_82 : decode cX10_rests 82 = .ok (.aload_n 0, 1) := dX10_rests_58_z.2.1.2.2
theorem dX10_rests_83 : decode cX10_rests 83 = .ok (.getfield 68, 3) := dX10_rests_58_z.2.2.1.1
theorem dX10_rests_86 : decode cX10_rests 86 = .ok (.getfield 328, 3) := dX10_rests_58_z.2.2.1.2
theorem dX10_rests_89 : decode cX10_rests 89 = .ok (.iload 7, 2) := dX10_rests_58_z.2.2.2.1
theorem dX10_rests_91 : decode cX10_rests 91 = .ok (.iaload, 1) := dX10_rests_58_z.2.2.2.2
set_option maxRecDepth 100000 in
theorem dX10_rests_92_z : ((((decode cX10_rests 92 = .ok (.invokestatic 331, 3) ∧ decode cX10_rests 95 = .ok (.ifCond .eq 50, 3)) ∧ (decode cX10_rests 98 = .ok (.aload_n 0, 1) ∧ decode cX10_rests 99 = .ok (.getfield 68, 3))) ∧ ((decode cX10_rests 102 = .ok (.getfield 328, 3) ∧ decode cX10_rests 105 = .ok (.iload 7, 2)) ∧ (decode cX10_rests 107 = .ok (.aload_n 0, 1) ∧ decode cX10_rests 108 = .ok (.getfield 68, 3)))) ∧ (((decode cX10_rests 111 = .ok (.getfield 321, 3) ∧ decode cX10_rests 114 = .ok (.iload 6, 2)) ∧ (decode cX10_rests 116 = .ok (.iaload, 1) ∧ decode cX10_rests 117 = .ok (.invokestatic 331, 3))) ∧ ((decode cX10_rests 120 = .ok (.ifCond .ne 6, 3) ∧ decode cX10_rests 123 = .ok (.goto 22, 3)) ∧ (decode cX10_rests 126 = .ok (.iload 5, 2) ∧ decode cX10_rests 128 = .ok (.iload 4, 2))))) := by decide +kernel
theorem dX10_rests_92 : decode cX10_rests 92 = .ok (.invokestatic 331, 3) := dX10_rests_92_z.1.1.1.1
theorem dX10_rests_95 : decode cX10_rests 95 = .ok (.ifCond .eq 50, 3) := dX10_rests_92_z.1.1.1.2
theorem dX10_rests_98 : decode cX10_rests 98 = .ok (.aload_n 0, 1) := dX10_rests_92_z.1.1.2.1
theorem dX10_rests_99 : decode cX10_rests 99 = .ok (.getfield 68, 3) := dX10_rests_92_z.1.1.2.2
theorem dX10_rests_102 : decode cX10_rests 102 = .ok (.getfield 328, 3) := dX10_rests_92_z.1.2.1.1
theorem dX10_rests_105 : decode cX10_rests 105 = .ok (.iload 7, 2) := dX10_rests_92_z.1.2.1.2
theorem dX10_rests_107 : decode cX10_rests 107 = .ok (.aload_n 0, 1) := dX10_rests_92_z.1.2.2.1
theorem dX10_rests_108 : decode cX10_rests 108 = .ok (.getfield 68, 3) := dX10_rests_92_z.1.2.2.2
theorem dX10_rests_111 : decode cX10_rests 111 = .ok (.getfield 321, 3) := dX10_rests_92_z.2.1.1.1
theorem dX10_rests_114 : decode cX10_rests 114 = .ok (.iload 6, 2) := dX10_rests_92_z.2.1.1.2
theorem dX10_rests_116 : decode cX10_rests 116 = .ok (.iaload, 1) := dX10_rests_92_z.2.1.2.1
theorem dX10_rests_117 : decode cX10_rests 117 = .ok (.invokestatic 331, 3) := dX10_rests_92_z.2.1.2.2
theorem dX10_rests_120 : decode cX10_rests 120 = .ok (.ifCond .ne 6, 3) := dX10_rests_92_z.2.2.1.1
theorem dX10_rests_123 : decode cX10_rests 123 = .ok (.goto 22, 3) := dX10_rests_92_z.2.2.1.2
theorem dX10_rests_126 : decode cX10_rests 126 = .ok (.iload 5, 2) := dX10_rests_92_z.2.2.2.1
theorem dX10_rests_128 : decode cX10_rests 128 = .ok (.iload 4, 2) := dX10_rests_92_z.2.2.2.2
set_option maxRecDepth 100000 in
theorem dX10_rests_130_z : ((((decode cX10_rests 130 = .ok (.if_icmp .ne 12, 3) ∧ decode cX10_rests 133 = .ok (.bipush 10, 2)) ∧ (decode cX10_rests 135 = .ok (.iload 6, 2) ∧ decode cX10_rests 137 = .ok (.imul, 1))) ∧ ((decode cX10_rests 138 = .ok (.iload 7, 2) ∧ decode cX10_rests 140 = .ok (.iadd, 1)) ∧ (decode cX10_rests 141 = .ok (.ireturn, 1) ∧ decode cX10_rests 142 = .ok (.iinc 5 1, 3)))) ∧ (((decode cX10_rests 145 = .ok (.iinc 7 1, 3) ∧ decode cX10_rests 148 = .ok (.goto (-82), 3)) ∧ (decode cX10_rests 151 = .ok (.iinc 6 1, 3) ∧ decode cX10_rests 154 = .ok (.goto (-98), 3))) ∧ ((decode cX10_rests 157 = .ok (.iload 4, 2) ∧ decode cX10_rests 159 = .ok (.iconst (-1), 1)) ∧ (decode cX10_rests 160 = .ok (.if_icmp .ne 8, 3) ∧ decode cX10_rests 163 = .ok (.iload 5, 2))))) := by decide +kernel
theorem dX10_rests_130 : decode cX10_rests 130 = .ok (.if_icmp .ne 12, 3) := dX10_rests_130_z.1.1.1.1
theorem dX10_rests_133 : decode cX10_rests 133 = .ok (.bipush 10, 2) := dX10_rests_130_z.1.1.1.2
theorem dX10_rests_135 : decode cX10_rests 135 = .ok (.iload 6, 2) := dX10_rests_130_z.1.1.2.1
theorem dX10_rests_137 : decode cX10_rests 137 = .ok (.imul, 1) := dX10_rests_130_z.1.1.2.2
theorem dX10_rests_138 : decode cX10_rests 138 = .ok (.iload 7, 2) := dX10_rests_130_z.1.2.1.1
theorem dX10_rests_140 : decode cX10_rests 140 = .ok (.iadd, 1) := dX10_rests_130_z.1.2.1.2
theorem dX10_rests_141 : decode cX10_rests 141 = .ok (.ireturn, 1) := dX10_rests_130_z.1.2.2.1
theorem dX10_rests_142 : decode cX10_rests 142 = .ok (.iinc 5 1, 3) := dX10_rests_130_z.1.2.2.2
theorem dX10_rests_145 : decode cX10_rests 145 = .ok (.iinc 7 1, 3) := dX10_rests_130_z.2.1.1.1
theorem dX10_rests_148 : decode cX10_rests 148 = .ok (.goto (-82), 3) := dX10_rests_130_z.2.1.1.2
theorem dX10_rests_151 : decode cX10_rests 151 = .ok (.iinc 6 1, 3) := dX10_rests_130_z.2.1.2.1
theorem dX10_rests_154 : decode cX10_rests 154 = .ok (.goto (-98), 3) := dX10_rests_130_z.2.1.2.2
theorem dX10_rests_157 : decode cX10_rests 157 = .ok (.iload 4, 2) := dX10_rests_130_z.2.2.1.1
theorem dX10_rests_159 : decode cX10_rests 159 = .ok (.iconst (-1), 1) := dX10_rests_130_z.2.2.1.2
theorem dX10_rests_160 : decode cX10_rests 160 = .ok (.if_icmp .ne 8, 3) := dX10_rests_130_z.2.2.2.1
theorem dX10_rests_163 : decode cX10_rests 163 = .ok (.iload 5, 2) := dX10_rests_130_z.2.2.2.2
set_option maxRecDepth 100000 in
theorem dX10_rests_165_z : ((decode cX10_rests 165 = .ok (.goto 4, 3) ∧ decode cX10_rests 168 = .ok (.iconst (-1), 1)) ∧ decode cX10_rests 169 = .ok (.ireturn, 1)) := by decide +kernel
theorem dX10_rests_165 : decode cX10_rests 165 = .ok (.goto 4, 3) := dX10_rests_165_z.1.1
theorem dX10_rests_168 : decode cX10_rests 168 = .ok (.iconst (-1), 1) := dX10_rests_165_z.1.2
theorem dX10_rests_169 : decode cX10_rests 169 = .ok (.ireturn, 1) := dX10_rests_165_z.2
set_option maxRecDepth 100000 in
theorem dX10_bestAgainst_0_z : ((((decode cX10_bestAgainst 0 = .ok (.aload_n 0, 1) ∧ decode cX10_bestAgainst 1 = .ok (.iload_n 1, 1)) ∧ (decode cX10_bestAgainst 2 = .ok (.iaload, 1) ∧ decode cX10_bestAgainst 3 = .ok (.iload_n 2, 1))) ∧ ((decode cX10_bestAgainst 4 = .ok (.iload_n 1, 1) ∧ decode cX10_bestAgainst 5 = .ok (.invokestatic 318, 3)) ∧ (decode cX10_bestAgainst 8 = .ok (.istore_n 3, 1) ∧ decode cX10_bestAgainst 9 = .ok (.iconst 0, 1)))) ∧ (((decode cX10_bestAgainst 10 = .ok (.istore 4, 2) ∧ decode cX10_bestAgainst 12 = .ok (.iload 4, 2)) ∧ (decode cX10_bestAgainst 14 = .ok (.bipush 9, 2) ∧ decode cX10_bestAgainst 16 = .ok (.if_icmp .gt 25, 3))) ∧ ((decode cX10_bestAgainst 19 = .ok (.aload_n 0, 1) ∧ decode cX10_bestAgainst 20 = .ok (.iload 4, 2)) ∧ (decode cX10_bestAgainst 22 = .ok (.iaload, 1) ∧ decode cX10_bestAgainst 23 = .ok (.iload_n 2, 1))))) := by decide +kernel
theorem dX10_bestAgainst_0 : decode cX10_bestAgainst 0 = .ok (.aload_n 0, 1) := dX10_bestAgainst_0_z.1.1.1.1
theorem dX10_bestAgainst_1 : decode cX10_bestAgainst 1 = .ok (.iload_n 1, 1) := dX10_bestAgainst_0_z.1.1.1.2
theorem dX10_bestAgainst_2 : decode cX10_bestAgainst 2 = .ok (.iaload, 1) := dX10_bestAgainst_0_z.1.1.2.1
theorem dX10_bestAgainst_3 : decode cX10_bestAgainst 3 = .ok (.iload_n 2, 1) := dX10_bestAgainst_0_z.1.1.2.2
theorem dX10_bestAgainst_4 : decode cX10_bestAgainst 4 = .ok (.iload_n 1, 1) := dX10_bestAgainst_0_z.1.2.1.1
theorem dX10_bestAgainst_5 : decode cX10_bestAgainst 5 = .ok (.invokestatic 318, 3) := dX10_bestAgainst_0_z.1.2.1.2
theorem dX10_bestAgainst_8 : decode cX10_bestAgainst 8 = .ok (.istore_n 3, 1) := dX10_bestAgainst_0_z.1.2.2.1
theorem dX10_bestAgainst_9 : decode cX10_bestAgainst 9 = .ok (.iconst 0, 1) := dX10_bestAgainst_0_z.1.2.2.2
theorem dX10_bestAgainst_10 : decode cX10_bestAgainst 10 = .ok (.istore 4, 2) := dX10_bestAgainst_0_z.2.1.1.1
theorem dX10_bestAgainst_12 : decode cX10_bestAgainst 12 = .ok (.iload 4, 2) := dX10_bestAgainst_0_z.2.1.1.2
theorem dX10_bestAgainst_14 : decode cX10_bestAgainst 14 = .ok (.bipush 9, 2) := dX10_bestAgainst_0_z.2.1.2.1
theorem dX10_bestAgainst_16 : decode cX10_bestAgainst 16 = .ok (.if_icmp .gt 25, 3) := dX10_bestAgainst_0_z.2.1.2.2
theorem dX10_bestAgainst_19 : decode cX10_bestAgainst 19 = .ok (.aload_n 0, 1) := dX10_bestAgainst_0_z.2.2.1.1
theorem dX10_bestAgainst_20 : decode cX10_bestAgainst 20 = .ok (.iload 4, 2) := dX10_bestAgainst_0_z.2.2.1.2
theorem dX10_bestAgainst_22 : decode cX10_bestAgainst 22 = .ok (.iaload, 1) := dX10_bestAgainst_0_z.2.2.2.1
theorem dX10_bestAgainst_23 : decode cX10_bestAgainst 23 = .ok (.iload_n 2, 1) := dX10_bestAgainst_0_z.2.2.2.2
set_option maxRecDepth 100000 in
theorem dX10_bestAgainst_24_z : ((((decode cX10_bestAgainst 24 = .ok (.iload 4, 2) ∧ decode cX10_bestAgainst 26 = .ok (.invokestatic 318, 3)) ∧ decode cX10_bestAgainst 29 = .ok (.iload_n 3, 1)) ∧ (decode cX10_bestAgainst 30 = .ok (.if_icmp .le 5, 3) ∧ decode cX10_bestAgainst 33 = .ok (.iconst 0, 1))) ∧ (((decode cX10_bestAgainst 34 = .ok (.ireturn, 1) ∧ decode cX10_bestAgainst 35 = .ok (.iinc 4 1, 3)) ∧ decode cX10_bestAgainst 38 = .ok (.goto (-26), 3)) ∧ (decode cX10_bestAgainst 41 = .ok (.iconst 1, 1) ∧ decode cX10_bestAgainst 42 = .ok (.ireturn, 1)))) := by decide +kernel
theorem dX10_bestAgainst_24 : decode cX10_bestAgainst 24 = .ok (.iload 4, 2) := dX10_bestAgainst_24_z.1.1.1.1
theorem dX10_bestAgainst_26 : decode cX10_bestAgainst 26 = .ok (.invokestatic 318, 3) := dX10_bestAgainst_24_z.1.1.1.2
theorem dX10_bestAgainst_29 : decode cX10_bestAgainst 29 = .ok (.iload_n 3, 1) := dX10_bestAgainst_24_z.1.1.2
theorem dX10_bestAgainst_30 : decode cX10_bestAgainst 30 = .ok (.if_icmp .le 5, 3) := dX10_bestAgainst_24_z.1.2.1
theorem dX10_bestAgainst_33 : decode cX10_bestAgainst 33 = .ok (.iconst 0, 1) := dX10_bestAgainst_24_z.1.2.2
theorem dX10_bestAgainst_34 : decode cX10_bestAgainst 34 = .ok (.ireturn, 1) := dX10_bestAgainst_24_z.2.1.1.1
theorem dX10_bestAgainst_35 : decode cX10_bestAgainst 35 = .ok (.iinc 4 1, 3) := dX10_bestAgainst_24_z.2.1.1.2
theorem dX10_bestAgainst_38 : decode cX10_bestAgainst 38 = .ok (.goto (-26), 3) := dX10_bestAgainst_24_z.2.1.2
theorem dX10_bestAgainst_41 : decode cX10_bestAgainst 41 = .ok (.iconst 1, 1) := dX10_bestAgainst_24_z.2.2.1
theorem dX10_bestAgainst_42 : decode cX10_bestAgainst 42 = .ok (.ireturn, 1) := dX10_bestAgainst_24_z.2.2.2
set_option maxRecDepth 100000 in
theorem dX10_truth_0_z : ((((decode cX10_truth 0 = .ok (.aload_n 0, 1) ∧ decode cX10_truth 1 = .ok (.iload_n 1, 1)) ∧ (decode cX10_truth 2 = .ok (.invokevirtual 184, 3) ∧ decode cX10_truth 5 = .ok (.ifCond .eq 11, 3))) ∧ ((decode cX10_truth 8 = .ok (.aload_n 0, 1) ∧ decode cX10_truth 9 = .ok (.iload_n 2, 1)) ∧ (decode cX10_truth 10 = .ok (.invokevirtual 154, 3) ∧ decode cX10_truth 13 = .ok (.ifCond .ne 5, 3)))) ∧ (((decode cX10_truth 16 = .ok (.iconst (-1), 1) ∧ decode cX10_truth 17 = .ok (.ireturn, 1)) ∧ (decode cX10_truth 18 = .ok (.aload_n 0, 1) ∧ decode cX10_truth 19 = .ok (.getfield 49, 3))) ∧ ((decode cX10_truth 22 = .ok (.getfield 171, 3) ∧ decode cX10_truth 25 = .ok (.iload_n 2, 1)) ∧ (decode cX10_truth 26 = .ok (.iaload, 1) ∧ decode cX10_truth 27 = .ok (.istore_n 3, 1))))) := by decide +kernel
theorem dX10_truth_0 : decode cX10_truth 0 = .ok (.aload_n 0, 1) := dX10_truth_0_z.1.1.1.1
theorem dX10_truth_1 : decode cX10_truth 1 = .ok (.iload_n 1, 1) := dX10_truth_0_z.1.1.1.2
theorem dX10_truth_2 : decode cX10_truth 2 = .ok (.invokevirtual 184, 3) := dX10_truth_0_z.1.1.2.1
theorem dX10_truth_5 : decode cX10_truth 5 = .ok (.ifCond .eq 11, 3) := dX10_truth_0_z.1.1.2.2
theorem dX10_truth_8 : decode cX10_truth 8 = .ok (.aload_n 0, 1) := dX10_truth_0_z.1.2.1.1
theorem dX10_truth_9 : decode cX10_truth 9 = .ok (.iload_n 2, 1) := dX10_truth_0_z.1.2.1.2
theorem dX10_truth_10 : decode cX10_truth 10 = .ok (.invokevirtual 154, 3) := dX10_truth_0_z.1.2.2.1
theorem dX10_truth_13 : decode cX10_truth 13 = .ok (.ifCond .ne 5, 3) := dX10_truth_0_z.1.2.2.2
theorem dX10_truth_16 : decode cX10_truth 16 = .ok (.iconst (-1), 1) := dX10_truth_0_z.2.1.1.1
theorem dX10_truth_17 : decode cX10_truth 17 = .ok (.ireturn, 1) := dX10_truth_0_z.2.1.1.2
theorem dX10_truth_18 : decode cX10_truth 18 = .ok (.aload_n 0, 1) := dX10_truth_0_z.2.1.2.1
theorem dX10_truth_19 : decode cX10_truth 19 = .ok (.getfield 49, 3) := dX10_truth_0_z.2.1.2.2
theorem dX10_truth_22 : decode cX10_truth 22 = .ok (.getfield 171, 3) := dX10_truth_0_z.2.2.1.1
theorem dX10_truth_25 : decode cX10_truth 25 = .ok (.iload_n 2, 1) := dX10_truth_0_z.2.2.1.2
theorem dX10_truth_26 : decode cX10_truth 26 = .ok (.iaload, 1) := dX10_truth_0_z.2.2.2.1
theorem dX10_truth_27 : decode cX10_truth 27 = .ok (.istore_n 3, 1) := dX10_truth_0_z.2.2.2.2
set_option maxRecDepth 100000 in
theorem dX10_truth_28_z : ((((decode cX10_truth 28 = .ok (.aload_n 0, 1) ∧ decode cX10_truth 29 = .ok (.getfield 49, 3)) ∧ (decode cX10_truth 32 = .ok (.getfield 193, 3) ∧ decode cX10_truth 35 = .ok (.iload_n 1, 1))) ∧ ((decode cX10_truth 36 = .ok (.iaload, 1) ∧ decode cX10_truth 37 = .ok (.aload_n 0, 1)) ∧ (decode cX10_truth 38 = .ok (.getfield 68, 3) ∧ decode cX10_truth 41 = .ok (.iload_n 1, 1)))) ∧ (((decode cX10_truth 42 = .ok (.iload_n 3, 1) ∧ decode cX10_truth 43 = .ok (.invokevirtual 203, 3)) ∧ (decode cX10_truth 46 = .ok (.imul, 1) ∧ decode cX10_truth 47 = .ok (.iconst 3, 1))) ∧ ((decode cX10_truth 48 = .ok (.idiv, 1) ∧ decode cX10_truth 49 = .ok (.istore 4, 2)) ∧ (decode cX10_truth 51 = .ok (.iload_n 3, 1) ∧ decode cX10_truth 52 = .ok (.iload 4, 2))))) := by decide +kernel
theorem dX10_truth_28 : decode cX10_truth 28 = .ok (.aload_n 0, 1) := dX10_truth_28_z.1.1.1.1
theorem dX10_truth_29 : decode cX10_truth 29 = .ok (.getfield 49, 3) := dX10_truth_28_z.1.1.1.2
theorem dX10_truth_32 : decode cX10_truth 32 = .ok (.getfield 193, 3) := dX10_truth_28_z.1.1.2.1
theorem dX10_truth_35 : decode cX10_truth 35 = .ok (.iload_n 1, 1) := dX10_truth_28_z.1.1.2.2
theorem dX10_truth_36 : decode cX10_truth 36 = .ok (.iaload, 1) := dX10_truth_28_z.1.2.1.1
theorem dX10_truth_37 : decode cX10_truth 37 = .ok (.aload_n 0, 1) := dX10_truth_28_z.1.2.1.2
theorem dX10_truth_38 : decode cX10_truth 38 = .ok (.getfield 68, 3) := dX10_truth_28_z.1.2.2.1
theorem dX10_truth_41 : decode cX10_truth 41 = .ok (.iload_n 1, 1) := dX10_truth_28_z.1.2.2.2
theorem dX10_truth_42 : decode cX10_truth 42 = .ok (.iload_n 3, 1) := dX10_truth_28_z.2.1.1.1
theorem dX10_truth_43 : decode cX10_truth 43 = .ok (.invokevirtual 203, 3) := dX10_truth_28_z.2.1.1.2
theorem dX10_truth_46 : decode cX10_truth 46 = .ok (.imul, 1) := dX10_truth_28_z.2.1.2.1
theorem dX10_truth_47 : decode cX10_truth 47 = .ok (.iconst 3, 1) := dX10_truth_28_z.2.1.2.2
theorem dX10_truth_48 : decode cX10_truth 48 = .ok (.idiv, 1) := dX10_truth_28_z.2.2.1.1
theorem dX10_truth_49 : decode cX10_truth 49 = .ok (.istore 4, 2) := dX10_truth_28_z.2.2.1.2
theorem dX10_truth_51 : decode cX10_truth 51 = .ok (.iload_n 3, 1) := dX10_truth_28_z.2.2.2.1
theorem dX10_truth_52 : decode cX10_truth 52 = .ok (.iload 4, 2) := dX10_truth_28_z.2.2.2.2
set_option maxRecDepth 100000 in
theorem dX10_truth_54_z : (((decode cX10_truth 54 = .ok (.if_icmp .gt 7, 3) ∧ decode cX10_truth 57 = .ok (.iconst 1, 1)) ∧ decode cX10_truth 58 = .ok (.goto 4, 3)) ∧ (decode cX10_truth 61 = .ok (.iconst 0, 1) ∧ decode cX10_truth 62 = .ok (.ireturn, 1))) := by decide +kernel
theorem dX10_truth_54 : decode cX10_truth 54 = .ok (.if_icmp .gt 7, 3) := dX10_truth_54_z.1.1.1
theorem dX10_truth_57 : decode cX10_truth 57 = .ok (.iconst 1, 1) := dX10_truth_54_z.1.1.2
theorem dX10_truth_58 : decode cX10_truth 58 = .ok (.goto 4, 3) := dX10_truth_54_z.1.2
theorem dX10_truth_61 : decode cX10_truth 61 = .ok (.iconst 0, 1) := dX10_truth_54_z.2.1
theorem dX10_truth_62 : decode cX10_truth 62 = .ok (.ireturn, 1) := dX10_truth_54_z.2.2
set_option maxRecDepth 100000 in
theorem dX10_cheapest_0_z : ((((decode cX10_cheapest 0 = .ok (.aload_n 0, 1) ∧ decode cX10_cheapest 1 = .ok (.invokevirtual 141, 3)) ∧ (decode cX10_cheapest 4 = .ok (.ifCond .eq 30, 3) ∧ decode cX10_cheapest 7 = .ok (.iload_n 1, 1))) ∧ ((decode cX10_cheapest 8 = .ok (.iconst 1, 1) ∧ decode cX10_cheapest 9 = .ok (.if_icmp .lt 25, 3)) ∧ (decode cX10_cheapest 12 = .ok (.iload_n 1, 1) ∧ decode cX10_cheapest 13 = .ok (.iconst 1, 1)))) ∧ (((decode cX10_cheapest 14 = .ok (.aload_n 0, 1) ∧ decode cX10_cheapest 15 = .ok (.getfield 37, 3)) ∧ (decode cX10_cheapest 18 = .ok (.getfield 134, 3) ∧ decode cX10_cheapest 21 = .ok (.ishl, 1))) ∧ ((decode cX10_cheapest 22 = .ok (.if_icmp .ge 12, 3) ∧ decode cX10_cheapest 25 = .ok (.iload_n 2, 1)) ∧ (decode cX10_cheapest 26 = .ok (.ifCond .lt 8, 3) ∧ decode cX10_cheapest 29 = .ok (.iload_n 2, 1))))) := by decide +kernel
theorem dX10_cheapest_0 : decode cX10_cheapest 0 = .ok (.aload_n 0, 1) := dX10_cheapest_0_z.1.1.1.1
theorem dX10_cheapest_1 : decode cX10_cheapest 1 = .ok (.invokevirtual 141, 3) := dX10_cheapest_0_z.1.1.1.2
theorem dX10_cheapest_4 : decode cX10_cheapest 4 = .ok (.ifCond .eq 30, 3) := dX10_cheapest_0_z.1.1.2.1
theorem dX10_cheapest_7 : decode cX10_cheapest 7 = .ok (.iload_n 1, 1) := dX10_cheapest_0_z.1.1.2.2
theorem dX10_cheapest_8 : decode cX10_cheapest 8 = .ok (.iconst 1, 1) := dX10_cheapest_0_z.1.2.1.1
theorem dX10_cheapest_9 : decode cX10_cheapest 9 = .ok (.if_icmp .lt 25, 3) := dX10_cheapest_0_z.1.2.1.2
theorem dX10_cheapest_12 : decode cX10_cheapest 12 = .ok (.iload_n 1, 1) := dX10_cheapest_0_z.1.2.2.1
theorem dX10_cheapest_13 : decode cX10_cheapest 13 = .ok (.iconst 1, 1) := dX10_cheapest_0_z.1.2.2.2
theorem dX10_cheapest_14 : decode cX10_cheapest 14 = .ok (.aload_n 0, 1) := dX10_cheapest_0_z.2.1.1.1
theorem dX10_cheapest_15 : decode cX10_cheapest 15 = .ok (.getfield 37, 3) := dX10_cheapest_0_z.2.1.1.2
theorem dX10_cheapest_18 : decode cX10_cheapest 18 = .ok (.getfield 134, 3) := dX10_cheapest_0_z.2.1.2.1
theorem dX10_cheapest_21 : decode cX10_cheapest 21 = .ok (.ishl, 1) := dX10_cheapest_0_z.2.1.2.2
theorem dX10_cheapest_22 : decode cX10_cheapest 22 = .ok (.if_icmp .ge 12, 3) := dX10_cheapest_0_z.2.2.1.1
theorem dX10_cheapest_25 : decode cX10_cheapest 25 = .ok (.iload_n 2, 1) := dX10_cheapest_0_z.2.2.1.2
theorem dX10_cheapest_26 : decode cX10_cheapest 26 = .ok (.ifCond .lt 8, 3) := dX10_cheapest_0_z.2.2.2.1
theorem dX10_cheapest_29 : decode cX10_cheapest 29 = .ok (.iload_n 2, 1) := dX10_cheapest_0_z.2.2.2.2
set_option maxRecDepth 100000 in
theorem dX10_cheapest_30_z : ((((decode cX10_cheapest 30 = .ok (.iconst 1, 1) ∧ decode cX10_cheapest 31 = .ok (.if_icmp .le 5, 3)) ∧ (decode cX10_cheapest 34 = .ok (.iconst (-1), 1) ∧ decode cX10_cheapest 35 = .ok (.ireturn, 1))) ∧ ((decode cX10_cheapest 36 = .ok (.iload_n 1, 1) ∧ decode cX10_cheapest 37 = .ok (.invokestatic 335, 3)) ∧ (decode cX10_cheapest 40 = .ok (.istore_n 3, 1) ∧ decode cX10_cheapest 41 = .ok (.iload_n 3, 1)))) ∧ (((decode cX10_cheapest 42 = .ok (.aload_n 0, 1) ∧ decode cX10_cheapest 43 = .ok (.getfield 37, 3)) ∧ (decode cX10_cheapest 46 = .ok (.getfield 266, 3) ∧ decode cX10_cheapest 49 = .ok (.if_icmp .le 5, 3))) ∧ ((decode cX10_cheapest 52 = .ok (.iconst (-1), 1) ∧ decode cX10_cheapest 53 = .ok (.ireturn, 1)) ∧ (decode cX10_cheapest 54 = .ok (.iconst 0, 1) ∧ decode cX10_cheapest 55 = .ok (.istore 4, 2))))) := by decide +kernel
theorem dX10_cheapest_30 : decode cX10_cheapest 30 = .ok (.iconst 1, 1) := dX10_cheapest_30_z.1.1.1.1
theorem dX10_cheapest_31 : decode cX10_cheapest 31 = .ok (.if_icmp .le 5, 3) := dX10_cheapest_30_z.1.1.1.2
theorem dX10_cheapest_34 : decode cX10_cheapest 34 = .ok (.iconst (-1), 1) := dX10_cheapest_30_z.1.1.2.1
theorem dX10_cheapest_35 : decode cX10_cheapest 35 = .ok (.ireturn, 1) := dX10_cheapest_30_z.1.1.2.2
theorem dX10_cheapest_36 : decode cX10_cheapest 36 = .ok (.iload_n 1, 1) := dX10_cheapest_30_z.1.2.1.1
theorem dX10_cheapest_37 : decode cX10_cheapest 37 = .ok (.invokestatic 335, 3) := dX10_cheapest_30_z.1.2.1.2
theorem dX10_cheapest_40 : decode cX10_cheapest 40 = .ok (.istore_n 3, 1) := dX10_cheapest_30_z.1.2.2.1
theorem dX10_cheapest_41 : decode cX10_cheapest 41 = .ok (.iload_n 3, 1) := dX10_cheapest_30_z.1.2.2.2
theorem dX10_cheapest_42 : decode cX10_cheapest 42 = .ok (.aload_n 0, 1) := dX10_cheapest_30_z.2.1.1.1
theorem dX10_cheapest_43 : decode cX10_cheapest 43 = .ok (.getfield 37, 3) := dX10_cheapest_30_z.2.1.1.2
theorem dX10_cheapest_46 : decode cX10_cheapest 46 = .ok (.getfield 266, 3) := dX10_cheapest_30_z.2.1.2.1
theorem dX10_cheapest_49 : decode cX10_cheapest 49 = .ok (.if_icmp .le 5, 3) := dX10_cheapest_30_z.2.1.2.2
theorem dX10_cheapest_52 : decode cX10_cheapest 52 = .ok (.iconst (-1), 1) := dX10_cheapest_30_z.2.2.1.1
theorem dX10_cheapest_53 : decode cX10_cheapest 53 = .ok (.ireturn, 1) := dX10_cheapest_30_z.2.2.1.2
theorem dX10_cheapest_54 : decode cX10_cheapest 54 = .ok (.iconst 0, 1) := dX10_cheapest_30_z.2.2.2.1
theorem dX10_cheapest_55 : decode cX10_cheapest 55 = .ok (.istore 4, 2) := dX10_cheapest_30_z.2.2.2.2
set_option maxRecDepth 100000 in
theorem dX10_cheapest_57_z : ((((decode cX10_cheapest 57 = .ok (.iconst 0, 1) ∧ decode cX10_cheapest 58 = .ok (.istore 5, 2)) ∧ (decode cX10_cheapest 60 = .ok (.iconst 0, 1) ∧ decode cX10_cheapest 61 = .ok (.istore 6, 2))) ∧ ((decode cX10_cheapest 63 = .ok (.iload 6, 2) ∧ decode cX10_cheapest 65 = .ok (.aload_n 0, 1)) ∧ (decode cX10_cheapest 66 = .ok (.getfield 37, 3) ∧ decode cX10_cheapest 69 = .ok (.getfield 266, 3)))) ∧ (((decode cX10_cheapest 72 = .ok (.if_icmp .ge 46, 3) ∧ decode cX10_cheapest 75 = .ok (.aload_n 0, 1)) ∧ (decode cX10_cheapest 76 = .ok (.getfield 37, 3) ∧ decode cX10_cheapest 79 = .ok (.iload 6, 2))) ∧ ((decode cX10_cheapest 81 = .ok (.invokevirtual 340, 3) ∧ decode cX10_cheapest 84 = .ok (.iload_n 3, 1)) ∧ (decode cX10_cheapest 85 = .ok (.if_icmp .ge 27, 3) ∧ decode cX10_cheapest 88 = .ok (.iload 4, 2))))) := by decide +kernel
theorem dX10_cheapest_57 : decode cX10_cheapest 57 = .ok (.iconst 0, 1) := dX10_cheapest_57_z.1.1.1.1
theorem dX10_cheapest_58 : decode cX10_cheapest 58 = .ok (.istore 5, 2) := dX10_cheapest_57_z.1.1.1.2
theorem dX10_cheapest_60 : decode cX10_cheapest 60 = .ok (.iconst 0, 1) := dX10_cheapest_57_z.1.1.2.1
theorem dX10_cheapest_61 : decode cX10_cheapest 61 = .ok (.istore 6, 2) := dX10_cheapest_57_z.1.1.2.2
theorem dX10_cheapest_63 : decode cX10_cheapest 63 = .ok (.iload 6, 2) := dX10_cheapest_57_z.1.2.1.1
theorem dX10_cheapest_65 : decode cX10_cheapest 65 = .ok (.aload_n 0, 1) := dX10_cheapest_57_z.1.2.1.2
theorem dX10_cheapest_66 : decode cX10_cheapest 66 = .ok (.getfield 37, 3) := dX10_cheapest_57_z.1.2.2.1
theorem dX10_cheapest_69 : decode cX10_cheapest 69 = .ok (.getfield 266, 3) := dX10_cheapest_57_z.1.2.2.2
theorem dX10_cheapest_72 : decode cX10_cheapest 72 = .ok (.if_icmp .ge 46, 3) := dX10_cheapest_57_z.2.1.1.1
theorem dX10_cheapest_75 : decode cX10_cheapest 75 = .ok (.aload_n 0, 1) := dX10_cheapest_57_z.2.1.1.2
theorem dX10_cheapest_76 : decode cX10_cheapest 76 = .ok (.getfield 37, 3) := dX10_cheapest_57_z.2.1.2.1
theorem dX10_cheapest_79 : decode cX10_cheapest 79 = .ok (.iload 6, 2) := dX10_cheapest_57_z.2.1.2.2
theorem dX10_cheapest_81 : decode cX10_cheapest 81 = .ok (.invokevirtual 340, 3) := dX10_cheapest_57_z.2.2.1.1
theorem dX10_cheapest_84 : decode cX10_cheapest 84 = .ok (.iload_n 3, 1) := dX10_cheapest_57_z.2.2.1.2
theorem dX10_cheapest_85 : decode cX10_cheapest 85 = .ok (.if_icmp .ge 27, 3) := dX10_cheapest_57_z.2.2.2.1
theorem dX10_cheapest_88 : decode cX10_cheapest 88 = .ok (.iload 4, 2) := dX10_cheapest_57_z.2.2.2.2
set_option maxRecDepth 100000 in
theorem dX10_cheapest_90_z : ((((decode cX10_cheapest 90 = .ok (.aload_n 0, 1) ∧ decode cX10_cheapest 91 = .ok (.getfield 37, 3)) ∧ (decode cX10_cheapest 94 = .ok (.iload 6, 2) ∧ decode cX10_cheapest 96 = .ok (.invokevirtual 190, 3))) ∧ ((decode cX10_cheapest 99 = .ok (.iadd, 1) ∧ decode cX10_cheapest 100 = .ok (.istore 4, 2)) ∧ (decode cX10_cheapest 102 = .ok (.bipush 10, 2) ∧ decode cX10_cheapest 104 = .ok (.iload 5, 2)))) ∧ (((decode cX10_cheapest 106 = .ok (.imul, 1) ∧ decode cX10_cheapest 107 = .ok (.iload 6, 2)) ∧ (decode cX10_cheapest 109 = .ok (.iadd, 1) ∧ decode cX10_cheapest 110 = .ok (.istore 5, 2))) ∧ ((decode cX10_cheapest 112 = .ok (.iinc 6 1, 3) ∧ decode cX10_cheapest 115 = .ok (.goto (-52), 3)) ∧ (decode cX10_cheapest 118 = .ok (.iload_n 2, 1) ∧ decode cX10_cheapest 119 = .ok (.ifCond .ne 8, 3))))) := by decide +kernel
theorem dX10_cheapest_90 : decode cX10_cheapest 90 = .ok (.aload_n 0, 1) := dX10_cheapest_90_z.1.1.1.1
theorem dX10_cheapest_91 : decode cX10_cheapest 91 = .ok (.getfield 37, 3) := dX10_cheapest_90_z.1.1.1.2
theorem dX10_cheapest_94 : decode cX10_cheapest 94 = .ok (.iload 6, 2) := dX10_cheapest_90_z.1.1.2.1
theorem dX10_cheapest_96 : decode cX10_cheapest 96 = .ok (.invokevirtual 190, 3) := dX10_cheapest_90_z.1.1.2.2
theorem dX10_cheapest_99 : decode cX10_cheapest 99 = .ok (.iadd, 1) := dX10_cheapest_90_z.1.2.1.1
theorem dX10_cheapest_100 : decode cX10_cheapest 100 = .ok (.istore 4, 2) := dX10_cheapest_90_z.1.2.1.2
theorem dX10_cheapest_102 : decode cX10_cheapest 102 = .ok (.bipush 10, 2) := dX10_cheapest_90_z.1.2.2.1
theorem dX10_cheapest_104 : decode cX10_cheapest 104 = .ok (.iload 5, 2) := dX10_cheapest_90_z.1.2.2.2
theorem dX10_cheapest_106 : decode cX10_cheapest 106 = .ok (.imul, 1) := dX10_cheapest_90_z.2.1.1.1
theorem dX10_cheapest_107 : decode cX10_cheapest 107 = .ok (.iload 6, 2) := dX10_cheapest_90_z.2.1.1.2
theorem dX10_cheapest_109 : decode cX10_cheapest 109 = .ok (.iadd, 1) := dX10_cheapest_90_z.2.1.2.1
theorem dX10_cheapest_110 : decode cX10_cheapest 110 = .ok (.istore 5, 2) := dX10_cheapest_90_z.2.1.2.2
theorem dX10_cheapest_112 : decode cX10_cheapest 112 = .ok (.iinc 6 1, 3) := dX10_cheapest_90_z.2.2.1.1
theorem dX10_cheapest_115 : decode cX10_cheapest 115 = .ok (.goto (-52), 3) := dX10_cheapest_90_z.2.2.1.2
theorem dX10_cheapest_118 : decode cX10_cheapest 118 = .ok (.iload_n 2, 1) := dX10_cheapest_90_z.2.2.2.1
theorem dX10_cheapest_119 : decode cX10_cheapest 119 = .ok (.ifCond .ne 8, 3) := dX10_cheapest_90_z.2.2.2.2
set_option maxRecDepth 100000 in
theorem dX10_cheapest_122_z : ((decode cX10_cheapest 122 = .ok (.iload 4, 2) ∧ decode cX10_cheapest 124 = .ok (.goto 5, 3)) ∧ (decode cX10_cheapest 127 = .ok (.iload 5, 2) ∧ decode cX10_cheapest 129 = .ok (.ireturn, 1))) := by decide +kernel
theorem dX10_cheapest_122 : decode cX10_cheapest 122 = .ok (.iload 4, 2) := dX10_cheapest_122_z.1.1
theorem dX10_cheapest_124 : decode cX10_cheapest 124 = .ok (.goto 5, 3) := dX10_cheapest_122_z.1.2
theorem dX10_cheapest_127 : decode cX10_cheapest 127 = .ok (.iload 5, 2) := dX10_cheapest_122_z.2.1
theorem dX10_cheapest_129 : decode cX10_cheapest 129 = .ok (.ireturn, 1) := dX10_cheapest_122_z.2.2
set_option maxRecDepth 100000 in
theorem dX10_looks_0_z : ((((decode cX10_looks 0 = .ok (.aload_n 0, 1) ∧ decode cX10_looks 1 = .ok (.iload_n 1, 1)) ∧ (decode cX10_looks 2 = .ok (.invokevirtual 154, 3) ∧ decode cX10_looks 5 = .ok (.ifCond .eq 14, 3))) ∧ ((decode cX10_looks 8 = .ok (.aload_n 0, 1) ∧ decode cX10_looks 9 = .ok (.getfield 49, 3)) ∧ (decode cX10_looks 12 = .ok (.iload_n 1, 1) ∧ decode cX10_looks 13 = .ok (.invokevirtual 343, 3)))) ∧ (((decode cX10_looks 16 = .ok (.ifCond .ne 7, 3) ∧ decode cX10_looks 19 = .ok (.ldc_w 313, 3)) ∧ (decode cX10_looks 22 = .ok (.ireturn, 1) ∧ decode cX10_looks 23 = .ok (.aload_n 0, 1))) ∧ ((decode cX10_looks 24 = .ok (.iload_n 1, 1) ∧ decode cX10_looks 25 = .ok (.invokevirtual 245, 3)) ∧ (decode cX10_looks 28 = .ok (.aload_n 0, 1) ∧ decode cX10_looks 29 = .ok (.getfield 37, 3))))) := by decide +kernel
theorem dX10_looks_0 : decode cX10_looks 0 = .ok (.aload_n 0, 1) := dX10_looks_0_z.1.1.1.1
theorem dX10_looks_1 : decode cX10_looks 1 = .ok (.iload_n 1, 1) := dX10_looks_0_z.1.1.1.2
theorem dX10_looks_2 : decode cX10_looks 2 = .ok (.invokevirtual 154, 3) := dX10_looks_0_z.1.1.2.1
theorem dX10_looks_5 : decode cX10_looks 5 = .ok (.ifCond .eq 14, 3) := dX10_looks_0_z.1.1.2.2
theorem dX10_looks_8 : decode cX10_looks 8 = .ok (.aload_n 0, 1) := dX10_looks_0_z.1.2.1.1
theorem dX10_looks_9 : decode cX10_looks 9 = .ok (.getfield 49, 3) := dX10_looks_0_z.1.2.1.2
theorem dX10_looks_12 : decode cX10_looks 12 = .ok (.iload_n 1, 1) := dX10_looks_0_z.1.2.2.1
theorem dX10_looks_13 : decode cX10_looks 13 = .ok (.invokevirtual 343, 3) := dX10_looks_0_z.1.2.2.2
theorem dX10_looks_16 : decode cX10_looks 16 = .ok (.ifCond .ne 7, 3) := dX10_looks_0_z.2.1.1.1
theorem dX10_looks_19 : decode cX10_looks 19 = .ok (.ldc_w 313, 3) := dX10_looks_0_z.2.1.1.2
theorem dX10_looks_22 : decode cX10_looks 22 = .ok (.ireturn, 1) := dX10_looks_0_z.2.1.2.1
theorem dX10_looks_23 : decode cX10_looks 23 = .ok (.aload_n 0, 1) := dX10_looks_0_z.2.1.2.2
theorem dX10_looks_24 : decode cX10_looks 24 = .ok (.iload_n 1, 1) := dX10_looks_0_z.2.2.1.1
theorem dX10_looks_25 : decode cX10_looks 25 = .ok (.invokevirtual 245, 3) := dX10_looks_0_z.2.2.1.2
theorem dX10_looks_28 : decode cX10_looks 28 = .ok (.aload_n 0, 1) := dX10_looks_0_z.2.2.2.1
theorem dX10_looks_29 : decode cX10_looks 29 = .ok (.getfield 37, 3) := dX10_looks_0_z.2.2.2.2
set_option maxRecDepth 100000 in
theorem dX10_looks_32_z : ((decode cX10_looks 32 = .ok (.iload_n 1, 1) ∧ decode cX10_looks 33 = .ok (.invokevirtual 161, 3)) ∧ (decode cX10_looks 36 = .ok (.isub, 1) ∧ decode cX10_looks 37 = .ok (.ireturn, 1))) := by decide +kernel
theorem dX10_looks_32 : decode cX10_looks 32 = .ok (.iload_n 1, 1) := dX10_looks_32_z.1.1
theorem dX10_looks_33 : decode cX10_looks 33 = .ok (.invokevirtual 161, 3) := dX10_looks_32_z.1.2
theorem dX10_looks_36 : decode cX10_looks 36 = .ok (.isub, 1) := dX10_looks_32_z.2.1
theorem dX10_looks_37 : decode cX10_looks 37 = .ok (.ireturn, 1) := dX10_looks_32_z.2.2
set_option maxRecDepth 100000 in
theorem dX10_whose_0_z : ((((decode cX10_whose 0 = .ok (.aload_n 0, 1) ∧ decode cX10_whose 1 = .ok (.iload_n 1, 1)) ∧ (decode cX10_whose 2 = .ok (.invokevirtual 184, 3) ∧ decode cX10_whose 5 = .ok (.ifCond .eq 10, 3))) ∧ ((decode cX10_whose 8 = .ok (.iload_n 2, 1) ∧ decode cX10_whose 9 = .ok (.invokestatic 230, 3)) ∧ (decode cX10_whose 12 = .ok (.ifCond .ne 5, 3) ∧ decode cX10_whose 15 = .ok (.iconst (-1), 1)))) ∧ (((decode cX10_whose 16 = .ok (.ireturn, 1) ∧ decode cX10_whose 17 = .ok (.iconst 0, 1)) ∧ (decode cX10_whose 18 = .ok (.istore_n 3, 1) ∧ decode cX10_whose 19 = .ok (.iconst 0, 1))) ∧ ((decode cX10_whose 20 = .ok (.istore 4, 2) ∧ decode cX10_whose 22 = .ok (.iload 4, 2)) ∧ (decode cX10_whose 24 = .ok (.aload_n 0, 1) ∧ decode cX10_whose 25 = .ok (.getfield 37, 3))))) := by decide +kernel
theorem dX10_whose_0 : decode cX10_whose 0 = .ok (.aload_n 0, 1) := dX10_whose_0_z.1.1.1.1
theorem dX10_whose_1 : decode cX10_whose 1 = .ok (.iload_n 1, 1) := dX10_whose_0_z.1.1.1.2
theorem dX10_whose_2 : decode cX10_whose 2 = .ok (.invokevirtual 184, 3) := dX10_whose_0_z.1.1.2.1
theorem dX10_whose_5 : decode cX10_whose 5 = .ok (.ifCond .eq 10, 3) := dX10_whose_0_z.1.1.2.2
theorem dX10_whose_8 : decode cX10_whose 8 = .ok (.iload_n 2, 1) := dX10_whose_0_z.1.2.1.1
theorem dX10_whose_9 : decode cX10_whose 9 = .ok (.invokestatic 230, 3) := dX10_whose_0_z.1.2.1.2
theorem dX10_whose_12 : decode cX10_whose 12 = .ok (.ifCond .ne 5, 3) := dX10_whose_0_z.1.2.2.1
theorem dX10_whose_15 : decode cX10_whose 15 = .ok (.iconst (-1), 1) := dX10_whose_0_z.1.2.2.2
theorem dX10_whose_16 : decode cX10_whose 16 = .ok (.ireturn, 1) := dX10_whose_0_z.2.1.1.1
theorem dX10_whose_17 : decode cX10_whose 17 = .ok (.iconst 0, 1) := dX10_whose_0_z.2.1.1.2
theorem dX10_whose_18 : decode cX10_whose 18 = .ok (.istore_n 3, 1) := dX10_whose_0_z.2.1.2.1
theorem dX10_whose_19 : decode cX10_whose 19 = .ok (.iconst 0, 1) := dX10_whose_0_z.2.1.2.2
theorem dX10_whose_20 : decode cX10_whose 20 = .ok (.istore 4, 2) := dX10_whose_0_z.2.2.1.1
theorem dX10_whose_22 : decode cX10_whose 22 = .ok (.iload 4, 2) := dX10_whose_0_z.2.2.1.2
theorem dX10_whose_24 : decode cX10_whose 24 = .ok (.aload_n 0, 1) := dX10_whose_0_z.2.2.2.1
theorem dX10_whose_25 : decode cX10_whose 25 = .ok (.getfield 37, 3) := dX10_whose_0_z.2.2.2.2
set_option maxRecDepth 100000 in
theorem dX10_whose_28_z : ((((decode cX10_whose 28 = .ok (.getfield 134, 3) ∧ decode cX10_whose 31 = .ok (.if_icmp .ge 39, 3)) ∧ (decode cX10_whose 34 = .ok (.aload_n 0, 1) ∧ decode cX10_whose 35 = .ok (.getfield 68, 3))) ∧ ((decode cX10_whose 38 = .ok (.iload_n 1, 1) ∧ decode cX10_whose 39 = .ok (.iload 4, 2)) ∧ (decode cX10_whose 41 = .ok (.aload_n 0, 1) ∧ decode cX10_whose 42 = .ok (.getfield 37, 3)))) ∧ (((decode cX10_whose 45 = .ok (.iload 4, 2) ∧ decode cX10_whose 47 = .ok (.invokevirtual 161, 3)) ∧ (decode cX10_whose 50 = .ok (.invokevirtual 209, 3) ∧ decode cX10_whose 53 = .ok (.iload_n 2, 1))) ∧ ((decode cX10_whose 54 = .ok (.if_icmp .ne 10, 3) ∧ decode cX10_whose 57 = .ok (.iload_n 3, 1)) ∧ (decode cX10_whose 58 = .ok (.iconst 1, 1) ∧ decode cX10_whose 59 = .ok (.iload 4, 2))))) := by decide +kernel
theorem dX10_whose_28 : decode cX10_whose 28 = .ok (.getfield 134, 3) := dX10_whose_28_z.1.1.1.1
theorem dX10_whose_31 : decode cX10_whose 31 = .ok (.if_icmp .ge 39, 3) := dX10_whose_28_z.1.1.1.2
theorem dX10_whose_34 : decode cX10_whose 34 = .ok (.aload_n 0, 1) := dX10_whose_28_z.1.1.2.1
theorem dX10_whose_35 : decode cX10_whose 35 = .ok (.getfield 68, 3) := dX10_whose_28_z.1.1.2.2
theorem dX10_whose_38 : decode cX10_whose 38 = .ok (.iload_n 1, 1) := dX10_whose_28_z.1.2.1.1
theorem dX10_whose_39 : decode cX10_whose 39 = .ok (.iload 4, 2) := dX10_whose_28_z.1.2.1.2
theorem dX10_whose_41 : decode cX10_whose 41 = .ok (.aload_n 0, 1) := dX10_whose_28_z.1.2.2.1
theorem dX10_whose_42 : decode cX10_whose 42 = .ok (.getfield 37, 3) := dX10_whose_28_z.1.2.2.2
theorem dX10_whose_45 : decode cX10_whose 45 = .ok (.iload 4, 2) := dX10_whose_28_z.2.1.1.1
theorem dX10_whose_47 : decode cX10_whose 47 = .ok (.invokevirtual 161, 3) := dX10_whose_28_z.2.1.1.2
theorem dX10_whose_50 : decode cX10_whose 50 = .ok (.invokevirtual 209, 3) := dX10_whose_28_z.2.1.2.1
theorem dX10_whose_53 : decode cX10_whose 53 = .ok (.iload_n 2, 1) := dX10_whose_28_z.2.1.2.2
theorem dX10_whose_54 : decode cX10_whose 54 = .ok (.if_icmp .ne 10, 3) := dX10_whose_28_z.2.2.1.1
theorem dX10_whose_57 : decode cX10_whose 57 = .ok (.iload_n 3, 1) := dX10_whose_28_z.2.2.1.2
theorem dX10_whose_58 : decode cX10_whose 58 = .ok (.iconst 1, 1) := dX10_whose_28_z.2.2.2.1
theorem dX10_whose_59 : decode cX10_whose 59 = .ok (.iload 4, 2) := dX10_whose_28_z.2.2.2.2
set_option maxRecDepth 100000 in
theorem dX10_whose_61_z : (((decode cX10_whose 61 = .ok (.ishl, 1) ∧ decode cX10_whose 62 = .ok (.ior, 1)) ∧ (decode cX10_whose 63 = .ok (.istore_n 3, 1) ∧ decode cX10_whose 64 = .ok (.iinc 4 1, 3))) ∧ ((decode cX10_whose 67 = .ok (.goto (-45), 3) ∧ decode cX10_whose 70 = .ok (.iload_n 3, 1)) ∧ decode cX10_whose 71 = .ok (.ireturn, 1))) := by decide +kernel
theorem dX10_whose_61 : decode cX10_whose 61 = .ok (.ishl, 1) := dX10_whose_61_z.1.1.1
theorem dX10_whose_62 : decode cX10_whose 62 = .ok (.ior, 1) := dX10_whose_61_z.1.1.2
theorem dX10_whose_63 : decode cX10_whose 63 = .ok (.istore_n 3, 1) := dX10_whose_61_z.1.2.1
theorem dX10_whose_64 : decode cX10_whose 64 = .ok (.iinc 4 1, 3) := dX10_whose_61_z.1.2.2
theorem dX10_whose_67 : decode cX10_whose 67 = .ok (.goto (-45), 3) := dX10_whose_61_z.2.1.1
theorem dX10_whose_70 : decode cX10_whose 70 = .ok (.iload_n 3, 1) := dX10_whose_61_z.2.1.2
theorem dX10_whose_71 : decode cX10_whose 71 = .ok (.ireturn, 1) := dX10_whose_61_z.2.2
set_option maxRecDepth 100000 in
theorem dX10_heads_0_z : ((((decode cX10_heads 0 = .ok (.aload_n 0, 1) ∧ decode cX10_heads 1 = .ok (.iload_n 1, 1)) ∧ (decode cX10_heads 2 = .ok (.invokevirtual 184, 3) ∧ decode cX10_heads 5 = .ok (.ifCond .eq 23, 3))) ∧ ((decode cX10_heads 8 = .ok (.iload_n 2, 1) ∧ decode cX10_heads 9 = .ok (.ifCond .lt 19, 3)) ∧ (decode cX10_heads 12 = .ok (.iload_n 2, 1) ∧ decode cX10_heads 13 = .ok (.bipush 20, 2)))) ∧ (((decode cX10_heads 15 = .ok (.if_icmp .gt 13, 3) ∧ decode cX10_heads 18 = .ok (.iload_n 3, 1)) ∧ (decode cX10_heads 19 = .ok (.ifCond .lt 9, 3) ∧ decode cX10_heads 22 = .ok (.iload_n 3, 1))) ∧ ((decode cX10_heads 23 = .ok (.bipush 100, 2) ∧ decode cX10_heads 25 = .ok (.if_icmp .le 5, 3)) ∧ (decode cX10_heads 28 = .ok (.iconst (-1), 1) ∧ decode cX10_heads 29 = .ok (.ireturn, 1))))) := by decide +kernel
theorem dX10_heads_0 : decode cX10_heads 0 = .ok (.aload_n 0, 1) := dX10_heads_0_z.1.1.1.1
theorem dX10_heads_1 : decode cX10_heads 1 = .ok (.iload_n 1, 1) := dX10_heads_0_z.1.1.1.2
theorem dX10_heads_2 : decode cX10_heads 2 = .ok (.invokevirtual 184, 3) := dX10_heads_0_z.1.1.2.1
theorem dX10_heads_5 : decode cX10_heads 5 = .ok (.ifCond .eq 23, 3) := dX10_heads_0_z.1.1.2.2
theorem dX10_heads_8 : decode cX10_heads 8 = .ok (.iload_n 2, 1) := dX10_heads_0_z.1.2.1.1
theorem dX10_heads_9 : decode cX10_heads 9 = .ok (.ifCond .lt 19, 3) := dX10_heads_0_z.1.2.1.2
theorem dX10_heads_12 : decode cX10_heads 12 = .ok (.iload_n 2, 1) := dX10_heads_0_z.1.2.2.1
theorem dX10_heads_13 : decode cX10_heads 13 = .ok (.bipush 20, 2) := dX10_heads_0_z.1.2.2.2
theorem dX10_heads_15 : decode cX10_heads 15 = .ok (.if_icmp .gt 13, 3) := dX10_heads_0_z.2.1.1.1
theorem dX10_heads_18 : decode cX10_heads 18 = .ok (.iload_n 3, 1) := dX10_heads_0_z.2.1.1.2
theorem dX10_heads_19 : decode cX10_heads 19 = .ok (.ifCond .lt 9, 3) := dX10_heads_0_z.2.1.2.1
theorem dX10_heads_22 : decode cX10_heads 22 = .ok (.iload_n 3, 1) := dX10_heads_0_z.2.1.2.2
theorem dX10_heads_23 : decode cX10_heads 23 = .ok (.bipush 100, 2) := dX10_heads_0_z.2.2.1.1
theorem dX10_heads_25 : decode cX10_heads 25 = .ok (.if_icmp .le 5, 3) := dX10_heads_0_z.2.2.1.2
theorem dX10_heads_28 : decode cX10_heads 28 = .ok (.iconst (-1), 1) := dX10_heads_0_z.2.2.2.1
theorem dX10_heads_29 : decode cX10_heads 29 = .ok (.ireturn, 1) := dX10_heads_0_z.2.2.2.2
set_option maxRecDepth 100000 in
theorem dX10_heads_30_z : ((((decode cX10_heads 30 = .ok (.aload_n 0, 1) ∧ decode cX10_heads 31 = .ok (.getfield 49, 3)) ∧ (decode cX10_heads 34 = .ok (.getfield 193, 3) ∧ decode cX10_heads 37 = .ok (.iload_n 1, 1))) ∧ ((decode cX10_heads 38 = .ok (.iaload, 1) ∧ decode cX10_heads 39 = .ok (.iconst 5, 1)) ∧ (decode cX10_heads 40 = .ok (.if_icmp .le 9, 3) ∧ decode cX10_heads 43 = .ok (.iload_n 3, 1)))) ∧ (((decode cX10_heads 44 = .ok (.iconst 2, 1) ∧ decode cX10_heads 45 = .ok (.idiv, 1)) ∧ (decode cX10_heads 46 = .ok (.goto 4, 3) ∧ decode cX10_heads 49 = .ok (.iload_n 3, 1))) ∧ ((decode cX10_heads 50 = .ok (.istore 4, 2) ∧ decode cX10_heads 52 = .ok (.ldc2_w 346, 3)) ∧ (decode cX10_heads 55 = .ok (.lstore 5, 2) ∧ decode cX10_heads 57 = .ok (.iconst 0, 1))))) := by decide +kernel
theorem dX10_heads_30 : decode cX10_heads 30 = .ok (.aload_n 0, 1) := dX10_heads_30_z.1.1.1.1
theorem dX10_heads_31 : decode cX10_heads 31 = .ok (.getfield 49, 3) := dX10_heads_30_z.1.1.1.2
theorem dX10_heads_34 : decode cX10_heads 34 = .ok (.getfield 193, 3) := dX10_heads_30_z.1.1.2.1
theorem dX10_heads_37 : decode cX10_heads 37 = .ok (.iload_n 1, 1) := dX10_heads_30_z.1.1.2.2
theorem dX10_heads_38 : decode cX10_heads 38 = .ok (.iaload, 1) := dX10_heads_30_z.1.2.1.1
theorem dX10_heads_39 : decode cX10_heads 39 = .ok (.iconst 5, 1) := dX10_heads_30_z.1.2.1.2
theorem dX10_heads_40 : decode cX10_heads 40 = .ok (.if_icmp .le 9, 3) := dX10_heads_30_z.1.2.2.1
theorem dX10_heads_43 : decode cX10_heads 43 = .ok (.iload_n 3, 1) := dX10_heads_30_z.1.2.2.2
theorem dX10_heads_44 : decode cX10_heads 44 = .ok (.iconst 2, 1) := dX10_heads_30_z.2.1.1.1
theorem dX10_heads_45 : decode cX10_heads 45 = .ok (.idiv, 1) := dX10_heads_30_z.2.1.1.2
theorem dX10_heads_46 : decode cX10_heads 46 = .ok (.goto 4, 3) := dX10_heads_30_z.2.1.2.1
theorem dX10_heads_49 : decode cX10_heads 49 = .ok (.iload_n 3, 1) := dX10_heads_30_z.2.1.2.2
theorem dX10_heads_50 : decode cX10_heads 50 = .ok (.istore 4, 2) := dX10_heads_30_z.2.2.1.1
theorem dX10_heads_52 : decode cX10_heads 52 = .ok (.ldc2_w 346, 3) := dX10_heads_30_z.2.2.1.2
theorem dX10_heads_55 : decode cX10_heads 55 = .ok (.lstore 5, 2) := dX10_heads_30_z.2.2.2.1
theorem dX10_heads_57 : decode cX10_heads 57 = .ok (.iconst 0, 1) := dX10_heads_30_z.2.2.2.2
set_option maxRecDepth 100000 in
theorem dX10_heads_58_z : ((((decode cX10_heads 58 = .ok (.istore 7, 2) ∧ decode cX10_heads 60 = .ok (.iload 7, 2)) ∧ (decode cX10_heads 62 = .ok (.iload_n 2, 1) ∧ decode cX10_heads 63 = .ok (.if_icmp .ge 24, 3))) ∧ ((decode cX10_heads 66 = .ok (.lload 5, 2) ∧ decode cX10_heads 68 = .ok (.lload 5, 2)) ∧ (decode cX10_heads 70 = .ok (.iload 4, 2) ∧ decode cX10_heads 72 = .ok (.i2l, 1)))) ∧ (((decode cX10_heads 73 = .ok (.lmul, 1) ∧ decode cX10_heads 74 = .ok (.ldc2_w 348, 3)) ∧ (decode cX10_heads 77 = .ok (.ldiv, 1) ∧ decode cX10_heads 78 = .ok (.lsub, 1))) ∧ ((decode cX10_heads 79 = .ok (.lstore 5, 2) ∧ decode cX10_heads 81 = .ok (.iinc 7 1, 3)) ∧ (decode cX10_heads 84 = .ok (.goto (-24), 3) ∧ decode cX10_heads 87 = .ok (.lload 5, 2))))) := by decide +kernel
theorem dX10_heads_58 : decode cX10_heads 58 = .ok (.istore 7, 2) := dX10_heads_58_z.1.1.1.1
theorem dX10_heads_60 : decode cX10_heads 60 = .ok (.iload 7, 2) := dX10_heads_58_z.1.1.1.2
theorem dX10_heads_62 : decode cX10_heads 62 = .ok (.iload_n 2, 1) := dX10_heads_58_z.1.1.2.1
theorem dX10_heads_63 : decode cX10_heads 63 = .ok (.if_icmp .ge 24, 3) := dX10_heads_58_z.1.1.2.2
theorem dX10_heads_66 : decode cX10_heads 66 = .ok (.lload 5, 2) := dX10_heads_58_z.1.2.1.1
theorem dX10_heads_68 : decode cX10_heads 68 = .ok (.lload 5, 2) := dX10_heads_58_z.1.2.1.2
theorem dX10_heads_70 : decode cX10_heads 70 = .ok (.iload 4, 2) := dX10_heads_58_z.1.2.2.1
theorem dX10_heads_72 : decode cX10_heads 72 = .ok (.i2l, 1) := dX10_heads_58_z.1.2.2.2
theorem dX10_heads_73 : decode cX10_heads 73 = .ok (.lmul, 1) := dX10_heads_58_z.2.1.1.1
theorem dX10_heads_74 : decode cX10_heads 74 = .ok (.ldc2_w 348, 3) := dX10_heads_58_z.2.1.1.2
theorem dX10_heads_77 : decode cX10_heads 77 = .ok (.ldiv, 1) := dX10_heads_58_z.2.1.2.1
theorem dX10_heads_78 : decode cX10_heads 78 = .ok (.lsub, 1) := dX10_heads_58_z.2.1.2.2
theorem dX10_heads_79 : decode cX10_heads 79 = .ok (.lstore 5, 2) := dX10_heads_58_z.2.2.1.1
theorem dX10_heads_81 : decode cX10_heads 81 = .ok (.iinc 7 1, 3) := dX10_heads_58_z.2.2.1.2
theorem dX10_heads_84 : decode cX10_heads 84 = .ok (.goto (-24), 3) := dX10_heads_58_z.2.2.2.1
theorem dX10_heads_87 : decode cX10_heads 87 = .ok (.lload 5, 2) := dX10_heads_58_z.2.2.2.2
set_option maxRecDepth 100000 in
theorem dX10_heads_89_z : (decode cX10_heads 89 = .ok (.l2i, 1) ∧ decode cX10_heads 90 = .ok (.ireturn, 1)) := by decide +kernel
theorem dX10_heads_89 : decode cX10_heads 89 = .ok (.l2i, 1) := dX10_heads_89_z.1
theorem dX10_heads_90 : decode cX10_heads 90 = .ok (.ireturn, 1) := dX10_heads_89_z.2
set_option maxRecDepth 100000 in
theorem dX10_matched_0_z : ((((decode cX10_matched 0 = .ok (.aload_n 0, 1) ∧ decode cX10_matched 1 = .ok (.iload_n 1, 1)) ∧ (decode cX10_matched 2 = .ok (.invokevirtual 154, 3) ∧ decode cX10_matched 5 = .ok (.ifCond .ne 5, 3))) ∧ ((decode cX10_matched 8 = .ok (.iconst (-1), 1) ∧ decode cX10_matched 9 = .ok (.ireturn, 1)) ∧ (decode cX10_matched 10 = .ok (.aload_n 0, 1) ∧ decode cX10_matched 11 = .ok (.iload_n 1, 1)))) ∧ (((decode cX10_matched 12 = .ok (.invokevirtual 350, 3) ∧ decode cX10_matched 15 = .ok (.istore_n 2, 1)) ∧ (decode cX10_matched 16 = .ok (.iconst 0, 1) ∧ decode cX10_matched 17 = .ok (.istore_n 3, 1))) ∧ ((decode cX10_matched 18 = .ok (.iload_n 3, 1) ∧ decode cX10_matched 19 = .ok (.aload_n 0, 1)) ∧ (decode cX10_matched 20 = .ok (.getfield 37, 3) ∧ decode cX10_matched 23 = .ok (.getfield 266, 3))))) := by decide +kernel
theorem dX10_matched_0 : decode cX10_matched 0 = .ok (.aload_n 0, 1) := dX10_matched_0_z.1.1.1.1
theorem dX10_matched_1 : decode cX10_matched 1 = .ok (.iload_n 1, 1) := dX10_matched_0_z.1.1.1.2
theorem dX10_matched_2 : decode cX10_matched 2 = .ok (.invokevirtual 154, 3) := dX10_matched_0_z.1.1.2.1
theorem dX10_matched_5 : decode cX10_matched 5 = .ok (.ifCond .ne 5, 3) := dX10_matched_0_z.1.1.2.2
theorem dX10_matched_8 : decode cX10_matched 8 = .ok (.iconst (-1), 1) := dX10_matched_0_z.1.2.1.1
theorem dX10_matched_9 : decode cX10_matched 9 = .ok (.ireturn, 1) := dX10_matched_0_z.1.2.1.2
theorem dX10_matched_10 : decode cX10_matched 10 = .ok (.aload_n 0, 1) := dX10_matched_0_z.1.2.2.1
theorem dX10_matched_11 : decode cX10_matched 11 = .ok (.iload_n 1, 1) := dX10_matched_0_z.1.2.2.2
theorem dX10_matched_12 : decode cX10_matched 12 = .ok (.invokevirtual 350, 3) := dX10_matched_0_z.2.1.1.1
theorem dX10_matched_15 : decode cX10_matched 15 = .ok (.istore_n 2, 1) := dX10_matched_0_z.2.1.1.2
theorem dX10_matched_16 : decode cX10_matched 16 = .ok (.iconst 0, 1) := dX10_matched_0_z.2.1.2.1
theorem dX10_matched_17 : decode cX10_matched 17 = .ok (.istore_n 3, 1) := dX10_matched_0_z.2.1.2.2
theorem dX10_matched_18 : decode cX10_matched 18 = .ok (.iload_n 3, 1) := dX10_matched_0_z.2.2.1.1
theorem dX10_matched_19 : decode cX10_matched 19 = .ok (.aload_n 0, 1) := dX10_matched_0_z.2.2.1.2
theorem dX10_matched_20 : decode cX10_matched 20 = .ok (.getfield 37, 3) := dX10_matched_0_z.2.2.2.1
theorem dX10_matched_23 : decode cX10_matched 23 = .ok (.getfield 266, 3) := dX10_matched_0_z.2.2.2.2
set_option maxRecDepth 100000 in
theorem dX10_matched_26_z : ((((decode cX10_matched 26 = .ok (.if_icmp .ge 23, 3) ∧ decode cX10_matched 29 = .ok (.aload_n 0, 1)) ∧ (decode cX10_matched 30 = .ok (.getfield 37, 3) ∧ decode cX10_matched 33 = .ok (.iload_n 3, 1))) ∧ ((decode cX10_matched 34 = .ok (.invokevirtual 340, 3) ∧ decode cX10_matched 37 = .ok (.iload_n 2, 1)) ∧ decode cX10_matched 38 = .ok (.if_icmp .ne 5, 3))) ∧ (((decode cX10_matched 41 = .ok (.iload_n 3, 1) ∧ decode cX10_matched 42 = .ok (.ireturn, 1)) ∧ decode cX10_matched 43 = .ok (.iinc 3 1, 3)) ∧ ((decode cX10_matched 46 = .ok (.goto (-28), 3) ∧ decode cX10_matched 49 = .ok (.iconst (-1), 1)) ∧ decode cX10_matched 50 = .ok (.ireturn, 1)))) := by decide +kernel
theorem dX10_matched_26 : decode cX10_matched 26 = .ok (.if_icmp .ge 23, 3) := dX10_matched_26_z.1.1.1.1
theorem dX10_matched_29 : decode cX10_matched 29 = .ok (.aload_n 0, 1) := dX10_matched_26_z.1.1.1.2
theorem dX10_matched_30 : decode cX10_matched 30 = .ok (.getfield 37, 3) := dX10_matched_26_z.1.1.2.1
theorem dX10_matched_33 : decode cX10_matched 33 = .ok (.iload_n 3, 1) := dX10_matched_26_z.1.1.2.2
theorem dX10_matched_34 : decode cX10_matched 34 = .ok (.invokevirtual 340, 3) := dX10_matched_26_z.1.2.1.1
theorem dX10_matched_37 : decode cX10_matched 37 = .ok (.iload_n 2, 1) := dX10_matched_26_z.1.2.1.2
theorem dX10_matched_38 : decode cX10_matched 38 = .ok (.if_icmp .ne 5, 3) := dX10_matched_26_z.1.2.2
theorem dX10_matched_41 : decode cX10_matched 41 = .ok (.iload_n 3, 1) := dX10_matched_26_z.2.1.1.1
theorem dX10_matched_42 : decode cX10_matched 42 = .ok (.ireturn, 1) := dX10_matched_26_z.2.1.1.2
theorem dX10_matched_43 : decode cX10_matched 43 = .ok (.iinc 3 1, 3) := dX10_matched_26_z.2.1.2
theorem dX10_matched_46 : decode cX10_matched 46 = .ok (.goto (-28), 3) := dX10_matched_26_z.2.2.1.1
theorem dX10_matched_49 : decode cX10_matched 49 = .ok (.iconst (-1), 1) := dX10_matched_26_z.2.2.1.2
theorem dX10_matched_50 : decode cX10_matched 50 = .ok (.ireturn, 1) := dX10_matched_26_z.2.2.2
set_option maxRecDepth 100000 in
theorem dX10_rankByPay_0_z : ((((decode cX10_rankByPay 0 = .ok (.iconst 0, 1) ∧ decode cX10_rankByPay 1 = .ok (.istore_n 2, 1)) ∧ (decode cX10_rankByPay 2 = .ok (.iconst 0, 1) ∧ decode cX10_rankByPay 3 = .ok (.istore_n 3, 1))) ∧ ((decode cX10_rankByPay 4 = .ok (.iload_n 3, 1) ∧ decode cX10_rankByPay 5 = .ok (.aload_n 0, 1)) ∧ (decode cX10_rankByPay 6 = .ok (.getfield 37, 3) ∧ decode cX10_rankByPay 9 = .ok (.getfield 134, 3)))) ∧ (((decode cX10_rankByPay 12 = .ok (.if_icmp .ge 48, 3) ∧ decode cX10_rankByPay 15 = .ok (.aload_n 0, 1)) ∧ (decode cX10_rankByPay 16 = .ok (.getfield 49, 3) ∧ decode cX10_rankByPay 19 = .ok (.getfield 171, 3))) ∧ ((decode cX10_rankByPay 22 = .ok (.iload_n 3, 1) ∧ decode cX10_rankByPay 23 = .ok (.iaload, 1)) ∧ (decode cX10_rankByPay 24 = .ok (.aload_n 0, 1) ∧ decode cX10_rankByPay 25 = .ok (.getfield 49, 3))))) := by decide +kernel
theorem dX10_rankByPay_0 : decode cX10_rankByPay 0 = .ok (.iconst 0, 1) := dX10_rankByPay_0_z.1.1.1.1
theorem dX10_rankByPay_1 : decode cX10_rankByPay 1 = .ok (.istore_n 2, 1) := dX10_rankByPay_0_z.1.1.1.2
theorem dX10_rankByPay_2 : decode cX10_rankByPay 2 = .ok (.iconst 0, 1) := dX10_rankByPay_0_z.1.1.2.1
theorem dX10_rankByPay_3 : decode cX10_rankByPay 3 = .ok (.istore_n 3, 1) := dX10_rankByPay_0_z.1.1.2.2
theorem dX10_rankByPay_4 : decode cX10_rankByPay 4 = .ok (.iload_n 3, 1) := dX10_rankByPay_0_z.1.2.1.1
theorem dX10_rankByPay_5 : decode cX10_rankByPay 5 = .ok (.aload_n 0, 1) := dX10_rankByPay_0_z.1.2.1.2
theorem dX10_rankByPay_6 : decode cX10_rankByPay 6 = .ok (.getfield 37, 3) := dX10_rankByPay_0_z.1.2.2.1
theorem dX10_rankByPay_9 : decode cX10_rankByPay 9 = .ok (.getfield 134, 3) := dX10_rankByPay_0_z.1.2.2.2
theorem dX10_rankByPay_12 : decode cX10_rankByPay 12 = .ok (.if_icmp .ge 48, 3) := dX10_rankByPay_0_z.2.1.1.1
theorem dX10_rankByPay_15 : decode cX10_rankByPay 15 = .ok (.aload_n 0, 1) := dX10_rankByPay_0_z.2.1.1.2
theorem dX10_rankByPay_16 : decode cX10_rankByPay 16 = .ok (.getfield 49, 3) := dX10_rankByPay_0_z.2.1.2.1
theorem dX10_rankByPay_19 : decode cX10_rankByPay 19 = .ok (.getfield 171, 3) := dX10_rankByPay_0_z.2.1.2.2
theorem dX10_rankByPay_22 : decode cX10_rankByPay 22 = .ok (.iload_n 3, 1) := dX10_rankByPay_0_z.2.2.1.1
theorem dX10_rankByPay_23 : decode cX10_rankByPay 23 = .ok (.iaload, 1) := dX10_rankByPay_0_z.2.2.1.2
theorem dX10_rankByPay_24 : decode cX10_rankByPay 24 = .ok (.aload_n 0, 1) := dX10_rankByPay_0_z.2.2.2.1
theorem dX10_rankByPay_25 : decode cX10_rankByPay 25 = .ok (.getfield 49, 3) := dX10_rankByPay_0_z.2.2.2.2
set_option maxRecDepth 100000 in
theorem dX10_rankByPay_28_z : ((((decode cX10_rankByPay 28 = .ok (.getfield 171, 3) ∧ decode cX10_rankByPay 31 = .ok (.iload_n 1, 1)) ∧ (decode cX10_rankByPay 32 = .ok (.iaload, 1) ∧ decode cX10_rankByPay 33 = .ok (.isub, 1))) ∧ ((decode cX10_rankByPay 34 = .ok (.istore 4, 2) ∧ decode cX10_rankByPay 36 = .ok (.iload 4, 2)) ∧ (decode cX10_rankByPay 38 = .ok (.ifCond .gt 13, 3) ∧ decode cX10_rankByPay 41 = .ok (.iload 4, 2)))) ∧ (((decode cX10_rankByPay 43 = .ok (.ifCond .ne 11, 3) ∧ decode cX10_rankByPay 46 = .ok (.iload_n 3, 1)) ∧ (decode cX10_rankByPay 47 = .ok (.iload_n 1, 1) ∧ decode cX10_rankByPay 48 = .ok (.if_icmp .ge 6, 3))) ∧ ((decode cX10_rankByPay 51 = .ok (.iinc 2 1, 3) ∧ decode cX10_rankByPay 54 = .ok (.iinc 3 1, 3)) ∧ (decode cX10_rankByPay 57 = .ok (.goto (-53), 3) ∧ decode cX10_rankByPay 60 = .ok (.iload_n 2, 1))))) := by decide +kernel
theorem dX10_rankByPay_28 : decode cX10_rankByPay 28 = .ok (.getfield 171, 3) := dX10_rankByPay_28_z.1.1.1.1
theorem dX10_rankByPay_31 : decode cX10_rankByPay 31 = .ok (.iload_n 1, 1) := dX10_rankByPay_28_z.1.1.1.2
theorem dX10_rankByPay_32 : decode cX10_rankByPay 32 = .ok (.iaload, 1) := dX10_rankByPay_28_z.1.1.2.1
theorem dX10_rankByPay_33 : decode cX10_rankByPay 33 = .ok (.isub, 1) := dX10_rankByPay_28_z.1.1.2.2
theorem dX10_rankByPay_34 : decode cX10_rankByPay 34 = .ok (.istore 4, 2) := dX10_rankByPay_28_z.1.2.1.1
theorem dX10_rankByPay_36 : decode cX10_rankByPay 36 = .ok (.iload 4, 2) := dX10_rankByPay_28_z.1.2.1.2
theorem dX10_rankByPay_38 : decode cX10_rankByPay 38 = .ok (.ifCond .gt 13, 3) := dX10_rankByPay_28_z.1.2.2.1
theorem dX10_rankByPay_41 : decode cX10_rankByPay 41 = .ok (.iload 4, 2) := dX10_rankByPay_28_z.1.2.2.2
theorem dX10_rankByPay_43 : decode cX10_rankByPay 43 = .ok (.ifCond .ne 11, 3) := dX10_rankByPay_28_z.2.1.1.1
theorem dX10_rankByPay_46 : decode cX10_rankByPay 46 = .ok (.iload_n 3, 1) := dX10_rankByPay_28_z.2.1.1.2
theorem dX10_rankByPay_47 : decode cX10_rankByPay 47 = .ok (.iload_n 1, 1) := dX10_rankByPay_28_z.2.1.2.1
theorem dX10_rankByPay_48 : decode cX10_rankByPay 48 = .ok (.if_icmp .ge 6, 3) := dX10_rankByPay_28_z.2.1.2.2
theorem dX10_rankByPay_51 : decode cX10_rankByPay 51 = .ok (.iinc 2 1, 3) := dX10_rankByPay_28_z.2.2.1.1
theorem dX10_rankByPay_54 : decode cX10_rankByPay 54 = .ok (.iinc 3 1, 3) := dX10_rankByPay_28_z.2.2.1.2
theorem dX10_rankByPay_57 : decode cX10_rankByPay 57 = .ok (.goto (-53), 3) := dX10_rankByPay_28_z.2.2.2.1
theorem dX10_rankByPay_60 : decode cX10_rankByPay 60 = .ok (.iload_n 2, 1) := dX10_rankByPay_28_z.2.2.2.2
theorem dX10_rankByPay_61 : decode cX10_rankByPay 61 = .ok (.ireturn, 1) := by decide +kernel
set_option maxRecDepth 100000 in
theorem dX10_most_0_z : ((((decode cX10_most 0 = .ok (.aload_n 0, 1) ∧ decode cX10_most 1 = .ok (.invokevirtual 141, 3)) ∧ (decode cX10_most 4 = .ok (.ifCond .ne 5, 3) ∧ decode cX10_most 7 = .ok (.iconst (-1), 1))) ∧ ((decode cX10_most 8 = .ok (.ireturn, 1) ∧ decode cX10_most 9 = .ok (.iload_n 1, 1)) ∧ (decode cX10_most 10 = .ok (.tableswitch 70 0 4 #[34, 39, 48, 57, 65], 34) ∧ decode cX10_most 44 = .ok (.aload_n 0, 1)))) ∧ (((decode cX10_most 45 = .ok (.invokevirtual 353, 3) ∧ decode cX10_most 48 = .ok (.ireturn, 1)) ∧ (decode cX10_most 49 = .ok (.aload_n 0, 1) ∧ decode cX10_most 50 = .ok (.getfield 37, 3))) ∧ ((decode cX10_most 53 = .ok (.iconst 1, 1) ∧ decode cX10_most 54 = .ok (.invokevirtual 356, 3)) ∧ (decode cX10_most 57 = .ok (.ireturn, 1) ∧ decode cX10_most 58 = .ok (.aload_n 0, 1))))) := by decide +kernel
theorem dX10_most_0 : decode cX10_most 0 = .ok (.aload_n 0, 1) := dX10_most_0_z.1.1.1.1
theorem dX10_most_1 : decode cX10_most 1 = .ok (.invokevirtual 141, 3) := dX10_most_0_z.1.1.1.2
theorem dX10_most_4 : decode cX10_most 4 = .ok (.ifCond .ne 5, 3) := dX10_most_0_z.1.1.2.1
theorem dX10_most_7 : decode cX10_most 7 = .ok (.iconst (-1), 1) := dX10_most_0_z.1.1.2.2
theorem dX10_most_8 : decode cX10_most 8 = .ok (.ireturn, 1) := dX10_most_0_z.1.2.1.1
theorem dX10_most_9 : decode cX10_most 9 = .ok (.iload_n 1, 1) := dX10_most_0_z.1.2.1.2
theorem dX10_most_10 : decode cX10_most 10 = .ok (.tableswitch 70 0 4 #[34, 39, 48, 57, 65], 34) := dX10_most_0_z.1.2.2.1
theorem dX10_most_44 : decode cX10_most 44 = .ok (.aload_n 0, 1) := dX10_most_0_z.1.2.2.2
theorem dX10_most_45 : decode cX10_most 45 = .ok (.invokevirtual 353, 3) := dX10_most_0_z.2.1.1.1
theorem dX10_most_48 : decode cX10_most 48 = .ok (.ireturn, 1) := dX10_most_0_z.2.1.1.2
theorem dX10_most_49 : decode cX10_most 49 = .ok (.aload_n 0, 1) := dX10_most_0_z.2.1.2.1
theorem dX10_most_50 : decode cX10_most 50 = .ok (.getfield 37, 3) := dX10_most_0_z.2.1.2.2
theorem dX10_most_53 : decode cX10_most 53 = .ok (.iconst 1, 1) := dX10_most_0_z.2.2.1.1
theorem dX10_most_54 : decode cX10_most 54 = .ok (.invokevirtual 356, 3) := dX10_most_0_z.2.2.1.2
theorem dX10_most_57 : decode cX10_most 57 = .ok (.ireturn, 1) := dX10_most_0_z.2.2.2.1
theorem dX10_most_58 : decode cX10_most 58 = .ok (.aload_n 0, 1) := dX10_most_0_z.2.2.2.2
set_option maxRecDepth 100000 in
theorem dX10_most_59_z : ((((decode cX10_most 59 = .ok (.getfield 37, 3) ∧ decode cX10_most 62 = .ok (.iconst 0, 1)) ∧ (decode cX10_most 63 = .ok (.invokevirtual 356, 3) ∧ decode cX10_most 66 = .ok (.ireturn, 1))) ∧ ((decode cX10_most 67 = .ok (.aload_n 0, 1) ∧ decode cX10_most 68 = .ok (.getfield 37, 3)) ∧ decode cX10_most 71 = .ok (.invokevirtual 359, 3))) ∧ (((decode cX10_most 74 = .ok (.ireturn, 1) ∧ decode cX10_most 75 = .ok (.aload_n 0, 1)) ∧ decode cX10_most 76 = .ok (.invokevirtual 362, 3)) ∧ ((decode cX10_most 79 = .ok (.ireturn, 1) ∧ decode cX10_most 80 = .ok (.iconst (-1), 1)) ∧ decode cX10_most 81 = .ok (.ireturn, 1)))) := by decide +kernel
theorem dX10_most_59 : decode cX10_most 59 = .ok (.getfield 37, 3) := dX10_most_59_z.1.1.1.1
theorem dX10_most_62 : decode cX10_most 62 = .ok (.iconst 0, 1) := dX10_most_59_z.1.1.1.2
theorem dX10_most_63 : decode cX10_most 63 = .ok (.invokevirtual 356, 3) := dX10_most_59_z.1.1.2.1
theorem dX10_most_66 : decode cX10_most 66 = .ok (.ireturn, 1) := dX10_most_59_z.1.1.2.2
theorem dX10_most_67 : decode cX10_most 67 = .ok (.aload_n 0, 1) := dX10_most_59_z.1.2.1.1
theorem dX10_most_68 : decode cX10_most 68 = .ok (.getfield 37, 3) := dX10_most_59_z.1.2.1.2
theorem dX10_most_71 : decode cX10_most 71 = .ok (.invokevirtual 359, 3) := dX10_most_59_z.1.2.2
theorem dX10_most_74 : decode cX10_most 74 = .ok (.ireturn, 1) := dX10_most_59_z.2.1.1.1
theorem dX10_most_75 : decode cX10_most 75 = .ok (.aload_n 0, 1) := dX10_most_59_z.2.1.1.2
theorem dX10_most_76 : decode cX10_most 76 = .ok (.invokevirtual 362, 3) := dX10_most_59_z.2.1.2
theorem dX10_most_79 : decode cX10_most 79 = .ok (.ireturn, 1) := dX10_most_59_z.2.2.1.1
theorem dX10_most_80 : decode cX10_most 80 = .ok (.iconst (-1), 1) := dX10_most_59_z.2.2.1.2
theorem dX10_most_81 : decode cX10_most 81 = .ok (.ireturn, 1) := dX10_most_59_z.2.2.2
set_option maxRecDepth 100000 in
theorem dX10_plainBrides_0_z : ((((decode cX10_plainBrides 0 = .ok (.iconst 0, 1) ∧ decode cX10_plainBrides 1 = .ok (.istore_n 1, 1)) ∧ (decode cX10_plainBrides 2 = .ok (.iconst 0, 1) ∧ decode cX10_plainBrides 3 = .ok (.istore_n 2, 1))) ∧ ((decode cX10_plainBrides 4 = .ok (.iload_n 2, 1) ∧ decode cX10_plainBrides 5 = .ok (.aload_n 0, 1)) ∧ (decode cX10_plainBrides 6 = .ok (.getfield 37, 3) ∧ decode cX10_plainBrides 9 = .ok (.getfield 134, 3)))) ∧ (((decode cX10_plainBrides 12 = .ok (.if_icmp .ge 34, 3) ∧ decode cX10_plainBrides 15 = .ok (.aload_n 0, 1)) ∧ (decode cX10_plainBrides 16 = .ok (.getfield 77, 3) ∧ decode cX10_plainBrides 19 = .ok (.iload_n 2, 1))) ∧ ((decode cX10_plainBrides 20 = .ok (.invokevirtual 285, 3) ∧ decode cX10_plainBrides 23 = .ok (.aload_n 0, 1)) ∧ (decode cX10_plainBrides 24 = .ok (.getfield 77, 3) ∧ decode cX10_plainBrides 27 = .ok (.getfield 291, 3))))) := by decide +kernel
theorem dX10_plainBrides_0 : decode cX10_plainBrides 0 = .ok (.iconst 0, 1) := dX10_plainBrides_0_z.1.1.1.1
theorem dX10_plainBrides_1 : decode cX10_plainBrides 1 = .ok (.istore_n 1, 1) := dX10_plainBrides_0_z.1.1.1.2
theorem dX10_plainBrides_2 : decode cX10_plainBrides 2 = .ok (.iconst 0, 1) := dX10_plainBrides_0_z.1.1.2.1
theorem dX10_plainBrides_3 : decode cX10_plainBrides 3 = .ok (.istore_n 2, 1) := dX10_plainBrides_0_z.1.1.2.2
theorem dX10_plainBrides_4 : decode cX10_plainBrides 4 = .ok (.iload_n 2, 1) := dX10_plainBrides_0_z.1.2.1.1
theorem dX10_plainBrides_5 : decode cX10_plainBrides 5 = .ok (.aload_n 0, 1) := dX10_plainBrides_0_z.1.2.1.2
theorem dX10_plainBrides_6 : decode cX10_plainBrides 6 = .ok (.getfield 37, 3) := dX10_plainBrides_0_z.1.2.2.1
theorem dX10_plainBrides_9 : decode cX10_plainBrides 9 = .ok (.getfield 134, 3) := dX10_plainBrides_0_z.1.2.2.2
theorem dX10_plainBrides_12 : decode cX10_plainBrides 12 = .ok (.if_icmp .ge 34, 3) := dX10_plainBrides_0_z.2.1.1.1
theorem dX10_plainBrides_15 : decode cX10_plainBrides 15 = .ok (.aload_n 0, 1) := dX10_plainBrides_0_z.2.1.1.2
theorem dX10_plainBrides_16 : decode cX10_plainBrides 16 = .ok (.getfield 77, 3) := dX10_plainBrides_0_z.2.1.2.1
theorem dX10_plainBrides_19 : decode cX10_plainBrides 19 = .ok (.iload_n 2, 1) := dX10_plainBrides_0_z.2.1.2.2
theorem dX10_plainBrides_20 : decode cX10_plainBrides 20 = .ok (.invokevirtual 285, 3) := dX10_plainBrides_0_z.2.2.1.1
theorem dX10_plainBrides_23 : decode cX10_plainBrides 23 = .ok (.aload_n 0, 1) := dX10_plainBrides_0_z.2.2.1.2
theorem dX10_plainBrides_24 : decode cX10_plainBrides 24 = .ok (.getfield 77, 3) := dX10_plainBrides_0_z.2.2.2.1
theorem dX10_plainBrides_27 : decode cX10_plainBrides 27 = .ok (.getfield 291, 3) := dX10_plainBrides_0_z.2.2.2.2
set_option maxRecDepth 100000 in
theorem dX10_plainBrides_30_z : ((((decode cX10_plainBrides 30 = .ok (.iconst 5, 1) ∧ decode cX10_plainBrides 31 = .ok (.if_icmp .ge 9, 3)) ∧ decode cX10_plainBrides 34 = .ok (.iload_n 1, 1)) ∧ ((decode cX10_plainBrides 35 = .ok (.iconst 1, 1) ∧ decode cX10_plainBrides 36 = .ok (.iload_n 2, 1)) ∧ decode cX10_plainBrides 37 = .ok (.ishl, 1))) ∧ (((decode cX10_plainBrides 38 = .ok (.ior, 1) ∧ decode cX10_plainBrides 39 = .ok (.istore_n 1, 1)) ∧ decode cX10_plainBrides 40 = .ok (.iinc 2 1, 3)) ∧ ((decode cX10_plainBrides 43 = .ok (.goto (-39), 3) ∧ decode cX10_plainBrides 46 = .ok (.iload_n 1, 1)) ∧ decode cX10_plainBrides 47 = .ok (.ireturn, 1)))) := by decide +kernel
theorem dX10_plainBrides_30 : decode cX10_plainBrides 30 = .ok (.iconst 5, 1) := dX10_plainBrides_30_z.1.1.1.1
theorem dX10_plainBrides_31 : decode cX10_plainBrides 31 = .ok (.if_icmp .ge 9, 3) := dX10_plainBrides_30_z.1.1.1.2
theorem dX10_plainBrides_34 : decode cX10_plainBrides 34 = .ok (.iload_n 1, 1) := dX10_plainBrides_30_z.1.1.2
theorem dX10_plainBrides_35 : decode cX10_plainBrides 35 = .ok (.iconst 1, 1) := dX10_plainBrides_30_z.1.2.1.1
theorem dX10_plainBrides_36 : decode cX10_plainBrides 36 = .ok (.iload_n 2, 1) := dX10_plainBrides_30_z.1.2.1.2
theorem dX10_plainBrides_37 : decode cX10_plainBrides 37 = .ok (.ishl, 1) := dX10_plainBrides_30_z.1.2.2
theorem dX10_plainBrides_38 : decode cX10_plainBrides 38 = .ok (.ior, 1) := dX10_plainBrides_30_z.2.1.1.1
theorem dX10_plainBrides_39 : decode cX10_plainBrides 39 = .ok (.istore_n 1, 1) := dX10_plainBrides_30_z.2.1.1.2
theorem dX10_plainBrides_40 : decode cX10_plainBrides 40 = .ok (.iinc 2 1, 3) := dX10_plainBrides_30_z.2.1.2
theorem dX10_plainBrides_43 : decode cX10_plainBrides 43 = .ok (.goto (-39), 3) := dX10_plainBrides_30_z.2.2.1.1
theorem dX10_plainBrides_46 : decode cX10_plainBrides 46 = .ok (.iload_n 1, 1) := dX10_plainBrides_30_z.2.2.1.2
theorem dX10_plainBrides_47 : decode cX10_plainBrides 47 = .ok (.ireturn, 1) := dX10_plainBrides_30_z.2.2.2
set_option maxRecDepth 100000 in
theorem dX10_lies_0_z : ((((decode cX10_lies 0 = .ok (.iconst 0, 1) ∧ decode cX10_lies 1 = .ok (.istore_n 1, 1)) ∧ (decode cX10_lies 2 = .ok (.iconst 0, 1) ∧ decode cX10_lies 3 = .ok (.istore_n 2, 1))) ∧ ((decode cX10_lies 4 = .ok (.iload_n 2, 1) ∧ decode cX10_lies 5 = .ok (.aload_n 0, 1)) ∧ (decode cX10_lies 6 = .ok (.getfield 49, 3) ∧ decode cX10_lies 9 = .ok (.getfield 216, 3)))) ∧ (((decode cX10_lies 12 = .ok (.if_icmp .ge 20, 3) ∧ decode cX10_lies 15 = .ok (.iload_n 1, 1)) ∧ (decode cX10_lies 16 = .ok (.aload_n 0, 1) ∧ decode cX10_lies 17 = .ok (.iload_n 2, 1))) ∧ ((decode cX10_lies 18 = .ok (.invokevirtual 365, 3) ∧ decode cX10_lies 21 = .ok (.invokestatic 368, 3)) ∧ (decode cX10_lies 24 = .ok (.iadd, 1) ∧ decode cX10_lies 25 = .ok (.istore_n 1, 1))))) := by decide +kernel
theorem dX10_lies_0 : decode cX10_lies 0 = .ok (.iconst 0, 1) := dX10_lies_0_z.1.1.1.1
theorem dX10_lies_1 : decode cX10_lies 1 = .ok (.istore_n 1, 1) := dX10_lies_0_z.1.1.1.2
theorem dX10_lies_2 : decode cX10_lies 2 = .ok (.iconst 0, 1) := dX10_lies_0_z.1.1.2.1
theorem dX10_lies_3 : decode cX10_lies 3 = .ok (.istore_n 2, 1) := dX10_lies_0_z.1.1.2.2
theorem dX10_lies_4 : decode cX10_lies 4 = .ok (.iload_n 2, 1) := dX10_lies_0_z.1.2.1.1
theorem dX10_lies_5 : decode cX10_lies 5 = .ok (.aload_n 0, 1) := dX10_lies_0_z.1.2.1.2
theorem dX10_lies_6 : decode cX10_lies 6 = .ok (.getfield 49, 3) := dX10_lies_0_z.1.2.2.1
theorem dX10_lies_9 : decode cX10_lies 9 = .ok (.getfield 216, 3) := dX10_lies_0_z.1.2.2.2
theorem dX10_lies_12 : decode cX10_lies 12 = .ok (.if_icmp .ge 20, 3) := dX10_lies_0_z.2.1.1.1
theorem dX10_lies_15 : decode cX10_lies 15 = .ok (.iload_n 1, 1) := dX10_lies_0_z.2.1.1.2
theorem dX10_lies_16 : decode cX10_lies 16 = .ok (.aload_n 0, 1) := dX10_lies_0_z.2.1.2.1
theorem dX10_lies_17 : decode cX10_lies 17 = .ok (.iload_n 2, 1) := dX10_lies_0_z.2.1.2.2
theorem dX10_lies_18 : decode cX10_lies 18 = .ok (.invokevirtual 365, 3) := dX10_lies_0_z.2.2.1.1
theorem dX10_lies_21 : decode cX10_lies 21 = .ok (.invokestatic 368, 3) := dX10_lies_0_z.2.2.1.2
theorem dX10_lies_24 : decode cX10_lies 24 = .ok (.iadd, 1) := dX10_lies_0_z.2.2.2.1
theorem dX10_lies_25 : decode cX10_lies 25 = .ok (.istore_n 1, 1) := dX10_lies_0_z.2.2.2.2
set_option maxRecDepth 100000 in
theorem dX10_lies_26_z : ((decode cX10_lies 26 = .ok (.iinc 2 1, 3) ∧ decode cX10_lies 29 = .ok (.goto (-25), 3)) ∧ (decode cX10_lies 32 = .ok (.iload_n 1, 1) ∧ decode cX10_lies 33 = .ok (.ireturn, 1))) := by decide +kernel
theorem dX10_lies_26 : decode cX10_lies 26 = .ok (.iinc 2 1, 3) := dX10_lies_26_z.1.1
theorem dX10_lies_29 : decode cX10_lies 29 = .ok (.goto (-25), 3) := dX10_lies_26_z.1.2
theorem dX10_lies_32 : decode cX10_lies 32 = .ok (.iload_n 1, 1) := dX10_lies_26_z.2.1
theorem dX10_lies_33 : decode cX10_lies 33 = .ok (.ireturn, 1) := dX10_lies_26_z.2.2
set_option maxRecDepth 100000 in
theorem dX10_above_0_z : ((((decode cX10_above 0 = .ok (.aload_n 0, 1) ∧ decode cX10_above 1 = .ok (.getfield 49, 3)) ∧ (decode cX10_above 4 = .ok (.iload_n 1, 1) ∧ decode cX10_above 5 = .ok (.iconst 2, 1))) ∧ ((decode cX10_above 6 = .ok (.invokevirtual 279, 3) ∧ decode cX10_above 9 = .ok (.aload_n 0, 1)) ∧ (decode cX10_above 10 = .ok (.getfield 37, 3) ∧ decode cX10_above 13 = .ok (.aload_n 0, 1)))) ∧ (((decode cX10_above 14 = .ok (.getfield 49, 3) ∧ decode cX10_above 17 = .ok (.iload_n 1, 1)) ∧ (decode cX10_above 18 = .ok (.iconst 0, 1) ∧ decode cX10_above 19 = .ok (.invokevirtual 279, 3))) ∧ ((decode cX10_above 22 = .ok (.invokevirtual 161, 3) ∧ decode cX10_above 25 = .ok (.isub, 1)) ∧ decode cX10_above 26 = .ok (.ireturn, 1)))) := by decide +kernel
theorem dX10_above_0 : decode cX10_above 0 = .ok (.aload_n 0, 1) := dX10_above_0_z.1.1.1.1
theorem dX10_above_1 : decode cX10_above 1 = .ok (.getfield 49, 3) := dX10_above_0_z.1.1.1.2
theorem dX10_above_4 : decode cX10_above 4 = .ok (.iload_n 1, 1) := dX10_above_0_z.1.1.2.1
theorem dX10_above_5 : decode cX10_above 5 = .ok (.iconst 2, 1) := dX10_above_0_z.1.1.2.2
theorem dX10_above_6 : decode cX10_above 6 = .ok (.invokevirtual 279, 3) := dX10_above_0_z.1.2.1.1
theorem dX10_above_9 : decode cX10_above 9 = .ok (.aload_n 0, 1) := dX10_above_0_z.1.2.1.2
theorem dX10_above_10 : decode cX10_above 10 = .ok (.getfield 37, 3) := dX10_above_0_z.1.2.2.1
theorem dX10_above_13 : decode cX10_above 13 = .ok (.aload_n 0, 1) := dX10_above_0_z.1.2.2.2
theorem dX10_above_14 : decode cX10_above 14 = .ok (.getfield 49, 3) := dX10_above_0_z.2.1.1.1
theorem dX10_above_17 : decode cX10_above 17 = .ok (.iload_n 1, 1) := dX10_above_0_z.2.1.1.2
theorem dX10_above_18 : decode cX10_above 18 = .ok (.iconst 0, 1) := dX10_above_0_z.2.1.2.1
theorem dX10_above_19 : decode cX10_above 19 = .ok (.invokevirtual 279, 3) := dX10_above_0_z.2.1.2.2
theorem dX10_above_22 : decode cX10_above 22 = .ok (.invokevirtual 161, 3) := dX10_above_0_z.2.2.1.1
theorem dX10_above_25 : decode cX10_above 25 = .ok (.isub, 1) := dX10_above_0_z.2.2.1.2
theorem dX10_above_26 : decode cX10_above 26 = .ok (.ireturn, 1) := dX10_above_0_z.2.2.2
set_option maxRecDepth 100000 in
theorem dX10_seen_0_z : ((((decode cX10_seen 0 = .ok (.aload_n 0, 1) ∧ decode cX10_seen 1 = .ok (.iload_n 1, 1)) ∧ decode cX10_seen 2 = .ok (.invokevirtual 154, 3)) ∧ ((decode cX10_seen 5 = .ok (.ifCond .eq 14, 3) ∧ decode cX10_seen 8 = .ok (.aload_n 0, 1)) ∧ decode cX10_seen 9 = .ok (.getfield 49, 3))) ∧ (((decode cX10_seen 12 = .ok (.iload_n 1, 1) ∧ decode cX10_seen 13 = .ok (.invokevirtual 343, 3)) ∧ decode cX10_seen 16 = .ok (.goto 4, 3)) ∧ (decode cX10_seen 19 = .ok (.iconst (-1), 1) ∧ decode cX10_seen 20 = .ok (.ireturn, 1)))) := by decide +kernel
theorem dX10_seen_0 : decode cX10_seen 0 = .ok (.aload_n 0, 1) := dX10_seen_0_z.1.1.1.1
theorem dX10_seen_1 : decode cX10_seen 1 = .ok (.iload_n 1, 1) := dX10_seen_0_z.1.1.1.2
theorem dX10_seen_2 : decode cX10_seen 2 = .ok (.invokevirtual 154, 3) := dX10_seen_0_z.1.1.2
theorem dX10_seen_5 : decode cX10_seen 5 = .ok (.ifCond .eq 14, 3) := dX10_seen_0_z.1.2.1.1
theorem dX10_seen_8 : decode cX10_seen 8 = .ok (.aload_n 0, 1) := dX10_seen_0_z.1.2.1.2
theorem dX10_seen_9 : decode cX10_seen 9 = .ok (.getfield 49, 3) := dX10_seen_0_z.1.2.2
theorem dX10_seen_12 : decode cX10_seen 12 = .ok (.iload_n 1, 1) := dX10_seen_0_z.2.1.1.1
theorem dX10_seen_13 : decode cX10_seen 13 = .ok (.invokevirtual 343, 3) := dX10_seen_0_z.2.1.1.2
theorem dX10_seen_16 : decode cX10_seen 16 = .ok (.goto 4, 3) := dX10_seen_0_z.2.1.2
theorem dX10_seen_19 : decode cX10_seen 19 = .ok (.iconst (-1), 1) := dX10_seen_0_z.2.2.1
theorem dX10_seen_20 : decode cX10_seen 20 = .ok (.ireturn, 1) := dX10_seen_0_z.2.2.2
set_option maxRecDepth 100000 in
theorem dX10_saves_0_z : ((((decode cX10_saves 0 = .ok (.aload_n 0, 1) ∧ decode cX10_saves 1 = .ok (.invokevirtual 141, 3)) ∧ (decode cX10_saves 4 = .ok (.ifCond .eq 15, 3) ∧ decode cX10_saves 7 = .ok (.iload_n 1, 1))) ∧ ((decode cX10_saves 8 = .ok (.iconst 1, 1) ∧ decode cX10_saves 9 = .ok (.if_icmp .lt 10, 3)) ∧ (decode cX10_saves 12 = .ok (.iload_n 1, 1) ∧ decode cX10_saves 13 = .ok (.sipush 999, 3)))) ∧ (((decode cX10_saves 16 = .ok (.if_icmp .le 5, 3) ∧ decode cX10_saves 19 = .ok (.iconst (-1), 1)) ∧ (decode cX10_saves 20 = .ok (.ireturn, 1) ∧ decode cX10_saves 21 = .ok (.iconst 0, 1))) ∧ ((decode cX10_saves 22 = .ok (.iload_n 1, 1) ∧ decode cX10_saves 23 = .ok (.aload_n 0, 1)) ∧ (decode cX10_saves 24 = .ok (.getfield 49, 3) ∧ decode cX10_saves 27 = .ok (.getfield 145, 3))))) := by decide +kernel
theorem dX10_saves_0 : decode cX10_saves 0 = .ok (.aload_n 0, 1) := dX10_saves_0_z.1.1.1.1
theorem dX10_saves_1 : decode cX10_saves 1 = .ok (.invokevirtual 141, 3) := dX10_saves_0_z.1.1.1.2
theorem dX10_saves_4 : decode cX10_saves 4 = .ok (.ifCond .eq 15, 3) := dX10_saves_0_z.1.1.2.1
theorem dX10_saves_7 : decode cX10_saves 7 = .ok (.iload_n 1, 1) := dX10_saves_0_z.1.1.2.2
theorem dX10_saves_8 : decode cX10_saves 8 = .ok (.iconst 1, 1) := dX10_saves_0_z.1.2.1.1
theorem dX10_saves_9 : decode cX10_saves 9 = .ok (.if_icmp .lt 10, 3) := dX10_saves_0_z.1.2.1.2
theorem dX10_saves_12 : decode cX10_saves 12 = .ok (.iload_n 1, 1) := dX10_saves_0_z.1.2.2.1
theorem dX10_saves_13 : decode cX10_saves 13 = .ok (.sipush 999, 3) := dX10_saves_0_z.1.2.2.2
theorem dX10_saves_16 : decode cX10_saves 16 = .ok (.if_icmp .le 5, 3) := dX10_saves_0_z.2.1.1.1
theorem dX10_saves_19 : decode cX10_saves 19 = .ok (.iconst (-1), 1) := dX10_saves_0_z.2.1.1.2
theorem dX10_saves_20 : decode cX10_saves 20 = .ok (.ireturn, 1) := dX10_saves_0_z.2.1.2.1
theorem dX10_saves_21 : decode cX10_saves 21 = .ok (.iconst 0, 1) := dX10_saves_0_z.2.1.2.2
theorem dX10_saves_22 : decode cX10_saves 22 = .ok (.iload_n 1, 1) := dX10_saves_0_z.2.2.1.1
theorem dX10_saves_23 : decode cX10_saves 23 = .ok (.aload_n 0, 1) := dX10_saves_0_z.2.2.1.2
theorem dX10_saves_24 : decode cX10_saves 24 = .ok (.getfield 49, 3) := dX10_saves_0_z.2.2.2.1
theorem dX10_saves_27 : decode cX10_saves 27 = .ok (.getfield 145, 3) := dX10_saves_0_z.2.2.2.2
set_option maxRecDepth 100000 in
theorem dX10_saves_30_z : ((decode cX10_saves 30 = .ok (.isub, 1) ∧ decode cX10_saves 31 = .ok (.invokestatic 371, 3)) ∧ decode cX10_saves 34 = .ok (.ireturn, 1)) := by decide +kernel
theorem dX10_saves_30 : decode cX10_saves 30 = .ok (.isub, 1) := dX10_saves_30_z.1.1
theorem dX10_saves_31 : decode cX10_saves 31 = .ok (.invokestatic 371, 3) := dX10_saves_30_z.1.2
theorem dX10_saves_34 : decode cX10_saves 34 = .ok (.ireturn, 1) := dX10_saves_30_z.2
set_option maxRecDepth 100000 in
theorem dX10_rivals_0_z : ((((decode cX10_rivals 0 = .ok (.aload_n 0, 1) ∧ decode cX10_rivals 1 = .ok (.iload_n 1, 1)) ∧ (decode cX10_rivals 2 = .ok (.invokevirtual 154, 3) ∧ decode cX10_rivals 5 = .ok (.ifCond .ne 5, 3))) ∧ ((decode cX10_rivals 8 = .ok (.iconst (-1), 1) ∧ decode cX10_rivals 9 = .ok (.ireturn, 1)) ∧ (decode cX10_rivals 10 = .ok (.iconst 0, 1) ∧ decode cX10_rivals 11 = .ok (.istore_n 2, 1)))) ∧ (((decode cX10_rivals 12 = .ok (.iconst 0, 1) ∧ decode cX10_rivals 13 = .ok (.istore_n 3, 1)) ∧ (decode cX10_rivals 14 = .ok (.iload_n 3, 1) ∧ decode cX10_rivals 15 = .ok (.aload_n 0, 1))) ∧ ((decode cX10_rivals 16 = .ok (.getfield 37, 3) ∧ decode cX10_rivals 19 = .ok (.getfield 134, 3)) ∧ (decode cX10_rivals 22 = .ok (.if_icmp .ge 34, 3) ∧ decode cX10_rivals 25 = .ok (.aload_n 0, 1))))) := by decide +kernel
theorem dX10_rivals_0 : decode cX10_rivals 0 = .ok (.aload_n 0, 1) := dX10_rivals_0_z.1.1.1.1
theorem dX10_rivals_1 : decode cX10_rivals 1 = .ok (.iload_n 1, 1) := dX10_rivals_0_z.1.1.1.2
theorem dX10_rivals_2 : decode cX10_rivals 2 = .ok (.invokevirtual 154, 3) := dX10_rivals_0_z.1.1.2.1
theorem dX10_rivals_5 : decode cX10_rivals 5 = .ok (.ifCond .ne 5, 3) := dX10_rivals_0_z.1.1.2.2
theorem dX10_rivals_8 : decode cX10_rivals 8 = .ok (.iconst (-1), 1) := dX10_rivals_0_z.1.2.1.1
theorem dX10_rivals_9 : decode cX10_rivals 9 = .ok (.ireturn, 1) := dX10_rivals_0_z.1.2.1.2
theorem dX10_rivals_10 : decode cX10_rivals 10 = .ok (.iconst 0, 1) := dX10_rivals_0_z.1.2.2.1
theorem dX10_rivals_11 : decode cX10_rivals 11 = .ok (.istore_n 2, 1) := dX10_rivals_0_z.1.2.2.2
theorem dX10_rivals_12 : decode cX10_rivals 12 = .ok (.iconst 0, 1) := dX10_rivals_0_z.2.1.1.1
theorem dX10_rivals_13 : decode cX10_rivals 13 = .ok (.istore_n 3, 1) := dX10_rivals_0_z.2.1.1.2
theorem dX10_rivals_14 : decode cX10_rivals 14 = .ok (.iload_n 3, 1) := dX10_rivals_0_z.2.1.2.1
theorem dX10_rivals_15 : decode cX10_rivals 15 = .ok (.aload_n 0, 1) := dX10_rivals_0_z.2.1.2.2
theorem dX10_rivals_16 : decode cX10_rivals 16 = .ok (.getfield 37, 3) := dX10_rivals_0_z.2.2.1.1
theorem dX10_rivals_19 : decode cX10_rivals 19 = .ok (.getfield 134, 3) := dX10_rivals_0_z.2.2.1.2
theorem dX10_rivals_22 : decode cX10_rivals 22 = .ok (.if_icmp .ge 34, 3) := dX10_rivals_0_z.2.2.2.1
theorem dX10_rivals_25 : decode cX10_rivals 25 = .ok (.aload_n 0, 1) := dX10_rivals_0_z.2.2.2.2
set_option maxRecDepth 100000 in
theorem dX10_rivals_26_z : ((((decode cX10_rivals 26 = .ok (.getfield 37, 3) ∧ decode cX10_rivals 29 = .ok (.iload_n 3, 1)) ∧ (decode cX10_rivals 30 = .ok (.invokevirtual 307, 3) ∧ decode cX10_rivals 33 = .ok (.aload_n 0, 1))) ∧ ((decode cX10_rivals 34 = .ok (.getfield 37, 3) ∧ decode cX10_rivals 37 = .ok (.iload_n 1, 1)) ∧ (decode cX10_rivals 38 = .ok (.invokevirtual 307, 3) ∧ decode cX10_rivals 41 = .ok (.if_icmp .le 9, 3)))) ∧ (((decode cX10_rivals 44 = .ok (.iload_n 2, 1) ∧ decode cX10_rivals 45 = .ok (.iconst 1, 1)) ∧ (decode cX10_rivals 46 = .ok (.iload_n 3, 1) ∧ decode cX10_rivals 47 = .ok (.ishl, 1))) ∧ ((decode cX10_rivals 48 = .ok (.ior, 1) ∧ decode cX10_rivals 49 = .ok (.istore_n 2, 1)) ∧ (decode cX10_rivals 50 = .ok (.iinc 3 1, 3) ∧ decode cX10_rivals 53 = .ok (.goto (-39), 3))))) := by decide +kernel
theorem dX10_rivals_26 : decode cX10_rivals 26 = .ok (.getfield 37, 3) := dX10_rivals_26_z.1.1.1.1
theorem dX10_rivals_29 : decode cX10_rivals 29 = .ok (.iload_n 3, 1) := dX10_rivals_26_z.1.1.1.2
theorem dX10_rivals_30 : decode cX10_rivals 30 = .ok (.invokevirtual 307, 3) := dX10_rivals_26_z.1.1.2.1
theorem dX10_rivals_33 : decode cX10_rivals 33 = .ok (.aload_n 0, 1) := dX10_rivals_26_z.1.1.2.2
theorem dX10_rivals_34 : decode cX10_rivals 34 = .ok (.getfield 37, 3) := dX10_rivals_26_z.1.2.1.1
theorem dX10_rivals_37 : decode cX10_rivals 37 = .ok (.iload_n 1, 1) := dX10_rivals_26_z.1.2.1.2
theorem dX10_rivals_38 : decode cX10_rivals 38 = .ok (.invokevirtual 307, 3) := dX10_rivals_26_z.1.2.2.1
theorem dX10_rivals_41 : decode cX10_rivals 41 = .ok (.if_icmp .le 9, 3) := dX10_rivals_26_z.1.2.2.2
theorem dX10_rivals_44 : decode cX10_rivals 44 = .ok (.iload_n 2, 1) := dX10_rivals_26_z.2.1.1.1
theorem dX10_rivals_45 : decode cX10_rivals 45 = .ok (.iconst 1, 1) := dX10_rivals_26_z.2.1.1.2
theorem dX10_rivals_46 : decode cX10_rivals 46 = .ok (.iload_n 3, 1) := dX10_rivals_26_z.2.1.2.1
theorem dX10_rivals_47 : decode cX10_rivals 47 = .ok (.ishl, 1) := dX10_rivals_26_z.2.1.2.2
theorem dX10_rivals_48 : decode cX10_rivals 48 = .ok (.ior, 1) := dX10_rivals_26_z.2.2.1.1
theorem dX10_rivals_49 : decode cX10_rivals 49 = .ok (.istore_n 2, 1) := dX10_rivals_26_z.2.2.1.2
theorem dX10_rivals_50 : decode cX10_rivals 50 = .ok (.iinc 3 1, 3) := dX10_rivals_26_z.2.2.2.1
theorem dX10_rivals_53 : decode cX10_rivals 53 = .ok (.goto (-39), 3) := dX10_rivals_26_z.2.2.2.2
set_option maxRecDepth 100000 in
theorem dX10_rivals_56_z : (decode cX10_rivals 56 = .ok (.iload_n 2, 1) ∧ decode cX10_rivals 57 = .ok (.ireturn, 1)) := by decide +kernel
theorem dX10_rivals_56 : decode cX10_rivals 56 = .ok (.iload_n 2, 1) := dX10_rivals_56_z.1
theorem dX10_rivals_57 : decode cX10_rivals 57 = .ok (.ireturn, 1) := dX10_rivals_56_z.2
set_option maxRecDepth 100000 in
theorem dX10_affords_0_z : ((((decode cX10_affords 0 = .ok (.aload_n 0, 1) ∧ decode cX10_affords 1 = .ok (.iload_n 1, 1)) ∧ (decode cX10_affords 2 = .ok (.invokevirtual 184, 3) ∧ decode cX10_affords 5 = .ok (.ifCond .ne 5, 3))) ∧ ((decode cX10_affords 8 = .ok (.iconst (-1), 1) ∧ decode cX10_affords 9 = .ok (.ireturn, 1)) ∧ (decode cX10_affords 10 = .ok (.bipush 20, 2) ∧ decode cX10_affords 12 = .ok (.aload_n 0, 1)))) ∧ (((decode cX10_affords 13 = .ok (.getfield 49, 3) ∧ decode cX10_affords 16 = .ok (.getfield 216, 3)) ∧ (decode cX10_affords 19 = .ok (.isub, 1) ∧ decode cX10_affords 20 = .ok (.istore_n 2, 1))) ∧ ((decode cX10_affords 21 = .ok (.aload_n 0, 1) ∧ decode cX10_affords 22 = .ok (.getfield 37, 3)) ∧ (decode cX10_affords 25 = .ok (.iload_n 1, 1) ∧ decode cX10_affords 26 = .ok (.invokevirtual 190, 3))))) := by decide +kernel
theorem dX10_affords_0 : decode cX10_affords 0 = .ok (.aload_n 0, 1) := dX10_affords_0_z.1.1.1.1
theorem dX10_affords_1 : decode cX10_affords 1 = .ok (.iload_n 1, 1) := dX10_affords_0_z.1.1.1.2
theorem dX10_affords_2 : decode cX10_affords 2 = .ok (.invokevirtual 184, 3) := dX10_affords_0_z.1.1.2.1
theorem dX10_affords_5 : decode cX10_affords 5 = .ok (.ifCond .ne 5, 3) := dX10_affords_0_z.1.1.2.2
theorem dX10_affords_8 : decode cX10_affords 8 = .ok (.iconst (-1), 1) := dX10_affords_0_z.1.2.1.1
theorem dX10_affords_9 : decode cX10_affords 9 = .ok (.ireturn, 1) := dX10_affords_0_z.1.2.1.2
theorem dX10_affords_10 : decode cX10_affords 10 = .ok (.bipush 20, 2) := dX10_affords_0_z.1.2.2.1
theorem dX10_affords_12 : decode cX10_affords 12 = .ok (.aload_n 0, 1) := dX10_affords_0_z.1.2.2.2
theorem dX10_affords_13 : decode cX10_affords 13 = .ok (.getfield 49, 3) := dX10_affords_0_z.2.1.1.1
theorem dX10_affords_16 : decode cX10_affords 16 = .ok (.getfield 216, 3) := dX10_affords_0_z.2.1.1.2
theorem dX10_affords_19 : decode cX10_affords 19 = .ok (.isub, 1) := dX10_affords_0_z.2.1.2.1
theorem dX10_affords_20 : decode cX10_affords 20 = .ok (.istore_n 2, 1) := dX10_affords_0_z.2.1.2.2
theorem dX10_affords_21 : decode cX10_affords 21 = .ok (.aload_n 0, 1) := dX10_affords_0_z.2.2.1.1
theorem dX10_affords_22 : decode cX10_affords 22 = .ok (.getfield 37, 3) := dX10_affords_0_z.2.2.1.2
theorem dX10_affords_25 : decode cX10_affords 25 = .ok (.iload_n 1, 1) := dX10_affords_0_z.2.2.2.1
theorem dX10_affords_26 : decode cX10_affords 26 = .ok (.invokevirtual 190, 3) := dX10_affords_0_z.2.2.2.2
set_option maxRecDepth 100000 in
theorem dX10_affords_29_z : ((((decode cX10_affords 29 = .ok (.istore_n 3, 1) ∧ decode cX10_affords 30 = .ok (.iload_n 3, 1)) ∧ (decode cX10_affords 31 = .ok (.ifCond .ne 7, 3) ∧ decode cX10_affords 34 = .ok (.iload_n 2, 1))) ∧ ((decode cX10_affords 35 = .ok (.goto 16, 3) ∧ decode cX10_affords 38 = .ok (.iload_n 2, 1)) ∧ decode cX10_affords 39 = .ok (.aload_n 0, 1))) ∧ (((decode cX10_affords 40 = .ok (.getfield 49, 3) ∧ decode cX10_affords 43 = .ok (.getfield 145, 3)) ∧ decode cX10_affords 46 = .ok (.iload_n 3, 1)) ∧ ((decode cX10_affords 47 = .ok (.idiv, 1) ∧ decode cX10_affords 48 = .ok (.invokestatic 240, 3)) ∧ decode cX10_affords 51 = .ok (.ireturn, 1)))) := by decide +kernel
theorem dX10_affords_29 : decode cX10_affords 29 = .ok (.istore_n 3, 1) := dX10_affords_29_z.1.1.1.1
theorem dX10_affords_30 : decode cX10_affords 30 = .ok (.iload_n 3, 1) := dX10_affords_29_z.1.1.1.2
theorem dX10_affords_31 : decode cX10_affords 31 = .ok (.ifCond .ne 7, 3) := dX10_affords_29_z.1.1.2.1
theorem dX10_affords_34 : decode cX10_affords 34 = .ok (.iload_n 2, 1) := dX10_affords_29_z.1.1.2.2
theorem dX10_affords_35 : decode cX10_affords 35 = .ok (.goto 16, 3) := dX10_affords_29_z.1.2.1.1
theorem dX10_affords_38 : decode cX10_affords 38 = .ok (.iload_n 2, 1) := dX10_affords_29_z.1.2.1.2
theorem dX10_affords_39 : decode cX10_affords 39 = .ok (.aload_n 0, 1) := dX10_affords_29_z.1.2.2
theorem dX10_affords_40 : decode cX10_affords 40 = .ok (.getfield 49, 3) := dX10_affords_29_z.2.1.1.1
theorem dX10_affords_43 : decode cX10_affords 43 = .ok (.getfield 145, 3) := dX10_affords_29_z.2.1.1.2
theorem dX10_affords_46 : decode cX10_affords 46 = .ok (.iload_n 3, 1) := dX10_affords_29_z.2.1.2
theorem dX10_affords_47 : decode cX10_affords 47 = .ok (.idiv, 1) := dX10_affords_29_z.2.2.1.1
theorem dX10_affords_48 : decode cX10_affords 48 = .ok (.invokestatic 240, 3) := dX10_affords_29_z.2.2.1.2
theorem dX10_affords_51 : decode cX10_affords 51 = .ok (.ireturn, 1) := dX10_affords_29_z.2.2.2
set_option maxRecDepth 100000 in
theorem dX10_told_0_z : ((((decode cX10_told 0 = .ok (.aload_n 0, 1) ∧ decode cX10_told 1 = .ok (.iload_n 1, 1)) ∧ (decode cX10_told 2 = .ok (.invokevirtual 184, 3) ∧ decode cX10_told 5 = .ok (.ifCond .eq 15, 3))) ∧ ((decode cX10_told 8 = .ok (.aload_n 0, 1) ∧ decode cX10_told 9 = .ok (.getfield 49, 3)) ∧ (decode cX10_told 12 = .ok (.iload_n 1, 1) ∧ decode cX10_told 13 = .ok (.invokevirtual 374, 3)))) ∧ (((decode cX10_told 16 = .ok (.iconst (-1), 1) ∧ decode cX10_told 17 = .ok (.if_icmp .ne 7, 3)) ∧ (decode cX10_told 20 = .ok (.ldc_w 313, 3) ∧ decode cX10_told 23 = .ok (.ireturn, 1))) ∧ ((decode cX10_told 24 = .ok (.iconst 0, 1) ∧ decode cX10_told 25 = .ok (.istore_n 2, 1)) ∧ (decode cX10_told 26 = .ok (.iconst 0, 1) ∧ decode cX10_told 27 = .ok (.istore_n 3, 1))))) := by decide +kernel
theorem dX10_told_0 : decode cX10_told 0 = .ok (.aload_n 0, 1) := dX10_told_0_z.1.1.1.1
theorem dX10_told_1 : decode cX10_told 1 = .ok (.iload_n 1, 1) := dX10_told_0_z.1.1.1.2
theorem dX10_told_2 : decode cX10_told 2 = .ok (.invokevirtual 184, 3) := dX10_told_0_z.1.1.2.1
theorem dX10_told_5 : decode cX10_told 5 = .ok (.ifCond .eq 15, 3) := dX10_told_0_z.1.1.2.2
theorem dX10_told_8 : decode cX10_told 8 = .ok (.aload_n 0, 1) := dX10_told_0_z.1.2.1.1
theorem dX10_told_9 : decode cX10_told 9 = .ok (.getfield 49, 3) := dX10_told_0_z.1.2.1.2
theorem dX10_told_12 : decode cX10_told 12 = .ok (.iload_n 1, 1) := dX10_told_0_z.1.2.2.1
theorem dX10_told_13 : decode cX10_told 13 = .ok (.invokevirtual 374, 3) := dX10_told_0_z.1.2.2.2
theorem dX10_told_16 : decode cX10_told 16 = .ok (.iconst (-1), 1) := dX10_told_0_z.2.1.1.1
theorem dX10_told_17 : decode cX10_told 17 = .ok (.if_icmp .ne 7, 3) := dX10_told_0_z.2.1.1.2
theorem dX10_told_20 : decode cX10_told 20 = .ok (.ldc_w 313, 3) := dX10_told_0_z.2.1.2.1
theorem dX10_told_23 : decode cX10_told 23 = .ok (.ireturn, 1) := dX10_told_0_z.2.1.2.2
theorem dX10_told_24 : decode cX10_told 24 = .ok (.iconst 0, 1) := dX10_told_0_z.2.2.1.1
theorem dX10_told_25 : decode cX10_told 25 = .ok (.istore_n 2, 1) := dX10_told_0_z.2.2.1.2
theorem dX10_told_26 : decode cX10_told 26 = .ok (.iconst 0, 1) := dX10_told_0_z.2.2.2.1
theorem dX10_told_27 : decode cX10_told 27 = .ok (.istore_n 3, 1) := dX10_told_0_z.2.2.2.2
set_option maxRecDepth 100000 in
theorem dX10_told_28_z : ((((decode cX10_told 28 = .ok (.iload_n 3, 1) ∧ decode cX10_told 29 = .ok (.aload_n 0, 1)) ∧ (decode cX10_told 30 = .ok (.getfield 49, 3) ∧ decode cX10_told 33 = .ok (.getfield 216, 3))) ∧ ((decode cX10_told 36 = .ok (.if_icmp .ge 30, 3) ∧ decode cX10_told 39 = .ok (.aload_n 0, 1)) ∧ (decode cX10_told 40 = .ok (.getfield 49, 3) ∧ decode cX10_told 43 = .ok (.iload_n 3, 1)))) ∧ (((decode cX10_told 44 = .ok (.iconst 1, 1) ∧ decode cX10_told 45 = .ok (.invokevirtual 279, 3)) ∧ (decode cX10_told 48 = .ok (.iload_n 1, 1) ∧ decode cX10_told 49 = .ok (.if_icmp .ne 11, 3))) ∧ ((decode cX10_told 52 = .ok (.iload_n 2, 1) ∧ decode cX10_told 53 = .ok (.aload_n 0, 1)) ∧ (decode cX10_told 54 = .ok (.iload_n 3, 1) ∧ decode cX10_told 55 = .ok (.invokevirtual 365, 3))))) := by decide +kernel
theorem dX10_told_28 : decode cX10_told 28 = .ok (.iload_n 3, 1) := dX10_told_28_z.1.1.1.1
theorem dX10_told_29 : decode cX10_told 29 = .ok (.aload_n 0, 1) := dX10_told_28_z.1.1.1.2
theorem dX10_told_30 : decode cX10_told 30 = .ok (.getfield 49, 3) := dX10_told_28_z.1.1.2.1
theorem dX10_told_33 : decode cX10_told 33 = .ok (.getfield 216, 3) := dX10_told_28_z.1.1.2.2
theorem dX10_told_36 : decode cX10_told 36 = .ok (.if_icmp .ge 30, 3) := dX10_told_28_z.1.2.1.1
theorem dX10_told_39 : decode cX10_told 39 = .ok (.aload_n 0, 1) := dX10_told_28_z.1.2.1.2
theorem dX10_told_40 : decode cX10_told 40 = .ok (.getfield 49, 3) := dX10_told_28_z.1.2.2.1
theorem dX10_told_43 : decode cX10_told 43 = .ok (.iload_n 3, 1) := dX10_told_28_z.1.2.2.2
theorem dX10_told_44 : decode cX10_told 44 = .ok (.iconst 1, 1) := dX10_told_28_z.2.1.1.1
theorem dX10_told_45 : decode cX10_told 45 = .ok (.invokevirtual 279, 3) := dX10_told_28_z.2.1.1.2
theorem dX10_told_48 : decode cX10_told 48 = .ok (.iload_n 1, 1) := dX10_told_28_z.2.1.2.1
theorem dX10_told_49 : decode cX10_told 49 = .ok (.if_icmp .ne 11, 3) := dX10_told_28_z.2.1.2.2
theorem dX10_told_52 : decode cX10_told 52 = .ok (.iload_n 2, 1) := dX10_told_28_z.2.2.1.1
theorem dX10_told_53 : decode cX10_told 53 = .ok (.aload_n 0, 1) := dX10_told_28_z.2.2.1.2
theorem dX10_told_54 : decode cX10_told 54 = .ok (.iload_n 3, 1) := dX10_told_28_z.2.2.2.1
theorem dX10_told_55 : decode cX10_told 55 = .ok (.invokevirtual 365, 3) := dX10_told_28_z.2.2.2.2
set_option maxRecDepth 100000 in
theorem dX10_told_58_z : (((decode cX10_told 58 = .ok (.iadd, 1) ∧ decode cX10_told 59 = .ok (.istore_n 2, 1)) ∧ decode cX10_told 60 = .ok (.iinc 3 1, 3)) ∧ ((decode cX10_told 63 = .ok (.goto (-35), 3) ∧ decode cX10_told 66 = .ok (.iload_n 2, 1)) ∧ decode cX10_told 67 = .ok (.ireturn, 1))) := by decide +kernel
theorem dX10_told_58 : decode cX10_told 58 = .ok (.iadd, 1) := dX10_told_58_z.1.1.1
theorem dX10_told_59 : decode cX10_told 59 = .ok (.istore_n 2, 1) := dX10_told_58_z.1.1.2
theorem dX10_told_60 : decode cX10_told 60 = .ok (.iinc 3 1, 3) := dX10_told_58_z.1.2
theorem dX10_told_63 : decode cX10_told 63 = .ok (.goto (-35), 3) := dX10_told_58_z.2.1.1
theorem dX10_told_66 : decode cX10_told 66 = .ok (.iload_n 2, 1) := dX10_told_58_z.2.1.2
theorem dX10_told_67 : decode cX10_told 67 = .ok (.ireturn, 1) := dX10_told_58_z.2.2
set_option maxRecDepth 100000 in
theorem dX10_image_0_z : ((((decode cX10_image 0 = .ok (.aload_n 0, 1) ∧ decode cX10_image 1 = .ok (.invokevirtual 141, 3)) ∧ (decode cX10_image 4 = .ok (.ifCond .ne 5, 3) ∧ decode cX10_image 7 = .ok (.iconst (-1), 1))) ∧ ((decode cX10_image 8 = .ok (.ireturn, 1) ∧ decode cX10_image 9 = .ok (.aload_n 0, 1)) ∧ (decode cX10_image 10 = .ok (.getfield 53, 3) ∧ decode cX10_image 13 = .ok (.aload_n 0, 1)))) ∧ (((decode cX10_image 14 = .ok (.getfield 49, 3) ∧ decode cX10_image 17 = .ok (.invokevirtual 377, 3)) ∧ (decode cX10_image 20 = .ok (.aload_n 0, 1) ∧ decode cX10_image 21 = .ok (.iconst 1, 1))) ∧ ((decode cX10_image 22 = .ok (.putfield 130, 3) ∧ decode cX10_image 25 = .ok (.aload_n 0, 1)) ∧ (decode cX10_image 26 = .ok (.getfield 49, 3) ∧ decode cX10_image 29 = .ok (.getfield 248, 3))))) := by decide +kernel
theorem dX10_image_0 : decode cX10_image 0 = .ok (.aload_n 0, 1) := dX10_image_0_z.1.1.1.1
theorem dX10_image_1 : decode cX10_image 1 = .ok (.invokevirtual 141, 3) := dX10_image_0_z.1.1.1.2
theorem dX10_image_4 : decode cX10_image 4 = .ok (.ifCond .ne 5, 3) := dX10_image_0_z.1.1.2.1
theorem dX10_image_7 : decode cX10_image 7 = .ok (.iconst (-1), 1) := dX10_image_0_z.1.1.2.2
theorem dX10_image_8 : decode cX10_image 8 = .ok (.ireturn, 1) := dX10_image_0_z.1.2.1.1
theorem dX10_image_9 : decode cX10_image 9 = .ok (.aload_n 0, 1) := dX10_image_0_z.1.2.1.2
theorem dX10_image_10 : decode cX10_image 10 = .ok (.getfield 53, 3) := dX10_image_0_z.1.2.2.1
theorem dX10_image_13 : decode cX10_image 13 = .ok (.aload_n 0, 1) := dX10_image_0_z.1.2.2.2
theorem dX10_image_14 : decode cX10_image 14 = .ok (.getfield 49, 3) := dX10_image_0_z.2.1.1.1
theorem dX10_image_17 : decode cX10_image 17 = .ok (.invokevirtual 377, 3) := dX10_image_0_z.2.1.1.2
theorem dX10_image_20 : decode cX10_image 20 = .ok (.aload_n 0, 1) := dX10_image_0_z.2.1.2.1
theorem dX10_image_21 : decode cX10_image 21 = .ok (.iconst 1, 1) := dX10_image_0_z.2.1.2.2
theorem dX10_image_22 : decode cX10_image 22 = .ok (.putfield 130, 3) := dX10_image_0_z.2.2.1.1
theorem dX10_image_25 : decode cX10_image 25 = .ok (.aload_n 0, 1) := dX10_image_0_z.2.2.1.2
theorem dX10_image_26 : decode cX10_image 26 = .ok (.getfield 49, 3) := dX10_image_0_z.2.2.2.1
theorem dX10_image_29 : decode cX10_image 29 = .ok (.getfield 248, 3) := dX10_image_0_z.2.2.2.2
theorem dX10_image_32 : decode cX10_image 32 = .ok (.ireturn, 1) := by decide +kernel
set_option maxRecDepth 100000 in
theorem dX10_back_0_z : ((((decode cX10_back 0 = .ok (.aload_n 0, 1) ∧ decode cX10_back 1 = .ok (.getfield 130, 3)) ∧ (decode cX10_back 4 = .ok (.ifCond .ne 5, 3) ∧ decode cX10_back 7 = .ok (.iconst (-1), 1))) ∧ ((decode cX10_back 8 = .ok (.ireturn, 1) ∧ decode cX10_back 9 = .ok (.aload_n 0, 1)) ∧ (decode cX10_back 10 = .ok (.getfield 49, 3) ∧ decode cX10_back 13 = .ok (.aload_n 0, 1)))) ∧ (((decode cX10_back 14 = .ok (.getfield 53, 3) ∧ decode cX10_back 17 = .ok (.invokevirtual 377, 3)) ∧ (decode cX10_back 20 = .ok (.aload_n 0, 1) ∧ decode cX10_back 21 = .ok (.getfield 59, 3))) ∧ ((decode cX10_back 24 = .ok (.invokevirtual 127, 3) ∧ decode cX10_back 27 = .ok (.aload_n 0, 1)) ∧ (decode cX10_back 28 = .ok (.getfield 49, 3) ∧ decode cX10_back 31 = .ok (.getfield 248, 3))))) := by decide +kernel
theorem dX10_back_0 : decode cX10_back 0 = .ok (.aload_n 0, 1) := dX10_back_0_z.1.1.1.1
theorem dX10_back_1 : decode cX10_back 1 = .ok (.getfield 130, 3) := dX10_back_0_z.1.1.1.2
theorem dX10_back_4 : decode cX10_back 4 = .ok (.ifCond .ne 5, 3) := dX10_back_0_z.1.1.2.1
theorem dX10_back_7 : decode cX10_back 7 = .ok (.iconst (-1), 1) := dX10_back_0_z.1.1.2.2
theorem dX10_back_8 : decode cX10_back 8 = .ok (.ireturn, 1) := dX10_back_0_z.1.2.1.1
theorem dX10_back_9 : decode cX10_back 9 = .ok (.aload_n 0, 1) := dX10_back_0_z.1.2.1.2
theorem dX10_back_10 : decode cX10_back 10 = .ok (.getfield 49, 3) := dX10_back_0_z.1.2.2.1
theorem dX10_back_13 : decode cX10_back 13 = .ok (.aload_n 0, 1) := dX10_back_0_z.1.2.2.2
theorem dX10_back_14 : decode cX10_back 14 = .ok (.getfield 53, 3) := dX10_back_0_z.2.1.1.1
theorem dX10_back_17 : decode cX10_back 17 = .ok (.invokevirtual 377, 3) := dX10_back_0_z.2.1.1.2
theorem dX10_back_20 : decode cX10_back 20 = .ok (.aload_n 0, 1) := dX10_back_0_z.2.1.2.1
theorem dX10_back_21 : decode cX10_back 21 = .ok (.getfield 59, 3) := dX10_back_0_z.2.1.2.2
theorem dX10_back_24 : decode cX10_back 24 = .ok (.invokevirtual 127, 3) := dX10_back_0_z.2.2.1.1
theorem dX10_back_27 : decode cX10_back 27 = .ok (.aload_n 0, 1) := dX10_back_0_z.2.2.1.2
theorem dX10_back_28 : decode cX10_back 28 = .ok (.getfield 49, 3) := dX10_back_0_z.2.2.2.1
theorem dX10_back_31 : decode cX10_back 31 = .ok (.getfield 248, 3) := dX10_back_0_z.2.2.2.2
theorem dX10_back_34 : decode cX10_back 34 = .ok (.ireturn, 1) := by decide +kernel
set_option maxRecDepth 100000 in
theorem dX10_count_0_z : ((((decode cX10_count 0 = .ok (.iload_n 1, 1) ∧ decode cX10_count 1 = .ok (.tableswitch 126 0 9 #[55, 63, 71, 76, 84, 89, 97, 105, 113, 118], 55)) ∧ (decode cX10_count 56 = .ok (.aload_n 0, 1) ∧ decode cX10_count 57 = .ok (.getfield 37, 3))) ∧ ((decode cX10_count 60 = .ok (.getfield 134, 3) ∧ decode cX10_count 63 = .ok (.ireturn, 1)) ∧ (decode cX10_count 64 = .ok (.aload_n 0, 1) ∧ decode cX10_count 65 = .ok (.getfield 37, 3)))) ∧ (((decode cX10_count 68 = .ok (.getfield 266, 3) ∧ decode cX10_count 71 = .ok (.ireturn, 1)) ∧ (decode cX10_count 72 = .ok (.aload_n 0, 1) ∧ decode cX10_count 73 = .ok (.getfield 114, 3))) ∧ ((decode cX10_count 76 = .ok (.ireturn, 1) ∧ decode cX10_count 77 = .ok (.aload_n 0, 1)) ∧ (decode cX10_count 78 = .ok (.getfield 10, 3) ∧ decode cX10_count 81 = .ok (.getfield 96, 3))))) := by decide +kernel
theorem dX10_count_0 : decode cX10_count 0 = .ok (.iload_n 1, 1) := dX10_count_0_z.1.1.1.1
theorem dX10_count_1 : decode cX10_count 1 = .ok (.tableswitch 126 0 9 #[55, 63, 71, 76, 84, 89, 97, 105, 113, 118], 55) := dX10_count_0_z.1.1.1.2
theorem dX10_count_56 : decode cX10_count 56 = .ok (.aload_n 0, 1) := dX10_count_0_z.1.1.2.1
theorem dX10_count_57 : decode cX10_count 57 = .ok (.getfield 37, 3) := dX10_count_0_z.1.1.2.2
theorem dX10_count_60 : decode cX10_count 60 = .ok (.getfield 134, 3) := dX10_count_0_z.1.2.1.1
theorem dX10_count_63 : decode cX10_count 63 = .ok (.ireturn, 1) := dX10_count_0_z.1.2.1.2
theorem dX10_count_64 : decode cX10_count 64 = .ok (.aload_n 0, 1) := dX10_count_0_z.1.2.2.1
theorem dX10_count_65 : decode cX10_count 65 = .ok (.getfield 37, 3) := dX10_count_0_z.1.2.2.2
theorem dX10_count_68 : decode cX10_count 68 = .ok (.getfield 266, 3) := dX10_count_0_z.2.1.1.1
theorem dX10_count_71 : decode cX10_count 71 = .ok (.ireturn, 1) := dX10_count_0_z.2.1.1.2
theorem dX10_count_72 : decode cX10_count 72 = .ok (.aload_n 0, 1) := dX10_count_0_z.2.1.2.1
theorem dX10_count_73 : decode cX10_count 73 = .ok (.getfield 114, 3) := dX10_count_0_z.2.1.2.2
theorem dX10_count_76 : decode cX10_count 76 = .ok (.ireturn, 1) := dX10_count_0_z.2.2.1.1
theorem dX10_count_77 : decode cX10_count 77 = .ok (.aload_n 0, 1) := dX10_count_0_z.2.2.1.2
theorem dX10_count_78 : decode cX10_count 78 = .ok (.getfield 10, 3) := dX10_count_0_z.2.2.2.1
theorem dX10_count_81 : decode cX10_count 81 = .ok (.getfield 96, 3) := dX10_count_0_z.2.2.2.2
set_option maxRecDepth 100000 in
theorem dX10_count_84_z : ((((decode cX10_count 84 = .ok (.ireturn, 1) ∧ decode cX10_count 85 = .ok (.aload_n 0, 1)) ∧ (decode cX10_count 86 = .ok (.getfield 92, 3) ∧ decode cX10_count 89 = .ok (.ireturn, 1))) ∧ ((decode cX10_count 90 = .ok (.aload_n 0, 1) ∧ decode cX10_count 91 = .ok (.getfield 49, 3)) ∧ (decode cX10_count 94 = .ok (.getfield 248, 3) ∧ decode cX10_count 97 = .ok (.ireturn, 1)))) ∧ (((decode cX10_count 98 = .ok (.aload_n 0, 1) ∧ decode cX10_count 99 = .ok (.getfield 49, 3)) ∧ (decode cX10_count 102 = .ok (.getfield 237, 3) ∧ decode cX10_count 105 = .ok (.ireturn, 1))) ∧ ((decode cX10_count 106 = .ok (.aload_n 0, 1) ∧ decode cX10_count 107 = .ok (.getfield 49, 3)) ∧ (decode cX10_count 110 = .ok (.getfield 216, 3) ∧ decode cX10_count 113 = .ok (.ireturn, 1))))) := by decide +kernel
theorem dX10_count_84 : decode cX10_count 84 = .ok (.ireturn, 1) := dX10_count_84_z.1.1.1.1
theorem dX10_count_85 : decode cX10_count 85 = .ok (.aload_n 0, 1) := dX10_count_84_z.1.1.1.2
theorem dX10_count_86 : decode cX10_count 86 = .ok (.getfield 92, 3) := dX10_count_84_z.1.1.2.1
theorem dX10_count_89 : decode cX10_count 89 = .ok (.ireturn, 1) := dX10_count_84_z.1.1.2.2
theorem dX10_count_90 : decode cX10_count 90 = .ok (.aload_n 0, 1) := dX10_count_84_z.1.2.1.1
theorem dX10_count_91 : decode cX10_count 91 = .ok (.getfield 49, 3) := dX10_count_84_z.1.2.1.2
theorem dX10_count_94 : decode cX10_count 94 = .ok (.getfield 248, 3) := dX10_count_84_z.1.2.2.1
theorem dX10_count_97 : decode cX10_count 97 = .ok (.ireturn, 1) := dX10_count_84_z.1.2.2.2
theorem dX10_count_98 : decode cX10_count 98 = .ok (.aload_n 0, 1) := dX10_count_84_z.2.1.1.1
theorem dX10_count_99 : decode cX10_count 99 = .ok (.getfield 49, 3) := dX10_count_84_z.2.1.1.2
theorem dX10_count_102 : decode cX10_count 102 = .ok (.getfield 237, 3) := dX10_count_84_z.2.1.2.1
theorem dX10_count_105 : decode cX10_count 105 = .ok (.ireturn, 1) := dX10_count_84_z.2.1.2.2
theorem dX10_count_106 : decode cX10_count 106 = .ok (.aload_n 0, 1) := dX10_count_84_z.2.2.1.1
theorem dX10_count_107 : decode cX10_count 107 = .ok (.getfield 49, 3) := dX10_count_84_z.2.2.1.2
theorem dX10_count_110 : decode cX10_count 110 = .ok (.getfield 216, 3) := dX10_count_84_z.2.2.2.1
theorem dX10_count_113 : decode cX10_count 113 = .ok (.ireturn, 1) := dX10_count_84_z.2.2.2.2
set_option maxRecDepth 100000 in
theorem dX10_count_114_z : ((((decode cX10_count 114 = .ok (.aload_n 0, 1) ∧ decode cX10_count 115 = .ok (.getfield 254, 3)) ∧ decode cX10_count 118 = .ok (.ireturn, 1)) ∧ (decode cX10_count 119 = .ok (.aload_n 0, 1) ∧ decode cX10_count 120 = .ok (.getfield 59, 3))) ∧ ((decode cX10_count 123 = .ok (.getfield 276, 3) ∧ decode cX10_count 126 = .ok (.ireturn, 1)) ∧ (decode cX10_count 127 = .ok (.ldc_w 313, 3) ∧ decode cX10_count 130 = .ok (.ireturn, 1)))) := by decide +kernel
theorem dX10_count_114 : decode cX10_count 114 = .ok (.aload_n 0, 1) := dX10_count_114_z.1.1.1.1
theorem dX10_count_115 : decode cX10_count 115 = .ok (.getfield 254, 3) := dX10_count_114_z.1.1.1.2
theorem dX10_count_118 : decode cX10_count 118 = .ok (.ireturn, 1) := dX10_count_114_z.1.1.2
theorem dX10_count_119 : decode cX10_count 119 = .ok (.aload_n 0, 1) := dX10_count_114_z.1.2.1
theorem dX10_count_120 : decode cX10_count 120 = .ok (.getfield 59, 3) := dX10_count_114_z.1.2.2
theorem dX10_count_123 : decode cX10_count 123 = .ok (.getfield 276, 3) := dX10_count_114_z.2.1.1
theorem dX10_count_126 : decode cX10_count 126 = .ok (.ireturn, 1) := dX10_count_114_z.2.1.2
theorem dX10_count_127 : decode cX10_count 127 = .ok (.ldc_w 313, 3) := dX10_count_114_z.2.2.1
theorem dX10_count_130 : decode cX10_count 130 = .ok (.ireturn, 1) := dX10_count_114_z.2.2.2
set_option maxRecDepth 100000 in
theorem dX10_refuse_0_z : ((((decode cX10_refuse 0 = .ok (.aload_n 0, 1) ∧ decode cX10_refuse 1 = .ok (.getfield 88, 3)) ∧ decode cX10_refuse 4 = .ok (.iload_n 1, 1)) ∧ (decode cX10_refuse 5 = .ok (.dup2, 1) ∧ decode cX10_refuse 6 = .ok (.iaload, 1))) ∧ (((decode cX10_refuse 7 = .ok (.iconst 1, 1) ∧ decode cX10_refuse 8 = .ok (.iadd, 1)) ∧ decode cX10_refuse 9 = .ok (.iastore, 1)) ∧ (decode cX10_refuse 10 = .ok (.iconst (-1), 1) ∧ decode cX10_refuse 11 = .ok (.ireturn, 1)))) := by decide +kernel
theorem dX10_refuse_0 : decode cX10_refuse 0 = .ok (.aload_n 0, 1) := dX10_refuse_0_z.1.1.1.1
theorem dX10_refuse_1 : decode cX10_refuse 1 = .ok (.getfield 88, 3) := dX10_refuse_0_z.1.1.1.2
theorem dX10_refuse_4 : decode cX10_refuse 4 = .ok (.iload_n 1, 1) := dX10_refuse_0_z.1.1.2
theorem dX10_refuse_5 : decode cX10_refuse 5 = .ok (.dup2, 1) := dX10_refuse_0_z.1.2.1
theorem dX10_refuse_6 : decode cX10_refuse 6 = .ok (.iaload, 1) := dX10_refuse_0_z.1.2.2
theorem dX10_refuse_7 : decode cX10_refuse 7 = .ok (.iconst 1, 1) := dX10_refuse_0_z.2.1.1.1
theorem dX10_refuse_8 : decode cX10_refuse 8 = .ok (.iadd, 1) := dX10_refuse_0_z.2.1.1.2
theorem dX10_refuse_9 : decode cX10_refuse 9 = .ok (.iastore, 1) := dX10_refuse_0_z.2.1.2
theorem dX10_refuse_10 : decode cX10_refuse 10 = .ok (.iconst (-1), 1) := dX10_refuse_0_z.2.2.1
theorem dX10_refuse_11 : decode cX10_refuse 11 = .ok (.ireturn, 1) := dX10_refuse_0_z.2.2.2
set_option maxRecDepth 100000 in
theorem dX10_hasCourt_0_z : (((decode cX10_hasCourt 0 = .ok (.aload_n 0, 1) ∧ decode cX10_hasCourt 1 = .ok (.getfield 37, 3)) ∧ (decode cX10_hasCourt 4 = .ok (.getfield 134, 3) ∧ decode cX10_hasCourt 7 = .ok (.ifCond .le 7, 3))) ∧ ((decode cX10_hasCourt 10 = .ok (.iconst 1, 1) ∧ decode cX10_hasCourt 11 = .ok (.goto 4, 3)) ∧ (decode cX10_hasCourt 14 = .ok (.iconst 0, 1) ∧ decode cX10_hasCourt 15 = .ok (.ireturn, 1)))) := by decide +kernel
theorem dX10_hasCourt_0 : decode cX10_hasCourt 0 = .ok (.aload_n 0, 1) := dX10_hasCourt_0_z.1.1.1
theorem dX10_hasCourt_1 : decode cX10_hasCourt 1 = .ok (.getfield 37, 3) := dX10_hasCourt_0_z.1.1.2
theorem dX10_hasCourt_4 : decode cX10_hasCourt 4 = .ok (.getfield 134, 3) := dX10_hasCourt_0_z.1.2.1
theorem dX10_hasCourt_7 : decode cX10_hasCourt 7 = .ok (.ifCond .le 7, 3) := dX10_hasCourt_0_z.1.2.2
theorem dX10_hasCourt_10 : decode cX10_hasCourt 10 = .ok (.iconst 1, 1) := dX10_hasCourt_0_z.2.1.1
theorem dX10_hasCourt_11 : decode cX10_hasCourt 11 = .ok (.goto 4, 3) := dX10_hasCourt_0_z.2.1.2
theorem dX10_hasCourt_14 : decode cX10_hasCourt 14 = .ok (.iconst 0, 1) := dX10_hasCourt_0_z.2.2.1
theorem dX10_hasCourt_15 : decode cX10_hasCourt 15 = .ok (.ireturn, 1) := dX10_hasCourt_0_z.2.2.2
set_option maxRecDepth 100000 in
theorem dX10_isBride_0_z : ((((decode cX10_isBride 0 = .ok (.iload_n 1, 1) ∧ decode cX10_isBride 1 = .ok (.ifCond .lt 18, 3)) ∧ decode cX10_isBride 4 = .ok (.iload_n 1, 1)) ∧ ((decode cX10_isBride 5 = .ok (.aload_n 0, 1) ∧ decode cX10_isBride 6 = .ok (.getfield 37, 3)) ∧ decode cX10_isBride 9 = .ok (.getfield 134, 3))) ∧ (((decode cX10_isBride 12 = .ok (.if_icmp .ge 7, 3) ∧ decode cX10_isBride 15 = .ok (.iconst 1, 1)) ∧ decode cX10_isBride 16 = .ok (.goto 4, 3)) ∧ (decode cX10_isBride 19 = .ok (.iconst 0, 1) ∧ decode cX10_isBride 20 = .ok (.ireturn, 1)))) := by decide +kernel
theorem dX10_isBride_0 : decode cX10_isBride 0 = .ok (.iload_n 1, 1) := dX10_isBride_0_z.1.1.1.1
theorem dX10_isBride_1 : decode cX10_isBride 1 = .ok (.ifCond .lt 18, 3) := dX10_isBride_0_z.1.1.1.2
theorem dX10_isBride_4 : decode cX10_isBride 4 = .ok (.iload_n 1, 1) := dX10_isBride_0_z.1.1.2
theorem dX10_isBride_5 : decode cX10_isBride 5 = .ok (.aload_n 0, 1) := dX10_isBride_0_z.1.2.1.1
theorem dX10_isBride_6 : decode cX10_isBride 6 = .ok (.getfield 37, 3) := dX10_isBride_0_z.1.2.1.2
theorem dX10_isBride_9 : decode cX10_isBride 9 = .ok (.getfield 134, 3) := dX10_isBride_0_z.1.2.2
theorem dX10_isBride_12 : decode cX10_isBride 12 = .ok (.if_icmp .ge 7, 3) := dX10_isBride_0_z.2.1.1.1
theorem dX10_isBride_15 : decode cX10_isBride 15 = .ok (.iconst 1, 1) := dX10_isBride_0_z.2.1.1.2
theorem dX10_isBride_16 : decode cX10_isBride 16 = .ok (.goto 4, 3) := dX10_isBride_0_z.2.1.2
theorem dX10_isBride_19 : decode cX10_isBride 19 = .ok (.iconst 0, 1) := dX10_isBride_0_z.2.2.1
theorem dX10_isBride_20 : decode cX10_isBride 20 = .ok (.ireturn, 1) := dX10_isBride_0_z.2.2.2
set_option maxRecDepth 100000 in
theorem dX10_isPainter_0_z : ((((decode cX10_isPainter 0 = .ok (.iload_n 1, 1) ∧ decode cX10_isPainter 1 = .ok (.ifCond .lt 18, 3)) ∧ decode cX10_isPainter 4 = .ok (.iload_n 1, 1)) ∧ ((decode cX10_isPainter 5 = .ok (.aload_n 0, 1) ∧ decode cX10_isPainter 6 = .ok (.getfield 37, 3)) ∧ decode cX10_isPainter 9 = .ok (.getfield 266, 3))) ∧ (((decode cX10_isPainter 12 = .ok (.if_icmp .ge 7, 3) ∧ decode cX10_isPainter 15 = .ok (.iconst 1, 1)) ∧ decode cX10_isPainter 16 = .ok (.goto 4, 3)) ∧ (decode cX10_isPainter 19 = .ok (.iconst 0, 1) ∧ decode cX10_isPainter 20 = .ok (.ireturn, 1)))) := by decide +kernel
theorem dX10_isPainter_0 : decode cX10_isPainter 0 = .ok (.iload_n 1, 1) := dX10_isPainter_0_z.1.1.1.1
theorem dX10_isPainter_1 : decode cX10_isPainter 1 = .ok (.ifCond .lt 18, 3) := dX10_isPainter_0_z.1.1.1.2
theorem dX10_isPainter_4 : decode cX10_isPainter 4 = .ok (.iload_n 1, 1) := dX10_isPainter_0_z.1.1.2
theorem dX10_isPainter_5 : decode cX10_isPainter 5 = .ok (.aload_n 0, 1) := dX10_isPainter_0_z.1.2.1.1
theorem dX10_isPainter_6 : decode cX10_isPainter 6 = .ok (.getfield 37, 3) := dX10_isPainter_0_z.1.2.1.2
theorem dX10_isPainter_9 : decode cX10_isPainter 9 = .ok (.getfield 266, 3) := dX10_isPainter_0_z.1.2.2
theorem dX10_isPainter_12 : decode cX10_isPainter 12 = .ok (.if_icmp .ge 7, 3) := dX10_isPainter_0_z.2.1.1.1
theorem dX10_isPainter_15 : decode cX10_isPainter 15 = .ok (.iconst 1, 1) := dX10_isPainter_0_z.2.1.1.2
theorem dX10_isPainter_16 : decode cX10_isPainter 16 = .ok (.goto 4, 3) := dX10_isPainter_0_z.2.1.2
theorem dX10_isPainter_19 : decode cX10_isPainter 19 = .ok (.iconst 0, 1) := dX10_isPainter_0_z.2.2.1
theorem dX10_isPainter_20 : decode cX10_isPainter 20 = .ok (.ireturn, 1) := dX10_isPainter_0_z.2.2.2
set_option maxRecDepth 100000 in
theorem dX10_canPlay_0_z : ((((decode cX10_canPlay 0 = .ok (.aload_n 0, 1) ∧ decode cX10_canPlay 1 = .ok (.iload_n 1, 1)) ∧ (decode cX10_canPlay 2 = .ok (.invokevirtual 154, 3) ∧ decode cX10_canPlay 5 = .ok (.ifCond .eq 28, 3))) ∧ ((decode cX10_canPlay 8 = .ok (.aload_n 0, 1) ∧ decode cX10_canPlay 9 = .ok (.iload_n 2, 1)) ∧ (decode cX10_canPlay 10 = .ok (.invokevirtual 154, 3) ∧ decode cX10_canPlay 13 = .ok (.ifCond .eq 20, 3)))) ∧ (((decode cX10_canPlay 16 = .ok (.iload_n 1, 1) ∧ decode cX10_canPlay 17 = .ok (.iload_n 2, 1)) ∧ (decode cX10_canPlay 18 = .ok (.if_icmp .eq 15, 3) ∧ decode cX10_canPlay 21 = .ok (.aload_n 0, 1))) ∧ ((decode cX10_canPlay 22 = .ok (.iload_n 3, 1) ∧ decode cX10_canPlay 23 = .ok (.invokevirtual 184, 3)) ∧ (decode cX10_canPlay 26 = .ok (.ifCond .eq 7, 3) ∧ decode cX10_canPlay 29 = .ok (.iconst 1, 1))))) := by decide +kernel
theorem dX10_canPlay_0 : decode cX10_canPlay 0 = .ok (.aload_n 0, 1) := dX10_canPlay_0_z.1.1.1.1
theorem dX10_canPlay_1 : decode cX10_canPlay 1 = .ok (.iload_n 1, 1) := dX10_canPlay_0_z.1.1.1.2
theorem dX10_canPlay_2 : decode cX10_canPlay 2 = .ok (.invokevirtual 154, 3) := dX10_canPlay_0_z.1.1.2.1
theorem dX10_canPlay_5 : decode cX10_canPlay 5 = .ok (.ifCond .eq 28, 3) := dX10_canPlay_0_z.1.1.2.2
theorem dX10_canPlay_8 : decode cX10_canPlay 8 = .ok (.aload_n 0, 1) := dX10_canPlay_0_z.1.2.1.1
theorem dX10_canPlay_9 : decode cX10_canPlay 9 = .ok (.iload_n 2, 1) := dX10_canPlay_0_z.1.2.1.2
theorem dX10_canPlay_10 : decode cX10_canPlay 10 = .ok (.invokevirtual 154, 3) := dX10_canPlay_0_z.1.2.2.1
theorem dX10_canPlay_13 : decode cX10_canPlay 13 = .ok (.ifCond .eq 20, 3) := dX10_canPlay_0_z.1.2.2.2
theorem dX10_canPlay_16 : decode cX10_canPlay 16 = .ok (.iload_n 1, 1) := dX10_canPlay_0_z.2.1.1.1
theorem dX10_canPlay_17 : decode cX10_canPlay 17 = .ok (.iload_n 2, 1) := dX10_canPlay_0_z.2.1.1.2
theorem dX10_canPlay_18 : decode cX10_canPlay 18 = .ok (.if_icmp .eq 15, 3) := dX10_canPlay_0_z.2.1.2.1
theorem dX10_canPlay_21 : decode cX10_canPlay 21 = .ok (.aload_n 0, 1) := dX10_canPlay_0_z.2.1.2.2
theorem dX10_canPlay_22 : decode cX10_canPlay 22 = .ok (.iload_n 3, 1) := dX10_canPlay_0_z.2.2.1.1
theorem dX10_canPlay_23 : decode cX10_canPlay 23 = .ok (.invokevirtual 184, 3) := dX10_canPlay_0_z.2.2.1.2
theorem dX10_canPlay_26 : decode cX10_canPlay 26 = .ok (.ifCond .eq 7, 3) := dX10_canPlay_0_z.2.2.2.1
theorem dX10_canPlay_29 : decode cX10_canPlay 29 = .ok (.iconst 1, 1) := dX10_canPlay_0_z.2.2.2.2
set_option maxRecDepth 100000 in
theorem dX10_canPlay_30_z : ((decode cX10_canPlay 30 = .ok (.goto 4, 3) ∧ decode cX10_canPlay 33 = .ok (.iconst 0, 1)) ∧ decode cX10_canPlay 34 = .ok (.ireturn, 1)) := by decide +kernel
theorem dX10_canPlay_30 : decode cX10_canPlay 30 = .ok (.goto 4, 3) := dX10_canPlay_30_z.1.1
theorem dX10_canPlay_33 : decode cX10_canPlay 33 = .ok (.iconst 0, 1) := dX10_canPlay_30_z.1.2
theorem dX10_canPlay_34 : decode cX10_canPlay 34 = .ok (.ireturn, 1) := dX10_canPlay_30_z.2
set_option maxRecDepth 100000 in
theorem dX10_looked_0_z : ((((decode cX10_looked 0 = .ok (.aload_n 0, 1) ∧ decode cX10_looked 1 = .ok (.getfield 49, 3)) ∧ (decode cX10_looked 4 = .ok (.iload_n 1, 1) ∧ decode cX10_looked 5 = .ok (.invokevirtual 343, 3))) ∧ ((decode cX10_looked 8 = .ok (.istore_n 2, 1) ∧ decode cX10_looked 9 = .ok (.iload_n 2, 1)) ∧ (decode cX10_looked 10 = .ok (.ifCond .ne 7, 3) ∧ decode cX10_looked 13 = .ok (.iconst 0, 1)))) ∧ (((decode cX10_looked 14 = .ok (.goto 13, 3) ∧ decode cX10_looked 17 = .ok (.aload_n 0, 1)) ∧ (decode cX10_looked 18 = .ok (.getfield 49, 3) ∧ decode cX10_looked 21 = .ok (.iload_n 1, 1))) ∧ ((decode cX10_looked 22 = .ok (.invokevirtual 379, 3) ∧ decode cX10_looked 25 = .ok (.iload_n 2, 1)) ∧ (decode cX10_looked 26 = .ok (.idiv, 1) ∧ decode cX10_looked 27 = .ok (.ireturn, 1))))) := by decide +kernel
theorem dX10_looked_0 : decode cX10_looked 0 = .ok (.aload_n 0, 1) := dX10_looked_0_z.1.1.1.1
theorem dX10_looked_1 : decode cX10_looked 1 = .ok (.getfield 49, 3) := dX10_looked_0_z.1.1.1.2
theorem dX10_looked_4 : decode cX10_looked 4 = .ok (.iload_n 1, 1) := dX10_looked_0_z.1.1.2.1
theorem dX10_looked_5 : decode cX10_looked 5 = .ok (.invokevirtual 343, 3) := dX10_looked_0_z.1.1.2.2
theorem dX10_looked_8 : decode cX10_looked 8 = .ok (.istore_n 2, 1) := dX10_looked_0_z.1.2.1.1
theorem dX10_looked_9 : decode cX10_looked 9 = .ok (.iload_n 2, 1) := dX10_looked_0_z.1.2.1.2
theorem dX10_looked_10 : decode cX10_looked 10 = .ok (.ifCond .ne 7, 3) := dX10_looked_0_z.1.2.2.1
theorem dX10_looked_13 : decode cX10_looked 13 = .ok (.iconst 0, 1) := dX10_looked_0_z.1.2.2.2
theorem dX10_looked_14 : decode cX10_looked 14 = .ok (.goto 13, 3) := dX10_looked_0_z.2.1.1.1
theorem dX10_looked_17 : decode cX10_looked 17 = .ok (.aload_n 0, 1) := dX10_looked_0_z.2.1.1.2
theorem dX10_looked_18 : decode cX10_looked 18 = .ok (.getfield 49, 3) := dX10_looked_0_z.2.1.2.1
theorem dX10_looked_21 : decode cX10_looked 21 = .ok (.iload_n 1, 1) := dX10_looked_0_z.2.1.2.2
theorem dX10_looked_22 : decode cX10_looked 22 = .ok (.invokevirtual 379, 3) := dX10_looked_0_z.2.2.1.1
theorem dX10_looked_25 : decode cX10_looked 25 = .ok (.iload_n 2, 1) := dX10_looked_0_z.2.2.1.2
theorem dX10_looked_26 : decode cX10_looked 26 = .ok (.idiv, 1) := dX10_looked_0_z.2.2.2.1
theorem dX10_looked_27 : decode cX10_looked 27 = .ok (.ireturn, 1) := dX10_looked_0_z.2.2.2.2
set_option maxRecDepth 100000 in
theorem dX10_isFace_0_z : ((((decode cX10_isFace 0 = .ok (.iload_n 0, 1) ∧ decode cX10_isFace 1 = .ok (.ifCond .lt 13, 3)) ∧ decode cX10_isFace 4 = .ok (.iload_n 0, 1)) ∧ (decode cX10_isFace 5 = .ok (.bipush 10, 2) ∧ decode cX10_isFace 7 = .ok (.if_icmp .ge 7, 3))) ∧ ((decode cX10_isFace 10 = .ok (.iconst 1, 1) ∧ decode cX10_isFace 11 = .ok (.goto 4, 3)) ∧ (decode cX10_isFace 14 = .ok (.iconst 0, 1) ∧ decode cX10_isFace 15 = .ok (.ireturn, 1)))) := by decide +kernel
theorem dX10_isFace_0 : decode cX10_isFace 0 = .ok (.iload_n 0, 1) := dX10_isFace_0_z.1.1.1.1
theorem dX10_isFace_1 : decode cX10_isFace 1 = .ok (.ifCond .lt 13, 3) := dX10_isFace_0_z.1.1.1.2
theorem dX10_isFace_4 : decode cX10_isFace 4 = .ok (.iload_n 0, 1) := dX10_isFace_0_z.1.1.2
theorem dX10_isFace_5 : decode cX10_isFace 5 = .ok (.bipush 10, 2) := dX10_isFace_0_z.1.2.1
theorem dX10_isFace_7 : decode cX10_isFace 7 = .ok (.if_icmp .ge 7, 3) := dX10_isFace_0_z.1.2.2
theorem dX10_isFace_10 : decode cX10_isFace 10 = .ok (.iconst 1, 1) := dX10_isFace_0_z.2.1.1
theorem dX10_isFace_11 : decode cX10_isFace 11 = .ok (.goto 4, 3) := dX10_isFace_0_z.2.1.2
theorem dX10_isFace_14 : decode cX10_isFace 14 = .ok (.iconst 0, 1) := dX10_isFace_0_z.2.2.1
theorem dX10_isFace_15 : decode cX10_isFace 15 = .ok (.ireturn, 1) := dX10_isFace_0_z.2.2.2
set_option maxRecDepth 100000 in
theorem dX10_isDigit_0_z : ((((decode cX10_isDigit 0 = .ok (.iload_n 0, 1) ∧ decode cX10_isDigit 1 = .ok (.ifCond .lt 13, 3)) ∧ decode cX10_isDigit 4 = .ok (.iload_n 0, 1)) ∧ (decode cX10_isDigit 5 = .ok (.bipush 9, 2) ∧ decode cX10_isDigit 7 = .ok (.if_icmp .gt 7, 3))) ∧ ((decode cX10_isDigit 10 = .ok (.iconst 1, 1) ∧ decode cX10_isDigit 11 = .ok (.goto 4, 3)) ∧ (decode cX10_isDigit 14 = .ok (.iconst 0, 1) ∧ decode cX10_isDigit 15 = .ok (.ireturn, 1)))) := by decide +kernel
theorem dX10_isDigit_0 : decode cX10_isDigit 0 = .ok (.iload_n 0, 1) := dX10_isDigit_0_z.1.1.1.1
theorem dX10_isDigit_1 : decode cX10_isDigit 1 = .ok (.ifCond .lt 13, 3) := dX10_isDigit_0_z.1.1.1.2
theorem dX10_isDigit_4 : decode cX10_isDigit 4 = .ok (.iload_n 0, 1) := dX10_isDigit_0_z.1.1.2
theorem dX10_isDigit_5 : decode cX10_isDigit 5 = .ok (.bipush 9, 2) := dX10_isDigit_0_z.1.2.1
theorem dX10_isDigit_7 : decode cX10_isDigit 7 = .ok (.if_icmp .gt 7, 3) := dX10_isDigit_0_z.1.2.2
theorem dX10_isDigit_10 : decode cX10_isDigit 10 = .ok (.iconst 1, 1) := dX10_isDigit_0_z.2.1.1
theorem dX10_isDigit_11 : decode cX10_isDigit 11 = .ok (.goto 4, 3) := dX10_isDigit_0_z.2.1.2
theorem dX10_isDigit_14 : decode cX10_isDigit 14 = .ok (.iconst 0, 1) := dX10_isDigit_0_z.2.2.1
theorem dX10_isDigit_15 : decode cX10_isDigit 15 = .ok (.ireturn, 1) := dX10_isDigit_0_z.2.2.2
set_option maxRecDepth 100000 in
theorem dX10_bit_0_z : (((decode cX10_bit 0 = .ok (.iload_n 0, 1) ∧ decode cX10_bit 1 = .ok (.iload_n 1, 1)) ∧ decode cX10_bit 2 = .ok (.ishr, 1)) ∧ ((decode cX10_bit 3 = .ok (.iconst 1, 1) ∧ decode cX10_bit 4 = .ok (.iand, 1)) ∧ decode cX10_bit 5 = .ok (.ireturn, 1))) := by decide +kernel
theorem dX10_bit_0 : decode cX10_bit 0 = .ok (.iload_n 0, 1) := dX10_bit_0_z.1.1.1
theorem dX10_bit_1 : decode cX10_bit 1 = .ok (.iload_n 1, 1) := dX10_bit_0_z.1.1.2
theorem dX10_bit_2 : decode cX10_bit 2 = .ok (.ishr, 1) := dX10_bit_0_z.1.2
theorem dX10_bit_3 : decode cX10_bit 3 = .ok (.iconst 1, 1) := dX10_bit_0_z.2.1.1
theorem dX10_bit_4 : decode cX10_bit 4 = .ok (.iand, 1) := dX10_bit_0_z.2.1.2
theorem dX10_bit_5 : decode cX10_bit 5 = .ok (.ireturn, 1) := dX10_bit_0_z.2.2
set_option maxRecDepth 100000 in
theorem dJ6_bitCount_0f7a4_0_z : ((((decode cJ6_bitCount_0f7a4 0 = .ok (.iload_n 0, 1) ∧ decode cJ6_bitCount_0f7a4 1 = .ok (.iload_n 0, 1)) ∧ (decode cJ6_bitCount_0f7a4 2 = .ok (.iconst 1, 1) ∧ decode cJ6_bitCount_0f7a4 3 = .ok (.iushr, 1))) ∧ ((decode cJ6_bitCount_0f7a4 4 = .ok (.ldc_w 265, 3) ∧ decode cJ6_bitCount_0f7a4 7 = .ok (.iand, 1)) ∧ (decode cJ6_bitCount_0f7a4 8 = .ok (.isub, 1) ∧ decode cJ6_bitCount_0f7a4 9 = .ok (.istore_n 0, 1)))) ∧ (((decode cJ6_bitCount_0f7a4 10 = .ok (.iload_n 0, 1) ∧ decode cJ6_bitCount_0f7a4 11 = .ok (.ldc_w 266, 3)) ∧ (decode cJ6_bitCount_0f7a4 14 = .ok (.iand, 1) ∧ decode cJ6_bitCount_0f7a4 15 = .ok (.iload_n 0, 1))) ∧ ((decode cJ6_bitCount_0f7a4 16 = .ok (.iconst 2, 1) ∧ decode cJ6_bitCount_0f7a4 17 = .ok (.iushr, 1)) ∧ (decode cJ6_bitCount_0f7a4 18 = .ok (.ldc_w 266, 3) ∧ decode cJ6_bitCount_0f7a4 21 = .ok (.iand, 1))))) := by decide +kernel
theorem dJ6_bitCount_0f7a4_0 : decode cJ6_bitCount_0f7a4 0 = .ok (.iload_n 0, 1) := dJ6_bitCount_0f7a4_0_z.1.1.1.1
theorem dJ6_bitCount_0f7a4_1 : decode cJ6_bitCount_0f7a4 1 = .ok (.iload_n 0, 1) := dJ6_bitCount_0f7a4_0_z.1.1.1.2
theorem dJ6_bitCount_0f7a4_2 : decode cJ6_bitCount_0f7a4 2 = .ok (.iconst 1, 1) := dJ6_bitCount_0f7a4_0_z.1.1.2.1
theorem dJ6_bitCount_0f7a4_3 : decode cJ6_bitCount_0f7a4 3 = .ok (.iushr, 1) := dJ6_bitCount_0f7a4_0_z.1.1.2.2
theorem dJ6_bitCount_0f7a4_4 : decode cJ6_bitCount_0f7a4 4 = .ok (.ldc_w 265, 3) := dJ6_bitCount_0f7a4_0_z.1.2.1.1
theorem dJ6_bitCount_0f7a4_7 : decode cJ6_bitCount_0f7a4 7 = .ok (.iand, 1) := dJ6_bitCount_0f7a4_0_z.1.2.1.2
theorem dJ6_bitCount_0f7a4_8 : decode cJ6_bitCount_0f7a4 8 = .ok (.isub, 1) := dJ6_bitCount_0f7a4_0_z.1.2.2.1
theorem dJ6_bitCount_0f7a4_9 : decode cJ6_bitCount_0f7a4 9 = .ok (.istore_n 0, 1) := dJ6_bitCount_0f7a4_0_z.1.2.2.2
theorem dJ6_bitCount_0f7a4_10 : decode cJ6_bitCount_0f7a4 10 = .ok (.iload_n 0, 1) := dJ6_bitCount_0f7a4_0_z.2.1.1.1
theorem dJ6_bitCount_0f7a4_11 : decode cJ6_bitCount_0f7a4 11 = .ok (.ldc_w 266, 3) := dJ6_bitCount_0f7a4_0_z.2.1.1.2
theorem dJ6_bitCount_0f7a4_14 : decode cJ6_bitCount_0f7a4 14 = .ok (.iand, 1) := dJ6_bitCount_0f7a4_0_z.2.1.2.1
theorem dJ6_bitCount_0f7a4_15 : decode cJ6_bitCount_0f7a4 15 = .ok (.iload_n 0, 1) := dJ6_bitCount_0f7a4_0_z.2.1.2.2
theorem dJ6_bitCount_0f7a4_16 : decode cJ6_bitCount_0f7a4 16 = .ok (.iconst 2, 1) := dJ6_bitCount_0f7a4_0_z.2.2.1.1
theorem dJ6_bitCount_0f7a4_17 : decode cJ6_bitCount_0f7a4 17 = .ok (.iushr, 1) := dJ6_bitCount_0f7a4_0_z.2.2.1.2
theorem dJ6_bitCount_0f7a4_18 : decode cJ6_bitCount_0f7a4 18 = .ok (.ldc_w 266, 3) := dJ6_bitCount_0f7a4_0_z.2.2.2.1
theorem dJ6_bitCount_0f7a4_21 : decode cJ6_bitCount_0f7a4 21 = .ok (.iand, 1) := dJ6_bitCount_0f7a4_0_z.2.2.2.2
set_option maxRecDepth 100000 in
theorem dJ6_bitCount_0f7a4_22_z : ((((decode cJ6_bitCount_0f7a4 22 = .ok (.iadd, 1) ∧ decode cJ6_bitCount_0f7a4 23 = .ok (.istore_n 0, 1)) ∧ (decode cJ6_bitCount_0f7a4 24 = .ok (.iload_n 0, 1) ∧ decode cJ6_bitCount_0f7a4 25 = .ok (.iload_n 0, 1))) ∧ ((decode cJ6_bitCount_0f7a4 26 = .ok (.iconst 4, 1) ∧ decode cJ6_bitCount_0f7a4 27 = .ok (.iushr, 1)) ∧ (decode cJ6_bitCount_0f7a4 28 = .ok (.iadd, 1) ∧ decode cJ6_bitCount_0f7a4 29 = .ok (.ldc_w 267, 3)))) ∧ (((decode cJ6_bitCount_0f7a4 32 = .ok (.iand, 1) ∧ decode cJ6_bitCount_0f7a4 33 = .ok (.istore_n 0, 1)) ∧ (decode cJ6_bitCount_0f7a4 34 = .ok (.iload_n 0, 1) ∧ decode cJ6_bitCount_0f7a4 35 = .ok (.iload_n 0, 1))) ∧ ((decode cJ6_bitCount_0f7a4 36 = .ok (.bipush 8, 2) ∧ decode cJ6_bitCount_0f7a4 38 = .ok (.iushr, 1)) ∧ (decode cJ6_bitCount_0f7a4 39 = .ok (.iadd, 1) ∧ decode cJ6_bitCount_0f7a4 40 = .ok (.istore_n 0, 1))))) := by decide +kernel
theorem dJ6_bitCount_0f7a4_22 : decode cJ6_bitCount_0f7a4 22 = .ok (.iadd, 1) := dJ6_bitCount_0f7a4_22_z.1.1.1.1
theorem dJ6_bitCount_0f7a4_23 : decode cJ6_bitCount_0f7a4 23 = .ok (.istore_n 0, 1) := dJ6_bitCount_0f7a4_22_z.1.1.1.2
theorem dJ6_bitCount_0f7a4_24 : decode cJ6_bitCount_0f7a4 24 = .ok (.iload_n 0, 1) := dJ6_bitCount_0f7a4_22_z.1.1.2.1
theorem dJ6_bitCount_0f7a4_25 : decode cJ6_bitCount_0f7a4 25 = .ok (.iload_n 0, 1) := dJ6_bitCount_0f7a4_22_z.1.1.2.2
theorem dJ6_bitCount_0f7a4_26 : decode cJ6_bitCount_0f7a4 26 = .ok (.iconst 4, 1) := dJ6_bitCount_0f7a4_22_z.1.2.1.1
theorem dJ6_bitCount_0f7a4_27 : decode cJ6_bitCount_0f7a4 27 = .ok (.iushr, 1) := dJ6_bitCount_0f7a4_22_z.1.2.1.2
theorem dJ6_bitCount_0f7a4_28 : decode cJ6_bitCount_0f7a4 28 = .ok (.iadd, 1) := dJ6_bitCount_0f7a4_22_z.1.2.2.1
theorem dJ6_bitCount_0f7a4_29 : decode cJ6_bitCount_0f7a4 29 = .ok (.ldc_w 267, 3) := dJ6_bitCount_0f7a4_22_z.1.2.2.2
theorem dJ6_bitCount_0f7a4_32 : decode cJ6_bitCount_0f7a4 32 = .ok (.iand, 1) := dJ6_bitCount_0f7a4_22_z.2.1.1.1
theorem dJ6_bitCount_0f7a4_33 : decode cJ6_bitCount_0f7a4 33 = .ok (.istore_n 0, 1) := dJ6_bitCount_0f7a4_22_z.2.1.1.2
theorem dJ6_bitCount_0f7a4_34 : decode cJ6_bitCount_0f7a4 34 = .ok (.iload_n 0, 1) := dJ6_bitCount_0f7a4_22_z.2.1.2.1
theorem dJ6_bitCount_0f7a4_35 : decode cJ6_bitCount_0f7a4 35 = .ok (.iload_n 0, 1) := dJ6_bitCount_0f7a4_22_z.2.1.2.2
theorem dJ6_bitCount_0f7a4_36 : decode cJ6_bitCount_0f7a4 36 = .ok (.bipush 8, 2) := dJ6_bitCount_0f7a4_22_z.2.2.1.1
theorem dJ6_bitCount_0f7a4_38 : decode cJ6_bitCount_0f7a4 38 = .ok (.iushr, 1) := dJ6_bitCount_0f7a4_22_z.2.2.1.2
theorem dJ6_bitCount_0f7a4_39 : decode cJ6_bitCount_0f7a4 39 = .ok (.iadd, 1) := dJ6_bitCount_0f7a4_22_z.2.2.2.1
theorem dJ6_bitCount_0f7a4_40 : decode cJ6_bitCount_0f7a4 40 = .ok (.istore_n 0, 1) := dJ6_bitCount_0f7a4_22_z.2.2.2.2
set_option maxRecDepth 100000 in
theorem dJ6_bitCount_0f7a4_41_z : ((((decode cJ6_bitCount_0f7a4 41 = .ok (.iload_n 0, 1) ∧ decode cJ6_bitCount_0f7a4 42 = .ok (.iload_n 0, 1)) ∧ decode cJ6_bitCount_0f7a4 43 = .ok (.bipush 16, 2)) ∧ (decode cJ6_bitCount_0f7a4 45 = .ok (.iushr, 1) ∧ decode cJ6_bitCount_0f7a4 46 = .ok (.iadd, 1))) ∧ (((decode cJ6_bitCount_0f7a4 47 = .ok (.istore_n 0, 1) ∧ decode cJ6_bitCount_0f7a4 48 = .ok (.iload_n 0, 1)) ∧ decode cJ6_bitCount_0f7a4 49 = .ok (.bipush 63, 2)) ∧ (decode cJ6_bitCount_0f7a4 51 = .ok (.iand, 1) ∧ decode cJ6_bitCount_0f7a4 52 = .ok (.ireturn, 1)))) := by decide +kernel
theorem dJ6_bitCount_0f7a4_41 : decode cJ6_bitCount_0f7a4 41 = .ok (.iload_n 0, 1) := dJ6_bitCount_0f7a4_41_z.1.1.1.1
theorem dJ6_bitCount_0f7a4_42 : decode cJ6_bitCount_0f7a4 42 = .ok (.iload_n 0, 1) := dJ6_bitCount_0f7a4_41_z.1.1.1.2
theorem dJ6_bitCount_0f7a4_43 : decode cJ6_bitCount_0f7a4 43 = .ok (.bipush 16, 2) := dJ6_bitCount_0f7a4_41_z.1.1.2
theorem dJ6_bitCount_0f7a4_45 : decode cJ6_bitCount_0f7a4 45 = .ok (.iushr, 1) := dJ6_bitCount_0f7a4_41_z.1.2.1
theorem dJ6_bitCount_0f7a4_46 : decode cJ6_bitCount_0f7a4 46 = .ok (.iadd, 1) := dJ6_bitCount_0f7a4_41_z.1.2.2
theorem dJ6_bitCount_0f7a4_47 : decode cJ6_bitCount_0f7a4 47 = .ok (.istore_n 0, 1) := dJ6_bitCount_0f7a4_41_z.2.1.1.1
theorem dJ6_bitCount_0f7a4_48 : decode cJ6_bitCount_0f7a4 48 = .ok (.iload_n 0, 1) := dJ6_bitCount_0f7a4_41_z.2.1.1.2
theorem dJ6_bitCount_0f7a4_49 : decode cJ6_bitCount_0f7a4 49 = .ok (.bipush 63, 2) := dJ6_bitCount_0f7a4_41_z.2.1.2
theorem dJ6_bitCount_0f7a4_51 : decode cJ6_bitCount_0f7a4 51 = .ok (.iand, 1) := dJ6_bitCount_0f7a4_41_z.2.2.1
theorem dJ6_bitCount_0f7a4_52 : decode cJ6_bitCount_0f7a4 52 = .ok (.ireturn, 1) := dJ6_bitCount_0f7a4_41_z.2.2.2
set_option maxRecDepth 100000 in
theorem dJ7_fill_53178_0_z : ((((decode cJ7_fill_53178 0 = .ok (.iconst 0, 1) ∧ decode cJ7_fill_53178 1 = .ok (.istore_n 2, 1)) ∧ (decode cJ7_fill_53178 2 = .ok (.aload_n 0, 1) ∧ decode cJ7_fill_53178 3 = .ok (.arraylength, 1))) ∧ ((decode cJ7_fill_53178 4 = .ok (.istore_n 3, 1) ∧ decode cJ7_fill_53178 5 = .ok (.iload_n 2, 1)) ∧ (decode cJ7_fill_53178 6 = .ok (.iload_n 3, 1) ∧ decode cJ7_fill_53178 7 = .ok (.if_icmp .ge 13, 3)))) ∧ (((decode cJ7_fill_53178 10 = .ok (.aload_n 0, 1) ∧ decode cJ7_fill_53178 11 = .ok (.iload_n 2, 1)) ∧ (decode cJ7_fill_53178 12 = .ok (.iload_n 1, 1) ∧ decode cJ7_fill_53178 13 = .ok (.iastore, 1))) ∧ ((decode cJ7_fill_53178 14 = .ok (.iinc 2 1, 3) ∧ decode cJ7_fill_53178 17 = .ok (.goto (-12), 3)) ∧ decode cJ7_fill_53178 20 = .ok (.return_, 1)))) := by decide +kernel
theorem dJ7_fill_53178_0 : decode cJ7_fill_53178 0 = .ok (.iconst 0, 1) := dJ7_fill_53178_0_z.1.1.1.1
theorem dJ7_fill_53178_1 : decode cJ7_fill_53178 1 = .ok (.istore_n 2, 1) := dJ7_fill_53178_0_z.1.1.1.2
theorem dJ7_fill_53178_2 : decode cJ7_fill_53178 2 = .ok (.aload_n 0, 1) := dJ7_fill_53178_0_z.1.1.2.1
theorem dJ7_fill_53178_3 : decode cJ7_fill_53178 3 = .ok (.arraylength, 1) := dJ7_fill_53178_0_z.1.1.2.2
theorem dJ7_fill_53178_4 : decode cJ7_fill_53178 4 = .ok (.istore_n 3, 1) := dJ7_fill_53178_0_z.1.2.1.1
theorem dJ7_fill_53178_5 : decode cJ7_fill_53178 5 = .ok (.iload_n 2, 1) := dJ7_fill_53178_0_z.1.2.1.2
theorem dJ7_fill_53178_6 : decode cJ7_fill_53178 6 = .ok (.iload_n 3, 1) := dJ7_fill_53178_0_z.1.2.2.1
theorem dJ7_fill_53178_7 : decode cJ7_fill_53178 7 = .ok (.if_icmp .ge 13, 3) := dJ7_fill_53178_0_z.1.2.2.2
theorem dJ7_fill_53178_10 : decode cJ7_fill_53178 10 = .ok (.aload_n 0, 1) := dJ7_fill_53178_0_z.2.1.1.1
theorem dJ7_fill_53178_11 : decode cJ7_fill_53178 11 = .ok (.iload_n 2, 1) := dJ7_fill_53178_0_z.2.1.1.2
theorem dJ7_fill_53178_12 : decode cJ7_fill_53178 12 = .ok (.iload_n 1, 1) := dJ7_fill_53178_0_z.2.1.2.1
theorem dJ7_fill_53178_13 : decode cJ7_fill_53178 13 = .ok (.iastore, 1) := dJ7_fill_53178_0_z.2.1.2.2
theorem dJ7_fill_53178_14 : decode cJ7_fill_53178 14 = .ok (.iinc 2 1, 3) := dJ7_fill_53178_0_z.2.2.1.1
theorem dJ7_fill_53178_17 : decode cJ7_fill_53178 17 = .ok (.goto (-12), 3) := dJ7_fill_53178_0_z.2.2.1.2
theorem dJ7_fill_53178_20 : decode cJ7_fill_53178 20 = .ok (.return_, 1) := dJ7_fill_53178_0_z.2.2.2
