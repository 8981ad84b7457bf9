abbrev cX1_become : ByteArray := prog_3_method_2_code
def yX1_become : MethodName := ⟨RX1, "become", "(LNinePortraits$Court;)V"⟩
abbrev cX2_read : ByteArray := prog_4_method_2_code
def yX2_read : MethodName := ⟨RX2, "read", "(LNinePortraits$Tape;LNinePortraits$Court;)I"⟩
abbrev cX2_clause : ByteArray := prog_4_method_3_code
def yX2_clause : MethodName := ⟨RX2, "clause", "()Z"⟩
abbrev cX2_items : ByteArray := prog_4_method_4_code
def yX2_items : MethodName := ⟨RX2, "items", "([C[I[II)Z"⟩
abbrev cX2_placeOf : ByteArray := prog_4_method_5_code
def yX2_placeOf : MethodName := ⟨RX2, "placeOf", "(I[C)I"⟩
abbrev cX5_read : ByteArray := prog_7_method_2_code
def yX5_read : MethodName := ⟨RX5, "read", "(LNinePortraits$Tape;)I"⟩
abbrev cX5_clause : ByteArray := prog_7_method_4_code
def yX5_clause : MethodName := ⟨RX5, "clause", "()Z"⟩
abbrev cX5_condition : ByteArray := prog_7_method_5_code
def yX5_condition : MethodName := ⟨RX5, "condition", "(IZ)Z"⟩
abbrev cX5_unit : ByteArray := prog_7_method_6_code
def yX5_unit : MethodName := ⟨RX5, "unit", "(IZ)Z"⟩
abbrev cX5_sum : ByteArray := prog_7_method_7_code
def yX5_sum : MethodName := ⟨RX5, "sum", "(I)Z"⟩
abbrev cX5_atom : ByteArray := prog_7_method_8_code
def yX5_atom : MethodName := ⟨RX5, "atom", "(I)Z"⟩
abbrev cX5_put : ByteArray := prog_7_method_9_code
def yX5_put : MethodName := ⟨RX5, "put", "(II)V"⟩
abbrev cX5_isComparison : ByteArray := prog_7_method_10_code
def yX5_isComparison : MethodName := ⟨RX5, "isComparison", "(I)Z"⟩
abbrev cX5_isArithmetic : ByteArray := prog_7_method_11_code
def yX5_isArithmetic : MethodName := ⟨RX5, "isArithmetic", "(I)Z"⟩
abbrev cX10_fault : ByteArray := prog_1_method_4_code
def yX10_fault : MethodName := ⟨RX10, "fault", "(I)I"⟩
abbrev cX10_takeCourt : ByteArray := prog_1_method_6_code
def yX10_takeCourt : MethodName := ⟨RX10, "takeCourt", "()I"⟩
set_option maxRecDepth 100000 in
theorem dX1_become_0_z : ((((decode cX1_become 0 = .ok (.aload_n 0, 1) ∧ decode cX1_become 1 = .ok (.aload_n 1, 1)) ∧ (decode cX1_become 2 = .ok (.getfield 21, 3) ∧ decode cX1_become 5 = .ok (.putfield 21, 3))) ∧ ((decode cX1_become 8 = .ok (.aload_n 0, 1) ∧ decode cX1_become 9 = .ok (.aload_n 1, 1)) ∧ (decode cX1_become 10 = .ok (.getfield 25, 3) ∧ decode cX1_become 13 = .ok (.putfield 25, 3)))) ∧ (((decode cX1_become 16 = .ok (.aload_n 1, 1) ∧ decode cX1_become 17 = .ok (.getfield 9, 3)) ∧ (decode cX1_become 20 = .ok (.iconst 0, 1) ∧ decode cX1_become 21 = .ok (.aload_n 0, 1))) ∧ ((decode cX1_become 22 = .ok (.getfield 9, 3) ∧ decode cX1_become 25 = .ok (.iconst 0, 1)) ∧ (decode cX1_become 26 = .ok (.aload_n 0, 1) ∧ decode cX1_become 27 = .ok (.getfield 9, 3))))) := by decide +kernel
theorem dX1_become_0 : decode cX1_become 0 = .ok (.aload_n 0, 1) := dX1_become_0_z.1.1.1.1
theorem dX1_become_1 : decode cX1_become 1 = .ok (.aload_n 1, 1) := dX1_become_0_z.1.1.1.2
theorem dX1_become_2 : decode cX1_become 2 = .ok (.getfield 21, 3) := dX1_become_0_z.1.1.2.1
theorem dX1_become_5 : decode cX1_become 5 = .ok (.putfield 21, 3) := dX1_become_0_z.1.1.2.2
theorem dX1_become_8 : decode cX1_become 8 = .ok (.aload_n 0, 1) := dX1_become_0_z.1.2.1.1
theorem dX1_become_9 : decode cX1_become 9 = .ok (.aload_n 1, 1) := dX1_become_0_z.1.2.1.2
theorem dX1_become_10 : decode cX1_become 10 = .ok (.getfield 25, 3) := dX1_become_0_z.1.2.2.1
theorem dX1_become_13 : decode cX1_become 13 = .ok (.putfield 25, 3) := dX1_become_0_z.1.2.2.2
theorem dX1_become_16 : decode cX1_become 16 = .ok (.aload_n 1, 1) := dX1_become_0_z.2.1.1.1
theorem dX1_become_17 : decode cX1_become 17 = .ok (.getfield 9, 3) := dX1_become_0_z.2.1.1.2
theorem dX1_become_20 : decode cX1_become 20 = .ok (.iconst 0, 1) := dX1_become_0_z.2.1.2.1
theorem dX1_become_21 : decode cX1_become 21 = .ok (.aload_n 0, 1) := dX1_become_0_z.2.1.2.2
theorem dX1_become_22 : decode cX1_become 22 = .ok (.getfield 9, 3) := dX1_become_0_z.2.2.1.1
theorem dX1_become_25 : decode cX1_become 25 = .ok (.iconst 0, 1) := dX1_become_0_z.2.2.1.2
theorem dX1_become_26 : decode cX1_become 26 = .ok (.aload_n 0, 1) := dX1_become_0_z.2.2.2.1
theorem dX1_become_27 : decode cX1_become 27 = .ok (.getfield 9, 3) := dX1_become_0_z.2.2.2.2
set_option maxRecDepth 100000 in
theorem dX1_become_30_z : ((((decode cX1_become 30 = .ok (.arraylength, 1) ∧ decode cX1_become 31 = .ok (.invokestatic 28, 3)) ∧ (decode cX1_become 34 = .ok (.aload_n 1, 1) ∧ decode cX1_become 35 = .ok (.getfield 15, 3))) ∧ ((decode cX1_become 38 = .ok (.iconst 0, 1) ∧ decode cX1_become 39 = .ok (.aload_n 0, 1)) ∧ (decode cX1_become 40 = .ok (.getfield 15, 3) ∧ decode cX1_become 43 = .ok (.iconst 0, 1)))) ∧ (((decode cX1_become 44 = .ok (.aload_n 0, 1) ∧ decode cX1_become 45 = .ok (.getfield 15, 3)) ∧ (decode cX1_become 48 = .ok (.arraylength, 1) ∧ decode cX1_become 49 = .ok (.invokestatic 28, 3))) ∧ ((decode cX1_become 52 = .ok (.aload_n 1, 1) ∧ decode cX1_become 53 = .ok (.getfield 18, 3)) ∧ (decode cX1_become 56 = .ok (.iconst 0, 1) ∧ decode cX1_become 57 = .ok (.aload_n 0, 1))))) := by decide +kernel
theorem dX1_become_30 : decode cX1_become 30 = .ok (.arraylength, 1) := dX1_become_30_z.1.1.1.1
theorem dX1_become_31 : decode cX1_become 31 = .ok (.invokestatic 28, 3) := dX1_become_30_z.1.1.1.2
theorem dX1_become_34 : decode cX1_become 34 = .ok (.aload_n 1, 1) := dX1_become_30_z.1.1.2.1
theorem dX1_become_35 : decode cX1_become 35 = .ok (.getfield 15, 3) := dX1_become_30_z.1.1.2.2
theorem dX1_become_38 : decode cX1_become 38 = .ok (.iconst 0, 1) := dX1_become_30_z.1.2.1.1
theorem dX1_become_39 : decode cX1_become 39 = .ok (.aload_n 0, 1) := dX1_become_30_z.1.2.1.2
theorem dX1_become_40 : decode cX1_become 40 = .ok (.getfield 15, 3) := dX1_become_30_z.1.2.2.1
theorem dX1_become_43 : decode cX1_become 43 = .ok (.iconst 0, 1) := dX1_become_30_z.1.2.2.2
theorem dX1_become_44 : decode cX1_become 44 = .ok (.aload_n 0, 1) := dX1_become_30_z.2.1.1.1
theorem dX1_become_45 : decode cX1_become 45 = .ok (.getfield 15, 3) := dX1_become_30_z.2.1.1.2
theorem dX1_become_48 : decode cX1_become 48 = .ok (.arraylength, 1) := dX1_become_30_z.2.1.2.1
theorem dX1_become_49 : decode cX1_become 49 = .ok (.invokestatic 28, 3) := dX1_become_30_z.2.1.2.2
theorem dX1_become_52 : decode cX1_become 52 = .ok (.aload_n 1, 1) := dX1_become_30_z.2.2.1.1
theorem dX1_become_53 : decode cX1_become 53 = .ok (.getfield 18, 3) := dX1_become_30_z.2.2.1.2
theorem dX1_become_56 : decode cX1_become 56 = .ok (.iconst 0, 1) := dX1_become_30_z.2.2.2.1
theorem dX1_become_57 : decode cX1_become 57 = .ok (.aload_n 0, 1) := dX1_become_30_z.2.2.2.2
set_option maxRecDepth 100000 in
theorem dX1_become_58_z : (((decode cX1_become 58 = .ok (.getfield 18, 3) ∧ decode cX1_become 61 = .ok (.iconst 0, 1)) ∧ (decode cX1_become 62 = .ok (.aload_n 0, 1) ∧ decode cX1_become 63 = .ok (.getfield 18, 3))) ∧ ((decode cX1_become 66 = .ok (.arraylength, 1) ∧ decode cX1_become 67 = .ok (.invokestatic 28, 3)) ∧ decode cX1_become 70 = .ok (.return_, 1))) := by decide +kernel
theorem dX1_become_58 : decode cX1_become 58 = .ok (.getfield 18, 3) := dX1_become_58_z.1.1.1
theorem dX1_become_61 : decode cX1_become 61 = .ok (.iconst 0, 1) := dX1_become_58_z.1.1.2
theorem dX1_become_62 : decode cX1_become 62 = .ok (.aload_n 0, 1) := dX1_become_58_z.1.2.1
theorem dX1_become_63 : decode cX1_become 63 = .ok (.getfield 18, 3) := dX1_become_58_z.1.2.2
theorem dX1_become_66 : decode cX1_become 66 = .ok (.arraylength, 1) := dX1_become_58_z.2.1.1
theorem dX1_become_67 : decode cX1_become 67 = .ok (.invokestatic 28, 3) := dX1_become_58_z.2.1.2
theorem dX1_become_70 : decode cX1_become 70 = .ok (.return_, 1) := dX1_become_58_z.2.2
set_option maxRecDepth 100000 in
theorem dX2_read_0_z : ((((decode cX2_read 0 = .ok (.aload_n 0, 1) ∧ decode cX2_read 1 = .ok (.aload_n 1, 1)) ∧ (decode cX2_read 2 = .ok (.putfield 9, 3) ∧ decode cX2_read 5 = .ok (.aload_n 0, 1))) ∧ ((decode cX2_read 6 = .ok (.aload_n 2, 1) ∧ decode cX2_read 7 = .ok (.putfield 15, 3)) ∧ (decode cX2_read 10 = .ok (.aload_n 0, 1) ∧ decode cX2_read 11 = .ok (.getfield 9, 3)))) ∧ (((decode cX2_read 14 = .ok (.iconst 0, 1) ∧ decode cX2_read 15 = .ok (.putfield 19, 3)) ∧ (decode cX2_read 18 = .ok (.aload_n 0, 1) ∧ decode cX2_read 19 = .ok (.getfield 15, 3))) ∧ ((decode cX2_read 22 = .ok (.iconst 0, 1) ∧ decode cX2_read 23 = .ok (.putfield 25, 3)) ∧ (decode cX2_read 26 = .ok (.aload_n 0, 1) ∧ decode cX2_read 27 = .ok (.getfield 15, 3))))) := by decide +kernel
theorem dX2_read_0 : decode cX2_read 0 = .ok (.aload_n 0, 1) := dX2_read_0_z.1.1.1.1
theorem dX2_read_1 : decode cX2_read 1 = .ok (.aload_n 1, 1) := dX2_read_0_z.1.1.1.2
theorem dX2_read_2 : decode cX2_read 2 = .ok (.putfield 9, 3) := dX2_read_0_z.1.1.2.1
theorem dX2_read_5 : decode cX2_read 5 = .ok (.aload_n 0, 1) := dX2_read_0_z.1.1.2.2
theorem dX2_read_6 : decode cX2_read 6 = .ok (.aload_n 2, 1) := dX2_read_0_z.1.2.1.1
theorem dX2_read_7 : decode cX2_read 7 = .ok (.putfield 15, 3) := dX2_read_0_z.1.2.1.2
theorem dX2_read_10 : decode cX2_read 10 = .ok (.aload_n 0, 1) := dX2_read_0_z.1.2.2.1
theorem dX2_read_11 : decode cX2_read 11 = .ok (.getfield 9, 3) := dX2_read_0_z.1.2.2.2
theorem dX2_read_14 : decode cX2_read 14 = .ok (.iconst 0, 1) := dX2_read_0_z.2.1.1.1
theorem dX2_read_15 : decode cX2_read 15 = .ok (.putfield 19, 3) := dX2_read_0_z.2.1.1.2
theorem dX2_read_18 : decode cX2_read 18 = .ok (.aload_n 0, 1) := dX2_read_0_z.2.1.2.1
theorem dX2_read_19 : decode cX2_read 19 = .ok (.getfield 15, 3) := dX2_read_0_z.2.1.2.2
theorem dX2_read_22 : decode cX2_read 22 = .ok (.iconst 0, 1) := dX2_read_0_z.2.2.1.1
theorem dX2_read_23 : decode cX2_read 23 = .ok (.putfield 25, 3) := dX2_read_0_z.2.2.1.2
theorem dX2_read_26 : decode cX2_read 26 = .ok (.aload_n 0, 1) := dX2_read_0_z.2.2.2.1
theorem dX2_read_27 : decode cX2_read 27 = .ok (.getfield 15, 3) := dX2_read_0_z.2.2.2.2
set_option maxRecDepth 100000 in
theorem dX2_read_30_z : ((((decode cX2_read 30 = .ok (.iconst 0, 1) ∧ decode cX2_read 31 = .ok (.putfield 30, 3)) ∧ (decode cX2_read 34 = .ok (.aload_n 0, 1) ∧ decode cX2_read 35 = .ok (.iconst 0, 1))) ∧ ((decode cX2_read 36 = .ok (.putfield 33, 3) ∧ decode cX2_read 39 = .ok (.getstatic 37, 3)) ∧ (decode cX2_read 42 = .ok (.iconst 0, 1) ∧ decode cX2_read 43 = .ok (.aload_n 0, 1)))) ∧ (((decode cX2_read 44 = .ok (.getfield 15, 3) ∧ decode cX2_read 47 = .ok (.getfield 41, 3)) ∧ (decode cX2_read 50 = .ok (.iconst 0, 1) ∧ decode cX2_read 51 = .ok (.getstatic 37, 3))) ∧ ((decode cX2_read 54 = .ok (.arraylength, 1) ∧ decode cX2_read 55 = .ok (.invokestatic 44, 3)) ∧ (decode cX2_read 58 = .ok (.aload_n 0, 1) ∧ decode cX2_read 59 = .ok (.invokevirtual 50, 3))))) := by decide +kernel
theorem dX2_read_30 : decode cX2_read 30 = .ok (.iconst 0, 1) := dX2_read_30_z.1.1.1.1
theorem dX2_read_31 : decode cX2_read 31 = .ok (.putfield 30, 3) := dX2_read_30_z.1.1.1.2
theorem dX2_read_34 : decode cX2_read 34 = .ok (.aload_n 0, 1) := dX2_read_30_z.1.1.2.1
theorem dX2_read_35 : decode cX2_read 35 = .ok (.iconst 0, 1) := dX2_read_30_z.1.1.2.2
theorem dX2_read_36 : decode cX2_read 36 = .ok (.putfield 33, 3) := dX2_read_30_z.1.2.1.1
theorem dX2_read_39 : decode cX2_read 39 = .ok (.getstatic 37, 3) := dX2_read_30_z.1.2.1.2
theorem dX2_read_42 : decode cX2_read 42 = .ok (.iconst 0, 1) := dX2_read_30_z.1.2.2.1
theorem dX2_read_43 : decode cX2_read 43 = .ok (.aload_n 0, 1) := dX2_read_30_z.1.2.2.2
theorem dX2_read_44 : decode cX2_read 44 = .ok (.getfield 15, 3) := dX2_read_30_z.2.1.1.1
theorem dX2_read_47 : decode cX2_read 47 = .ok (.getfield 41, 3) := dX2_read_30_z.2.1.1.2
theorem dX2_read_50 : decode cX2_read 50 = .ok (.iconst 0, 1) := dX2_read_30_z.2.1.2.1
theorem dX2_read_51 : decode cX2_read 51 = .ok (.getstatic 37, 3) := dX2_read_30_z.2.1.2.2
theorem dX2_read_54 : decode cX2_read 54 = .ok (.arraylength, 1) := dX2_read_30_z.2.2.1.1
theorem dX2_read_55 : decode cX2_read 55 = .ok (.invokestatic 44, 3) := dX2_read_30_z.2.2.1.2
theorem dX2_read_58 : decode cX2_read 58 = .ok (.aload_n 0, 1) := dX2_read_30_z.2.2.2.1
theorem dX2_read_59 : decode cX2_read 59 = .ok (.invokevirtual 50, 3) := dX2_read_30_z.2.2.2.2
set_option maxRecDepth 100000 in
theorem dX2_read_62_z : ((((decode cX2_read 62 = .ok (.istore_n 3, 1) ∧ decode cX2_read 63 = .ok (.iconst 0, 1)) ∧ (decode cX2_read 64 = .ok (.istore 4, 2) ∧ decode cX2_read 66 = .ok (.iload 4, 2))) ∧ ((decode cX2_read 68 = .ok (.aload_n 0, 1) ∧ decode cX2_read 69 = .ok (.getfield 9, 3)) ∧ (decode cX2_read 72 = .ok (.getfield 54, 3) ∧ decode cX2_read 75 = .ok (.if_icmp .ge 30, 3)))) ∧ (((decode cX2_read 78 = .ok (.iload_n 3, 1) ∧ decode cX2_read 79 = .ok (.ifCond .eq 26, 3)) ∧ (decode cX2_read 82 = .ok (.aload_n 0, 1) ∧ decode cX2_read 83 = .ok (.getfield 9, 3))) ∧ ((decode cX2_read 86 = .ok (.bipush 59, 2) ∧ decode cX2_read 88 = .ok (.invokevirtual 57, 3)) ∧ (decode cX2_read 91 = .ok (.ifCond .eq 14, 3) ∧ decode cX2_read 94 = .ok (.aload_n 0, 1))))) := by decide +kernel
theorem dX2_read_62 : decode cX2_read 62 = .ok (.istore_n 3, 1) := dX2_read_62_z.1.1.1.1
theorem dX2_read_63 : decode cX2_read 63 = .ok (.iconst 0, 1) := dX2_read_62_z.1.1.1.2
theorem dX2_read_64 : decode cX2_read 64 = .ok (.istore 4, 2) := dX2_read_62_z.1.1.2.1
theorem dX2_read_66 : decode cX2_read 66 = .ok (.iload 4, 2) := dX2_read_62_z.1.1.2.2
theorem dX2_read_68 : decode cX2_read 68 = .ok (.aload_n 0, 1) := dX2_read_62_z.1.2.1.1
theorem dX2_read_69 : decode cX2_read 69 = .ok (.getfield 9, 3) := dX2_read_62_z.1.2.1.2
theorem dX2_read_72 : decode cX2_read 72 = .ok (.getfield 54, 3) := dX2_read_62_z.1.2.2.1
theorem dX2_read_75 : decode cX2_read 75 = .ok (.if_icmp .ge 30, 3) := dX2_read_62_z.1.2.2.2
theorem dX2_read_78 : decode cX2_read 78 = .ok (.iload_n 3, 1) := dX2_read_62_z.2.1.1.1
theorem dX2_read_79 : decode cX2_read 79 = .ok (.ifCond .eq 26, 3) := dX2_read_62_z.2.1.1.2
theorem dX2_read_82 : decode cX2_read 82 = .ok (.aload_n 0, 1) := dX2_read_62_z.2.1.2.1
theorem dX2_read_83 : decode cX2_read 83 = .ok (.getfield 9, 3) := dX2_read_62_z.2.1.2.2
theorem dX2_read_86 : decode cX2_read 86 = .ok (.bipush 59, 2) := dX2_read_62_z.2.2.1.1
theorem dX2_read_88 : decode cX2_read 88 = .ok (.invokevirtual 57, 3) := dX2_read_62_z.2.2.1.2
theorem dX2_read_91 : decode cX2_read 91 = .ok (.ifCond .eq 14, 3) := dX2_read_62_z.2.2.2.1
theorem dX2_read_94 : decode cX2_read 94 = .ok (.aload_n 0, 1) := dX2_read_62_z.2.2.2.2
set_option maxRecDepth 100000 in
theorem dX2_read_95_z : ((((decode cX2_read 95 = .ok (.invokevirtual 50, 3) ∧ decode cX2_read 98 = .ok (.istore_n 3, 1)) ∧ (decode cX2_read 99 = .ok (.iinc 4 1, 3) ∧ decode cX2_read 102 = .ok (.goto (-36), 3))) ∧ ((decode cX2_read 105 = .ok (.iload_n 3, 1) ∧ decode cX2_read 106 = .ok (.ifCond .eq 35, 3)) ∧ (decode cX2_read 109 = .ok (.aload_n 0, 1) ∧ decode cX2_read 110 = .ok (.getfield 9, 3)))) ∧ (((decode cX2_read 113 = .ok (.invokevirtual 61, 3) ∧ decode cX2_read 116 = .ok (.ifCond .ne 25, 3)) ∧ (decode cX2_read 119 = .ok (.aload_n 0, 1) ∧ decode cX2_read 120 = .ok (.getfield 15, 3))) ∧ ((decode cX2_read 123 = .ok (.getfield 25, 3) ∧ decode cX2_read 126 = .ok (.ifCond .le 15, 3)) ∧ (decode cX2_read 129 = .ok (.aload_n 0, 1) ∧ decode cX2_read 130 = .ok (.getfield 15, 3))))) := by decide +kernel
theorem dX2_read_95 : decode cX2_read 95 = .ok (.invokevirtual 50, 3) := dX2_read_95_z.1.1.1.1
theorem dX2_read_98 : decode cX2_read 98 = .ok (.istore_n 3, 1) := dX2_read_95_z.1.1.1.2
theorem dX2_read_99 : decode cX2_read 99 = .ok (.iinc 4 1, 3) := dX2_read_95_z.1.1.2.1
theorem dX2_read_102 : decode cX2_read 102 = .ok (.goto (-36), 3) := dX2_read_95_z.1.1.2.2
theorem dX2_read_105 : decode cX2_read 105 = .ok (.iload_n 3, 1) := dX2_read_95_z.1.2.1.1
theorem dX2_read_106 : decode cX2_read 106 = .ok (.ifCond .eq 35, 3) := dX2_read_95_z.1.2.1.2
theorem dX2_read_109 : decode cX2_read 109 = .ok (.aload_n 0, 1) := dX2_read_95_z.1.2.2.1
theorem dX2_read_110 : decode cX2_read 110 = .ok (.getfield 9, 3) := dX2_read_95_z.1.2.2.2
theorem dX2_read_113 : decode cX2_read 113 = .ok (.invokevirtual 61, 3) := dX2_read_95_z.2.1.1.1
theorem dX2_read_116 : decode cX2_read 116 = .ok (.ifCond .ne 25, 3) := dX2_read_95_z.2.1.1.2
theorem dX2_read_119 : decode cX2_read 119 = .ok (.aload_n 0, 1) := dX2_read_95_z.2.1.2.1
theorem dX2_read_120 : decode cX2_read 120 = .ok (.getfield 15, 3) := dX2_read_95_z.2.1.2.2
theorem dX2_read_123 : decode cX2_read 123 = .ok (.getfield 25, 3) := dX2_read_95_z.2.2.1.1
theorem dX2_read_126 : decode cX2_read 126 = .ok (.ifCond .le 15, 3) := dX2_read_95_z.2.2.1.2
theorem dX2_read_129 : decode cX2_read 129 = .ok (.aload_n 0, 1) := dX2_read_95_z.2.2.2.1
theorem dX2_read_130 : decode cX2_read 130 = .ok (.getfield 15, 3) := dX2_read_95_z.2.2.2.2
set_option maxRecDepth 100000 in
theorem dX2_read_133_z : (((decode cX2_read 133 = .ok (.getfield 30, 3) ∧ decode cX2_read 136 = .ok (.ifCond .le 5, 3)) ∧ (decode cX2_read 139 = .ok (.iconst (-1), 1) ∧ decode cX2_read 140 = .ok (.ireturn, 1))) ∧ ((decode cX2_read 141 = .ok (.aload_n 0, 1) ∧ decode cX2_read 142 = .ok (.getfield 9, 3)) ∧ (decode cX2_read 145 = .ok (.getfield 19, 3) ∧ decode cX2_read 148 = .ok (.ireturn, 1)))) := by decide +kernel
theorem dX2_read_133 : decode cX2_read 133 = .ok (.getfield 30, 3) := dX2_read_133_z.1.1.1
theorem dX2_read_136 : decode cX2_read 136 = .ok (.ifCond .le 5, 3) := dX2_read_133_z.1.1.2
theorem dX2_read_139 : decode cX2_read 139 = .ok (.iconst (-1), 1) := dX2_read_133_z.1.2.1
theorem dX2_read_140 : decode cX2_read 140 = .ok (.ireturn, 1) := dX2_read_133_z.1.2.2
theorem dX2_read_141 : decode cX2_read 141 = .ok (.aload_n 0, 1) := dX2_read_133_z.2.1.1
theorem dX2_read_142 : decode cX2_read 142 = .ok (.getfield 9, 3) := dX2_read_133_z.2.1.2
theorem dX2_read_145 : decode cX2_read 145 = .ok (.getfield 19, 3) := dX2_read_133_z.2.2.1
theorem dX2_read_148 : decode cX2_read 148 = .ok (.ireturn, 1) := dX2_read_133_z.2.2.2
set_option maxRecDepth 100000 in
theorem dX2_clause_0_z : ((((decode cX2_clause 0 = .ok (.aload_n 0, 1) ∧ decode cX2_clause 1 = .ok (.getfield 9, 3)) ∧ (decode cX2_clause 4 = .ok (.invokevirtual 61, 3) ∧ decode cX2_clause 7 = .ok (.istore_n 1, 1))) ∧ ((decode cX2_clause 8 = .ok (.iload_n 1, 1) ∧ decode cX2_clause 9 = .ok (.bipush 115, 2)) ∧ (decode cX2_clause 11 = .ok (.if_icmp .ne 47, 3) ∧ decode cX2_clause 14 = .ok (.aload_n 0, 1)))) ∧ (((decode cX2_clause 15 = .ok (.getfield 33, 3) ∧ decode cX2_clause 18 = .ok (.ifCond .ne 40, 3)) ∧ (decode cX2_clause 21 = .ok (.aload_n 0, 1) ∧ decode cX2_clause 22 = .ok (.iconst 1, 1))) ∧ ((decode cX2_clause 23 = .ok (.putfield 33, 3) ∧ decode cX2_clause 26 = .ok (.aload_n 0, 1)) ∧ (decode cX2_clause 27 = .ok (.getfield 9, 3) ∧ decode cX2_clause 30 = .ok (.dup, 1))))) := by decide +kernel
theorem dX2_clause_0 : decode cX2_clause 0 = .ok (.aload_n 0, 1) := dX2_clause_0_z.1.1.1.1
theorem dX2_clause_1 : decode cX2_clause 1 = .ok (.getfield 9, 3) := dX2_clause_0_z.1.1.1.2
theorem dX2_clause_4 : decode cX2_clause 4 = .ok (.invokevirtual 61, 3) := dX2_clause_0_z.1.1.2.1
theorem dX2_clause_7 : decode cX2_clause 7 = .ok (.istore_n 1, 1) := dX2_clause_0_z.1.1.2.2
theorem dX2_clause_8 : decode cX2_clause 8 = .ok (.iload_n 1, 1) := dX2_clause_0_z.1.2.1.1
theorem dX2_clause_9 : decode cX2_clause 9 = .ok (.bipush 115, 2) := dX2_clause_0_z.1.2.1.2
theorem dX2_clause_11 : decode cX2_clause 11 = .ok (.if_icmp .ne 47, 3) := dX2_clause_0_z.1.2.2.1
theorem dX2_clause_14 : decode cX2_clause 14 = .ok (.aload_n 0, 1) := dX2_clause_0_z.1.2.2.2
theorem dX2_clause_15 : decode cX2_clause 15 = .ok (.getfield 33, 3) := dX2_clause_0_z.2.1.1.1
theorem dX2_clause_18 : decode cX2_clause 18 = .ok (.ifCond .ne 40, 3) := dX2_clause_0_z.2.1.1.2
theorem dX2_clause_21 : decode cX2_clause 21 = .ok (.aload_n 0, 1) := dX2_clause_0_z.2.1.2.1
theorem dX2_clause_22 : decode cX2_clause 22 = .ok (.iconst 1, 1) := dX2_clause_0_z.2.1.2.2
theorem dX2_clause_23 : decode cX2_clause 23 = .ok (.putfield 33, 3) := dX2_clause_0_z.2.2.1.1
theorem dX2_clause_26 : decode cX2_clause 26 = .ok (.aload_n 0, 1) := dX2_clause_0_z.2.2.1.2
theorem dX2_clause_27 : decode cX2_clause 27 = .ok (.getfield 9, 3) := dX2_clause_0_z.2.2.2.1
theorem dX2_clause_30 : decode cX2_clause 30 = .ok (.dup, 1) := dX2_clause_0_z.2.2.2.2
set_option maxRecDepth 100000 in
theorem dX2_clause_31_z : ((((decode cX2_clause 31 = .ok (.getfield 19, 3) ∧ decode cX2_clause 34 = .ok (.iconst 1, 1)) ∧ (decode cX2_clause 35 = .ok (.iadd, 1) ∧ decode cX2_clause 36 = .ok (.putfield 19, 3))) ∧ ((decode cX2_clause 39 = .ok (.aload_n 0, 1) ∧ decode cX2_clause 40 = .ok (.getstatic 65, 3)) ∧ (decode cX2_clause 43 = .ok (.getstatic 69, 3) ∧ decode cX2_clause 46 = .ok (.aload_n 0, 1)))) ∧ (((decode cX2_clause 47 = .ok (.getfield 15, 3) ∧ decode cX2_clause 50 = .ok (.getfield 41, 3)) ∧ (decode cX2_clause 53 = .ok (.iconst 0, 1) ∧ decode cX2_clause 54 = .ok (.invokevirtual 72, 3))) ∧ ((decode cX2_clause 57 = .ok (.ireturn, 1) ∧ decode cX2_clause 58 = .ok (.iload_n 1, 1)) ∧ (decode cX2_clause 59 = .ok (.bipush 98, 2) ∧ decode cX2_clause 61 = .ok (.if_icmp .ne 86, 3))))) := by decide +kernel
theorem dX2_clause_31 : decode cX2_clause 31 = .ok (.getfield 19, 3) := dX2_clause_31_z.1.1.1.1
theorem dX2_clause_34 : decode cX2_clause 34 = .ok (.iconst 1, 1) := dX2_clause_31_z.1.1.1.2
theorem dX2_clause_35 : decode cX2_clause 35 = .ok (.iadd, 1) := dX2_clause_31_z.1.1.2.1
theorem dX2_clause_36 : decode cX2_clause 36 = .ok (.putfield 19, 3) := dX2_clause_31_z.1.1.2.2
theorem dX2_clause_39 : decode cX2_clause 39 = .ok (.aload_n 0, 1) := dX2_clause_31_z.1.2.1.1
theorem dX2_clause_40 : decode cX2_clause 40 = .ok (.getstatic 65, 3) := dX2_clause_31_z.1.2.1.2
theorem dX2_clause_43 : decode cX2_clause 43 = .ok (.getstatic 69, 3) := dX2_clause_31_z.1.2.2.1
theorem dX2_clause_46 : decode cX2_clause 46 = .ok (.aload_n 0, 1) := dX2_clause_31_z.1.2.2.2
theorem dX2_clause_47 : decode cX2_clause 47 = .ok (.getfield 15, 3) := dX2_clause_31_z.2.1.1.1
theorem dX2_clause_50 : decode cX2_clause 50 = .ok (.getfield 41, 3) := dX2_clause_31_z.2.1.1.2
theorem dX2_clause_53 : decode cX2_clause 53 = .ok (.iconst 0, 1) := dX2_clause_31_z.2.1.2.1
theorem dX2_clause_54 : decode cX2_clause 54 = .ok (.invokevirtual 72, 3) := dX2_clause_31_z.2.1.2.2
theorem dX2_clause_57 : decode cX2_clause 57 = .ok (.ireturn, 1) := dX2_clause_31_z.2.2.1.1
theorem dX2_clause_58 : decode cX2_clause 58 = .ok (.iload_n 1, 1) := dX2_clause_31_z.2.2.1.2
theorem dX2_clause_59 : decode cX2_clause 59 = .ok (.bipush 98, 2) := dX2_clause_31_z.2.2.2.1
theorem dX2_clause_61 : decode cX2_clause 61 = .ok (.if_icmp .ne 86, 3) := dX2_clause_31_z.2.2.2.2
set_option maxRecDepth 100000 in
theorem dX2_clause_64_z : ((((decode cX2_clause 64 = .ok (.aload_n 0, 1) ∧ decode cX2_clause 65 = .ok (.getfield 15, 3)) ∧ (decode cX2_clause 68 = .ok (.getfield 25, 3) ∧ decode cX2_clause 71 = .ok (.bipush 6, 2))) ∧ ((decode cX2_clause 73 = .ok (.if_icmp .ge 74, 3) ∧ decode cX2_clause 76 = .ok (.aload_n 0, 1)) ∧ (decode cX2_clause 77 = .ok (.getfield 15, 3) ∧ decode cX2_clause 80 = .ok (.getfield 25, 3)))) ∧ (((decode cX2_clause 83 = .ok (.iconst 4, 1) ∧ decode cX2_clause 84 = .ok (.imul, 1)) ∧ (decode cX2_clause 85 = .ok (.istore_n 2, 1) ∧ decode cX2_clause 86 = .ok (.aload_n 0, 1))) ∧ ((decode cX2_clause 87 = .ok (.getfield 15, 3) ∧ decode cX2_clause 90 = .ok (.dup, 1)) ∧ (decode cX2_clause 91 = .ok (.getfield 25, 3) ∧ decode cX2_clause 94 = .ok (.iconst 1, 1))))) := by decide +kernel
theorem dX2_clause_64 : decode cX2_clause 64 = .ok (.aload_n 0, 1) := dX2_clause_64_z.1.1.1.1
theorem dX2_clause_65 : decode cX2_clause 65 = .ok (.getfield 15, 3) := dX2_clause_64_z.1.1.1.2
theorem dX2_clause_68 : decode cX2_clause 68 = .ok (.getfield 25, 3) := dX2_clause_64_z.1.1.2.1
theorem dX2_clause_71 : decode cX2_clause 71 = .ok (.bipush 6, 2) := dX2_clause_64_z.1.1.2.2
theorem dX2_clause_73 : decode cX2_clause 73 = .ok (.if_icmp .ge 74, 3) := dX2_clause_64_z.1.2.1.1
theorem dX2_clause_76 : decode cX2_clause 76 = .ok (.aload_n 0, 1) := dX2_clause_64_z.1.2.1.2
theorem dX2_clause_77 : decode cX2_clause 77 = .ok (.getfield 15, 3) := dX2_clause_64_z.1.2.2.1
theorem dX2_clause_80 : decode cX2_clause 80 = .ok (.getfield 25, 3) := dX2_clause_64_z.1.2.2.2
theorem dX2_clause_83 : decode cX2_clause 83 = .ok (.iconst 4, 1) := dX2_clause_64_z.2.1.1.1
theorem dX2_clause_84 : decode cX2_clause 84 = .ok (.imul, 1) := dX2_clause_64_z.2.1.1.2
theorem dX2_clause_85 : decode cX2_clause 85 = .ok (.istore_n 2, 1) := dX2_clause_64_z.2.1.2.1
theorem dX2_clause_86 : decode cX2_clause 86 = .ok (.aload_n 0, 1) := dX2_clause_64_z.2.1.2.2
theorem dX2_clause_87 : decode cX2_clause 87 = .ok (.getfield 15, 3) := dX2_clause_64_z.2.2.1.1
theorem dX2_clause_90 : decode cX2_clause 90 = .ok (.dup, 1) := dX2_clause_64_z.2.2.1.2
theorem dX2_clause_91 : decode cX2_clause 91 = .ok (.getfield 25, 3) := dX2_clause_64_z.2.2.2.1
theorem dX2_clause_94 : decode cX2_clause 94 = .ok (.iconst 1, 1) := dX2_clause_64_z.2.2.2.2
set_option maxRecDepth 100000 in
theorem dX2_clause_95_z : ((((decode cX2_clause 95 = .ok (.iadd, 1) ∧ decode cX2_clause 96 = .ok (.putfield 25, 3)) ∧ (decode cX2_clause 99 = .ok (.aload_n 0, 1) ∧ decode cX2_clause 100 = .ok (.getfield 9, 3))) ∧ ((decode cX2_clause 103 = .ok (.dup, 1) ∧ decode cX2_clause 104 = .ok (.getfield 19, 3)) ∧ (decode cX2_clause 107 = .ok (.iconst 1, 1) ∧ decode cX2_clause 108 = .ok (.iadd, 1)))) ∧ (((decode cX2_clause 109 = .ok (.putfield 19, 3) ∧ decode cX2_clause 112 = .ok (.getstatic 76, 3)) ∧ (decode cX2_clause 115 = .ok (.iconst 0, 1) ∧ decode cX2_clause 116 = .ok (.aload_n 0, 1))) ∧ ((decode cX2_clause 117 = .ok (.getfield 15, 3) ∧ decode cX2_clause 120 = .ok (.getfield 79, 3)) ∧ (decode cX2_clause 123 = .ok (.iload_n 2, 1) ∧ decode cX2_clause 124 = .ok (.iconst 4, 1))))) := by decide +kernel
theorem dX2_clause_95 : decode cX2_clause 95 = .ok (.iadd, 1) := dX2_clause_95_z.1.1.1.1
theorem dX2_clause_96 : decode cX2_clause 96 = .ok (.putfield 25, 3) := dX2_clause_95_z.1.1.1.2
theorem dX2_clause_99 : decode cX2_clause 99 = .ok (.aload_n 0, 1) := dX2_clause_95_z.1.1.2.1
theorem dX2_clause_100 : decode cX2_clause 100 = .ok (.getfield 9, 3) := dX2_clause_95_z.1.1.2.2
theorem dX2_clause_103 : decode cX2_clause 103 = .ok (.dup, 1) := dX2_clause_95_z.1.2.1.1
theorem dX2_clause_104 : decode cX2_clause 104 = .ok (.getfield 19, 3) := dX2_clause_95_z.1.2.1.2
theorem dX2_clause_107 : decode cX2_clause 107 = .ok (.iconst 1, 1) := dX2_clause_95_z.1.2.2.1
theorem dX2_clause_108 : decode cX2_clause 108 = .ok (.iadd, 1) := dX2_clause_95_z.1.2.2.2
theorem dX2_clause_109 : decode cX2_clause 109 = .ok (.putfield 19, 3) := dX2_clause_95_z.2.1.1.1
theorem dX2_clause_112 : decode cX2_clause 112 = .ok (.getstatic 76, 3) := dX2_clause_95_z.2.1.1.2
theorem dX2_clause_115 : decode cX2_clause 115 = .ok (.iconst 0, 1) := dX2_clause_95_z.2.1.2.1
theorem dX2_clause_116 : decode cX2_clause 116 = .ok (.aload_n 0, 1) := dX2_clause_95_z.2.1.2.2
theorem dX2_clause_117 : decode cX2_clause 117 = .ok (.getfield 15, 3) := dX2_clause_95_z.2.2.1.1
theorem dX2_clause_120 : decode cX2_clause 120 = .ok (.getfield 79, 3) := dX2_clause_95_z.2.2.1.2
theorem dX2_clause_123 : decode cX2_clause 123 = .ok (.iload_n 2, 1) := dX2_clause_95_z.2.2.2.1
theorem dX2_clause_124 : decode cX2_clause 124 = .ok (.iconst 4, 1) := dX2_clause_95_z.2.2.2.2
set_option maxRecDepth 100000 in
theorem dX2_clause_125_z : ((((decode cX2_clause 125 = .ok (.invokestatic 44, 3) ∧ decode cX2_clause 128 = .ok (.aload_n 0, 1)) ∧ (decode cX2_clause 129 = .ok (.getstatic 82, 3) ∧ decode cX2_clause 132 = .ok (.getstatic 85, 3))) ∧ ((decode cX2_clause 135 = .ok (.aload_n 0, 1) ∧ decode cX2_clause 136 = .ok (.getfield 15, 3)) ∧ (decode cX2_clause 139 = .ok (.getfield 79, 3) ∧ decode cX2_clause 142 = .ok (.iload_n 2, 1)))) ∧ (((decode cX2_clause 143 = .ok (.invokevirtual 72, 3) ∧ decode cX2_clause 146 = .ok (.ireturn, 1)) ∧ (decode cX2_clause 147 = .ok (.iload_n 1, 1) ∧ decode cX2_clause 148 = .ok (.bipush 112, 2))) ∧ ((decode cX2_clause 150 = .ok (.if_icmp .ne 85, 3) ∧ decode cX2_clause 153 = .ok (.aload_n 0, 1)) ∧ (decode cX2_clause 154 = .ok (.getfield 15, 3) ∧ decode cX2_clause 157 = .ok (.getfield 30, 3))))) := by decide +kernel
theorem dX2_clause_125 : decode cX2_clause 125 = .ok (.invokestatic 44, 3) := dX2_clause_125_z.1.1.1.1
theorem dX2_clause_128 : decode cX2_clause 128 = .ok (.aload_n 0, 1) := dX2_clause_125_z.1.1.1.2
theorem dX2_clause_129 : decode cX2_clause 129 = .ok (.getstatic 82, 3) := dX2_clause_125_z.1.1.2.1
theorem dX2_clause_132 : decode cX2_clause 132 = .ok (.getstatic 85, 3) := dX2_clause_125_z.1.1.2.2
theorem dX2_clause_135 : decode cX2_clause 135 = .ok (.aload_n 0, 1) := dX2_clause_125_z.1.2.1.1
theorem dX2_clause_136 : decode cX2_clause 136 = .ok (.getfield 15, 3) := dX2_clause_125_z.1.2.1.2
theorem dX2_clause_139 : decode cX2_clause 139 = .ok (.getfield 79, 3) := dX2_clause_125_z.1.2.2.1
theorem dX2_clause_142 : decode cX2_clause 142 = .ok (.iload_n 2, 1) := dX2_clause_125_z.1.2.2.2
theorem dX2_clause_143 : decode cX2_clause 143 = .ok (.invokevirtual 72, 3) := dX2_clause_125_z.2.1.1.1
theorem dX2_clause_146 : decode cX2_clause 146 = .ok (.ireturn, 1) := dX2_clause_125_z.2.1.1.2
theorem dX2_clause_147 : decode cX2_clause 147 = .ok (.iload_n 1, 1) := dX2_clause_125_z.2.1.2.1
theorem dX2_clause_148 : decode cX2_clause 148 = .ok (.bipush 112, 2) := dX2_clause_125_z.2.1.2.2
theorem dX2_clause_150 : decode cX2_clause 150 = .ok (.if_icmp .ne 85, 3) := dX2_clause_125_z.2.2.1.1
theorem dX2_clause_153 : decode cX2_clause 153 = .ok (.aload_n 0, 1) := dX2_clause_125_z.2.2.1.2
theorem dX2_clause_154 : decode cX2_clause 154 = .ok (.getfield 15, 3) := dX2_clause_125_z.2.2.2.1
theorem dX2_clause_157 : decode cX2_clause 157 = .ok (.getfield 30, 3) := dX2_clause_125_z.2.2.2.2
set_option maxRecDepth 100000 in
theorem dX2_clause_160_z : ((((decode cX2_clause 160 = .ok (.iconst 5, 1) ∧ decode cX2_clause 161 = .ok (.if_icmp .ge 74, 3)) ∧ (decode cX2_clause 164 = .ok (.aload_n 0, 1) ∧ decode cX2_clause 165 = .ok (.getfield 15, 3))) ∧ ((decode cX2_clause 168 = .ok (.getfield 30, 3) ∧ decode cX2_clause 171 = .ok (.iconst 4, 1)) ∧ (decode cX2_clause 172 = .ok (.imul, 1) ∧ decode cX2_clause 173 = .ok (.istore_n 2, 1)))) ∧ (((decode cX2_clause 174 = .ok (.aload_n 0, 1) ∧ decode cX2_clause 175 = .ok (.getfield 15, 3)) ∧ (decode cX2_clause 178 = .ok (.dup, 1) ∧ decode cX2_clause 179 = .ok (.getfield 30, 3))) ∧ ((decode cX2_clause 182 = .ok (.iconst 1, 1) ∧ decode cX2_clause 183 = .ok (.iadd, 1)) ∧ (decode cX2_clause 184 = .ok (.putfield 30, 3) ∧ decode cX2_clause 187 = .ok (.aload_n 0, 1))))) := by decide +kernel
theorem dX2_clause_160 : decode cX2_clause 160 = .ok (.iconst 5, 1) := dX2_clause_160_z.1.1.1.1
theorem dX2_clause_161 : decode cX2_clause 161 = .ok (.if_icmp .ge 74, 3) := dX2_clause_160_z.1.1.1.2
theorem dX2_clause_164 : decode cX2_clause 164 = .ok (.aload_n 0, 1) := dX2_clause_160_z.1.1.2.1
theorem dX2_clause_165 : decode cX2_clause 165 = .ok (.getfield 15, 3) := dX2_clause_160_z.1.1.2.2
theorem dX2_clause_168 : decode cX2_clause 168 = .ok (.getfield 30, 3) := dX2_clause_160_z.1.2.1.1
theorem dX2_clause_171 : decode cX2_clause 171 = .ok (.iconst 4, 1) := dX2_clause_160_z.1.2.1.2
theorem dX2_clause_172 : decode cX2_clause 172 = .ok (.imul, 1) := dX2_clause_160_z.1.2.2.1
theorem dX2_clause_173 : decode cX2_clause 173 = .ok (.istore_n 2, 1) := dX2_clause_160_z.1.2.2.2
theorem dX2_clause_174 : decode cX2_clause 174 = .ok (.aload_n 0, 1) := dX2_clause_160_z.2.1.1.1
theorem dX2_clause_175 : decode cX2_clause 175 = .ok (.getfield 15, 3) := dX2_clause_160_z.2.1.1.2
theorem dX2_clause_178 : decode cX2_clause 178 = .ok (.dup, 1) := dX2_clause_160_z.2.1.2.1
theorem dX2_clause_179 : decode cX2_clause 179 = .ok (.getfield 30, 3) := dX2_clause_160_z.2.1.2.2
theorem dX2_clause_182 : decode cX2_clause 182 = .ok (.iconst 1, 1) := dX2_clause_160_z.2.2.1.1
theorem dX2_clause_183 : decode cX2_clause 183 = .ok (.iadd, 1) := dX2_clause_160_z.2.2.1.2
theorem dX2_clause_184 : decode cX2_clause 184 = .ok (.putfield 30, 3) := dX2_clause_160_z.2.2.2.1
theorem dX2_clause_187 : decode cX2_clause 187 = .ok (.aload_n 0, 1) := dX2_clause_160_z.2.2.2.2
set_option maxRecDepth 100000 in
theorem dX2_clause_188_z : ((((decode cX2_clause 188 = .ok (.getfield 9, 3) ∧ decode cX2_clause 191 = .ok (.dup, 1)) ∧ (decode cX2_clause 192 = .ok (.getfield 19, 3) ∧ decode cX2_clause 195 = .ok (.iconst 1, 1))) ∧ ((decode cX2_clause 196 = .ok (.iadd, 1) ∧ decode cX2_clause 197 = .ok (.putfield 19, 3)) ∧ (decode cX2_clause 200 = .ok (.getstatic 88, 3) ∧ decode cX2_clause 203 = .ok (.iconst 0, 1)))) ∧ (((decode cX2_clause 204 = .ok (.aload_n 0, 1) ∧ decode cX2_clause 205 = .ok (.getfield 15, 3)) ∧ (decode cX2_clause 208 = .ok (.getfield 91, 3) ∧ decode cX2_clause 211 = .ok (.iload_n 2, 1))) ∧ ((decode cX2_clause 212 = .ok (.iconst 4, 1) ∧ decode cX2_clause 213 = .ok (.invokestatic 44, 3)) ∧ (decode cX2_clause 216 = .ok (.aload_n 0, 1) ∧ decode cX2_clause 217 = .ok (.getstatic 94, 3))))) := by decide +kernel
theorem dX2_clause_188 : decode cX2_clause 188 = .ok (.getfield 9, 3) := dX2_clause_188_z.1.1.1.1
theorem dX2_clause_191 : decode cX2_clause 191 = .ok (.dup, 1) := dX2_clause_188_z.1.1.1.2
theorem dX2_clause_192 : decode cX2_clause 192 = .ok (.getfield 19, 3) := dX2_clause_188_z.1.1.2.1
theorem dX2_clause_195 : decode cX2_clause 195 = .ok (.iconst 1, 1) := dX2_clause_188_z.1.1.2.2
theorem dX2_clause_196 : decode cX2_clause 196 = .ok (.iadd, 1) := dX2_clause_188_z.1.2.1.1
theorem dX2_clause_197 : decode cX2_clause 197 = .ok (.putfield 19, 3) := dX2_clause_188_z.1.2.1.2
theorem dX2_clause_200 : decode cX2_clause 200 = .ok (.getstatic 88, 3) := dX2_clause_188_z.1.2.2.1
theorem dX2_clause_203 : decode cX2_clause 203 = .ok (.iconst 0, 1) := dX2_clause_188_z.1.2.2.2
theorem dX2_clause_204 : decode cX2_clause 204 = .ok (.aload_n 0, 1) := dX2_clause_188_z.2.1.1.1
theorem dX2_clause_205 : decode cX2_clause 205 = .ok (.getfield 15, 3) := dX2_clause_188_z.2.1.1.2
theorem dX2_clause_208 : decode cX2_clause 208 = .ok (.getfield 91, 3) := dX2_clause_188_z.2.1.2.1
theorem dX2_clause_211 : decode cX2_clause 211 = .ok (.iload_n 2, 1) := dX2_clause_188_z.2.1.2.2
theorem dX2_clause_212 : decode cX2_clause 212 = .ok (.iconst 4, 1) := dX2_clause_188_z.2.2.1.1
theorem dX2_clause_213 : decode cX2_clause 213 = .ok (.invokestatic 44, 3) := dX2_clause_188_z.2.2.1.2
theorem dX2_clause_216 : decode cX2_clause 216 = .ok (.aload_n 0, 1) := dX2_clause_188_z.2.2.2.1
theorem dX2_clause_217 : decode cX2_clause 217 = .ok (.getstatic 94, 3) := dX2_clause_188_z.2.2.2.2
set_option maxRecDepth 100000 in
theorem dX2_clause_220_z : ((((decode cX2_clause 220 = .ok (.getstatic 97, 3) ∧ decode cX2_clause 223 = .ok (.aload_n 0, 1)) ∧ decode cX2_clause 224 = .ok (.getfield 15, 3)) ∧ (decode cX2_clause 227 = .ok (.getfield 91, 3) ∧ decode cX2_clause 230 = .ok (.iload_n 2, 1))) ∧ ((decode cX2_clause 231 = .ok (.invokevirtual 72, 3) ∧ decode cX2_clause 234 = .ok (.ireturn, 1)) ∧ (decode cX2_clause 235 = .ok (.iconst 0, 1) ∧ decode cX2_clause 236 = .ok (.ireturn, 1)))) := by decide +kernel
theorem dX2_clause_220 : decode cX2_clause 220 = .ok (.getstatic 97, 3) := dX2_clause_220_z.1.1.1.1
theorem dX2_clause_223 : decode cX2_clause 223 = .ok (.aload_n 0, 1) := dX2_clause_220_z.1.1.1.2
theorem dX2_clause_224 : decode cX2_clause 224 = .ok (.getfield 15, 3) := dX2_clause_220_z.1.1.2
theorem dX2_clause_227 : decode cX2_clause 227 = .ok (.getfield 91, 3) := dX2_clause_220_z.1.2.1
theorem dX2_clause_230 : decode cX2_clause 230 = .ok (.iload_n 2, 1) := dX2_clause_220_z.1.2.2
theorem dX2_clause_231 : decode cX2_clause 231 = .ok (.invokevirtual 72, 3) := dX2_clause_220_z.2.1.1
theorem dX2_clause_234 : decode cX2_clause 234 = .ok (.ireturn, 1) := dX2_clause_220_z.2.1.2
theorem dX2_clause_235 : decode cX2_clause 235 = .ok (.iconst 0, 1) := dX2_clause_220_z.2.2.1
theorem dX2_clause_236 : decode cX2_clause 236 = .ok (.ireturn, 1) := dX2_clause_220_z.2.2.2
set_option maxRecDepth 100000 in
theorem dX2_items_0_z : ((((decode cX2_items 0 = .ok (.iconst 0, 1) ∧ decode cX2_items 1 = .ok (.istore 5, 2)) ∧ (decode cX2_items 3 = .ok (.iconst 0, 1) ∧ decode cX2_items 4 = .ok (.istore 6, 2))) ∧ ((decode cX2_items 6 = .ok (.iload 6, 2) ∧ decode cX2_items 8 = .ok (.aload_n 1, 1)) ∧ (decode cX2_items 9 = .ok (.arraylength, 1) ∧ decode cX2_items 10 = .ok (.if_icmp .ge 102, 3)))) ∧ (((decode cX2_items 13 = .ok (.aload_n 0, 1) ∧ decode cX2_items 14 = .ok (.getfield 9, 3)) ∧ (decode cX2_items 17 = .ok (.invokevirtual 61, 3) ∧ decode cX2_items 20 = .ok (.aload_n 1, 1))) ∧ ((decode cX2_items 21 = .ok (.invokestatic 100, 3) ∧ decode cX2_items 24 = .ok (.istore 7, 2)) ∧ (decode cX2_items 26 = .ok (.iload 7, 2) ∧ decode cX2_items 28 = .ok (.iconst (-1), 1))))) := by decide +kernel
theorem dX2_items_0 : decode cX2_items 0 = .ok (.iconst 0, 1) := dX2_items_0_z.1.1.1.1
theorem dX2_items_1 : decode cX2_items 1 = .ok (.istore 5, 2) := dX2_items_0_z.1.1.1.2
theorem dX2_items_3 : decode cX2_items 3 = .ok (.iconst 0, 1) := dX2_items_0_z.1.1.2.1
theorem dX2_items_4 : decode cX2_items 4 = .ok (.istore 6, 2) := dX2_items_0_z.1.1.2.2
theorem dX2_items_6 : decode cX2_items 6 = .ok (.iload 6, 2) := dX2_items_0_z.1.2.1.1
theorem dX2_items_8 : decode cX2_items 8 = .ok (.aload_n 1, 1) := dX2_items_0_z.1.2.1.2
theorem dX2_items_9 : decode cX2_items 9 = .ok (.arraylength, 1) := dX2_items_0_z.1.2.2.1
theorem dX2_items_10 : decode cX2_items 10 = .ok (.if_icmp .ge 102, 3) := dX2_items_0_z.1.2.2.2
theorem dX2_items_13 : decode cX2_items 13 = .ok (.aload_n 0, 1) := dX2_items_0_z.2.1.1.1
theorem dX2_items_14 : decode cX2_items 14 = .ok (.getfield 9, 3) := dX2_items_0_z.2.1.1.2
theorem dX2_items_17 : decode cX2_items 17 = .ok (.invokevirtual 61, 3) := dX2_items_0_z.2.1.2.1
theorem dX2_items_20 : decode cX2_items 20 = .ok (.aload_n 1, 1) := dX2_items_0_z.2.1.2.2
theorem dX2_items_21 : decode cX2_items 21 = .ok (.invokestatic 100, 3) := dX2_items_0_z.2.2.1.1
theorem dX2_items_24 : decode cX2_items 24 = .ok (.istore 7, 2) := dX2_items_0_z.2.2.1.2
theorem dX2_items_26 : decode cX2_items 26 = .ok (.iload 7, 2) := dX2_items_0_z.2.2.2.1
theorem dX2_items_28 : decode cX2_items 28 = .ok (.iconst (-1), 1) := dX2_items_0_z.2.2.2.2
set_option maxRecDepth 100000 in
theorem dX2_items_29_z : ((((decode cX2_items 29 = .ok (.if_icmp .eq 14, 3) ∧ decode cX2_items 32 = .ok (.iload 5, 2)) ∧ (decode cX2_items 34 = .ok (.iload 7, 2) ∧ decode cX2_items 36 = .ok (.invokestatic 104, 3))) ∧ ((decode cX2_items 39 = .ok (.iconst 1, 1) ∧ decode cX2_items 40 = .ok (.if_icmp .ne 5, 3)) ∧ (decode cX2_items 43 = .ok (.iconst 1, 1) ∧ decode cX2_items 44 = .ok (.ireturn, 1)))) ∧ (((decode cX2_items 45 = .ok (.iload 5, 2) ∧ decode cX2_items 47 = .ok (.iconst 1, 1)) ∧ (decode cX2_items 48 = .ok (.iload 7, 2) ∧ decode cX2_items 50 = .ok (.ishl, 1))) ∧ ((decode cX2_items 51 = .ok (.ior, 1) ∧ decode cX2_items 52 = .ok (.istore 5, 2)) ∧ (decode cX2_items 54 = .ok (.aload_n 0, 1) ∧ decode cX2_items 55 = .ok (.getfield 9, 3))))) := by decide +kernel
theorem dX2_items_29 : decode cX2_items 29 = .ok (.if_icmp .eq 14, 3) := dX2_items_29_z.1.1.1.1
theorem dX2_items_32 : decode cX2_items 32 = .ok (.iload 5, 2) := dX2_items_29_z.1.1.1.2
theorem dX2_items_34 : decode cX2_items 34 = .ok (.iload 7, 2) := dX2_items_29_z.1.1.2.1
theorem dX2_items_36 : decode cX2_items 36 = .ok (.invokestatic 104, 3) := dX2_items_29_z.1.1.2.2
theorem dX2_items_39 : decode cX2_items 39 = .ok (.iconst 1, 1) := dX2_items_29_z.1.2.1.1
theorem dX2_items_40 : decode cX2_items 40 = .ok (.if_icmp .ne 5, 3) := dX2_items_29_z.1.2.1.2
theorem dX2_items_43 : decode cX2_items 43 = .ok (.iconst 1, 1) := dX2_items_29_z.1.2.2.1
theorem dX2_items_44 : decode cX2_items 44 = .ok (.ireturn, 1) := dX2_items_29_z.1.2.2.2
theorem dX2_items_45 : decode cX2_items 45 = .ok (.iload 5, 2) := dX2_items_29_z.2.1.1.1
theorem dX2_items_47 : decode cX2_items 47 = .ok (.iconst 1, 1) := dX2_items_29_z.2.1.1.2
theorem dX2_items_48 : decode cX2_items 48 = .ok (.iload 7, 2) := dX2_items_29_z.2.1.2.1
theorem dX2_items_50 : decode cX2_items 50 = .ok (.ishl, 1) := dX2_items_29_z.2.1.2.2
theorem dX2_items_51 : decode cX2_items 51 = .ok (.ior, 1) := dX2_items_29_z.2.2.1.1
theorem dX2_items_52 : decode cX2_items 52 = .ok (.istore 5, 2) := dX2_items_29_z.2.2.1.2
theorem dX2_items_54 : decode cX2_items 54 = .ok (.aload_n 0, 1) := dX2_items_29_z.2.2.2.1
theorem dX2_items_55 : decode cX2_items 55 = .ok (.getfield 9, 3) := dX2_items_29_z.2.2.2.2
set_option maxRecDepth 100000 in
theorem dX2_items_58_z : ((((decode cX2_items 58 = .ok (.dup, 1) ∧ decode cX2_items 59 = .ok (.getfield 19, 3)) ∧ (decode cX2_items 62 = .ok (.iconst 1, 1) ∧ decode cX2_items 63 = .ok (.iadd, 1))) ∧ ((decode cX2_items 64 = .ok (.putfield 19, 3) ∧ decode cX2_items 67 = .ok (.aload_n 0, 1)) ∧ (decode cX2_items 68 = .ok (.getfield 9, 3) ∧ decode cX2_items 71 = .ok (.invokevirtual 61, 3)))) ∧ (((decode cX2_items 74 = .ok (.pop, 1) ∧ decode cX2_items 75 = .ok (.aload_n 0, 1)) ∧ (decode cX2_items 76 = .ok (.getfield 9, 3) ∧ decode cX2_items 79 = .ok (.iconst 2, 1))) ∧ ((decode cX2_items 80 = .ok (.aload_n 2, 1) ∧ decode cX2_items 81 = .ok (.iload 7, 2)) ∧ (decode cX2_items 83 = .ok (.iaload, 1) ∧ decode cX2_items 84 = .ok (.invokevirtual 108, 3))))) := by decide +kernel
theorem dX2_items_58 : decode cX2_items 58 = .ok (.dup, 1) := dX2_items_58_z.1.1.1.1
theorem dX2_items_59 : decode cX2_items 59 = .ok (.getfield 19, 3) := dX2_items_58_z.1.1.1.2
theorem dX2_items_62 : decode cX2_items 62 = .ok (.iconst 1, 1) := dX2_items_58_z.1.1.2.1
theorem dX2_items_63 : decode cX2_items 63 = .ok (.iadd, 1) := dX2_items_58_z.1.1.2.2
theorem dX2_items_64 : decode cX2_items 64 = .ok (.putfield 19, 3) := dX2_items_58_z.1.2.1.1
theorem dX2_items_67 : decode cX2_items 67 = .ok (.aload_n 0, 1) := dX2_items_58_z.1.2.1.2
theorem dX2_items_68 : decode cX2_items 68 = .ok (.getfield 9, 3) := dX2_items_58_z.1.2.2.1
theorem dX2_items_71 : decode cX2_items 71 = .ok (.invokevirtual 61, 3) := dX2_items_58_z.1.2.2.2
theorem dX2_items_74 : decode cX2_items 74 = .ok (.pop, 1) := dX2_items_58_z.2.1.1.1
theorem dX2_items_75 : decode cX2_items 75 = .ok (.aload_n 0, 1) := dX2_items_58_z.2.1.1.2
theorem dX2_items_76 : decode cX2_items 76 = .ok (.getfield 9, 3) := dX2_items_58_z.2.1.2.1
theorem dX2_items_79 : decode cX2_items 79 = .ok (.iconst 2, 1) := dX2_items_58_z.2.1.2.2
theorem dX2_items_80 : decode cX2_items 80 = .ok (.aload_n 2, 1) := dX2_items_58_z.2.2.1.1
theorem dX2_items_81 : decode cX2_items 81 = .ok (.iload 7, 2) := dX2_items_58_z.2.2.1.2
theorem dX2_items_83 : decode cX2_items 83 = .ok (.iaload, 1) := dX2_items_58_z.2.2.2.1
theorem dX2_items_84 : decode cX2_items 84 = .ok (.invokevirtual 108, 3) := dX2_items_58_z.2.2.2.2
set_option maxRecDepth 100000 in
theorem dX2_items_87_z : ((((decode cX2_items 87 = .ok (.istore 8, 2) ∧ decode cX2_items 89 = .ok (.iload 8, 2)) ∧ (decode cX2_items 91 = .ok (.iconst (-1), 1) ∧ decode cX2_items 92 = .ok (.if_icmp .ne 5, 3))) ∧ ((decode cX2_items 95 = .ok (.iconst 0, 1) ∧ decode cX2_items 96 = .ok (.ireturn, 1)) ∧ (decode cX2_items 97 = .ok (.aload_n 3, 1) ∧ decode cX2_items 98 = .ok (.iload 4, 2)))) ∧ (((decode cX2_items 100 = .ok (.iload 7, 2) ∧ decode cX2_items 102 = .ok (.iadd, 1)) ∧ (decode cX2_items 103 = .ok (.iload 8, 2) ∧ decode cX2_items 105 = .ok (.iastore, 1))) ∧ ((decode cX2_items 106 = .ok (.iinc 6 1, 3) ∧ decode cX2_items 109 = .ok (.goto (-103), 3)) ∧ (decode cX2_items 112 = .ok (.iconst 1, 1) ∧ decode cX2_items 113 = .ok (.ireturn, 1))))) := by decide +kernel
theorem dX2_items_87 : decode cX2_items 87 = .ok (.istore 8, 2) := dX2_items_87_z.1.1.1.1
theorem dX2_items_89 : decode cX2_items 89 = .ok (.iload 8, 2) := dX2_items_87_z.1.1.1.2
theorem dX2_items_91 : decode cX2_items 91 = .ok (.iconst (-1), 1) := dX2_items_87_z.1.1.2.1
theorem dX2_items_92 : decode cX2_items 92 = .ok (.if_icmp .ne 5, 3) := dX2_items_87_z.1.1.2.2
theorem dX2_items_95 : decode cX2_items 95 = .ok (.iconst 0, 1) := dX2_items_87_z.1.2.1.1
theorem dX2_items_96 : decode cX2_items 96 = .ok (.ireturn, 1) := dX2_items_87_z.1.2.1.2
theorem dX2_items_97 : decode cX2_items 97 = .ok (.aload_n 3, 1) := dX2_items_87_z.1.2.2.1
theorem dX2_items_98 : decode cX2_items 98 = .ok (.iload 4, 2) := dX2_items_87_z.1.2.2.2
theorem dX2_items_100 : decode cX2_items 100 = .ok (.iload 7, 2) := dX2_items_87_z.2.1.1.1
theorem dX2_items_102 : decode cX2_items 102 = .ok (.iadd, 1) := dX2_items_87_z.2.1.1.2
theorem dX2_items_103 : decode cX2_items 103 = .ok (.iload 8, 2) := dX2_items_87_z.2.1.2.1
theorem dX2_items_105 : decode cX2_items 105 = .ok (.iastore, 1) := dX2_items_87_z.2.1.2.2
theorem dX2_items_106 : decode cX2_items 106 = .ok (.iinc 6 1, 3) := dX2_items_87_z.2.2.1.1
theorem dX2_items_109 : decode cX2_items 109 = .ok (.goto (-103), 3) := dX2_items_87_z.2.2.1.2
theorem dX2_items_112 : decode cX2_items 112 = .ok (.iconst 1, 1) := dX2_items_87_z.2.2.2.1
theorem dX2_items_113 : decode cX2_items 113 = .ok (.ireturn, 1) := dX2_items_87_z.2.2.2.2
set_option maxRecDepth 100000 in
theorem dX2_placeOf_0_z : ((((decode cX2_placeOf 0 = .ok (.iconst 0, 1) ∧ decode cX2_placeOf 1 = .ok (.istore_n 2, 1)) ∧ (decode cX2_placeOf 2 = .ok (.iload_n 2, 1) ∧ decode cX2_placeOf 3 = .ok (.aload_n 1, 1))) ∧ ((decode cX2_placeOf 4 = .ok (.arraylength, 1) ∧ decode cX2_placeOf 5 = .ok (.if_icmp .ge 18, 3)) ∧ (decode cX2_placeOf 8 = .ok (.aload_n 1, 1) ∧ decode cX2_placeOf 9 = .ok (.iload_n 2, 1)))) ∧ (((decode cX2_placeOf 10 = .ok (.caload, 1) ∧ decode cX2_placeOf 11 = .ok (.iload_n 0, 1)) ∧ (decode cX2_placeOf 12 = .ok (.if_icmp .ne 5, 3) ∧ decode cX2_placeOf 15 = .ok (.iload_n 2, 1))) ∧ ((decode cX2_placeOf 16 = .ok (.ireturn, 1) ∧ decode cX2_placeOf 17 = .ok (.iinc 2 1, 3)) ∧ (decode cX2_placeOf 20 = .ok (.goto (-18), 3) ∧ decode cX2_placeOf 23 = .ok (.iconst (-1), 1))))) := by decide +kernel
theorem dX2_placeOf_0 : decode cX2_placeOf 0 = .ok (.iconst 0, 1) := dX2_placeOf_0_z.1.1.1.1
theorem dX2_placeOf_1 : decode cX2_placeOf 1 = .ok (.istore_n 2, 1) := dX2_placeOf_0_z.1.1.1.2
theorem dX2_placeOf_2 : decode cX2_placeOf 2 = .ok (.iload_n 2, 1) := dX2_placeOf_0_z.1.1.2.1
theorem dX2_placeOf_3 : decode cX2_placeOf 3 = .ok (.aload_n 1, 1) := dX2_placeOf_0_z.1.1.2.2
theorem dX2_placeOf_4 : decode cX2_placeOf 4 = .ok (.arraylength, 1) := dX2_placeOf_0_z.1.2.1.1
theorem dX2_placeOf_5 : decode cX2_placeOf 5 = .ok (.if_icmp .ge 18, 3) := dX2_placeOf_0_z.1.2.1.2
theorem dX2_placeOf_8 : decode cX2_placeOf 8 = .ok (.aload_n 1, 1) := dX2_placeOf_0_z.1.2.2.1
theorem dX2_placeOf_9 : decode cX2_placeOf 9 = .ok (.iload_n 2, 1) := dX2_placeOf_0_z.1.2.2.2
theorem dX2_placeOf_10 : decode cX2_placeOf 10 = .ok (.caload, 1) := dX2_placeOf_0_z.2.1.1.1
theorem dX2_placeOf_11 : decode cX2_placeOf 11 = .ok (.iload_n 0, 1) := dX2_placeOf_0_z.2.1.1.2
theorem dX2_placeOf_12 : decode cX2_placeOf 12 = .ok (.if_icmp .ne 5, 3) := dX2_placeOf_0_z.2.1.2.1
theorem dX2_placeOf_15 : decode cX2_placeOf 15 = .ok (.iload_n 2, 1) := dX2_placeOf_0_z.2.1.2.2
theorem dX2_placeOf_16 : decode cX2_placeOf 16 = .ok (.ireturn, 1) := dX2_placeOf_0_z.2.2.1.1
theorem dX2_placeOf_17 : decode cX2_placeOf 17 = .ok (.iinc 2 1, 3) := dX2_placeOf_0_z.2.2.1.2
theorem dX2_placeOf_20 : decode cX2_placeOf 20 = .ok (.goto (-18), 3) := dX2_placeOf_0_z.2.2.2.1
theorem dX2_placeOf_23 : decode cX2_placeOf 23 = .ok (.iconst (-1), 1) := dX2_placeOf_0_z.2.2.2.2
theorem dX2_placeOf_24 : decode cX2_placeOf 24 = .ok (.ireturn, 1) := by decide +kernel
set_option maxRecDepth 100000 in
theorem dX5_read_0_z : ((((decode cX5_read 0 = .ok (.aload_n 0, 1) ∧ decode cX5_read 1 = .ok (.aload_n 1, 1)) ∧ (decode cX5_read 2 = .ok (.putfield 15, 3) ∧ decode cX5_read 5 = .ok (.aload_n 0, 1))) ∧ ((decode cX5_read 6 = .ok (.getfield 15, 3) ∧ decode cX5_read 9 = .ok (.iconst 0, 1)) ∧ (decode cX5_read 10 = .ok (.putfield 19, 3) ∧ decode cX5_read 13 = .ok (.aload_n 0, 1)))) ∧ (((decode cX5_read 14 = .ok (.iconst 0, 1) ∧ decode cX5_read 15 = .ok (.putfield 25, 3)) ∧ (decode cX5_read 18 = .ok (.aload_n 0, 1) ∧ decode cX5_read 19 = .ok (.invokevirtual 28, 3))) ∧ ((decode cX5_read 22 = .ok (.istore_n 2, 1) ∧ decode cX5_read 23 = .ok (.iconst 0, 1)) ∧ (decode cX5_read 24 = .ok (.istore_n 3, 1) ∧ decode cX5_read 25 = .ok (.iload_n 3, 1))))) := by decide +kernel
theorem dX5_read_0 : decode cX5_read 0 = .ok (.aload_n 0, 1) := dX5_read_0_z.1.1.1.1
theorem dX5_read_1 : decode cX5_read 1 = .ok (.aload_n 1, 1) := dX5_read_0_z.1.1.1.2
theorem dX5_read_2 : decode cX5_read 2 = .ok (.putfield 15, 3) := dX5_read_0_z.1.1.2.1
theorem dX5_read_5 : decode cX5_read 5 = .ok (.aload_n 0, 1) := dX5_read_0_z.1.1.2.2
theorem dX5_read_6 : decode cX5_read 6 = .ok (.getfield 15, 3) := dX5_read_0_z.1.2.1.1
theorem dX5_read_9 : decode cX5_read 9 = .ok (.iconst 0, 1) := dX5_read_0_z.1.2.1.2
theorem dX5_read_10 : decode cX5_read 10 = .ok (.putfield 19, 3) := dX5_read_0_z.1.2.2.1
theorem dX5_read_13 : decode cX5_read 13 = .ok (.aload_n 0, 1) := dX5_read_0_z.1.2.2.2
theorem dX5_read_14 : decode cX5_read 14 = .ok (.iconst 0, 1) := dX5_read_0_z.2.1.1.1
theorem dX5_read_15 : decode cX5_read 15 = .ok (.putfield 25, 3) := dX5_read_0_z.2.1.1.2
theorem dX5_read_18 : decode cX5_read 18 = .ok (.aload_n 0, 1) := dX5_read_0_z.2.1.2.1
theorem dX5_read_19 : decode cX5_read 19 = .ok (.invokevirtual 28, 3) := dX5_read_0_z.2.1.2.2
theorem dX5_read_22 : decode cX5_read 22 = .ok (.istore_n 2, 1) := dX5_read_0_z.2.2.1.1
theorem dX5_read_23 : decode cX5_read 23 = .ok (.iconst 0, 1) := dX5_read_0_z.2.2.1.2
theorem dX5_read_24 : decode cX5_read 24 = .ok (.istore_n 3, 1) := dX5_read_0_z.2.2.2.1
theorem dX5_read_25 : decode cX5_read 25 = .ok (.iload_n 3, 1) := dX5_read_0_z.2.2.2.2
set_option maxRecDepth 100000 in
theorem dX5_read_26_z : ((((decode cX5_read 26 = .ok (.aload_n 0, 1) ∧ decode cX5_read 27 = .ok (.getfield 15, 3)) ∧ (decode cX5_read 30 = .ok (.getfield 32, 3) ∧ decode cX5_read 33 = .ok (.if_icmp .ge 30, 3))) ∧ ((decode cX5_read 36 = .ok (.iload_n 2, 1) ∧ decode cX5_read 37 = .ok (.ifCond .eq 26, 3)) ∧ (decode cX5_read 40 = .ok (.aload_n 0, 1) ∧ decode cX5_read 41 = .ok (.getfield 15, 3)))) ∧ (((decode cX5_read 44 = .ok (.bipush 59, 2) ∧ decode cX5_read 46 = .ok (.invokevirtual 35, 3)) ∧ (decode cX5_read 49 = .ok (.ifCond .eq 14, 3) ∧ decode cX5_read 52 = .ok (.aload_n 0, 1))) ∧ ((decode cX5_read 53 = .ok (.invokevirtual 28, 3) ∧ decode cX5_read 56 = .ok (.istore_n 2, 1)) ∧ (decode cX5_read 57 = .ok (.iinc 3 1, 3) ∧ decode cX5_read 60 = .ok (.goto (-35), 3))))) := by decide +kernel
theorem dX5_read_26 : decode cX5_read 26 = .ok (.aload_n 0, 1) := dX5_read_26_z.1.1.1.1
theorem dX5_read_27 : decode cX5_read 27 = .ok (.getfield 15, 3) := dX5_read_26_z.1.1.1.2
theorem dX5_read_30 : decode cX5_read 30 = .ok (.getfield 32, 3) := dX5_read_26_z.1.1.2.1
theorem dX5_read_33 : decode cX5_read 33 = .ok (.if_icmp .ge 30, 3) := dX5_read_26_z.1.1.2.2
theorem dX5_read_36 : decode cX5_read 36 = .ok (.iload_n 2, 1) := dX5_read_26_z.1.2.1.1
theorem dX5_read_37 : decode cX5_read 37 = .ok (.ifCond .eq 26, 3) := dX5_read_26_z.1.2.1.2
theorem dX5_read_40 : decode cX5_read 40 = .ok (.aload_n 0, 1) := dX5_read_26_z.1.2.2.1
theorem dX5_read_41 : decode cX5_read 41 = .ok (.getfield 15, 3) := dX5_read_26_z.1.2.2.2
theorem dX5_read_44 : decode cX5_read 44 = .ok (.bipush 59, 2) := dX5_read_26_z.2.1.1.1
theorem dX5_read_46 : decode cX5_read 46 = .ok (.invokevirtual 35, 3) := dX5_read_26_z.2.1.1.2
theorem dX5_read_49 : decode cX5_read 49 = .ok (.ifCond .eq 14, 3) := dX5_read_26_z.2.1.2.1
theorem dX5_read_52 : decode cX5_read 52 = .ok (.aload_n 0, 1) := dX5_read_26_z.2.1.2.2
theorem dX5_read_53 : decode cX5_read 53 = .ok (.invokevirtual 28, 3) := dX5_read_26_z.2.2.1.1
theorem dX5_read_56 : decode cX5_read 56 = .ok (.istore_n 2, 1) := dX5_read_26_z.2.2.1.2
theorem dX5_read_57 : decode cX5_read 57 = .ok (.iinc 3 1, 3) := dX5_read_26_z.2.2.2.1
theorem dX5_read_60 : decode cX5_read 60 = .ok (.goto (-35), 3) := dX5_read_26_z.2.2.2.2
set_option maxRecDepth 100000 in
theorem dX5_read_63_z : ((((decode cX5_read 63 = .ok (.iload_n 2, 1) ∧ decode cX5_read 64 = .ok (.ifCond .eq 17, 3)) ∧ decode cX5_read 67 = .ok (.aload_n 0, 1)) ∧ ((decode cX5_read 68 = .ok (.getfield 15, 3) ∧ decode cX5_read 71 = .ok (.invokevirtual 39, 3)) ∧ decode cX5_read 74 = .ok (.ifCond .ne 7, 3))) ∧ (((decode cX5_read 77 = .ok (.iconst (-1), 1) ∧ decode cX5_read 78 = .ok (.goto 10, 3)) ∧ decode cX5_read 81 = .ok (.aload_n 0, 1)) ∧ ((decode cX5_read 82 = .ok (.getfield 15, 3) ∧ decode cX5_read 85 = .ok (.getfield 19, 3)) ∧ decode cX5_read 88 = .ok (.ireturn, 1)))) := by decide +kernel
theorem dX5_read_63 : decode cX5_read 63 = .ok (.iload_n 2, 1) := dX5_read_63_z.1.1.1.1
theorem dX5_read_64 : decode cX5_read 64 = .ok (.ifCond .eq 17, 3) := dX5_read_63_z.1.1.1.2
theorem dX5_read_67 : decode cX5_read 67 = .ok (.aload_n 0, 1) := dX5_read_63_z.1.1.2
theorem dX5_read_68 : decode cX5_read 68 = .ok (.getfield 15, 3) := dX5_read_63_z.1.2.1.1
theorem dX5_read_71 : decode cX5_read 71 = .ok (.invokevirtual 39, 3) := dX5_read_63_z.1.2.1.2
theorem dX5_read_74 : decode cX5_read 74 = .ok (.ifCond .ne 7, 3) := dX5_read_63_z.1.2.2
theorem dX5_read_77 : decode cX5_read 77 = .ok (.iconst (-1), 1) := dX5_read_63_z.2.1.1.1
theorem dX5_read_78 : decode cX5_read 78 = .ok (.goto 10, 3) := dX5_read_63_z.2.1.1.2
theorem dX5_read_81 : decode cX5_read 81 = .ok (.aload_n 0, 1) := dX5_read_63_z.2.1.2
theorem dX5_read_82 : decode cX5_read 82 = .ok (.getfield 15, 3) := dX5_read_63_z.2.2.1.1
theorem dX5_read_85 : decode cX5_read 85 = .ok (.getfield 19, 3) := dX5_read_63_z.2.2.1.2
theorem dX5_read_88 : decode cX5_read 88 = .ok (.ireturn, 1) := dX5_read_63_z.2.2.2
set_option maxRecDepth 100000 in
theorem dX5_clause_0_z : ((((decode cX5_clause 0 = .ok (.aload_n 0, 1) ∧ decode cX5_clause 1 = .ok (.getfield 15, 3)) ∧ (decode cX5_clause 4 = .ok (.bipush 121, 2) ∧ decode cX5_clause 6 = .ok (.invokevirtual 35, 3))) ∧ ((decode cX5_clause 9 = .ok (.ifCond .eq 15, 3) ∧ decode cX5_clause 12 = .ok (.aload_n 0, 1)) ∧ (decode cX5_clause 13 = .ok (.getfield 15, 3) ∧ decode cX5_clause 16 = .ok (.bipush 58, 2)))) ∧ (((decode cX5_clause 18 = .ok (.invokevirtual 35, 3) ∧ decode cX5_clause 21 = .ok (.ifCond .ne 5, 3)) ∧ (decode cX5_clause 24 = .ok (.iconst 0, 1) ∧ decode cX5_clause 25 = .ok (.ireturn, 1))) ∧ ((decode cX5_clause 26 = .ok (.aload_n 0, 1) ∧ decode cX5_clause 27 = .ok (.getfield 15, 3)) ∧ (decode cX5_clause 30 = .ok (.invokevirtual 39, 3) ∧ decode cX5_clause 33 = .ok (.istore_n 1, 1))))) := by decide +kernel
theorem dX5_clause_0 : decode cX5_clause 0 = .ok (.aload_n 0, 1) := dX5_clause_0_z.1.1.1.1
theorem dX5_clause_1 : decode cX5_clause 1 = .ok (.getfield 15, 3) := dX5_clause_0_z.1.1.1.2
theorem dX5_clause_4 : decode cX5_clause 4 = .ok (.bipush 121, 2) := dX5_clause_0_z.1.1.2.1
theorem dX5_clause_6 : decode cX5_clause 6 = .ok (.invokevirtual 35, 3) := dX5_clause_0_z.1.1.2.2
theorem dX5_clause_9 : decode cX5_clause 9 = .ok (.ifCond .eq 15, 3) := dX5_clause_0_z.1.2.1.1
theorem dX5_clause_12 : decode cX5_clause 12 = .ok (.aload_n 0, 1) := dX5_clause_0_z.1.2.1.2
theorem dX5_clause_13 : decode cX5_clause 13 = .ok (.getfield 15, 3) := dX5_clause_0_z.1.2.2.1
theorem dX5_clause_16 : decode cX5_clause 16 = .ok (.bipush 58, 2) := dX5_clause_0_z.1.2.2.2
theorem dX5_clause_18 : decode cX5_clause 18 = .ok (.invokevirtual 35, 3) := dX5_clause_0_z.2.1.1.1
theorem dX5_clause_21 : decode cX5_clause 21 = .ok (.ifCond .ne 5, 3) := dX5_clause_0_z.2.1.1.2
theorem dX5_clause_24 : decode cX5_clause 24 = .ok (.iconst 0, 1) := dX5_clause_0_z.2.1.2.1
theorem dX5_clause_25 : decode cX5_clause 25 = .ok (.ireturn, 1) := dX5_clause_0_z.2.1.2.2
theorem dX5_clause_26 : decode cX5_clause 26 = .ok (.aload_n 0, 1) := dX5_clause_0_z.2.2.1.1
theorem dX5_clause_27 : decode cX5_clause 27 = .ok (.getfield 15, 3) := dX5_clause_0_z.2.2.1.2
theorem dX5_clause_30 : decode cX5_clause 30 = .ok (.invokevirtual 39, 3) := dX5_clause_0_z.2.2.2.1
theorem dX5_clause_33 : decode cX5_clause 33 = .ok (.istore_n 1, 1) := dX5_clause_0_z.2.2.2.2
set_option maxRecDepth 100000 in
theorem dX5_clause_34_z : ((((decode cX5_clause 34 = .ok (.iload_n 1, 1) ∧ decode cX5_clause 35 = .ok (.bipush 33, 2)) ∧ (decode cX5_clause 37 = .ok (.if_icmp .eq 13, 3) ∧ decode cX5_clause 40 = .ok (.iload_n 1, 1))) ∧ ((decode cX5_clause 41 = .ok (.bipush 40, 2) ∧ decode cX5_clause 43 = .ok (.if_icmp .eq 7, 3)) ∧ (decode cX5_clause 46 = .ok (.iconst 1, 1) ∧ decode cX5_clause 47 = .ok (.goto 4, 3)))) ∧ (((decode cX5_clause 50 = .ok (.iconst 0, 1) ∧ decode cX5_clause 51 = .ok (.istore_n 2, 1)) ∧ (decode cX5_clause 52 = .ok (.iload_n 2, 1) ∧ decode cX5_clause 53 = .ok (.ifCond .eq 13, 3))) ∧ ((decode cX5_clause 56 = .ok (.aload_n 0, 1) ∧ decode cX5_clause 57 = .ok (.iconst 0, 1)) ∧ (decode cX5_clause 58 = .ok (.invokevirtual 54, 3) ∧ decode cX5_clause 61 = .ok (.ifCond .ne 5, 3))))) := by decide +kernel
theorem dX5_clause_34 : decode cX5_clause 34 = .ok (.iload_n 1, 1) := dX5_clause_34_z.1.1.1.1
theorem dX5_clause_35 : decode cX5_clause 35 = .ok (.bipush 33, 2) := dX5_clause_34_z.1.1.1.2
theorem dX5_clause_37 : decode cX5_clause 37 = .ok (.if_icmp .eq 13, 3) := dX5_clause_34_z.1.1.2.1
theorem dX5_clause_40 : decode cX5_clause 40 = .ok (.iload_n 1, 1) := dX5_clause_34_z.1.1.2.2
theorem dX5_clause_41 : decode cX5_clause 41 = .ok (.bipush 40, 2) := dX5_clause_34_z.1.2.1.1
theorem dX5_clause_43 : decode cX5_clause 43 = .ok (.if_icmp .eq 7, 3) := dX5_clause_34_z.1.2.1.2
theorem dX5_clause_46 : decode cX5_clause 46 = .ok (.iconst 1, 1) := dX5_clause_34_z.1.2.2.1
theorem dX5_clause_47 : decode cX5_clause 47 = .ok (.goto 4, 3) := dX5_clause_34_z.1.2.2.2
theorem dX5_clause_50 : decode cX5_clause 50 = .ok (.iconst 0, 1) := dX5_clause_34_z.2.1.1.1
theorem dX5_clause_51 : decode cX5_clause 51 = .ok (.istore_n 2, 1) := dX5_clause_34_z.2.1.1.2
theorem dX5_clause_52 : decode cX5_clause 52 = .ok (.iload_n 2, 1) := dX5_clause_34_z.2.1.2.1
theorem dX5_clause_53 : decode cX5_clause 53 = .ok (.ifCond .eq 13, 3) := dX5_clause_34_z.2.1.2.2
theorem dX5_clause_56 : decode cX5_clause 56 = .ok (.aload_n 0, 1) := dX5_clause_34_z.2.2.1.1
theorem dX5_clause_57 : decode cX5_clause 57 = .ok (.iconst 0, 1) := dX5_clause_34_z.2.2.1.2
theorem dX5_clause_58 : decode cX5_clause 58 = .ok (.invokevirtual 54, 3) := dX5_clause_34_z.2.2.2.1
theorem dX5_clause_61 : decode cX5_clause 61 = .ok (.ifCond .ne 5, 3) := dX5_clause_34_z.2.2.2.2
set_option maxRecDepth 100000 in
theorem dX5_clause_64_z : ((((decode cX5_clause 64 = .ok (.iconst 0, 1) ∧ decode cX5_clause 65 = .ok (.ireturn, 1)) ∧ (decode cX5_clause 66 = .ok (.iload_n 2, 1) ∧ decode cX5_clause 67 = .ok (.ifCond .eq 16, 3))) ∧ ((decode cX5_clause 70 = .ok (.aload_n 0, 1) ∧ decode cX5_clause 71 = .ok (.getfield 15, 3)) ∧ (decode cX5_clause 74 = .ok (.invokevirtual 39, 3) ∧ decode cX5_clause 77 = .ok (.invokestatic 57, 3)))) ∧ (((decode cX5_clause 80 = .ok (.ifCond .eq 43, 3) ∧ decode cX5_clause 83 = .ok (.aload_n 0, 1)) ∧ (decode cX5_clause 84 = .ok (.iconst 0, 1) ∧ decode cX5_clause 85 = .ok (.iload_n 2, 1))) ∧ ((decode cX5_clause 86 = .ok (.invokevirtual 60, 3) ∧ decode cX5_clause 89 = .ok (.ifCond .eq 15, 3)) ∧ (decode cX5_clause 92 = .ok (.aload_n 0, 1) ∧ decode cX5_clause 93 = .ok (.getfield 15, 3))))) := by decide +kernel
theorem dX5_clause_64 : decode cX5_clause 64 = .ok (.iconst 0, 1) := dX5_clause_64_z.1.1.1.1
theorem dX5_clause_65 : decode cX5_clause 65 = .ok (.ireturn, 1) := dX5_clause_64_z.1.1.1.2
theorem dX5_clause_66 : decode cX5_clause 66 = .ok (.iload_n 2, 1) := dX5_clause_64_z.1.1.2.1
theorem dX5_clause_67 : decode cX5_clause 67 = .ok (.ifCond .eq 16, 3) := dX5_clause_64_z.1.1.2.2
theorem dX5_clause_70 : decode cX5_clause 70 = .ok (.aload_n 0, 1) := dX5_clause_64_z.1.2.1.1
theorem dX5_clause_71 : decode cX5_clause 71 = .ok (.getfield 15, 3) := dX5_clause_64_z.1.2.1.2
theorem dX5_clause_74 : decode cX5_clause 74 = .ok (.invokevirtual 39, 3) := dX5_clause_64_z.1.2.2.1
theorem dX5_clause_77 : decode cX5_clause 77 = .ok (.invokestatic 57, 3) := dX5_clause_64_z.1.2.2.2
theorem dX5_clause_80 : decode cX5_clause 80 = .ok (.ifCond .eq 43, 3) := dX5_clause_64_z.2.1.1.1
theorem dX5_clause_83 : decode cX5_clause 83 = .ok (.aload_n 0, 1) := dX5_clause_64_z.2.1.1.2
theorem dX5_clause_84 : decode cX5_clause 84 = .ok (.iconst 0, 1) := dX5_clause_64_z.2.1.2.1
theorem dX5_clause_85 : decode cX5_clause 85 = .ok (.iload_n 2, 1) := dX5_clause_64_z.2.1.2.2
theorem dX5_clause_86 : decode cX5_clause 86 = .ok (.invokevirtual 60, 3) := dX5_clause_64_z.2.2.1.1
theorem dX5_clause_89 : decode cX5_clause 89 = .ok (.ifCond .eq 15, 3) := dX5_clause_64_z.2.2.1.2
theorem dX5_clause_92 : decode cX5_clause 92 = .ok (.aload_n 0, 1) := dX5_clause_64_z.2.2.2.1
theorem dX5_clause_93 : decode cX5_clause 93 = .ok (.getfield 15, 3) := dX5_clause_64_z.2.2.2.2
set_option maxRecDepth 100000 in
theorem dX5_clause_96_z : ((((decode cX5_clause 96 = .ok (.bipush 63, 2) ∧ decode cX5_clause 98 = .ok (.invokevirtual 35, 3)) ∧ (decode cX5_clause 101 = .ok (.ifCond .ne 5, 3) ∧ decode cX5_clause 104 = .ok (.iconst 0, 1))) ∧ ((decode cX5_clause 105 = .ok (.ireturn, 1) ∧ decode cX5_clause 106 = .ok (.aload_n 0, 1)) ∧ (decode cX5_clause 107 = .ok (.bipush 63, 2) ∧ decode cX5_clause 109 = .ok (.iconst 0, 1)))) ∧ (((decode cX5_clause 110 = .ok (.invokevirtual 64, 3) ∧ decode cX5_clause 113 = .ok (.aload_n 0, 1)) ∧ (decode cX5_clause 114 = .ok (.iconst 0, 1) ∧ decode cX5_clause 115 = .ok (.invokevirtual 54, 3))) ∧ ((decode cX5_clause 118 = .ok (.ifCond .ne 5, 3) ∧ decode cX5_clause 121 = .ok (.iconst 0, 1)) ∧ (decode cX5_clause 122 = .ok (.ireturn, 1) ∧ decode cX5_clause 123 = .ok (.aload_n 0, 1))))) := by decide +kernel
theorem dX5_clause_96 : decode cX5_clause 96 = .ok (.bipush 63, 2) := dX5_clause_96_z.1.1.1.1
theorem dX5_clause_98 : decode cX5_clause 98 = .ok (.invokevirtual 35, 3) := dX5_clause_96_z.1.1.1.2
theorem dX5_clause_101 : decode cX5_clause 101 = .ok (.ifCond .ne 5, 3) := dX5_clause_96_z.1.1.2.1
theorem dX5_clause_104 : decode cX5_clause 104 = .ok (.iconst 0, 1) := dX5_clause_96_z.1.1.2.2
theorem dX5_clause_105 : decode cX5_clause 105 = .ok (.ireturn, 1) := dX5_clause_96_z.1.2.1.1
theorem dX5_clause_106 : decode cX5_clause 106 = .ok (.aload_n 0, 1) := dX5_clause_96_z.1.2.1.2
theorem dX5_clause_107 : decode cX5_clause 107 = .ok (.bipush 63, 2) := dX5_clause_96_z.1.2.2.1
theorem dX5_clause_109 : decode cX5_clause 109 = .ok (.iconst 0, 1) := dX5_clause_96_z.1.2.2.2
theorem dX5_clause_110 : decode cX5_clause 110 = .ok (.invokevirtual 64, 3) := dX5_clause_96_z.2.1.1.1
theorem dX5_clause_113 : decode cX5_clause 113 = .ok (.aload_n 0, 1) := dX5_clause_96_z.2.1.1.2
theorem dX5_clause_114 : decode cX5_clause 114 = .ok (.iconst 0, 1) := dX5_clause_96_z.2.1.2.1
theorem dX5_clause_115 : decode cX5_clause 115 = .ok (.invokevirtual 54, 3) := dX5_clause_96_z.2.1.2.2
theorem dX5_clause_118 : decode cX5_clause 118 = .ok (.ifCond .ne 5, 3) := dX5_clause_96_z.2.2.1.1
theorem dX5_clause_121 : decode cX5_clause 121 = .ok (.iconst 0, 1) := dX5_clause_96_z.2.2.1.2
theorem dX5_clause_122 : decode cX5_clause 122 = .ok (.ireturn, 1) := dX5_clause_96_z.2.2.2.1
theorem dX5_clause_123 : decode cX5_clause 123 = .ok (.aload_n 0, 1) := dX5_clause_96_z.2.2.2.2
set_option maxRecDepth 100000 in
theorem dX5_clause_124_z : (((decode cX5_clause 124 = .ok (.bipush 59, 2) ∧ decode cX5_clause 126 = .ok (.iconst 0, 1)) ∧ decode cX5_clause 127 = .ok (.invokevirtual 64, 3)) ∧ (decode cX5_clause 130 = .ok (.iconst 1, 1) ∧ decode cX5_clause 131 = .ok (.ireturn, 1))) := by decide +kernel
theorem dX5_clause_124 : decode cX5_clause 124 = .ok (.bipush 59, 2) := dX5_clause_124_z.1.1.1
theorem dX5_clause_126 : decode cX5_clause 126 = .ok (.iconst 0, 1) := dX5_clause_124_z.1.1.2
theorem dX5_clause_127 : decode cX5_clause 127 = .ok (.invokevirtual 64, 3) := dX5_clause_124_z.1.2
theorem dX5_clause_130 : decode cX5_clause 130 = .ok (.iconst 1, 1) := dX5_clause_124_z.2.1
theorem dX5_clause_131 : decode cX5_clause 131 = .ok (.ireturn, 1) := dX5_clause_124_z.2.2
set_option maxRecDepth 100000 in
theorem dX5_condition_0_z : ((((decode cX5_condition 0 = .ok (.aload_n 0, 1) ∧ decode cX5_condition 1 = .ok (.iload_n 1, 1)) ∧ (decode cX5_condition 2 = .ok (.iload_n 2, 1) ∧ decode cX5_condition 3 = .ok (.invokevirtual 68, 3))) ∧ ((decode cX5_condition 6 = .ok (.ifCond .ne 5, 3) ∧ decode cX5_condition 9 = .ok (.iconst 0, 1)) ∧ (decode cX5_condition 10 = .ok (.ireturn, 1) ∧ decode cX5_condition 11 = .ok (.iconst 0, 1)))) ∧ (((decode cX5_condition 12 = .ok (.istore_n 3, 1) ∧ decode cX5_condition 13 = .ok (.aload_n 0, 1)) ∧ (decode cX5_condition 14 = .ok (.getfield 15, 3) ∧ decode cX5_condition 17 = .ok (.invokevirtual 39, 3))) ∧ ((decode cX5_condition 20 = .ok (.istore 4, 2) ∧ decode cX5_condition 22 = .ok (.iconst 0, 1)) ∧ (decode cX5_condition 23 = .ok (.istore 5, 2) ∧ decode cX5_condition 25 = .ok (.iload 5, 2))))) := by decide +kernel
theorem dX5_condition_0 : decode cX5_condition 0 = .ok (.aload_n 0, 1) := dX5_condition_0_z.1.1.1.1
theorem dX5_condition_1 : decode cX5_condition 1 = .ok (.iload_n 1, 1) := dX5_condition_0_z.1.1.1.2
theorem dX5_condition_2 : decode cX5_condition 2 = .ok (.iload_n 2, 1) := dX5_condition_0_z.1.1.2.1
theorem dX5_condition_3 : decode cX5_condition 3 = .ok (.invokevirtual 68, 3) := dX5_condition_0_z.1.1.2.2
theorem dX5_condition_6 : decode cX5_condition 6 = .ok (.ifCond .ne 5, 3) := dX5_condition_0_z.1.2.1.1
theorem dX5_condition_9 : decode cX5_condition 9 = .ok (.iconst 0, 1) := dX5_condition_0_z.1.2.1.2
theorem dX5_condition_10 : decode cX5_condition 10 = .ok (.ireturn, 1) := dX5_condition_0_z.1.2.2.1
theorem dX5_condition_11 : decode cX5_condition 11 = .ok (.iconst 0, 1) := dX5_condition_0_z.1.2.2.2
theorem dX5_condition_12 : decode cX5_condition 12 = .ok (.istore_n 3, 1) := dX5_condition_0_z.2.1.1.1
theorem dX5_condition_13 : decode cX5_condition 13 = .ok (.aload_n 0, 1) := dX5_condition_0_z.2.1.1.2
theorem dX5_condition_14 : decode cX5_condition 14 = .ok (.getfield 15, 3) := dX5_condition_0_z.2.1.2.1
theorem dX5_condition_17 : decode cX5_condition 17 = .ok (.invokevirtual 39, 3) := dX5_condition_0_z.2.1.2.2
theorem dX5_condition_20 : decode cX5_condition 20 = .ok (.istore 4, 2) := dX5_condition_0_z.2.2.1.1
theorem dX5_condition_22 : decode cX5_condition 22 = .ok (.iconst 0, 1) := dX5_condition_0_z.2.2.1.2
theorem dX5_condition_23 : decode cX5_condition 23 = .ok (.istore 5, 2) := dX5_condition_0_z.2.2.2.1
theorem dX5_condition_25 : decode cX5_condition 25 = .ok (.iload 5, 2) := dX5_condition_0_z.2.2.2.2
set_option maxRecDepth 100000 in
theorem dX5_condition_27_z : ((((decode cX5_condition 27 = .ok (.aload_n 0, 1) ∧ decode cX5_condition 28 = .ok (.getfield 15, 3)) ∧ (decode cX5_condition 31 = .ok (.getfield 32, 3) ∧ decode cX5_condition 34 = .ok (.if_icmp .ge 93, 3))) ∧ ((decode cX5_condition 37 = .ok (.iload 4, 2) ∧ decode cX5_condition 39 = .ok (.bipush 38, 2)) ∧ (decode cX5_condition 41 = .ok (.if_icmp .eq 10, 3) ∧ decode cX5_condition 44 = .ok (.iload 4, 2)))) ∧ (((decode cX5_condition 46 = .ok (.bipush 124, 2) ∧ decode cX5_condition 48 = .ok (.if_icmp .ne 79, 3)) ∧ (decode cX5_condition 51 = .ok (.iload 4, 2) ∧ decode cX5_condition 53 = .ok (.bipush 124, 2))) ∧ ((decode cX5_condition 55 = .ok (.if_icmp .ne 14, 3) ∧ decode cX5_condition 58 = .ok (.iload_n 3, 1)) ∧ (decode cX5_condition 59 = .ok (.ifCond .eq 10, 3) ∧ decode cX5_condition 62 = .ok (.aload_n 0, 1))))) := by decide +kernel
theorem dX5_condition_27 : decode cX5_condition 27 = .ok (.aload_n 0, 1) := dX5_condition_27_z.1.1.1.1
theorem dX5_condition_28 : decode cX5_condition 28 = .ok (.getfield 15, 3) := dX5_condition_27_z.1.1.1.2
theorem dX5_condition_31 : decode cX5_condition 31 = .ok (.getfield 32, 3) := dX5_condition_27_z.1.1.2.1
theorem dX5_condition_34 : decode cX5_condition 34 = .ok (.if_icmp .ge 93, 3) := dX5_condition_27_z.1.1.2.2
theorem dX5_condition_37 : decode cX5_condition 37 = .ok (.iload 4, 2) := dX5_condition_27_z.1.2.1.1
theorem dX5_condition_39 : decode cX5_condition 39 = .ok (.bipush 38, 2) := dX5_condition_27_z.1.2.1.2
theorem dX5_condition_41 : decode cX5_condition 41 = .ok (.if_icmp .eq 10, 3) := dX5_condition_27_z.1.2.2.1
theorem dX5_condition_44 : decode cX5_condition 44 = .ok (.iload 4, 2) := dX5_condition_27_z.1.2.2.2
theorem dX5_condition_46 : decode cX5_condition 46 = .ok (.bipush 124, 2) := dX5_condition_27_z.2.1.1.1
theorem dX5_condition_48 : decode cX5_condition 48 = .ok (.if_icmp .ne 79, 3) := dX5_condition_27_z.2.1.1.2
theorem dX5_condition_51 : decode cX5_condition 51 = .ok (.iload 4, 2) := dX5_condition_27_z.2.1.2.1
theorem dX5_condition_53 : decode cX5_condition 53 = .ok (.bipush 124, 2) := dX5_condition_27_z.2.1.2.2
theorem dX5_condition_55 : decode cX5_condition 55 = .ok (.if_icmp .ne 14, 3) := dX5_condition_27_z.2.2.1.1
theorem dX5_condition_58 : decode cX5_condition 58 = .ok (.iload_n 3, 1) := dX5_condition_27_z.2.2.1.2
theorem dX5_condition_59 : decode cX5_condition 59 = .ok (.ifCond .eq 10, 3) := dX5_condition_27_z.2.2.2.1
theorem dX5_condition_62 : decode cX5_condition 62 = .ok (.aload_n 0, 1) := dX5_condition_27_z.2.2.2.2
set_option maxRecDepth 100000 in
theorem dX5_condition_63_z : ((((decode cX5_condition 63 = .ok (.bipush 124, 2) ∧ decode cX5_condition 65 = .ok (.iconst 0, 1)) ∧ (decode cX5_condition 66 = .ok (.invokevirtual 64, 3) ∧ decode cX5_condition 69 = .ok (.aload_n 0, 1))) ∧ ((decode cX5_condition 70 = .ok (.getfield 15, 3) ∧ decode cX5_condition 73 = .ok (.dup, 1)) ∧ (decode cX5_condition 74 = .ok (.getfield 19, 3) ∧ decode cX5_condition 77 = .ok (.iconst 1, 1)))) ∧ (((decode cX5_condition 78 = .ok (.iadd, 1) ∧ decode cX5_condition 79 = .ok (.putfield 19, 3)) ∧ (decode cX5_condition 82 = .ok (.aload_n 0, 1) ∧ decode cX5_condition 83 = .ok (.iload_n 1, 1))) ∧ ((decode cX5_condition 84 = .ok (.iconst 0, 1) ∧ decode cX5_condition 85 = .ok (.invokevirtual 68, 3)) ∧ (decode cX5_condition 88 = .ok (.ifCond .ne 5, 3) ∧ decode cX5_condition 91 = .ok (.iconst 0, 1))))) := by decide +kernel
theorem dX5_condition_63 : decode cX5_condition 63 = .ok (.bipush 124, 2) := dX5_condition_63_z.1.1.1.1
theorem dX5_condition_65 : decode cX5_condition 65 = .ok (.iconst 0, 1) := dX5_condition_63_z.1.1.1.2
theorem dX5_condition_66 : decode cX5_condition 66 = .ok (.invokevirtual 64, 3) := dX5_condition_63_z.1.1.2.1
theorem dX5_condition_69 : decode cX5_condition 69 = .ok (.aload_n 0, 1) := dX5_condition_63_z.1.1.2.2
theorem dX5_condition_70 : decode cX5_condition 70 = .ok (.getfield 15, 3) := dX5_condition_63_z.1.2.1.1
theorem dX5_condition_73 : decode cX5_condition 73 = .ok (.dup, 1) := dX5_condition_63_z.1.2.1.2
theorem dX5_condition_74 : decode cX5_condition 74 = .ok (.getfield 19, 3) := dX5_condition_63_z.1.2.2.1
theorem dX5_condition_77 : decode cX5_condition 77 = .ok (.iconst 1, 1) := dX5_condition_63_z.1.2.2.2
theorem dX5_condition_78 : decode cX5_condition 78 = .ok (.iadd, 1) := dX5_condition_63_z.2.1.1.1
theorem dX5_condition_79 : decode cX5_condition 79 = .ok (.putfield 19, 3) := dX5_condition_63_z.2.1.1.2
theorem dX5_condition_82 : decode cX5_condition 82 = .ok (.aload_n 0, 1) := dX5_condition_63_z.2.1.2.1
theorem dX5_condition_83 : decode cX5_condition 83 = .ok (.iload_n 1, 1) := dX5_condition_63_z.2.1.2.2
theorem dX5_condition_84 : decode cX5_condition 84 = .ok (.iconst 0, 1) := dX5_condition_63_z.2.2.1.1
theorem dX5_condition_85 : decode cX5_condition 85 = .ok (.invokevirtual 68, 3) := dX5_condition_63_z.2.2.1.2
theorem dX5_condition_88 : decode cX5_condition 88 = .ok (.ifCond .ne 5, 3) := dX5_condition_63_z.2.2.2.1
theorem dX5_condition_91 : decode cX5_condition 91 = .ok (.iconst 0, 1) := dX5_condition_63_z.2.2.2.2
set_option maxRecDepth 100000 in
theorem dX5_condition_92_z : ((((decode cX5_condition 92 = .ok (.ireturn, 1) ∧ decode cX5_condition 93 = .ok (.iload 4, 2)) ∧ (decode cX5_condition 95 = .ok (.bipush 38, 2) ∧ decode cX5_condition 97 = .ok (.if_icmp .ne 13, 3))) ∧ ((decode cX5_condition 100 = .ok (.aload_n 0, 1) ∧ decode cX5_condition 101 = .ok (.bipush 38, 2)) ∧ (decode cX5_condition 103 = .ok (.iconst 0, 1) ∧ decode cX5_condition 104 = .ok (.invokevirtual 64, 3)))) ∧ (((decode cX5_condition 107 = .ok (.goto 5, 3) ∧ decode cX5_condition 110 = .ok (.iconst 1, 1)) ∧ (decode cX5_condition 111 = .ok (.istore_n 3, 1) ∧ decode cX5_condition 112 = .ok (.aload_n 0, 1))) ∧ ((decode cX5_condition 113 = .ok (.getfield 15, 3) ∧ decode cX5_condition 116 = .ok (.invokevirtual 39, 3)) ∧ (decode cX5_condition 119 = .ok (.istore 4, 2) ∧ decode cX5_condition 121 = .ok (.iinc 5 1, 3))))) := by decide +kernel
theorem dX5_condition_92 : decode cX5_condition 92 = .ok (.ireturn, 1) := dX5_condition_92_z.1.1.1.1
theorem dX5_condition_93 : decode cX5_condition 93 = .ok (.iload 4, 2) := dX5_condition_92_z.1.1.1.2
theorem dX5_condition_95 : decode cX5_condition 95 = .ok (.bipush 38, 2) := dX5_condition_92_z.1.1.2.1
theorem dX5_condition_97 : decode cX5_condition 97 = .ok (.if_icmp .ne 13, 3) := dX5_condition_92_z.1.1.2.2
theorem dX5_condition_100 : decode cX5_condition 100 = .ok (.aload_n 0, 1) := dX5_condition_92_z.1.2.1.1
theorem dX5_condition_101 : decode cX5_condition 101 = .ok (.bipush 38, 2) := dX5_condition_92_z.1.2.1.2
theorem dX5_condition_103 : decode cX5_condition 103 = .ok (.iconst 0, 1) := dX5_condition_92_z.1.2.2.1
theorem dX5_condition_104 : decode cX5_condition 104 = .ok (.invokevirtual 64, 3) := dX5_condition_92_z.1.2.2.2
theorem dX5_condition_107 : decode cX5_condition 107 = .ok (.goto 5, 3) := dX5_condition_92_z.2.1.1.1
theorem dX5_condition_110 : decode cX5_condition 110 = .ok (.iconst 1, 1) := dX5_condition_92_z.2.1.1.2
theorem dX5_condition_111 : decode cX5_condition 111 = .ok (.istore_n 3, 1) := dX5_condition_92_z.2.1.2.1
theorem dX5_condition_112 : decode cX5_condition 112 = .ok (.aload_n 0, 1) := dX5_condition_92_z.2.1.2.2
theorem dX5_condition_113 : decode cX5_condition 113 = .ok (.getfield 15, 3) := dX5_condition_92_z.2.2.1.1
theorem dX5_condition_116 : decode cX5_condition 116 = .ok (.invokevirtual 39, 3) := dX5_condition_92_z.2.2.1.2
theorem dX5_condition_119 : decode cX5_condition 119 = .ok (.istore 4, 2) := dX5_condition_92_z.2.2.2.1
theorem dX5_condition_121 : decode cX5_condition 121 = .ok (.iinc 5 1, 3) := dX5_condition_92_z.2.2.2.2
set_option maxRecDepth 100000 in
theorem dX5_condition_124_z : ((((decode cX5_condition 124 = .ok (.goto (-99), 3) ∧ decode cX5_condition 127 = .ok (.iload_n 3, 1)) ∧ decode cX5_condition 128 = .ok (.ifCond .eq 10, 3)) ∧ (decode cX5_condition 131 = .ok (.aload_n 0, 1) ∧ decode cX5_condition 132 = .ok (.bipush 124, 2))) ∧ ((decode cX5_condition 134 = .ok (.iconst 0, 1) ∧ decode cX5_condition 135 = .ok (.invokevirtual 64, 3)) ∧ (decode cX5_condition 138 = .ok (.iconst 1, 1) ∧ decode cX5_condition 139 = .ok (.ireturn, 1)))) := by decide +kernel
theorem dX5_condition_124 : decode cX5_condition 124 = .ok (.goto (-99), 3) := dX5_condition_124_z.1.1.1.1
theorem dX5_condition_127 : decode cX5_condition 127 = .ok (.iload_n 3, 1) := dX5_condition_124_z.1.1.1.2
theorem dX5_condition_128 : decode cX5_condition 128 = .ok (.ifCond .eq 10, 3) := dX5_condition_124_z.1.1.2
theorem dX5_condition_131 : decode cX5_condition 131 = .ok (.aload_n 0, 1) := dX5_condition_124_z.1.2.1
theorem dX5_condition_132 : decode cX5_condition 132 = .ok (.bipush 124, 2) := dX5_condition_124_z.1.2.2
theorem dX5_condition_134 : decode cX5_condition 134 = .ok (.iconst 0, 1) := dX5_condition_124_z.2.1.1
theorem dX5_condition_135 : decode cX5_condition 135 = .ok (.invokevirtual 64, 3) := dX5_condition_124_z.2.1.2
theorem dX5_condition_138 : decode cX5_condition 138 = .ok (.iconst 1, 1) := dX5_condition_124_z.2.2.1
theorem dX5_condition_139 : decode cX5_condition 139 = .ok (.ireturn, 1) := dX5_condition_124_z.2.2.2
set_option maxRecDepth 100000 in
theorem dX5_unit_0_z : ((((decode cX5_unit 0 = .ok (.aload_n 0, 1) ∧ decode cX5_unit 1 = .ok (.getfield 15, 3)) ∧ (decode cX5_unit 4 = .ok (.invokevirtual 39, 3) ∧ decode cX5_unit 7 = .ok (.istore_n 3, 1))) ∧ ((decode cX5_unit 8 = .ok (.iload_n 2, 1) ∧ decode cX5_unit 9 = .ok (.ifCond .ne 93, 3)) ∧ (decode cX5_unit 12 = .ok (.iload_n 3, 1) ∧ decode cX5_unit 13 = .ok (.bipush 33, 2)))) ∧ (((decode cX5_unit 15 = .ok (.if_icmp .eq 9, 3) ∧ decode cX5_unit 18 = .ok (.iload_n 3, 1)) ∧ (decode cX5_unit 19 = .ok (.bipush 40, 2) ∧ decode cX5_unit 21 = .ok (.if_icmp .ne 81, 3))) ∧ ((decode cX5_unit 24 = .ok (.iload_n 1, 1) ∧ decode cX5_unit 25 = .ok (.bipush 6, 2)) ∧ (decode cX5_unit 27 = .ok (.if_icmp .lt 5, 3) ∧ decode cX5_unit 30 = .ok (.iconst 0, 1))))) := by decide +kernel
theorem dX5_unit_0 : decode cX5_unit 0 = .ok (.aload_n 0, 1) := dX5_unit_0_z.1.1.1.1
theorem dX5_unit_1 : decode cX5_unit 1 = .ok (.getfield 15, 3) := dX5_unit_0_z.1.1.1.2
theorem dX5_unit_4 : decode cX5_unit 4 = .ok (.invokevirtual 39, 3) := dX5_unit_0_z.1.1.2.1
theorem dX5_unit_7 : decode cX5_unit 7 = .ok (.istore_n 3, 1) := dX5_unit_0_z.1.1.2.2
theorem dX5_unit_8 : decode cX5_unit 8 = .ok (.iload_n 2, 1) := dX5_unit_0_z.1.2.1.1
theorem dX5_unit_9 : decode cX5_unit 9 = .ok (.ifCond .ne 93, 3) := dX5_unit_0_z.1.2.1.2
theorem dX5_unit_12 : decode cX5_unit 12 = .ok (.iload_n 3, 1) := dX5_unit_0_z.1.2.2.1
theorem dX5_unit_13 : decode cX5_unit 13 = .ok (.bipush 33, 2) := dX5_unit_0_z.1.2.2.2
theorem dX5_unit_15 : decode cX5_unit 15 = .ok (.if_icmp .eq 9, 3) := dX5_unit_0_z.2.1.1.1
theorem dX5_unit_18 : decode cX5_unit 18 = .ok (.iload_n 3, 1) := dX5_unit_0_z.2.1.1.2
theorem dX5_unit_19 : decode cX5_unit 19 = .ok (.bipush 40, 2) := dX5_unit_0_z.2.1.2.1
theorem dX5_unit_21 : decode cX5_unit 21 = .ok (.if_icmp .ne 81, 3) := dX5_unit_0_z.2.1.2.2
theorem dX5_unit_24 : decode cX5_unit 24 = .ok (.iload_n 1, 1) := dX5_unit_0_z.2.2.1.1
theorem dX5_unit_25 : decode cX5_unit 25 = .ok (.bipush 6, 2) := dX5_unit_0_z.2.2.1.2
theorem dX5_unit_27 : decode cX5_unit 27 = .ok (.if_icmp .lt 5, 3) := dX5_unit_0_z.2.2.2.1
theorem dX5_unit_30 : decode cX5_unit 30 = .ok (.iconst 0, 1) := dX5_unit_0_z.2.2.2.2
set_option maxRecDepth 100000 in
theorem dX5_unit_31_z : ((((decode cX5_unit 31 = .ok (.ireturn, 1) ∧ decode cX5_unit 32 = .ok (.aload_n 0, 1)) ∧ (decode cX5_unit 33 = .ok (.getfield 15, 3) ∧ decode cX5_unit 36 = .ok (.dup, 1))) ∧ ((decode cX5_unit 37 = .ok (.getfield 19, 3) ∧ decode cX5_unit 40 = .ok (.iconst 1, 1)) ∧ (decode cX5_unit 41 = .ok (.iadd, 1) ∧ decode cX5_unit 42 = .ok (.putfield 19, 3)))) ∧ (((decode cX5_unit 45 = .ok (.iload_n 3, 1) ∧ decode cX5_unit 46 = .ok (.bipush 40, 2)) ∧ (decode cX5_unit 48 = .ok (.if_icmp .ne 32, 3) ∧ decode cX5_unit 51 = .ok (.aload_n 0, 1))) ∧ ((decode cX5_unit 52 = .ok (.iload_n 1, 1) ∧ decode cX5_unit 53 = .ok (.iconst 1, 1)) ∧ (decode cX5_unit 54 = .ok (.iadd, 1) ∧ decode cX5_unit 55 = .ok (.iconst 0, 1))))) := by decide +kernel
theorem dX5_unit_31 : decode cX5_unit 31 = .ok (.ireturn, 1) := dX5_unit_31_z.1.1.1.1
theorem dX5_unit_32 : decode cX5_unit 32 = .ok (.aload_n 0, 1) := dX5_unit_31_z.1.1.1.2
theorem dX5_unit_33 : decode cX5_unit 33 = .ok (.getfield 15, 3) := dX5_unit_31_z.1.1.2.1
theorem dX5_unit_36 : decode cX5_unit 36 = .ok (.dup, 1) := dX5_unit_31_z.1.1.2.2
theorem dX5_unit_37 : decode cX5_unit 37 = .ok (.getfield 19, 3) := dX5_unit_31_z.1.2.1.1
theorem dX5_unit_40 : decode cX5_unit 40 = .ok (.iconst 1, 1) := dX5_unit_31_z.1.2.1.2
theorem dX5_unit_41 : decode cX5_unit 41 = .ok (.iadd, 1) := dX5_unit_31_z.1.2.2.1
theorem dX5_unit_42 : decode cX5_unit 42 = .ok (.putfield 19, 3) := dX5_unit_31_z.1.2.2.2
theorem dX5_unit_45 : decode cX5_unit 45 = .ok (.iload_n 3, 1) := dX5_unit_31_z.2.1.1.1
theorem dX5_unit_46 : decode cX5_unit 46 = .ok (.bipush 40, 2) := dX5_unit_31_z.2.1.1.2
theorem dX5_unit_48 : decode cX5_unit 48 = .ok (.if_icmp .ne 32, 3) := dX5_unit_31_z.2.1.2.1
theorem dX5_unit_51 : decode cX5_unit 51 = .ok (.aload_n 0, 1) := dX5_unit_31_z.2.1.2.2
theorem dX5_unit_52 : decode cX5_unit 52 = .ok (.iload_n 1, 1) := dX5_unit_31_z.2.2.1.1
theorem dX5_unit_53 : decode cX5_unit 53 = .ok (.iconst 1, 1) := dX5_unit_31_z.2.2.1.2
theorem dX5_unit_54 : decode cX5_unit 54 = .ok (.iadd, 1) := dX5_unit_31_z.2.2.2.1
theorem dX5_unit_55 : decode cX5_unit 55 = .ok (.iconst 0, 1) := dX5_unit_31_z.2.2.2.2
set_option maxRecDepth 100000 in
theorem dX5_unit_56_z : ((((decode cX5_unit 56 = .ok (.invokevirtual 60, 3) ∧ decode cX5_unit 59 = .ok (.ifCond .eq 19, 3)) ∧ (decode cX5_unit 62 = .ok (.aload_n 0, 1) ∧ decode cX5_unit 63 = .ok (.getfield 15, 3))) ∧ ((decode cX5_unit 66 = .ok (.bipush 41, 2) ∧ decode cX5_unit 68 = .ok (.invokevirtual 35, 3)) ∧ (decode cX5_unit 71 = .ok (.ifCond .eq 7, 3) ∧ decode cX5_unit 74 = .ok (.iconst 1, 1)))) ∧ (((decode cX5_unit 75 = .ok (.goto 4, 3) ∧ decode cX5_unit 78 = .ok (.iconst 0, 1)) ∧ (decode cX5_unit 79 = .ok (.ireturn, 1) ∧ decode cX5_unit 80 = .ok (.aload_n 0, 1))) ∧ ((decode cX5_unit 81 = .ok (.iload_n 1, 1) ∧ decode cX5_unit 82 = .ok (.iconst 1, 1)) ∧ (decode cX5_unit 83 = .ok (.iadd, 1) ∧ decode cX5_unit 84 = .ok (.iconst 0, 1))))) := by decide +kernel
theorem dX5_unit_56 : decode cX5_unit 56 = .ok (.invokevirtual 60, 3) := dX5_unit_56_z.1.1.1.1
theorem dX5_unit_59 : decode cX5_unit 59 = .ok (.ifCond .eq 19, 3) := dX5_unit_56_z.1.1.1.2
theorem dX5_unit_62 : decode cX5_unit 62 = .ok (.aload_n 0, 1) := dX5_unit_56_z.1.1.2.1
theorem dX5_unit_63 : decode cX5_unit 63 = .ok (.getfield 15, 3) := dX5_unit_56_z.1.1.2.2
theorem dX5_unit_66 : decode cX5_unit 66 = .ok (.bipush 41, 2) := dX5_unit_56_z.1.2.1.1
theorem dX5_unit_68 : decode cX5_unit 68 = .ok (.invokevirtual 35, 3) := dX5_unit_56_z.1.2.1.2
theorem dX5_unit_71 : decode cX5_unit 71 = .ok (.ifCond .eq 7, 3) := dX5_unit_56_z.1.2.2.1
theorem dX5_unit_74 : decode cX5_unit 74 = .ok (.iconst 1, 1) := dX5_unit_56_z.1.2.2.2
theorem dX5_unit_75 : decode cX5_unit 75 = .ok (.goto 4, 3) := dX5_unit_56_z.2.1.1.1
theorem dX5_unit_78 : decode cX5_unit 78 = .ok (.iconst 0, 1) := dX5_unit_56_z.2.1.1.2
theorem dX5_unit_79 : decode cX5_unit 79 = .ok (.ireturn, 1) := dX5_unit_56_z.2.1.2.1
theorem dX5_unit_80 : decode cX5_unit 80 = .ok (.aload_n 0, 1) := dX5_unit_56_z.2.1.2.2
theorem dX5_unit_81 : decode cX5_unit 81 = .ok (.iload_n 1, 1) := dX5_unit_56_z.2.2.1.1
theorem dX5_unit_82 : decode cX5_unit 82 = .ok (.iconst 1, 1) := dX5_unit_56_z.2.2.1.2
theorem dX5_unit_83 : decode cX5_unit 83 = .ok (.iadd, 1) := dX5_unit_56_z.2.2.2.1
theorem dX5_unit_84 : decode cX5_unit 84 = .ok (.iconst 0, 1) := dX5_unit_56_z.2.2.2.2
set_option maxRecDepth 100000 in
theorem dX5_unit_85_z : ((((decode cX5_unit 85 = .ok (.invokevirtual 68, 3) ∧ decode cX5_unit 88 = .ok (.ifCond .ne 5, 3)) ∧ (decode cX5_unit 91 = .ok (.iconst 0, 1) ∧ decode cX5_unit 92 = .ok (.ireturn, 1))) ∧ ((decode cX5_unit 93 = .ok (.aload_n 0, 1) ∧ decode cX5_unit 94 = .ok (.bipush 33, 2)) ∧ (decode cX5_unit 96 = .ok (.iconst 0, 1) ∧ decode cX5_unit 97 = .ok (.invokevirtual 64, 3)))) ∧ (((decode cX5_unit 100 = .ok (.iconst 1, 1) ∧ decode cX5_unit 101 = .ok (.ireturn, 1)) ∧ (decode cX5_unit 102 = .ok (.iload_n 2, 1) ∧ decode cX5_unit 103 = .ok (.ifCond .ne 13, 3))) ∧ ((decode cX5_unit 106 = .ok (.aload_n 0, 1) ∧ decode cX5_unit 107 = .ok (.iload_n 1, 1)) ∧ (decode cX5_unit 108 = .ok (.invokevirtual 54, 3) ∧ decode cX5_unit 111 = .ok (.ifCond .ne 5, 3))))) := by decide +kernel
theorem dX5_unit_85 : decode cX5_unit 85 = .ok (.invokevirtual 68, 3) := dX5_unit_85_z.1.1.1.1
theorem dX5_unit_88 : decode cX5_unit 88 = .ok (.ifCond .ne 5, 3) := dX5_unit_85_z.1.1.1.2
theorem dX5_unit_91 : decode cX5_unit 91 = .ok (.iconst 0, 1) := dX5_unit_85_z.1.1.2.1
theorem dX5_unit_92 : decode cX5_unit 92 = .ok (.ireturn, 1) := dX5_unit_85_z.1.1.2.2
theorem dX5_unit_93 : decode cX5_unit 93 = .ok (.aload_n 0, 1) := dX5_unit_85_z.1.2.1.1
theorem dX5_unit_94 : decode cX5_unit 94 = .ok (.bipush 33, 2) := dX5_unit_85_z.1.2.1.2
theorem dX5_unit_96 : decode cX5_unit 96 = .ok (.iconst 0, 1) := dX5_unit_85_z.1.2.2.1
theorem dX5_unit_97 : decode cX5_unit 97 = .ok (.invokevirtual 64, 3) := dX5_unit_85_z.1.2.2.2
theorem dX5_unit_100 : decode cX5_unit 100 = .ok (.iconst 1, 1) := dX5_unit_85_z.2.1.1.1
theorem dX5_unit_101 : decode cX5_unit 101 = .ok (.ireturn, 1) := dX5_unit_85_z.2.1.1.2
theorem dX5_unit_102 : decode cX5_unit 102 = .ok (.iload_n 2, 1) := dX5_unit_85_z.2.1.2.1
theorem dX5_unit_103 : decode cX5_unit 103 = .ok (.ifCond .ne 13, 3) := dX5_unit_85_z.2.1.2.2
theorem dX5_unit_106 : decode cX5_unit 106 = .ok (.aload_n 0, 1) := dX5_unit_85_z.2.2.1.1
theorem dX5_unit_107 : decode cX5_unit 107 = .ok (.iload_n 1, 1) := dX5_unit_85_z.2.2.1.2
theorem dX5_unit_108 : decode cX5_unit 108 = .ok (.invokevirtual 54, 3) := dX5_unit_85_z.2.2.2.1
theorem dX5_unit_111 : decode cX5_unit 111 = .ok (.ifCond .ne 5, 3) := dX5_unit_85_z.2.2.2.2
set_option maxRecDepth 100000 in
theorem dX5_unit_114_z : ((((decode cX5_unit 114 = .ok (.iconst 0, 1) ∧ decode cX5_unit 115 = .ok (.ireturn, 1)) ∧ (decode cX5_unit 116 = .ok (.aload_n 0, 1) ∧ decode cX5_unit 117 = .ok (.getfield 15, 3))) ∧ ((decode cX5_unit 120 = .ok (.invokevirtual 39, 3) ∧ decode cX5_unit 123 = .ok (.istore 4, 2)) ∧ (decode cX5_unit 125 = .ok (.iload 4, 2) ∧ decode cX5_unit 127 = .ok (.invokestatic 57, 3)))) ∧ (((decode cX5_unit 130 = .ok (.ifCond .ne 5, 3) ∧ decode cX5_unit 133 = .ok (.iconst 0, 1)) ∧ (decode cX5_unit 134 = .ok (.ireturn, 1) ∧ decode cX5_unit 135 = .ok (.aload_n 0, 1))) ∧ ((decode cX5_unit 136 = .ok (.getfield 15, 3) ∧ decode cX5_unit 139 = .ok (.dup, 1)) ∧ (decode cX5_unit 140 = .ok (.getfield 19, 3) ∧ decode cX5_unit 143 = .ok (.iconst 1, 1))))) := by decide +kernel
theorem dX5_unit_114 : decode cX5_unit 114 = .ok (.iconst 0, 1) := dX5_unit_114_z.1.1.1.1
theorem dX5_unit_115 : decode cX5_unit 115 = .ok (.ireturn, 1) := dX5_unit_114_z.1.1.1.2
theorem dX5_unit_116 : decode cX5_unit 116 = .ok (.aload_n 0, 1) := dX5_unit_114_z.1.1.2.1
theorem dX5_unit_117 : decode cX5_unit 117 = .ok (.getfield 15, 3) := dX5_unit_114_z.1.1.2.2
theorem dX5_unit_120 : decode cX5_unit 120 = .ok (.invokevirtual 39, 3) := dX5_unit_114_z.1.2.1.1
theorem dX5_unit_123 : decode cX5_unit 123 = .ok (.istore 4, 2) := dX5_unit_114_z.1.2.1.2
theorem dX5_unit_125 : decode cX5_unit 125 = .ok (.iload 4, 2) := dX5_unit_114_z.1.2.2.1
theorem dX5_unit_127 : decode cX5_unit 127 = .ok (.invokestatic 57, 3) := dX5_unit_114_z.1.2.2.2
theorem dX5_unit_130 : decode cX5_unit 130 = .ok (.ifCond .ne 5, 3) := dX5_unit_114_z.2.1.1.1
theorem dX5_unit_133 : decode cX5_unit 133 = .ok (.iconst 0, 1) := dX5_unit_114_z.2.1.1.2
theorem dX5_unit_134 : decode cX5_unit 134 = .ok (.ireturn, 1) := dX5_unit_114_z.2.1.2.1
theorem dX5_unit_135 : decode cX5_unit 135 = .ok (.aload_n 0, 1) := dX5_unit_114_z.2.1.2.2
theorem dX5_unit_136 : decode cX5_unit 136 = .ok (.getfield 15, 3) := dX5_unit_114_z.2.2.1.1
theorem dX5_unit_139 : decode cX5_unit 139 = .ok (.dup, 1) := dX5_unit_114_z.2.2.1.2
theorem dX5_unit_140 : decode cX5_unit 140 = .ok (.getfield 19, 3) := dX5_unit_114_z.2.2.2.1
theorem dX5_unit_143 : decode cX5_unit 143 = .ok (.iconst 1, 1) := dX5_unit_114_z.2.2.2.2
set_option maxRecDepth 100000 in
theorem dX5_unit_144_z : ((((decode cX5_unit 144 = .ok (.iadd, 1) ∧ decode cX5_unit 145 = .ok (.putfield 19, 3)) ∧ (decode cX5_unit 148 = .ok (.aload_n 0, 1) ∧ decode cX5_unit 149 = .ok (.iload_n 1, 1))) ∧ ((decode cX5_unit 150 = .ok (.invokevirtual 54, 3) ∧ decode cX5_unit 153 = .ok (.ifCond .ne 5, 3)) ∧ decode cX5_unit 156 = .ok (.iconst 0, 1))) ∧ (((decode cX5_unit 157 = .ok (.ireturn, 1) ∧ decode cX5_unit 158 = .ok (.aload_n 0, 1)) ∧ (decode cX5_unit 159 = .ok (.iload 4, 2) ∧ decode cX5_unit 161 = .ok (.iconst 0, 1))) ∧ ((decode cX5_unit 162 = .ok (.invokevirtual 64, 3) ∧ decode cX5_unit 165 = .ok (.iconst 1, 1)) ∧ decode cX5_unit 166 = .ok (.ireturn, 1)))) := by decide +kernel
theorem dX5_unit_144 : decode cX5_unit 144 = .ok (.iadd, 1) := dX5_unit_144_z.1.1.1.1
theorem dX5_unit_145 : decode cX5_unit 145 = .ok (.putfield 19, 3) := dX5_unit_144_z.1.1.1.2
theorem dX5_unit_148 : decode cX5_unit 148 = .ok (.aload_n 0, 1) := dX5_unit_144_z.1.1.2.1
theorem dX5_unit_149 : decode cX5_unit 149 = .ok (.iload_n 1, 1) := dX5_unit_144_z.1.1.2.2
theorem dX5_unit_150 : decode cX5_unit 150 = .ok (.invokevirtual 54, 3) := dX5_unit_144_z.1.2.1.1
theorem dX5_unit_153 : decode cX5_unit 153 = .ok (.ifCond .ne 5, 3) := dX5_unit_144_z.1.2.1.2
theorem dX5_unit_156 : decode cX5_unit 156 = .ok (.iconst 0, 1) := dX5_unit_144_z.1.2.2
theorem dX5_unit_157 : decode cX5_unit 157 = .ok (.ireturn, 1) := dX5_unit_144_z.2.1.1.1
theorem dX5_unit_158 : decode cX5_unit 158 = .ok (.aload_n 0, 1) := dX5_unit_144_z.2.1.1.2
theorem dX5_unit_159 : decode cX5_unit 159 = .ok (.iload 4, 2) := dX5_unit_144_z.2.1.2.1
theorem dX5_unit_161 : decode cX5_unit 161 = .ok (.iconst 0, 1) := dX5_unit_144_z.2.1.2.2
theorem dX5_unit_162 : decode cX5_unit 162 = .ok (.invokevirtual 64, 3) := dX5_unit_144_z.2.2.1.1
theorem dX5_unit_165 : decode cX5_unit 165 = .ok (.iconst 1, 1) := dX5_unit_144_z.2.2.1.2
theorem dX5_unit_166 : decode cX5_unit 166 = .ok (.ireturn, 1) := dX5_unit_144_z.2.2.2
set_option maxRecDepth 100000 in
theorem dX5_sum_0_z : ((((decode cX5_sum 0 = .ok (.aload_n 0, 1) ∧ decode cX5_sum 1 = .ok (.iload_n 1, 1)) ∧ (decode cX5_sum 2 = .ok (.invokevirtual 71, 3) ∧ decode cX5_sum 5 = .ok (.ifCond .ne 5, 3))) ∧ ((decode cX5_sum 8 = .ok (.iconst 0, 1) ∧ decode cX5_sum 9 = .ok (.ireturn, 1)) ∧ (decode cX5_sum 10 = .ok (.iconst 0, 1) ∧ decode cX5_sum 11 = .ok (.istore_n 2, 1)))) ∧ (((decode cX5_sum 12 = .ok (.aload_n 0, 1) ∧ decode cX5_sum 13 = .ok (.getfield 15, 3)) ∧ (decode cX5_sum 16 = .ok (.invokevirtual 39, 3) ∧ decode cX5_sum 19 = .ok (.istore_n 3, 1))) ∧ ((decode cX5_sum 20 = .ok (.iconst 0, 1) ∧ decode cX5_sum 21 = .ok (.istore 4, 2)) ∧ (decode cX5_sum 23 = .ok (.iload 4, 2) ∧ decode cX5_sum 25 = .ok (.aload_n 0, 1))))) := by decide +kernel
theorem dX5_sum_0 : decode cX5_sum 0 = .ok (.aload_n 0, 1) := dX5_sum_0_z.1.1.1.1
theorem dX5_sum_1 : decode cX5_sum 1 = .ok (.iload_n 1, 1) := dX5_sum_0_z.1.1.1.2
theorem dX5_sum_2 : decode cX5_sum 2 = .ok (.invokevirtual 71, 3) := dX5_sum_0_z.1.1.2.1
theorem dX5_sum_5 : decode cX5_sum 5 = .ok (.ifCond .ne 5, 3) := dX5_sum_0_z.1.1.2.2
theorem dX5_sum_8 : decode cX5_sum 8 = .ok (.iconst 0, 1) := dX5_sum_0_z.1.2.1.1
theorem dX5_sum_9 : decode cX5_sum 9 = .ok (.ireturn, 1) := dX5_sum_0_z.1.2.1.2
theorem dX5_sum_10 : decode cX5_sum 10 = .ok (.iconst 0, 1) := dX5_sum_0_z.1.2.2.1
theorem dX5_sum_11 : decode cX5_sum 11 = .ok (.istore_n 2, 1) := dX5_sum_0_z.1.2.2.2
theorem dX5_sum_12 : decode cX5_sum 12 = .ok (.aload_n 0, 1) := dX5_sum_0_z.2.1.1.1
theorem dX5_sum_13 : decode cX5_sum 13 = .ok (.getfield 15, 3) := dX5_sum_0_z.2.1.1.2
theorem dX5_sum_16 : decode cX5_sum 16 = .ok (.invokevirtual 39, 3) := dX5_sum_0_z.2.1.2.1
theorem dX5_sum_19 : decode cX5_sum 19 = .ok (.istore_n 3, 1) := dX5_sum_0_z.2.1.2.2
theorem dX5_sum_20 : decode cX5_sum 20 = .ok (.iconst 0, 1) := dX5_sum_0_z.2.2.1.1
theorem dX5_sum_21 : decode cX5_sum 21 = .ok (.istore 4, 2) := dX5_sum_0_z.2.2.1.2
theorem dX5_sum_23 : decode cX5_sum 23 = .ok (.iload 4, 2) := dX5_sum_0_z.2.2.2.1
theorem dX5_sum_25 : decode cX5_sum 25 = .ok (.aload_n 0, 1) := dX5_sum_0_z.2.2.2.2
set_option maxRecDepth 100000 in
theorem dX5_sum_26_z : ((((decode cX5_sum 26 = .ok (.getfield 15, 3) ∧ decode cX5_sum 29 = .ok (.getfield 32, 3)) ∧ (decode cX5_sum 32 = .ok (.if_icmp .ge 97, 3) ∧ decode cX5_sum 35 = .ok (.iload_n 3, 1))) ∧ ((decode cX5_sum 36 = .ok (.invokestatic 74, 3) ∧ decode cX5_sum 39 = .ok (.ifCond .eq 90, 3)) ∧ (decode cX5_sum 42 = .ok (.iload_n 3, 1) ∧ decode cX5_sum 43 = .ok (.bipush 42, 2)))) ∧ (((decode cX5_sum 45 = .ok (.if_icmp .eq 9, 3) ∧ decode cX5_sum 48 = .ok (.iload_n 3, 1)) ∧ (decode cX5_sum 49 = .ok (.bipush 47, 2) ∧ decode cX5_sum 51 = .ok (.if_icmp .ne 7, 3))) ∧ ((decode cX5_sum 54 = .ok (.iconst 1, 1) ∧ decode cX5_sum 55 = .ok (.goto 4, 3)) ∧ (decode cX5_sum 58 = .ok (.iconst 0, 1) ∧ decode cX5_sum 59 = .ok (.istore 5, 2))))) := by decide +kernel
theorem dX5_sum_26 : decode cX5_sum 26 = .ok (.getfield 15, 3) := dX5_sum_26_z.1.1.1.1
theorem dX5_sum_29 : decode cX5_sum 29 = .ok (.getfield 32, 3) := dX5_sum_26_z.1.1.1.2
theorem dX5_sum_32 : decode cX5_sum 32 = .ok (.if_icmp .ge 97, 3) := dX5_sum_26_z.1.1.2.1
theorem dX5_sum_35 : decode cX5_sum 35 = .ok (.iload_n 3, 1) := dX5_sum_26_z.1.1.2.2
theorem dX5_sum_36 : decode cX5_sum 36 = .ok (.invokestatic 74, 3) := dX5_sum_26_z.1.2.1.1
theorem dX5_sum_39 : decode cX5_sum 39 = .ok (.ifCond .eq 90, 3) := dX5_sum_26_z.1.2.1.2
theorem dX5_sum_42 : decode cX5_sum 42 = .ok (.iload_n 3, 1) := dX5_sum_26_z.1.2.2.1
theorem dX5_sum_43 : decode cX5_sum 43 = .ok (.bipush 42, 2) := dX5_sum_26_z.1.2.2.2
theorem dX5_sum_45 : decode cX5_sum 45 = .ok (.if_icmp .eq 9, 3) := dX5_sum_26_z.2.1.1.1
theorem dX5_sum_48 : decode cX5_sum 48 = .ok (.iload_n 3, 1) := dX5_sum_26_z.2.1.1.2
theorem dX5_sum_49 : decode cX5_sum 49 = .ok (.bipush 47, 2) := dX5_sum_26_z.2.1.2.1
theorem dX5_sum_51 : decode cX5_sum 51 = .ok (.if_icmp .ne 7, 3) := dX5_sum_26_z.2.1.2.2
theorem dX5_sum_54 : decode cX5_sum 54 = .ok (.iconst 1, 1) := dX5_sum_26_z.2.2.1.1
theorem dX5_sum_55 : decode cX5_sum 55 = .ok (.goto 4, 3) := dX5_sum_26_z.2.2.1.2
theorem dX5_sum_58 : decode cX5_sum 58 = .ok (.iconst 0, 1) := dX5_sum_26_z.2.2.2.1
theorem dX5_sum_59 : decode cX5_sum 59 = .ok (.istore 5, 2) := dX5_sum_26_z.2.2.2.2
set_option maxRecDepth 100000 in
theorem dX5_sum_61_z : ((((decode cX5_sum 61 = .ok (.iload 5, 2) ∧ decode cX5_sum 63 = .ok (.ifCond .ne 13, 3)) ∧ (decode cX5_sum 66 = .ok (.iload_n 2, 1) ∧ decode cX5_sum 67 = .ok (.ifCond .eq 9, 3))) ∧ ((decode cX5_sum 70 = .ok (.aload_n 0, 1) ∧ decode cX5_sum 71 = .ok (.iload_n 2, 1)) ∧ (decode cX5_sum 72 = .ok (.iconst 0, 1) ∧ decode cX5_sum 73 = .ok (.invokevirtual 64, 3)))) ∧ (((decode cX5_sum 76 = .ok (.aload_n 0, 1) ∧ decode cX5_sum 77 = .ok (.getfield 15, 3)) ∧ (decode cX5_sum 80 = .ok (.dup, 1) ∧ decode cX5_sum 81 = .ok (.getfield 19, 3))) ∧ ((decode cX5_sum 84 = .ok (.iconst 1, 1) ∧ decode cX5_sum 85 = .ok (.iadd, 1)) ∧ (decode cX5_sum 86 = .ok (.putfield 19, 3) ∧ decode cX5_sum 89 = .ok (.aload_n 0, 1))))) := by decide +kernel
theorem dX5_sum_61 : decode cX5_sum 61 = .ok (.iload 5, 2) := dX5_sum_61_z.1.1.1.1
theorem dX5_sum_63 : decode cX5_sum 63 = .ok (.ifCond .ne 13, 3) := dX5_sum_61_z.1.1.1.2
theorem dX5_sum_66 : decode cX5_sum 66 = .ok (.iload_n 2, 1) := dX5_sum_61_z.1.1.2.1
theorem dX5_sum_67 : decode cX5_sum 67 = .ok (.ifCond .eq 9, 3) := dX5_sum_61_z.1.1.2.2
theorem dX5_sum_70 : decode cX5_sum 70 = .ok (.aload_n 0, 1) := dX5_sum_61_z.1.2.1.1
theorem dX5_sum_71 : decode cX5_sum 71 = .ok (.iload_n 2, 1) := dX5_sum_61_z.1.2.1.2
theorem dX5_sum_72 : decode cX5_sum 72 = .ok (.iconst 0, 1) := dX5_sum_61_z.1.2.2.1
theorem dX5_sum_73 : decode cX5_sum 73 = .ok (.invokevirtual 64, 3) := dX5_sum_61_z.1.2.2.2
theorem dX5_sum_76 : decode cX5_sum 76 = .ok (.aload_n 0, 1) := dX5_sum_61_z.2.1.1.1
theorem dX5_sum_77 : decode cX5_sum 77 = .ok (.getfield 15, 3) := dX5_sum_61_z.2.1.1.2
theorem dX5_sum_80 : decode cX5_sum 80 = .ok (.dup, 1) := dX5_sum_61_z.2.1.2.1
theorem dX5_sum_81 : decode cX5_sum 81 = .ok (.getfield 19, 3) := dX5_sum_61_z.2.1.2.2
theorem dX5_sum_84 : decode cX5_sum 84 = .ok (.iconst 1, 1) := dX5_sum_61_z.2.2.1.1
theorem dX5_sum_85 : decode cX5_sum 85 = .ok (.iadd, 1) := dX5_sum_61_z.2.2.1.2
theorem dX5_sum_86 : decode cX5_sum 86 = .ok (.putfield 19, 3) := dX5_sum_61_z.2.2.2.1
theorem dX5_sum_89 : decode cX5_sum 89 = .ok (.aload_n 0, 1) := dX5_sum_61_z.2.2.2.2
set_option maxRecDepth 100000 in
theorem dX5_sum_90_z : ((((decode cX5_sum 90 = .ok (.iload_n 1, 1) ∧ decode cX5_sum 91 = .ok (.invokevirtual 71, 3)) ∧ (decode cX5_sum 94 = .ok (.ifCond .ne 5, 3) ∧ decode cX5_sum 97 = .ok (.iconst 0, 1))) ∧ ((decode cX5_sum 98 = .ok (.ireturn, 1) ∧ decode cX5_sum 99 = .ok (.iload 5, 2)) ∧ (decode cX5_sum 101 = .ok (.ifCond .eq 12, 3) ∧ decode cX5_sum 104 = .ok (.aload_n 0, 1)))) ∧ (((decode cX5_sum 105 = .ok (.iload_n 3, 1) ∧ decode cX5_sum 106 = .ok (.iconst 0, 1)) ∧ (decode cX5_sum 107 = .ok (.invokevirtual 64, 3) ∧ decode cX5_sum 110 = .ok (.goto 5, 3))) ∧ ((decode cX5_sum 113 = .ok (.iload_n 3, 1) ∧ decode cX5_sum 114 = .ok (.istore_n 2, 1)) ∧ (decode cX5_sum 115 = .ok (.aload_n 0, 1) ∧ decode cX5_sum 116 = .ok (.getfield 15, 3))))) := by decide +kernel
theorem dX5_sum_90 : decode cX5_sum 90 = .ok (.iload_n 1, 1) := dX5_sum_90_z.1.1.1.1
theorem dX5_sum_91 : decode cX5_sum 91 = .ok (.invokevirtual 71, 3) := dX5_sum_90_z.1.1.1.2
theorem dX5_sum_94 : decode cX5_sum 94 = .ok (.ifCond .ne 5, 3) := dX5_sum_90_z.1.1.2.1
theorem dX5_sum_97 : decode cX5_sum 97 = .ok (.iconst 0, 1) := dX5_sum_90_z.1.1.2.2
theorem dX5_sum_98 : decode cX5_sum 98 = .ok (.ireturn, 1) := dX5_sum_90_z.1.2.1.1
theorem dX5_sum_99 : decode cX5_sum 99 = .ok (.iload 5, 2) := dX5_sum_90_z.1.2.1.2
theorem dX5_sum_101 : decode cX5_sum 101 = .ok (.ifCond .eq 12, 3) := dX5_sum_90_z.1.2.2.1
theorem dX5_sum_104 : decode cX5_sum 104 = .ok (.aload_n 0, 1) := dX5_sum_90_z.1.2.2.2
theorem dX5_sum_105 : decode cX5_sum 105 = .ok (.iload_n 3, 1) := dX5_sum_90_z.2.1.1.1
theorem dX5_sum_106 : decode cX5_sum 106 = .ok (.iconst 0, 1) := dX5_sum_90_z.2.1.1.2
theorem dX5_sum_107 : decode cX5_sum 107 = .ok (.invokevirtual 64, 3) := dX5_sum_90_z.2.1.2.1
theorem dX5_sum_110 : decode cX5_sum 110 = .ok (.goto 5, 3) := dX5_sum_90_z.2.1.2.2
theorem dX5_sum_113 : decode cX5_sum 113 = .ok (.iload_n 3, 1) := dX5_sum_90_z.2.2.1.1
theorem dX5_sum_114 : decode cX5_sum 114 = .ok (.istore_n 2, 1) := dX5_sum_90_z.2.2.1.2
theorem dX5_sum_115 : decode cX5_sum 115 = .ok (.aload_n 0, 1) := dX5_sum_90_z.2.2.2.1
theorem dX5_sum_116 : decode cX5_sum 116 = .ok (.getfield 15, 3) := dX5_sum_90_z.2.2.2.2
set_option maxRecDepth 100000 in
theorem dX5_sum_119_z : ((((decode cX5_sum 119 = .ok (.invokevirtual 39, 3) ∧ decode cX5_sum 122 = .ok (.istore_n 3, 1)) ∧ decode cX5_sum 123 = .ok (.iinc 4 1, 3)) ∧ ((decode cX5_sum 126 = .ok (.goto (-103), 3) ∧ decode cX5_sum 129 = .ok (.iload_n 2, 1)) ∧ decode cX5_sum 130 = .ok (.ifCond .eq 9, 3))) ∧ (((decode cX5_sum 133 = .ok (.aload_n 0, 1) ∧ decode cX5_sum 134 = .ok (.iload_n 2, 1)) ∧ decode cX5_sum 135 = .ok (.iconst 0, 1)) ∧ ((decode cX5_sum 136 = .ok (.invokevirtual 64, 3) ∧ decode cX5_sum 139 = .ok (.iconst 1, 1)) ∧ decode cX5_sum 140 = .ok (.ireturn, 1)))) := by decide +kernel
theorem dX5_sum_119 : decode cX5_sum 119 = .ok (.invokevirtual 39, 3) := dX5_sum_119_z.1.1.1.1
theorem dX5_sum_122 : decode cX5_sum 122 = .ok (.istore_n 3, 1) := dX5_sum_119_z.1.1.1.2
theorem dX5_sum_123 : decode cX5_sum 123 = .ok (.iinc 4 1, 3) := dX5_sum_119_z.1.1.2
theorem dX5_sum_126 : decode cX5_sum 126 = .ok (.goto (-103), 3) := dX5_sum_119_z.1.2.1.1
theorem dX5_sum_129 : decode cX5_sum 129 = .ok (.iload_n 2, 1) := dX5_sum_119_z.1.2.1.2
theorem dX5_sum_130 : decode cX5_sum 130 = .ok (.ifCond .eq 9, 3) := dX5_sum_119_z.1.2.2
theorem dX5_sum_133 : decode cX5_sum 133 = .ok (.aload_n 0, 1) := dX5_sum_119_z.2.1.1.1
theorem dX5_sum_134 : decode cX5_sum 134 = .ok (.iload_n 2, 1) := dX5_sum_119_z.2.1.1.2
theorem dX5_sum_135 : decode cX5_sum 135 = .ok (.iconst 0, 1) := dX5_sum_119_z.2.1.2
theorem dX5_sum_136 : decode cX5_sum 136 = .ok (.invokevirtual 64, 3) := dX5_sum_119_z.2.2.1.1
theorem dX5_sum_139 : decode cX5_sum 139 = .ok (.iconst 1, 1) := dX5_sum_119_z.2.2.1.2
theorem dX5_sum_140 : decode cX5_sum 140 = .ok (.ireturn, 1) := dX5_sum_119_z.2.2.2
set_option maxRecDepth 100000 in
theorem dX5_atom_0_z : ((((decode cX5_atom 0 = .ok (.aload_n 0, 1) ∧ decode cX5_atom 1 = .ok (.getfield 15, 3)) ∧ (decode cX5_atom 4 = .ok (.invokevirtual 39, 3) ∧ decode cX5_atom 7 = .ok (.istore_n 2, 1))) ∧ ((decode cX5_atom 8 = .ok (.iload_n 2, 1) ∧ decode cX5_atom 9 = .ok (.bipush 91, 2)) ∧ (decode cX5_atom 11 = .ok (.if_icmp .ne 63, 3) ∧ decode cX5_atom 14 = .ok (.iload_n 1, 1)))) ∧ (((decode cX5_atom 15 = .ok (.bipush 6, 2) ∧ decode cX5_atom 17 = .ok (.if_icmp .lt 5, 3)) ∧ (decode cX5_atom 20 = .ok (.iconst 0, 1) ∧ decode cX5_atom 21 = .ok (.ireturn, 1))) ∧ ((decode cX5_atom 22 = .ok (.aload_n 0, 1) ∧ decode cX5_atom 23 = .ok (.getfield 15, 3)) ∧ (decode cX5_atom 26 = .ok (.dup, 1) ∧ decode cX5_atom 27 = .ok (.getfield 19, 3))))) := by decide +kernel
theorem dX5_atom_0 : decode cX5_atom 0 = .ok (.aload_n 0, 1) := dX5_atom_0_z.1.1.1.1
theorem dX5_atom_1 : decode cX5_atom 1 = .ok (.getfield 15, 3) := dX5_atom_0_z.1.1.1.2
theorem dX5_atom_4 : decode cX5_atom 4 = .ok (.invokevirtual 39, 3) := dX5_atom_0_z.1.1.2.1
theorem dX5_atom_7 : decode cX5_atom 7 = .ok (.istore_n 2, 1) := dX5_atom_0_z.1.1.2.2
theorem dX5_atom_8 : decode cX5_atom 8 = .ok (.iload_n 2, 1) := dX5_atom_0_z.1.2.1.1
theorem dX5_atom_9 : decode cX5_atom 9 = .ok (.bipush 91, 2) := dX5_atom_0_z.1.2.1.2
theorem dX5_atom_11 : decode cX5_atom 11 = .ok (.if_icmp .ne 63, 3) := dX5_atom_0_z.1.2.2.1
theorem dX5_atom_14 : decode cX5_atom 14 = .ok (.iload_n 1, 1) := dX5_atom_0_z.1.2.2.2
theorem dX5_atom_15 : decode cX5_atom 15 = .ok (.bipush 6, 2) := dX5_atom_0_z.2.1.1.1
theorem dX5_atom_17 : decode cX5_atom 17 = .ok (.if_icmp .lt 5, 3) := dX5_atom_0_z.2.1.1.2
theorem dX5_atom_20 : decode cX5_atom 20 = .ok (.iconst 0, 1) := dX5_atom_0_z.2.1.2.1
theorem dX5_atom_21 : decode cX5_atom 21 = .ok (.ireturn, 1) := dX5_atom_0_z.2.1.2.2
theorem dX5_atom_22 : decode cX5_atom 22 = .ok (.aload_n 0, 1) := dX5_atom_0_z.2.2.1.1
theorem dX5_atom_23 : decode cX5_atom 23 = .ok (.getfield 15, 3) := dX5_atom_0_z.2.2.1.2
theorem dX5_atom_26 : decode cX5_atom 26 = .ok (.dup, 1) := dX5_atom_0_z.2.2.2.1
theorem dX5_atom_27 : decode cX5_atom 27 = .ok (.getfield 19, 3) := dX5_atom_0_z.2.2.2.2
set_option maxRecDepth 100000 in
theorem dX5_atom_30_z : ((((decode cX5_atom 30 = .ok (.iconst 1, 1) ∧ decode cX5_atom 31 = .ok (.iadd, 1)) ∧ (decode cX5_atom 32 = .ok (.putfield 19, 3) ∧ decode cX5_atom 35 = .ok (.aload_n 0, 1))) ∧ ((decode cX5_atom 36 = .ok (.iload_n 1, 1) ∧ decode cX5_atom 37 = .ok (.iconst 1, 1)) ∧ (decode cX5_atom 38 = .ok (.iadd, 1) ∧ decode cX5_atom 39 = .ok (.invokevirtual 54, 3)))) ∧ (((decode cX5_atom 42 = .ok (.ifCond .eq 15, 3) ∧ decode cX5_atom 45 = .ok (.aload_n 0, 1)) ∧ (decode cX5_atom 46 = .ok (.getfield 15, 3) ∧ decode cX5_atom 49 = .ok (.invokevirtual 39, 3))) ∧ ((decode cX5_atom 52 = .ok (.bipush 93, 2) ∧ decode cX5_atom 54 = .ok (.if_icmp .eq 5, 3)) ∧ (decode cX5_atom 57 = .ok (.iconst 0, 1) ∧ decode cX5_atom 58 = .ok (.ireturn, 1))))) := by decide +kernel
theorem dX5_atom_30 : decode cX5_atom 30 = .ok (.iconst 1, 1) := dX5_atom_30_z.1.1.1.1
theorem dX5_atom_31 : decode cX5_atom 31 = .ok (.iadd, 1) := dX5_atom_30_z.1.1.1.2
theorem dX5_atom_32 : decode cX5_atom 32 = .ok (.putfield 19, 3) := dX5_atom_30_z.1.1.2.1
theorem dX5_atom_35 : decode cX5_atom 35 = .ok (.aload_n 0, 1) := dX5_atom_30_z.1.1.2.2
theorem dX5_atom_36 : decode cX5_atom 36 = .ok (.iload_n 1, 1) := dX5_atom_30_z.1.2.1.1
theorem dX5_atom_37 : decode cX5_atom 37 = .ok (.iconst 1, 1) := dX5_atom_30_z.1.2.1.2
theorem dX5_atom_38 : decode cX5_atom 38 = .ok (.iadd, 1) := dX5_atom_30_z.1.2.2.1
theorem dX5_atom_39 : decode cX5_atom 39 = .ok (.invokevirtual 54, 3) := dX5_atom_30_z.1.2.2.2
theorem dX5_atom_42 : decode cX5_atom 42 = .ok (.ifCond .eq 15, 3) := dX5_atom_30_z.2.1.1.1
theorem dX5_atom_45 : decode cX5_atom 45 = .ok (.aload_n 0, 1) := dX5_atom_30_z.2.1.1.2
theorem dX5_atom_46 : decode cX5_atom 46 = .ok (.getfield 15, 3) := dX5_atom_30_z.2.1.2.1
theorem dX5_atom_49 : decode cX5_atom 49 = .ok (.invokevirtual 39, 3) := dX5_atom_30_z.2.1.2.2
theorem dX5_atom_52 : decode cX5_atom 52 = .ok (.bipush 93, 2) := dX5_atom_30_z.2.2.1.1
theorem dX5_atom_54 : decode cX5_atom 54 = .ok (.if_icmp .eq 5, 3) := dX5_atom_30_z.2.2.1.2
theorem dX5_atom_57 : decode cX5_atom 57 = .ok (.iconst 0, 1) := dX5_atom_30_z.2.2.2.1
theorem dX5_atom_58 : decode cX5_atom 58 = .ok (.ireturn, 1) := dX5_atom_30_z.2.2.2.2
set_option maxRecDepth 100000 in
theorem dX5_atom_59_z : ((((decode cX5_atom 59 = .ok (.aload_n 0, 1) ∧ decode cX5_atom 60 = .ok (.getfield 15, 3)) ∧ (decode cX5_atom 63 = .ok (.dup, 1) ∧ decode cX5_atom 64 = .ok (.getfield 19, 3))) ∧ ((decode cX5_atom 67 = .ok (.iconst 1, 1) ∧ decode cX5_atom 68 = .ok (.iadd, 1)) ∧ (decode cX5_atom 69 = .ok (.putfield 19, 3) ∧ decode cX5_atom 72 = .ok (.iconst 1, 1)))) ∧ (((decode cX5_atom 73 = .ok (.ireturn, 1) ∧ decode cX5_atom 74 = .ok (.iconst 0, 1)) ∧ (decode cX5_atom 75 = .ok (.istore_n 3, 1) ∧ decode cX5_atom 76 = .ok (.iload_n 3, 1))) ∧ ((decode cX5_atom 77 = .ok (.getstatic 77, 3) ∧ decode cX5_atom 80 = .ok (.arraylength, 1)) ∧ (decode cX5_atom 81 = .ok (.if_icmp .ge 39, 3) ∧ decode cX5_atom 84 = .ok (.iload_n 2, 1))))) := by decide +kernel
theorem dX5_atom_59 : decode cX5_atom 59 = .ok (.aload_n 0, 1) := dX5_atom_59_z.1.1.1.1
theorem dX5_atom_60 : decode cX5_atom 60 = .ok (.getfield 15, 3) := dX5_atom_59_z.1.1.1.2
theorem dX5_atom_63 : decode cX5_atom 63 = .ok (.dup, 1) := dX5_atom_59_z.1.1.2.1
theorem dX5_atom_64 : decode cX5_atom 64 = .ok (.getfield 19, 3) := dX5_atom_59_z.1.1.2.2
theorem dX5_atom_67 : decode cX5_atom 67 = .ok (.iconst 1, 1) := dX5_atom_59_z.1.2.1.1
theorem dX5_atom_68 : decode cX5_atom 68 = .ok (.iadd, 1) := dX5_atom_59_z.1.2.1.2
theorem dX5_atom_69 : decode cX5_atom 69 = .ok (.putfield 19, 3) := dX5_atom_59_z.1.2.2.1
theorem dX5_atom_72 : decode cX5_atom 72 = .ok (.iconst 1, 1) := dX5_atom_59_z.1.2.2.2
theorem dX5_atom_73 : decode cX5_atom 73 = .ok (.ireturn, 1) := dX5_atom_59_z.2.1.1.1
theorem dX5_atom_74 : decode cX5_atom 74 = .ok (.iconst 0, 1) := dX5_atom_59_z.2.1.1.2
theorem dX5_atom_75 : decode cX5_atom 75 = .ok (.istore_n 3, 1) := dX5_atom_59_z.2.1.2.1
theorem dX5_atom_76 : decode cX5_atom 76 = .ok (.iload_n 3, 1) := dX5_atom_59_z.2.1.2.2
theorem dX5_atom_77 : decode cX5_atom 77 = .ok (.getstatic 77, 3) := dX5_atom_59_z.2.2.1.1
theorem dX5_atom_80 : decode cX5_atom 80 = .ok (.arraylength, 1) := dX5_atom_59_z.2.2.1.2
theorem dX5_atom_81 : decode cX5_atom 81 = .ok (.if_icmp .ge 39, 3) := dX5_atom_59_z.2.2.2.1
theorem dX5_atom_84 : decode cX5_atom 84 = .ok (.iload_n 2, 1) := dX5_atom_59_z.2.2.2.2
set_option maxRecDepth 100000 in
theorem dX5_atom_85_z : ((((decode cX5_atom 85 = .ok (.getstatic 77, 3) ∧ decode cX5_atom 88 = .ok (.iload_n 3, 1)) ∧ (decode cX5_atom 89 = .ok (.caload, 1) ∧ decode cX5_atom 90 = .ok (.if_icmp .ne 24, 3))) ∧ ((decode cX5_atom 93 = .ok (.aload_n 0, 1) ∧ decode cX5_atom 94 = .ok (.getfield 15, 3)) ∧ (decode cX5_atom 97 = .ok (.dup, 1) ∧ decode cX5_atom 98 = .ok (.getfield 19, 3)))) ∧ (((decode cX5_atom 101 = .ok (.iconst 1, 1) ∧ decode cX5_atom 102 = .ok (.iadd, 1)) ∧ (decode cX5_atom 103 = .ok (.putfield 19, 3) ∧ decode cX5_atom 106 = .ok (.aload_n 0, 1))) ∧ ((decode cX5_atom 107 = .ok (.iconst 2, 1) ∧ decode cX5_atom 108 = .ok (.iload_n 3, 1)) ∧ (decode cX5_atom 109 = .ok (.invokevirtual 64, 3) ∧ decode cX5_atom 112 = .ok (.iconst 1, 1))))) := by decide +kernel
theorem dX5_atom_85 : decode cX5_atom 85 = .ok (.getstatic 77, 3) := dX5_atom_85_z.1.1.1.1
theorem dX5_atom_88 : decode cX5_atom 88 = .ok (.iload_n 3, 1) := dX5_atom_85_z.1.1.1.2
theorem dX5_atom_89 : decode cX5_atom 89 = .ok (.caload, 1) := dX5_atom_85_z.1.1.2.1
theorem dX5_atom_90 : decode cX5_atom 90 = .ok (.if_icmp .ne 24, 3) := dX5_atom_85_z.1.1.2.2
theorem dX5_atom_93 : decode cX5_atom 93 = .ok (.aload_n 0, 1) := dX5_atom_85_z.1.2.1.1
theorem dX5_atom_94 : decode cX5_atom 94 = .ok (.getfield 15, 3) := dX5_atom_85_z.1.2.1.2
theorem dX5_atom_97 : decode cX5_atom 97 = .ok (.dup, 1) := dX5_atom_85_z.1.2.2.1
theorem dX5_atom_98 : decode cX5_atom 98 = .ok (.getfield 19, 3) := dX5_atom_85_z.1.2.2.2
theorem dX5_atom_101 : decode cX5_atom 101 = .ok (.iconst 1, 1) := dX5_atom_85_z.2.1.1.1
theorem dX5_atom_102 : decode cX5_atom 102 = .ok (.iadd, 1) := dX5_atom_85_z.2.1.1.2
theorem dX5_atom_103 : decode cX5_atom 103 = .ok (.putfield 19, 3) := dX5_atom_85_z.2.1.2.1
theorem dX5_atom_106 : decode cX5_atom 106 = .ok (.aload_n 0, 1) := dX5_atom_85_z.2.1.2.2
theorem dX5_atom_107 : decode cX5_atom 107 = .ok (.iconst 2, 1) := dX5_atom_85_z.2.2.1.1
theorem dX5_atom_108 : decode cX5_atom 108 = .ok (.iload_n 3, 1) := dX5_atom_85_z.2.2.1.2
theorem dX5_atom_109 : decode cX5_atom 109 = .ok (.invokevirtual 64, 3) := dX5_atom_85_z.2.2.2.1
theorem dX5_atom_112 : decode cX5_atom 112 = .ok (.iconst 1, 1) := dX5_atom_85_z.2.2.2.2
set_option maxRecDepth 100000 in
theorem dX5_atom_113_z : ((((decode cX5_atom 113 = .ok (.ireturn, 1) ∧ decode cX5_atom 114 = .ok (.iinc 3 1, 3)) ∧ (decode cX5_atom 117 = .ok (.goto (-41), 3) ∧ decode cX5_atom 120 = .ok (.aload_n 0, 1))) ∧ ((decode cX5_atom 121 = .ok (.getfield 15, 3) ∧ decode cX5_atom 124 = .ok (.iconst 4, 1)) ∧ (decode cX5_atom 125 = .ok (.sipush 9999, 3) ∧ decode cX5_atom 128 = .ok (.invokevirtual 81, 3)))) ∧ (((decode cX5_atom 131 = .ok (.istore_n 3, 1) ∧ decode cX5_atom 132 = .ok (.iload_n 3, 1)) ∧ (decode cX5_atom 133 = .ok (.iconst (-1), 1) ∧ decode cX5_atom 134 = .ok (.if_icmp .ne 5, 3))) ∧ ((decode cX5_atom 137 = .ok (.iconst 0, 1) ∧ decode cX5_atom 138 = .ok (.ireturn, 1)) ∧ (decode cX5_atom 139 = .ok (.aload_n 0, 1) ∧ decode cX5_atom 140 = .ok (.iconst 1, 1))))) := by decide +kernel
theorem dX5_atom_113 : decode cX5_atom 113 = .ok (.ireturn, 1) := dX5_atom_113_z.1.1.1.1
theorem dX5_atom_114 : decode cX5_atom 114 = .ok (.iinc 3 1, 3) := dX5_atom_113_z.1.1.1.2
theorem dX5_atom_117 : decode cX5_atom 117 = .ok (.goto (-41), 3) := dX5_atom_113_z.1.1.2.1
theorem dX5_atom_120 : decode cX5_atom 120 = .ok (.aload_n 0, 1) := dX5_atom_113_z.1.1.2.2
theorem dX5_atom_121 : decode cX5_atom 121 = .ok (.getfield 15, 3) := dX5_atom_113_z.1.2.1.1
theorem dX5_atom_124 : decode cX5_atom 124 = .ok (.iconst 4, 1) := dX5_atom_113_z.1.2.1.2
theorem dX5_atom_125 : decode cX5_atom 125 = .ok (.sipush 9999, 3) := dX5_atom_113_z.1.2.2.1
theorem dX5_atom_128 : decode cX5_atom 128 = .ok (.invokevirtual 81, 3) := dX5_atom_113_z.1.2.2.2
theorem dX5_atom_131 : decode cX5_atom 131 = .ok (.istore_n 3, 1) := dX5_atom_113_z.2.1.1.1
theorem dX5_atom_132 : decode cX5_atom 132 = .ok (.iload_n 3, 1) := dX5_atom_113_z.2.1.1.2
theorem dX5_atom_133 : decode cX5_atom 133 = .ok (.iconst (-1), 1) := dX5_atom_113_z.2.1.2.1
theorem dX5_atom_134 : decode cX5_atom 134 = .ok (.if_icmp .ne 5, 3) := dX5_atom_113_z.2.1.2.2
theorem dX5_atom_137 : decode cX5_atom 137 = .ok (.iconst 0, 1) := dX5_atom_113_z.2.2.1.1
theorem dX5_atom_138 : decode cX5_atom 138 = .ok (.ireturn, 1) := dX5_atom_113_z.2.2.1.2
theorem dX5_atom_139 : decode cX5_atom 139 = .ok (.aload_n 0, 1) := dX5_atom_113_z.2.2.2.1
theorem dX5_atom_140 : decode cX5_atom 140 = .ok (.iconst 1, 1) := dX5_atom_113_z.2.2.2.2
set_option maxRecDepth 100000 in
theorem dX5_atom_141_z : ((decode cX5_atom 141 = .ok (.iload_n 3, 1) ∧ decode cX5_atom 142 = .ok (.invokevirtual 64, 3)) ∧ (decode cX5_atom 145 = .ok (.iconst 1, 1) ∧ decode cX5_atom 146 = .ok (.ireturn, 1))) := by decide +kernel
theorem dX5_atom_141 : decode cX5_atom 141 = .ok (.iload_n 3, 1) := dX5_atom_141_z.1.1
theorem dX5_atom_142 : decode cX5_atom 142 = .ok (.invokevirtual 64, 3) := dX5_atom_141_z.1.2
theorem dX5_atom_145 : decode cX5_atom 145 = .ok (.iconst 1, 1) := dX5_atom_141_z.2.1
theorem dX5_atom_146 : decode cX5_atom 146 = .ok (.ireturn, 1) := dX5_atom_141_z.2.2
set_option maxRecDepth 100000 in
theorem dX5_put_0_z : ((((decode cX5_put 0 = .ok (.aload_n 0, 1) ∧ decode cX5_put 1 = .ok (.getfield 25, 3)) ∧ (decode cX5_put 4 = .ok (.aload_n 0, 1) ∧ decode cX5_put 5 = .ok (.getfield 9, 3))) ∧ ((decode cX5_put 8 = .ok (.arraylength, 1) ∧ decode cX5_put 9 = .ok (.if_icmp .ge 28, 3)) ∧ (decode cX5_put 12 = .ok (.aload_n 0, 1) ∧ decode cX5_put 13 = .ok (.getfield 9, 3)))) ∧ (((decode cX5_put 16 = .ok (.aload_n 0, 1) ∧ decode cX5_put 17 = .ok (.getfield 25, 3)) ∧ (decode cX5_put 20 = .ok (.iload_n 1, 1) ∧ decode cX5_put 21 = .ok (.iload_n 2, 1))) ∧ ((decode cX5_put 22 = .ok (.bipush 8, 2) ∧ decode cX5_put 24 = .ok (.ishl, 1)) ∧ (decode cX5_put 25 = .ok (.ior, 1) ∧ decode cX5_put 26 = .ok (.iastore, 1))))) := by decide +kernel
theorem dX5_put_0 : decode cX5_put 0 = .ok (.aload_n 0, 1) := dX5_put_0_z.1.1.1.1
theorem dX5_put_1 : decode cX5_put 1 = .ok (.getfield 25, 3) := dX5_put_0_z.1.1.1.2
theorem dX5_put_4 : decode cX5_put 4 = .ok (.aload_n 0, 1) := dX5_put_0_z.1.1.2.1
theorem dX5_put_5 : decode cX5_put 5 = .ok (.getfield 9, 3) := dX5_put_0_z.1.1.2.2
theorem dX5_put_8 : decode cX5_put 8 = .ok (.arraylength, 1) := dX5_put_0_z.1.2.1.1
theorem dX5_put_9 : decode cX5_put 9 = .ok (.if_icmp .ge 28, 3) := dX5_put_0_z.1.2.1.2
theorem dX5_put_12 : decode cX5_put 12 = .ok (.aload_n 0, 1) := dX5_put_0_z.1.2.2.1
theorem dX5_put_13 : decode cX5_put 13 = .ok (.getfield 9, 3) := dX5_put_0_z.1.2.2.2
theorem dX5_put_16 : decode cX5_put 16 = .ok (.aload_n 0, 1) := dX5_put_0_z.2.1.1.1
theorem dX5_put_17 : decode cX5_put 17 = .ok (.getfield 25, 3) := dX5_put_0_z.2.1.1.2
theorem dX5_put_20 : decode cX5_put 20 = .ok (.iload_n 1, 1) := dX5_put_0_z.2.1.2.1
theorem dX5_put_21 : decode cX5_put 21 = .ok (.iload_n 2, 1) := dX5_put_0_z.2.1.2.2
theorem dX5_put_22 : decode cX5_put 22 = .ok (.bipush 8, 2) := dX5_put_0_z.2.2.1.1
theorem dX5_put_24 : decode cX5_put 24 = .ok (.ishl, 1) := dX5_put_0_z.2.2.1.2
theorem dX5_put_25 : decode cX5_put 25 = .ok (.ior, 1) := dX5_put_0_z.2.2.2.1
theorem dX5_put_26 : decode cX5_put 26 = .ok (.iastore, 1) := dX5_put_0_z.2.2.2.2
set_option maxRecDepth 100000 in
theorem dX5_put_27_z : (((decode cX5_put 27 = .ok (.aload_n 0, 1) ∧ decode cX5_put 28 = .ok (.dup, 1)) ∧ (decode cX5_put 29 = .ok (.getfield 25, 3) ∧ decode cX5_put 32 = .ok (.iconst 1, 1))) ∧ ((decode cX5_put 33 = .ok (.iadd, 1) ∧ decode cX5_put 34 = .ok (.putfield 25, 3)) ∧ decode cX5_put 37 = .ok (.return_, 1))) := by decide +kernel
theorem dX5_put_27 : decode cX5_put 27 = .ok (.aload_n 0, 1) := dX5_put_27_z.1.1.1
theorem dX5_put_28 : decode cX5_put 28 = .ok (.dup, 1) := dX5_put_27_z.1.1.2
theorem dX5_put_29 : decode cX5_put 29 = .ok (.getfield 25, 3) := dX5_put_27_z.1.2.1
theorem dX5_put_32 : decode cX5_put 32 = .ok (.iconst 1, 1) := dX5_put_27_z.1.2.2
theorem dX5_put_33 : decode cX5_put 33 = .ok (.iadd, 1) := dX5_put_27_z.2.1.1
theorem dX5_put_34 : decode cX5_put 34 = .ok (.putfield 25, 3) := dX5_put_27_z.2.1.2
theorem dX5_put_37 : decode cX5_put 37 = .ok (.return_, 1) := dX5_put_27_z.2.2
set_option maxRecDepth 100000 in
theorem dX5_isComparison_0_z : ((((decode cX5_isComparison 0 = .ok (.iload_n 0, 1) ∧ decode cX5_isComparison 1 = .ok (.bipush 61, 2)) ∧ (decode cX5_isComparison 3 = .ok (.if_icmp .eq 15, 3) ∧ decode cX5_isComparison 6 = .ok (.iload_n 0, 1))) ∧ ((decode cX5_isComparison 7 = .ok (.bipush 60, 2) ∧ decode cX5_isComparison 9 = .ok (.if_icmp .eq 9, 3)) ∧ decode cX5_isComparison 12 = .ok (.iload_n 0, 1))) ∧ (((decode cX5_isComparison 13 = .ok (.bipush 62, 2) ∧ decode cX5_isComparison 15 = .ok (.if_icmp .ne 7, 3)) ∧ decode cX5_isComparison 18 = .ok (.iconst 1, 1)) ∧ ((decode cX5_isComparison 19 = .ok (.goto 4, 3) ∧ decode cX5_isComparison 22 = .ok (.iconst 0, 1)) ∧ decode cX5_isComparison 23 = .ok (.ireturn, 1)))) := by decide +kernel
theorem dX5_isComparison_0 : decode cX5_isComparison 0 = .ok (.iload_n 0, 1) := dX5_isComparison_0_z.1.1.1.1
theorem dX5_isComparison_1 : decode cX5_isComparison 1 = .ok (.bipush 61, 2) := dX5_isComparison_0_z.1.1.1.2
theorem dX5_isComparison_3 : decode cX5_isComparison 3 = .ok (.if_icmp .eq 15, 3) := dX5_isComparison_0_z.1.1.2.1
theorem dX5_isComparison_6 : decode cX5_isComparison 6 = .ok (.iload_n 0, 1) := dX5_isComparison_0_z.1.1.2.2
theorem dX5_isComparison_7 : decode cX5_isComparison 7 = .ok (.bipush 60, 2) := dX5_isComparison_0_z.1.2.1.1
theorem dX5_isComparison_9 : decode cX5_isComparison 9 = .ok (.if_icmp .eq 9, 3) := dX5_isComparison_0_z.1.2.1.2
theorem dX5_isComparison_12 : decode cX5_isComparison 12 = .ok (.iload_n 0, 1) := dX5_isComparison_0_z.1.2.2
theorem dX5_isComparison_13 : decode cX5_isComparison 13 = .ok (.bipush 62, 2) := dX5_isComparison_0_z.2.1.1.1
theorem dX5_isComparison_15 : decode cX5_isComparison 15 = .ok (.if_icmp .ne 7, 3) := dX5_isComparison_0_z.2.1.1.2
theorem dX5_isComparison_18 : decode cX5_isComparison 18 = .ok (.iconst 1, 1) := dX5_isComparison_0_z.2.1.2
theorem dX5_isComparison_19 : decode cX5_isComparison 19 = .ok (.goto 4, 3) := dX5_isComparison_0_z.2.2.1.1
theorem dX5_isComparison_22 : decode cX5_isComparison 22 = .ok (.iconst 0, 1) := dX5_isComparison_0_z.2.2.1.2
theorem dX5_isComparison_23 : decode cX5_isComparison 23 = .ok (.ireturn, 1) := dX5_isComparison_0_z.2.2.2
set_option maxRecDepth 100000 in
theorem dX5_isArithmetic_0_z : ((((decode cX5_isArithmetic 0 = .ok (.iload_n 0, 1) ∧ decode cX5_isArithmetic 1 = .ok (.bipush 43, 2)) ∧ (decode cX5_isArithmetic 3 = .ok (.if_icmp .eq 21, 3) ∧ decode cX5_isArithmetic 6 = .ok (.iload_n 0, 1))) ∧ ((decode cX5_isArithmetic 7 = .ok (.bipush 45, 2) ∧ decode cX5_isArithmetic 9 = .ok (.if_icmp .eq 15, 3)) ∧ (decode cX5_isArithmetic 12 = .ok (.iload_n 0, 1) ∧ decode cX5_isArithmetic 13 = .ok (.bipush 42, 2)))) ∧ (((decode cX5_isArithmetic 15 = .ok (.if_icmp .eq 9, 3) ∧ decode cX5_isArithmetic 18 = .ok (.iload_n 0, 1)) ∧ (decode cX5_isArithmetic 19 = .ok (.bipush 47, 2) ∧ decode cX5_isArithmetic 21 = .ok (.if_icmp .ne 7, 3))) ∧ ((decode cX5_isArithmetic 24 = .ok (.iconst 1, 1) ∧ decode cX5_isArithmetic 25 = .ok (.goto 4, 3)) ∧ (decode cX5_isArithmetic 28 = .ok (.iconst 0, 1) ∧ decode cX5_isArithmetic 29 = .ok (.ireturn, 1))))) := by decide +kernel
theorem dX5_isArithmetic_0 : decode cX5_isArithmetic 0 = .ok (.iload_n 0, 1) := dX5_isArithmetic_0_z.1.1.1.1
theorem dX5_isArithmetic_1 : decode cX5_isArithmetic 1 = .ok (.bipush 43, 2) := dX5_isArithmetic_0_z.1.1.1.2
theorem dX5_isArithmetic_3 : decode cX5_isArithmetic 3 = .ok (.if_icmp .eq 21, 3) := dX5_isArithmetic_0_z.1.1.2.1
theorem dX5_isArithmetic_6 : decode cX5_isArithmetic 6 = .ok (.iload_n 0, 1) := dX5_isArithmetic_0_z.1.1.2.2
theorem dX5_isArithmetic_7 : decode cX5_isArithmetic 7 = .ok (.bipush 45, 2) := dX5_isArithmetic_0_z.1.2.1.1
theorem dX5_isArithmetic_9 : decode cX5_isArithmetic 9 = .ok (.if_icmp .eq 15, 3) := dX5_isArithmetic_0_z.1.2.1.2
theorem dX5_isArithmetic_12 : decode cX5_isArithmetic 12 = .ok (.iload_n 0, 1) := dX5_isArithmetic_0_z.1.2.2.1
theorem dX5_isArithmetic_13 : decode cX5_isArithmetic 13 = .ok (.bipush 42, 2) := dX5_isArithmetic_0_z.1.2.2.2
theorem dX5_isArithmetic_15 : decode cX5_isArithmetic 15 = .ok (.if_icmp .eq 9, 3) := dX5_isArithmetic_0_z.2.1.1.1
theorem dX5_isArithmetic_18 : decode cX5_isArithmetic 18 = .ok (.iload_n 0, 1) := dX5_isArithmetic_0_z.2.1.1.2
theorem dX5_isArithmetic_19 : decode cX5_isArithmetic 19 = .ok (.bipush 47, 2) := dX5_isArithmetic_0_z.2.1.2.1
theorem dX5_isArithmetic_21 : decode cX5_isArithmetic 21 = .ok (.if_icmp .ne 7, 3) := dX5_isArithmetic_0_z.2.1.2.2
theorem dX5_isArithmetic_24 : decode cX5_isArithmetic 24 = .ok (.iconst 1, 1) := dX5_isArithmetic_0_z.2.2.1.1
theorem dX5_isArithmetic_25 : decode cX5_isArithmetic 25 = .ok (.goto 4, 3) := dX5_isArithmetic_0_z.2.2.1.2
theorem dX5_isArithmetic_28 : decode cX5_isArithmetic 28 = .ok (.iconst 0, 1) := dX5_isArithmetic_0_z.2.2.2.1
theorem dX5_isArithmetic_29 : decode cX5_isArithmetic 29 = .ok (.ireturn, 1) := dX5_isArithmetic_0_z.2.2.2.2
set_option maxRecDepth 100000 in
theorem dX10_fault_0_z : ((((decode cX10_fault 0 = .ok (.iload_n 1, 1) ∧ decode cX10_fault 1 = .ok (.ifCond .ne 19, 3)) ∧ (decode cX10_fault 4 = .ok (.aload_n 0, 1) ∧ decode cX10_fault 5 = .ok (.getfield 19, 3))) ∧ ((decode cX10_fault 8 = .ok (.aload_n 0, 1) ∧ decode cX10_fault 9 = .ok (.getfield 10, 3)) ∧ (decode cX10_fault 12 = .ok (.aload_n 0, 1) ∧ decode cX10_fault 13 = .ok (.getfield 33, 3)))) ∧ (((decode cX10_fault 16 = .ok (.invokevirtual 103, 3) ∧ decode cX10_fault 19 = .ok (.ireturn, 1)) ∧ (decode cX10_fault 20 = .ok (.iload_n 1, 1) ∧ decode cX10_fault 21 = .ok (.iconst 1, 1))) ∧ ((decode cX10_fault 22 = .ok (.if_icmp .ne 15, 3) ∧ decode cX10_fault 25 = .ok (.aload_n 0, 1)) ∧ (decode cX10_fault 26 = .ok (.getfield 26, 3) ∧ decode cX10_fault 29 = .ok (.aload_n 0, 1))))) := by decide +kernel
theorem dX10_fault_0 : decode cX10_fault 0 = .ok (.iload_n 1, 1) := dX10_fault_0_z.1.1.1.1
theorem dX10_fault_1 : decode cX10_fault 1 = .ok (.ifCond .ne 19, 3) := dX10_fault_0_z.1.1.1.2
theorem dX10_fault_4 : decode cX10_fault 4 = .ok (.aload_n 0, 1) := dX10_fault_0_z.1.1.2.1
theorem dX10_fault_5 : decode cX10_fault 5 = .ok (.getfield 19, 3) := dX10_fault_0_z.1.1.2.2
theorem dX10_fault_8 : decode cX10_fault 8 = .ok (.aload_n 0, 1) := dX10_fault_0_z.1.2.1.1
theorem dX10_fault_9 : decode cX10_fault 9 = .ok (.getfield 10, 3) := dX10_fault_0_z.1.2.1.2
theorem dX10_fault_12 : decode cX10_fault 12 = .ok (.aload_n 0, 1) := dX10_fault_0_z.1.2.2.1
theorem dX10_fault_13 : decode cX10_fault 13 = .ok (.getfield 33, 3) := dX10_fault_0_z.1.2.2.2
theorem dX10_fault_16 : decode cX10_fault 16 = .ok (.invokevirtual 103, 3) := dX10_fault_0_z.2.1.1.1
theorem dX10_fault_19 : decode cX10_fault 19 = .ok (.ireturn, 1) := dX10_fault_0_z.2.1.1.2
theorem dX10_fault_20 : decode cX10_fault 20 = .ok (.iload_n 1, 1) := dX10_fault_0_z.2.1.2.1
theorem dX10_fault_21 : decode cX10_fault 21 = .ok (.iconst 1, 1) := dX10_fault_0_z.2.1.2.2
theorem dX10_fault_22 : decode cX10_fault 22 = .ok (.if_icmp .ne 15, 3) := dX10_fault_0_z.2.2.1.1
theorem dX10_fault_25 : decode cX10_fault 25 = .ok (.aload_n 0, 1) := dX10_fault_0_z.2.2.1.2
theorem dX10_fault_26 : decode cX10_fault 26 = .ok (.getfield 26, 3) := dX10_fault_0_z.2.2.2.1
theorem dX10_fault_29 : decode cX10_fault 29 = .ok (.aload_n 0, 1) := dX10_fault_0_z.2.2.2.2
set_option maxRecDepth 100000 in
theorem dX10_fault_30_z : (((decode cX10_fault 30 = .ok (.getfield 10, 3) ∧ decode cX10_fault 33 = .ok (.invokevirtual 107, 3)) ∧ decode cX10_fault 36 = .ok (.ireturn, 1)) ∧ (decode cX10_fault 37 = .ok (.bipush (-2), 2) ∧ decode cX10_fault 39 = .ok (.ireturn, 1))) := by decide +kernel
theorem dX10_fault_30 : decode cX10_fault 30 = .ok (.getfield 10, 3) := dX10_fault_30_z.1.1.1
theorem dX10_fault_33 : decode cX10_fault 33 = .ok (.invokevirtual 107, 3) := dX10_fault_30_z.1.1.2
theorem dX10_fault_36 : decode cX10_fault 36 = .ok (.ireturn, 1) := dX10_fault_30_z.1.2
theorem dX10_fault_37 : decode cX10_fault 37 = .ok (.bipush (-2), 2) := dX10_fault_30_z.2.1
theorem dX10_fault_39 : decode cX10_fault 39 = .ok (.ireturn, 1) := dX10_fault_30_z.2.2
set_option maxRecDepth 100000 in
theorem dX10_takeCourt_0_z : ((((decode cX10_takeCourt 0 = .ok (.aload_n 0, 1) ∧ decode cX10_takeCourt 1 = .ok (.getfield 10, 3)) ∧ (decode cX10_takeCourt 4 = .ok (.iconst 0, 1) ∧ decode cX10_takeCourt 5 = .ok (.putfield 96, 3))) ∧ ((decode cX10_takeCourt 8 = .ok (.aload_n 0, 1) ∧ decode cX10_takeCourt 9 = .ok (.getfield 37, 3)) ∧ (decode cX10_takeCourt 12 = .ok (.aload_n 0, 1) ∧ decode cX10_takeCourt 13 = .ok (.getfield 33, 3)))) ∧ (((decode cX10_takeCourt 16 = .ok (.invokevirtual 120, 3) ∧ decode cX10_takeCourt 19 = .ok (.aload_n 0, 1)) ∧ (decode cX10_takeCourt 20 = .ok (.getfield 49, 3) ∧ decode cX10_takeCourt 23 = .ok (.aload_n 0, 1))) ∧ ((decode cX10_takeCourt 24 = .ok (.getfield 37, 3) ∧ decode cX10_takeCourt 27 = .ok (.invokevirtual 124, 3)) ∧ (decode cX10_takeCourt 30 = .ok (.aload_n 0, 1) ∧ decode cX10_takeCourt 31 = .ok (.getfield 59, 3))))) := by decide +kernel
theorem dX10_takeCourt_0 : decode cX10_takeCourt 0 = .ok (.aload_n 0, 1) := dX10_takeCourt_0_z.1.1.1.1
theorem dX10_takeCourt_1 : decode cX10_takeCourt 1 = .ok (.getfield 10, 3) := dX10_takeCourt_0_z.1.1.1.2
theorem dX10_takeCourt_4 : decode cX10_takeCourt 4 = .ok (.iconst 0, 1) := dX10_takeCourt_0_z.1.1.2.1
theorem dX10_takeCourt_5 : decode cX10_takeCourt 5 = .ok (.putfield 96, 3) := dX10_takeCourt_0_z.1.1.2.2
theorem dX10_takeCourt_8 : decode cX10_takeCourt 8 = .ok (.aload_n 0, 1) := dX10_takeCourt_0_z.1.2.1.1
theorem dX10_takeCourt_9 : decode cX10_takeCourt 9 = .ok (.getfield 37, 3) := dX10_takeCourt_0_z.1.2.1.2
theorem dX10_takeCourt_12 : decode cX10_takeCourt 12 = .ok (.aload_n 0, 1) := dX10_takeCourt_0_z.1.2.2.1
theorem dX10_takeCourt_13 : decode cX10_takeCourt 13 = .ok (.getfield 33, 3) := dX10_takeCourt_0_z.1.2.2.2
theorem dX10_takeCourt_16 : decode cX10_takeCourt 16 = .ok (.invokevirtual 120, 3) := dX10_takeCourt_0_z.2.1.1.1
theorem dX10_takeCourt_19 : decode cX10_takeCourt 19 = .ok (.aload_n 0, 1) := dX10_takeCourt_0_z.2.1.1.2
theorem dX10_takeCourt_20 : decode cX10_takeCourt 20 = .ok (.getfield 49, 3) := dX10_takeCourt_0_z.2.1.2.1
theorem dX10_takeCourt_23 : decode cX10_takeCourt 23 = .ok (.aload_n 0, 1) := dX10_takeCourt_0_z.2.1.2.2
theorem dX10_takeCourt_24 : decode cX10_takeCourt 24 = .ok (.getfield 37, 3) := dX10_takeCourt_0_z.2.2.1.1
theorem dX10_takeCourt_27 : decode cX10_takeCourt 27 = .ok (.invokevirtual 124, 3) := dX10_takeCourt_0_z.2.2.1.2
theorem dX10_takeCourt_30 : decode cX10_takeCourt 30 = .ok (.aload_n 0, 1) := dX10_takeCourt_0_z.2.2.2.1
theorem dX10_takeCourt_31 : decode cX10_takeCourt 31 = .ok (.getfield 59, 3) := dX10_takeCourt_0_z.2.2.2.2
set_option maxRecDepth 100000 in
theorem dX10_takeCourt_34_z : (((decode cX10_takeCourt 34 = .ok (.invokevirtual 127, 3) ∧ decode cX10_takeCourt 37 = .ok (.aload_n 0, 1)) ∧ (decode cX10_takeCourt 38 = .ok (.iconst 0, 1) ∧ decode cX10_takeCourt 39 = .ok (.putfield 130, 3))) ∧ ((decode cX10_takeCourt 42 = .ok (.aload_n 0, 1) ∧ decode cX10_takeCourt 43 = .ok (.getfield 37, 3)) ∧ (decode cX10_takeCourt 46 = .ok (.getfield 134, 3) ∧ decode cX10_takeCourt 49 = .ok (.ireturn, 1)))) := by decide +kernel
theorem dX10_takeCourt_34 : decode cX10_takeCourt 34 = .ok (.invokevirtual 127, 3) := dX10_takeCourt_34_z.1.1.1
theorem dX10_takeCourt_37 : decode cX10_takeCourt 37 = .ok (.aload_n 0, 1) := dX10_takeCourt_34_z.1.1.2
theorem dX10_takeCourt_38 : decode cX10_takeCourt 38 = .ok (.iconst 0, 1) := dX10_takeCourt_34_z.1.2.1
theorem dX10_takeCourt_39 : decode cX10_takeCourt 39 = .ok (.putfield 130, 3) := dX10_takeCourt_34_z.1.2.2
theorem dX10_takeCourt_42 : decode cX10_takeCourt 42 = .ok (.aload_n 0, 1) := dX10_takeCourt_34_z.2.1.1
theorem dX10_takeCourt_43 : decode cX10_takeCourt 43 = .ok (.getfield 37, 3) := dX10_takeCourt_34_z.2.1.2
theorem dX10_takeCourt_46 : decode cX10_takeCourt 46 = .ok (.getfield 134, 3) := dX10_takeCourt_34_z.2.2.1
theorem dX10_takeCourt_49 : decode cX10_takeCourt 49 = .ok (.ireturn, 1) := dX10_takeCourt_34_z.2.2.2
set_option maxRecDepth 20000 in
theorem qw0 : Cond.selects RX2 yX2_clause yX2_clause ∈ wA := zw 0 (by decide +kernel) (by decide +kernel)
set_option maxRecDepth 20000 in
theorem qw1 : Cond.selects RX2 yX2_items yX2_items ∈ wA := zw 1 (by decide +kernel) (by decide +kernel)
set_option maxRecDepth 20000 in
theorem qw2 : Cond.selects RX5 yX5_clause yX5_clause ∈ wA := zw 2 (by decide +kernel) (by decide +kernel)
set_option maxRecDepth 20000 in
theorem qw3 : Cond.selects RX5 yX5_sum yX5_sum ∈ wA := zw 3 (by decide +kernel) (by decide +kernel)
set_option maxRecDepth 20000 in
theorem qw4 : Cond.selects RX5 yX5_atom yX5_atom ∈ wA := zw 4 (by decide +kernel) (by decide +kernel)
set_option maxRecDepth 20000 in
theorem qw5 : Cond.selects RX5 yX5_put yX5_put ∈ wA := zw 5 (by decide +kernel) (by decide +kernel)
set_option maxRecDepth 20000 in
theorem qw6 : Cond.selects RX5 yX5_condition yX5_condition ∈ wA := zw 6 (by decide +kernel) (by decide +kernel)
set_option maxRecDepth 20000 in
theorem qw7 : Cond.selects RX5 yX5_unit yX5_unit ∈ wA := zw 7 (by decide +kernel) (by decide +kernel)
set_option maxRecDepth 20000 in
theorem qw100 : Cond.initialized RX2 ∈ wA := List.mem_filter.mpr ⟨zt1 (List.mem_of_getElem? (i := 3) rfl), (by decide +kernel)⟩
set_option maxRecDepth 20000 in
theorem qw101 : Cond.initialized RX5 ∈ wA := List.mem_filter.mpr ⟨zt1 (List.mem_of_getElem? (i := 4) rfl), (by decide +kernel)⟩
set_option maxRecDepth 20000 in
theorem qw135 : Cond.fieldLink RX5 32 "NinePortraits$Tape" "length" "I" ∈ wA := List.mem_filter.mpr ⟨zt1 (List.mem_of_getElem? (i := 38) rfl), (by decide +kernel)⟩
set_option maxRecDepth 20000 in
theorem qw136 : Cond.fieldLink RX2 54 "NinePortraits$Tape" "length" "I" ∈ wA := List.mem_filter.mpr ⟨zt1 (List.mem_of_getElem? (i := 39) rfl), (by decide +kernel)⟩
set_option maxRecDepth 20000 in
theorem qw137 : Cond.fieldLink RX5 19 "NinePortraits$Tape" "at" "I" ∈ wA := List.mem_filter.mpr ⟨zt1 (List.mem_of_getElem? (i := 40) rfl), (by decide +kernel)⟩
set_option maxRecDepth 20000 in
theorem qw138 : Cond.fieldLink RX2 19 "NinePortraits$Tape" "at" "I" ∈ wA := List.mem_filter.mpr ⟨zt1 (List.mem_of_getElem? (i := 41) rfl), (by decide +kernel)⟩
set_option maxRecDepth 20000 in
theorem qw154 : Cond.fieldLink RX2 9 "NinePortraits$CourtReader" "tape" "LNinePortraits$Tape;" ∈ wA := List.mem_filter.mpr ⟨zt1 (List.mem_of_getElem? (i := 57) rfl), (by decide +kernel)⟩
set_option maxRecDepth 20000 in
theorem qw155 : Cond.fieldLink RX2 15 "NinePortraits$CourtReader" "court" "LNinePortraits$Court;" ∈ wA := List.mem_filter.mpr ⟨zt1 (List.mem_of_getElem? (i := 58) rfl), (by decide +kernel)⟩
set_option maxRecDepth 20000 in
theorem qw156 : Cond.fieldLink RX2 33 "NinePortraits$CourtReader" "hasRules" "Z" ∈ wA := List.mem_filter.mpr ⟨zt1 (List.mem_of_getElem? (i := 59) rfl), (by decide +kernel)⟩
set_option maxRecDepth 20000 in
theorem qw170 : Cond.fieldLink RX5 9 "NinePortraits$LawReader" "steps" "[I" ∈ wA := List.mem_filter.mpr ⟨zt1 (List.mem_of_getElem? (i := 73) rfl), (by decide +kernel)⟩
set_option maxRecDepth 20000 in
theorem qw171 : Cond.fieldLink RX5 25 "NinePortraits$LawReader" "size" "I" ∈ wA := List.mem_filter.mpr ⟨zt1 (List.mem_of_getElem? (i := 74) rfl), (by decide +kernel)⟩
set_option maxRecDepth 20000 in
theorem qw172 : Cond.fieldLink RX5 15 "NinePortraits$LawReader" "tape" "LNinePortraits$Tape;" ∈ wA := List.mem_filter.mpr ⟨zt1 (List.mem_of_getElem? (i := 75) rfl), (by decide +kernel)⟩
set_option maxRecDepth 20000 in
theorem qw187 : Cond.fieldLink RX2 41 "NinePortraits$Court" "rules" "[I" ∈ wA := List.mem_filter.mpr ⟨zt1 (List.mem_of_getElem? (i := 90) rfl), (by decide +kernel)⟩
set_option maxRecDepth 20000 in
theorem qw189 : Cond.fieldLink RX2 79 "NinePortraits$Court" "brideParts" "[I" ∈ wA := List.mem_filter.mpr ⟨zt1 (List.mem_of_getElem? (i := 92) rfl), (by decide +kernel)⟩
set_option maxRecDepth 20000 in
theorem qw191 : Cond.fieldLink RX2 91 "NinePortraits$Court" "painterParts" "[I" ∈ wA := List.mem_filter.mpr ⟨zt1 (List.mem_of_getElem? (i := 94) rfl), (by decide +kernel)⟩
set_option maxRecDepth 20000 in
theorem qw193 : Cond.fieldLink RX2 25 "NinePortraits$Court" "brides" "I" ∈ wA := List.mem_filter.mpr ⟨zt1 (List.mem_of_getElem? (i := 96) rfl), (by decide +kernel)⟩
set_option maxRecDepth 20000 in
theorem qw197 : Cond.fieldLink RX2 30 "NinePortraits$Court" "painters" "I" ∈ wA := List.mem_filter.mpr ⟨zt1 (List.mem_of_getElem? (i := 100) rfl), (by decide +kernel)⟩
set_option maxRecDepth 20000 in
theorem qw357 : Cond.fieldLink RX10 19 "NinePortraits" "courtReader" "LNinePortraits$CourtReader;" ∈ wA := List.mem_filter.mpr ⟨zt2 (List.mem_of_getElem? (i := 20) rfl), (by decide +kernel)⟩
set_option maxRecDepth 20000 in
theorem qw358 : Cond.fieldLink RX10 26 "NinePortraits" "lawReader" "LNinePortraits$LawReader;" ∈ wA := List.mem_filter.mpr ⟨zt2 (List.mem_of_getElem? (i := 21) rfl), (by decide +kernel)⟩
set_option maxRecDepth 20000 in
theorem qw359 : Cond.fieldLink RX10 33 "NinePortraits" "draft" "LNinePortraits$Court;" ∈ wA := List.mem_filter.mpr ⟨zt2 (List.mem_of_getElem? (i := 22) rfl), (by decide +kernel)⟩
set_option maxRecDepth 20000 in
theorem qw424 : Cond.methodLink RX10 103 yX2_read ∈ wA := List.mem_filter.mpr ⟨zt2 (List.mem_of_getElem? (i := 87) rfl), (by decide +kernel)⟩
set_option maxRecDepth 20000 in
theorem qw425 : Cond.instanceMethod yX2_read ∈ wA := List.mem_filter.mpr ⟨zt2 (List.mem_of_getElem? (i := 88) rfl), (by decide +kernel)⟩
set_option maxRecDepth 20000 in
theorem qw426 : Cond.selects RX2 yX2_read yX2_read ∈ wA := List.mem_filter.mpr ⟨zt2 (List.mem_of_getElem? (i := 89) rfl), (by decide +kernel)⟩
set_option maxRecDepth 20000 in
theorem qw427 : Cond.code yX2_read cX2_read 5 (some .int) ∈ wA := List.mem_filter.mpr ⟨zt2 (List.mem_of_getElem? (i := 90) rfl), (by decide +kernel)⟩
set_option maxRecDepth 20000 in
theorem qw428 : Cond.fieldLink RX2 37 "NinePortraits$CourtReader" "RULE_DEFAULTS" "[I" ∈ wA := List.mem_filter.mpr ⟨zt2 (List.mem_of_getElem? (i := 91) rfl), (by decide +kernel)⟩
set_option maxRecDepth 20000 in
theorem qw430 : Cond.methodLink RX2 44 arraycopyName ∈ wA := List.mem_filter.mpr ⟨zt2 (List.mem_of_getElem? (i := 93) rfl), (by decide +kernel)⟩
set_option maxRecDepth 20000 in
theorem qw433 : Cond.methodLink RX2 50 yX2_clause ∈ wA := List.mem_filter.mpr ⟨zt2 (List.mem_of_getElem? (i := 96) rfl), (by decide +kernel)⟩
set_option maxRecDepth 20000 in
theorem qw435 : Cond.instanceMethod yX2_clause ∈ wA := List.mem_filter.mpr ⟨zt2 (List.mem_of_getElem? (i := 98) rfl), (by decide +kernel)⟩
set_option maxRecDepth 20000 in
theorem qw436 : Cond.code yX2_clause cX2_clause 3 (some .boolean) ∈ wA := List.mem_filter.mpr ⟨zt2 (List.mem_of_getElem? (i := 99) rfl), (by decide +kernel)⟩
set_option maxRecDepth 20000 in
theorem qw437 : Cond.methodLink RX2 61 yX9_peek ∈ wA := List.mem_filter.mpr ⟨zt2 (List.mem_of_getElem? (i := 100) rfl), (by decide +kernel)⟩
set_option maxRecDepth 20000 in
theorem qw441 : Cond.fieldLink RX2 65 "NinePortraits$CourtReader" "RULE_LETTERS" "[C" ∈ wA := List.mem_filter.mpr ⟨zt2 (List.mem_of_getElem? (i := 104) rfl), (by decide +kernel)⟩
set_option maxRecDepth 20000 in
theorem qw443 : Cond.fieldLink RX2 69 "NinePortraits$CourtReader" "RULE_BOUNDS" "[I" ∈ wA := List.mem_filter.mpr ⟨zt2 (List.mem_of_getElem? (i := 106) rfl), (by decide +kernel)⟩
set_option maxRecDepth 20000 in
theorem qw445 : Cond.methodLink RX2 72 yX2_items ∈ wA := List.mem_filter.mpr ⟨zt2 (List.mem_of_getElem? (i := 108) rfl), (by decide +kernel)⟩
set_option maxRecDepth 20000 in
theorem qw447 : Cond.instanceMethod yX2_items ∈ wA := List.mem_filter.mpr ⟨zt2 (List.mem_of_getElem? (i := 110) rfl), (by decide +kernel)⟩
set_option maxRecDepth 20000 in
theorem qw448 : Cond.code yX2_items cX2_items 9 (some .boolean) ∈ wA := List.mem_filter.mpr ⟨zt2 (List.mem_of_getElem? (i := 111) rfl), (by decide +kernel)⟩
set_option maxRecDepth 20000 in
theorem qw449 : Cond.methodLink RX2 100 yX2_placeOf ∈ wA := List.mem_filter.mpr ⟨zt2 (List.mem_of_getElem? (i := 112) rfl), (by decide +kernel)⟩
set_option maxRecDepth 20000 in
theorem qw450 : Cond.static yX2_placeOf ∈ wA := List.mem_filter.mpr ⟨zt2 (List.mem_of_getElem? (i := 113) rfl), (by decide +kernel)⟩
set_option maxRecDepth 20000 in
theorem qw451 : Cond.code yX2_placeOf cX2_placeOf 3 (some .int) ∈ wA := List.mem_filter.mpr ⟨zt2 (List.mem_of_getElem? (i := 114) rfl), (by decide +kernel)⟩
set_option maxRecDepth 20000 in
theorem qw455 : Cond.methodLink RX2 108 yX9_number ∈ wA := List.mem_filter.mpr ⟨zt2 (List.mem_of_getElem? (i := 118) rfl), (by decide +kernel)⟩
set_option maxRecDepth 20000 in
theorem qw456 : Cond.instanceMethod yX9_number ∈ wA := List.mem_filter.mpr ⟨zt2 (List.mem_of_getElem? (i := 119) rfl), (by decide +kernel)⟩
set_option maxRecDepth 20000 in
theorem qw457 : Cond.selects RX9 yX9_number yX9_number ∈ wA := List.mem_filter.mpr ⟨zt2 (List.mem_of_getElem? (i := 120) rfl), (by decide +kernel)⟩
set_option maxRecDepth 20000 in
theorem qw458 : Cond.code yX9_number cX9_number 5 (some .int) ∈ wA := List.mem_filter.mpr ⟨zt2 (List.mem_of_getElem? (i := 121) rfl), (by decide +kernel)⟩
set_option maxRecDepth 20000 in
theorem qw459 : Cond.fieldLink RX2 76 "NinePortraits$CourtReader" "BRIDE_DEFAULTS" "[I" ∈ wA := List.mem_filter.mpr ⟨zt2 (List.mem_of_getElem? (i := 122) rfl), (by decide +kernel)⟩
set_option maxRecDepth 20000 in
theorem qw461 : Cond.fieldLink RX2 82 "NinePortraits$CourtReader" "BRIDE_LETTERS" "[C" ∈ wA := List.mem_filter.mpr ⟨zt2 (List.mem_of_getElem? (i := 124) rfl), (by decide +kernel)⟩
set_option maxRecDepth 20000 in
theorem qw463 : Cond.fieldLink RX2 85 "NinePortraits$CourtReader" "BRIDE_BOUNDS" "[I" ∈ wA := List.mem_filter.mpr ⟨zt2 (List.mem_of_getElem? (i := 126) rfl), (by decide +kernel)⟩
set_option maxRecDepth 20000 in
theorem qw465 : Cond.fieldLink RX2 88 "NinePortraits$CourtReader" "PAINTER_DEFAULTS" "[I" ∈ wA := List.mem_filter.mpr ⟨zt2 (List.mem_of_getElem? (i := 128) rfl), (by decide +kernel)⟩
set_option maxRecDepth 20000 in
theorem qw467 : Cond.fieldLink RX2 94 "NinePortraits$CourtReader" "PAINTER_LETTERS" "[C" ∈ wA := List.mem_filter.mpr ⟨zt2 (List.mem_of_getElem? (i := 130) rfl), (by decide +kernel)⟩
set_option maxRecDepth 20000 in
theorem qw469 : Cond.fieldLink RX2 97 "NinePortraits$CourtReader" "PAINTER_BOUNDS" "[I" ∈ wA := List.mem_filter.mpr ⟨zt2 (List.mem_of_getElem? (i := 132) rfl), (by decide +kernel)⟩
set_option maxRecDepth 20000 in
theorem qw471 : Cond.methodLink RX2 57 yX9_takes ∈ wA := List.mem_filter.mpr ⟨zt2 (List.mem_of_getElem? (i := 134) rfl), (by decide +kernel)⟩
set_option maxRecDepth 20000 in
theorem qw472 : Cond.instanceMethod yX9_takes ∈ wA := List.mem_filter.mpr ⟨zt2 (List.mem_of_getElem? (i := 135) rfl), (by decide +kernel)⟩
set_option maxRecDepth 20000 in
theorem qw473 : Cond.selects RX9 yX9_takes yX9_takes ∈ wA := List.mem_filter.mpr ⟨zt2 (List.mem_of_getElem? (i := 136) rfl), (by decide +kernel)⟩
set_option maxRecDepth 20000 in
theorem qw474 : Cond.code yX9_takes cX9_takes 2 (some .boolean) ∈ wA := List.mem_filter.mpr ⟨zt2 (List.mem_of_getElem? (i := 137) rfl), (by decide +kernel)⟩
set_option maxRecDepth 20000 in
theorem qw476 : Cond.methodLink RX10 107 yX5_read ∈ wA := List.mem_filter.mpr ⟨zt2 (List.mem_of_getElem? (i := 139) rfl), (by decide +kernel)⟩
set_option maxRecDepth 20000 in
theorem qw477 : Cond.instanceMethod yX5_read ∈ wA := List.mem_filter.mpr ⟨zt2 (List.mem_of_getElem? (i := 140) rfl), (by decide +kernel)⟩
set_option maxRecDepth 20000 in
theorem qw478 : Cond.selects RX5 yX5_read yX5_read ∈ wA := List.mem_filter.mpr ⟨zt2 (List.mem_of_getElem? (i := 141) rfl), (by decide +kernel)⟩
set_option maxRecDepth 20000 in
theorem qw479 : Cond.code yX5_read cX5_read 4 (some .int) ∈ wA := List.mem_filter.mpr ⟨zt2 (List.mem_of_getElem? (i := 142) rfl), (by decide +kernel)⟩
set_option maxRecDepth 20000 in
theorem qw480 : Cond.methodLink RX5 28 yX5_clause ∈ wA := List.mem_filter.mpr ⟨zt2 (List.mem_of_getElem? (i := 143) rfl), (by decide +kernel)⟩
set_option maxRecDepth 20000 in
theorem qw482 : Cond.instanceMethod yX5_clause ∈ wA := List.mem_filter.mpr ⟨zt2 (List.mem_of_getElem? (i := 145) rfl), (by decide +kernel)⟩
set_option maxRecDepth 20000 in
theorem qw483 : Cond.code yX5_clause cX5_clause 3 (some .boolean) ∈ wA := List.mem_filter.mpr ⟨zt2 (List.mem_of_getElem? (i := 146) rfl), (by decide +kernel)⟩
set_option maxRecDepth 20000 in
theorem qw484 : Cond.methodLink RX5 35 yX9_takes ∈ wA := List.mem_filter.mpr ⟨zt2 (List.mem_of_getElem? (i := 147) rfl), (by decide +kernel)⟩
set_option maxRecDepth 20000 in
theorem qw485 : Cond.methodLink RX5 39 yX9_peek ∈ wA := List.mem_filter.mpr ⟨zt2 (List.mem_of_getElem? (i := 148) rfl), (by decide +kernel)⟩
set_option maxRecDepth 20000 in
theorem qw486 : Cond.methodLink RX5 54 yX5_sum ∈ wA := List.mem_filter.mpr ⟨zt2 (List.mem_of_getElem? (i := 149) rfl), (by decide +kernel)⟩
set_option maxRecDepth 20000 in
theorem qw488 : Cond.instanceMethod yX5_sum ∈ wA := List.mem_filter.mpr ⟨zt2 (List.mem_of_getElem? (i := 151) rfl), (by decide +kernel)⟩
set_option maxRecDepth 20000 in
theorem qw489 : Cond.code yX5_sum cX5_sum 6 (some .boolean) ∈ wA := List.mem_filter.mpr ⟨zt2 (List.mem_of_getElem? (i := 152) rfl), (by decide +kernel)⟩
set_option maxRecDepth 20000 in
theorem qw490 : Cond.methodLink RX5 71 yX5_atom ∈ wA := List.mem_filter.mpr ⟨zt2 (List.mem_of_getElem? (i := 153) rfl), (by decide +kernel)⟩
set_option maxRecDepth 20000 in
theorem qw492 : Cond.instanceMethod yX5_atom ∈ wA := List.mem_filter.mpr ⟨zt2 (List.mem_of_getElem? (i := 155) rfl), (by decide +kernel)⟩
set_option maxRecDepth 20000 in
theorem qw493 : Cond.code yX5_atom cX5_atom 4 (some .boolean) ∈ wA := List.mem_filter.mpr ⟨zt2 (List.mem_of_getElem? (i := 156) rfl), (by decide +kernel)⟩
set_option maxRecDepth 20000 in
theorem qw494 : Cond.fieldLink RX5 77 "NinePortraits$LawReader" "LETTERS" "[C" ∈ wA := List.mem_filter.mpr ⟨zt2 (List.mem_of_getElem? (i := 157) rfl), (by decide +kernel)⟩
set_option maxRecDepth 20000 in
theorem qw496 : Cond.methodLink RX5 64 yX5_put ∈ wA := List.mem_filter.mpr ⟨zt2 (List.mem_of_getElem? (i := 159) rfl), (by decide +kernel)⟩
set_option maxRecDepth 20000 in
theorem qw498 : Cond.instanceMethod yX5_put ∈ wA := List.mem_filter.mpr ⟨zt2 (List.mem_of_getElem? (i := 161) rfl), (by decide +kernel)⟩
set_option maxRecDepth 20000 in
theorem qw499 : Cond.code yX5_put cX5_put 3 none ∈ wA := List.mem_filter.mpr ⟨zt2 (List.mem_of_getElem? (i := 162) rfl), (by decide +kernel)⟩
set_option maxRecDepth 20000 in
theorem qw500 : Cond.methodLink RX5 81 yX9_number ∈ wA := List.mem_filter.mpr ⟨zt2 (List.mem_of_getElem? (i := 163) rfl), (by decide +kernel)⟩
set_option maxRecDepth 20000 in
theorem qw501 : Cond.methodLink RX5 74 yX5_isArithmetic ∈ wA := List.mem_filter.mpr ⟨zt2 (List.mem_of_getElem? (i := 164) rfl), (by decide +kernel)⟩
set_option maxRecDepth 20000 in
theorem qw502 : Cond.static yX5_isArithmetic ∈ wA := List.mem_filter.mpr ⟨zt2 (List.mem_of_getElem? (i := 165) rfl), (by decide +kernel)⟩
set_option maxRecDepth 20000 in
theorem qw503 : Cond.code yX5_isArithmetic cX5_isArithmetic 1 (some .boolean) ∈ wA := List.mem_filter.mpr ⟨zt2 (List.mem_of_getElem? (i := 166) rfl), (by decide +kernel)⟩
set_option maxRecDepth 20000 in
theorem qw504 : Cond.methodLink RX5 57 yX5_isComparison ∈ wA := List.mem_filter.mpr ⟨zt2 (List.mem_of_getElem? (i := 167) rfl), (by decide +kernel)⟩
set_option maxRecDepth 20000 in
theorem qw505 : Cond.static yX5_isComparison ∈ wA := List.mem_filter.mpr ⟨zt2 (List.mem_of_getElem? (i := 168) rfl), (by decide +kernel)⟩
set_option maxRecDepth 20000 in
theorem qw506 : Cond.code yX5_isComparison cX5_isComparison 1 (some .boolean) ∈ wA := List.mem_filter.mpr ⟨zt2 (List.mem_of_getElem? (i := 169) rfl), (by decide +kernel)⟩
set_option maxRecDepth 20000 in
theorem qw507 : Cond.methodLink RX5 60 yX5_condition ∈ wA := List.mem_filter.mpr ⟨zt2 (List.mem_of_getElem? (i := 170) rfl), (by decide +kernel)⟩
set_option maxRecDepth 20000 in
theorem qw509 : Cond.instanceMethod yX5_condition ∈ wA := List.mem_filter.mpr ⟨zt2 (List.mem_of_getElem? (i := 172) rfl), (by decide +kernel)⟩
set_option maxRecDepth 20000 in
theorem qw510 : Cond.code yX5_condition cX5_condition 6 (some .boolean) ∈ wA := List.mem_filter.mpr ⟨zt2 (List.mem_of_getElem? (i := 173) rfl), (by decide +kernel)⟩
set_option maxRecDepth 20000 in
theorem qw511 : Cond.methodLink RX5 68 yX5_unit ∈ wA := List.mem_filter.mpr ⟨zt2 (List.mem_of_getElem? (i := 174) rfl), (by decide +kernel)⟩
set_option maxRecDepth 20000 in
theorem qw513 : Cond.instanceMethod yX5_unit ∈ wA := List.mem_filter.mpr ⟨zt2 (List.mem_of_getElem? (i := 176) rfl), (by decide +kernel)⟩
set_option maxRecDepth 20000 in
theorem qw514 : Cond.code yX5_unit cX5_unit 5 (some .boolean) ∈ wA := List.mem_filter.mpr ⟨zt2 (List.mem_of_getElem? (i := 177) rfl), (by decide +kernel)⟩
set_option maxRecDepth 20000 in
theorem qw523 : Cond.methodLink RX10 120 yX1_become ∈ wA := List.mem_filter.mpr ⟨zt2 (List.mem_of_getElem? (i := 186) rfl), (by decide +kernel)⟩
set_option maxRecDepth 20000 in
theorem qw524 : Cond.instanceMethod yX1_become ∈ wA := List.mem_filter.mpr ⟨zt2 (List.mem_of_getElem? (i := 187) rfl), (by decide +kernel)⟩
set_option maxRecDepth 20000 in
theorem qw525 : Cond.selects RX1 yX1_become yX1_become ∈ wA := List.mem_filter.mpr ⟨zt2 (List.mem_of_getElem? (i := 188) rfl), (by decide +kernel)⟩
set_option maxRecDepth 20000 in
theorem qw526 : Cond.code yX1_become cX1_become 2 none ∈ wA := List.mem_filter.mpr ⟨zt2 (List.mem_of_getElem? (i := 189) rfl), (by decide +kernel)⟩
set_option maxRecDepth 20000 in
theorem qw527 : Cond.methodLink RX1 28 arraycopyName ∈ wA := List.mem_filter.mpr ⟨zt2 (List.mem_of_getElem? (i := 190) rfl), (by decide +kernel)⟩
set_option maxRecDepth 20000 in
theorem qw528 : Cond.methodLink RX10 124 yX7_begin ∈ wA := List.mem_filter.mpr ⟨zt2 (List.mem_of_getElem? (i := 191) rfl), (by decide +kernel)⟩
set_option maxRecDepth 20000 in
theorem qw529 : Cond.instanceMethod yX7_begin ∈ wA := List.mem_filter.mpr ⟨zt2 (List.mem_of_getElem? (i := 192) rfl), (by decide +kernel)⟩
set_option maxRecDepth 20000 in
theorem qw530 : Cond.selects RX7 yX7_begin yX7_begin ∈ wA := List.mem_filter.mpr ⟨zt2 (List.mem_of_getElem? (i := 193) rfl), (by decide +kernel)⟩
set_option maxRecDepth 20000 in
theorem qw531 : Cond.code yX7_begin cX7_begin 3 none ∈ wA := List.mem_filter.mpr ⟨zt2 (List.mem_of_getElem? (i := 194) rfl), (by decide +kernel)⟩
theorem hd_X1_become : yX1_become.cls = RX1 ∧ yX1_become.cls ≠ "java/lang/invoke/MethodHandle" ∧ yX1_become.cls ≠ "java/lang/invoke/VarHandle" ∧ (parseMethodDescriptor yX1_become.desc).map (fun d => d.parameters.length) = some 1 := by decide +kernel
theorem hd_X2_clause : yX2_clause.cls = RX2 ∧ yX2_clause.cls ≠ "java/lang/invoke/MethodHandle" ∧ yX2_clause.cls ≠ "java/lang/invoke/VarHandle" ∧ (parseMethodDescriptor yX2_clause.desc).map (fun d => d.parameters.length) = some 0 := by decide +kernel
theorem hd_X2_items : yX2_items.cls = RX2 ∧ yX2_items.cls ≠ "java/lang/invoke/MethodHandle" ∧ yX2_items.cls ≠ "java/lang/invoke/VarHandle" ∧ (parseMethodDescriptor yX2_items.desc).map (fun d => d.parameters.length) = some 4 := by decide +kernel
theorem hd_X2_placeOf : yX2_placeOf.cls = RX2 ∧ yX2_placeOf.cls ≠ "java/lang/invoke/MethodHandle" ∧ yX2_placeOf.cls ≠ "java/lang/invoke/VarHandle" ∧ (parseMethodDescriptor yX2_placeOf.desc).map (fun d => d.parameters.length) = some 2 := by decide +kernel
theorem hd_X2_read : yX2_read.cls = RX2 ∧ yX2_read.cls ≠ "java/lang/invoke/MethodHandle" ∧ yX2_read.cls ≠ "java/lang/invoke/VarHandle" ∧ (parseMethodDescriptor yX2_read.desc).map (fun d => d.parameters.length) = some 2 := by decide +kernel
theorem hd_X5_atom : yX5_atom.cls = RX5 ∧ yX5_atom.cls ≠ "java/lang/invoke/MethodHandle" ∧ yX5_atom.cls ≠ "java/lang/invoke/VarHandle" ∧ (parseMethodDescriptor yX5_atom.desc).map (fun d => d.parameters.length) = some 1 := by decide +kernel
theorem hd_X5_clause : yX5_clause.cls = RX5 ∧ yX5_clause.cls ≠ "java/lang/invoke/MethodHandle" ∧ yX5_clause.cls ≠ "java/lang/invoke/VarHandle" ∧ (parseMethodDescriptor yX5_clause.desc).map (fun d => d.parameters.length) = some 0 := by decide +kernel
theorem hd_X5_condition : yX5_condition.cls = RX5 ∧ yX5_condition.cls ≠ "java/lang/invoke/MethodHandle" ∧ yX5_condition.cls ≠ "java/lang/invoke/VarHandle" ∧ (parseMethodDescriptor yX5_condition.desc).map (fun d => d.parameters.length) = some 2 := by decide +kernel
theorem hd_X5_isArithmetic : yX5_isArithmetic.cls = RX5 ∧ yX5_isArithmetic.cls ≠ "java/lang/invoke/MethodHandle" ∧ yX5_isArithmetic.cls ≠ "java/lang/invoke/VarHandle" ∧ (parseMethodDescriptor yX5_isArithmetic.desc).map (fun d => d.parameters.length) = some 1 := by decide +kernel
theorem hd_X5_isComparison : yX5_isComparison.cls = RX5 ∧ yX5_isComparison.cls ≠ "java/lang/invoke/MethodHandle" ∧ yX5_isComparison.cls ≠ "java/lang/invoke/VarHandle" ∧ (parseMethodDescriptor yX5_isComparison.desc).map (fun d => d.parameters.length) = some 1 := by decide +kernel
theorem hd_X5_put : yX5_put.cls = RX5 ∧ yX5_put.cls ≠ "java/lang/invoke/MethodHandle" ∧ yX5_put.cls ≠ "java/lang/invoke/VarHandle" ∧ (parseMethodDescriptor yX5_put.desc).map (fun d => d.parameters.length) = some 2 := by decide +kernel
theorem hd_X5_read : yX5_read.cls = RX5 ∧ yX5_read.cls ≠ "java/lang/invoke/MethodHandle" ∧ yX5_read.cls ≠ "java/lang/invoke/VarHandle" ∧ (parseMethodDescriptor yX5_read.desc).map (fun d => d.parameters.length) = some 1 := by decide +kernel
theorem hd_X5_sum : yX5_sum.cls = RX5 ∧ yX5_sum.cls ≠ "java/lang/invoke/MethodHandle" ∧ yX5_sum.cls ≠ "java/lang/invoke/VarHandle" ∧ (parseMethodDescriptor yX5_sum.desc).map (fun d => d.parameters.length) = some 1 := by decide +kernel
theorem hd_X5_unit : yX5_unit.cls = RX5 ∧ yX5_unit.cls ≠ "java/lang/invoke/MethodHandle" ∧ yX5_unit.cls ≠ "java/lang/invoke/VarHandle" ∧ (parseMethodDescriptor yX5_unit.desc).map (fun d => d.parameters.length) = some 2 := by decide +kernel
theorem hd_X7_begin : yX7_begin.cls = RX7 ∧ yX7_begin.cls ≠ "java/lang/invoke/MethodHandle" ∧ yX7_begin.cls ≠ "java/lang/invoke/VarHandle" ∧ (parseMethodDescriptor yX7_begin.desc).map (fun d => d.parameters.length) = some 1 := by decide +kernel
theorem hd_X9_number : yX9_number.cls = RX9 ∧ yX9_number.cls ≠ "java/lang/invoke/MethodHandle" ∧ yX9_number.cls ≠ "java/lang/invoke/VarHandle" ∧ (parseMethodDescriptor yX9_number.desc).map (fun d => d.parameters.length) = some 2 := by decide +kernel
theorem hd_X9_takes : yX9_takes.cls = RX9 ∧ yX9_takes.cls ≠ "java/lang/invoke/MethodHandle" ∧ yX9_takes.cls ≠ "java/lang/invoke/VarHandle" ∧ (parseMethodDescriptor yX9_takes.desc).map (fun d => d.parameters.length) = some 1 := by decide +kernel
theorem zSt_0 {f g : Nat → Int32} {i s z x : Int32} (h : zSt f) (e1 : z = 0 <<< ((8 : Int32) &&& 31)) (e2 : x = s ||| z) (e : g = upd f i.toNatClampNeg x) (h0 : 0 ≤ s.toInt) (h1 : s.toInt ≤ 255) : zSt g := by
  have hx : x = s := by
    rw [e2, e1, show (0 : Int32) <<< ((8 : Int32) &&& 31) = 0 from by decide]
    apply b_ext
    intro j _
    rw [b_or, b_0, Bool.or_false]
  intro j hj
  rw [e] at hj ⊢
  by_cases q : j = i.toNatClampNeg
  · rw [q, pk_us, hx] at hj ⊢
    obtain ⟨k, hk, rfl⟩ := nI_of (x := s) (znn h0)
    rw [nI_toInt hk] at h1
    have hk2 : k < 256 := by omega
    have h2 := pk_andN (n := k) (by omega) (m := 255) 8 (by decide)
    rw [h2, Nat.mod_eq_of_lt hk2] at hj
    rw [hj]
    decide
  · rw [pk_un q] at hj ⊢
    exact h j hj
theorem zSt_1 {f g : Nat → Int32} {i a z x : Int32} (h : zSt f) (e1 : z = a <<< ((8 : Int32) &&& 31)) (e2 : x = 1 ||| z) (e : g = upd f i.toNatClampNeg x) : zSt g := by
  intro j hj
  rw [e] at hj ⊢
  by_cases q : j = i.toNatClampNeg
  · rw [q, pk_us] at hj
    exfalso
    have h0 := congrArg (fun y => bt y 0) hj
    simp only [e2, e1, b_and, b_or, b_255, b_shl8 a (show 0 < 32 by decide)] at h0
    cases hb : bt a (0 - 8) <;> rw [hb] at h0 <;> revert h0 <;> decide
  · rw [pk_un q] at hj ⊢
    exact h j hj
theorem zSt_2v : ∀ k : Nat, k < 6 → 0 ≤ (((2 : Int32) ||| (nI k <<< ((8 : Int32) &&& 31))) >>> ((8 : Int32) &&& 31)).toInt ∧ (((2 : Int32) ||| (nI k <<< ((8 : Int32) &&& 31))) >>> ((8 : Int32) &&& 31)).toInt ≤ 5 := by decide +kernel
theorem zSt_2 {f g : Nat → Int32} {i a z x : Int32} (h : zSt f) (e1 : z = a <<< ((8 : Int32) &&& 31)) (e2 : x = 2 ||| z) (e : g = upd f i.toNatClampNeg x) (h0 : 0 ≤ a.toInt) (h1 : a.toInt ≤ 5) : zSt g := by
  intro j hj
  rw [e] at hj ⊢
  by_cases q : j = i.toNatClampNeg
  · rw [q, pk_us]
    obtain ⟨k, hk, rfl⟩ := nI_of (x := a) (znn h0)
    rw [nI_toInt hk] at h1
    rw [e2, e1]
    exact zSt_2v k (by omega)
  · rw [pk_un q] at hj ⊢
    exact h j hj
theorem zTkL {f : Nat → Int32} {n a c r u : Int32} (h : zTk f n a c r u) (hr : ¬ r.toInt = 0) : a.toInt < u.toInt := by
  have s := sk_ge (sB f n.toInt) n.toInt a.toInt
  rcases h with y | y
  · have := y.2.1
    omega
  · exact absurd y.1 hr
theorem zN4L {f : Nat → Int32} {n a r u : Int32} (h : zN4 f n a r u) (hr : ¬ r.toInt = -1) : a.toInt < u.toInt := by
  rcases h with y | y
  · exact absurd y.1 hr
  · have z := sNum_mono (sB f n.toInt) a.toInt (by rw [y.2])
    rw [y.2] at z
    exact z
/-- a copy out of a static row of ints into a row of the world -/
theorem zcopyT {p : Program} {l : Launch} {e : Env} {R : Room} {s : State} {m : MethodId} {args : Array Value} {below : List Frame} {meth : Method} {c : Code} {H : Heap} {locs : List Loc} {cells slots : Nat} {Q : State → Prop} {cc : ByteArray} {pc : Nat} {ls : Array Slot} {rest : List Value} {D : va_G} {cl : List vw_C} {A : Nat → Prop} {a : Nat} {tys : List (ClassId × FieldType)} {ws : va_W}
    (hexec : p.tables.exec = Jvm.exec) (hb : c.code = cc) (hml : c.maxLocals = ls.size) {own : String} {index : Nat} (hown : s.vm.findClass own = some m.cls) (hlink : (Cond.methodLink own index arraycopyName).before args s = true) (hnat : (Cond.native arraycopyName).before args s = true) (hstat : (Cond.static arraycopyName).before args s = true) (hini : (Cond.initialized "java/lang/System").before args s = true)
    (hK : va_K D cl tys s) (hP : va_P D cl ws H) (hD : va_D A ws) (hS : va_S A s.heap H locs) (q1 t1 : Nat) {a0 : Nat} {c1 : ClassId} {n1 N : Nat} {f g : Nat → Int32} (hX : va_T .int a0 N (fun j => .int (f j)) A s s.heap) (ha1 : ws[q1]? = some (a, .inl (c1, n1, .inl g))) (ht1 : tys[t1]? = some (c1, .int))
    {sp dp n : Int32} (h1 : ¬ sp < 0) (h2 : ¬ dp < 0) (h3 : ¬ n < 0) (h4 : sp.toNatClampNeg + n.toNatClampNeg ≤ N) (h5 : dp.toNatClampNeg + n.toNatClampNeg ≤ n1)
    (hframes : 1 ≤ R.frames) (hlocals : (rest.map fun v => v.category).sum + (nativeFrameWords "java/lang/System" "arraycopy" 5 + 11) ≤ R.locals) (hdg : decode cc pc = .ok (.invokestatic index, 3))
    (kk : ∀ (H1 : Heap) (locs1 : List Loc), va_P D cl (ws.set q1 (a, .inl (c1, n1, .inl (va_cpy f g sp.toNatClampNeg dp.toNatClampNeg n.toNatClampNeg)))) H1 → va_D A (ws.set q1 (a, .inl (c1, n1, .inl (va_cpy f g sp.toNatClampNeg dp.toNatClampNeg n.toNatClampNeg)))) → va_S A s.heap H1 locs1 → W p l e R s m args below meth c H1 locs1 cells slots Q (F0 m (pc + 3) ls rest)) : W p l e R s m args below meth c H locs cells slots Q (F0 m pc ls (.int n :: .int dp :: .ref a :: .int sp :: .ref a0 :: rest)) := by
  have nn : ∀ z : Int32, ¬ z < 0 → z.toInt = (z.toNatClampNeg : Int) := by
    intro z hz
    have hz0 : (0 : Int) ≤ z.toInt := by
      have := Int32.not_lt.mp hz
      simpa using Int32.le_iff_toInt_le.mp this
    show z.toInt = ((z.toInt.toNat : Nat) : Int)
    omega
  intro T hT X
  obtain ⟨cs, x1, x2, x3, x4, -, x6, x7⟩ := hX
  have hc0 : H[a0]? = some cs := by rw [hS.2.1 a0 (Array.getElem?_eq_some_iff.mp x1).1 x7]; exact x1
  have hc1 : H[a]? = some (vp_cell c1 (n1, .inl g)) := hP q1 _ ha1
  obtain ⟨xs, k0, hk0, cm0, hkk0⟩ := x2
  obtain ⟨-, k1, hk1, cm1, hkk1⟩ := (hK.2 t1 _ ht1).1 n1 (fun j => .int (g j))
  have hgd : ∀ i : Nat, i < n.toNatClampNeg → cs.slots.getD (sp.toNatClampNeg + i) .null = .int (f (sp.toNatClampNeg + i)) := fun i hi => by
    rw [Array.getD_eq_getD_getElem?, x6 _ (by omega)]
    rfl
  obtain ⟨vm', X', step⟩ := X.arraycopy hexec hown hlink hnat hstat hini (src := a0) (dst := a) (cs := cs) (cd := vp_cell c1 (n1, .inl g)) (srcPos := sp) (destPos := dp) (n := n) (by rw [hT]; exact hc0) (by rw [hT]; exact hc1)
    xs (fun _ h => by cases h) x3 (fun h => by cases h) hk0 hk1 hkk0 hkk1 (by simp [refKind]) h1 h2 h3
    (by rw [nn sp h1, nn n h3]; omega)
    (by rw [nn dp h2, nn n h3]; show ¬ _ > ((arrV c1 n1 (fun j => .int (g j))).slots.size : Int); rw [arrV_size]; omega)
    (fun vm₁ _ i hi => by
      refine ⟨?_, ?_⟩
      · rw [hgd i hi]
        rfl
      · rw [hgd i hi]
        exact trivial)
    (g := F0 m pc ls (.int n :: .int dp :: .ref a :: .int sp :: .ref a0 :: rest)) rfl (by rw [hml]) (rest := rest) rfl (by rw [hb]; exact hdg) hframes (by show 2 * 0 + _ + _ ≤ _; omega)
  have es : cs.stretch sp.toNatClampNeg n.toNatClampNeg = (arrV c1 N (fun j => .int (f j))).stretch sp.toNatClampNeg n.toNatClampNeg := by
    unfold Cell.stretch
    apply List.map_congr_left
    intro i hi
    have hi' := List.mem_range.mp hi
    rw [hgd i hi', Array.getD_eq_getD_getElem?, arrV_read _ _ (by omega)]
    rfl
  have e1 : copied cs (vp_cell c1 (n1, .inl g)) sp dp n = vp_cell c1 (n1, .inl (va_cpy f g sp.toNatClampNeg dp.toNatClampNeg n.toNatClampNeg)) := by
    have e2 := va_copied (n1 := n1) (dp := dp.toNatClampNeg) (fun z : Int32 => Value.int z) c1 c1 f g h4
    rw [← es] at e2
    exact e2
  rw [e1] at X' step
  have hl : a < H.size := (Array.getElem?_eq_some_iff.mp hc1).1
  have hheap : ((T.setVm vm').setCell a (vp_cell c1 (n1, .inl (va_cpy f g sp.toNatClampNeg dp.toNatClampNeg n.toNatClampNeg)))).heap = H.setIfInBounds a (vp_cell c1 (n1, .inl (va_cpy f g sp.toNatClampNeg dp.toNatClampNeg n.toNatClampNeg))) := by rw [← hT]; rfl
  have oq : ∀ q : Nat, q ≠ a → (H.setIfInBounds a (vp_cell c1 (n1, .inl (va_cpy f g sp.toNatClampNeg dp.toNatClampNeg n.toNatClampNeg))))[q]? = H[q]? := fun q hq => by simp [Array.getElem?_setIfInBounds, Ne.symm hq]
  obtain ⟨t, a1, b1⟩ := kk _ _ (hP.set hD ha1 (show (H.setIfInBounds a _)[a]? = some _ by simp [Array.getElem?_setIfInBounds, hl]) oq) (hD.set ha1) ⟨by simp; exact hS.1, fun q g1 g2 => by
      rw [oq q (fun e => g2 (by rw [e]; exact hD.2 q1 _ ha1))]
      exact hS.2.1 q g1 g2, fun q hq => by
      rcases List.mem_append.mp hq with h | h
      · exact hS.2.2 q h
      · obtain ⟨z, -, hz⟩ := List.mem_map.mp h
        rw [← hz]
        exact hD.2 q1 _ ha1⟩ _ hheap X'
  exact ⟨t, step t a1, b1⟩
