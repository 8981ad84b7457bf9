abbrev cX0_init : ByteArray := prog_2_method_1_code
def yX0_init : MethodName := ⟨RX0, "<init>", "()V"⟩
abbrev cX1_init : ByteArray := prog_3_method_1_code
def yX1_init : MethodName := ⟨RX1, "<init>", "()V"⟩
abbrev cX2_init : ByteArray := prog_4_method_1_code
def yX2_init : MethodName := ⟨RX2, "<init>", "()V"⟩
abbrev cX3_init : ByteArray := prog_5_method_1_code
def yX3_init : MethodName := ⟨RX3, "<init>", "()V"⟩
abbrev cX5_init : ByteArray := prog_7_method_1_code
def yX5_init : MethodName := ⟨RX5, "<init>", "()V"⟩
abbrev cX6_init : ByteArray := prog_8_method_1_code
def yX6_init : MethodName := ⟨RX6, "<init>", "(LNinePortraits$Court;LNinePortraits$State;LNinePortraits$Studio;)V"⟩
abbrev cX7_init : ByteArray := prog_9_method_1_code
def yX7_init : MethodName := ⟨RX7, "<init>", "()V"⟩
abbrev cX8_init : ByteArray := prog_10_method_1_code
def yX8_init : MethodName := ⟨RX8, "<init>", "(LNinePortraits$Court;LNinePortraits$State;)V"⟩
abbrev cX9_init : ByteArray := prog_11_method_1_code
def yX9_init : MethodName := ⟨RX9, "<init>", "()V"⟩
abbrev cX10_init : ByteArray := prog_1_method_1_code
def yX10_init : MethodName := ⟨RX10, "<init>", "()V"⟩
abbrev cX11_init : ByteArray := prog_13_method_3_code
def yX11_init : MethodName := ⟨RX11, "<init>", "()V"⟩
abbrev cL_law : ByteArray := code
def yL_law : MethodName := ⟨RL, "law", "([I)Z"⟩
set_option maxRecDepth 100000 in
theorem dX0_init_0_z : (((decode cX0_init 0 = .ok (.aload_n 0, 1) ∧ decode cX0_init 1 = .ok (.invokespecial 3, 3)) ∧ (decode cX0_init 4 = .ok (.aload_n 0, 1) ∧ decode cX0_init 5 = .ok (.sipush 680, 3))) ∧ ((decode cX0_init 8 = .ok (.newarray .int, 2) ∧ decode cX0_init 10 = .ok (.putfield 11, 3)) ∧ decode cX0_init 13 = .ok (.return_, 1))) := by decide +kernel
theorem dX0_init_0 : decode cX0_init 0 = .ok (.aload_n 0, 1) := dX0_init_0_z.1.1.1
theorem dX0_init_1 : decode cX0_init 1 = .ok (.invokespecial 3, 3) := dX0_init_0_z.1.1.2
theorem dX0_init_4 : decode cX0_init 4 = .ok (.aload_n 0, 1) := dX0_init_0_z.1.2.1
theorem dX0_init_5 : decode cX0_init 5 = .ok (.sipush 680, 3) := dX0_init_0_z.1.2.2
theorem dX0_init_8 : decode cX0_init 8 = .ok (.newarray .int, 2) := dX0_init_0_z.2.1.1
theorem dX0_init_10 : decode cX0_init 10 = .ok (.putfield 11, 3) := dX0_init_0_z.2.1.2
theorem dX0_init_13 : decode cX0_init 13 = .ok (.return_, 1) := dX0_init_0_z.2.2
set_option maxRecDepth 100000 in
theorem dX1_init_0_z : ((((decode cX1_init 0 = .ok (.aload_n 0, 1) ∧ decode cX1_init 1 = .ok (.invokespecial 3, 3)) ∧ (decode cX1_init 4 = .ok (.aload_n 0, 1) ∧ decode cX1_init 5 = .ok (.iconst 3, 1))) ∧ ((decode cX1_init 6 = .ok (.newarray .int, 2) ∧ decode cX1_init 8 = .ok (.putfield 9, 3)) ∧ (decode cX1_init 11 = .ok (.aload_n 0, 1) ∧ decode cX1_init 12 = .ok (.bipush 24, 2)))) ∧ (((decode cX1_init 14 = .ok (.newarray .int, 2) ∧ decode cX1_init 16 = .ok (.putfield 15, 3)) ∧ (decode cX1_init 19 = .ok (.aload_n 0, 1) ∧ decode cX1_init 20 = .ok (.bipush 20, 2))) ∧ ((decode cX1_init 22 = .ok (.newarray .int, 2) ∧ decode cX1_init 24 = .ok (.putfield 18, 3)) ∧ decode cX1_init 27 = .ok (.return_, 1)))) := by decide +kernel
theorem dX1_init_0 : decode cX1_init 0 = .ok (.aload_n 0, 1) := dX1_init_0_z.1.1.1.1
theorem dX1_init_1 : decode cX1_init 1 = .ok (.invokespecial 3, 3) := dX1_init_0_z.1.1.1.2
theorem dX1_init_4 : decode cX1_init 4 = .ok (.aload_n 0, 1) := dX1_init_0_z.1.1.2.1
theorem dX1_init_5 : decode cX1_init 5 = .ok (.iconst 3, 1) := dX1_init_0_z.1.1.2.2
theorem dX1_init_6 : decode cX1_init 6 = .ok (.newarray .int, 2) := dX1_init_0_z.1.2.1.1
theorem dX1_init_8 : decode cX1_init 8 = .ok (.putfield 9, 3) := dX1_init_0_z.1.2.1.2
theorem dX1_init_11 : decode cX1_init 11 = .ok (.aload_n 0, 1) := dX1_init_0_z.1.2.2.1
theorem dX1_init_12 : decode cX1_init 12 = .ok (.bipush 24, 2) := dX1_init_0_z.1.2.2.2
theorem dX1_init_14 : decode cX1_init 14 = .ok (.newarray .int, 2) := dX1_init_0_z.2.1.1.1
theorem dX1_init_16 : decode cX1_init 16 = .ok (.putfield 15, 3) := dX1_init_0_z.2.1.1.2
theorem dX1_init_19 : decode cX1_init 19 = .ok (.aload_n 0, 1) := dX1_init_0_z.2.1.2.1
theorem dX1_init_20 : decode cX1_init 20 = .ok (.bipush 20, 2) := dX1_init_0_z.2.1.2.2
theorem dX1_init_22 : decode cX1_init 22 = .ok (.newarray .int, 2) := dX1_init_0_z.2.2.1.1
theorem dX1_init_24 : decode cX1_init 24 = .ok (.putfield 18, 3) := dX1_init_0_z.2.2.1.2
theorem dX1_init_27 : decode cX1_init 27 = .ok (.return_, 1) := dX1_init_0_z.2.2.2
set_option maxRecDepth 100000 in
theorem dX2_init_0_z : ((decode cX2_init 0 = .ok (.aload_n 0, 1) ∧ decode cX2_init 1 = .ok (.invokespecial 3, 3)) ∧ decode cX2_init 4 = .ok (.return_, 1)) := by decide +kernel
theorem dX2_init_0 : decode cX2_init 0 = .ok (.aload_n 0, 1) := dX2_init_0_z.1.1
theorem dX2_init_1 : decode cX2_init 1 = .ok (.invokespecial 3, 3) := dX2_init_0_z.1.2
theorem dX2_init_4 : decode cX2_init 4 = .ok (.return_, 1) := dX2_init_0_z.2
set_option maxRecDepth 100000 in
theorem dX3_init_0_z : ((decode cX3_init 0 = .ok (.aload_n 0, 1) ∧ decode cX3_init 1 = .ok (.invokespecial 1, 3)) ∧ decode cX3_init 4 = .ok (.return_, 1)) := by decide +kernel
theorem dX3_init_0 : decode cX3_init 0 = .ok (.aload_n 0, 1) := dX3_init_0_z.1.1
theorem dX3_init_1 : decode cX3_init 1 = .ok (.invokespecial 1, 3) := dX3_init_0_z.1.2
theorem dX3_init_4 : decode cX3_init 4 = .ok (.return_, 1) := dX3_init_0_z.2
set_option maxRecDepth 100000 in
theorem dX5_init_0_z : (((decode cX5_init 0 = .ok (.aload_n 0, 1) ∧ decode cX5_init 1 = .ok (.invokespecial 3, 3)) ∧ (decode cX5_init 4 = .ok (.aload_n 0, 1) ∧ decode cX5_init 5 = .ok (.sipush 241, 3))) ∧ ((decode cX5_init 8 = .ok (.newarray .int, 2) ∧ decode cX5_init 10 = .ok (.putfield 9, 3)) ∧ decode cX5_init 13 = .ok (.return_, 1))) := by decide +kernel
theorem dX5_init_0 : decode cX5_init 0 = .ok (.aload_n 0, 1) := dX5_init_0_z.1.1.1
theorem dX5_init_1 : decode cX5_init 1 = .ok (.invokespecial 3, 3) := dX5_init_0_z.1.1.2
theorem dX5_init_4 : decode cX5_init 4 = .ok (.aload_n 0, 1) := dX5_init_0_z.1.2.1
theorem dX5_init_5 : decode cX5_init 5 = .ok (.sipush 241, 3) := dX5_init_0_z.1.2.2
theorem dX5_init_8 : decode cX5_init 8 = .ok (.newarray .int, 2) := dX5_init_0_z.2.1.1
theorem dX5_init_10 : decode cX5_init 10 = .ok (.putfield 9, 3) := dX5_init_0_z.2.1.2
theorem dX5_init_13 : decode cX5_init 13 = .ok (.return_, 1) := dX5_init_0_z.2.2
set_option maxRecDepth 100000 in
theorem dX6_init_0_z : ((((decode cX6_init 0 = .ok (.aload_n 0, 1) ∧ decode cX6_init 1 = .ok (.invokespecial 3, 3)) ∧ (decode cX6_init 4 = .ok (.aload_n 0, 1) ∧ decode cX6_init 5 = .ok (.bipush 10, 2))) ∧ ((decode cX6_init 7 = .ok (.newarray .long, 2) ∧ decode cX6_init 9 = .ok (.putfield 9, 3)) ∧ (decode cX6_init 12 = .ok (.aload_n 0, 1) ∧ decode cX6_init 13 = .ok (.bipush 10, 2)))) ∧ (((decode cX6_init 15 = .ok (.newarray .int, 2) ∧ decode cX6_init 17 = .ok (.putfield 15, 3)) ∧ (decode cX6_init 20 = .ok (.aload_n 0, 1) ∧ decode cX6_init 21 = .ok (.bipush 10, 2))) ∧ ((decode cX6_init 23 = .ok (.newarray .int, 2) ∧ decode cX6_init 25 = .ok (.putfield 19, 3)) ∧ (decode cX6_init 28 = .ok (.aload_n 0, 1) ∧ decode cX6_init 29 = .ok (.bipush 45, 2))))) := by decide +kernel
theorem dX6_init_0 : decode cX6_init 0 = .ok (.aload_n 0, 1) := dX6_init_0_z.1.1.1.1
theorem dX6_init_1 : decode cX6_init 1 = .ok (.invokespecial 3, 3) := dX6_init_0_z.1.1.1.2
theorem dX6_init_4 : decode cX6_init 4 = .ok (.aload_n 0, 1) := dX6_init_0_z.1.1.2.1
theorem dX6_init_5 : decode cX6_init 5 = .ok (.bipush 10, 2) := dX6_init_0_z.1.1.2.2
theorem dX6_init_7 : decode cX6_init 7 = .ok (.newarray .long, 2) := dX6_init_0_z.1.2.1.1
theorem dX6_init_9 : decode cX6_init 9 = .ok (.putfield 9, 3) := dX6_init_0_z.1.2.1.2
theorem dX6_init_12 : decode cX6_init 12 = .ok (.aload_n 0, 1) := dX6_init_0_z.1.2.2.1
theorem dX6_init_13 : decode cX6_init 13 = .ok (.bipush 10, 2) := dX6_init_0_z.1.2.2.2
theorem dX6_init_15 : decode cX6_init 15 = .ok (.newarray .int, 2) := dX6_init_0_z.2.1.1.1
theorem dX6_init_17 : decode cX6_init 17 = .ok (.putfield 15, 3) := dX6_init_0_z.2.1.1.2
theorem dX6_init_20 : decode cX6_init 20 = .ok (.aload_n 0, 1) := dX6_init_0_z.2.1.2.1
theorem dX6_init_21 : decode cX6_init 21 = .ok (.bipush 10, 2) := dX6_init_0_z.2.1.2.2
theorem dX6_init_23 : decode cX6_init 23 = .ok (.newarray .int, 2) := dX6_init_0_z.2.2.1.1
theorem dX6_init_25 : decode cX6_init 25 = .ok (.putfield 19, 3) := dX6_init_0_z.2.2.1.2
theorem dX6_init_28 : decode cX6_init 28 = .ok (.aload_n 0, 1) := dX6_init_0_z.2.2.2.1
theorem dX6_init_29 : decode cX6_init 29 = .ok (.bipush 45, 2) := dX6_init_0_z.2.2.2.2
set_option maxRecDepth 100000 in
theorem dX6_init_31_z : ((((decode cX6_init 31 = .ok (.newarray .int, 2) ∧ decode cX6_init 33 = .ok (.putfield 22, 3)) ∧ decode cX6_init 36 = .ok (.aload_n 0, 1)) ∧ ((decode cX6_init 37 = .ok (.aload_n 1, 1) ∧ decode cX6_init 38 = .ok (.putfield 25, 3)) ∧ decode cX6_init 41 = .ok (.aload_n 0, 1))) ∧ (((decode cX6_init 42 = .ok (.aload_n 2, 1) ∧ decode cX6_init 43 = .ok (.putfield 29, 3)) ∧ decode cX6_init 46 = .ok (.aload_n 0, 1)) ∧ ((decode cX6_init 47 = .ok (.aload_n 3, 1) ∧ decode cX6_init 48 = .ok (.putfield 33, 3)) ∧ decode cX6_init 51 = .ok (.return_, 1)))) := by decide +kernel
theorem dX6_init_31 : decode cX6_init 31 = .ok (.newarray .int, 2) := dX6_init_31_z.1.1.1.1
theorem dX6_init_33 : decode cX6_init 33 = .ok (.putfield 22, 3) := dX6_init_31_z.1.1.1.2
theorem dX6_init_36 : decode cX6_init 36 = .ok (.aload_n 0, 1) := dX6_init_31_z.1.1.2
theorem dX6_init_37 : decode cX6_init 37 = .ok (.aload_n 1, 1) := dX6_init_31_z.1.2.1.1
theorem dX6_init_38 : decode cX6_init 38 = .ok (.putfield 25, 3) := dX6_init_31_z.1.2.1.2
theorem dX6_init_41 : decode cX6_init 41 = .ok (.aload_n 0, 1) := dX6_init_31_z.1.2.2
theorem dX6_init_42 : decode cX6_init 42 = .ok (.aload_n 2, 1) := dX6_init_31_z.2.1.1.1
theorem dX6_init_43 : decode cX6_init 43 = .ok (.putfield 29, 3) := dX6_init_31_z.2.1.1.2
theorem dX6_init_46 : decode cX6_init 46 = .ok (.aload_n 0, 1) := dX6_init_31_z.2.1.2
theorem dX6_init_47 : decode cX6_init 47 = .ok (.aload_n 3, 1) := dX6_init_31_z.2.2.1.1
theorem dX6_init_48 : decode cX6_init 48 = .ok (.putfield 33, 3) := dX6_init_31_z.2.2.1.2
theorem dX6_init_51 : decode cX6_init 51 = .ok (.return_, 1) := dX6_init_31_z.2.2.2
set_option maxRecDepth 100000 in
theorem dX7_init_0_z : ((((decode cX7_init 0 = .ok (.aload_n 0, 1) ∧ decode cX7_init 1 = .ok (.invokespecial 3, 3)) ∧ (decode cX7_init 4 = .ok (.aload_n 0, 1) ∧ decode cX7_init 5 = .ok (.bipush 6, 2))) ∧ ((decode cX7_init 7 = .ok (.newarray .int, 2) ∧ decode cX7_init 9 = .ok (.putfield 9, 3)) ∧ (decode cX7_init 12 = .ok (.aload_n 0, 1) ∧ decode cX7_init 13 = .ok (.iconst 5, 1)))) ∧ (((decode cX7_init 14 = .ok (.newarray .int, 2) ∧ decode cX7_init 16 = .ok (.putfield 15, 3)) ∧ (decode cX7_init 19 = .ok (.aload_n 0, 1) ∧ decode cX7_init 20 = .ok (.bipush 80, 2))) ∧ ((decode cX7_init 22 = .ok (.newarray .int, 2) ∧ decode cX7_init 24 = .ok (.putfield 18, 3)) ∧ (decode cX7_init 27 = .ok (.aload_n 0, 1) ∧ decode cX7_init 28 = .ok (.iconst (-1), 1))))) := by decide +kernel
theorem dX7_init_0 : decode cX7_init 0 = .ok (.aload_n 0, 1) := dX7_init_0_z.1.1.1.1
theorem dX7_init_1 : decode cX7_init 1 = .ok (.invokespecial 3, 3) := dX7_init_0_z.1.1.1.2
theorem dX7_init_4 : decode cX7_init 4 = .ok (.aload_n 0, 1) := dX7_init_0_z.1.1.2.1
theorem dX7_init_5 : decode cX7_init 5 = .ok (.bipush 6, 2) := dX7_init_0_z.1.1.2.2
theorem dX7_init_7 : decode cX7_init 7 = .ok (.newarray .int, 2) := dX7_init_0_z.1.2.1.1
theorem dX7_init_9 : decode cX7_init 9 = .ok (.putfield 9, 3) := dX7_init_0_z.1.2.1.2
theorem dX7_init_12 : decode cX7_init 12 = .ok (.aload_n 0, 1) := dX7_init_0_z.1.2.2.1
theorem dX7_init_13 : decode cX7_init 13 = .ok (.iconst 5, 1) := dX7_init_0_z.1.2.2.2
theorem dX7_init_14 : decode cX7_init 14 = .ok (.newarray .int, 2) := dX7_init_0_z.2.1.1.1
theorem dX7_init_16 : decode cX7_init 16 = .ok (.putfield 15, 3) := dX7_init_0_z.2.1.1.2
theorem dX7_init_19 : decode cX7_init 19 = .ok (.aload_n 0, 1) := dX7_init_0_z.2.1.2.1
theorem dX7_init_20 : decode cX7_init 20 = .ok (.bipush 80, 2) := dX7_init_0_z.2.1.2.2
theorem dX7_init_22 : decode cX7_init 22 = .ok (.newarray .int, 2) := dX7_init_0_z.2.2.1.1
theorem dX7_init_24 : decode cX7_init 24 = .ok (.putfield 18, 3) := dX7_init_0_z.2.2.1.2
theorem dX7_init_27 : decode cX7_init 27 = .ok (.aload_n 0, 1) := dX7_init_0_z.2.2.2.1
theorem dX7_init_28 : decode cX7_init 28 = .ok (.iconst (-1), 1) := dX7_init_0_z.2.2.2.2
set_option maxRecDepth 100000 in
theorem dX7_init_29_z : (decode cX7_init 29 = .ok (.putfield 21, 3) ∧ decode cX7_init 32 = .ok (.return_, 1)) := by decide +kernel
theorem dX7_init_29 : decode cX7_init 29 = .ok (.putfield 21, 3) := dX7_init_29_z.1
theorem dX7_init_32 : decode cX7_init 32 = .ok (.return_, 1) := dX7_init_29_z.2
set_option maxRecDepth 100000 in
theorem dX8_init_0_z : ((((decode cX8_init 0 = .ok (.aload_n 0, 1) ∧ decode cX8_init 1 = .ok (.invokespecial 3, 3)) ∧ (decode cX8_init 4 = .ok (.aload_n 0, 1) ∧ decode cX8_init 5 = .ok (.bipush 10, 2))) ∧ ((decode cX8_init 7 = .ok (.newarray .int, 2) ∧ decode cX8_init 9 = .ok (.putfield 9, 3)) ∧ (decode cX8_init 12 = .ok (.aload_n 0, 1) ∧ decode cX8_init 13 = .ok (.bipush 10, 2)))) ∧ (((decode cX8_init 15 = .ok (.newarray .int, 2) ∧ decode cX8_init 17 = .ok (.putfield 15, 3)) ∧ (decode cX8_init 20 = .ok (.aload_n 0, 1) ∧ decode cX8_init 21 = .ok (.bipush 6, 2))) ∧ ((decode cX8_init 23 = .ok (.newarray .int, 2) ∧ decode cX8_init 25 = .ok (.putfield 18, 3)) ∧ (decode cX8_init 28 = .ok (.aload_n 0, 1) ∧ decode cX8_init 29 = .ok (.bipush 32, 2))))) := by decide +kernel
theorem dX8_init_0 : decode cX8_init 0 = .ok (.aload_n 0, 1) := dX8_init_0_z.1.1.1.1
theorem dX8_init_1 : decode cX8_init 1 = .ok (.invokespecial 3, 3) := dX8_init_0_z.1.1.1.2
theorem dX8_init_4 : decode cX8_init 4 = .ok (.aload_n 0, 1) := dX8_init_0_z.1.1.2.1
theorem dX8_init_5 : decode cX8_init 5 = .ok (.bipush 10, 2) := dX8_init_0_z.1.1.2.2
theorem dX8_init_7 : decode cX8_init 7 = .ok (.newarray .int, 2) := dX8_init_0_z.1.2.1.1
theorem dX8_init_9 : decode cX8_init 9 = .ok (.putfield 9, 3) := dX8_init_0_z.1.2.1.2
theorem dX8_init_12 : decode cX8_init 12 = .ok (.aload_n 0, 1) := dX8_init_0_z.1.2.2.1
theorem dX8_init_13 : decode cX8_init 13 = .ok (.bipush 10, 2) := dX8_init_0_z.1.2.2.2
theorem dX8_init_15 : decode cX8_init 15 = .ok (.newarray .int, 2) := dX8_init_0_z.2.1.1.1
theorem dX8_init_17 : decode cX8_init 17 = .ok (.putfield 15, 3) := dX8_init_0_z.2.1.1.2
theorem dX8_init_20 : decode cX8_init 20 = .ok (.aload_n 0, 1) := dX8_init_0_z.2.1.2.1
theorem dX8_init_21 : decode cX8_init 21 = .ok (.bipush 6, 2) := dX8_init_0_z.2.1.2.2
theorem dX8_init_23 : decode cX8_init 23 = .ok (.newarray .int, 2) := dX8_init_0_z.2.2.1.1
theorem dX8_init_25 : decode cX8_init 25 = .ok (.putfield 18, 3) := dX8_init_0_z.2.2.1.2
theorem dX8_init_28 : decode cX8_init 28 = .ok (.aload_n 0, 1) := dX8_init_0_z.2.2.2.1
theorem dX8_init_29 : decode cX8_init 29 = .ok (.bipush 32, 2) := dX8_init_0_z.2.2.2.2
set_option maxRecDepth 100000 in
theorem dX8_init_31_z : ((((decode cX8_init 31 = .ok (.newarray .int, 2) ∧ decode cX8_init 33 = .ok (.putfield 21, 3)) ∧ decode cX8_init 36 = .ok (.aload_n 0, 1)) ∧ (decode cX8_init 37 = .ok (.aload_n 1, 1) ∧ decode cX8_init 38 = .ok (.putfield 24, 3))) ∧ ((decode cX8_init 41 = .ok (.aload_n 0, 1) ∧ decode cX8_init 42 = .ok (.aload_n 2, 1)) ∧ (decode cX8_init 43 = .ok (.putfield 28, 3) ∧ decode cX8_init 46 = .ok (.return_, 1)))) := by decide +kernel
theorem dX8_init_31 : decode cX8_init 31 = .ok (.newarray .int, 2) := dX8_init_31_z.1.1.1.1
theorem dX8_init_33 : decode cX8_init 33 = .ok (.putfield 21, 3) := dX8_init_31_z.1.1.1.2
theorem dX8_init_36 : decode cX8_init 36 = .ok (.aload_n 0, 1) := dX8_init_31_z.1.1.2
theorem dX8_init_37 : decode cX8_init 37 = .ok (.aload_n 1, 1) := dX8_init_31_z.1.2.1
theorem dX8_init_38 : decode cX8_init 38 = .ok (.putfield 24, 3) := dX8_init_31_z.1.2.2
theorem dX8_init_41 : decode cX8_init 41 = .ok (.aload_n 0, 1) := dX8_init_31_z.2.1.1
theorem dX8_init_42 : decode cX8_init 42 = .ok (.aload_n 2, 1) := dX8_init_31_z.2.1.2
theorem dX8_init_43 : decode cX8_init 43 = .ok (.putfield 28, 3) := dX8_init_31_z.2.2.1
theorem dX8_init_46 : decode cX8_init 46 = .ok (.return_, 1) := dX8_init_31_z.2.2.2
set_option maxRecDepth 100000 in
theorem dX9_init_0_z : (((decode cX9_init 0 = .ok (.aload_n 0, 1) ∧ decode cX9_init 1 = .ok (.invokespecial 3, 3)) ∧ (decode cX9_init 4 = .ok (.aload_n 0, 1) ∧ decode cX9_init 5 = .ok (.sipush 260, 3))) ∧ ((decode cX9_init 8 = .ok (.newarray .int, 2) ∧ decode cX9_init 10 = .ok (.putfield 9, 3)) ∧ decode cX9_init 13 = .ok (.return_, 1))) := by decide +kernel
theorem dX9_init_0 : decode cX9_init 0 = .ok (.aload_n 0, 1) := dX9_init_0_z.1.1.1
theorem dX9_init_1 : decode cX9_init 1 = .ok (.invokespecial 3, 3) := dX9_init_0_z.1.1.2
theorem dX9_init_4 : decode cX9_init 4 = .ok (.aload_n 0, 1) := dX9_init_0_z.1.2.1
theorem dX9_init_5 : decode cX9_init 5 = .ok (.sipush 260, 3) := dX9_init_0_z.1.2.2
theorem dX9_init_8 : decode cX9_init 8 = .ok (.newarray .int, 2) := dX9_init_0_z.2.1.1
theorem dX9_init_10 : decode cX9_init 10 = .ok (.putfield 9, 3) := dX9_init_0_z.2.1.2
theorem dX9_init_13 : decode cX9_init 13 = .ok (.return_, 1) := dX9_init_0_z.2.2
set_option maxRecDepth 100000 in
theorem dX10_init_0_z : ((((decode cX10_init 0 = .ok (.aload_n 0, 1) ∧ decode cX10_init 1 = .ok (.invokespecial 1, 3)) ∧ (decode cX10_init 4 = .ok (.aload_n 0, 1) ∧ decode cX10_init 5 = .ok (.new 7, 3))) ∧ ((decode cX10_init 8 = .ok (.dup, 1) ∧ decode cX10_init 9 = .ok (.invokespecial 9, 3)) ∧ (decode cX10_init 12 = .ok (.putfield 10, 3) ∧ decode cX10_init 15 = .ok (.aload_n 0, 1)))) ∧ (((decode cX10_init 16 = .ok (.new 16, 3) ∧ decode cX10_init 19 = .ok (.dup, 1)) ∧ (decode cX10_init 20 = .ok (.invokespecial 18, 3) ∧ decode cX10_init 23 = .ok (.putfield 19, 3))) ∧ ((decode cX10_init 26 = .ok (.aload_n 0, 1) ∧ decode cX10_init 27 = .ok (.new 23, 3)) ∧ (decode cX10_init 30 = .ok (.dup, 1) ∧ decode cX10_init 31 = .ok (.invokespecial 25, 3))))) := by decide +kernel
theorem dX10_init_0 : decode cX10_init 0 = .ok (.aload_n 0, 1) := dX10_init_0_z.1.1.1.1
theorem dX10_init_1 : decode cX10_init 1 = .ok (.invokespecial 1, 3) := dX10_init_0_z.1.1.1.2
theorem dX10_init_4 : decode cX10_init 4 = .ok (.aload_n 0, 1) := dX10_init_0_z.1.1.2.1
theorem dX10_init_5 : decode cX10_init 5 = .ok (.new 7, 3) := dX10_init_0_z.1.1.2.2
theorem dX10_init_8 : decode cX10_init 8 = .ok (.dup, 1) := dX10_init_0_z.1.2.1.1
theorem dX10_init_9 : decode cX10_init 9 = .ok (.invokespecial 9, 3) := dX10_init_0_z.1.2.1.2
theorem dX10_init_12 : decode cX10_init 12 = .ok (.putfield 10, 3) := dX10_init_0_z.1.2.2.1
theorem dX10_init_15 : decode cX10_init 15 = .ok (.aload_n 0, 1) := dX10_init_0_z.1.2.2.2
theorem dX10_init_16 : decode cX10_init 16 = .ok (.new 16, 3) := dX10_init_0_z.2.1.1.1
theorem dX10_init_19 : decode cX10_init 19 = .ok (.dup, 1) := dX10_init_0_z.2.1.1.2
theorem dX10_init_20 : decode cX10_init 20 = .ok (.invokespecial 18, 3) := dX10_init_0_z.2.1.2.1
theorem dX10_init_23 : decode cX10_init 23 = .ok (.putfield 19, 3) := dX10_init_0_z.2.1.2.2
theorem dX10_init_26 : decode cX10_init 26 = .ok (.aload_n 0, 1) := dX10_init_0_z.2.2.1.1
theorem dX10_init_27 : decode cX10_init 27 = .ok (.new 23, 3) := dX10_init_0_z.2.2.1.2
theorem dX10_init_30 : decode cX10_init 30 = .ok (.dup, 1) := dX10_init_0_z.2.2.2.1
theorem dX10_init_31 : decode cX10_init 31 = .ok (.invokespecial 25, 3) := dX10_init_0_z.2.2.2.2
set_option maxRecDepth 100000 in
theorem dX10_init_34_z : ((((decode cX10_init 34 = .ok (.putfield 26, 3) ∧ decode cX10_init 37 = .ok (.aload_n 0, 1)) ∧ (decode cX10_init 38 = .ok (.new 30, 3) ∧ decode cX10_init 41 = .ok (.dup, 1))) ∧ ((decode cX10_init 42 = .ok (.invokespecial 32, 3) ∧ decode cX10_init 45 = .ok (.putfield 33, 3)) ∧ (decode cX10_init 48 = .ok (.aload_n 0, 1) ∧ decode cX10_init 49 = .ok (.new 30, 3)))) ∧ (((decode cX10_init 52 = .ok (.dup, 1) ∧ decode cX10_init 53 = .ok (.invokespecial 32, 3)) ∧ (decode cX10_init 56 = .ok (.putfield 37, 3) ∧ decode cX10_init 59 = .ok (.aload_n 0, 1))) ∧ ((decode cX10_init 60 = .ok (.iconst 4, 1) ∧ decode cX10_init 61 = .ok (.anewarray 40, 3)) ∧ (decode cX10_init 64 = .ok (.putfield 42, 3) ∧ decode cX10_init 67 = .ok (.aload_n 0, 1))))) := by decide +kernel
theorem dX10_init_34 : decode cX10_init 34 = .ok (.putfield 26, 3) := dX10_init_34_z.1.1.1.1
theorem dX10_init_37 : decode cX10_init 37 = .ok (.aload_n 0, 1) := dX10_init_34_z.1.1.1.2
theorem dX10_init_38 : decode cX10_init 38 = .ok (.new 30, 3) := dX10_init_34_z.1.1.2.1
theorem dX10_init_41 : decode cX10_init 41 = .ok (.dup, 1) := dX10_init_34_z.1.1.2.2
theorem dX10_init_42 : decode cX10_init 42 = .ok (.invokespecial 32, 3) := dX10_init_34_z.1.2.1.1
theorem dX10_init_45 : decode cX10_init 45 = .ok (.putfield 33, 3) := dX10_init_34_z.1.2.1.2
theorem dX10_init_48 : decode cX10_init 48 = .ok (.aload_n 0, 1) := dX10_init_34_z.1.2.2.1
theorem dX10_init_49 : decode cX10_init 49 = .ok (.new 30, 3) := dX10_init_34_z.1.2.2.2
theorem dX10_init_52 : decode cX10_init 52 = .ok (.dup, 1) := dX10_init_34_z.2.1.1.1
theorem dX10_init_53 : decode cX10_init 53 = .ok (.invokespecial 32, 3) := dX10_init_34_z.2.1.1.2
theorem dX10_init_56 : decode cX10_init 56 = .ok (.putfield 37, 3) := dX10_init_34_z.2.1.2.1
theorem dX10_init_59 : decode cX10_init 59 = .ok (.aload_n 0, 1) := dX10_init_34_z.2.1.2.2
theorem dX10_init_60 : decode cX10_init 60 = .ok (.iconst 4, 1) := dX10_init_34_z.2.2.1.1
theorem dX10_init_61 : decode cX10_init 61 = .ok (.anewarray 40, 3) := dX10_init_34_z.2.2.1.2
theorem dX10_init_64 : decode cX10_init 64 = .ok (.putfield 42, 3) := dX10_init_34_z.2.2.2.1
theorem dX10_init_67 : decode cX10_init 67 = .ok (.aload_n 0, 1) := dX10_init_34_z.2.2.2.2
set_option maxRecDepth 100000 in
theorem dX10_init_68_z : ((((decode cX10_init 68 = .ok (.new 46, 3) ∧ decode cX10_init 71 = .ok (.dup, 1)) ∧ (decode cX10_init 72 = .ok (.invokespecial 48, 3) ∧ decode cX10_init 75 = .ok (.putfield 49, 3))) ∧ ((decode cX10_init 78 = .ok (.aload_n 0, 1) ∧ decode cX10_init 79 = .ok (.new 46, 3)) ∧ (decode cX10_init 82 = .ok (.dup, 1) ∧ decode cX10_init 83 = .ok (.invokespecial 48, 3)))) ∧ (((decode cX10_init 86 = .ok (.putfield 53, 3) ∧ decode cX10_init 89 = .ok (.aload_n 0, 1)) ∧ (decode cX10_init 90 = .ok (.new 56, 3) ∧ decode cX10_init 93 = .ok (.dup, 1))) ∧ ((decode cX10_init 94 = .ok (.invokespecial 58, 3) ∧ decode cX10_init 97 = .ok (.putfield 59, 3)) ∧ (decode cX10_init 100 = .ok (.aload_n 0, 1) ∧ decode cX10_init 101 = .ok (.new 63, 3))))) := by decide +kernel
theorem dX10_init_68 : decode cX10_init 68 = .ok (.new 46, 3) := dX10_init_68_z.1.1.1.1
theorem dX10_init_71 : decode cX10_init 71 = .ok (.dup, 1) := dX10_init_68_z.1.1.1.2
theorem dX10_init_72 : decode cX10_init 72 = .ok (.invokespecial 48, 3) := dX10_init_68_z.1.1.2.1
theorem dX10_init_75 : decode cX10_init 75 = .ok (.putfield 49, 3) := dX10_init_68_z.1.1.2.2
theorem dX10_init_78 : decode cX10_init 78 = .ok (.aload_n 0, 1) := dX10_init_68_z.1.2.1.1
theorem dX10_init_79 : decode cX10_init 79 = .ok (.new 46, 3) := dX10_init_68_z.1.2.1.2
theorem dX10_init_82 : decode cX10_init 82 = .ok (.dup, 1) := dX10_init_68_z.1.2.2.1
theorem dX10_init_83 : decode cX10_init 83 = .ok (.invokespecial 48, 3) := dX10_init_68_z.1.2.2.2
theorem dX10_init_86 : decode cX10_init 86 = .ok (.putfield 53, 3) := dX10_init_68_z.2.1.1.1
theorem dX10_init_89 : decode cX10_init 89 = .ok (.aload_n 0, 1) := dX10_init_68_z.2.1.1.2
theorem dX10_init_90 : decode cX10_init 90 = .ok (.new 56, 3) := dX10_init_68_z.2.1.2.1
theorem dX10_init_93 : decode cX10_init 93 = .ok (.dup, 1) := dX10_init_68_z.2.1.2.2
theorem dX10_init_94 : decode cX10_init 94 = .ok (.invokespecial 58, 3) := dX10_init_68_z.2.2.1.1
theorem dX10_init_97 : decode cX10_init 97 = .ok (.putfield 59, 3) := dX10_init_68_z.2.2.1.2
theorem dX10_init_100 : decode cX10_init 100 = .ok (.aload_n 0, 1) := dX10_init_68_z.2.2.2.1
theorem dX10_init_101 : decode cX10_init 101 = .ok (.new 63, 3) := dX10_init_68_z.2.2.2.2
set_option maxRecDepth 100000 in
theorem dX10_init_104_z : ((((decode cX10_init 104 = .ok (.dup, 1) ∧ decode cX10_init 105 = .ok (.aload_n 0, 1)) ∧ (decode cX10_init 106 = .ok (.getfield 37, 3) ∧ decode cX10_init 109 = .ok (.aload_n 0, 1))) ∧ ((decode cX10_init 110 = .ok (.getfield 49, 3) ∧ decode cX10_init 113 = .ok (.invokespecial 65, 3)) ∧ (decode cX10_init 116 = .ok (.putfield 68, 3) ∧ decode cX10_init 119 = .ok (.aload_n 0, 1)))) ∧ (((decode cX10_init 120 = .ok (.new 72, 3) ∧ decode cX10_init 123 = .ok (.dup, 1)) ∧ (decode cX10_init 124 = .ok (.aload_n 0, 1) ∧ decode cX10_init 125 = .ok (.getfield 37, 3))) ∧ ((decode cX10_init 128 = .ok (.aload_n 0, 1) ∧ decode cX10_init 129 = .ok (.getfield 49, 3)) ∧ (decode cX10_init 132 = .ok (.aload_n 0, 1) ∧ decode cX10_init 133 = .ok (.getfield 68, 3))))) := by decide +kernel
theorem dX10_init_104 : decode cX10_init 104 = .ok (.dup, 1) := dX10_init_104_z.1.1.1.1
theorem dX10_init_105 : decode cX10_init 105 = .ok (.aload_n 0, 1) := dX10_init_104_z.1.1.1.2
theorem dX10_init_106 : decode cX10_init 106 = .ok (.getfield 37, 3) := dX10_init_104_z.1.1.2.1
theorem dX10_init_109 : decode cX10_init 109 = .ok (.aload_n 0, 1) := dX10_init_104_z.1.1.2.2
theorem dX10_init_110 : decode cX10_init 110 = .ok (.getfield 49, 3) := dX10_init_104_z.1.2.1.1
theorem dX10_init_113 : decode cX10_init 113 = .ok (.invokespecial 65, 3) := dX10_init_104_z.1.2.1.2
theorem dX10_init_116 : decode cX10_init 116 = .ok (.putfield 68, 3) := dX10_init_104_z.1.2.2.1
theorem dX10_init_119 : decode cX10_init 119 = .ok (.aload_n 0, 1) := dX10_init_104_z.1.2.2.2
theorem dX10_init_120 : decode cX10_init 120 = .ok (.new 72, 3) := dX10_init_104_z.2.1.1.1
theorem dX10_init_123 : decode cX10_init 123 = .ok (.dup, 1) := dX10_init_104_z.2.1.1.2
theorem dX10_init_124 : decode cX10_init 124 = .ok (.aload_n 0, 1) := dX10_init_104_z.2.1.2.1
theorem dX10_init_125 : decode cX10_init 125 = .ok (.getfield 37, 3) := dX10_init_104_z.2.1.2.2
theorem dX10_init_128 : decode cX10_init 128 = .ok (.aload_n 0, 1) := dX10_init_104_z.2.2.1.1
theorem dX10_init_129 : decode cX10_init 129 = .ok (.getfield 49, 3) := dX10_init_104_z.2.2.1.2
theorem dX10_init_132 : decode cX10_init 132 = .ok (.aload_n 0, 1) := dX10_init_104_z.2.2.2.1
theorem dX10_init_133 : decode cX10_init 133 = .ok (.getfield 68, 3) := dX10_init_104_z.2.2.2.2
set_option maxRecDepth 100000 in
theorem dX10_init_136_z : ((((decode cX10_init 136 = .ok (.invokespecial 74, 3) ∧ decode cX10_init 139 = .ok (.putfield 77, 3)) ∧ (decode cX10_init 142 = .ok (.aload_n 0, 1) ∧ decode cX10_init 143 = .ok (.new 81, 3))) ∧ ((decode cX10_init 146 = .ok (.dup, 1) ∧ decode cX10_init 147 = .ok (.invokespecial 83, 3)) ∧ (decode cX10_init 150 = .ok (.putfield 84, 3) ∧ decode cX10_init 153 = .ok (.aload_n 0, 1)))) ∧ (((decode cX10_init 154 = .ok (.iconst 5, 1) ∧ decode cX10_init 155 = .ok (.newarray .int, 2)) ∧ (decode cX10_init 157 = .ok (.putfield 88, 3) ∧ decode cX10_init 160 = .ok (.aload_n 0, 1))) ∧ ((decode cX10_init 161 = .ok (.iconst (-1), 1) ∧ decode cX10_init 162 = .ok (.putfield 92, 3)) ∧ decode cX10_init 165 = .ok (.return_, 1)))) := by decide +kernel
theorem dX10_init_136 : decode cX10_init 136 = .ok (.invokespecial 74, 3) := dX10_init_136_z.1.1.1.1
theorem dX10_init_139 : decode cX10_init 139 = .ok (.putfield 77, 3) := dX10_init_136_z.1.1.1.2
theorem dX10_init_142 : decode cX10_init 142 = .ok (.aload_n 0, 1) := dX10_init_136_z.1.1.2.1
theorem dX10_init_143 : decode cX10_init 143 = .ok (.new 81, 3) := dX10_init_136_z.1.1.2.2
theorem dX10_init_146 : decode cX10_init 146 = .ok (.dup, 1) := dX10_init_136_z.1.2.1.1
theorem dX10_init_147 : decode cX10_init 147 = .ok (.invokespecial 83, 3) := dX10_init_136_z.1.2.1.2
theorem dX10_init_150 : decode cX10_init 150 = .ok (.putfield 84, 3) := dX10_init_136_z.1.2.2.1
theorem dX10_init_153 : decode cX10_init 153 = .ok (.aload_n 0, 1) := dX10_init_136_z.1.2.2.2
theorem dX10_init_154 : decode cX10_init 154 = .ok (.iconst 5, 1) := dX10_init_136_z.2.1.1.1
theorem dX10_init_155 : decode cX10_init 155 = .ok (.newarray .int, 2) := dX10_init_136_z.2.1.1.2
theorem dX10_init_157 : decode cX10_init 157 = .ok (.putfield 88, 3) := dX10_init_136_z.2.1.2.1
theorem dX10_init_160 : decode cX10_init 160 = .ok (.aload_n 0, 1) := dX10_init_136_z.2.1.2.2
theorem dX10_init_161 : decode cX10_init 161 = .ok (.iconst (-1), 1) := dX10_init_136_z.2.2.1.1
theorem dX10_init_162 : decode cX10_init 162 = .ok (.putfield 92, 3) := dX10_init_136_z.2.2.1.2
theorem dX10_init_165 : decode cX10_init 165 = .ok (.return_, 1) := dX10_init_136_z.2.2.2
set_option maxRecDepth 100000 in
theorem dX11_init_0_z : ((((decode cX11_init 0 = .ok (.aload_n 0, 1) ∧ decode cX11_init 1 = .ok (.invokespecial 3, 3)) ∧ (decode cX11_init 4 = .ok (.aload_n 0, 1) ∧ decode cX11_init 5 = .ok (.sipush 240, 3))) ∧ ((decode cX11_init 8 = .ok (.newarray .int, 2) ∧ decode cX11_init 10 = .ok (.putfield 9, 3)) ∧ (decode cX11_init 13 = .ok (.aload_n 0, 1) ∧ decode cX11_init 14 = .ok (.sipush 2600, 3)))) ∧ (((decode cX11_init 17 = .ok (.newarray .int, 2) ∧ decode cX11_init 19 = .ok (.putfield 13, 3)) ∧ (decode cX11_init 22 = .ok (.aload_n 0, 1) ∧ decode cX11_init 23 = .ok (.sipush 2600, 3))) ∧ ((decode cX11_init 26 = .ok (.newarray .int, 2) ∧ decode cX11_init 28 = .ok (.putfield 16, 3)) ∧ (decode cX11_init 31 = .ok (.aload_n 0, 1) ∧ decode cX11_init 32 = .ok (.iconst 5, 1))))) := by decide +kernel
theorem dX11_init_0 : decode cX11_init 0 = .ok (.aload_n 0, 1) := dX11_init_0_z.1.1.1.1
theorem dX11_init_1 : decode cX11_init 1 = .ok (.invokespecial 3, 3) := dX11_init_0_z.1.1.1.2
theorem dX11_init_4 : decode cX11_init 4 = .ok (.aload_n 0, 1) := dX11_init_0_z.1.1.2.1
theorem dX11_init_5 : decode cX11_init 5 = .ok (.sipush 240, 3) := dX11_init_0_z.1.1.2.2
theorem dX11_init_8 : decode cX11_init 8 = .ok (.newarray .int, 2) := dX11_init_0_z.1.2.1.1
theorem dX11_init_10 : decode cX11_init 10 = .ok (.putfield 9, 3) := dX11_init_0_z.1.2.1.2
theorem dX11_init_13 : decode cX11_init 13 = .ok (.aload_n 0, 1) := dX11_init_0_z.1.2.2.1
theorem dX11_init_14 : decode cX11_init 14 = .ok (.sipush 2600, 3) := dX11_init_0_z.1.2.2.2
theorem dX11_init_17 : decode cX11_init 17 = .ok (.newarray .int, 2) := dX11_init_0_z.2.1.1.1
theorem dX11_init_19 : decode cX11_init 19 = .ok (.putfield 13, 3) := dX11_init_0_z.2.1.1.2
theorem dX11_init_22 : decode cX11_init 22 = .ok (.aload_n 0, 1) := dX11_init_0_z.2.1.2.1
theorem dX11_init_23 : decode cX11_init 23 = .ok (.sipush 2600, 3) := dX11_init_0_z.2.1.2.2
theorem dX11_init_26 : decode cX11_init 26 = .ok (.newarray .int, 2) := dX11_init_0_z.2.2.1.1
theorem dX11_init_28 : decode cX11_init 28 = .ok (.putfield 16, 3) := dX11_init_0_z.2.2.1.2
theorem dX11_init_31 : decode cX11_init 31 = .ok (.aload_n 0, 1) := dX11_init_0_z.2.2.2.1
theorem dX11_init_32 : decode cX11_init 32 = .ok (.iconst 5, 1) := dX11_init_0_z.2.2.2.2
set_option maxRecDepth 100000 in
theorem dX11_init_33_z : ((((decode cX11_init 33 = .ok (.newarray .int, 2) ∧ decode cX11_init 35 = .ok (.putfield 19, 3)) ∧ (decode cX11_init 38 = .ok (.aload_n 0, 1) ∧ decode cX11_init 39 = .ok (.iconst 5, 1))) ∧ ((decode cX11_init 40 = .ok (.newarray .int, 2) ∧ decode cX11_init 42 = .ok (.putfield 22, 3)) ∧ (decode cX11_init 45 = .ok (.aload_n 0, 1) ∧ decode cX11_init 46 = .ok (.sipush 700, 3)))) ∧ (((decode cX11_init 49 = .ok (.newarray .int, 2) ∧ decode cX11_init 51 = .ok (.putfield 25, 3)) ∧ (decode cX11_init 54 = .ok (.aload_n 0, 1) ∧ decode cX11_init 55 = .ok (.sipush 700, 3))) ∧ ((decode cX11_init 58 = .ok (.newarray .int, 2) ∧ decode cX11_init 60 = .ok (.putfield 28, 3)) ∧ (decode cX11_init 63 = .ok (.aload_n 0, 1) ∧ decode cX11_init 64 = .ok (.sipush 700, 3))))) := by decide +kernel
theorem dX11_init_33 : decode cX11_init 33 = .ok (.newarray .int, 2) := dX11_init_33_z.1.1.1.1
theorem dX11_init_35 : decode cX11_init 35 = .ok (.putfield 19, 3) := dX11_init_33_z.1.1.1.2
theorem dX11_init_38 : decode cX11_init 38 = .ok (.aload_n 0, 1) := dX11_init_33_z.1.1.2.1
theorem dX11_init_39 : decode cX11_init 39 = .ok (.iconst 5, 1) := dX11_init_33_z.1.1.2.2
theorem dX11_init_40 : decode cX11_init 40 = .ok (.newarray .int, 2) := dX11_init_33_z.1.2.1.1
theorem dX11_init_42 : decode cX11_init 42 = .ok (.putfield 22, 3) := dX11_init_33_z.1.2.1.2
theorem dX11_init_45 : decode cX11_init 45 = .ok (.aload_n 0, 1) := dX11_init_33_z.1.2.2.1
theorem dX11_init_46 : decode cX11_init 46 = .ok (.sipush 700, 3) := dX11_init_33_z.1.2.2.2
theorem dX11_init_49 : decode cX11_init 49 = .ok (.newarray .int, 2) := dX11_init_33_z.2.1.1.1
theorem dX11_init_51 : decode cX11_init 51 = .ok (.putfield 25, 3) := dX11_init_33_z.2.1.1.2
theorem dX11_init_54 : decode cX11_init 54 = .ok (.aload_n 0, 1) := dX11_init_33_z.2.1.2.1
theorem dX11_init_55 : decode cX11_init 55 = .ok (.sipush 700, 3) := dX11_init_33_z.2.1.2.2
theorem dX11_init_58 : decode cX11_init 58 = .ok (.newarray .int, 2) := dX11_init_33_z.2.2.1.1
theorem dX11_init_60 : decode cX11_init 60 = .ok (.putfield 28, 3) := dX11_init_33_z.2.2.1.2
theorem dX11_init_63 : decode cX11_init 63 = .ok (.aload_n 0, 1) := dX11_init_33_z.2.2.2.1
theorem dX11_init_64 : decode cX11_init 64 = .ok (.sipush 700, 3) := dX11_init_33_z.2.2.2.2
set_option maxRecDepth 100000 in
theorem dX11_init_67_z : ((((decode cX11_init 67 = .ok (.newarray .int, 2) ∧ decode cX11_init 69 = .ok (.putfield 31, 3)) ∧ (decode cX11_init 72 = .ok (.aload_n 0, 1) ∧ decode cX11_init 73 = .ok (.bipush 6, 2))) ∧ ((decode cX11_init 75 = .ok (.newarray .int, 2) ∧ decode cX11_init 77 = .ok (.putfield 34, 3)) ∧ (decode cX11_init 80 = .ok (.aload_n 0, 1) ∧ decode cX11_init 81 = .ok (.bipush 80, 2)))) ∧ (((decode cX11_init 83 = .ok (.newarray .int, 2) ∧ decode cX11_init 85 = .ok (.putfield 37, 3)) ∧ (decode cX11_init 88 = .ok (.aload_n 0, 1) ∧ decode cX11_init 89 = .ok (.iconst 3, 1))) ∧ ((decode cX11_init 90 = .ok (.newarray .int, 2) ∧ decode cX11_init 92 = .ok (.putfield 40, 3)) ∧ (decode cX11_init 95 = .ok (.aload_n 0, 1) ∧ decode cX11_init 96 = .ok (.bipush 24, 2))))) := by decide +kernel
theorem dX11_init_67 : decode cX11_init 67 = .ok (.newarray .int, 2) := dX11_init_67_z.1.1.1.1
theorem dX11_init_69 : decode cX11_init 69 = .ok (.putfield 31, 3) := dX11_init_67_z.1.1.1.2
theorem dX11_init_72 : decode cX11_init 72 = .ok (.aload_n 0, 1) := dX11_init_67_z.1.1.2.1
theorem dX11_init_73 : decode cX11_init 73 = .ok (.bipush 6, 2) := dX11_init_67_z.1.1.2.2
theorem dX11_init_75 : decode cX11_init 75 = .ok (.newarray .int, 2) := dX11_init_67_z.1.2.1.1
theorem dX11_init_77 : decode cX11_init 77 = .ok (.putfield 34, 3) := dX11_init_67_z.1.2.1.2
theorem dX11_init_80 : decode cX11_init 80 = .ok (.aload_n 0, 1) := dX11_init_67_z.1.2.2.1
theorem dX11_init_81 : decode cX11_init 81 = .ok (.bipush 80, 2) := dX11_init_67_z.1.2.2.2
theorem dX11_init_83 : decode cX11_init 83 = .ok (.newarray .int, 2) := dX11_init_67_z.2.1.1.1
theorem dX11_init_85 : decode cX11_init 85 = .ok (.putfield 37, 3) := dX11_init_67_z.2.1.1.2
theorem dX11_init_88 : decode cX11_init 88 = .ok (.aload_n 0, 1) := dX11_init_67_z.2.1.2.1
theorem dX11_init_89 : decode cX11_init 89 = .ok (.iconst 3, 1) := dX11_init_67_z.2.1.2.2
theorem dX11_init_90 : decode cX11_init 90 = .ok (.newarray .int, 2) := dX11_init_67_z.2.2.1.1
theorem dX11_init_92 : decode cX11_init 92 = .ok (.putfield 40, 3) := dX11_init_67_z.2.2.1.2
theorem dX11_init_95 : decode cX11_init 95 = .ok (.aload_n 0, 1) := dX11_init_67_z.2.2.2.1
theorem dX11_init_96 : decode cX11_init 96 = .ok (.bipush 24, 2) := dX11_init_67_z.2.2.2.2
set_option maxRecDepth 100000 in
theorem dX11_init_98_z : ((((decode cX11_init 98 = .ok (.newarray .int, 2) ∧ decode cX11_init 100 = .ok (.putfield 43, 3)) ∧ (decode cX11_init 103 = .ok (.aload_n 0, 1) ∧ decode cX11_init 104 = .ok (.bipush 20, 2))) ∧ ((decode cX11_init 106 = .ok (.newarray .int, 2) ∧ decode cX11_init 108 = .ok (.putfield 46, 3)) ∧ (decode cX11_init 111 = .ok (.aload_n 0, 1) ∧ decode cX11_init 112 = .ok (.iconst 3, 1)))) ∧ (((decode cX11_init 113 = .ok (.newarray .int, 2) ∧ decode cX11_init 115 = .ok (.putfield 49, 3)) ∧ (decode cX11_init 118 = .ok (.aload_n 0, 1) ∧ decode cX11_init 119 = .ok (.bipush 24, 2))) ∧ ((decode cX11_init 121 = .ok (.newarray .int, 2) ∧ decode cX11_init 123 = .ok (.putfield 52, 3)) ∧ (decode cX11_init 126 = .ok (.aload_n 0, 1) ∧ decode cX11_init 127 = .ok (.bipush 20, 2))))) := by decide +kernel
theorem dX11_init_98 : decode cX11_init 98 = .ok (.newarray .int, 2) := dX11_init_98_z.1.1.1.1
theorem dX11_init_100 : decode cX11_init 100 = .ok (.putfield 43, 3) := dX11_init_98_z.1.1.1.2
theorem dX11_init_103 : decode cX11_init 103 = .ok (.aload_n 0, 1) := dX11_init_98_z.1.1.2.1
theorem dX11_init_104 : decode cX11_init 104 = .ok (.bipush 20, 2) := dX11_init_98_z.1.1.2.2
theorem dX11_init_106 : decode cX11_init 106 = .ok (.newarray .int, 2) := dX11_init_98_z.1.2.1.1
theorem dX11_init_108 : decode cX11_init 108 = .ok (.putfield 46, 3) := dX11_init_98_z.1.2.1.2
theorem dX11_init_111 : decode cX11_init 111 = .ok (.aload_n 0, 1) := dX11_init_98_z.1.2.2.1
theorem dX11_init_112 : decode cX11_init 112 = .ok (.iconst 3, 1) := dX11_init_98_z.1.2.2.2
theorem dX11_init_113 : decode cX11_init 113 = .ok (.newarray .int, 2) := dX11_init_98_z.2.1.1.1
theorem dX11_init_115 : decode cX11_init 115 = .ok (.putfield 49, 3) := dX11_init_98_z.2.1.1.2
theorem dX11_init_118 : decode cX11_init 118 = .ok (.aload_n 0, 1) := dX11_init_98_z.2.1.2.1
theorem dX11_init_119 : decode cX11_init 119 = .ok (.bipush 24, 2) := dX11_init_98_z.2.1.2.2
theorem dX11_init_121 : decode cX11_init 121 = .ok (.newarray .int, 2) := dX11_init_98_z.2.2.1.1
theorem dX11_init_123 : decode cX11_init 123 = .ok (.putfield 52, 3) := dX11_init_98_z.2.2.1.2
theorem dX11_init_126 : decode cX11_init 126 = .ok (.aload_n 0, 1) := dX11_init_98_z.2.2.2.1
theorem dX11_init_127 : decode cX11_init 127 = .ok (.bipush 20, 2) := dX11_init_98_z.2.2.2.2
set_option maxRecDepth 100000 in
theorem dX11_init_129_z : ((((decode cX11_init 129 = .ok (.newarray .int, 2) ∧ decode cX11_init 131 = .ok (.putfield 55, 3)) ∧ (decode cX11_init 134 = .ok (.aload_n 0, 1) ∧ decode cX11_init 135 = .ok (.bipush 97, 2))) ∧ ((decode cX11_init 137 = .ok (.newarray .int, 2) ∧ decode cX11_init 139 = .ok (.putfield 58, 3)) ∧ (decode cX11_init 142 = .ok (.aload_n 0, 1) ∧ decode cX11_init 143 = .ok (.iconst 5, 1)))) ∧ (((decode cX11_init 144 = .ok (.newarray .int, 2) ∧ decode cX11_init 146 = .ok (.putfield 61, 3)) ∧ (decode cX11_init 149 = .ok (.aload_n 0, 1) ∧ decode cX11_init 150 = .ok (.iconst (-1), 1))) ∧ ((decode cX11_init 151 = .ok (.putfield 64, 3) ∧ decode cX11_init 154 = .ok (.aload_n 0, 1)) ∧ (decode cX11_init 155 = .ok (.sipush 3880, 3) ∧ decode cX11_init 158 = .ok (.newarray .int, 2))))) := by decide +kernel
theorem dX11_init_129 : decode cX11_init 129 = .ok (.newarray .int, 2) := dX11_init_129_z.1.1.1.1
theorem dX11_init_131 : decode cX11_init 131 = .ok (.putfield 55, 3) := dX11_init_129_z.1.1.1.2
theorem dX11_init_134 : decode cX11_init 134 = .ok (.aload_n 0, 1) := dX11_init_129_z.1.1.2.1
theorem dX11_init_135 : decode cX11_init 135 = .ok (.bipush 97, 2) := dX11_init_129_z.1.1.2.2
theorem dX11_init_137 : decode cX11_init 137 = .ok (.newarray .int, 2) := dX11_init_129_z.1.2.1.1
theorem dX11_init_139 : decode cX11_init 139 = .ok (.putfield 58, 3) := dX11_init_129_z.1.2.1.2
theorem dX11_init_142 : decode cX11_init 142 = .ok (.aload_n 0, 1) := dX11_init_129_z.1.2.2.1
theorem dX11_init_143 : decode cX11_init 143 = .ok (.iconst 5, 1) := dX11_init_129_z.1.2.2.2
theorem dX11_init_144 : decode cX11_init 144 = .ok (.newarray .int, 2) := dX11_init_129_z.2.1.1.1
theorem dX11_init_146 : decode cX11_init 146 = .ok (.putfield 61, 3) := dX11_init_129_z.2.1.1.2
theorem dX11_init_149 : decode cX11_init 149 = .ok (.aload_n 0, 1) := dX11_init_129_z.2.1.2.1
theorem dX11_init_150 : decode cX11_init 150 = .ok (.iconst (-1), 1) := dX11_init_129_z.2.1.2.2
theorem dX11_init_151 : decode cX11_init 151 = .ok (.putfield 64, 3) := dX11_init_129_z.2.2.1.1
theorem dX11_init_154 : decode cX11_init 154 = .ok (.aload_n 0, 1) := dX11_init_129_z.2.2.1.2
theorem dX11_init_155 : decode cX11_init 155 = .ok (.sipush 3880, 3) := dX11_init_129_z.2.2.2.1
theorem dX11_init_158 : decode cX11_init 158 = .ok (.newarray .int, 2) := dX11_init_129_z.2.2.2.2
set_option maxRecDepth 100000 in
theorem dX11_init_160_z : ((((decode cX11_init 160 = .ok (.putfield 68, 3) ∧ decode cX11_init 163 = .ok (.aload_n 0, 1)) ∧ (decode cX11_init 164 = .ok (.bipush 10, 2) ∧ decode cX11_init 166 = .ok (.newarray .int, 2))) ∧ ((decode cX11_init 168 = .ok (.putfield 71, 3) ∧ decode cX11_init 171 = .ok (.aload_n 0, 1)) ∧ (decode cX11_init 172 = .ok (.bipush 6, 2) ∧ decode cX11_init 174 = .ok (.newarray .int, 2)))) ∧ (((decode cX11_init 176 = .ok (.putfield 74, 3) ∧ decode cX11_init 179 = .ok (.aload_n 0, 1)) ∧ (decode cX11_init 180 = .ok (.iconst 5, 1) ∧ decode cX11_init 181 = .ok (.newarray .int, 2))) ∧ ((decode cX11_init 183 = .ok (.putfield 77, 3) ∧ decode cX11_init 186 = .ok (.aload_n 0, 1)) ∧ (decode cX11_init 187 = .ok (.bipush 97, 2) ∧ decode cX11_init 189 = .ok (.newarray .int, 2))))) := by decide +kernel
theorem dX11_init_160 : decode cX11_init 160 = .ok (.putfield 68, 3) := dX11_init_160_z.1.1.1.1
theorem dX11_init_163 : decode cX11_init 163 = .ok (.aload_n 0, 1) := dX11_init_160_z.1.1.1.2
theorem dX11_init_164 : decode cX11_init 164 = .ok (.bipush 10, 2) := dX11_init_160_z.1.1.2.1
theorem dX11_init_166 : decode cX11_init 166 = .ok (.newarray .int, 2) := dX11_init_160_z.1.1.2.2
theorem dX11_init_168 : decode cX11_init 168 = .ok (.putfield 71, 3) := dX11_init_160_z.1.2.1.1
theorem dX11_init_171 : decode cX11_init 171 = .ok (.aload_n 0, 1) := dX11_init_160_z.1.2.1.2
theorem dX11_init_172 : decode cX11_init 172 = .ok (.bipush 6, 2) := dX11_init_160_z.1.2.2.1
theorem dX11_init_174 : decode cX11_init 174 = .ok (.newarray .int, 2) := dX11_init_160_z.1.2.2.2
theorem dX11_init_176 : decode cX11_init 176 = .ok (.putfield 74, 3) := dX11_init_160_z.2.1.1.1
theorem dX11_init_179 : decode cX11_init 179 = .ok (.aload_n 0, 1) := dX11_init_160_z.2.1.1.2
theorem dX11_init_180 : decode cX11_init 180 = .ok (.iconst 5, 1) := dX11_init_160_z.2.1.2.1
theorem dX11_init_181 : decode cX11_init 181 = .ok (.newarray .int, 2) := dX11_init_160_z.2.1.2.2
theorem dX11_init_183 : decode cX11_init 183 = .ok (.putfield 77, 3) := dX11_init_160_z.2.2.1.1
theorem dX11_init_186 : decode cX11_init 186 = .ok (.aload_n 0, 1) := dX11_init_160_z.2.2.1.2
theorem dX11_init_187 : decode cX11_init 187 = .ok (.bipush 97, 2) := dX11_init_160_z.2.2.2.1
theorem dX11_init_189 : decode cX11_init 189 = .ok (.newarray .int, 2) := dX11_init_160_z.2.2.2.2
set_option maxRecDepth 100000 in
theorem dX11_init_191_z : (decode cX11_init 191 = .ok (.putfield 80, 3) ∧ decode cX11_init 194 = .ok (.return_, 1)) := by decide +kernel
theorem dX11_init_191 : decode cX11_init 191 = .ok (.putfield 80, 3) := dX11_init_191_z.1
theorem dX11_init_194 : decode cX11_init 194 = .ok (.return_, 1) := dX11_init_191_z.2
set_option maxRecDepth 100000 in
theorem dL_law_0_z : (((decode cL_law 0 = .ok (.new 8, 3) ∧ decode cL_law 3 = .ok (.dup, 1)) ∧ (decode cL_law 4 = .ok (.invokespecial 15, 3) ∧ decode cL_law 7 = .ok (.astore_n 1, 1))) ∧ ((decode cL_law 8 = .ok (.new 16, 3) ∧ decode cL_law 11 = .ok (.dup, 1)) ∧ (decode cL_law 12 = .ok (.invokespecial 18, 3) ∧ decode cL_law 15 = .ok (.astore_n 2, 1)))) := by decide +kernel
theorem dL_law_0 : decode cL_law 0 = .ok (.new 8, 3) := dL_law_0_z.1.1.1
theorem dL_law_3 : decode cL_law 3 = .ok (.dup, 1) := dL_law_0_z.1.1.2
theorem dL_law_4 : decode cL_law 4 = .ok (.invokespecial 15, 3) := dL_law_0_z.1.2.1
theorem dL_law_7 : decode cL_law 7 = .ok (.astore_n 1, 1) := dL_law_0_z.1.2.2
theorem dL_law_8 : decode cL_law 8 = .ok (.new 16, 3) := dL_law_0_z.2.1.1
theorem dL_law_11 : decode cL_law 11 = .ok (.dup, 1) := dL_law_0_z.2.1.2
theorem dL_law_12 : decode cL_law 12 = .ok (.invokespecial 18, 3) := dL_law_0_z.2.2.1
theorem dL_law_15 : decode cL_law 15 = .ok (.astore_n 2, 1) := dL_law_0_z.2.2.2
theorem dL_law_16 : decode cL_law 16 = .ok (.iconst 1, 1) := zd_o4 zy_16
theorem dL_law_17 : decode cL_law 17 = .ok (.newarray .long, 2) := by decide +kernel
theorem dL_law_19 : decode cL_law 19 = .ok (.astore_n 3, 1) := by decide +kernel
theorem dL_law_20 : decode cL_law 20 = .ok (.iconst 0, 1) := zd_o3 zy_20
theorem dL_law_21 : decode cL_law 21 = .ok (.istore 4, 2) := by decide +kernel
theorem dL_law_23 : decode cL_law 23 = .ok (.iload 4, 2) := zd_iload zy_23 zy_24 rfl
theorem dL_law_25 : decode cL_law 25 = .ok (.aload_n 0, 1) := zd_o42 zy_25
set_option maxRecDepth 100000 in
theorem dL_law_26_z : ((decode cL_law 26 = .ok (.arraylength, 1) ∧ decode cL_law 27 = .ok (.bipush 7, 2)) ∧ (decode cL_law 29 = .ok (.isub, 1) ∧ decode cL_law 30 = .ok (.if_icmp .gt 1773, 3))) := by decide +kernel
theorem dL_law_26 : decode cL_law 26 = .ok (.arraylength, 1) := dL_law_26_z.1.1
theorem dL_law_27 : decode cL_law 27 = .ok (.bipush 7, 2) := dL_law_26_z.1.2
theorem dL_law_29 : decode cL_law 29 = .ok (.isub, 1) := dL_law_26_z.2.1
theorem dL_law_30 : decode cL_law 30 = .ok (.if_icmp .gt 1773, 3) := dL_law_26_z.2.2
theorem dL_law_33 : decode cL_law 33 = .ok (.aload_n 0, 1) := zd_o42 zy_33
theorem dL_law_34 : decode cL_law 34 = .ok (.iload 4, 2) := zd_iload zy_34 zy_35 rfl
theorem dL_law_36 : decode cL_law 36 = .ok (.iaload, 1) := zd_o46 zy_36
set_option maxRecDepth 100000 in
theorem dL_law_37_z : ((decode cL_law 37 = .ok (.bipush 63, 2) ∧ decode cL_law 39 = .ok (.iand, 1)) ∧ decode cL_law 40 = .ok (.tableswitch 1757 0 47 #[208, 281, 306, 331, 356, 381, 421, 458, 483, 520, 569, 606, 643, 668, 693, 718, 743, 756, 781, 806, 875, 900, 913, 950, 975, 1012, 1049, 1086, 1111, 1136, 1173, 1198, 1285, 1346, 1383, 1420, 1445, 1482, 1531, 1556, 1581, 1606, 1631, 1656, 1681, 1706, 1719, 1732], 208)) := by decide +kernel
theorem dL_law_37 : decode cL_law 37 = .ok (.bipush 63, 2) := dL_law_37_z.1.1
theorem dL_law_39 : decode cL_law 39 = .ok (.iand, 1) := dL_law_37_z.1.2
theorem dL_law_40 : decode cL_law 40 = .ok (.tableswitch 1757 0 47 #[208, 281, 306, 331, 356, 381, 421, 458, 483, 520, 569, 606, 643, 668, 693, 718, 743, 756, 781, 806, 875, 900, 913, 950, 975, 1012, 1049, 1086, 1111, 1136, 1173, 1198, 1285, 1346, 1383, 1420, 1445, 1482, 1531, 1556, 1581, 1606, 1631, 1656, 1681, 1706, 1719, 1732], 208) := dL_law_37_z.2
theorem dL_law_248 : decode cL_law 248 = .ok (.aload_n 1, 1) := zd_o43 zy_248
theorem dL_law_249 : decode cL_law 249 = .ok (.aload_n 0, 1) := zd_o42 zy_249
theorem dL_law_250 : decode cL_law 250 = .ok (.iload 4, 2) := zd_iload zy_250 zy_251 rfl
theorem dL_law_252 : decode cL_law 252 = .ok (.iconst 1, 1) := zd_o4 zy_252
theorem dL_law_253 : decode cL_law 253 = .ok (.iadd, 1) := zd_o96 zy_253
theorem dL_law_254 : decode cL_law 254 = .ok (.iaload, 1) := zd_o46 zy_254
theorem dL_law_255 : decode cL_law 255 = .ok (.aload_n 0, 1) := zd_o42 zy_255
theorem dL_law_256 : decode cL_law 256 = .ok (.iload 4, 2) := zd_iload zy_256 zy_257 rfl
theorem dL_law_258 : decode cL_law 258 = .ok (.iconst 2, 1) := zd_o5 zy_258
theorem dL_law_259 : decode cL_law 259 = .ok (.iadd, 1) := zd_o96 zy_259
theorem dL_law_260 : decode cL_law 260 = .ok (.iaload, 1) := zd_o46 zy_260
theorem dL_law_261 : decode cL_law 261 = .ok (.aload_n 0, 1) := zd_o42 zy_261
theorem dL_law_262 : decode cL_law 262 = .ok (.iload 4, 2) := zd_iload zy_262 zy_263 rfl
theorem dL_law_264 : decode cL_law 264 = .ok (.iconst 3, 1) := zd_o6 zy_264
theorem dL_law_265 : decode cL_law 265 = .ok (.iadd, 1) := zd_o96 zy_265
theorem dL_law_266 : decode cL_law 266 = .ok (.iaload, 1) := zd_o46 zy_266
theorem dL_law_267 : decode cL_law 267 = .ok (.aload_n 0, 1) := zd_o42 zy_267
theorem dL_law_268 : decode cL_law 268 = .ok (.iload 4, 2) := zd_iload zy_268 zy_269 rfl
theorem dL_law_270 : decode cL_law 270 = .ok (.iconst 4, 1) := zd_o7 zy_270
theorem dL_law_271 : decode cL_law 271 = .ok (.iadd, 1) := zd_o96 zy_271
theorem dL_law_272 : decode cL_law 272 = .ok (.iaload, 1) := zd_o46 zy_272
theorem dL_law_273 : decode cL_law 273 = .ok (.aload_n 0, 1) := zd_o42 zy_273
theorem dL_law_274 : decode cL_law 274 = .ok (.iload 4, 2) := zd_iload zy_274 zy_275 rfl
theorem dL_law_276 : decode cL_law 276 = .ok (.iconst 5, 1) := zd_o8 zy_276
theorem dL_law_277 : decode cL_law 277 = .ok (.iadd, 1) := zd_o96 zy_277
theorem dL_law_278 : decode cL_law 278 = .ok (.iaload, 1) := zd_o46 zy_278
theorem dL_law_279 : decode cL_law 279 = .ok (.invokevirtual 19, 3) := zd_invv zy_279 zy_280 zy_281 rfl
theorem dL_law_282 : decode cL_law 282 = .ok (.pop, 1) := zd_o87 zy_282
theorem dL_law_283 : decode cL_law 283 = .ok (.aload_n 2, 1) := zd_o44 zy_283
theorem dL_law_284 : decode cL_law 284 = .ok (.aload_n 0, 1) := zd_o42 zy_284
theorem dL_law_285 : decode cL_law 285 = .ok (.iload 4, 2) := zd_iload zy_285 zy_286 rfl
theorem dL_law_287 : decode cL_law 287 = .ok (.iconst 1, 1) := zd_o4 zy_287
theorem dL_law_288 : decode cL_law 288 = .ok (.iadd, 1) := zd_o96 zy_288
theorem dL_law_289 : decode cL_law 289 = .ok (.iaload, 1) := zd_o46 zy_289
theorem dL_law_290 : decode cL_law 290 = .ok (.aload_n 0, 1) := zd_o42 zy_290
theorem dL_law_291 : decode cL_law 291 = .ok (.iload 4, 2) := zd_iload zy_291 zy_292 rfl
theorem dL_law_293 : decode cL_law 293 = .ok (.iconst 2, 1) := zd_o5 zy_293
theorem dL_law_294 : decode cL_law 294 = .ok (.iadd, 1) := zd_o96 zy_294
theorem dL_law_295 : decode cL_law 295 = .ok (.iaload, 1) := zd_o46 zy_295
theorem dL_law_296 : decode cL_law 296 = .ok (.aload_n 0, 1) := zd_o42 zy_296
theorem dL_law_297 : decode cL_law 297 = .ok (.iload 4, 2) := zd_iload zy_297 zy_298 rfl
theorem dL_law_299 : decode cL_law 299 = .ok (.iconst 3, 1) := zd_o6 zy_299
theorem dL_law_300 : decode cL_law 300 = .ok (.iadd, 1) := zd_o96 zy_300
theorem dL_law_301 : decode cL_law 301 = .ok (.iaload, 1) := zd_o46 zy_301
theorem dL_law_302 : decode cL_law 302 = .ok (.aload_n 0, 1) := zd_o42 zy_302
theorem dL_law_303 : decode cL_law 303 = .ok (.iload 4, 2) := zd_iload zy_303 zy_304 rfl
theorem dL_law_305 : decode cL_law 305 = .ok (.iconst 4, 1) := zd_o7 zy_305
theorem dL_law_306 : decode cL_law 306 = .ok (.iadd, 1) := zd_o96 zy_306
theorem dL_law_307 : decode cL_law 307 = .ok (.iaload, 1) := zd_o46 zy_307
theorem dL_law_308 : decode cL_law 308 = .ok (.aload_n 0, 1) := zd_o42 zy_308
theorem dL_law_309 : decode cL_law 309 = .ok (.iload 4, 2) := zd_iload zy_309 zy_310 rfl
theorem dL_law_311 : decode cL_law 311 = .ok (.iconst 5, 1) := zd_o8 zy_311
theorem dL_law_312 : decode cL_law 312 = .ok (.iadd, 1) := zd_o96 zy_312
theorem dL_law_313 : decode cL_law 313 = .ok (.iaload, 1) := zd_o46 zy_313
theorem dL_law_314 : decode cL_law 314 = .ok (.invokevirtual 23, 3) := zd_invv zy_314 zy_315 zy_316 rfl
theorem dL_law_317 : decode cL_law 317 = .ok (.pop, 1) := zd_o87 zy_317
theorem dL_law_318 : decode cL_law 318 = .ok (.goto 1479, 3) := by decide +kernel
theorem dL_law_321 : decode cL_law 321 = .ok (.aload_n 1, 1) := zd_o43 zy_321
theorem dL_law_322 : decode cL_law 322 = .ok (.aload_n 0, 1) := zd_o42 zy_322
theorem dL_law_323 : decode cL_law 323 = .ok (.iload 4, 2) := zd_iload zy_323 zy_324 rfl
theorem dL_law_325 : decode cL_law 325 = .ok (.iconst 1, 1) := zd_o4 zy_325
theorem dL_law_326 : decode cL_law 326 = .ok (.iadd, 1) := zd_o96 zy_326
theorem dL_law_327 : decode cL_law 327 = .ok (.iaload, 1) := zd_o46 zy_327
theorem dL_law_328 : decode cL_law 328 = .ok (.invokevirtual 24, 3) := zd_invv zy_328 zy_329 zy_330 rfl
theorem dL_law_331 : decode cL_law 331 = .ok (.pop, 1) := zd_o87 zy_331
theorem dL_law_332 : decode cL_law 332 = .ok (.aload_n 2, 1) := zd_o44 zy_332
theorem dL_law_333 : decode cL_law 333 = .ok (.aload_n 0, 1) := zd_o42 zy_333
theorem dL_law_334 : decode cL_law 334 = .ok (.iload 4, 2) := zd_iload zy_334 zy_335 rfl
theorem dL_law_336 : decode cL_law 336 = .ok (.iconst 1, 1) := zd_o4 zy_336
theorem dL_law_337 : decode cL_law 337 = .ok (.iadd, 1) := zd_o96 zy_337
theorem dL_law_338 : decode cL_law 338 = .ok (.iaload, 1) := zd_o46 zy_338
theorem dL_law_339 : decode cL_law 339 = .ok (.invokevirtual 28, 3) := zd_invv zy_339 zy_340 zy_341 rfl
theorem dL_law_342 : decode cL_law 342 = .ok (.pop, 1) := zd_o87 zy_342
theorem dL_law_343 : decode cL_law 343 = .ok (.goto 1454, 3) := by decide +kernel
theorem dL_law_346 : decode cL_law 346 = .ok (.aload_n 1, 1) := zd_o43 zy_346
theorem dL_law_347 : decode cL_law 347 = .ok (.aload_n 0, 1) := zd_o42 zy_347
theorem dL_law_348 : decode cL_law 348 = .ok (.iload 4, 2) := zd_iload zy_348 zy_349 rfl
theorem dL_law_350 : decode cL_law 350 = .ok (.iconst 1, 1) := zd_o4 zy_350
theorem dL_law_351 : decode cL_law 351 = .ok (.iadd, 1) := zd_o96 zy_351
theorem dL_law_352 : decode cL_law 352 = .ok (.iaload, 1) := zd_o46 zy_352
theorem dL_law_353 : decode cL_law 353 = .ok (.invokevirtual 29, 3) := zd_invv zy_353 zy_354 zy_355 rfl
theorem dL_law_356 : decode cL_law 356 = .ok (.pop, 1) := zd_o87 zy_356
theorem dL_law_357 : decode cL_law 357 = .ok (.aload_n 2, 1) := zd_o44 zy_357
theorem dL_law_358 : decode cL_law 358 = .ok (.aload_n 0, 1) := zd_o42 zy_358
theorem dL_law_359 : decode cL_law 359 = .ok (.iload 4, 2) := zd_iload zy_359 zy_360 rfl
theorem dL_law_361 : decode cL_law 361 = .ok (.iconst 1, 1) := zd_o4 zy_361
theorem dL_law_362 : decode cL_law 362 = .ok (.iadd, 1) := zd_o96 zy_362
theorem dL_law_363 : decode cL_law 363 = .ok (.iaload, 1) := zd_o46 zy_363
theorem dL_law_364 : decode cL_law 364 = .ok (.invokevirtual 33, 3) := zd_invv zy_364 zy_365 zy_366 rfl
theorem dL_law_367 : decode cL_law 367 = .ok (.pop, 1) := zd_o87 zy_367
theorem dL_law_368 : decode cL_law 368 = .ok (.goto 1429, 3) := by decide +kernel
theorem dL_law_371 : decode cL_law 371 = .ok (.aload_n 1, 1) := zd_o43 zy_371
theorem dL_law_372 : decode cL_law 372 = .ok (.aload_n 0, 1) := zd_o42 zy_372
theorem dL_law_373 : decode cL_law 373 = .ok (.iload 4, 2) := zd_iload zy_373 zy_374 rfl
theorem dL_law_375 : decode cL_law 375 = .ok (.iconst 1, 1) := zd_o4 zy_375
theorem dL_law_376 : decode cL_law 376 = .ok (.iadd, 1) := zd_o96 zy_376
theorem dL_law_377 : decode cL_law 377 = .ok (.iaload, 1) := zd_o46 zy_377
theorem dL_law_378 : decode cL_law 378 = .ok (.invokevirtual 34, 3) := zd_invv zy_378 zy_379 zy_380 rfl
theorem dL_law_381 : decode cL_law 381 = .ok (.pop, 1) := zd_o87 zy_381
theorem dL_law_382 : decode cL_law 382 = .ok (.aload_n 2, 1) := zd_o44 zy_382
theorem dL_law_383 : decode cL_law 383 = .ok (.aload_n 0, 1) := zd_o42 zy_383
theorem dL_law_384 : decode cL_law 384 = .ok (.iload 4, 2) := zd_iload zy_384 zy_385 rfl
theorem dL_law_386 : decode cL_law 386 = .ok (.iconst 1, 1) := zd_o4 zy_386
theorem dL_law_387 : decode cL_law 387 = .ok (.iadd, 1) := zd_o96 zy_387
theorem dL_law_388 : decode cL_law 388 = .ok (.iaload, 1) := zd_o46 zy_388
theorem dL_law_389 : decode cL_law 389 = .ok (.invokevirtual 37, 3) := zd_invv zy_389 zy_390 zy_391 rfl
theorem dL_law_392 : decode cL_law 392 = .ok (.pop, 1) := zd_o87 zy_392
theorem dL_law_393 : decode cL_law 393 = .ok (.goto 1404, 3) := by decide +kernel
theorem dL_law_396 : decode cL_law 396 = .ok (.aload_n 1, 1) := zd_o43 zy_396
theorem dL_law_397 : decode cL_law 397 = .ok (.aload_n 0, 1) := zd_o42 zy_397
theorem dL_law_398 : decode cL_law 398 = .ok (.iload 4, 2) := zd_iload zy_398 zy_399 rfl
theorem dL_law_400 : decode cL_law 400 = .ok (.iconst 1, 1) := zd_o4 zy_400
theorem dL_law_401 : decode cL_law 401 = .ok (.iadd, 1) := zd_o96 zy_401
theorem dL_law_402 : decode cL_law 402 = .ok (.iaload, 1) := zd_o46 zy_402
theorem dL_law_403 : decode cL_law 403 = .ok (.invokevirtual 38, 3) := zd_invv zy_403 zy_404 zy_405 rfl
theorem dL_law_406 : decode cL_law 406 = .ok (.pop, 1) := zd_o87 zy_406
theorem dL_law_407 : decode cL_law 407 = .ok (.aload_n 2, 1) := zd_o44 zy_407
theorem dL_law_408 : decode cL_law 408 = .ok (.aload_n 0, 1) := zd_o42 zy_408
theorem dL_law_409 : decode cL_law 409 = .ok (.iload 4, 2) := zd_iload zy_409 zy_410 rfl
theorem dL_law_411 : decode cL_law 411 = .ok (.iconst 1, 1) := zd_o4 zy_411
theorem dL_law_412 : decode cL_law 412 = .ok (.iadd, 1) := zd_o96 zy_412
theorem dL_law_413 : decode cL_law 413 = .ok (.iaload, 1) := zd_o46 zy_413
theorem dL_law_414 : decode cL_law 414 = .ok (.invokevirtual 41, 3) := zd_invv zy_414 zy_415 zy_416 rfl
theorem dL_law_417 : decode cL_law 417 = .ok (.pop, 1) := zd_o87 zy_417
theorem dL_law_418 : decode cL_law 418 = .ok (.goto 1379, 3) := by decide +kernel
theorem dL_law_421 : decode cL_law 421 = .ok (.aload_n 1, 1) := zd_o43 zy_421
theorem dL_law_422 : decode cL_law 422 = .ok (.aload_n 0, 1) := zd_o42 zy_422
theorem dL_law_423 : decode cL_law 423 = .ok (.iload 4, 2) := zd_iload zy_423 zy_424 rfl
theorem dL_law_425 : decode cL_law 425 = .ok (.iconst 1, 1) := zd_o4 zy_425
theorem dL_law_426 : decode cL_law 426 = .ok (.iadd, 1) := zd_o96 zy_426
theorem dL_law_427 : decode cL_law 427 = .ok (.iaload, 1) := zd_o46 zy_427
theorem dL_law_428 : decode cL_law 428 = .ok (.aload_n 0, 1) := zd_o42 zy_428
theorem dL_law_429 : decode cL_law 429 = .ok (.iload 4, 2) := zd_iload zy_429 zy_430 rfl
theorem dL_law_431 : decode cL_law 431 = .ok (.iconst 2, 1) := zd_o5 zy_431
theorem dL_law_432 : decode cL_law 432 = .ok (.iadd, 1) := zd_o96 zy_432
theorem dL_law_433 : decode cL_law 433 = .ok (.iaload, 1) := zd_o46 zy_433
theorem dL_law_434 : decode cL_law 434 = .ok (.aload_n 3, 1) := zd_o45 zy_434
theorem dL_law_435 : decode cL_law 435 = .ok (.invokestatic 42, 3) := by decide +kernel
theorem dL_law_438 : decode cL_law 438 = .ok (.istore 5, 2) := by decide +kernel
theorem dL_law_440 : decode cL_law 440 = .ok (.aload_n 2, 1) := zd_o44 zy_440
theorem dL_law_441 : decode cL_law 441 = .ok (.aload_n 0, 1) := zd_o42 zy_441
theorem dL_law_442 : decode cL_law 442 = .ok (.iload 4, 2) := zd_iload zy_442 zy_443 rfl
theorem dL_law_444 : decode cL_law 444 = .ok (.iconst 1, 1) := zd_o4 zy_444
theorem dL_law_445 : decode cL_law 445 = .ok (.iadd, 1) := zd_o96 zy_445
theorem dL_law_446 : decode cL_law 446 = .ok (.iaload, 1) := zd_o46 zy_446
theorem dL_law_447 : decode cL_law 447 = .ok (.aload_n 0, 1) := zd_o42 zy_447
theorem dL_law_448 : decode cL_law 448 = .ok (.iload 4, 2) := zd_iload zy_448 zy_449 rfl
theorem dL_law_450 : decode cL_law 450 = .ok (.iconst 2, 1) := zd_o5 zy_450
theorem dL_law_451 : decode cL_law 451 = .ok (.iadd, 1) := zd_o96 zy_451
theorem dL_law_452 : decode cL_law 452 = .ok (.iaload, 1) := zd_o46 zy_452
theorem dL_law_453 : decode cL_law 453 = .ok (.invokevirtual 47, 3) := zd_invv zy_453 zy_454 zy_455 rfl
theorem dL_law_456 : decode cL_law 456 = .ok (.istore 6, 2) := by decide +kernel
theorem dL_law_458 : decode cL_law 458 = .ok (.goto 1339, 3) := by decide +kernel
theorem dL_law_461 : decode cL_law 461 = .ok (.aload_n 1, 1) := zd_o43 zy_461
theorem dL_law_462 : decode cL_law 462 = .ok (.aload_n 0, 1) := zd_o42 zy_462
theorem dL_law_463 : decode cL_law 463 = .ok (.iload 4, 2) := zd_iload zy_463 zy_464 rfl
theorem dL_law_465 : decode cL_law 465 = .ok (.iconst 1, 1) := zd_o4 zy_465
theorem dL_law_466 : decode cL_law 466 = .ok (.iadd, 1) := zd_o96 zy_466
theorem dL_law_467 : decode cL_law 467 = .ok (.iaload, 1) := zd_o46 zy_467
theorem dL_law_468 : decode cL_law 468 = .ok (.aload_n 0, 1) := zd_o42 zy_468
theorem dL_law_469 : decode cL_law 469 = .ok (.iload 4, 2) := zd_iload zy_469 zy_470 rfl
theorem dL_law_471 : decode cL_law 471 = .ok (.iconst 2, 1) := zd_o5 zy_471
theorem dL_law_472 : decode cL_law 472 = .ok (.iadd, 1) := zd_o96 zy_472
theorem dL_law_473 : decode cL_law 473 = .ok (.iaload, 1) := zd_o46 zy_473
theorem dL_law_474 : decode cL_law 474 = .ok (.invokevirtual 48, 3) := zd_invv zy_474 zy_475 zy_476 rfl
theorem dL_law_477 : decode cL_law 477 = .ok (.pop, 1) := zd_o87 zy_477
theorem dL_law_478 : decode cL_law 478 = .ok (.aload_n 2, 1) := zd_o44 zy_478
theorem dL_law_479 : decode cL_law 479 = .ok (.aload_n 0, 1) := zd_o42 zy_479
theorem dL_law_480 : decode cL_law 480 = .ok (.iload 4, 2) := zd_iload zy_480 zy_481 rfl
theorem dL_law_482 : decode cL_law 482 = .ok (.iconst 1, 1) := zd_o4 zy_482
theorem dL_law_483 : decode cL_law 483 = .ok (.iadd, 1) := zd_o96 zy_483
theorem dL_law_484 : decode cL_law 484 = .ok (.iaload, 1) := zd_o46 zy_484
theorem dL_law_485 : decode cL_law 485 = .ok (.aload_n 0, 1) := zd_o42 zy_485
theorem dL_law_486 : decode cL_law 486 = .ok (.iload 4, 2) := zd_iload zy_486 zy_487 rfl
theorem dL_law_488 : decode cL_law 488 = .ok (.iconst 2, 1) := zd_o5 zy_488
theorem dL_law_489 : decode cL_law 489 = .ok (.iadd, 1) := zd_o96 zy_489
theorem dL_law_490 : decode cL_law 490 = .ok (.iaload, 1) := zd_o46 zy_490
theorem dL_law_491 : decode cL_law 491 = .ok (.invokevirtual 51, 3) := zd_invv zy_491 zy_492 zy_493 rfl
theorem dL_law_494 : decode cL_law 494 = .ok (.pop, 1) := zd_o87 zy_494
theorem dL_law_495 : decode cL_law 495 = .ok (.goto 1302, 3) := by decide +kernel
theorem dL_law_498 : decode cL_law 498 = .ok (.aload_n 1, 1) := zd_o43 zy_498
theorem dL_law_499 : decode cL_law 499 = .ok (.aload_n 0, 1) := zd_o42 zy_499
theorem dL_law_500 : decode cL_law 500 = .ok (.iload 4, 2) := zd_iload zy_500 zy_501 rfl
theorem dL_law_502 : decode cL_law 502 = .ok (.iconst 1, 1) := zd_o4 zy_502
theorem dL_law_503 : decode cL_law 503 = .ok (.iadd, 1) := zd_o96 zy_503
theorem dL_law_504 : decode cL_law 504 = .ok (.iaload, 1) := zd_o46 zy_504
theorem dL_law_505 : decode cL_law 505 = .ok (.invokevirtual 52, 3) := zd_invv zy_505 zy_506 zy_507 rfl
theorem dL_law_508 : decode cL_law 508 = .ok (.aload_n 2, 1) := zd_o44 zy_508
theorem dL_law_509 : decode cL_law 509 = .ok (.aload_n 0, 1) := zd_o42 zy_509
theorem dL_law_510 : decode cL_law 510 = .ok (.iload 4, 2) := zd_iload zy_510 zy_511 rfl
theorem dL_law_512 : decode cL_law 512 = .ok (.iconst 1, 1) := zd_o4 zy_512
theorem dL_law_513 : decode cL_law 513 = .ok (.iadd, 1) := zd_o96 zy_513
theorem dL_law_514 : decode cL_law 514 = .ok (.iaload, 1) := zd_o46 zy_514
theorem dL_law_515 : decode cL_law 515 = .ok (.invokevirtual 55, 3) := zd_invv zy_515 zy_516 zy_517 rfl
theorem dL_law_518 : decode cL_law 518 = .ok (.if_icmp .eq 1279, 3) := by decide +kernel
theorem dL_law_523 : decode cL_law 523 = .ok (.aload_n 1, 1) := zd_o43 zy_523
theorem dL_law_524 : decode cL_law 524 = .ok (.aload_n 0, 1) := zd_o42 zy_524
theorem dL_law_525 : decode cL_law 525 = .ok (.iload 4, 2) := zd_iload zy_525 zy_526 rfl
theorem dL_law_527 : decode cL_law 527 = .ok (.iconst 1, 1) := zd_o4 zy_527
theorem dL_law_528 : decode cL_law 528 = .ok (.iadd, 1) := zd_o96 zy_528
theorem dL_law_529 : decode cL_law 529 = .ok (.iaload, 1) := zd_o46 zy_529
theorem dL_law_530 : decode cL_law 530 = .ok (.aload_n 0, 1) := zd_o42 zy_530
theorem dL_law_531 : decode cL_law 531 = .ok (.iload 4, 2) := zd_iload zy_531 zy_532 rfl
theorem dL_law_533 : decode cL_law 533 = .ok (.iconst 2, 1) := zd_o5 zy_533
theorem dL_law_534 : decode cL_law 534 = .ok (.iadd, 1) := zd_o96 zy_534
theorem dL_law_535 : decode cL_law 535 = .ok (.iaload, 1) := zd_o46 zy_535
theorem dL_law_536 : decode cL_law 536 = .ok (.invokevirtual 56, 3) := zd_invv zy_536 zy_537 zy_538 rfl
theorem dL_law_539 : decode cL_law 539 = .ok (.pop, 1) := zd_o87 zy_539
theorem dL_law_540 : decode cL_law 540 = .ok (.aload_n 2, 1) := zd_o44 zy_540
theorem dL_law_541 : decode cL_law 541 = .ok (.aload_n 0, 1) := zd_o42 zy_541
theorem dL_law_542 : decode cL_law 542 = .ok (.iload 4, 2) := zd_iload zy_542 zy_543 rfl
theorem dL_law_544 : decode cL_law 544 = .ok (.iconst 1, 1) := zd_o4 zy_544
theorem dL_law_545 : decode cL_law 545 = .ok (.iadd, 1) := zd_o96 zy_545
theorem dL_law_546 : decode cL_law 546 = .ok (.iaload, 1) := zd_o46 zy_546
theorem dL_law_547 : decode cL_law 547 = .ok (.aload_n 0, 1) := zd_o42 zy_547
theorem dL_law_548 : decode cL_law 548 = .ok (.iload 4, 2) := zd_iload zy_548 zy_549 rfl
theorem dL_law_550 : decode cL_law 550 = .ok (.iconst 2, 1) := zd_o5 zy_550
theorem dL_law_551 : decode cL_law 551 = .ok (.iadd, 1) := zd_o96 zy_551
theorem dL_law_552 : decode cL_law 552 = .ok (.iaload, 1) := zd_o46 zy_552
theorem dL_law_553 : decode cL_law 553 = .ok (.invokevirtual 59, 3) := zd_invv zy_553 zy_554 zy_555 rfl
theorem dL_law_556 : decode cL_law 556 = .ok (.pop, 1) := zd_o87 zy_556
theorem dL_law_557 : decode cL_law 557 = .ok (.goto 1240, 3) := by decide +kernel
theorem dL_law_560 : decode cL_law 560 = .ok (.aload_n 1, 1) := zd_o43 zy_560
theorem dL_law_561 : decode cL_law 561 = .ok (.aload_n 0, 1) := zd_o42 zy_561
theorem dL_law_562 : decode cL_law 562 = .ok (.iload 4, 2) := zd_iload zy_562 zy_563 rfl
theorem dL_law_564 : decode cL_law 564 = .ok (.iconst 1, 1) := zd_o4 zy_564
theorem dL_law_565 : decode cL_law 565 = .ok (.iadd, 1) := zd_o96 zy_565
theorem dL_law_566 : decode cL_law 566 = .ok (.iaload, 1) := zd_o46 zy_566
theorem dL_law_567 : decode cL_law 567 = .ok (.aload_n 0, 1) := zd_o42 zy_567
theorem dL_law_568 : decode cL_law 568 = .ok (.iload 4, 2) := zd_iload zy_568 zy_569 rfl
theorem dL_law_570 : decode cL_law 570 = .ok (.iconst 2, 1) := zd_o5 zy_570
theorem dL_law_571 : decode cL_law 571 = .ok (.iadd, 1) := zd_o96 zy_571
theorem dL_law_572 : decode cL_law 572 = .ok (.iaload, 1) := zd_o46 zy_572
theorem dL_law_573 : decode cL_law 573 = .ok (.aload_n 0, 1) := zd_o42 zy_573
theorem dL_law_574 : decode cL_law 574 = .ok (.iload 4, 2) := zd_iload zy_574 zy_575 rfl
theorem dL_law_576 : decode cL_law 576 = .ok (.iconst 3, 1) := zd_o6 zy_576
theorem dL_law_577 : decode cL_law 577 = .ok (.iadd, 1) := zd_o96 zy_577
theorem dL_law_578 : decode cL_law 578 = .ok (.iaload, 1) := zd_o46 zy_578
theorem dL_law_579 : decode cL_law 579 = .ok (.invokevirtual 60, 3) := zd_invv zy_579 zy_580 zy_581 rfl
theorem dL_law_582 : decode cL_law 582 = .ok (.pop, 1) := zd_o87 zy_582
theorem dL_law_583 : decode cL_law 583 = .ok (.aload_n 2, 1) := zd_o44 zy_583
theorem dL_law_584 : decode cL_law 584 = .ok (.aload_n 0, 1) := zd_o42 zy_584
theorem dL_law_585 : decode cL_law 585 = .ok (.iload 4, 2) := zd_iload zy_585 zy_586 rfl
theorem dL_law_587 : decode cL_law 587 = .ok (.iconst 1, 1) := zd_o4 zy_587
theorem dL_law_588 : decode cL_law 588 = .ok (.iadd, 1) := zd_o96 zy_588
theorem dL_law_589 : decode cL_law 589 = .ok (.iaload, 1) := zd_o46 zy_589
theorem dL_law_590 : decode cL_law 590 = .ok (.aload_n 0, 1) := zd_o42 zy_590
theorem dL_law_591 : decode cL_law 591 = .ok (.iload 4, 2) := zd_iload zy_591 zy_592 rfl
theorem dL_law_593 : decode cL_law 593 = .ok (.iconst 2, 1) := zd_o5 zy_593
theorem dL_law_594 : decode cL_law 594 = .ok (.iadd, 1) := zd_o96 zy_594
theorem dL_law_595 : decode cL_law 595 = .ok (.iaload, 1) := zd_o46 zy_595
theorem dL_law_596 : decode cL_law 596 = .ok (.aload_n 0, 1) := zd_o42 zy_596
theorem dL_law_597 : decode cL_law 597 = .ok (.iload 4, 2) := zd_iload zy_597 zy_598 rfl
theorem dL_law_599 : decode cL_law 599 = .ok (.iconst 3, 1) := zd_o6 zy_599
theorem dL_law_600 : decode cL_law 600 = .ok (.iadd, 1) := zd_o96 zy_600
theorem dL_law_601 : decode cL_law 601 = .ok (.iaload, 1) := zd_o46 zy_601
theorem dL_law_602 : decode cL_law 602 = .ok (.invokevirtual 64, 3) := zd_invv zy_602 zy_603 zy_604 rfl
theorem dL_law_605 : decode cL_law 605 = .ok (.pop, 1) := zd_o87 zy_605
theorem dL_law_606 : decode cL_law 606 = .ok (.goto 1191, 3) := by decide +kernel
theorem dL_law_609 : decode cL_law 609 = .ok (.aload_n 1, 1) := zd_o43 zy_609
theorem dL_law_610 : decode cL_law 610 = .ok (.aload_n 0, 1) := zd_o42 zy_610
theorem dL_law_611 : decode cL_law 611 = .ok (.iload 4, 2) := zd_iload zy_611 zy_612 rfl
theorem dL_law_613 : decode cL_law 613 = .ok (.iconst 1, 1) := zd_o4 zy_613
theorem dL_law_614 : decode cL_law 614 = .ok (.iadd, 1) := zd_o96 zy_614
theorem dL_law_615 : decode cL_law 615 = .ok (.iaload, 1) := zd_o46 zy_615
theorem dL_law_616 : decode cL_law 616 = .ok (.aload_n 0, 1) := zd_o42 zy_616
theorem dL_law_617 : decode cL_law 617 = .ok (.iload 4, 2) := zd_iload zy_617 zy_618 rfl
theorem dL_law_619 : decode cL_law 619 = .ok (.iconst 2, 1) := zd_o5 zy_619
theorem dL_law_620 : decode cL_law 620 = .ok (.iadd, 1) := zd_o96 zy_620
theorem dL_law_621 : decode cL_law 621 = .ok (.iaload, 1) := zd_o46 zy_621
theorem dL_law_622 : decode cL_law 622 = .ok (.invokevirtual 65, 3) := zd_invv zy_622 zy_623 zy_624 rfl
theorem dL_law_625 : decode cL_law 625 = .ok (.pop, 1) := zd_o87 zy_625
theorem dL_law_626 : decode cL_law 626 = .ok (.aload_n 2, 1) := zd_o44 zy_626
theorem dL_law_627 : decode cL_law 627 = .ok (.aload_n 0, 1) := zd_o42 zy_627
theorem dL_law_628 : decode cL_law 628 = .ok (.iload 4, 2) := zd_iload zy_628 zy_629 rfl
theorem dL_law_630 : decode cL_law 630 = .ok (.iconst 1, 1) := zd_o4 zy_630
theorem dL_law_631 : decode cL_law 631 = .ok (.iadd, 1) := zd_o96 zy_631
theorem dL_law_632 : decode cL_law 632 = .ok (.iaload, 1) := zd_o46 zy_632
theorem dL_law_633 : decode cL_law 633 = .ok (.aload_n 0, 1) := zd_o42 zy_633
theorem dL_law_634 : decode cL_law 634 = .ok (.iload 4, 2) := zd_iload zy_634 zy_635 rfl
theorem dL_law_636 : decode cL_law 636 = .ok (.iconst 2, 1) := zd_o5 zy_636
theorem dL_law_637 : decode cL_law 637 = .ok (.iadd, 1) := zd_o96 zy_637
theorem dL_law_638 : decode cL_law 638 = .ok (.iaload, 1) := zd_o46 zy_638
theorem dL_law_639 : decode cL_law 639 = .ok (.invokevirtual 68, 3) := zd_invv zy_639 zy_640 zy_641 rfl
theorem dL_law_642 : decode cL_law 642 = .ok (.pop, 1) := zd_o87 zy_642
theorem dL_law_643 : decode cL_law 643 = .ok (.goto 1154, 3) := by decide +kernel
theorem dL_law_646 : decode cL_law 646 = .ok (.aload_n 1, 1) := zd_o43 zy_646
theorem dL_law_647 : decode cL_law 647 = .ok (.aload_n 0, 1) := zd_o42 zy_647
theorem dL_law_648 : decode cL_law 648 = .ok (.iload 4, 2) := zd_iload zy_648 zy_649 rfl
theorem dL_law_650 : decode cL_law 650 = .ok (.iconst 1, 1) := zd_o4 zy_650
theorem dL_law_651 : decode cL_law 651 = .ok (.iadd, 1) := zd_o96 zy_651
theorem dL_law_652 : decode cL_law 652 = .ok (.iaload, 1) := zd_o46 zy_652
theorem dL_law_653 : decode cL_law 653 = .ok (.aload_n 0, 1) := zd_o42 zy_653
theorem dL_law_654 : decode cL_law 654 = .ok (.iload 4, 2) := zd_iload zy_654 zy_655 rfl
theorem dL_law_656 : decode cL_law 656 = .ok (.iconst 2, 1) := zd_o5 zy_656
theorem dL_law_657 : decode cL_law 657 = .ok (.iadd, 1) := zd_o96 zy_657
theorem dL_law_658 : decode cL_law 658 = .ok (.iaload, 1) := zd_o46 zy_658
theorem dL_law_659 : decode cL_law 659 = .ok (.invokevirtual 69, 3) := zd_invv zy_659 zy_660 zy_661 rfl
theorem dL_law_662 : decode cL_law 662 = .ok (.pop, 1) := zd_o87 zy_662
theorem dL_law_663 : decode cL_law 663 = .ok (.aload_n 2, 1) := zd_o44 zy_663
theorem dL_law_664 : decode cL_law 664 = .ok (.aload_n 0, 1) := zd_o42 zy_664
theorem dL_law_665 : decode cL_law 665 = .ok (.iload 4, 2) := zd_iload zy_665 zy_666 rfl
theorem dL_law_667 : decode cL_law 667 = .ok (.iconst 1, 1) := zd_o4 zy_667
theorem dL_law_668 : decode cL_law 668 = .ok (.iadd, 1) := zd_o96 zy_668
theorem dL_law_669 : decode cL_law 669 = .ok (.iaload, 1) := zd_o46 zy_669
theorem dL_law_670 : decode cL_law 670 = .ok (.aload_n 0, 1) := zd_o42 zy_670
theorem dL_law_671 : decode cL_law 671 = .ok (.iload 4, 2) := zd_iload zy_671 zy_672 rfl
theorem dL_law_673 : decode cL_law 673 = .ok (.iconst 2, 1) := zd_o5 zy_673
theorem dL_law_674 : decode cL_law 674 = .ok (.iadd, 1) := zd_o96 zy_674
theorem dL_law_675 : decode cL_law 675 = .ok (.iaload, 1) := zd_o46 zy_675
theorem dL_law_676 : decode cL_law 676 = .ok (.invokevirtual 72, 3) := zd_invv zy_676 zy_677 zy_678 rfl
theorem dL_law_679 : decode cL_law 679 = .ok (.pop, 1) := zd_o87 zy_679
theorem dL_law_680 : decode cL_law 680 = .ok (.goto 1117, 3) := by decide +kernel
theorem dL_law_683 : decode cL_law 683 = .ok (.aload_n 1, 1) := zd_o43 zy_683
theorem dL_law_684 : decode cL_law 684 = .ok (.aload_n 0, 1) := zd_o42 zy_684
theorem dL_law_685 : decode cL_law 685 = .ok (.iload 4, 2) := zd_iload zy_685 zy_686 rfl
theorem dL_law_687 : decode cL_law 687 = .ok (.iconst 1, 1) := zd_o4 zy_687
theorem dL_law_688 : decode cL_law 688 = .ok (.iadd, 1) := zd_o96 zy_688
theorem dL_law_689 : decode cL_law 689 = .ok (.iaload, 1) := zd_o46 zy_689
theorem dL_law_690 : decode cL_law 690 = .ok (.invokevirtual 73, 3) := zd_invv zy_690 zy_691 zy_692 rfl
theorem dL_law_693 : decode cL_law 693 = .ok (.pop, 1) := zd_o87 zy_693
theorem dL_law_694 : decode cL_law 694 = .ok (.aload_n 2, 1) := zd_o44 zy_694
theorem dL_law_695 : decode cL_law 695 = .ok (.aload_n 0, 1) := zd_o42 zy_695
theorem dL_law_696 : decode cL_law 696 = .ok (.iload 4, 2) := zd_iload zy_696 zy_697 rfl
theorem dL_law_698 : decode cL_law 698 = .ok (.iconst 1, 1) := zd_o4 zy_698
theorem dL_law_699 : decode cL_law 699 = .ok (.iadd, 1) := zd_o96 zy_699
theorem dL_law_700 : decode cL_law 700 = .ok (.iaload, 1) := zd_o46 zy_700
theorem dL_law_701 : decode cL_law 701 = .ok (.invokevirtual 76, 3) := zd_invv zy_701 zy_702 zy_703 rfl
theorem dL_law_704 : decode cL_law 704 = .ok (.pop, 1) := zd_o87 zy_704
theorem dL_law_705 : decode cL_law 705 = .ok (.goto 1092, 3) := by decide +kernel
theorem dL_law_708 : decode cL_law 708 = .ok (.aload_n 1, 1) := zd_o43 zy_708
theorem dL_law_709 : decode cL_law 709 = .ok (.aload_n 0, 1) := zd_o42 zy_709
theorem dL_law_710 : decode cL_law 710 = .ok (.iload 4, 2) := zd_iload zy_710 zy_711 rfl
theorem dL_law_712 : decode cL_law 712 = .ok (.iconst 1, 1) := zd_o4 zy_712
theorem dL_law_713 : decode cL_law 713 = .ok (.iadd, 1) := zd_o96 zy_713
theorem dL_law_714 : decode cL_law 714 = .ok (.iaload, 1) := zd_o46 zy_714
theorem dL_law_715 : decode cL_law 715 = .ok (.invokevirtual 77, 3) := zd_invv zy_715 zy_716 zy_717 rfl
theorem dL_law_718 : decode cL_law 718 = .ok (.pop, 1) := zd_o87 zy_718
theorem dL_law_719 : decode cL_law 719 = .ok (.aload_n 2, 1) := zd_o44 zy_719
theorem dL_law_720 : decode cL_law 720 = .ok (.aload_n 0, 1) := zd_o42 zy_720
theorem dL_law_721 : decode cL_law 721 = .ok (.iload 4, 2) := zd_iload zy_721 zy_722 rfl
theorem dL_law_723 : decode cL_law 723 = .ok (.iconst 1, 1) := zd_o4 zy_723
theorem dL_law_724 : decode cL_law 724 = .ok (.iadd, 1) := zd_o96 zy_724
theorem dL_law_725 : decode cL_law 725 = .ok (.iaload, 1) := zd_o46 zy_725
theorem dL_law_726 : decode cL_law 726 = .ok (.invokevirtual 80, 3) := zd_invv zy_726 zy_727 zy_728 rfl
theorem dL_law_729 : decode cL_law 729 = .ok (.pop, 1) := zd_o87 zy_729
theorem dL_law_730 : decode cL_law 730 = .ok (.goto 1067, 3) := by decide +kernel
theorem dL_law_733 : decode cL_law 733 = .ok (.aload_n 1, 1) := zd_o43 zy_733
theorem dL_law_734 : decode cL_law 734 = .ok (.aload_n 0, 1) := zd_o42 zy_734
theorem dL_law_735 : decode cL_law 735 = .ok (.iload 4, 2) := zd_iload zy_735 zy_736 rfl
theorem dL_law_737 : decode cL_law 737 = .ok (.iconst 1, 1) := zd_o4 zy_737
theorem dL_law_738 : decode cL_law 738 = .ok (.iadd, 1) := zd_o96 zy_738
theorem dL_law_739 : decode cL_law 739 = .ok (.iaload, 1) := zd_o46 zy_739
theorem dL_law_740 : decode cL_law 740 = .ok (.invokevirtual 81, 3) := zd_invv zy_740 zy_741 zy_742 rfl
theorem dL_law_743 : decode cL_law 743 = .ok (.pop, 1) := zd_o87 zy_743
theorem dL_law_744 : decode cL_law 744 = .ok (.aload_n 2, 1) := zd_o44 zy_744
theorem dL_law_745 : decode cL_law 745 = .ok (.aload_n 0, 1) := zd_o42 zy_745
theorem dL_law_746 : decode cL_law 746 = .ok (.iload 4, 2) := zd_iload zy_746 zy_747 rfl
theorem dL_law_748 : decode cL_law 748 = .ok (.iconst 1, 1) := zd_o4 zy_748
theorem dL_law_749 : decode cL_law 749 = .ok (.iadd, 1) := zd_o96 zy_749
theorem dL_law_750 : decode cL_law 750 = .ok (.iaload, 1) := zd_o46 zy_750
theorem dL_law_751 : decode cL_law 751 = .ok (.invokevirtual 84, 3) := zd_invv zy_751 zy_752 zy_753 rfl
theorem dL_law_754 : decode cL_law 754 = .ok (.pop, 1) := zd_o87 zy_754
theorem dL_law_755 : decode cL_law 755 = .ok (.goto 1042, 3) := by decide +kernel
theorem dL_law_758 : decode cL_law 758 = .ok (.aload_n 1, 1) := zd_o43 zy_758
theorem dL_law_759 : decode cL_law 759 = .ok (.aload_n 0, 1) := zd_o42 zy_759
theorem dL_law_760 : decode cL_law 760 = .ok (.iload 4, 2) := zd_iload zy_760 zy_761 rfl
theorem dL_law_762 : decode cL_law 762 = .ok (.iconst 1, 1) := zd_o4 zy_762
theorem dL_law_763 : decode cL_law 763 = .ok (.iadd, 1) := zd_o96 zy_763
theorem dL_law_764 : decode cL_law 764 = .ok (.iaload, 1) := zd_o46 zy_764
theorem dL_law_765 : decode cL_law 765 = .ok (.invokevirtual 85, 3) := zd_invv zy_765 zy_766 zy_767 rfl
theorem dL_law_768 : decode cL_law 768 = .ok (.pop, 1) := zd_o87 zy_768
theorem dL_law_769 : decode cL_law 769 = .ok (.aload_n 2, 1) := zd_o44 zy_769
theorem dL_law_770 : decode cL_law 770 = .ok (.aload_n 0, 1) := zd_o42 zy_770
theorem dL_law_771 : decode cL_law 771 = .ok (.iload 4, 2) := zd_iload zy_771 zy_772 rfl
theorem dL_law_773 : decode cL_law 773 = .ok (.iconst 1, 1) := zd_o4 zy_773
theorem dL_law_774 : decode cL_law 774 = .ok (.iadd, 1) := zd_o96 zy_774
theorem dL_law_775 : decode cL_law 775 = .ok (.iaload, 1) := zd_o46 zy_775
theorem dL_law_776 : decode cL_law 776 = .ok (.invokevirtual 88, 3) := zd_invv zy_776 zy_777 zy_778 rfl
theorem dL_law_779 : decode cL_law 779 = .ok (.pop, 1) := zd_o87 zy_779
theorem dL_law_780 : decode cL_law 780 = .ok (.goto 1017, 3) := by decide +kernel
theorem dL_law_783 : decode cL_law 783 = .ok (.aload_n 1, 1) := zd_o43 zy_783
theorem dL_law_784 : decode cL_law 784 = .ok (.invokevirtual 89, 3) := zd_invv zy_784 zy_785 zy_786 rfl
theorem dL_law_787 : decode cL_law 787 = .ok (.pop, 1) := zd_o87 zy_787
theorem dL_law_788 : decode cL_law 788 = .ok (.aload_n 2, 1) := zd_o44 zy_788
theorem dL_law_789 : decode cL_law 789 = .ok (.invokevirtual 93, 3) := zd_invv zy_789 zy_790 zy_791 rfl
theorem dL_law_792 : decode cL_law 792 = .ok (.pop, 1) := zd_o87 zy_792
theorem dL_law_793 : decode cL_law 793 = .ok (.goto 1004, 3) := by decide +kernel
theorem dL_law_796 : decode cL_law 796 = .ok (.aload_n 1, 1) := zd_o43 zy_796
theorem dL_law_797 : decode cL_law 797 = .ok (.aload_n 0, 1) := zd_o42 zy_797
theorem dL_law_798 : decode cL_law 798 = .ok (.iload 4, 2) := zd_iload zy_798 zy_799 rfl
theorem dL_law_800 : decode cL_law 800 = .ok (.iconst 1, 1) := zd_o4 zy_800
theorem dL_law_801 : decode cL_law 801 = .ok (.iadd, 1) := zd_o96 zy_801
theorem dL_law_802 : decode cL_law 802 = .ok (.iaload, 1) := zd_o46 zy_802
theorem dL_law_803 : decode cL_law 803 = .ok (.invokevirtual 94, 3) := zd_invv zy_803 zy_804 zy_805 rfl
theorem dL_law_806 : decode cL_law 806 = .ok (.pop, 1) := zd_o87 zy_806
theorem dL_law_807 : decode cL_law 807 = .ok (.aload_n 2, 1) := zd_o44 zy_807
theorem dL_law_808 : decode cL_law 808 = .ok (.aload_n 0, 1) := zd_o42 zy_808
theorem dL_law_809 : decode cL_law 809 = .ok (.iload 4, 2) := zd_iload zy_809 zy_810 rfl
theorem dL_law_811 : decode cL_law 811 = .ok (.iconst 1, 1) := zd_o4 zy_811
theorem dL_law_812 : decode cL_law 812 = .ok (.iadd, 1) := zd_o96 zy_812
theorem dL_law_813 : decode cL_law 813 = .ok (.iaload, 1) := zd_o46 zy_813
theorem dL_law_814 : decode cL_law 814 = .ok (.invokevirtual 97, 3) := zd_invv zy_814 zy_815 zy_816 rfl
theorem dL_law_817 : decode cL_law 817 = .ok (.pop, 1) := zd_o87 zy_817
theorem dL_law_818 : decode cL_law 818 = .ok (.goto 979, 3) := by decide +kernel
theorem dL_law_821 : decode cL_law 821 = .ok (.aload_n 1, 1) := zd_o43 zy_821
theorem dL_law_822 : decode cL_law 822 = .ok (.aload_n 0, 1) := zd_o42 zy_822
theorem dL_law_823 : decode cL_law 823 = .ok (.iload 4, 2) := zd_iload zy_823 zy_824 rfl
theorem dL_law_825 : decode cL_law 825 = .ok (.iconst 1, 1) := zd_o4 zy_825
theorem dL_law_826 : decode cL_law 826 = .ok (.iadd, 1) := zd_o96 zy_826
theorem dL_law_827 : decode cL_law 827 = .ok (.iaload, 1) := zd_o46 zy_827
theorem dL_law_828 : decode cL_law 828 = .ok (.invokevirtual 98, 3) := zd_invv zy_828 zy_829 zy_830 rfl
theorem dL_law_831 : decode cL_law 831 = .ok (.pop, 1) := zd_o87 zy_831
theorem dL_law_832 : decode cL_law 832 = .ok (.aload_n 2, 1) := zd_o44 zy_832
theorem dL_law_833 : decode cL_law 833 = .ok (.aload_n 0, 1) := zd_o42 zy_833
theorem dL_law_834 : decode cL_law 834 = .ok (.iload 4, 2) := zd_iload zy_834 zy_835 rfl
theorem dL_law_836 : decode cL_law 836 = .ok (.iconst 1, 1) := zd_o4 zy_836
theorem dL_law_837 : decode cL_law 837 = .ok (.iadd, 1) := zd_o96 zy_837
theorem dL_law_838 : decode cL_law 838 = .ok (.iaload, 1) := zd_o46 zy_838
theorem dL_law_839 : decode cL_law 839 = .ok (.invokevirtual 101, 3) := zd_invv zy_839 zy_840 zy_841 rfl
theorem dL_law_842 : decode cL_law 842 = .ok (.pop, 1) := zd_o87 zy_842
theorem dL_law_843 : decode cL_law 843 = .ok (.goto 954, 3) := by decide +kernel
theorem dL_law_846 : decode cL_law 846 = .ok (.aload_n 1, 1) := zd_o43 zy_846
theorem dL_law_847 : decode cL_law 847 = .ok (.aload_n 0, 1) := zd_o42 zy_847
theorem dL_law_848 : decode cL_law 848 = .ok (.iload 4, 2) := zd_iload zy_848 zy_849 rfl
theorem dL_law_850 : decode cL_law 850 = .ok (.iconst 1, 1) := zd_o4 zy_850
theorem dL_law_851 : decode cL_law 851 = .ok (.iadd, 1) := zd_o96 zy_851
theorem dL_law_852 : decode cL_law 852 = .ok (.iaload, 1) := zd_o46 zy_852
theorem dL_law_853 : decode cL_law 853 = .ok (.aload_n 0, 1) := zd_o42 zy_853
theorem dL_law_854 : decode cL_law 854 = .ok (.iload 4, 2) := zd_iload zy_854 zy_855 rfl
theorem dL_law_856 : decode cL_law 856 = .ok (.iconst 2, 1) := zd_o5 zy_856
theorem dL_law_857 : decode cL_law 857 = .ok (.iadd, 1) := zd_o96 zy_857
theorem dL_law_858 : decode cL_law 858 = .ok (.iaload, 1) := zd_o46 zy_858
set_option maxRecDepth 100000 in
theorem dL_law_859_z : ((decode cL_law 859 = .ok (.i2l, 1) ∧ decode cL_law 860 = .ok (.bipush 32, 2)) ∧ decode cL_law 862 = .ok (.lshl, 1)) := by decide +kernel
theorem dL_law_859 : decode cL_law 859 = .ok (.i2l, 1) := dL_law_859_z.1.1
theorem dL_law_860 : decode cL_law 860 = .ok (.bipush 32, 2) := dL_law_859_z.1.2
theorem dL_law_862 : decode cL_law 862 = .ok (.lshl, 1) := dL_law_859_z.2
theorem dL_law_863 : decode cL_law 863 = .ok (.aload_n 0, 1) := zd_o42 zy_863
theorem dL_law_864 : decode cL_law 864 = .ok (.iload 4, 2) := zd_iload zy_864 zy_865 rfl
theorem dL_law_866 : decode cL_law 866 = .ok (.iconst 3, 1) := zd_o6 zy_866
theorem dL_law_867 : decode cL_law 867 = .ok (.iadd, 1) := zd_o96 zy_867
theorem dL_law_868 : decode cL_law 868 = .ok (.iaload, 1) := zd_o46 zy_868
set_option maxRecDepth 100000 in
theorem dL_law_869_z : ((decode cL_law 869 = .ok (.i2l, 1) ∧ decode cL_law 870 = .ok (.ldc2_w 102, 3)) ∧ (decode cL_law 873 = .ok (.land, 1) ∧ decode cL_law 874 = .ok (.lor, 1))) := by decide +kernel
theorem dL_law_869 : decode cL_law 869 = .ok (.i2l, 1) := dL_law_869_z.1.1
theorem dL_law_870 : decode cL_law 870 = .ok (.ldc2_w 102, 3) := dL_law_869_z.1.2
theorem dL_law_873 : decode cL_law 873 = .ok (.land, 1) := dL_law_869_z.2.1
theorem dL_law_874 : decode cL_law 874 = .ok (.lor, 1) := dL_law_869_z.2.2
theorem dL_law_875 : decode cL_law 875 = .ok (.invokevirtual 104, 3) := zd_invv zy_875 zy_876 zy_877 rfl
theorem dL_law_878 : decode cL_law 878 = .ok (.pop, 1) := zd_o87 zy_878
theorem dL_law_879 : decode cL_law 879 = .ok (.aload_n 2, 1) := zd_o44 zy_879
theorem dL_law_880 : decode cL_law 880 = .ok (.aload_n 0, 1) := zd_o42 zy_880
theorem dL_law_881 : decode cL_law 881 = .ok (.iload 4, 2) := zd_iload zy_881 zy_882 rfl
theorem dL_law_883 : decode cL_law 883 = .ok (.iconst 1, 1) := zd_o4 zy_883
theorem dL_law_884 : decode cL_law 884 = .ok (.iadd, 1) := zd_o96 zy_884
theorem dL_law_885 : decode cL_law 885 = .ok (.iaload, 1) := zd_o46 zy_885
theorem dL_law_886 : decode cL_law 886 = .ok (.aload_n 0, 1) := zd_o42 zy_886
theorem dL_law_887 : decode cL_law 887 = .ok (.iload 4, 2) := zd_iload zy_887 zy_888 rfl
theorem dL_law_889 : decode cL_law 889 = .ok (.iconst 2, 1) := zd_o5 zy_889
theorem dL_law_890 : decode cL_law 890 = .ok (.iadd, 1) := zd_o96 zy_890
theorem dL_law_891 : decode cL_law 891 = .ok (.iaload, 1) := zd_o46 zy_891
set_option maxRecDepth 100000 in
theorem dL_law_892_z : ((decode cL_law 892 = .ok (.i2l, 1) ∧ decode cL_law 893 = .ok (.bipush 32, 2)) ∧ decode cL_law 895 = .ok (.lshl, 1)) := by decide +kernel
theorem dL_law_892 : decode cL_law 892 = .ok (.i2l, 1) := dL_law_892_z.1.1
theorem dL_law_893 : decode cL_law 893 = .ok (.bipush 32, 2) := dL_law_892_z.1.2
theorem dL_law_895 : decode cL_law 895 = .ok (.lshl, 1) := dL_law_892_z.2
theorem dL_law_896 : decode cL_law 896 = .ok (.aload_n 0, 1) := zd_o42 zy_896
theorem dL_law_897 : decode cL_law 897 = .ok (.iload 4, 2) := zd_iload zy_897 zy_898 rfl
theorem dL_law_899 : decode cL_law 899 = .ok (.iconst 3, 1) := zd_o6 zy_899
theorem dL_law_900 : decode cL_law 900 = .ok (.iadd, 1) := zd_o96 zy_900
theorem dL_law_901 : decode cL_law 901 = .ok (.iaload, 1) := zd_o46 zy_901
set_option maxRecDepth 100000 in
theorem dL_law_902_z : ((decode cL_law 902 = .ok (.i2l, 1) ∧ decode cL_law 903 = .ok (.ldc2_w 102, 3)) ∧ (decode cL_law 906 = .ok (.land, 1) ∧ decode cL_law 907 = .ok (.lor, 1))) := by decide +kernel
theorem dL_law_902 : decode cL_law 902 = .ok (.i2l, 1) := dL_law_902_z.1.1
theorem dL_law_903 : decode cL_law 903 = .ok (.ldc2_w 102, 3) := dL_law_902_z.1.2
theorem dL_law_906 : decode cL_law 906 = .ok (.land, 1) := dL_law_902_z.2.1
theorem dL_law_907 : decode cL_law 907 = .ok (.lor, 1) := dL_law_902_z.2.2
theorem dL_law_908 : decode cL_law 908 = .ok (.invokevirtual 108, 3) := zd_invv zy_908 zy_909 zy_910 rfl
theorem dL_law_911 : decode cL_law 911 = .ok (.pop, 1) := zd_o87 zy_911
theorem dL_law_912 : decode cL_law 912 = .ok (.goto 885, 3) := by decide +kernel
theorem dL_law_915 : decode cL_law 915 = .ok (.aload_n 1, 1) := zd_o43 zy_915
theorem dL_law_916 : decode cL_law 916 = .ok (.aload_n 0, 1) := zd_o42 zy_916
theorem dL_law_917 : decode cL_law 917 = .ok (.iload 4, 2) := zd_iload zy_917 zy_918 rfl
theorem dL_law_919 : decode cL_law 919 = .ok (.iconst 1, 1) := zd_o4 zy_919
theorem dL_law_920 : decode cL_law 920 = .ok (.iadd, 1) := zd_o96 zy_920
theorem dL_law_921 : decode cL_law 921 = .ok (.iaload, 1) := zd_o46 zy_921
theorem dL_law_922 : decode cL_law 922 = .ok (.invokevirtual 109, 3) := zd_invv zy_922 zy_923 zy_924 rfl
theorem dL_law_925 : decode cL_law 925 = .ok (.pop, 1) := zd_o87 zy_925
theorem dL_law_926 : decode cL_law 926 = .ok (.aload_n 2, 1) := zd_o44 zy_926
theorem dL_law_927 : decode cL_law 927 = .ok (.aload_n 0, 1) := zd_o42 zy_927
theorem dL_law_928 : decode cL_law 928 = .ok (.iload 4, 2) := zd_iload zy_928 zy_929 rfl
theorem dL_law_930 : decode cL_law 930 = .ok (.iconst 1, 1) := zd_o4 zy_930
theorem dL_law_931 : decode cL_law 931 = .ok (.iadd, 1) := zd_o96 zy_931
theorem dL_law_932 : decode cL_law 932 = .ok (.iaload, 1) := zd_o46 zy_932
theorem dL_law_933 : decode cL_law 933 = .ok (.invokevirtual 112, 3) := zd_invv zy_933 zy_934 zy_935 rfl
theorem dL_law_936 : decode cL_law 936 = .ok (.pop, 1) := zd_o87 zy_936
theorem dL_law_937 : decode cL_law 937 = .ok (.goto 860, 3) := by decide +kernel
theorem dL_law_940 : decode cL_law 940 = .ok (.aload_n 1, 1) := zd_o43 zy_940
theorem dL_law_941 : decode cL_law 941 = .ok (.invokevirtual 113, 3) := zd_invv zy_941 zy_942 zy_943 rfl
theorem dL_law_944 : decode cL_law 944 = .ok (.pop, 1) := zd_o87 zy_944
theorem dL_law_945 : decode cL_law 945 = .ok (.aload_n 2, 1) := zd_o44 zy_945
theorem dL_law_946 : decode cL_law 946 = .ok (.invokevirtual 116, 3) := zd_invv zy_946 zy_947 zy_948 rfl
theorem dL_law_949 : decode cL_law 949 = .ok (.pop, 1) := zd_o87 zy_949
theorem dL_law_950 : decode cL_law 950 = .ok (.goto 847, 3) := by decide +kernel
theorem dL_law_953 : decode cL_law 953 = .ok (.aload_n 1, 1) := zd_o43 zy_953
theorem dL_law_954 : decode cL_law 954 = .ok (.aload_n 0, 1) := zd_o42 zy_954
theorem dL_law_955 : decode cL_law 955 = .ok (.iload 4, 2) := zd_iload zy_955 zy_956 rfl
theorem dL_law_957 : decode cL_law 957 = .ok (.iconst 1, 1) := zd_o4 zy_957
theorem dL_law_958 : decode cL_law 958 = .ok (.iadd, 1) := zd_o96 zy_958
theorem dL_law_959 : decode cL_law 959 = .ok (.iaload, 1) := zd_o46 zy_959
theorem dL_law_960 : decode cL_law 960 = .ok (.aload_n 0, 1) := zd_o42 zy_960
theorem dL_law_961 : decode cL_law 961 = .ok (.iload 4, 2) := zd_iload zy_961 zy_962 rfl
theorem dL_law_963 : decode cL_law 963 = .ok (.iconst 2, 1) := zd_o5 zy_963
theorem dL_law_964 : decode cL_law 964 = .ok (.iadd, 1) := zd_o96 zy_964
theorem dL_law_965 : decode cL_law 965 = .ok (.iaload, 1) := zd_o46 zy_965
theorem dL_law_966 : decode cL_law 966 = .ok (.invokevirtual 117, 3) := zd_invv zy_966 zy_967 zy_968 rfl
theorem dL_law_969 : decode cL_law 969 = .ok (.pop, 1) := zd_o87 zy_969
theorem dL_law_970 : decode cL_law 970 = .ok (.aload_n 2, 1) := zd_o44 zy_970
theorem dL_law_971 : decode cL_law 971 = .ok (.aload_n 0, 1) := zd_o42 zy_971
theorem dL_law_972 : decode cL_law 972 = .ok (.iload 4, 2) := zd_iload zy_972 zy_973 rfl
theorem dL_law_974 : decode cL_law 974 = .ok (.iconst 1, 1) := zd_o4 zy_974
theorem dL_law_975 : decode cL_law 975 = .ok (.iadd, 1) := zd_o96 zy_975
theorem dL_law_976 : decode cL_law 976 = .ok (.iaload, 1) := zd_o46 zy_976
theorem dL_law_977 : decode cL_law 977 = .ok (.aload_n 0, 1) := zd_o42 zy_977
theorem dL_law_978 : decode cL_law 978 = .ok (.iload 4, 2) := zd_iload zy_978 zy_979 rfl
theorem dL_law_980 : decode cL_law 980 = .ok (.iconst 2, 1) := zd_o5 zy_980
theorem dL_law_981 : decode cL_law 981 = .ok (.iadd, 1) := zd_o96 zy_981
theorem dL_law_982 : decode cL_law 982 = .ok (.iaload, 1) := zd_o46 zy_982
theorem dL_law_983 : decode cL_law 983 = .ok (.invokevirtual 120, 3) := zd_invv zy_983 zy_984 zy_985 rfl
theorem dL_law_986 : decode cL_law 986 = .ok (.pop, 1) := zd_o87 zy_986
theorem dL_law_987 : decode cL_law 987 = .ok (.goto 810, 3) := by decide +kernel
theorem dL_law_990 : decode cL_law 990 = .ok (.aload_n 1, 1) := zd_o43 zy_990
theorem dL_law_991 : decode cL_law 991 = .ok (.aload_n 0, 1) := zd_o42 zy_991
theorem dL_law_992 : decode cL_law 992 = .ok (.iload 4, 2) := zd_iload zy_992 zy_993 rfl
theorem dL_law_994 : decode cL_law 994 = .ok (.iconst 1, 1) := zd_o4 zy_994
theorem dL_law_995 : decode cL_law 995 = .ok (.iadd, 1) := zd_o96 zy_995
theorem dL_law_996 : decode cL_law 996 = .ok (.iaload, 1) := zd_o46 zy_996
theorem dL_law_997 : decode cL_law 997 = .ok (.invokevirtual 121, 3) := zd_invv zy_997 zy_998 zy_999 rfl
theorem dL_law_1000 : decode cL_law 1000 = .ok (.pop, 1) := zd_o87 zy_1000
theorem dL_law_1001 : decode cL_law 1001 = .ok (.aload_n 2, 1) := zd_o44 zy_1001
theorem dL_law_1002 : decode cL_law 1002 = .ok (.aload_n 0, 1) := zd_o42 zy_1002
theorem dL_law_1003 : decode cL_law 1003 = .ok (.iload 4, 2) := zd_iload zy_1003 zy_1004 rfl
theorem dL_law_1005 : decode cL_law 1005 = .ok (.iconst 1, 1) := zd_o4 zy_1005
theorem dL_law_1006 : decode cL_law 1006 = .ok (.iadd, 1) := zd_o96 zy_1006
theorem dL_law_1007 : decode cL_law 1007 = .ok (.iaload, 1) := zd_o46 zy_1007
theorem dL_law_1008 : decode cL_law 1008 = .ok (.invokevirtual 124, 3) := zd_invv zy_1008 zy_1009 zy_1010 rfl
theorem dL_law_1011 : decode cL_law 1011 = .ok (.pop, 1) := zd_o87 zy_1011
theorem dL_law_1012 : decode cL_law 1012 = .ok (.goto 785, 3) := by decide +kernel
theorem dL_law_1015 : decode cL_law 1015 = .ok (.aload_n 1, 1) := zd_o43 zy_1015
theorem dL_law_1016 : decode cL_law 1016 = .ok (.aload_n 0, 1) := zd_o42 zy_1016
theorem dL_law_1017 : decode cL_law 1017 = .ok (.iload 4, 2) := zd_iload zy_1017 zy_1018 rfl
theorem dL_law_1019 : decode cL_law 1019 = .ok (.iconst 1, 1) := zd_o4 zy_1019
theorem dL_law_1020 : decode cL_law 1020 = .ok (.iadd, 1) := zd_o96 zy_1020
theorem dL_law_1021 : decode cL_law 1021 = .ok (.iaload, 1) := zd_o46 zy_1021
theorem dL_law_1022 : decode cL_law 1022 = .ok (.aload_n 0, 1) := zd_o42 zy_1022
theorem dL_law_1023 : decode cL_law 1023 = .ok (.iload 4, 2) := zd_iload zy_1023 zy_1024 rfl
theorem dL_law_1025 : decode cL_law 1025 = .ok (.iconst 2, 1) := zd_o5 zy_1025
theorem dL_law_1026 : decode cL_law 1026 = .ok (.iadd, 1) := zd_o96 zy_1026
theorem dL_law_1027 : decode cL_law 1027 = .ok (.iaload, 1) := zd_o46 zy_1027
theorem dL_law_1028 : decode cL_law 1028 = .ok (.invokevirtual 125, 3) := zd_invv zy_1028 zy_1029 zy_1030 rfl
theorem dL_law_1031 : decode cL_law 1031 = .ok (.pop, 1) := zd_o87 zy_1031
theorem dL_law_1032 : decode cL_law 1032 = .ok (.aload_n 2, 1) := zd_o44 zy_1032
theorem dL_law_1033 : decode cL_law 1033 = .ok (.aload_n 0, 1) := zd_o42 zy_1033
theorem dL_law_1034 : decode cL_law 1034 = .ok (.iload 4, 2) := zd_iload zy_1034 zy_1035 rfl
theorem dL_law_1036 : decode cL_law 1036 = .ok (.iconst 1, 1) := zd_o4 zy_1036
theorem dL_law_1037 : decode cL_law 1037 = .ok (.iadd, 1) := zd_o96 zy_1037
theorem dL_law_1038 : decode cL_law 1038 = .ok (.iaload, 1) := zd_o46 zy_1038
theorem dL_law_1039 : decode cL_law 1039 = .ok (.aload_n 0, 1) := zd_o42 zy_1039
theorem dL_law_1040 : decode cL_law 1040 = .ok (.iload 4, 2) := zd_iload zy_1040 zy_1041 rfl
theorem dL_law_1042 : decode cL_law 1042 = .ok (.iconst 2, 1) := zd_o5 zy_1042
theorem dL_law_1043 : decode cL_law 1043 = .ok (.iadd, 1) := zd_o96 zy_1043
theorem dL_law_1044 : decode cL_law 1044 = .ok (.iaload, 1) := zd_o46 zy_1044
theorem dL_law_1045 : decode cL_law 1045 = .ok (.invokevirtual 128, 3) := zd_invv zy_1045 zy_1046 zy_1047 rfl
theorem dL_law_1048 : decode cL_law 1048 = .ok (.pop, 1) := zd_o87 zy_1048
theorem dL_law_1049 : decode cL_law 1049 = .ok (.goto 748, 3) := by decide +kernel
theorem dL_law_1052 : decode cL_law 1052 = .ok (.aload_n 1, 1) := zd_o43 zy_1052
theorem dL_law_1053 : decode cL_law 1053 = .ok (.aload_n 0, 1) := zd_o42 zy_1053
theorem dL_law_1054 : decode cL_law 1054 = .ok (.iload 4, 2) := zd_iload zy_1054 zy_1055 rfl
theorem dL_law_1056 : decode cL_law 1056 = .ok (.iconst 1, 1) := zd_o4 zy_1056
theorem dL_law_1057 : decode cL_law 1057 = .ok (.iadd, 1) := zd_o96 zy_1057
theorem dL_law_1058 : decode cL_law 1058 = .ok (.iaload, 1) := zd_o46 zy_1058
theorem dL_law_1059 : decode cL_law 1059 = .ok (.aload_n 0, 1) := zd_o42 zy_1059
theorem dL_law_1060 : decode cL_law 1060 = .ok (.iload 4, 2) := zd_iload zy_1060 zy_1061 rfl
theorem dL_law_1062 : decode cL_law 1062 = .ok (.iconst 2, 1) := zd_o5 zy_1062
theorem dL_law_1063 : decode cL_law 1063 = .ok (.iadd, 1) := zd_o96 zy_1063
theorem dL_law_1064 : decode cL_law 1064 = .ok (.iaload, 1) := zd_o46 zy_1064
theorem dL_law_1065 : decode cL_law 1065 = .ok (.invokevirtual 129, 3) := zd_invv zy_1065 zy_1066 zy_1067 rfl
theorem dL_law_1068 : decode cL_law 1068 = .ok (.pop, 1) := zd_o87 zy_1068
theorem dL_law_1069 : decode cL_law 1069 = .ok (.aload_n 2, 1) := zd_o44 zy_1069
theorem dL_law_1070 : decode cL_law 1070 = .ok (.aload_n 0, 1) := zd_o42 zy_1070
theorem dL_law_1071 : decode cL_law 1071 = .ok (.iload 4, 2) := zd_iload zy_1071 zy_1072 rfl
theorem dL_law_1073 : decode cL_law 1073 = .ok (.iconst 1, 1) := zd_o4 zy_1073
theorem dL_law_1074 : decode cL_law 1074 = .ok (.iadd, 1) := zd_o96 zy_1074
theorem dL_law_1075 : decode cL_law 1075 = .ok (.iaload, 1) := zd_o46 zy_1075
theorem dL_law_1076 : decode cL_law 1076 = .ok (.aload_n 0, 1) := zd_o42 zy_1076
theorem dL_law_1077 : decode cL_law 1077 = .ok (.iload 4, 2) := zd_iload zy_1077 zy_1078 rfl
theorem dL_law_1079 : decode cL_law 1079 = .ok (.iconst 2, 1) := zd_o5 zy_1079
theorem dL_law_1080 : decode cL_law 1080 = .ok (.iadd, 1) := zd_o96 zy_1080
theorem dL_law_1081 : decode cL_law 1081 = .ok (.iaload, 1) := zd_o46 zy_1081
theorem dL_law_1082 : decode cL_law 1082 = .ok (.invokevirtual 132, 3) := zd_invv zy_1082 zy_1083 zy_1084 rfl
theorem dL_law_1085 : decode cL_law 1085 = .ok (.pop, 1) := zd_o87 zy_1085
theorem dL_law_1086 : decode cL_law 1086 = .ok (.goto 711, 3) := by decide +kernel
theorem dL_law_1089 : decode cL_law 1089 = .ok (.aload_n 1, 1) := zd_o43 zy_1089
theorem dL_law_1090 : decode cL_law 1090 = .ok (.aload_n 0, 1) := zd_o42 zy_1090
theorem dL_law_1091 : decode cL_law 1091 = .ok (.iload 4, 2) := zd_iload zy_1091 zy_1092 rfl
theorem dL_law_1093 : decode cL_law 1093 = .ok (.iconst 1, 1) := zd_o4 zy_1093
theorem dL_law_1094 : decode cL_law 1094 = .ok (.iadd, 1) := zd_o96 zy_1094
theorem dL_law_1095 : decode cL_law 1095 = .ok (.iaload, 1) := zd_o46 zy_1095
theorem dL_law_1096 : decode cL_law 1096 = .ok (.aload_n 0, 1) := zd_o42 zy_1096
theorem dL_law_1097 : decode cL_law 1097 = .ok (.iload 4, 2) := zd_iload zy_1097 zy_1098 rfl
theorem dL_law_1099 : decode cL_law 1099 = .ok (.iconst 2, 1) := zd_o5 zy_1099
theorem dL_law_1100 : decode cL_law 1100 = .ok (.iadd, 1) := zd_o96 zy_1100
theorem dL_law_1101 : decode cL_law 1101 = .ok (.iaload, 1) := zd_o46 zy_1101
theorem dL_law_1102 : decode cL_law 1102 = .ok (.invokevirtual 133, 3) := zd_invv zy_1102 zy_1103 zy_1104 rfl
theorem dL_law_1105 : decode cL_law 1105 = .ok (.pop, 1) := zd_o87 zy_1105
theorem dL_law_1106 : decode cL_law 1106 = .ok (.aload_n 2, 1) := zd_o44 zy_1106
theorem dL_law_1107 : decode cL_law 1107 = .ok (.aload_n 0, 1) := zd_o42 zy_1107
theorem dL_law_1108 : decode cL_law 1108 = .ok (.iload 4, 2) := zd_iload zy_1108 zy_1109 rfl
theorem dL_law_1110 : decode cL_law 1110 = .ok (.iconst 1, 1) := zd_o4 zy_1110
theorem dL_law_1111 : decode cL_law 1111 = .ok (.iadd, 1) := zd_o96 zy_1111
theorem dL_law_1112 : decode cL_law 1112 = .ok (.iaload, 1) := zd_o46 zy_1112
theorem dL_law_1113 : decode cL_law 1113 = .ok (.aload_n 0, 1) := zd_o42 zy_1113
theorem dL_law_1114 : decode cL_law 1114 = .ok (.iload 4, 2) := zd_iload zy_1114 zy_1115 rfl
theorem dL_law_1116 : decode cL_law 1116 = .ok (.iconst 2, 1) := zd_o5 zy_1116
theorem dL_law_1117 : decode cL_law 1117 = .ok (.iadd, 1) := zd_o96 zy_1117
theorem dL_law_1118 : decode cL_law 1118 = .ok (.iaload, 1) := zd_o46 zy_1118
theorem dL_law_1119 : decode cL_law 1119 = .ok (.invokevirtual 136, 3) := zd_invv zy_1119 zy_1120 zy_1121 rfl
theorem dL_law_1122 : decode cL_law 1122 = .ok (.pop, 1) := zd_o87 zy_1122
theorem dL_law_1123 : decode cL_law 1123 = .ok (.goto 674, 3) := by decide +kernel
theorem dL_law_1126 : decode cL_law 1126 = .ok (.aload_n 1, 1) := zd_o43 zy_1126
theorem dL_law_1127 : decode cL_law 1127 = .ok (.aload_n 0, 1) := zd_o42 zy_1127
theorem dL_law_1128 : decode cL_law 1128 = .ok (.iload 4, 2) := zd_iload zy_1128 zy_1129 rfl
theorem dL_law_1130 : decode cL_law 1130 = .ok (.iconst 1, 1) := zd_o4 zy_1130
theorem dL_law_1131 : decode cL_law 1131 = .ok (.iadd, 1) := zd_o96 zy_1131
theorem dL_law_1132 : decode cL_law 1132 = .ok (.iaload, 1) := zd_o46 zy_1132
theorem dL_law_1133 : decode cL_law 1133 = .ok (.invokevirtual 137, 3) := zd_invv zy_1133 zy_1134 zy_1135 rfl
theorem dL_law_1136 : decode cL_law 1136 = .ok (.pop, 1) := zd_o87 zy_1136
theorem dL_law_1137 : decode cL_law 1137 = .ok (.aload_n 2, 1) := zd_o44 zy_1137
theorem dL_law_1138 : decode cL_law 1138 = .ok (.aload_n 0, 1) := zd_o42 zy_1138
theorem dL_law_1139 : decode cL_law 1139 = .ok (.iload 4, 2) := zd_iload zy_1139 zy_1140 rfl
theorem dL_law_1141 : decode cL_law 1141 = .ok (.iconst 1, 1) := zd_o4 zy_1141
theorem dL_law_1142 : decode cL_law 1142 = .ok (.iadd, 1) := zd_o96 zy_1142
theorem dL_law_1143 : decode cL_law 1143 = .ok (.iaload, 1) := zd_o46 zy_1143
theorem dL_law_1144 : decode cL_law 1144 = .ok (.invokevirtual 140, 3) := zd_invv zy_1144 zy_1145 zy_1146 rfl
theorem dL_law_1147 : decode cL_law 1147 = .ok (.pop, 1) := zd_o87 zy_1147
theorem dL_law_1148 : decode cL_law 1148 = .ok (.goto 649, 3) := by decide +kernel
theorem dL_law_1151 : decode cL_law 1151 = .ok (.aload_n 1, 1) := zd_o43 zy_1151
theorem dL_law_1152 : decode cL_law 1152 = .ok (.aload_n 0, 1) := zd_o42 zy_1152
theorem dL_law_1153 : decode cL_law 1153 = .ok (.iload 4, 2) := zd_iload zy_1153 zy_1154 rfl
theorem dL_law_1155 : decode cL_law 1155 = .ok (.iconst 1, 1) := zd_o4 zy_1155
theorem dL_law_1156 : decode cL_law 1156 = .ok (.iadd, 1) := zd_o96 zy_1156
theorem dL_law_1157 : decode cL_law 1157 = .ok (.iaload, 1) := zd_o46 zy_1157
theorem dL_law_1158 : decode cL_law 1158 = .ok (.invokevirtual 141, 3) := zd_invv zy_1158 zy_1159 zy_1160 rfl
theorem dL_law_1161 : decode cL_law 1161 = .ok (.pop, 1) := zd_o87 zy_1161
theorem dL_law_1162 : decode cL_law 1162 = .ok (.aload_n 2, 1) := zd_o44 zy_1162
theorem dL_law_1163 : decode cL_law 1163 = .ok (.aload_n 0, 1) := zd_o42 zy_1163
theorem dL_law_1164 : decode cL_law 1164 = .ok (.iload 4, 2) := zd_iload zy_1164 zy_1165 rfl
theorem dL_law_1166 : decode cL_law 1166 = .ok (.iconst 1, 1) := zd_o4 zy_1166
theorem dL_law_1167 : decode cL_law 1167 = .ok (.iadd, 1) := zd_o96 zy_1167
theorem dL_law_1168 : decode cL_law 1168 = .ok (.iaload, 1) := zd_o46 zy_1168
theorem dL_law_1169 : decode cL_law 1169 = .ok (.invokevirtual 144, 3) := zd_invv zy_1169 zy_1170 zy_1171 rfl
theorem dL_law_1172 : decode cL_law 1172 = .ok (.pop, 1) := zd_o87 zy_1172
theorem dL_law_1173 : decode cL_law 1173 = .ok (.goto 624, 3) := by decide +kernel
theorem dL_law_1176 : decode cL_law 1176 = .ok (.aload_n 1, 1) := zd_o43 zy_1176
theorem dL_law_1177 : decode cL_law 1177 = .ok (.aload_n 0, 1) := zd_o42 zy_1177
theorem dL_law_1178 : decode cL_law 1178 = .ok (.iload 4, 2) := zd_iload zy_1178 zy_1179 rfl
theorem dL_law_1180 : decode cL_law 1180 = .ok (.iconst 1, 1) := zd_o4 zy_1180
theorem dL_law_1181 : decode cL_law 1181 = .ok (.iadd, 1) := zd_o96 zy_1181
theorem dL_law_1182 : decode cL_law 1182 = .ok (.iaload, 1) := zd_o46 zy_1182
theorem dL_law_1183 : decode cL_law 1183 = .ok (.aload_n 0, 1) := zd_o42 zy_1183
theorem dL_law_1184 : decode cL_law 1184 = .ok (.iload 4, 2) := zd_iload zy_1184 zy_1185 rfl
theorem dL_law_1186 : decode cL_law 1186 = .ok (.iconst 2, 1) := zd_o5 zy_1186
theorem dL_law_1187 : decode cL_law 1187 = .ok (.iadd, 1) := zd_o96 zy_1187
theorem dL_law_1188 : decode cL_law 1188 = .ok (.iaload, 1) := zd_o46 zy_1188
theorem dL_law_1189 : decode cL_law 1189 = .ok (.invokevirtual 145, 3) := zd_invv zy_1189 zy_1190 zy_1191 rfl
theorem dL_law_1192 : decode cL_law 1192 = .ok (.pop, 1) := zd_o87 zy_1192
theorem dL_law_1193 : decode cL_law 1193 = .ok (.aload_n 2, 1) := zd_o44 zy_1193
theorem dL_law_1194 : decode cL_law 1194 = .ok (.aload_n 0, 1) := zd_o42 zy_1194
theorem dL_law_1195 : decode cL_law 1195 = .ok (.iload 4, 2) := zd_iload zy_1195 zy_1196 rfl
theorem dL_law_1197 : decode cL_law 1197 = .ok (.iconst 1, 1) := zd_o4 zy_1197
theorem dL_law_1198 : decode cL_law 1198 = .ok (.iadd, 1) := zd_o96 zy_1198
theorem dL_law_1199 : decode cL_law 1199 = .ok (.iaload, 1) := zd_o46 zy_1199
theorem dL_law_1200 : decode cL_law 1200 = .ok (.aload_n 0, 1) := zd_o42 zy_1200
theorem dL_law_1201 : decode cL_law 1201 = .ok (.iload 4, 2) := zd_iload zy_1201 zy_1202 rfl
theorem dL_law_1203 : decode cL_law 1203 = .ok (.iconst 2, 1) := zd_o5 zy_1203
theorem dL_law_1204 : decode cL_law 1204 = .ok (.iadd, 1) := zd_o96 zy_1204
theorem dL_law_1205 : decode cL_law 1205 = .ok (.iaload, 1) := zd_o46 zy_1205
theorem dL_law_1206 : decode cL_law 1206 = .ok (.invokevirtual 148, 3) := zd_invv zy_1206 zy_1207 zy_1208 rfl
theorem dL_law_1209 : decode cL_law 1209 = .ok (.pop, 1) := zd_o87 zy_1209
theorem dL_law_1210 : decode cL_law 1210 = .ok (.goto 587, 3) := by decide +kernel
theorem dL_law_1213 : decode cL_law 1213 = .ok (.aload_n 1, 1) := zd_o43 zy_1213
theorem dL_law_1214 : decode cL_law 1214 = .ok (.aload_n 0, 1) := zd_o42 zy_1214
theorem dL_law_1215 : decode cL_law 1215 = .ok (.iload 4, 2) := zd_iload zy_1215 zy_1216 rfl
theorem dL_law_1217 : decode cL_law 1217 = .ok (.iconst 1, 1) := zd_o4 zy_1217
theorem dL_law_1218 : decode cL_law 1218 = .ok (.iadd, 1) := zd_o96 zy_1218
theorem dL_law_1219 : decode cL_law 1219 = .ok (.iaload, 1) := zd_o46 zy_1219
theorem dL_law_1220 : decode cL_law 1220 = .ok (.invokevirtual 149, 3) := zd_invv zy_1220 zy_1221 zy_1222 rfl
theorem dL_law_1223 : decode cL_law 1223 = .ok (.pop, 1) := zd_o87 zy_1223
theorem dL_law_1224 : decode cL_law 1224 = .ok (.aload_n 2, 1) := zd_o44 zy_1224
theorem dL_law_1225 : decode cL_law 1225 = .ok (.aload_n 0, 1) := zd_o42 zy_1225
theorem dL_law_1226 : decode cL_law 1226 = .ok (.iload 4, 2) := zd_iload zy_1226 zy_1227 rfl
theorem dL_law_1228 : decode cL_law 1228 = .ok (.iconst 1, 1) := zd_o4 zy_1228
theorem dL_law_1229 : decode cL_law 1229 = .ok (.iadd, 1) := zd_o96 zy_1229
theorem dL_law_1230 : decode cL_law 1230 = .ok (.iaload, 1) := zd_o46 zy_1230
theorem dL_law_1231 : decode cL_law 1231 = .ok (.invokevirtual 152, 3) := zd_invv zy_1231 zy_1232 zy_1233 rfl
theorem dL_law_1234 : decode cL_law 1234 = .ok (.pop, 1) := zd_o87 zy_1234
theorem dL_law_1235 : decode cL_law 1235 = .ok (.goto 562, 3) := by decide +kernel
theorem dL_law_1238 : decode cL_law 1238 = .ok (.aload_n 1, 1) := zd_o43 zy_1238
theorem dL_law_1239 : decode cL_law 1239 = .ok (.aload_n 0, 1) := zd_o42 zy_1239
theorem dL_law_1240 : decode cL_law 1240 = .ok (.iload 4, 2) := zd_iload zy_1240 zy_1241 rfl
theorem dL_law_1242 : decode cL_law 1242 = .ok (.iconst 1, 1) := zd_o4 zy_1242
theorem dL_law_1243 : decode cL_law 1243 = .ok (.iadd, 1) := zd_o96 zy_1243
theorem dL_law_1244 : decode cL_law 1244 = .ok (.iaload, 1) := zd_o46 zy_1244
theorem dL_law_1245 : decode cL_law 1245 = .ok (.aload_n 0, 1) := zd_o42 zy_1245
theorem dL_law_1246 : decode cL_law 1246 = .ok (.iload 4, 2) := zd_iload zy_1246 zy_1247 rfl
theorem dL_law_1248 : decode cL_law 1248 = .ok (.iconst 2, 1) := zd_o5 zy_1248
theorem dL_law_1249 : decode cL_law 1249 = .ok (.iadd, 1) := zd_o96 zy_1249
theorem dL_law_1250 : decode cL_law 1250 = .ok (.iaload, 1) := zd_o46 zy_1250
theorem dL_law_1251 : decode cL_law 1251 = .ok (.aload_n 0, 1) := zd_o42 zy_1251
theorem dL_law_1252 : decode cL_law 1252 = .ok (.iload 4, 2) := zd_iload zy_1252 zy_1253 rfl
theorem dL_law_1254 : decode cL_law 1254 = .ok (.iconst 3, 1) := zd_o6 zy_1254
theorem dL_law_1255 : decode cL_law 1255 = .ok (.iadd, 1) := zd_o96 zy_1255
theorem dL_law_1256 : decode cL_law 1256 = .ok (.iaload, 1) := zd_o46 zy_1256
theorem dL_law_1257 : decode cL_law 1257 = .ok (.aload_n 0, 1) := zd_o42 zy_1257
theorem dL_law_1258 : decode cL_law 1258 = .ok (.iload 4, 2) := zd_iload zy_1258 zy_1259 rfl
theorem dL_law_1260 : decode cL_law 1260 = .ok (.iconst 4, 1) := zd_o7 zy_1260
theorem dL_law_1261 : decode cL_law 1261 = .ok (.iadd, 1) := zd_o96 zy_1261
theorem dL_law_1262 : decode cL_law 1262 = .ok (.iaload, 1) := zd_o46 zy_1262
theorem dL_law_1263 : decode cL_law 1263 = .ok (.aload_n 0, 1) := zd_o42 zy_1263
theorem dL_law_1264 : decode cL_law 1264 = .ok (.iload 4, 2) := zd_iload zy_1264 zy_1265 rfl
theorem dL_law_1266 : decode cL_law 1266 = .ok (.iconst 5, 1) := zd_o8 zy_1266
theorem dL_law_1267 : decode cL_law 1267 = .ok (.iadd, 1) := zd_o96 zy_1267
theorem dL_law_1268 : decode cL_law 1268 = .ok (.iaload, 1) := zd_o46 zy_1268
theorem dL_law_1269 : decode cL_law 1269 = .ok (.aload_n 0, 1) := zd_o42 zy_1269
theorem dL_law_1270 : decode cL_law 1270 = .ok (.iload 4, 2) := zd_iload zy_1270 zy_1271 rfl
theorem dL_law_1272 : decode cL_law 1272 = .ok (.bipush 6, 2) := by decide +kernel
theorem dL_law_1274 : decode cL_law 1274 = .ok (.iadd, 1) := zd_o96 zy_1274
theorem dL_law_1275 : decode cL_law 1275 = .ok (.iaload, 1) := zd_o46 zy_1275
theorem dL_law_1276 : decode cL_law 1276 = .ok (.invokevirtual 153, 3) := zd_invv zy_1276 zy_1277 zy_1278 rfl
theorem dL_law_1279 : decode cL_law 1279 = .ok (.pop, 1) := zd_o87 zy_1279
theorem dL_law_1280 : decode cL_law 1280 = .ok (.aload_n 2, 1) := zd_o44 zy_1280
theorem dL_law_1281 : decode cL_law 1281 = .ok (.aload_n 0, 1) := zd_o42 zy_1281
theorem dL_law_1282 : decode cL_law 1282 = .ok (.iload 4, 2) := zd_iload zy_1282 zy_1283 rfl
theorem dL_law_1284 : decode cL_law 1284 = .ok (.iconst 1, 1) := zd_o4 zy_1284
theorem dL_law_1285 : decode cL_law 1285 = .ok (.iadd, 1) := zd_o96 zy_1285
theorem dL_law_1286 : decode cL_law 1286 = .ok (.iaload, 1) := zd_o46 zy_1286
theorem dL_law_1287 : decode cL_law 1287 = .ok (.aload_n 0, 1) := zd_o42 zy_1287
theorem dL_law_1288 : decode cL_law 1288 = .ok (.iload 4, 2) := zd_iload zy_1288 zy_1289 rfl
theorem dL_law_1290 : decode cL_law 1290 = .ok (.iconst 2, 1) := zd_o5 zy_1290
theorem dL_law_1291 : decode cL_law 1291 = .ok (.iadd, 1) := zd_o96 zy_1291
theorem dL_law_1292 : decode cL_law 1292 = .ok (.iaload, 1) := zd_o46 zy_1292
theorem dL_law_1293 : decode cL_law 1293 = .ok (.aload_n 0, 1) := zd_o42 zy_1293
theorem dL_law_1294 : decode cL_law 1294 = .ok (.iload 4, 2) := zd_iload zy_1294 zy_1295 rfl
theorem dL_law_1296 : decode cL_law 1296 = .ok (.iconst 3, 1) := zd_o6 zy_1296
theorem dL_law_1297 : decode cL_law 1297 = .ok (.iadd, 1) := zd_o96 zy_1297
theorem dL_law_1298 : decode cL_law 1298 = .ok (.iaload, 1) := zd_o46 zy_1298
theorem dL_law_1299 : decode cL_law 1299 = .ok (.aload_n 0, 1) := zd_o42 zy_1299
theorem dL_law_1300 : decode cL_law 1300 = .ok (.iload 4, 2) := zd_iload zy_1300 zy_1301 rfl
theorem dL_law_1302 : decode cL_law 1302 = .ok (.iconst 4, 1) := zd_o7 zy_1302
theorem dL_law_1303 : decode cL_law 1303 = .ok (.iadd, 1) := zd_o96 zy_1303
theorem dL_law_1304 : decode cL_law 1304 = .ok (.iaload, 1) := zd_o46 zy_1304
theorem dL_law_1305 : decode cL_law 1305 = .ok (.aload_n 0, 1) := zd_o42 zy_1305
theorem dL_law_1306 : decode cL_law 1306 = .ok (.iload 4, 2) := zd_iload zy_1306 zy_1307 rfl
theorem dL_law_1308 : decode cL_law 1308 = .ok (.iconst 5, 1) := zd_o8 zy_1308
theorem dL_law_1309 : decode cL_law 1309 = .ok (.iadd, 1) := zd_o96 zy_1309
theorem dL_law_1310 : decode cL_law 1310 = .ok (.iaload, 1) := zd_o46 zy_1310
theorem dL_law_1311 : decode cL_law 1311 = .ok (.aload_n 0, 1) := zd_o42 zy_1311
theorem dL_law_1312 : decode cL_law 1312 = .ok (.iload 4, 2) := zd_iload zy_1312 zy_1313 rfl
theorem dL_law_1314 : decode cL_law 1314 = .ok (.bipush 6, 2) := by decide +kernel
theorem dL_law_1316 : decode cL_law 1316 = .ok (.iadd, 1) := zd_o96 zy_1316
theorem dL_law_1317 : decode cL_law 1317 = .ok (.iaload, 1) := zd_o46 zy_1317
theorem dL_law_1318 : decode cL_law 1318 = .ok (.invokevirtual 157, 3) := zd_invv zy_1318 zy_1319 zy_1320 rfl
theorem dL_law_1321 : decode cL_law 1321 = .ok (.pop, 1) := zd_o87 zy_1321
theorem dL_law_1322 : decode cL_law 1322 = .ok (.goto 475, 3) := by decide +kernel
theorem dL_law_1325 : decode cL_law 1325 = .ok (.aload_n 1, 1) := zd_o43 zy_1325
theorem dL_law_1326 : decode cL_law 1326 = .ok (.aload_n 0, 1) := zd_o42 zy_1326
theorem dL_law_1327 : decode cL_law 1327 = .ok (.iload 4, 2) := zd_iload zy_1327 zy_1328 rfl
theorem dL_law_1329 : decode cL_law 1329 = .ok (.iconst 1, 1) := zd_o4 zy_1329
theorem dL_law_1330 : decode cL_law 1330 = .ok (.iadd, 1) := zd_o96 zy_1330
theorem dL_law_1331 : decode cL_law 1331 = .ok (.iaload, 1) := zd_o46 zy_1331
theorem dL_law_1332 : decode cL_law 1332 = .ok (.aload_n 0, 1) := zd_o42 zy_1332
theorem dL_law_1333 : decode cL_law 1333 = .ok (.iload 4, 2) := zd_iload zy_1333 zy_1334 rfl
theorem dL_law_1335 : decode cL_law 1335 = .ok (.iconst 2, 1) := zd_o5 zy_1335
theorem dL_law_1336 : decode cL_law 1336 = .ok (.iadd, 1) := zd_o96 zy_1336
theorem dL_law_1337 : decode cL_law 1337 = .ok (.iaload, 1) := zd_o46 zy_1337
theorem dL_law_1338 : decode cL_law 1338 = .ok (.aload_n 0, 1) := zd_o42 zy_1338
theorem dL_law_1339 : decode cL_law 1339 = .ok (.iload 4, 2) := zd_iload zy_1339 zy_1340 rfl
theorem dL_law_1341 : decode cL_law 1341 = .ok (.iconst 3, 1) := zd_o6 zy_1341
theorem dL_law_1342 : decode cL_law 1342 = .ok (.iadd, 1) := zd_o96 zy_1342
theorem dL_law_1343 : decode cL_law 1343 = .ok (.iaload, 1) := zd_o46 zy_1343
theorem dL_law_1344 : decode cL_law 1344 = .ok (.aload_n 0, 1) := zd_o42 zy_1344
theorem dL_law_1345 : decode cL_law 1345 = .ok (.iload 4, 2) := zd_iload zy_1345 zy_1346 rfl
theorem dL_law_1347 : decode cL_law 1347 = .ok (.iconst 4, 1) := zd_o7 zy_1347
theorem dL_law_1348 : decode cL_law 1348 = .ok (.iadd, 1) := zd_o96 zy_1348
theorem dL_law_1349 : decode cL_law 1349 = .ok (.iaload, 1) := zd_o46 zy_1349
theorem dL_law_1350 : decode cL_law 1350 = .ok (.invokevirtual 158, 3) := zd_invv zy_1350 zy_1351 zy_1352 rfl
theorem dL_law_1353 : decode cL_law 1353 = .ok (.pop, 1) := zd_o87 zy_1353
theorem dL_law_1354 : decode cL_law 1354 = .ok (.aload_n 2, 1) := zd_o44 zy_1354
theorem dL_law_1355 : decode cL_law 1355 = .ok (.aload_n 0, 1) := zd_o42 zy_1355
theorem dL_law_1356 : decode cL_law 1356 = .ok (.iload 4, 2) := zd_iload zy_1356 zy_1357 rfl
theorem dL_law_1358 : decode cL_law 1358 = .ok (.iconst 1, 1) := zd_o4 zy_1358
theorem dL_law_1359 : decode cL_law 1359 = .ok (.iadd, 1) := zd_o96 zy_1359
theorem dL_law_1360 : decode cL_law 1360 = .ok (.iaload, 1) := zd_o46 zy_1360
theorem dL_law_1361 : decode cL_law 1361 = .ok (.aload_n 0, 1) := zd_o42 zy_1361
theorem dL_law_1362 : decode cL_law 1362 = .ok (.iload 4, 2) := zd_iload zy_1362 zy_1363 rfl
theorem dL_law_1364 : decode cL_law 1364 = .ok (.iconst 2, 1) := zd_o5 zy_1364
theorem dL_law_1365 : decode cL_law 1365 = .ok (.iadd, 1) := zd_o96 zy_1365
theorem dL_law_1366 : decode cL_law 1366 = .ok (.iaload, 1) := zd_o46 zy_1366
theorem dL_law_1367 : decode cL_law 1367 = .ok (.aload_n 0, 1) := zd_o42 zy_1367
theorem dL_law_1368 : decode cL_law 1368 = .ok (.iload 4, 2) := zd_iload zy_1368 zy_1369 rfl
theorem dL_law_1370 : decode cL_law 1370 = .ok (.iconst 3, 1) := zd_o6 zy_1370
theorem dL_law_1371 : decode cL_law 1371 = .ok (.iadd, 1) := zd_o96 zy_1371
theorem dL_law_1372 : decode cL_law 1372 = .ok (.iaload, 1) := zd_o46 zy_1372
theorem dL_law_1373 : decode cL_law 1373 = .ok (.aload_n 0, 1) := zd_o42 zy_1373
theorem dL_law_1374 : decode cL_law 1374 = .ok (.iload 4, 2) := zd_iload zy_1374 zy_1375 rfl
theorem dL_law_1376 : decode cL_law 1376 = .ok (.iconst 4, 1) := zd_o7 zy_1376
theorem dL_law_1377 : decode cL_law 1377 = .ok (.iadd, 1) := zd_o96 zy_1377
theorem dL_law_1378 : decode cL_law 1378 = .ok (.iaload, 1) := zd_o46 zy_1378
theorem dL_law_1379 : decode cL_law 1379 = .ok (.invokevirtual 162, 3) := zd_invv zy_1379 zy_1380 zy_1381 rfl
theorem dL_law_1382 : decode cL_law 1382 = .ok (.pop, 1) := zd_o87 zy_1382
theorem dL_law_1383 : decode cL_law 1383 = .ok (.goto 414, 3) := by decide +kernel
theorem dL_law_1386 : decode cL_law 1386 = .ok (.aload_n 1, 1) := zd_o43 zy_1386
theorem dL_law_1387 : decode cL_law 1387 = .ok (.aload_n 0, 1) := zd_o42 zy_1387
theorem dL_law_1388 : decode cL_law 1388 = .ok (.iload 4, 2) := zd_iload zy_1388 zy_1389 rfl
theorem dL_law_1390 : decode cL_law 1390 = .ok (.iconst 1, 1) := zd_o4 zy_1390
theorem dL_law_1391 : decode cL_law 1391 = .ok (.iadd, 1) := zd_o96 zy_1391
theorem dL_law_1392 : decode cL_law 1392 = .ok (.iaload, 1) := zd_o46 zy_1392
theorem dL_law_1393 : decode cL_law 1393 = .ok (.aload_n 0, 1) := zd_o42 zy_1393
theorem dL_law_1394 : decode cL_law 1394 = .ok (.iload 4, 2) := zd_iload zy_1394 zy_1395 rfl
theorem dL_law_1396 : decode cL_law 1396 = .ok (.iconst 2, 1) := zd_o5 zy_1396
theorem dL_law_1397 : decode cL_law 1397 = .ok (.iadd, 1) := zd_o96 zy_1397
theorem dL_law_1398 : decode cL_law 1398 = .ok (.iaload, 1) := zd_o46 zy_1398
theorem dL_law_1399 : decode cL_law 1399 = .ok (.invokevirtual 163, 3) := zd_invv zy_1399 zy_1400 zy_1401 rfl
theorem dL_law_1402 : decode cL_law 1402 = .ok (.pop, 1) := zd_o87 zy_1402
theorem dL_law_1403 : decode cL_law 1403 = .ok (.aload_n 2, 1) := zd_o44 zy_1403
theorem dL_law_1404 : decode cL_law 1404 = .ok (.aload_n 0, 1) := zd_o42 zy_1404
theorem dL_law_1405 : decode cL_law 1405 = .ok (.iload 4, 2) := zd_iload zy_1405 zy_1406 rfl
theorem dL_law_1407 : decode cL_law 1407 = .ok (.iconst 1, 1) := zd_o4 zy_1407
theorem dL_law_1408 : decode cL_law 1408 = .ok (.iadd, 1) := zd_o96 zy_1408
theorem dL_law_1409 : decode cL_law 1409 = .ok (.iaload, 1) := zd_o46 zy_1409
theorem dL_law_1410 : decode cL_law 1410 = .ok (.aload_n 0, 1) := zd_o42 zy_1410
theorem dL_law_1411 : decode cL_law 1411 = .ok (.iload 4, 2) := zd_iload zy_1411 zy_1412 rfl
theorem dL_law_1413 : decode cL_law 1413 = .ok (.iconst 2, 1) := zd_o5 zy_1413
theorem dL_law_1414 : decode cL_law 1414 = .ok (.iadd, 1) := zd_o96 zy_1414
theorem dL_law_1415 : decode cL_law 1415 = .ok (.iaload, 1) := zd_o46 zy_1415
theorem dL_law_1416 : decode cL_law 1416 = .ok (.invokevirtual 166, 3) := zd_invv zy_1416 zy_1417 zy_1418 rfl
theorem dL_law_1419 : decode cL_law 1419 = .ok (.pop, 1) := zd_o87 zy_1419
theorem dL_law_1420 : decode cL_law 1420 = .ok (.goto 377, 3) := by decide +kernel
theorem dL_law_1423 : decode cL_law 1423 = .ok (.aload_n 1, 1) := zd_o43 zy_1423
theorem dL_law_1424 : decode cL_law 1424 = .ok (.aload_n 0, 1) := zd_o42 zy_1424
theorem dL_law_1425 : decode cL_law 1425 = .ok (.iload 4, 2) := zd_iload zy_1425 zy_1426 rfl
theorem dL_law_1427 : decode cL_law 1427 = .ok (.iconst 1, 1) := zd_o4 zy_1427
theorem dL_law_1428 : decode cL_law 1428 = .ok (.iadd, 1) := zd_o96 zy_1428
theorem dL_law_1429 : decode cL_law 1429 = .ok (.iaload, 1) := zd_o46 zy_1429
theorem dL_law_1430 : decode cL_law 1430 = .ok (.aload_n 0, 1) := zd_o42 zy_1430
theorem dL_law_1431 : decode cL_law 1431 = .ok (.iload 4, 2) := zd_iload zy_1431 zy_1432 rfl
theorem dL_law_1433 : decode cL_law 1433 = .ok (.iconst 2, 1) := zd_o5 zy_1433
theorem dL_law_1434 : decode cL_law 1434 = .ok (.iadd, 1) := zd_o96 zy_1434
theorem dL_law_1435 : decode cL_law 1435 = .ok (.iaload, 1) := zd_o46 zy_1435
theorem dL_law_1436 : decode cL_law 1436 = .ok (.invokevirtual 167, 3) := zd_invv zy_1436 zy_1437 zy_1438 rfl
theorem dL_law_1439 : decode cL_law 1439 = .ok (.pop, 1) := zd_o87 zy_1439
theorem dL_law_1440 : decode cL_law 1440 = .ok (.aload_n 2, 1) := zd_o44 zy_1440
theorem dL_law_1441 : decode cL_law 1441 = .ok (.aload_n 0, 1) := zd_o42 zy_1441
theorem dL_law_1442 : decode cL_law 1442 = .ok (.iload 4, 2) := zd_iload zy_1442 zy_1443 rfl
theorem dL_law_1444 : decode cL_law 1444 = .ok (.iconst 1, 1) := zd_o4 zy_1444
theorem dL_law_1445 : decode cL_law 1445 = .ok (.iadd, 1) := zd_o96 zy_1445
theorem dL_law_1446 : decode cL_law 1446 = .ok (.iaload, 1) := zd_o46 zy_1446
theorem dL_law_1447 : decode cL_law 1447 = .ok (.aload_n 0, 1) := zd_o42 zy_1447
theorem dL_law_1448 : decode cL_law 1448 = .ok (.iload 4, 2) := zd_iload zy_1448 zy_1449 rfl
theorem dL_law_1450 : decode cL_law 1450 = .ok (.iconst 2, 1) := zd_o5 zy_1450
theorem dL_law_1451 : decode cL_law 1451 = .ok (.iadd, 1) := zd_o96 zy_1451
theorem dL_law_1452 : decode cL_law 1452 = .ok (.iaload, 1) := zd_o46 zy_1452
theorem dL_law_1453 : decode cL_law 1453 = .ok (.invokevirtual 170, 3) := zd_invv zy_1453 zy_1454 zy_1455 rfl
theorem dL_law_1456 : decode cL_law 1456 = .ok (.pop, 1) := zd_o87 zy_1456
theorem dL_law_1457 : decode cL_law 1457 = .ok (.goto 340, 3) := by decide +kernel
theorem dL_law_1460 : decode cL_law 1460 = .ok (.aload_n 1, 1) := zd_o43 zy_1460
theorem dL_law_1461 : decode cL_law 1461 = .ok (.aload_n 0, 1) := zd_o42 zy_1461
theorem dL_law_1462 : decode cL_law 1462 = .ok (.iload 4, 2) := zd_iload zy_1462 zy_1463 rfl
theorem dL_law_1464 : decode cL_law 1464 = .ok (.iconst 1, 1) := zd_o4 zy_1464
theorem dL_law_1465 : decode cL_law 1465 = .ok (.iadd, 1) := zd_o96 zy_1465
theorem dL_law_1466 : decode cL_law 1466 = .ok (.iaload, 1) := zd_o46 zy_1466
theorem dL_law_1467 : decode cL_law 1467 = .ok (.invokevirtual 171, 3) := zd_invv zy_1467 zy_1468 zy_1469 rfl
theorem dL_law_1470 : decode cL_law 1470 = .ok (.pop, 1) := zd_o87 zy_1470
theorem dL_law_1471 : decode cL_law 1471 = .ok (.aload_n 2, 1) := zd_o44 zy_1471
theorem dL_law_1472 : decode cL_law 1472 = .ok (.aload_n 0, 1) := zd_o42 zy_1472
theorem dL_law_1473 : decode cL_law 1473 = .ok (.iload 4, 2) := zd_iload zy_1473 zy_1474 rfl
theorem dL_law_1475 : decode cL_law 1475 = .ok (.iconst 1, 1) := zd_o4 zy_1475
theorem dL_law_1476 : decode cL_law 1476 = .ok (.iadd, 1) := zd_o96 zy_1476
theorem dL_law_1477 : decode cL_law 1477 = .ok (.iaload, 1) := zd_o46 zy_1477
theorem dL_law_1478 : decode cL_law 1478 = .ok (.invokevirtual 174, 3) := zd_invv zy_1478 zy_1479 zy_1480 rfl
theorem dL_law_1481 : decode cL_law 1481 = .ok (.pop, 1) := zd_o87 zy_1481
theorem dL_law_1482 : decode cL_law 1482 = .ok (.goto 315, 3) := by decide +kernel
theorem dL_law_1485 : decode cL_law 1485 = .ok (.aload_n 1, 1) := zd_o43 zy_1485
theorem dL_law_1486 : decode cL_law 1486 = .ok (.aload_n 0, 1) := zd_o42 zy_1486
theorem dL_law_1487 : decode cL_law 1487 = .ok (.iload 4, 2) := zd_iload zy_1487 zy_1488 rfl
theorem dL_law_1489 : decode cL_law 1489 = .ok (.iconst 1, 1) := zd_o4 zy_1489
theorem dL_law_1490 : decode cL_law 1490 = .ok (.iadd, 1) := zd_o96 zy_1490
theorem dL_law_1491 : decode cL_law 1491 = .ok (.iaload, 1) := zd_o46 zy_1491
theorem dL_law_1492 : decode cL_law 1492 = .ok (.aload_n 0, 1) := zd_o42 zy_1492
theorem dL_law_1493 : decode cL_law 1493 = .ok (.iload 4, 2) := zd_iload zy_1493 zy_1494 rfl
theorem dL_law_1495 : decode cL_law 1495 = .ok (.iconst 2, 1) := zd_o5 zy_1495
theorem dL_law_1496 : decode cL_law 1496 = .ok (.iadd, 1) := zd_o96 zy_1496
theorem dL_law_1497 : decode cL_law 1497 = .ok (.iaload, 1) := zd_o46 zy_1497
theorem dL_law_1498 : decode cL_law 1498 = .ok (.invokevirtual 175, 3) := zd_invv zy_1498 zy_1499 zy_1500 rfl
theorem dL_law_1501 : decode cL_law 1501 = .ok (.pop, 1) := zd_o87 zy_1501
theorem dL_law_1502 : decode cL_law 1502 = .ok (.aload_n 2, 1) := zd_o44 zy_1502
theorem dL_law_1503 : decode cL_law 1503 = .ok (.aload_n 0, 1) := zd_o42 zy_1503
theorem dL_law_1504 : decode cL_law 1504 = .ok (.iload 4, 2) := zd_iload zy_1504 zy_1505 rfl
theorem dL_law_1506 : decode cL_law 1506 = .ok (.iconst 1, 1) := zd_o4 zy_1506
theorem dL_law_1507 : decode cL_law 1507 = .ok (.iadd, 1) := zd_o96 zy_1507
theorem dL_law_1508 : decode cL_law 1508 = .ok (.iaload, 1) := zd_o46 zy_1508
theorem dL_law_1509 : decode cL_law 1509 = .ok (.aload_n 0, 1) := zd_o42 zy_1509
theorem dL_law_1510 : decode cL_law 1510 = .ok (.iload 4, 2) := zd_iload zy_1510 zy_1511 rfl
theorem dL_law_1512 : decode cL_law 1512 = .ok (.iconst 2, 1) := zd_o5 zy_1512
theorem dL_law_1513 : decode cL_law 1513 = .ok (.iadd, 1) := zd_o96 zy_1513
theorem dL_law_1514 : decode cL_law 1514 = .ok (.iaload, 1) := zd_o46 zy_1514
theorem dL_law_1515 : decode cL_law 1515 = .ok (.invokevirtual 178, 3) := zd_invv zy_1515 zy_1516 zy_1517 rfl
theorem dL_law_1518 : decode cL_law 1518 = .ok (.pop, 1) := zd_o87 zy_1518
theorem dL_law_1519 : decode cL_law 1519 = .ok (.goto 278, 3) := by decide +kernel
theorem dL_law_1522 : decode cL_law 1522 = .ok (.aload_n 1, 1) := zd_o43 zy_1522
theorem dL_law_1523 : decode cL_law 1523 = .ok (.aload_n 0, 1) := zd_o42 zy_1523
theorem dL_law_1524 : decode cL_law 1524 = .ok (.iload 4, 2) := zd_iload zy_1524 zy_1525 rfl
theorem dL_law_1526 : decode cL_law 1526 = .ok (.iconst 1, 1) := zd_o4 zy_1526
theorem dL_law_1527 : decode cL_law 1527 = .ok (.iadd, 1) := zd_o96 zy_1527
theorem dL_law_1528 : decode cL_law 1528 = .ok (.iaload, 1) := zd_o46 zy_1528
theorem dL_law_1529 : decode cL_law 1529 = .ok (.aload_n 0, 1) := zd_o42 zy_1529
theorem dL_law_1530 : decode cL_law 1530 = .ok (.iload 4, 2) := zd_iload zy_1530 zy_1531 rfl
theorem dL_law_1532 : decode cL_law 1532 = .ok (.iconst 2, 1) := zd_o5 zy_1532
theorem dL_law_1533 : decode cL_law 1533 = .ok (.iadd, 1) := zd_o96 zy_1533
theorem dL_law_1534 : decode cL_law 1534 = .ok (.iaload, 1) := zd_o46 zy_1534
theorem dL_law_1535 : decode cL_law 1535 = .ok (.aload_n 0, 1) := zd_o42 zy_1535
theorem dL_law_1536 : decode cL_law 1536 = .ok (.iload 4, 2) := zd_iload zy_1536 zy_1537 rfl
theorem dL_law_1538 : decode cL_law 1538 = .ok (.iconst 3, 1) := zd_o6 zy_1538
theorem dL_law_1539 : decode cL_law 1539 = .ok (.iadd, 1) := zd_o96 zy_1539
theorem dL_law_1540 : decode cL_law 1540 = .ok (.iaload, 1) := zd_o46 zy_1540
theorem dL_law_1541 : decode cL_law 1541 = .ok (.invokevirtual 179, 3) := zd_invv zy_1541 zy_1542 zy_1543 rfl
theorem dL_law_1544 : decode cL_law 1544 = .ok (.pop, 1) := zd_o87 zy_1544
theorem dL_law_1545 : decode cL_law 1545 = .ok (.aload_n 2, 1) := zd_o44 zy_1545
theorem dL_law_1546 : decode cL_law 1546 = .ok (.aload_n 0, 1) := zd_o42 zy_1546
theorem dL_law_1547 : decode cL_law 1547 = .ok (.iload 4, 2) := zd_iload zy_1547 zy_1548 rfl
theorem dL_law_1549 : decode cL_law 1549 = .ok (.iconst 1, 1) := zd_o4 zy_1549
theorem dL_law_1550 : decode cL_law 1550 = .ok (.iadd, 1) := zd_o96 zy_1550
theorem dL_law_1551 : decode cL_law 1551 = .ok (.iaload, 1) := zd_o46 zy_1551
theorem dL_law_1552 : decode cL_law 1552 = .ok (.aload_n 0, 1) := zd_o42 zy_1552
theorem dL_law_1553 : decode cL_law 1553 = .ok (.iload 4, 2) := zd_iload zy_1553 zy_1554 rfl
theorem dL_law_1555 : decode cL_law 1555 = .ok (.iconst 2, 1) := zd_o5 zy_1555
theorem dL_law_1556 : decode cL_law 1556 = .ok (.iadd, 1) := zd_o96 zy_1556
theorem dL_law_1557 : decode cL_law 1557 = .ok (.iaload, 1) := zd_o46 zy_1557
theorem dL_law_1558 : decode cL_law 1558 = .ok (.aload_n 0, 1) := zd_o42 zy_1558
theorem dL_law_1559 : decode cL_law 1559 = .ok (.iload 4, 2) := zd_iload zy_1559 zy_1560 rfl
theorem dL_law_1561 : decode cL_law 1561 = .ok (.iconst 3, 1) := zd_o6 zy_1561
theorem dL_law_1562 : decode cL_law 1562 = .ok (.iadd, 1) := zd_o96 zy_1562
theorem dL_law_1563 : decode cL_law 1563 = .ok (.iaload, 1) := zd_o46 zy_1563
theorem dL_law_1564 : decode cL_law 1564 = .ok (.invokevirtual 182, 3) := zd_invv zy_1564 zy_1565 zy_1566 rfl
theorem dL_law_1567 : decode cL_law 1567 = .ok (.pop, 1) := zd_o87 zy_1567
theorem dL_law_1568 : decode cL_law 1568 = .ok (.goto 229, 3) := by decide +kernel
theorem dL_law_1571 : decode cL_law 1571 = .ok (.aload_n 1, 1) := zd_o43 zy_1571
theorem dL_law_1572 : decode cL_law 1572 = .ok (.aload_n 0, 1) := zd_o42 zy_1572
theorem dL_law_1573 : decode cL_law 1573 = .ok (.iload 4, 2) := zd_iload zy_1573 zy_1574 rfl
theorem dL_law_1575 : decode cL_law 1575 = .ok (.iconst 1, 1) := zd_o4 zy_1575
theorem dL_law_1576 : decode cL_law 1576 = .ok (.iadd, 1) := zd_o96 zy_1576
theorem dL_law_1577 : decode cL_law 1577 = .ok (.iaload, 1) := zd_o46 zy_1577
theorem dL_law_1578 : decode cL_law 1578 = .ok (.invokevirtual 183, 3) := zd_invv zy_1578 zy_1579 zy_1580 rfl
theorem dL_law_1581 : decode cL_law 1581 = .ok (.pop, 1) := zd_o87 zy_1581
theorem dL_law_1582 : decode cL_law 1582 = .ok (.aload_n 2, 1) := zd_o44 zy_1582
theorem dL_law_1583 : decode cL_law 1583 = .ok (.aload_n 0, 1) := zd_o42 zy_1583
theorem dL_law_1584 : decode cL_law 1584 = .ok (.iload 4, 2) := zd_iload zy_1584 zy_1585 rfl
theorem dL_law_1586 : decode cL_law 1586 = .ok (.iconst 1, 1) := zd_o4 zy_1586
theorem dL_law_1587 : decode cL_law 1587 = .ok (.iadd, 1) := zd_o96 zy_1587
theorem dL_law_1588 : decode cL_law 1588 = .ok (.iaload, 1) := zd_o46 zy_1588
theorem dL_law_1589 : decode cL_law 1589 = .ok (.invokevirtual 186, 3) := zd_invv zy_1589 zy_1590 zy_1591 rfl
theorem dL_law_1592 : decode cL_law 1592 = .ok (.pop, 1) := zd_o87 zy_1592
theorem dL_law_1593 : decode cL_law 1593 = .ok (.goto 204, 3) := by decide +kernel
theorem dL_law_1596 : decode cL_law 1596 = .ok (.aload_n 1, 1) := zd_o43 zy_1596
theorem dL_law_1597 : decode cL_law 1597 = .ok (.aload_n 0, 1) := zd_o42 zy_1597
theorem dL_law_1598 : decode cL_law 1598 = .ok (.iload 4, 2) := zd_iload zy_1598 zy_1599 rfl
theorem dL_law_1600 : decode cL_law 1600 = .ok (.iconst 1, 1) := zd_o4 zy_1600
theorem dL_law_1601 : decode cL_law 1601 = .ok (.iadd, 1) := zd_o96 zy_1601
theorem dL_law_1602 : decode cL_law 1602 = .ok (.iaload, 1) := zd_o46 zy_1602
theorem dL_law_1603 : decode cL_law 1603 = .ok (.invokevirtual 187, 3) := zd_invv zy_1603 zy_1604 zy_1605 rfl
theorem dL_law_1606 : decode cL_law 1606 = .ok (.pop, 1) := zd_o87 zy_1606
theorem dL_law_1607 : decode cL_law 1607 = .ok (.aload_n 2, 1) := zd_o44 zy_1607
theorem dL_law_1608 : decode cL_law 1608 = .ok (.aload_n 0, 1) := zd_o42 zy_1608
theorem dL_law_1609 : decode cL_law 1609 = .ok (.iload 4, 2) := zd_iload zy_1609 zy_1610 rfl
theorem dL_law_1611 : decode cL_law 1611 = .ok (.iconst 1, 1) := zd_o4 zy_1611
theorem dL_law_1612 : decode cL_law 1612 = .ok (.iadd, 1) := zd_o96 zy_1612
theorem dL_law_1613 : decode cL_law 1613 = .ok (.iaload, 1) := zd_o46 zy_1613
theorem dL_law_1614 : decode cL_law 1614 = .ok (.invokevirtual 190, 3) := zd_invv zy_1614 zy_1615 zy_1616 rfl
theorem dL_law_1617 : decode cL_law 1617 = .ok (.pop, 1) := zd_o87 zy_1617
theorem dL_law_1618 : decode cL_law 1618 = .ok (.goto 179, 3) := by decide +kernel
theorem dL_law_1621 : decode cL_law 1621 = .ok (.aload_n 1, 1) := zd_o43 zy_1621
theorem dL_law_1622 : decode cL_law 1622 = .ok (.aload_n 0, 1) := zd_o42 zy_1622
theorem dL_law_1623 : decode cL_law 1623 = .ok (.iload 4, 2) := zd_iload zy_1623 zy_1624 rfl
theorem dL_law_1625 : decode cL_law 1625 = .ok (.iconst 1, 1) := zd_o4 zy_1625
theorem dL_law_1626 : decode cL_law 1626 = .ok (.iadd, 1) := zd_o96 zy_1626
theorem dL_law_1627 : decode cL_law 1627 = .ok (.iaload, 1) := zd_o46 zy_1627
theorem dL_law_1628 : decode cL_law 1628 = .ok (.invokevirtual 191, 3) := zd_invv zy_1628 zy_1629 zy_1630 rfl
theorem dL_law_1631 : decode cL_law 1631 = .ok (.pop, 1) := zd_o87 zy_1631
theorem dL_law_1632 : decode cL_law 1632 = .ok (.aload_n 2, 1) := zd_o44 zy_1632
theorem dL_law_1633 : decode cL_law 1633 = .ok (.aload_n 0, 1) := zd_o42 zy_1633
theorem dL_law_1634 : decode cL_law 1634 = .ok (.iload 4, 2) := zd_iload zy_1634 zy_1635 rfl
theorem dL_law_1636 : decode cL_law 1636 = .ok (.iconst 1, 1) := zd_o4 zy_1636
theorem dL_law_1637 : decode cL_law 1637 = .ok (.iadd, 1) := zd_o96 zy_1637
theorem dL_law_1638 : decode cL_law 1638 = .ok (.iaload, 1) := zd_o46 zy_1638
theorem dL_law_1639 : decode cL_law 1639 = .ok (.invokevirtual 194, 3) := zd_invv zy_1639 zy_1640 zy_1641 rfl
theorem dL_law_1642 : decode cL_law 1642 = .ok (.pop, 1) := zd_o87 zy_1642
theorem dL_law_1643 : decode cL_law 1643 = .ok (.goto 154, 3) := by decide +kernel
theorem dL_law_1646 : decode cL_law 1646 = .ok (.aload_n 1, 1) := zd_o43 zy_1646
theorem dL_law_1647 : decode cL_law 1647 = .ok (.aload_n 0, 1) := zd_o42 zy_1647
theorem dL_law_1648 : decode cL_law 1648 = .ok (.iload 4, 2) := zd_iload zy_1648 zy_1649 rfl
theorem dL_law_1650 : decode cL_law 1650 = .ok (.iconst 1, 1) := zd_o4 zy_1650
theorem dL_law_1651 : decode cL_law 1651 = .ok (.iadd, 1) := zd_o96 zy_1651
theorem dL_law_1652 : decode cL_law 1652 = .ok (.iaload, 1) := zd_o46 zy_1652
theorem dL_law_1653 : decode cL_law 1653 = .ok (.invokevirtual 195, 3) := zd_invv zy_1653 zy_1654 zy_1655 rfl
theorem dL_law_1656 : decode cL_law 1656 = .ok (.pop, 1) := zd_o87 zy_1656
theorem dL_law_1657 : decode cL_law 1657 = .ok (.aload_n 2, 1) := zd_o44 zy_1657
theorem dL_law_1658 : decode cL_law 1658 = .ok (.aload_n 0, 1) := zd_o42 zy_1658
theorem dL_law_1659 : decode cL_law 1659 = .ok (.iload 4, 2) := zd_iload zy_1659 zy_1660 rfl
theorem dL_law_1661 : decode cL_law 1661 = .ok (.iconst 1, 1) := zd_o4 zy_1661
theorem dL_law_1662 : decode cL_law 1662 = .ok (.iadd, 1) := zd_o96 zy_1662
theorem dL_law_1663 : decode cL_law 1663 = .ok (.iaload, 1) := zd_o46 zy_1663
theorem dL_law_1664 : decode cL_law 1664 = .ok (.invokevirtual 198, 3) := zd_invv zy_1664 zy_1665 zy_1666 rfl
theorem dL_law_1667 : decode cL_law 1667 = .ok (.pop, 1) := zd_o87 zy_1667
theorem dL_law_1668 : decode cL_law 1668 = .ok (.goto 129, 3) := by decide +kernel
theorem dL_law_1671 : decode cL_law 1671 = .ok (.aload_n 1, 1) := zd_o43 zy_1671
theorem dL_law_1672 : decode cL_law 1672 = .ok (.aload_n 0, 1) := zd_o42 zy_1672
theorem dL_law_1673 : decode cL_law 1673 = .ok (.iload 4, 2) := zd_iload zy_1673 zy_1674 rfl
theorem dL_law_1675 : decode cL_law 1675 = .ok (.iconst 1, 1) := zd_o4 zy_1675
theorem dL_law_1676 : decode cL_law 1676 = .ok (.iadd, 1) := zd_o96 zy_1676
theorem dL_law_1677 : decode cL_law 1677 = .ok (.iaload, 1) := zd_o46 zy_1677
theorem dL_law_1678 : decode cL_law 1678 = .ok (.invokevirtual 199, 3) := zd_invv zy_1678 zy_1679 zy_1680 rfl
theorem dL_law_1681 : decode cL_law 1681 = .ok (.pop, 1) := zd_o87 zy_1681
theorem dL_law_1682 : decode cL_law 1682 = .ok (.aload_n 2, 1) := zd_o44 zy_1682
theorem dL_law_1683 : decode cL_law 1683 = .ok (.aload_n 0, 1) := zd_o42 zy_1683
theorem dL_law_1684 : decode cL_law 1684 = .ok (.iload 4, 2) := zd_iload zy_1684 zy_1685 rfl
theorem dL_law_1686 : decode cL_law 1686 = .ok (.iconst 1, 1) := zd_o4 zy_1686
theorem dL_law_1687 : decode cL_law 1687 = .ok (.iadd, 1) := zd_o96 zy_1687
theorem dL_law_1688 : decode cL_law 1688 = .ok (.iaload, 1) := zd_o46 zy_1688
theorem dL_law_1689 : decode cL_law 1689 = .ok (.invokevirtual 202, 3) := zd_invv zy_1689 zy_1690 zy_1691 rfl
theorem dL_law_1692 : decode cL_law 1692 = .ok (.pop, 1) := zd_o87 zy_1692
theorem dL_law_1693 : decode cL_law 1693 = .ok (.goto 104, 3) := by decide +kernel
theorem dL_law_1696 : decode cL_law 1696 = .ok (.aload_n 1, 1) := zd_o43 zy_1696
theorem dL_law_1697 : decode cL_law 1697 = .ok (.aload_n 0, 1) := zd_o42 zy_1697
theorem dL_law_1698 : decode cL_law 1698 = .ok (.iload 4, 2) := zd_iload zy_1698 zy_1699 rfl
theorem dL_law_1700 : decode cL_law 1700 = .ok (.iconst 1, 1) := zd_o4 zy_1700
theorem dL_law_1701 : decode cL_law 1701 = .ok (.iadd, 1) := zd_o96 zy_1701
theorem dL_law_1702 : decode cL_law 1702 = .ok (.iaload, 1) := zd_o46 zy_1702
theorem dL_law_1703 : decode cL_law 1703 = .ok (.invokevirtual 203, 3) := zd_invv zy_1703 zy_1704 zy_1705 rfl
theorem dL_law_1706 : decode cL_law 1706 = .ok (.pop, 1) := zd_o87 zy_1706
theorem dL_law_1707 : decode cL_law 1707 = .ok (.aload_n 2, 1) := zd_o44 zy_1707
theorem dL_law_1708 : decode cL_law 1708 = .ok (.aload_n 0, 1) := zd_o42 zy_1708
theorem dL_law_1709 : decode cL_law 1709 = .ok (.iload 4, 2) := zd_iload zy_1709 zy_1710 rfl
theorem dL_law_1711 : decode cL_law 1711 = .ok (.iconst 1, 1) := zd_o4 zy_1711
theorem dL_law_1712 : decode cL_law 1712 = .ok (.iadd, 1) := zd_o96 zy_1712
theorem dL_law_1713 : decode cL_law 1713 = .ok (.iaload, 1) := zd_o46 zy_1713
theorem dL_law_1714 : decode cL_law 1714 = .ok (.invokevirtual 206, 3) := zd_invv zy_1714 zy_1715 zy_1716 rfl
theorem dL_law_1717 : decode cL_law 1717 = .ok (.pop, 1) := zd_o87 zy_1717
theorem dL_law_1718 : decode cL_law 1718 = .ok (.goto 79, 3) := by decide +kernel
theorem dL_law_1721 : decode cL_law 1721 = .ok (.aload_n 1, 1) := zd_o43 zy_1721
theorem dL_law_1722 : decode cL_law 1722 = .ok (.aload_n 0, 1) := zd_o42 zy_1722
theorem dL_law_1723 : decode cL_law 1723 = .ok (.iload 4, 2) := zd_iload zy_1723 zy_1724 rfl
theorem dL_law_1725 : decode cL_law 1725 = .ok (.iconst 1, 1) := zd_o4 zy_1725
theorem dL_law_1726 : decode cL_law 1726 = .ok (.iadd, 1) := zd_o96 zy_1726
theorem dL_law_1727 : decode cL_law 1727 = .ok (.iaload, 1) := zd_o46 zy_1727
theorem dL_law_1728 : decode cL_law 1728 = .ok (.invokevirtual 207, 3) := zd_invv zy_1728 zy_1729 zy_1730 rfl
theorem dL_law_1731 : decode cL_law 1731 = .ok (.pop, 1) := zd_o87 zy_1731
theorem dL_law_1732 : decode cL_law 1732 = .ok (.aload_n 2, 1) := zd_o44 zy_1732
theorem dL_law_1733 : decode cL_law 1733 = .ok (.aload_n 0, 1) := zd_o42 zy_1733
theorem dL_law_1734 : decode cL_law 1734 = .ok (.iload 4, 2) := zd_iload zy_1734 zy_1735 rfl
theorem dL_law_1736 : decode cL_law 1736 = .ok (.iconst 1, 1) := zd_o4 zy_1736
theorem dL_law_1737 : decode cL_law 1737 = .ok (.iadd, 1) := zd_o96 zy_1737
theorem dL_law_1738 : decode cL_law 1738 = .ok (.iaload, 1) := zd_o46 zy_1738
theorem dL_law_1739 : decode cL_law 1739 = .ok (.invokevirtual 210, 3) := zd_invv zy_1739 zy_1740 zy_1741 rfl
theorem dL_law_1742 : decode cL_law 1742 = .ok (.pop, 1) := zd_o87 zy_1742
theorem dL_law_1743 : decode cL_law 1743 = .ok (.goto 54, 3) := by decide +kernel
theorem dL_law_1746 : decode cL_law 1746 = .ok (.aload_n 1, 1) := zd_o43 zy_1746
theorem dL_law_1747 : decode cL_law 1747 = .ok (.invokevirtual 211, 3) := zd_invv zy_1747 zy_1748 zy_1749 rfl
theorem dL_law_1750 : decode cL_law 1750 = .ok (.pop, 1) := zd_o87 zy_1750
theorem dL_law_1751 : decode cL_law 1751 = .ok (.aload_n 2, 1) := zd_o44 zy_1751
theorem dL_law_1752 : decode cL_law 1752 = .ok (.invokevirtual 214, 3) := zd_invv zy_1752 zy_1753 zy_1754 rfl
theorem dL_law_1755 : decode cL_law 1755 = .ok (.pop, 1) := zd_o87 zy_1755
theorem dL_law_1756 : decode cL_law 1756 = .ok (.goto 41, 3) := by decide +kernel
theorem dL_law_1759 : decode cL_law 1759 = .ok (.aload_n 1, 1) := zd_o43 zy_1759
theorem dL_law_1760 : decode cL_law 1760 = .ok (.invokevirtual 215, 3) := zd_invv zy_1760 zy_1761 zy_1762 rfl
theorem dL_law_1763 : decode cL_law 1763 = .ok (.pop, 1) := zd_o87 zy_1763
theorem dL_law_1764 : decode cL_law 1764 = .ok (.aload_n 2, 1) := zd_o44 zy_1764
theorem dL_law_1765 : decode cL_law 1765 = .ok (.invokevirtual 218, 3) := zd_invv zy_1765 zy_1766 zy_1767 rfl
theorem dL_law_1768 : decode cL_law 1768 = .ok (.pop, 1) := zd_o87 zy_1768
theorem dL_law_1769 : decode cL_law 1769 = .ok (.goto 28, 3) := by decide +kernel
theorem dL_law_1772 : decode cL_law 1772 = .ok (.aload_n 1, 1) := zd_o43 zy_1772
theorem dL_law_1773 : decode cL_law 1773 = .ok (.aload_n 0, 1) := zd_o42 zy_1773
theorem dL_law_1774 : decode cL_law 1774 = .ok (.iload 4, 2) := zd_iload zy_1774 zy_1775 rfl
theorem dL_law_1776 : decode cL_law 1776 = .ok (.iconst 1, 1) := zd_o4 zy_1776
theorem dL_law_1777 : decode cL_law 1777 = .ok (.iadd, 1) := zd_o96 zy_1777
theorem dL_law_1778 : decode cL_law 1778 = .ok (.iaload, 1) := zd_o46 zy_1778
theorem dL_law_1779 : decode cL_law 1779 = .ok (.invokevirtual 219, 3) := zd_invv zy_1779 zy_1780 zy_1781 rfl
theorem dL_law_1782 : decode cL_law 1782 = .ok (.pop, 1) := zd_o87 zy_1782
theorem dL_law_1783 : decode cL_law 1783 = .ok (.aload_n 2, 1) := zd_o44 zy_1783
theorem dL_law_1784 : decode cL_law 1784 = .ok (.aload_n 0, 1) := zd_o42 zy_1784
theorem dL_law_1785 : decode cL_law 1785 = .ok (.iload 4, 2) := zd_iload zy_1785 zy_1786 rfl
theorem dL_law_1787 : decode cL_law 1787 = .ok (.iconst 1, 1) := zd_o4 zy_1787
theorem dL_law_1788 : decode cL_law 1788 = .ok (.iadd, 1) := zd_o96 zy_1788
theorem dL_law_1789 : decode cL_law 1789 = .ok (.iaload, 1) := zd_o46 zy_1789
theorem dL_law_1790 : decode cL_law 1790 = .ok (.invokevirtual 222, 3) := zd_invv zy_1790 zy_1791 zy_1792 rfl
theorem dL_law_1793 : decode cL_law 1793 = .ok (.pop, 1) := zd_o87 zy_1793
set_option maxRecDepth 100000 in
theorem dL_law_1794_z : ((decode cL_law 1794 = .ok (.goto 3, 3) ∧ decode cL_law 1797 = .ok (.iinc 4 7, 3)) ∧ decode cL_law 1800 = .ok (.goto (-1777), 3)) := by decide +kernel
theorem dL_law_1794 : decode cL_law 1794 = .ok (.goto 3, 3) := dL_law_1794_z.1.1
theorem dL_law_1797 : decode cL_law 1797 = .ok (.iinc 4 7, 3) := dL_law_1794_z.1.2
theorem dL_law_1800 : decode cL_law 1800 = .ok (.goto (-1777), 3) := dL_law_1794_z.2
theorem dL_law_1803 : decode cL_law 1803 = .ok (.iconst 1, 1) := zd_o4 zy_1803
theorem dL_law_1804 : decode cL_law 1804 = .ok (.ireturn, 1) := by decide +kernel
set_option maxRecDepth 20000 in
theorem qw118 : Cond.classLink RL 8 RX10 ∈ wA := List.mem_filter.mpr ⟨zt1 (List.mem_of_getElem? (i := 21) rfl), (by decide +kernel)⟩
set_option maxRecDepth 20000 in
theorem qw119 : Cond.instantiable RX10 17 ∈ wA := List.mem_filter.mpr ⟨zt1 (List.mem_of_getElem? (i := 22) rfl), (by decide +kernel)⟩
set_option maxRecDepth 20000 in
theorem qw120 : Cond.methodLink RL 15 yX10_init ∈ wA := List.mem_filter.mpr ⟨zt1 (List.mem_of_getElem? (i := 23) rfl), (by decide +kernel)⟩
set_option maxRecDepth 20000 in
theorem qw121 : Cond.instanceMethod yX10_init ∈ wA := List.mem_filter.mpr ⟨zt1 (List.mem_of_getElem? (i := 24) rfl), (by decide +kernel)⟩
set_option maxRecDepth 20000 in
theorem qw122 : Cond.code yX10_init cX10_init 1 none ∈ wA := List.mem_filter.mpr ⟨zt1 (List.mem_of_getElem? (i := 25) rfl), (by decide +kernel)⟩
set_option maxRecDepth 20000 in
theorem qw123 : Cond.methodLink RX10 1 objectInit ∈ wA := List.mem_filter.mpr ⟨zt1 (List.mem_of_getElem? (i := 26) rfl), (by decide +kernel)⟩
set_option maxRecDepth 20000 in
theorem qw126 : Cond.classLink RX10 7 RX9 ∈ wA := List.mem_filter.mpr ⟨zt1 (List.mem_of_getElem? (i := 29) rfl), (by decide +kernel)⟩
set_option maxRecDepth 20000 in
theorem qw127 : Cond.instantiable RX9 3 ∈ wA := List.mem_filter.mpr ⟨zt1 (List.mem_of_getElem? (i := 30) rfl), (by decide +kernel)⟩
set_option maxRecDepth 20000 in
theorem qw129 : Cond.instanceMethod yX9_init ∈ wA := List.mem_filter.mpr ⟨zt1 (List.mem_of_getElem? (i := 32) rfl), (by decide +kernel)⟩
set_option maxRecDepth 20000 in
theorem qw130 : Cond.code yX9_init cX9_init 1 none ∈ wA := List.mem_filter.mpr ⟨zt1 (List.mem_of_getElem? (i := 33) rfl), (by decide +kernel)⟩
set_option maxRecDepth 20000 in
theorem qw131 : Cond.methodLink RX9 3 objectInit ∈ wA := List.mem_filter.mpr ⟨zt1 (List.mem_of_getElem? (i := 34) rfl), (by decide +kernel)⟩
set_option maxRecDepth 20000 in
theorem qw148 : Cond.classLink RX10 16 RX2 ∈ wA := List.mem_filter.mpr ⟨zt1 (List.mem_of_getElem? (i := 51) rfl), (by decide +kernel)⟩
set_option maxRecDepth 20000 in
theorem qw149 : Cond.instantiable RX2 3 ∈ wA := List.mem_filter.mpr ⟨zt1 (List.mem_of_getElem? (i := 52) rfl), (by decide +kernel)⟩
set_option maxRecDepth 20000 in
theorem qw151 : Cond.instanceMethod yX2_init ∈ wA := List.mem_filter.mpr ⟨zt1 (List.mem_of_getElem? (i := 54) rfl), (by decide +kernel)⟩
set_option maxRecDepth 20000 in
theorem qw152 : Cond.code yX2_init cX2_init 1 none ∈ wA := List.mem_filter.mpr ⟨zt1 (List.mem_of_getElem? (i := 55) rfl), (by decide +kernel)⟩
set_option maxRecDepth 20000 in
theorem qw153 : Cond.methodLink RX2 3 objectInit ∈ wA := List.mem_filter.mpr ⟨zt1 (List.mem_of_getElem? (i := 56) rfl), (by decide +kernel)⟩
set_option maxRecDepth 20000 in
theorem qw164 : Cond.classLink RX10 23 RX5 ∈ wA := List.mem_filter.mpr ⟨zt1 (List.mem_of_getElem? (i := 67) rfl), (by decide +kernel)⟩
set_option maxRecDepth 20000 in
theorem qw165 : Cond.instantiable RX5 3 ∈ wA := List.mem_filter.mpr ⟨zt1 (List.mem_of_getElem? (i := 68) rfl), (by decide +kernel)⟩
set_option maxRecDepth 20000 in
theorem qw167 : Cond.instanceMethod yX5_init ∈ wA := List.mem_filter.mpr ⟨zt1 (List.mem_of_getElem? (i := 70) rfl), (by decide +kernel)⟩
set_option maxRecDepth 20000 in
theorem qw168 : Cond.code yX5_init cX5_init 1 none ∈ wA := List.mem_filter.mpr ⟨zt1 (List.mem_of_getElem? (i := 71) rfl), (by decide +kernel)⟩
set_option maxRecDepth 20000 in
theorem qw169 : Cond.methodLink RX5 3 objectInit ∈ wA := List.mem_filter.mpr ⟨zt1 (List.mem_of_getElem? (i := 72) rfl), (by decide +kernel)⟩
set_option maxRecDepth 20000 in
theorem qw180 : Cond.classLink RX10 30 RX1 ∈ wA := List.mem_filter.mpr ⟨zt1 (List.mem_of_getElem? (i := 83) rfl), (by decide +kernel)⟩
set_option maxRecDepth 20000 in
theorem qw181 : Cond.instantiable RX1 5 ∈ wA := List.mem_filter.mpr ⟨zt1 (List.mem_of_getElem? (i := 84) rfl), (by decide +kernel)⟩
set_option maxRecDepth 20000 in
theorem qw183 : Cond.instanceMethod yX1_init ∈ wA := List.mem_filter.mpr ⟨zt1 (List.mem_of_getElem? (i := 86) rfl), (by decide +kernel)⟩
set_option maxRecDepth 20000 in
theorem qw184 : Cond.code yX1_init cX1_init 1 none ∈ wA := List.mem_filter.mpr ⟨zt1 (List.mem_of_getElem? (i := 87) rfl), (by decide +kernel)⟩
set_option maxRecDepth 20000 in
theorem qw185 : Cond.methodLink RX1 3 objectInit ∈ wA := List.mem_filter.mpr ⟨zt1 (List.mem_of_getElem? (i := 88) rfl), (by decide +kernel)⟩
set_option maxRecDepth 20000 in
theorem qw212 : Cond.classLink RX10 40 RX4 ∈ wA := List.mem_filter.mpr ⟨zt1 (List.mem_of_getElem? (i := 115) rfl), (by decide +kernel)⟩
set_option maxRecDepth 20000 in
theorem qw214 : Cond.classLink RX10 46 RX7 ∈ wA := List.mem_filter.mpr ⟨zt1 (List.mem_of_getElem? (i := 117) rfl), (by decide +kernel)⟩
set_option maxRecDepth 20000 in
theorem qw215 : Cond.instantiable RX7 9 ∈ wA := List.mem_filter.mpr ⟨zt1 (List.mem_of_getElem? (i := 118) rfl), (by decide +kernel)⟩
set_option maxRecDepth 20000 in
theorem qw217 : Cond.instanceMethod yX7_init ∈ wA := List.mem_filter.mpr ⟨zt1 (List.mem_of_getElem? (i := 120) rfl), (by decide +kernel)⟩
set_option maxRecDepth 20000 in
theorem qw218 : Cond.code yX7_init cX7_init 1 none ∈ wA := List.mem_filter.mpr ⟨zt1 (List.mem_of_getElem? (i := 121) rfl), (by decide +kernel)⟩
set_option maxRecDepth 20000 in
theorem qw219 : Cond.methodLink RX7 3 objectInit ∈ wA := List.mem_filter.mpr ⟨zt1 (List.mem_of_getElem? (i := 122) rfl), (by decide +kernel)⟩
set_option maxRecDepth 20000 in
theorem qw262 : Cond.classLink RX10 56 RX0 ∈ wA := List.mem_filter.mpr ⟨zt1 (List.mem_of_getElem? (i := 165) rfl), (by decide +kernel)⟩
set_option maxRecDepth 20000 in
theorem qw263 : Cond.instantiable RX0 3 ∈ wA := List.mem_filter.mpr ⟨zt1 (List.mem_of_getElem? (i := 166) rfl), (by decide +kernel)⟩
set_option maxRecDepth 20000 in
theorem qw265 : Cond.instanceMethod yX0_init ∈ wA := List.mem_filter.mpr ⟨zt1 (List.mem_of_getElem? (i := 168) rfl), (by decide +kernel)⟩
set_option maxRecDepth 20000 in
theorem qw266 : Cond.code yX0_init cX0_init 1 none ∈ wA := List.mem_filter.mpr ⟨zt1 (List.mem_of_getElem? (i := 169) rfl), (by decide +kernel)⟩
set_option maxRecDepth 20000 in
theorem qw267 : Cond.methodLink RX0 3 objectInit ∈ wA := List.mem_filter.mpr ⟨zt1 (List.mem_of_getElem? (i := 170) rfl), (by decide +kernel)⟩
set_option maxRecDepth 20000 in
theorem qw279 : Cond.classLink RX10 63 RX8 ∈ wA := List.mem_filter.mpr ⟨zt1 (List.mem_of_getElem? (i := 182) rfl), (by decide +kernel)⟩
set_option maxRecDepth 20000 in
theorem qw280 : Cond.instantiable RX8 7 ∈ wA := List.mem_filter.mpr ⟨zt1 (List.mem_of_getElem? (i := 183) rfl), (by decide +kernel)⟩
set_option maxRecDepth 20000 in
theorem qw281 : Cond.methodLink RX10 65 yX8_init ∈ wA := List.mem_filter.mpr ⟨zt1 (List.mem_of_getElem? (i := 184) rfl), (by decide +kernel)⟩
set_option maxRecDepth 20000 in
theorem qw282 : Cond.instanceMethod yX8_init ∈ wA := List.mem_filter.mpr ⟨zt1 (List.mem_of_getElem? (i := 185) rfl), (by decide +kernel)⟩
set_option maxRecDepth 20000 in
theorem qw283 : Cond.code yX8_init cX8_init 3 none ∈ wA := List.mem_filter.mpr ⟨zt1 (List.mem_of_getElem? (i := 186) rfl), (by decide +kernel)⟩
set_option maxRecDepth 20000 in
theorem qw284 : Cond.methodLink RX8 3 objectInit ∈ wA := List.mem_filter.mpr ⟨zt1 (List.mem_of_getElem? (i := 187) rfl), (by decide +kernel)⟩
set_option maxRecDepth 20000 in
theorem qw285 : Cond.fieldLink RX8 9 "NinePortraits$Studio" "oneLooks" "[I" ∈ wA := List.mem_filter.mpr ⟨zt1 (List.mem_of_getElem? (i := 188) rfl), (by decide +kernel)⟩
set_option maxRecDepth 20000 in
theorem qw287 : Cond.fieldLink RX8 15 "NinePortraits$Studio" "otherLooks" "[I" ∈ wA := List.mem_filter.mpr ⟨zt1 (List.mem_of_getElem? (i := 190) rfl), (by decide +kernel)⟩
set_option maxRecDepth 20000 in
theorem qw310 : Cond.classLink RX10 72 RX6 ∈ wA := List.mem_filter.mpr ⟨zt1 (List.mem_of_getElem? (i := 213) rfl), (by decide +kernel)⟩
set_option maxRecDepth 20000 in
theorem qw311 : Cond.instantiable RX6 9 ∈ wA := List.mem_filter.mpr ⟨zt1 (List.mem_of_getElem? (i := 214) rfl), (by decide +kernel)⟩
set_option maxRecDepth 20000 in
theorem qw312 : Cond.methodLink RX10 74 yX6_init ∈ wA := List.mem_filter.mpr ⟨zt1 (List.mem_of_getElem? (i := 215) rfl), (by decide +kernel)⟩
set_option maxRecDepth 20000 in
theorem qw313 : Cond.instanceMethod yX6_init ∈ wA := List.mem_filter.mpr ⟨zt1 (List.mem_of_getElem? (i := 216) rfl), (by decide +kernel)⟩
set_option maxRecDepth 20000 in
theorem qw314 : Cond.code yX6_init cX6_init 4 none ∈ wA := List.mem_filter.mpr ⟨zt1 (List.mem_of_getElem? (i := 217) rfl), (by decide +kernel)⟩
set_option maxRecDepth 20000 in
theorem qw315 : Cond.methodLink RX6 3 objectInit ∈ wA := List.mem_filter.mpr ⟨zt1 (List.mem_of_getElem? (i := 218) rfl), (by decide +kernel)⟩
set_option maxRecDepth 20000 in
theorem qw345 : Cond.arrayClass .long ∈ wA := List.mem_filter.mpr ⟨zt2 (List.mem_of_getElem? (i := 8) rfl), (by decide +kernel)⟩
set_option maxRecDepth 20000 in
theorem qw346 : Cond.classLink RX10 81 RX3 ∈ wA := List.mem_filter.mpr ⟨zt2 (List.mem_of_getElem? (i := 9) rfl), (by decide +kernel)⟩
set_option maxRecDepth 20000 in
theorem qw347 : Cond.instantiable RX3 1 ∈ wA := List.mem_filter.mpr ⟨zt2 (List.mem_of_getElem? (i := 10) rfl), (by decide +kernel)⟩
set_option maxRecDepth 20000 in
theorem qw349 : Cond.instanceMethod yX3_init ∈ wA := List.mem_filter.mpr ⟨zt2 (List.mem_of_getElem? (i := 12) rfl), (by decide +kernel)⟩
set_option maxRecDepth 20000 in
theorem qw350 : Cond.code yX3_init cX3_init 1 none ∈ wA := List.mem_filter.mpr ⟨zt2 (List.mem_of_getElem? (i := 13) rfl), (by decide +kernel)⟩
set_option maxRecDepth 20000 in
theorem qw351 : Cond.methodLink RX3 1 objectInit ∈ wA := List.mem_filter.mpr ⟨zt2 (List.mem_of_getElem? (i := 14) rfl), (by decide +kernel)⟩
set_option maxRecDepth 20000 in
theorem qw1121 : Cond.classLink RL 16 RX11 ∈ wA := List.mem_filter.mpr ⟨zt5 (List.mem_of_getElem? (i := 64) rfl), (by decide +kernel)⟩
set_option maxRecDepth 20000 in
theorem qw1122 : Cond.instantiable RX11 41 ∈ wA := List.mem_filter.mpr ⟨zt5 (List.mem_of_getElem? (i := 65) rfl), (by decide +kernel)⟩
set_option maxRecDepth 20000 in
theorem qw1123 : Cond.methodLink RL 18 yX11_init ∈ wA := List.mem_filter.mpr ⟨zt5 (List.mem_of_getElem? (i := 66) rfl), (by decide +kernel)⟩
set_option maxRecDepth 20000 in
theorem qw1124 : Cond.instanceMethod yX11_init ∈ wA := List.mem_filter.mpr ⟨zt5 (List.mem_of_getElem? (i := 67) rfl), (by decide +kernel)⟩
set_option maxRecDepth 20000 in
theorem qw1125 : Cond.code yX11_init cX11_init 1 none ∈ wA := List.mem_filter.mpr ⟨zt5 (List.mem_of_getElem? (i := 68) rfl), (by decide +kernel)⟩
set_option maxRecDepth 20000 in
theorem qw1126 : Cond.methodLink RX11 3 objectInit ∈ wA := List.mem_filter.mpr ⟨zt5 (List.mem_of_getElem? (i := 69) rfl), (by decide +kernel)⟩
set_option maxRecDepth 20000 in
theorem qw1761 : Cond.constantLong RL 102 4294967295 ∈ wA := List.mem_filter.mpr ⟨zt7 (List.mem_of_getElem? (i := 224) rfl), (by decide +kernel)⟩
theorem hd_X0_init : yX0_init.cls = RX0 ∧ yX0_init.cls ≠ "java/lang/invoke/MethodHandle" ∧ yX0_init.cls ≠ "java/lang/invoke/VarHandle" ∧ (parseMethodDescriptor yX0_init.desc).map (fun d => d.parameters.length) = some 0 := by decide +kernel
theorem hd_X10_init : yX10_init.cls = RX10 ∧ yX10_init.cls ≠ "java/lang/invoke/MethodHandle" ∧ yX10_init.cls ≠ "java/lang/invoke/VarHandle" ∧ (parseMethodDescriptor yX10_init.desc).map (fun d => d.parameters.length) = some 0 := by decide +kernel
theorem hd_X11_init : yX11_init.cls = RX11 ∧ yX11_init.cls ≠ "java/lang/invoke/MethodHandle" ∧ yX11_init.cls ≠ "java/lang/invoke/VarHandle" ∧ (parseMethodDescriptor yX11_init.desc).map (fun d => d.parameters.length) = some 0 := by decide +kernel
theorem hd_X1_init : yX1_init.cls = RX1 ∧ yX1_init.cls ≠ "java/lang/invoke/MethodHandle" ∧ yX1_init.cls ≠ "java/lang/invoke/VarHandle" ∧ (parseMethodDescriptor yX1_init.desc).map (fun d => d.parameters.length) = some 0 := by decide +kernel
theorem hd_X2_init : yX2_init.cls = RX2 ∧ yX2_init.cls ≠ "java/lang/invoke/MethodHandle" ∧ yX2_init.cls ≠ "java/lang/invoke/VarHandle" ∧ (parseMethodDescriptor yX2_init.desc).map (fun d => d.parameters.length) = some 0 := by decide +kernel
theorem hd_X3_init : yX3_init.cls = RX3 ∧ yX3_init.cls ≠ "java/lang/invoke/MethodHandle" ∧ yX3_init.cls ≠ "java/lang/invoke/VarHandle" ∧ (parseMethodDescriptor yX3_init.desc).map (fun d => d.parameters.length) = some 0 := by decide +kernel
theorem hd_X5_init : yX5_init.cls = RX5 ∧ yX5_init.cls ≠ "java/lang/invoke/MethodHandle" ∧ yX5_init.cls ≠ "java/lang/invoke/VarHandle" ∧ (parseMethodDescriptor yX5_init.desc).map (fun d => d.parameters.length) = some 0 := by decide +kernel
theorem hd_X6_init : yX6_init.cls = RX6 ∧ yX6_init.cls ≠ "java/lang/invoke/MethodHandle" ∧ yX6_init.cls ≠ "java/lang/invoke/VarHandle" ∧ (parseMethodDescriptor yX6_init.desc).map (fun d => d.parameters.length) = some 3 := by decide +kernel
theorem hd_X7_init : yX7_init.cls = RX7 ∧ yX7_init.cls ≠ "java/lang/invoke/MethodHandle" ∧ yX7_init.cls ≠ "java/lang/invoke/VarHandle" ∧ (parseMethodDescriptor yX7_init.desc).map (fun d => d.parameters.length) = some 0 := by decide +kernel
theorem hd_X8_init : yX8_init.cls = RX8 ∧ yX8_init.cls ≠ "java/lang/invoke/MethodHandle" ∧ yX8_init.cls ≠ "java/lang/invoke/VarHandle" ∧ (parseMethodDescriptor yX8_init.desc).map (fun d => d.parameters.length) = some 2 := by decide +kernel
theorem hd_X9_init : yX9_init.cls = RX9 ∧ yX9_init.cls ≠ "java/lang/invoke/MethodHandle" ∧ yX9_init.cls ≠ "java/lang/invoke/VarHandle" ∧ (parseMethodDescriptor yX9_init.desc).map (fun d => d.parameters.length) = some 0 := by decide +kernel
/-- the words that a constructor needs beside the tables' good ones: its nest mates' constructors, the array of laws -/
def zE (U : State) : Prop := va_Nw (.methodLinkNest RX10 9 yX9_init "NinePortraits") U ∧ va_Nw (.methodLinkNest RX10 18 yX2_init "NinePortraits") U ∧ va_Nw (.methodLinkNest RX10 25 yX5_init "NinePortraits") U ∧ va_Nw (.methodLinkNest RX10 32 yX1_init "NinePortraits") U ∧ va_Nw (.methodLinkNest RX10 48 yX7_init "NinePortraits") U ∧ va_Nw (.methodLinkNest RX10 58 yX0_init "NinePortraits") U ∧ va_Nw (.methodLinkNest RX10 83 yX3_init "NinePortraits") U ∧ va_AO "NinePortraits$Law" U
theorem zE_same {u U : State} (h : u.vm = U.vm) (z : zE u) : zE U := by
  obtain ⟨h1, h2, h3, h4, h5, h6, h7, h8⟩ := z
  exact ⟨h1.same rfl h, h2.same rfl h, h3.same rfl h, h4.same rfl h, h5.same rfl h, h6.same rfl h, h7.same rfl h, va_AO.moved (by rw [h]; exact Vm.Alike.refl U.vm) h8⟩
theorem zE_warm {s U : State} (hW : s.WarmedH U.vm) (z : zE s) : zE U := by
  obtain ⟨h1, h2, h3, h4, h5, h6, h7, h8⟩ := z
  exact ⟨h1.warmM hW, h2.warmM hW, h3.warmM hW, h4.warmM hW, h5.warmM hW, h6.warmM hW, h7.warmM hW, va_AO.moved hW.alike h8⟩
def zPE (D : va_G) (ts : List (ClassId × FieldType)) (av : List Value) (sz : Nat) (ws : va_W) : Array Value → State → Prop := fun v U => zP D ts av sz ws v U ∧ zE U
theorem zPES {D : va_G} {ts : List (ClassId × FieldType)} {As : List Value} {ws : va_W} {s : State} {H : Heap} {A : Nat → Prop} (hP : va_P D vwCl ws H) (hK : va_K D vwCl ts s) (hD : va_D A ws) (hE : zE s) : PreS s H (zPE D ts As H.size ws) As :=
  ⟨fun a U g mk q => ⟨zPb a U g mk q.1, zE_same (u := U) rfl q.2⟩, fun U hU hW => ⟨(zPS hP hK hD).2 U hU hW, zE_warm hW hE⟩⟩
set_option maxHeartbeats 4000000 in
set_option maxRecDepth 100000 in
theorem c_X9_init (l : Launch) (dC : Nat → ClassId) (dI : Nat → Nat → Nat) (cI cJ : ClassId) (h0 : Nat) (sz : Nat) : Met l yX9_init (.code yX9_init cX9_init 1 none :: wA) ({ frames := 1, cells := 1, slots := 260, locals := 20 }) (zP (dC, dI) [(cI, .int), (cJ, .long)] [.ref h0] sz [(h0, .inr (9, [.null, .int 0, .int 0]))]) (va_Qv (fun (_ : Unit) => True) (fun (_ : Unit) (t : State) => ∃ (q1 : Nat), va_P (dC, dI) vwCl [(h0, .inr (9, [.ref q1, .int 0, .int 0])), (q1, .inl (cI, 260, .inl (fun _ => 0)))] t.heap ∧ va_D (va_A [(h0, .inr (9, [.null, .int 0, .int 0]))] sz) [(h0, .inr (9, [.ref q1, .int 0, .int 0])), (q1, .inl (cI, 260, .inl (fun _ => 0)))]) (va_A [(h0, .inr (9, [.null, .int 0, .int 0]))] sz)) 1 260 (va_A [(h0, .inr (9, [.null, .int 0, .int 0]))] sz) := by
  refine Met.ofW (cc := cX9_init) (maxL := 1) (ret := none) (by decide) rfl ?_
  intro p e s m args below meth c s₁ B hml hv
  obtain ⟨rfl, hsz, hP, hK, hT⟩ := hv
  have hx := B.exec
  have hb := B.bytes
  have hr := B.returns
  have hts : ∀ w ∈ wA, w.before _ s = true := fun w h => atoms_spec (ws := .code yX9_init cX9_init 1 none :: wA) B.pre w (List.mem_cons_of_mem _ h)
  have hown : s.vm.findClass RX9 = some m.cls := findClass_of_methodNamed B.named
  have hlocks := B.notSynchronized
  have hin : meth.name = "<init>" := (name_of_methodNamed B.named B.method).1
  subst hsz
  have hD := hT.self (sz := s.heap.size)
  generalize hAe : va_A [(h0, .inr (9, [.null, .int 0, .int 0]))] s.heap.size = A at hD ⊢
  have hA : ∀ q : Nat, s.heap.size ≤ q → A q := fun q h => by rw [← hAe]; exact Or.inr h
  have hl := lv_entry ([.ref h0]) (n := 1) (Nat.le_of_ble_eq_true rfl)
  rw [lg_entry_eq]
  generalize (lg_sl ([.ref h0]) ++ List.replicate (1 - (lg_sl ([.ref h0])).length) Slot.unset).toArray = ls at hl ⊢
  have hl : lv_has ls 1 [(0, .ref h0)] := hl
  refine zstart (fun H hH => ?_)
  rw [← hH] at hP
  have hS : va_S A s.heap H [] := by rw [hH]; exact va_S.rf
  refine lv_aload_n hx hb dX9_init_0 rfl (lv_at hl 0 rfl) ?_
  refine W.objInit hx hb hown (hts _ qw131) (hts _ qw124) (hts _ qw125) rfl (by rw [hml]; exact hl.1) rfl dX9_init_1 (Nat.le_of_ble_eq_true rfl) (Nat.le_of_ble_eq_true rfl) ?_
  refine W.eq (g2 := F0 m 4 ls []) rfl ?_
  refine lv_aload_n hx hb dX9_init_4 rfl (lv_at hl 0 rfl) ?_
  refine lv_sipush (v := 260) hx hb dX9_init_5 (by decide) ?_
  refine va_newa (atype := .int) (ty := .int) (N' := 260) (a0 := (260, .inl (fun _ => 0))) hx hb (hts _ qw147) rfl hK hP hD hS hA (fun _ => rfl) (by decide) (by decide) (Nat.le_of_ble_eq_true rfl) (Nat.le_of_ble_eq_true rfl) (Nat.le_of_ble_eq_true rfl) dX9_init_8 (fun q1 cA H hK2 hP hD hS => ?_)
  obtain rfl : cI = cA := (zcA hK2 0 2 rfl rfl).symm
  have hP : va_P (dC, dI) vwCl [(h0, .inr (9, [.null, .int 0, .int 0])), (q1, .inl (cI, 260, .inl (fun _ => 0)))] H := hP
  have hD : va_D A [(h0, .inr (9, [.null, .int 0, .int 0])), (q1, .inl (cI, 260, .inl (fun _ => 0)))] := hD
  refine W.widen (k := 1) (n := 260) (Nat.le_of_ble_eq_true rfl) (Nat.le_of_ble_eq_true rfl) ?_
  refine va_putF (D := (dC, dI)) (ci := 9) (v := .ref q1) (ty := .array .int) (C := RX9) (T := TX9) (N := 3) hx hb hts iX9 tyX9 tyX9_ok nmX9 hown hK hP hD hS 0 rfl rfl 0 (by decide) (hts _ qw132) (fun _ h9 => h9) rfl hin rfl (by decide +kernel) rfl rfl (Nat.le_of_ble_eq_true rfl) dX9_init_10 (fun H locs hP hD hS => ?_)
  have hP : va_P (dC, dI) vwCl [(h0, .inr (9, [.ref q1, .int 0, .int 0])), (q1, .inl (cI, 260, .inl (fun _ => 0)))] H := hP
  have hD : va_D A [(h0, .inr (9, [.ref q1, .int 0, .int 0])), (q1, .inl (cI, 260, .inl (fun _ => 0)))] := hD
  exact W.vret hx hb hr (fun t ht hW => ⟨⟨(), rfl, trivial, ⟨q1, by rw [ht]; exact hP, hD⟩⟩, hS.F ht⟩) hS.2.2 dX9_init_13
set_option maxHeartbeats 4000000 in
set_option maxRecDepth 100000 in
theorem c_X2_init (l : Launch) (dC : Nat → ClassId) (dI : Nat → Nat → Nat) (cI cJ : ClassId) (h0 : Nat) (sz : Nat) : Met l yX2_init (.code yX2_init cX2_init 1 none :: wA) ({ frames := 1, cells := 0, slots := 0, locals := 20 }) (zP (dC, dI) [(cI, .int), (cJ, .long)] [.ref h0] sz []) (va_Qv (fun (_ : Unit) => True) (fun (_ : Unit) (_ : State) => True) (va_A [] sz)) 0 0 (va_A [] sz) := by
  refine Met.ofW (cc := cX2_init) (maxL := 1) (ret := none) (by decide) rfl ?_
  intro p e s m args below meth c s₁ B hml hv
  obtain ⟨rfl, hsz, hP, hK, hT⟩ := hv
  have hx := B.exec
  have hb := B.bytes
  have hr := B.returns
  have hts : ∀ w ∈ wA, w.before _ s = true := fun w h => atoms_spec (ws := .code yX2_init cX2_init 1 none :: wA) B.pre w (List.mem_cons_of_mem _ h)
  have hown : s.vm.findClass RX2 = some m.cls := findClass_of_methodNamed B.named
  have hlocks := B.notSynchronized
  have hin : meth.name = "<init>" := (name_of_methodNamed B.named B.method).1
  subst hsz
  have hD : va_D (va_A [] s.heap.size) [] := zD0
  generalize hAe : va_A [] s.heap.size = A at hD ⊢
  have hA : ∀ q : Nat, s.heap.size ≤ q → A q := fun q h => by rw [← hAe]; exact Or.inr h
  have hl := lv_entry ([.ref h0]) (n := 1) (Nat.le_of_ble_eq_true rfl)
  rw [lg_entry_eq]
  generalize (lg_sl ([.ref h0]) ++ List.replicate (1 - (lg_sl ([.ref h0])).length) Slot.unset).toArray = ls at hl ⊢
  have hl : lv_has ls 1 [(0, .ref h0)] := hl
  refine zstart (fun H hH => ?_)
  rw [← hH] at hP
  have hS : va_S A s.heap H [] := by rw [hH]; exact va_S.rf
  refine lv_aload_n hx hb dX2_init_0 rfl (lv_at hl 0 rfl) ?_
  refine W.objInit hx hb hown (hts _ qw153) (hts _ qw124) (hts _ qw125) rfl (by rw [hml]; exact hl.1) rfl dX2_init_1 (Nat.le_of_ble_eq_true rfl) (Nat.le_of_ble_eq_true rfl) ?_
  refine W.eq (g2 := F0 m 4 ls []) rfl ?_
  exact W.vret hx hb hr (fun t ht hW => ⟨⟨(), rfl, trivial, trivial⟩, hS.F ht⟩) hS.2.2 dX2_init_4
set_option maxHeartbeats 4000000 in
set_option maxRecDepth 100000 in
theorem c_X5_init (l : Launch) (dC : Nat → ClassId) (dI : Nat → Nat → Nat) (cI cJ : ClassId) (h0 : Nat) (sz : Nat) : Met l yX5_init (.code yX5_init cX5_init 1 none :: wA) ({ frames := 1, cells := 1, slots := 241, locals := 20 }) (zP (dC, dI) [(cI, .int), (cJ, .long)] [.ref h0] sz [(h0, .inr (5, [.null, .int 0, .null]))]) (va_Qv (fun (_ : Unit) => True) (fun (_ : Unit) (t : State) => ∃ (q1 : Nat), va_P (dC, dI) vwCl [(h0, .inr (5, [.ref q1, .int 0, .null])), (q1, .inl (cI, 241, .inl (fun _ => 0)))] t.heap ∧ va_D (va_A [(h0, .inr (5, [.null, .int 0, .null]))] sz) [(h0, .inr (5, [.ref q1, .int 0, .null])), (q1, .inl (cI, 241, .inl (fun _ => 0)))]) (va_A [(h0, .inr (5, [.null, .int 0, .null]))] sz)) 1 241 (va_A [(h0, .inr (5, [.null, .int 0, .null]))] sz) := by
  refine Met.ofW (cc := cX5_init) (maxL := 1) (ret := none) (by decide) rfl ?_
  intro p e s m args below meth c s₁ B hml hv
  obtain ⟨rfl, hsz, hP, hK, hT⟩ := hv
  have hx := B.exec
  have hb := B.bytes
  have hr := B.returns
  have hts : ∀ w ∈ wA, w.before _ s = true := fun w h => atoms_spec (ws := .code yX5_init cX5_init 1 none :: wA) B.pre w (List.mem_cons_of_mem _ h)
  have hown : s.vm.findClass RX5 = some m.cls := findClass_of_methodNamed B.named
  have hlocks := B.notSynchronized
  have hin : meth.name = "<init>" := (name_of_methodNamed B.named B.method).1
  subst hsz
  have hD := hT.self (sz := s.heap.size)
  generalize hAe : va_A [(h0, .inr (5, [.null, .int 0, .null]))] s.heap.size = A at hD ⊢
  have hA : ∀ q : Nat, s.heap.size ≤ q → A q := fun q h => by rw [← hAe]; exact Or.inr h
  have hl := lv_entry ([.ref h0]) (n := 1) (Nat.le_of_ble_eq_true rfl)
  rw [lg_entry_eq]
  generalize (lg_sl ([.ref h0]) ++ List.replicate (1 - (lg_sl ([.ref h0])).length) Slot.unset).toArray = ls at hl ⊢
  have hl : lv_has ls 1 [(0, .ref h0)] := hl
  refine zstart (fun H hH => ?_)
  rw [← hH] at hP
  have hS : va_S A s.heap H [] := by rw [hH]; exact va_S.rf
  refine lv_aload_n hx hb dX5_init_0 rfl (lv_at hl 0 rfl) ?_
  refine W.objInit hx hb hown (hts _ qw169) (hts _ qw124) (hts _ qw125) rfl (by rw [hml]; exact hl.1) rfl dX5_init_1 (Nat.le_of_ble_eq_true rfl) (Nat.le_of_ble_eq_true rfl) ?_
  refine W.eq (g2 := F0 m 4 ls []) rfl ?_
  refine lv_aload_n hx hb dX5_init_4 rfl (lv_at hl 0 rfl) ?_
  refine lv_sipush (v := 241) hx hb dX5_init_5 (by decide) ?_
  refine va_newa (atype := .int) (ty := .int) (N' := 241) (a0 := (241, .inl (fun _ => 0))) hx hb (hts _ qw147) rfl hK hP hD hS hA (fun _ => rfl) (by decide) (by decide) (Nat.le_of_ble_eq_true rfl) (Nat.le_of_ble_eq_true rfl) (Nat.le_of_ble_eq_true rfl) dX5_init_8 (fun q1 cA H hK2 hP hD hS => ?_)
  obtain rfl : cI = cA := (zcA hK2 0 2 rfl rfl).symm
  have hP : va_P (dC, dI) vwCl [(h0, .inr (5, [.null, .int 0, .null])), (q1, .inl (cI, 241, .inl (fun _ => 0)))] H := hP
  have hD : va_D A [(h0, .inr (5, [.null, .int 0, .null])), (q1, .inl (cI, 241, .inl (fun _ => 0)))] := hD
  refine W.widen (k := 1) (n := 241) (Nat.le_of_ble_eq_true rfl) (Nat.le_of_ble_eq_true rfl) ?_
  refine va_putF (D := (dC, dI)) (ci := 5) (v := .ref q1) (ty := .array .int) (C := RX5) (T := TX5) (N := 3) hx hb hts iX5 tyX5 tyX5_ok nmX5 hown hK hP hD hS 0 rfl rfl 0 (by decide) (hts _ qw170) (fun _ h9 => h9) rfl hin rfl (by decide +kernel) rfl rfl (Nat.le_of_ble_eq_true rfl) dX5_init_10 (fun H locs hP hD hS => ?_)
  have hP : va_P (dC, dI) vwCl [(h0, .inr (5, [.ref q1, .int 0, .null])), (q1, .inl (cI, 241, .inl (fun _ => 0)))] H := hP
  have hD : va_D A [(h0, .inr (5, [.ref q1, .int 0, .null])), (q1, .inl (cI, 241, .inl (fun _ => 0)))] := hD
  exact W.vret hx hb hr (fun t ht hW => ⟨⟨(), rfl, trivial, ⟨q1, by rw [ht]; exact hP, hD⟩⟩, hS.F ht⟩) hS.2.2 dX5_init_13
set_option maxHeartbeats 4000000 in
set_option maxRecDepth 100000 in
theorem c_X1_init (l : Launch) (dC : Nat → ClassId) (dI : Nat → Nat → Nat) (cI cJ : ClassId) (h0 : Nat) (sz : Nat) : Met l yX1_init (.code yX1_init cX1_init 1 none :: wA) ({ frames := 1, cells := 3, slots := 47, locals := 20 }) (zP (dC, dI) [(cI, .int), (cJ, .long)] [.ref h0] sz [(h0, .inr (1, [.null, .null, .null, .int 0, .int 0]))]) (va_Qv (fun (_ : Unit) => True) (fun (_ : Unit) (t : State) => ∃ (q1 : Nat) (q2 : Nat) (q3 : Nat), va_P (dC, dI) vwCl [(h0, .inr (1, [.ref q1, .ref q2, .ref q3, .int 0, .int 0])), (q1, .inl (cI, 3, .inl (fun _ => 0))), (q2, .inl (cI, 24, .inl (fun _ => 0))), (q3, .inl (cI, 20, .inl (fun _ => 0)))] t.heap ∧ va_D (va_A [(h0, .inr (1, [.null, .null, .null, .int 0, .int 0]))] sz) [(h0, .inr (1, [.ref q1, .ref q2, .ref q3, .int 0, .int 0])), (q1, .inl (cI, 3, .inl (fun _ => 0))), (q2, .inl (cI, 24, .inl (fun _ => 0))), (q3, .inl (cI, 20, .inl (fun _ => 0)))]) (va_A [(h0, .inr (1, [.null, .null, .null, .int 0, .int 0]))] sz)) 3 47 (va_A [(h0, .inr (1, [.null, .null, .null, .int 0, .int 0]))] sz) := by
  refine Met.ofW (cc := cX1_init) (maxL := 1) (ret := none) (by decide) rfl ?_
  intro p e s m args below meth c s₁ B hml hv
  obtain ⟨rfl, hsz, hP, hK, hT⟩ := hv
  have hx := B.exec
  have hb := B.bytes
  have hr := B.returns
  have hts : ∀ w ∈ wA, w.before _ s = true := fun w h => atoms_spec (ws := .code yX1_init cX1_init 1 none :: wA) B.pre w (List.mem_cons_of_mem _ h)
  have hown : s.vm.findClass RX1 = some m.cls := findClass_of_methodNamed B.named
  have hlocks := B.notSynchronized
  have hin : meth.name = "<init>" := (name_of_methodNamed B.named B.method).1
  subst hsz
  have hD := hT.self (sz := s.heap.size)
  generalize hAe : va_A [(h0, .inr (1, [.null, .null, .null, .int 0, .int 0]))] s.heap.size = A at hD ⊢
  have hA : ∀ q : Nat, s.heap.size ≤ q → A q := fun q h => by rw [← hAe]; exact Or.inr h
  have hl := lv_entry ([.ref h0]) (n := 1) (Nat.le_of_ble_eq_true rfl)
  rw [lg_entry_eq]
  generalize (lg_sl ([.ref h0]) ++ List.replicate (1 - (lg_sl ([.ref h0])).length) Slot.unset).toArray = ls at hl ⊢
  have hl : lv_has ls 1 [(0, .ref h0)] := hl
  refine zstart (fun H hH => ?_)
  rw [← hH] at hP
  have hS : va_S A s.heap H [] := by rw [hH]; exact va_S.rf
  refine lv_aload_n hx hb dX1_init_0 rfl (lv_at hl 0 rfl) ?_
  refine W.objInit hx hb hown (hts _ qw185) (hts _ qw124) (hts _ qw125) rfl (by rw [hml]; exact hl.1) rfl dX1_init_1 (Nat.le_of_ble_eq_true rfl) (Nat.le_of_ble_eq_true rfl) ?_
  refine W.eq (g2 := F0 m 4 ls []) rfl ?_
  refine lv_aload_n hx hb dX1_init_4 rfl (lv_at hl 0 rfl) ?_
  refine lv_iconst (v := 3) hx hb dX1_init_5 (by decide) ?_
  refine va_newa (atype := .int) (ty := .int) (N' := 3) (a0 := (3, .inl (fun _ => 0))) hx hb (hts _ qw147) rfl hK hP hD hS hA (fun _ => rfl) (by decide) (by decide) (Nat.le_of_ble_eq_true rfl) (Nat.le_of_ble_eq_true rfl) (Nat.le_of_ble_eq_true rfl) dX1_init_6 (fun q1 cA H hK2 hP hD hS => ?_)
  obtain rfl : cI = cA := (zcA hK2 0 2 rfl rfl).symm
  have hP : va_P (dC, dI) vwCl [(h0, .inr (1, [.null, .null, .null, .int 0, .int 0])), (q1, .inl (cI, 3, .inl (fun _ => 0)))] H := hP
  have hD : va_D A [(h0, .inr (1, [.null, .null, .null, .int 0, .int 0])), (q1, .inl (cI, 3, .inl (fun _ => 0)))] := hD
  refine W.widen (k := 1) (n := 3) (Nat.le_of_ble_eq_true rfl) (Nat.le_of_ble_eq_true rfl) ?_
  refine va_putF (D := (dC, dI)) (ci := 1) (v := .ref q1) (ty := .array .int) (C := RX1) (T := TX1) (N := 5) hx hb hts iX1 tyX1 tyX1_ok nmX1 hown hK hP hD hS 0 rfl rfl 0 (by decide) (hts _ qw186) (fun _ h9 => h9) rfl hin rfl (by decide +kernel) rfl rfl (Nat.le_of_ble_eq_true rfl) dX1_init_8 (fun H locs hP hD hS => ?_)
  have hP : va_P (dC, dI) vwCl [(h0, .inr (1, [.ref q1, .null, .null, .int 0, .int 0])), (q1, .inl (cI, 3, .inl (fun _ => 0)))] H := hP
  have hD : va_D A [(h0, .inr (1, [.ref q1, .null, .null, .int 0, .int 0])), (q1, .inl (cI, 3, .inl (fun _ => 0)))] := hD
  refine lv_aload_n hx hb dX1_init_11 rfl (lv_at hl 0 rfl) ?_
  refine lv_bipush (v := 24) hx hb dX1_init_12 (by decide) ?_
  refine va_newa (atype := .int) (ty := .int) (N' := 24) (a0 := (24, .inl (fun _ => 0))) hx hb (hts _ qw147) rfl hK hP hD hS hA (fun _ => rfl) (by decide) (by decide) (Nat.le_of_ble_eq_true rfl) (Nat.le_of_ble_eq_true rfl) (Nat.le_of_ble_eq_true rfl) dX1_init_14 (fun q2 cA H hK2 hP hD hS => ?_)
  obtain rfl : cI = cA := (zcA hK2 0 2 rfl rfl).symm
  have hP : va_P (dC, dI) vwCl [(h0, .inr (1, [.ref q1, .null, .null, .int 0, .int 0])), (q1, .inl (cI, 3, .inl (fun _ => 0))), (q2, .inl (cI, 24, .inl (fun _ => 0)))] H := hP
  have hD : va_D A [(h0, .inr (1, [.ref q1, .null, .null, .int 0, .int 0])), (q1, .inl (cI, 3, .inl (fun _ => 0))), (q2, .inl (cI, 24, .inl (fun _ => 0)))] := hD
  refine W.widen (k := 2) (n := 27) (Nat.le_of_ble_eq_true rfl) (Nat.le_of_ble_eq_true rfl) ?_
  refine va_putF (D := (dC, dI)) (ci := 1) (v := .ref q2) (ty := .array .int) (C := RX1) (T := TX1) (N := 5) hx hb hts iX1 tyX1 tyX1_ok nmX1 hown hK hP hD hS 0 rfl rfl 1 (by decide) (hts _ qw188) (fun _ h9 => h9) rfl hin rfl (by decide +kernel) rfl rfl (Nat.le_of_ble_eq_true rfl) dX1_init_16 (fun H locs hP hD hS => ?_)
  have hP : va_P (dC, dI) vwCl [(h0, .inr (1, [.ref q1, .ref q2, .null, .int 0, .int 0])), (q1, .inl (cI, 3, .inl (fun _ => 0))), (q2, .inl (cI, 24, .inl (fun _ => 0)))] H := hP
  have hD : va_D A [(h0, .inr (1, [.ref q1, .ref q2, .null, .int 0, .int 0])), (q1, .inl (cI, 3, .inl (fun _ => 0))), (q2, .inl (cI, 24, .inl (fun _ => 0)))] := hD
  refine lv_aload_n hx hb dX1_init_19 rfl (lv_at hl 0 rfl) ?_
  refine lv_bipush (v := 20) hx hb dX1_init_20 (by decide) ?_
  refine va_newa (atype := .int) (ty := .int) (N' := 20) (a0 := (20, .inl (fun _ => 0))) hx hb (hts _ qw147) rfl hK hP hD hS hA (fun _ => rfl) (by decide) (by decide) (Nat.le_of_ble_eq_true rfl) (Nat.le_of_ble_eq_true rfl) (Nat.le_of_ble_eq_true rfl) dX1_init_22 (fun q3 cA H hK2 hP hD hS => ?_)
  obtain rfl : cI = cA := (zcA hK2 0 2 rfl rfl).symm
  have hP : va_P (dC, dI) vwCl [(h0, .inr (1, [.ref q1, .ref q2, .null, .int 0, .int 0])), (q1, .inl (cI, 3, .inl (fun _ => 0))), (q2, .inl (cI, 24, .inl (fun _ => 0))), (q3, .inl (cI, 20, .inl (fun _ => 0)))] H := hP
  have hD : va_D A [(h0, .inr (1, [.ref q1, .ref q2, .null, .int 0, .int 0])), (q1, .inl (cI, 3, .inl (fun _ => 0))), (q2, .inl (cI, 24, .inl (fun _ => 0))), (q3, .inl (cI, 20, .inl (fun _ => 0)))] := hD
  refine W.widen (k := 3) (n := 47) (Nat.le_of_ble_eq_true rfl) (Nat.le_of_ble_eq_true rfl) ?_
  refine va_putF (D := (dC, dI)) (ci := 1) (v := .ref q3) (ty := .array .int) (C := RX1) (T := TX1) (N := 5) hx hb hts iX1 tyX1 tyX1_ok nmX1 hown hK hP hD hS 0 rfl rfl 2 (by decide) (hts _ qw190) (fun _ h9 => h9) rfl hin rfl (by decide +kernel) rfl rfl (Nat.le_of_ble_eq_true rfl) dX1_init_24 (fun H locs hP hD hS => ?_)
  have hP : va_P (dC, dI) vwCl [(h0, .inr (1, [.ref q1, .ref q2, .ref q3, .int 0, .int 0])), (q1, .inl (cI, 3, .inl (fun _ => 0))), (q2, .inl (cI, 24, .inl (fun _ => 0))), (q3, .inl (cI, 20, .inl (fun _ => 0)))] H := hP
  have hD : va_D A [(h0, .inr (1, [.ref q1, .ref q2, .ref q3, .int 0, .int 0])), (q1, .inl (cI, 3, .inl (fun _ => 0))), (q2, .inl (cI, 24, .inl (fun _ => 0))), (q3, .inl (cI, 20, .inl (fun _ => 0)))] := hD
  exact W.vret hx hb hr (fun t ht hW => ⟨⟨(), rfl, trivial, ⟨q1, q2, q3, by rw [ht]; exact hP, hD⟩⟩, hS.F ht⟩) hS.2.2 dX1_init_27
set_option maxHeartbeats 4000000 in
set_option maxRecDepth 100000 in
theorem c_X7_init (l : Launch) (dC : Nat → ClassId) (dI : Nat → Nat → Nat) (cI cJ : ClassId) (h0 : Nat) (sz : Nat) : Met l yX7_init (.code yX7_init cX7_init 1 none :: wA) ({ frames := 1, cells := 3, slots := 91, locals := 20 }) (zP (dC, dI) [(cI, .int), (cJ, .long)] [.ref h0] sz [(h0, .inr (7, [.null, .null, .null, .int 0, .int 0, .int 0, .int 0, .int 0, .int 0]))]) (va_Qv (fun (_ : Unit) => True) (fun (_ : Unit) (t : State) => ∃ (q1 : Nat) (q2 : Nat) (q3 : Nat), va_P (dC, dI) vwCl [(h0, .inr (7, [.ref q1, .ref q2, .ref q3, .int 0, .int 0, .int 0, .int (-1), .int 0, .int 0])), (q1, .inl (cI, 6, .inl (fun _ => 0))), (q2, .inl (cI, 5, .inl (fun _ => 0))), (q3, .inl (cI, 80, .inl (fun _ => 0)))] t.heap ∧ va_D (va_A [(h0, .inr (7, [.null, .null, .null, .int 0, .int 0, .int 0, .int 0, .int 0, .int 0]))] sz) [(h0, .inr (7, [.ref q1, .ref q2, .ref q3, .int 0, .int 0, .int 0, .int (-1), .int 0, .int 0])), (q1, .inl (cI, 6, .inl (fun _ => 0))), (q2, .inl (cI, 5, .inl (fun _ => 0))), (q3, .inl (cI, 80, .inl (fun _ => 0)))]) (va_A [(h0, .inr (7, [.null, .null, .null, .int 0, .int 0, .int 0, .int 0, .int 0, .int 0]))] sz)) 3 91 (va_A [(h0, .inr (7, [.null, .null, .null, .int 0, .int 0, .int 0, .int 0, .int 0, .int 0]))] sz) := by
  refine Met.ofW (cc := cX7_init) (maxL := 1) (ret := none) (by decide) rfl ?_
  intro p e s m args below meth c s₁ B hml hv
  obtain ⟨rfl, hsz, hP, hK, hT⟩ := hv
  have hx := B.exec
  have hb := B.bytes
  have hr := B.returns
  have hts : ∀ w ∈ wA, w.before _ s = true := fun w h => atoms_spec (ws := .code yX7_init cX7_init 1 none :: wA) B.pre w (List.mem_cons_of_mem _ h)
  have hown : s.vm.findClass RX7 = some m.cls := findClass_of_methodNamed B.named
  have hlocks := B.notSynchronized
  have hin : meth.name = "<init>" := (name_of_methodNamed B.named B.method).1
  subst hsz
  have hD := hT.self (sz := s.heap.size)
  generalize hAe : va_A [(h0, .inr (7, [.null, .null, .null, .int 0, .int 0, .int 0, .int 0, .int 0, .int 0]))] s.heap.size = A at hD ⊢
  have hA : ∀ q : Nat, s.heap.size ≤ q → A q := fun q h => by rw [← hAe]; exact Or.inr h
  have hl := lv_entry ([.ref h0]) (n := 1) (Nat.le_of_ble_eq_true rfl)
  rw [lg_entry_eq]
  generalize (lg_sl ([.ref h0]) ++ List.replicate (1 - (lg_sl ([.ref h0])).length) Slot.unset).toArray = ls at hl ⊢
  have hl : lv_has ls 1 [(0, .ref h0)] := hl
  refine zstart (fun H hH => ?_)
  rw [← hH] at hP
  have hS : va_S A s.heap H [] := by rw [hH]; exact va_S.rf
  refine lv_aload_n hx hb dX7_init_0 rfl (lv_at hl 0 rfl) ?_
  refine W.objInit hx hb hown (hts _ qw219) (hts _ qw124) (hts _ qw125) rfl (by rw [hml]; exact hl.1) rfl dX7_init_1 (Nat.le_of_ble_eq_true rfl) (Nat.le_of_ble_eq_true rfl) ?_
  refine W.eq (g2 := F0 m 4 ls []) rfl ?_
  refine lv_aload_n hx hb dX7_init_4 rfl (lv_at hl 0 rfl) ?_
  refine lv_bipush (v := 6) hx hb dX7_init_5 (by decide) ?_
  refine va_newa (atype := .int) (ty := .int) (N' := 6) (a0 := (6, .inl (fun _ => 0))) hx hb (hts _ qw147) rfl hK hP hD hS hA (fun _ => rfl) (by decide) (by decide) (Nat.le_of_ble_eq_true rfl) (Nat.le_of_ble_eq_true rfl) (Nat.le_of_ble_eq_true rfl) dX7_init_7 (fun q1 cA H hK2 hP hD hS => ?_)
  obtain rfl : cI = cA := (zcA hK2 0 2 rfl rfl).symm
  have hP : va_P (dC, dI) vwCl [(h0, .inr (7, [.null, .null, .null, .int 0, .int 0, .int 0, .int 0, .int 0, .int 0])), (q1, .inl (cI, 6, .inl (fun _ => 0)))] H := hP
  have hD : va_D A [(h0, .inr (7, [.null, .null, .null, .int 0, .int 0, .int 0, .int 0, .int 0, .int 0])), (q1, .inl (cI, 6, .inl (fun _ => 0)))] := hD
  refine W.widen (k := 1) (n := 6) (Nat.le_of_ble_eq_true rfl) (Nat.le_of_ble_eq_true rfl) ?_
  refine va_putF (D := (dC, dI)) (ci := 7) (v := .ref q1) (ty := .array .int) (C := RX7) (T := TX7) (N := 9) hx hb hts iX7 tyX7 tyX7_ok nmX7 hown hK hP hD hS 0 rfl rfl 0 (by decide) (hts _ qw220) (fun _ h9 => h9) rfl hin rfl (by decide +kernel) rfl rfl (Nat.le_of_ble_eq_true rfl) dX7_init_9 (fun H locs hP hD hS => ?_)
  have hP : va_P (dC, dI) vwCl [(h0, .inr (7, [.ref q1, .null, .null, .int 0, .int 0, .int 0, .int 0, .int 0, .int 0])), (q1, .inl (cI, 6, .inl (fun _ => 0)))] H := hP
  have hD : va_D A [(h0, .inr (7, [.ref q1, .null, .null, .int 0, .int 0, .int 0, .int 0, .int 0, .int 0])), (q1, .inl (cI, 6, .inl (fun _ => 0)))] := hD
  refine lv_aload_n hx hb dX7_init_12 rfl (lv_at hl 0 rfl) ?_
  refine lv_iconst (v := 5) hx hb dX7_init_13 (by decide) ?_
  refine va_newa (atype := .int) (ty := .int) (N' := 5) (a0 := (5, .inl (fun _ => 0))) hx hb (hts _ qw147) rfl hK hP hD hS hA (fun _ => rfl) (by decide) (by decide) (Nat.le_of_ble_eq_true rfl) (Nat.le_of_ble_eq_true rfl) (Nat.le_of_ble_eq_true rfl) dX7_init_14 (fun q2 cA H hK2 hP hD hS => ?_)
  obtain rfl : cI = cA := (zcA hK2 0 2 rfl rfl).symm
  have hP : va_P (dC, dI) vwCl [(h0, .inr (7, [.ref q1, .null, .null, .int 0, .int 0, .int 0, .int 0, .int 0, .int 0])), (q1, .inl (cI, 6, .inl (fun _ => 0))), (q2, .inl (cI, 5, .inl (fun _ => 0)))] H := hP
  have hD : va_D A [(h0, .inr (7, [.ref q1, .null, .null, .int 0, .int 0, .int 0, .int 0, .int 0, .int 0])), (q1, .inl (cI, 6, .inl (fun _ => 0))), (q2, .inl (cI, 5, .inl (fun _ => 0)))] := hD
  refine W.widen (k := 2) (n := 11) (Nat.le_of_ble_eq_true rfl) (Nat.le_of_ble_eq_true rfl) ?_
  refine va_putF (D := (dC, dI)) (ci := 7) (v := .ref q2) (ty := .array .int) (C := RX7) (T := TX7) (N := 9) hx hb hts iX7 tyX7 tyX7_ok nmX7 hown hK hP hD hS 0 rfl rfl 1 (by decide) (hts _ qw223) (fun _ h9 => h9) rfl hin rfl (by decide +kernel) rfl rfl (Nat.le_of_ble_eq_true rfl) dX7_init_16 (fun H locs hP hD hS => ?_)
  have hP : va_P (dC, dI) vwCl [(h0, .inr (7, [.ref q1, .ref q2, .null, .int 0, .int 0, .int 0, .int 0, .int 0, .int 0])), (q1, .inl (cI, 6, .inl (fun _ => 0))), (q2, .inl (cI, 5, .inl (fun _ => 0)))] H := hP
  have hD : va_D A [(h0, .inr (7, [.ref q1, .ref q2, .null, .int 0, .int 0, .int 0, .int 0, .int 0, .int 0])), (q1, .inl (cI, 6, .inl (fun _ => 0))), (q2, .inl (cI, 5, .inl (fun _ => 0)))] := hD
  refine lv_aload_n hx hb dX7_init_19 rfl (lv_at hl 0 rfl) ?_
  refine lv_bipush (v := 80) hx hb dX7_init_20 (by decide) ?_
  refine va_newa (atype := .int) (ty := .int) (N' := 80) (a0 := (80, .inl (fun _ => 0))) hx hb (hts _ qw147) rfl hK hP hD hS hA (fun _ => rfl) (by decide) (by decide) (Nat.le_of_ble_eq_true rfl) (Nat.le_of_ble_eq_true rfl) (Nat.le_of_ble_eq_true rfl) dX7_init_22 (fun q3 cA H hK2 hP hD hS => ?_)
  obtain rfl : cI = cA := (zcA hK2 0 2 rfl rfl).symm
  have hP : va_P (dC, dI) vwCl [(h0, .inr (7, [.ref q1, .ref q2, .null, .int 0, .int 0, .int 0, .int 0, .int 0, .int 0])), (q1, .inl (cI, 6, .inl (fun _ => 0))), (q2, .inl (cI, 5, .inl (fun _ => 0))), (q3, .inl (cI, 80, .inl (fun _ => 0)))] H := hP
  have hD : va_D A [(h0, .inr (7, [.ref q1, .ref q2, .null, .int 0, .int 0, .int 0, .int 0, .int 0, .int 0])), (q1, .inl (cI, 6, .inl (fun _ => 0))), (q2, .inl (cI, 5, .inl (fun _ => 0))), (q3, .inl (cI, 80, .inl (fun _ => 0)))] := hD
  refine W.widen (k := 3) (n := 91) (Nat.le_of_ble_eq_true rfl) (Nat.le_of_ble_eq_true rfl) ?_
  refine va_putF (D := (dC, dI)) (ci := 7) (v := .ref q3) (ty := .array .int) (C := RX7) (T := TX7) (N := 9) hx hb hts iX7 tyX7 tyX7_ok nmX7 hown hK hP hD hS 0 rfl rfl 2 (by decide) (hts _ qw226) (fun _ h9 => h9) rfl hin rfl (by decide +kernel) rfl rfl (Nat.le_of_ble_eq_true rfl) dX7_init_24 (fun H locs hP hD hS => ?_)
  have hP : va_P (dC, dI) vwCl [(h0, .inr (7, [.ref q1, .ref q2, .ref q3, .int 0, .int 0, .int 0, .int 0, .int 0, .int 0])), (q1, .inl (cI, 6, .inl (fun _ => 0))), (q2, .inl (cI, 5, .inl (fun _ => 0))), (q3, .inl (cI, 80, .inl (fun _ => 0)))] H := hP
  have hD : va_D A [(h0, .inr (7, [.ref q1, .ref q2, .ref q3, .int 0, .int 0, .int 0, .int 0, .int 0, .int 0])), (q1, .inl (cI, 6, .inl (fun _ => 0))), (q2, .inl (cI, 5, .inl (fun _ => 0))), (q3, .inl (cI, 80, .inl (fun _ => 0)))] := hD
  refine lv_aload_n hx hb dX7_init_27 rfl (lv_at hl 0 rfl) ?_
  refine lv_iconst (v := (-1)) hx hb dX7_init_28 (by decide) ?_
  refine va_put (D := (dC, dI)) (ci := 7) (v := .int (-1)) (ty := .int) (C := RX7) (T := TX7) (N := 9) hx hb hts iX7 tyX7 tyX7_ok nmX7 hown hK hP hD hS 0 rfl rfl 6 (by decide) (hts _ qw236) (fun _ h9 => h9) rfl (by decide +kernel) rfl rfl (Nat.le_of_ble_eq_true rfl) dX7_init_29 (fun H locs hP hD hS => ?_)
  have hP : va_P (dC, dI) vwCl [(h0, .inr (7, [.ref q1, .ref q2, .ref q3, .int 0, .int 0, .int 0, .int (-1), .int 0, .int 0])), (q1, .inl (cI, 6, .inl (fun _ => 0))), (q2, .inl (cI, 5, .inl (fun _ => 0))), (q3, .inl (cI, 80, .inl (fun _ => 0)))] H := hP
  have hD : va_D A [(h0, .inr (7, [.ref q1, .ref q2, .ref q3, .int 0, .int 0, .int 0, .int (-1), .int 0, .int 0])), (q1, .inl (cI, 6, .inl (fun _ => 0))), (q2, .inl (cI, 5, .inl (fun _ => 0))), (q3, .inl (cI, 80, .inl (fun _ => 0)))] := hD
  exact W.vret hx hb hr (fun t ht hW => ⟨⟨(), rfl, trivial, ⟨q1, q2, q3, by rw [ht]; exact hP, hD⟩⟩, hS.F ht⟩) hS.2.2 dX7_init_32
set_option maxHeartbeats 4000000 in
set_option maxRecDepth 100000 in
theorem c_X0_init (l : Launch) (dC : Nat → ClassId) (dI : Nat → Nat → Nat) (cI cJ : ClassId) (h0 : Nat) (sz : Nat) : Met l yX0_init (.code yX0_init cX0_init 1 none :: wA) ({ frames := 1, cells := 1, slots := 680, locals := 20 }) (zP (dC, dI) [(cI, .int), (cJ, .long)] [.ref h0] sz [(h0, .inr (0, [.null, .int 0, .int 0]))]) (va_Qv (fun (_ : Unit) => True) (fun (_ : Unit) (t : State) => ∃ (q1 : Nat), va_P (dC, dI) vwCl [(h0, .inr (0, [.ref q1, .int 0, .int 0])), (q1, .inl (cI, 680, .inl (fun _ => 0)))] t.heap ∧ va_D (va_A [(h0, .inr (0, [.null, .int 0, .int 0]))] sz) [(h0, .inr (0, [.ref q1, .int 0, .int 0])), (q1, .inl (cI, 680, .inl (fun _ => 0)))]) (va_A [(h0, .inr (0, [.null, .int 0, .int 0]))] sz)) 1 680 (va_A [(h0, .inr (0, [.null, .int 0, .int 0]))] sz) := by
  refine Met.ofW (cc := cX0_init) (maxL := 1) (ret := none) (by decide) rfl ?_
  intro p e s m args below meth c s₁ B hml hv
  obtain ⟨rfl, hsz, hP, hK, hT⟩ := hv
  have hx := B.exec
  have hb := B.bytes
  have hr := B.returns
  have hts : ∀ w ∈ wA, w.before _ s = true := fun w h => atoms_spec (ws := .code yX0_init cX0_init 1 none :: wA) B.pre w (List.mem_cons_of_mem _ h)
  have hown : s.vm.findClass RX0 = some m.cls := findClass_of_methodNamed B.named
  have hlocks := B.notSynchronized
  have hin : meth.name = "<init>" := (name_of_methodNamed B.named B.method).1
  subst hsz
  have hD := hT.self (sz := s.heap.size)
  generalize hAe : va_A [(h0, .inr (0, [.null, .int 0, .int 0]))] s.heap.size = A at hD ⊢
  have hA : ∀ q : Nat, s.heap.size ≤ q → A q := fun q h => by rw [← hAe]; exact Or.inr h
  have hl := lv_entry ([.ref h0]) (n := 1) (Nat.le_of_ble_eq_true rfl)
  rw [lg_entry_eq]
  generalize (lg_sl ([.ref h0]) ++ List.replicate (1 - (lg_sl ([.ref h0])).length) Slot.unset).toArray = ls at hl ⊢
  have hl : lv_has ls 1 [(0, .ref h0)] := hl
  refine zstart (fun H hH => ?_)
  rw [← hH] at hP
  have hS : va_S A s.heap H [] := by rw [hH]; exact va_S.rf
  refine lv_aload_n hx hb dX0_init_0 rfl (lv_at hl 0 rfl) ?_
  refine W.objInit hx hb hown (hts _ qw267) (hts _ qw124) (hts _ qw125) rfl (by rw [hml]; exact hl.1) rfl dX0_init_1 (Nat.le_of_ble_eq_true rfl) (Nat.le_of_ble_eq_true rfl) ?_
  refine W.eq (g2 := F0 m 4 ls []) rfl ?_
  refine lv_aload_n hx hb dX0_init_4 rfl (lv_at hl 0 rfl) ?_
  refine lv_sipush (v := 680) hx hb dX0_init_5 (by decide) ?_
  refine va_newa (atype := .int) (ty := .int) (N' := 680) (a0 := (680, .inl (fun _ => 0))) hx hb (hts _ qw147) rfl hK hP hD hS hA (fun _ => rfl) (by decide) (by decide) (Nat.le_of_ble_eq_true rfl) (Nat.le_of_ble_eq_true rfl) (Nat.le_of_ble_eq_true rfl) dX0_init_8 (fun q1 cA H hK2 hP hD hS => ?_)
  obtain rfl : cI = cA := (zcA hK2 0 2 rfl rfl).symm
  have hP : va_P (dC, dI) vwCl [(h0, .inr (0, [.null, .int 0, .int 0])), (q1, .inl (cI, 680, .inl (fun _ => 0)))] H := hP
  have hD : va_D A [(h0, .inr (0, [.null, .int 0, .int 0])), (q1, .inl (cI, 680, .inl (fun _ => 0)))] := hD
  refine W.widen (k := 1) (n := 680) (Nat.le_of_ble_eq_true rfl) (Nat.le_of_ble_eq_true rfl) ?_
  refine va_putF (D := (dC, dI)) (ci := 0) (v := .ref q1) (ty := .array .int) (C := RX0) (T := TX0) (N := 3) hx hb hts iX0 tyX0 tyX0_ok nmX0 hown hK hP hD hS 0 rfl rfl 0 (by decide) (hts _ qw268) (fun _ h9 => h9) rfl hin rfl (by decide +kernel) rfl rfl (Nat.le_of_ble_eq_true rfl) dX0_init_10 (fun H locs hP hD hS => ?_)
  have hP : va_P (dC, dI) vwCl [(h0, .inr (0, [.ref q1, .int 0, .int 0])), (q1, .inl (cI, 680, .inl (fun _ => 0)))] H := hP
  have hD : va_D A [(h0, .inr (0, [.ref q1, .int 0, .int 0])), (q1, .inl (cI, 680, .inl (fun _ => 0)))] := hD
  exact W.vret hx hb hr (fun t ht hW => ⟨⟨(), rfl, trivial, ⟨q1, by rw [ht]; exact hP, hD⟩⟩, hS.F ht⟩) hS.2.2 dX0_init_13
set_option maxHeartbeats 4000000 in
set_option maxRecDepth 100000 in
theorem c_X8_init (l : Launch) (dC : Nat → ClassId) (dI : Nat → Nat → Nat) (cI cJ : ClassId) (h0 h1 h2 : Nat) (sz : Nat) : Met l yX8_init (.code yX8_init cX8_init 3 none :: wA) ({ frames := 1, cells := 4, slots := 58, locals := 20 }) (zP (dC, dI) [(cI, .int), (cJ, .long)] [.ref h0, .ref h1, .ref h2] sz [(h0, .inr (8, [.null, .null, .null, .null, .null, .null, .null]))]) (va_Qv (fun (_ : Unit) => True) (fun (_ : Unit) (t : State) => ∃ (q1 : Nat) (q2 : Nat) (q3 : Nat) (q4 : Nat), va_P (dC, dI) vwCl [(h0, .inr (8, [.ref q1, .ref q2, .ref h1, .ref h2, .ref q3, .ref q4, .null])), (q1, .inl (cI, 10, .inl (fun _ => 0))), (q2, .inl (cI, 10, .inl (fun _ => 0))), (q3, .inl (cI, 6, .inl (fun _ => 0))), (q4, .inl (cI, 32, .inl (fun _ => 0)))] t.heap ∧ va_D (va_A [(h0, .inr (8, [.null, .null, .null, .null, .null, .null, .null]))] sz) [(h0, .inr (8, [.ref q1, .ref q2, .ref h1, .ref h2, .ref q3, .ref q4, .null])), (q1, .inl (cI, 10, .inl (fun _ => 0))), (q2, .inl (cI, 10, .inl (fun _ => 0))), (q3, .inl (cI, 6, .inl (fun _ => 0))), (q4, .inl (cI, 32, .inl (fun _ => 0)))]) (va_A [(h0, .inr (8, [.null, .null, .null, .null, .null, .null, .null]))] sz)) 4 58 (va_A [(h0, .inr (8, [.null, .null, .null, .null, .null, .null, .null]))] sz) := by
  refine Met.ofW (cc := cX8_init) (maxL := 3) (ret := none) (by decide) rfl ?_
  intro p e s m args below meth c s₁ B hml hv
  obtain ⟨rfl, hsz, hP, hK, hT⟩ := hv
  have hx := B.exec
  have hb := B.bytes
  have hr := B.returns
  have hts : ∀ w ∈ wA, w.before _ s = true := fun w h => atoms_spec (ws := .code yX8_init cX8_init 3 none :: wA) B.pre w (List.mem_cons_of_mem _ h)
  have hown : s.vm.findClass RX8 = some m.cls := findClass_of_methodNamed B.named
  have hlocks := B.notSynchronized
  have hin : meth.name = "<init>" := (name_of_methodNamed B.named B.method).1
  subst hsz
  have hD := hT.self (sz := s.heap.size)
  generalize hAe : va_A [(h0, .inr (8, [.null, .null, .null, .null, .null, .null, .null]))] s.heap.size = A at hD ⊢
  have hA : ∀ q : Nat, s.heap.size ≤ q → A q := fun q h => by rw [← hAe]; exact Or.inr h
  have hl := lv_entry ([.ref h0, .ref h1, .ref h2]) (n := 3) (Nat.le_of_ble_eq_true rfl)
  rw [lg_entry_eq]
  generalize (lg_sl ([.ref h0, .ref h1, .ref h2]) ++ List.replicate (3 - (lg_sl ([.ref h0, .ref h1, .ref h2])).length) Slot.unset).toArray = ls at hl ⊢
  have hl : lv_has ls 3 [(0, .ref h0), (1, .ref h1), (2, .ref h2)] := hl
  refine zstart (fun H hH => ?_)
  rw [← hH] at hP
  have hS : va_S A s.heap H [] := by rw [hH]; exact va_S.rf
  refine lv_aload_n hx hb dX8_init_0 rfl (lv_at hl 0 rfl) ?_
  refine W.objInit hx hb hown (hts _ qw284) (hts _ qw124) (hts _ qw125) rfl (by rw [hml]; exact hl.1) rfl dX8_init_1 (Nat.le_of_ble_eq_true rfl) (Nat.le_of_ble_eq_true rfl) ?_
  refine W.eq (g2 := F0 m 4 ls []) rfl ?_
  refine lv_aload_n hx hb dX8_init_4 rfl (lv_at hl 0 rfl) ?_
  refine lv_bipush (v := 10) hx hb dX8_init_5 (by decide) ?_
  refine va_newa (atype := .int) (ty := .int) (N' := 10) (a0 := (10, .inl (fun _ => 0))) hx hb (hts _ qw147) rfl hK hP hD hS hA (fun _ => rfl) (by decide) (by decide) (Nat.le_of_ble_eq_true rfl) (Nat.le_of_ble_eq_true rfl) (Nat.le_of_ble_eq_true rfl) dX8_init_7 (fun q1 cA H hK2 hP hD hS => ?_)
  obtain rfl : cI = cA := (zcA hK2 0 2 rfl rfl).symm
  have hP : va_P (dC, dI) vwCl [(h0, .inr (8, [.null, .null, .null, .null, .null, .null, .null])), (q1, .inl (cI, 10, .inl (fun _ => 0)))] H := hP
  have hD : va_D A [(h0, .inr (8, [.null, .null, .null, .null, .null, .null, .null])), (q1, .inl (cI, 10, .inl (fun _ => 0)))] := hD
  refine W.widen (k := 1) (n := 10) (Nat.le_of_ble_eq_true rfl) (Nat.le_of_ble_eq_true rfl) ?_
  refine va_putF (D := (dC, dI)) (ci := 8) (v := .ref q1) (ty := .array .int) (C := RX8) (T := TX8) (N := 7) hx hb hts iX8 tyX8 tyX8_ok nmX8 hown hK hP hD hS 0 rfl rfl 0 (by decide) (hts _ qw285) (fun _ h9 => h9) rfl hin rfl (by decide +kernel) rfl rfl (Nat.le_of_ble_eq_true rfl) dX8_init_9 (fun H locs hP hD hS => ?_)
  have hP : va_P (dC, dI) vwCl [(h0, .inr (8, [.ref q1, .null, .null, .null, .null, .null, .null])), (q1, .inl (cI, 10, .inl (fun _ => 0)))] H := hP
  have hD : va_D A [(h0, .inr (8, [.ref q1, .null, .null, .null, .null, .null, .null])), (q1, .inl (cI, 10, .inl (fun _ => 0)))] := hD
  refine lv_aload_n hx hb dX8_init_12 rfl (lv_at hl 0 rfl) ?_
  refine lv_bipush (v := 10) hx hb dX8_init_13 (by decide) ?_
  refine va_newa (atype := .int) (ty := .int) (N' := 10) (a0 := (10, .inl (fun _ => 0))) hx hb (hts _ qw147) rfl hK hP hD hS hA (fun _ => rfl) (by decide) (by decide) (Nat.le_of_ble_eq_true rfl) (Nat.le_of_ble_eq_true rfl) (Nat.le_of_ble_eq_true rfl) dX8_init_15 (fun q2 cA H hK2 hP hD hS => ?_)
  obtain rfl : cI = cA := (zcA hK2 0 2 rfl rfl).symm
  have hP : va_P (dC, dI) vwCl [(h0, .inr (8, [.ref q1, .null, .null, .null, .null, .null, .null])), (q1, .inl (cI, 10, .inl (fun _ => 0))), (q2, .inl (cI, 10, .inl (fun _ => 0)))] H := hP
  have hD : va_D A [(h0, .inr (8, [.ref q1, .null, .null, .null, .null, .null, .null])), (q1, .inl (cI, 10, .inl (fun _ => 0))), (q2, .inl (cI, 10, .inl (fun _ => 0)))] := hD
  refine W.widen (k := 2) (n := 20) (Nat.le_of_ble_eq_true rfl) (Nat.le_of_ble_eq_true rfl) ?_
  refine va_putF (D := (dC, dI)) (ci := 8) (v := .ref q2) (ty := .array .int) (C := RX8) (T := TX8) (N := 7) hx hb hts iX8 tyX8 tyX8_ok nmX8 hown hK hP hD hS 0 rfl rfl 1 (by decide) (hts _ qw287) (fun _ h9 => h9) rfl hin rfl (by decide +kernel) rfl rfl (Nat.le_of_ble_eq_true rfl) dX8_init_17 (fun H locs hP hD hS => ?_)
  have hP : va_P (dC, dI) vwCl [(h0, .inr (8, [.ref q1, .ref q2, .null, .null, .null, .null, .null])), (q1, .inl (cI, 10, .inl (fun _ => 0))), (q2, .inl (cI, 10, .inl (fun _ => 0)))] H := hP
  have hD : va_D A [(h0, .inr (8, [.ref q1, .ref q2, .null, .null, .null, .null, .null])), (q1, .inl (cI, 10, .inl (fun _ => 0))), (q2, .inl (cI, 10, .inl (fun _ => 0)))] := hD
  refine lv_aload_n hx hb dX8_init_20 rfl (lv_at hl 0 rfl) ?_
  refine lv_bipush (v := 6) hx hb dX8_init_21 (by decide) ?_
  refine va_newa (atype := .int) (ty := .int) (N' := 6) (a0 := (6, .inl (fun _ => 0))) hx hb (hts _ qw147) rfl hK hP hD hS hA (fun _ => rfl) (by decide) (by decide) (Nat.le_of_ble_eq_true rfl) (Nat.le_of_ble_eq_true rfl) (Nat.le_of_ble_eq_true rfl) dX8_init_23 (fun q3 cA H hK2 hP hD hS => ?_)
  obtain rfl : cI = cA := (zcA hK2 0 2 rfl rfl).symm
  have hP : va_P (dC, dI) vwCl [(h0, .inr (8, [.ref q1, .ref q2, .null, .null, .null, .null, .null])), (q1, .inl (cI, 10, .inl (fun _ => 0))), (q2, .inl (cI, 10, .inl (fun _ => 0))), (q3, .inl (cI, 6, .inl (fun _ => 0)))] H := hP
  have hD : va_D A [(h0, .inr (8, [.ref q1, .ref q2, .null, .null, .null, .null, .null])), (q1, .inl (cI, 10, .inl (fun _ => 0))), (q2, .inl (cI, 10, .inl (fun _ => 0))), (q3, .inl (cI, 6, .inl (fun _ => 0)))] := hD
  refine W.widen (k := 3) (n := 26) (Nat.le_of_ble_eq_true rfl) (Nat.le_of_ble_eq_true rfl) ?_
  refine va_putF (D := (dC, dI)) (ci := 8) (v := .ref q3) (ty := .array .int) (C := RX8) (T := TX8) (N := 7) hx hb hts iX8 tyX8 tyX8_ok nmX8 hown hK hP hD hS 0 rfl rfl 4 (by decide) (hts _ qw291) (fun _ h9 => h9) rfl hin rfl (by decide +kernel) rfl rfl (Nat.le_of_ble_eq_true rfl) dX8_init_25 (fun H locs hP hD hS => ?_)
  have hP : va_P (dC, dI) vwCl [(h0, .inr (8, [.ref q1, .ref q2, .null, .null, .ref q3, .null, .null])), (q1, .inl (cI, 10, .inl (fun _ => 0))), (q2, .inl (cI, 10, .inl (fun _ => 0))), (q3, .inl (cI, 6, .inl (fun _ => 0)))] H := hP
  have hD : va_D A [(h0, .inr (8, [.ref q1, .ref q2, .null, .null, .ref q3, .null, .null])), (q1, .inl (cI, 10, .inl (fun _ => 0))), (q2, .inl (cI, 10, .inl (fun _ => 0))), (q3, .inl (cI, 6, .inl (fun _ => 0)))] := hD
  refine lv_aload_n hx hb dX8_init_28 rfl (lv_at hl 0 rfl) ?_
  refine lv_bipush (v := 32) hx hb dX8_init_29 (by decide) ?_
  refine va_newa (atype := .int) (ty := .int) (N' := 32) (a0 := (32, .inl (fun _ => 0))) hx hb (hts _ qw147) rfl hK hP hD hS hA (fun _ => rfl) (by decide) (by decide) (Nat.le_of_ble_eq_true rfl) (Nat.le_of_ble_eq_true rfl) (Nat.le_of_ble_eq_true rfl) dX8_init_31 (fun q4 cA H hK2 hP hD hS => ?_)
  obtain rfl : cI = cA := (zcA hK2 0 2 rfl rfl).symm
  have hP : va_P (dC, dI) vwCl [(h0, .inr (8, [.ref q1, .ref q2, .null, .null, .ref q3, .null, .null])), (q1, .inl (cI, 10, .inl (fun _ => 0))), (q2, .inl (cI, 10, .inl (fun _ => 0))), (q3, .inl (cI, 6, .inl (fun _ => 0))), (q4, .inl (cI, 32, .inl (fun _ => 0)))] H := hP
  have hD : va_D A [(h0, .inr (8, [.ref q1, .ref q2, .null, .null, .ref q3, .null, .null])), (q1, .inl (cI, 10, .inl (fun _ => 0))), (q2, .inl (cI, 10, .inl (fun _ => 0))), (q3, .inl (cI, 6, .inl (fun _ => 0))), (q4, .inl (cI, 32, .inl (fun _ => 0)))] := hD
  refine W.widen (k := 4) (n := 58) (Nat.le_of_ble_eq_true rfl) (Nat.le_of_ble_eq_true rfl) ?_
  refine va_putF (D := (dC, dI)) (ci := 8) (v := .ref q4) (ty := .array .int) (C := RX8) (T := TX8) (N := 7) hx hb hts iX8 tyX8 tyX8_ok nmX8 hown hK hP hD hS 0 rfl rfl 5 (by decide) (hts _ qw292) (fun _ h9 => h9) rfl hin rfl (by decide +kernel) rfl rfl (Nat.le_of_ble_eq_true rfl) dX8_init_33 (fun H locs hP hD hS => ?_)
  have hP : va_P (dC, dI) vwCl [(h0, .inr (8, [.ref q1, .ref q2, .null, .null, .ref q3, .ref q4, .null])), (q1, .inl (cI, 10, .inl (fun _ => 0))), (q2, .inl (cI, 10, .inl (fun _ => 0))), (q3, .inl (cI, 6, .inl (fun _ => 0))), (q4, .inl (cI, 32, .inl (fun _ => 0)))] H := hP
  have hD : va_D A [(h0, .inr (8, [.ref q1, .ref q2, .null, .null, .ref q3, .ref q4, .null])), (q1, .inl (cI, 10, .inl (fun _ => 0))), (q2, .inl (cI, 10, .inl (fun _ => 0))), (q3, .inl (cI, 6, .inl (fun _ => 0))), (q4, .inl (cI, 32, .inl (fun _ => 0)))] := hD
  refine lv_aload_n hx hb dX8_init_36 rfl (lv_at hl 0 rfl) ?_
  refine lv_aload_n hx hb dX8_init_37 rfl (lv_at hl 1 rfl) ?_
  refine va_putF (D := (dC, dI)) (ci := 8) (v := .ref h1) (ty := .object "NinePortraits$Court") (C := RX8) (T := TX8) (N := 7) hx hb hts iX8 tyX8 tyX8_ok nmX8 hown hK hP hD hS 0 rfl rfl 2 (by decide) (hts _ qw289) (fun _ h9 => h9) rfl hin rfl (by decide +kernel) rfl rfl (Nat.le_of_ble_eq_true rfl) dX8_init_38 (fun H locs hP hD hS => ?_)
  have hP : va_P (dC, dI) vwCl [(h0, .inr (8, [.ref q1, .ref q2, .ref h1, .null, .ref q3, .ref q4, .null])), (q1, .inl (cI, 10, .inl (fun _ => 0))), (q2, .inl (cI, 10, .inl (fun _ => 0))), (q3, .inl (cI, 6, .inl (fun _ => 0))), (q4, .inl (cI, 32, .inl (fun _ => 0)))] H := hP
  have hD : va_D A [(h0, .inr (8, [.ref q1, .ref q2, .ref h1, .null, .ref q3, .ref q4, .null])), (q1, .inl (cI, 10, .inl (fun _ => 0))), (q2, .inl (cI, 10, .inl (fun _ => 0))), (q3, .inl (cI, 6, .inl (fun _ => 0))), (q4, .inl (cI, 32, .inl (fun _ => 0)))] := hD
  refine lv_aload_n hx hb dX8_init_41 rfl (lv_at hl 0 rfl) ?_
  refine lv_aload_n hx hb dX8_init_42 rfl (lv_at hl 2 rfl) ?_
  refine va_putF (D := (dC, dI)) (ci := 8) (v := .ref h2) (ty := .object "NinePortraits$State") (C := RX8) (T := TX8) (N := 7) hx hb hts iX8 tyX8 tyX8_ok nmX8 hown hK hP hD hS 0 rfl rfl 3 (by decide) (hts _ qw290) (fun _ h9 => h9) rfl hin rfl (by decide +kernel) rfl rfl (Nat.le_of_ble_eq_true rfl) dX8_init_43 (fun H locs hP hD hS => ?_)
  have hP : va_P (dC, dI) vwCl [(h0, .inr (8, [.ref q1, .ref q2, .ref h1, .ref h2, .ref q3, .ref q4, .null])), (q1, .inl (cI, 10, .inl (fun _ => 0))), (q2, .inl (cI, 10, .inl (fun _ => 0))), (q3, .inl (cI, 6, .inl (fun _ => 0))), (q4, .inl (cI, 32, .inl (fun _ => 0)))] H := hP
  have hD : va_D A [(h0, .inr (8, [.ref q1, .ref q2, .ref h1, .ref h2, .ref q3, .ref q4, .null])), (q1, .inl (cI, 10, .inl (fun _ => 0))), (q2, .inl (cI, 10, .inl (fun _ => 0))), (q3, .inl (cI, 6, .inl (fun _ => 0))), (q4, .inl (cI, 32, .inl (fun _ => 0)))] := hD
  exact W.vret hx hb hr (fun t ht hW => ⟨⟨(), rfl, trivial, ⟨q1, q2, q3, q4, by rw [ht]; exact hP, hD⟩⟩, hS.F ht⟩) hS.2.2 dX8_init_46
set_option maxHeartbeats 4000000 in
set_option maxRecDepth 100000 in
theorem c_X6_init (l : Launch) (dC : Nat → ClassId) (dI : Nat → Nat → Nat) (cI cJ : ClassId) (h0 h1 h2 h3 : Nat) (sz : Nat) : Met l yX6_init (.code yX6_init cX6_init 4 none :: wA) ({ frames := 1, cells := 4, slots := 75, locals := 20 }) (zP (dC, dI) [(cI, .int), (cJ, .long)] [.ref h0, .ref h1, .ref h2, .ref h3] sz [(h0, .inr (6, [.null, .null, .null, .null, .long 0, .int 0, .null, .null, .null]))]) (va_Qv (fun (_ : Unit) => True) (fun (_ : Unit) (t : State) => ∃ (q1 : Nat) (q2 : Nat) (q3 : Nat) (q4 : Nat), va_P (dC, dI) vwCl [(h0, .inr (6, [.ref h1, .ref h2, .ref h3, .ref q1, .long 0, .int 0, .ref q2, .ref q3, .ref q4])), (q1, .inl (cJ, 10, .inr (.inl (fun _ => 0)))), (q2, .inl (cI, 10, .inl (fun _ => 0))), (q3, .inl (cI, 10, .inl (fun _ => 0))), (q4, .inl (cI, 45, .inl (fun _ => 0)))] t.heap ∧ va_D (va_A [(h0, .inr (6, [.null, .null, .null, .null, .long 0, .int 0, .null, .null, .null]))] sz) [(h0, .inr (6, [.ref h1, .ref h2, .ref h3, .ref q1, .long 0, .int 0, .ref q2, .ref q3, .ref q4])), (q1, .inl (cJ, 10, .inr (.inl (fun _ => 0)))), (q2, .inl (cI, 10, .inl (fun _ => 0))), (q3, .inl (cI, 10, .inl (fun _ => 0))), (q4, .inl (cI, 45, .inl (fun _ => 0)))]) (va_A [(h0, .inr (6, [.null, .null, .null, .null, .long 0, .int 0, .null, .null, .null]))] sz)) 4 75 (va_A [(h0, .inr (6, [.null, .null, .null, .null, .long 0, .int 0, .null, .null, .null]))] sz) := by
  refine Met.ofW (cc := cX6_init) (maxL := 4) (ret := none) (by decide) rfl ?_
  intro p e s m args below meth c s₁ B hml hv
  obtain ⟨rfl, hsz, hP, hK, hT⟩ := hv
  have hx := B.exec
  have hb := B.bytes
  have hr := B.returns
  have hts : ∀ w ∈ wA, w.before _ s = true := fun w h => atoms_spec (ws := .code yX6_init cX6_init 4 none :: wA) B.pre w (List.mem_cons_of_mem _ h)
  have hown : s.vm.findClass RX6 = some m.cls := findClass_of_methodNamed B.named
  have hlocks := B.notSynchronized
  have hin : meth.name = "<init>" := (name_of_methodNamed B.named B.method).1
  subst hsz
  have hD := hT.self (sz := s.heap.size)
  generalize hAe : va_A [(h0, .inr (6, [.null, .null, .null, .null, .long 0, .int 0, .null, .null, .null]))] s.heap.size = A at hD ⊢
  have hA : ∀ q : Nat, s.heap.size ≤ q → A q := fun q h => by rw [← hAe]; exact Or.inr h
  have hl := lv_entry ([.ref h0, .ref h1, .ref h2, .ref h3]) (n := 4) (Nat.le_of_ble_eq_true rfl)
  rw [lg_entry_eq]
  generalize (lg_sl ([.ref h0, .ref h1, .ref h2, .ref h3]) ++ List.replicate (4 - (lg_sl ([.ref h0, .ref h1, .ref h2, .ref h3])).length) Slot.unset).toArray = ls at hl ⊢
  have hl : lv_has ls 4 [(0, .ref h0), (1, .ref h1), (2, .ref h2), (3, .ref h3)] := hl
  refine zstart (fun H hH => ?_)
  rw [← hH] at hP
  have hS : va_S A s.heap H [] := by rw [hH]; exact va_S.rf
  refine lv_aload_n hx hb dX6_init_0 rfl (lv_at hl 0 rfl) ?_
  refine W.objInit hx hb hown (hts _ qw315) (hts _ qw124) (hts _ qw125) rfl (by rw [hml]; exact hl.1) rfl dX6_init_1 (Nat.le_of_ble_eq_true rfl) (Nat.le_of_ble_eq_true rfl) ?_
  refine W.eq (g2 := F0 m 4 ls []) rfl ?_
  refine lv_aload_n hx hb dX6_init_4 rfl (lv_at hl 0 rfl) ?_
  refine lv_bipush (v := 10) hx hb dX6_init_5 (by decide) ?_
  refine va_newa (atype := .long) (ty := .long) (N' := 10) (a0 := (10, .inr (.inl (fun _ => 0)))) hx hb (hts _ qw345) rfl hK hP hD hS hA (fun _ => rfl) (by decide) (by decide) (Nat.le_of_ble_eq_true rfl) (Nat.le_of_ble_eq_true rfl) (Nat.le_of_ble_eq_true rfl) dX6_init_7 (fun q1 cA H hK2 hP hD hS => ?_)
  obtain rfl : cJ = cA := (zcA hK2 1 2 rfl rfl).symm
  have hP : va_P (dC, dI) vwCl [(h0, .inr (6, [.null, .null, .null, .null, .long 0, .int 0, .null, .null, .null])), (q1, .inl (cJ, 10, .inr (.inl (fun _ => 0))))] H := hP
  have hD : va_D A [(h0, .inr (6, [.null, .null, .null, .null, .long 0, .int 0, .null, .null, .null])), (q1, .inl (cJ, 10, .inr (.inl (fun _ => 0))))] := hD
  refine W.widen (k := 1) (n := 10) (Nat.le_of_ble_eq_true rfl) (Nat.le_of_ble_eq_true rfl) ?_
  refine va_putF (D := (dC, dI)) (ci := 6) (v := .ref q1) (ty := .array .long) (C := RX6) (T := TX6) (N := 9) hx hb hts iX6 tyX6 tyX6_ok nmX6 hown hK hP hD hS 0 rfl rfl 3 (by decide) (hts _ qw319) (fun _ h9 => h9) rfl hin rfl (by decide +kernel) rfl rfl (Nat.le_of_ble_eq_true rfl) dX6_init_9 (fun H locs hP hD hS => ?_)
  have hP : va_P (dC, dI) vwCl [(h0, .inr (6, [.null, .null, .null, .ref q1, .long 0, .int 0, .null, .null, .null])), (q1, .inl (cJ, 10, .inr (.inl (fun _ => 0))))] H := hP
  have hD : va_D A [(h0, .inr (6, [.null, .null, .null, .ref q1, .long 0, .int 0, .null, .null, .null])), (q1, .inl (cJ, 10, .inr (.inl (fun _ => 0))))] := hD
  refine lv_aload_n hx hb dX6_init_12 rfl (lv_at hl 0 rfl) ?_
  refine lv_bipush (v := 10) hx hb dX6_init_13 (by decide) ?_
  refine va_newa (atype := .int) (ty := .int) (N' := 10) (a0 := (10, .inl (fun _ => 0))) hx hb (hts _ qw147) rfl hK hP hD hS hA (fun _ => rfl) (by decide) (by decide) (Nat.le_of_ble_eq_true rfl) (Nat.le_of_ble_eq_true rfl) (Nat.le_of_ble_eq_true rfl) dX6_init_15 (fun q2 cA H hK2 hP hD hS => ?_)
  obtain rfl : cI = cA := (zcA hK2 0 2 rfl rfl).symm
  have hP : va_P (dC, dI) vwCl [(h0, .inr (6, [.null, .null, .null, .ref q1, .long 0, .int 0, .null, .null, .null])), (q1, .inl (cJ, 10, .inr (.inl (fun _ => 0)))), (q2, .inl (cI, 10, .inl (fun _ => 0)))] H := hP
  have hD : va_D A [(h0, .inr (6, [.null, .null, .null, .ref q1, .long 0, .int 0, .null, .null, .null])), (q1, .inl (cJ, 10, .inr (.inl (fun _ => 0)))), (q2, .inl (cI, 10, .inl (fun _ => 0)))] := hD
  refine W.widen (k := 2) (n := 20) (Nat.le_of_ble_eq_true rfl) (Nat.le_of_ble_eq_true rfl) ?_
  refine va_putF (D := (dC, dI)) (ci := 6) (v := .ref q2) (ty := .array .int) (C := RX6) (T := TX6) (N := 9) hx hb hts iX6 tyX6 tyX6_ok nmX6 hown hK hP hD hS 0 rfl rfl 6 (by decide) (hts _ qw323) (fun _ h9 => h9) rfl hin rfl (by decide +kernel) rfl rfl (Nat.le_of_ble_eq_true rfl) dX6_init_17 (fun H locs hP hD hS => ?_)
  have hP : va_P (dC, dI) vwCl [(h0, .inr (6, [.null, .null, .null, .ref q1, .long 0, .int 0, .ref q2, .null, .null])), (q1, .inl (cJ, 10, .inr (.inl (fun _ => 0)))), (q2, .inl (cI, 10, .inl (fun _ => 0)))] H := hP
  have hD : va_D A [(h0, .inr (6, [.null, .null, .null, .ref q1, .long 0, .int 0, .ref q2, .null, .null])), (q1, .inl (cJ, 10, .inr (.inl (fun _ => 0)))), (q2, .inl (cI, 10, .inl (fun _ => 0)))] := hD
  refine lv_aload_n hx hb dX6_init_20 rfl (lv_at hl 0 rfl) ?_
  refine lv_bipush (v := 10) hx hb dX6_init_21 (by decide) ?_
  refine va_newa (atype := .int) (ty := .int) (N' := 10) (a0 := (10, .inl (fun _ => 0))) hx hb (hts _ qw147) rfl hK hP hD hS hA (fun _ => rfl) (by decide) (by decide) (Nat.le_of_ble_eq_true rfl) (Nat.le_of_ble_eq_true rfl) (Nat.le_of_ble_eq_true rfl) dX6_init_23 (fun q3 cA H hK2 hP hD hS => ?_)
  obtain rfl : cI = cA := (zcA hK2 0 2 rfl rfl).symm
  have hP : va_P (dC, dI) vwCl [(h0, .inr (6, [.null, .null, .null, .ref q1, .long 0, .int 0, .ref q2, .null, .null])), (q1, .inl (cJ, 10, .inr (.inl (fun _ => 0)))), (q2, .inl (cI, 10, .inl (fun _ => 0))), (q3, .inl (cI, 10, .inl (fun _ => 0)))] H := hP
  have hD : va_D A [(h0, .inr (6, [.null, .null, .null, .ref q1, .long 0, .int 0, .ref q2, .null, .null])), (q1, .inl (cJ, 10, .inr (.inl (fun _ => 0)))), (q2, .inl (cI, 10, .inl (fun _ => 0))), (q3, .inl (cI, 10, .inl (fun _ => 0)))] := hD
  refine W.widen (k := 3) (n := 30) (Nat.le_of_ble_eq_true rfl) (Nat.le_of_ble_eq_true rfl) ?_
  refine va_putF (D := (dC, dI)) (ci := 6) (v := .ref q3) (ty := .array .int) (C := RX6) (T := TX6) (N := 9) hx hb hts iX6 tyX6 tyX6_ok nmX6 hown hK hP hD hS 0 rfl rfl 7 (by decide) (hts _ qw324) (fun _ h9 => h9) rfl hin rfl (by decide +kernel) rfl rfl (Nat.le_of_ble_eq_true rfl) dX6_init_25 (fun H locs hP hD hS => ?_)
  have hP : va_P (dC, dI) vwCl [(h0, .inr (6, [.null, .null, .null, .ref q1, .long 0, .int 0, .ref q2, .ref q3, .null])), (q1, .inl (cJ, 10, .inr (.inl (fun _ => 0)))), (q2, .inl (cI, 10, .inl (fun _ => 0))), (q3, .inl (cI, 10, .inl (fun _ => 0)))] H := hP
  have hD : va_D A [(h0, .inr (6, [.null, .null, .null, .ref q1, .long 0, .int 0, .ref q2, .ref q3, .null])), (q1, .inl (cJ, 10, .inr (.inl (fun _ => 0)))), (q2, .inl (cI, 10, .inl (fun _ => 0))), (q3, .inl (cI, 10, .inl (fun _ => 0)))] := hD
  refine lv_aload_n hx hb dX6_init_28 rfl (lv_at hl 0 rfl) ?_
  refine lv_bipush (v := 45) hx hb dX6_init_29 (by decide) ?_
  refine va_newa (atype := .int) (ty := .int) (N' := 45) (a0 := (45, .inl (fun _ => 0))) hx hb (hts _ qw147) rfl hK hP hD hS hA (fun _ => rfl) (by decide) (by decide) (Nat.le_of_ble_eq_true rfl) (Nat.le_of_ble_eq_true rfl) (Nat.le_of_ble_eq_true rfl) dX6_init_31 (fun q4 cA H hK2 hP hD hS => ?_)
  obtain rfl : cI = cA := (zcA hK2 0 2 rfl rfl).symm
  have hP : va_P (dC, dI) vwCl [(h0, .inr (6, [.null, .null, .null, .ref q1, .long 0, .int 0, .ref q2, .ref q3, .null])), (q1, .inl (cJ, 10, .inr (.inl (fun _ => 0)))), (q2, .inl (cI, 10, .inl (fun _ => 0))), (q3, .inl (cI, 10, .inl (fun _ => 0))), (q4, .inl (cI, 45, .inl (fun _ => 0)))] H := hP
  have hD : va_D A [(h0, .inr (6, [.null, .null, .null, .ref q1, .long 0, .int 0, .ref q2, .ref q3, .null])), (q1, .inl (cJ, 10, .inr (.inl (fun _ => 0)))), (q2, .inl (cI, 10, .inl (fun _ => 0))), (q3, .inl (cI, 10, .inl (fun _ => 0))), (q4, .inl (cI, 45, .inl (fun _ => 0)))] := hD
  refine W.widen (k := 4) (n := 75) (Nat.le_of_ble_eq_true rfl) (Nat.le_of_ble_eq_true rfl) ?_
  refine va_putF (D := (dC, dI)) (ci := 6) (v := .ref q4) (ty := .array .int) (C := RX6) (T := TX6) (N := 9) hx hb hts iX6 tyX6 tyX6_ok nmX6 hown hK hP hD hS 0 rfl rfl 8 (by decide) (hts _ qw325) (fun _ h9 => h9) rfl hin rfl (by decide +kernel) rfl rfl (Nat.le_of_ble_eq_true rfl) dX6_init_33 (fun H locs hP hD hS => ?_)
  have hP : va_P (dC, dI) vwCl [(h0, .inr (6, [.null, .null, .null, .ref q1, .long 0, .int 0, .ref q2, .ref q3, .ref q4])), (q1, .inl (cJ, 10, .inr (.inl (fun _ => 0)))), (q2, .inl (cI, 10, .inl (fun _ => 0))), (q3, .inl (cI, 10, .inl (fun _ => 0))), (q4, .inl (cI, 45, .inl (fun _ => 0)))] H := hP
  have hD : va_D A [(h0, .inr (6, [.null, .null, .null, .ref q1, .long 0, .int 0, .ref q2, .ref q3, .ref q4])), (q1, .inl (cJ, 10, .inr (.inl (fun _ => 0)))), (q2, .inl (cI, 10, .inl (fun _ => 0))), (q3, .inl (cI, 10, .inl (fun _ => 0))), (q4, .inl (cI, 45, .inl (fun _ => 0)))] := hD
  refine lv_aload_n hx hb dX6_init_36 rfl (lv_at hl 0 rfl) ?_
  refine lv_aload_n hx hb dX6_init_37 rfl (lv_at hl 1 rfl) ?_
  refine va_putF (D := (dC, dI)) (ci := 6) (v := .ref h1) (ty := .object "NinePortraits$Court") (C := RX6) (T := TX6) (N := 9) hx hb hts iX6 tyX6 tyX6_ok nmX6 hown hK hP hD hS 0 rfl rfl 0 (by decide) (hts _ qw316) (fun _ h9 => h9) rfl hin rfl (by decide +kernel) rfl rfl (Nat.le_of_ble_eq_true rfl) dX6_init_38 (fun H locs hP hD hS => ?_)
  have hP : va_P (dC, dI) vwCl [(h0, .inr (6, [.ref h1, .null, .null, .ref q1, .long 0, .int 0, .ref q2, .ref q3, .ref q4])), (q1, .inl (cJ, 10, .inr (.inl (fun _ => 0)))), (q2, .inl (cI, 10, .inl (fun _ => 0))), (q3, .inl (cI, 10, .inl (fun _ => 0))), (q4, .inl (cI, 45, .inl (fun _ => 0)))] H := hP
  have hD : va_D A [(h0, .inr (6, [.ref h1, .null, .null, .ref q1, .long 0, .int 0, .ref q2, .ref q3, .ref q4])), (q1, .inl (cJ, 10, .inr (.inl (fun _ => 0)))), (q2, .inl (cI, 10, .inl (fun _ => 0))), (q3, .inl (cI, 10, .inl (fun _ => 0))), (q4, .inl (cI, 45, .inl (fun _ => 0)))] := hD
  refine lv_aload_n hx hb dX6_init_41 rfl (lv_at hl 0 rfl) ?_
  refine lv_aload_n hx hb dX6_init_42 rfl (lv_at hl 2 rfl) ?_
  refine va_putF (D := (dC, dI)) (ci := 6) (v := .ref h2) (ty := .object "NinePortraits$State") (C := RX6) (T := TX6) (N := 9) hx hb hts iX6 tyX6 tyX6_ok nmX6 hown hK hP hD hS 0 rfl rfl 1 (by decide) (hts _ qw317) (fun _ h9 => h9) rfl hin rfl (by decide +kernel) rfl rfl (Nat.le_of_ble_eq_true rfl) dX6_init_43 (fun H locs hP hD hS => ?_)
  have hP : va_P (dC, dI) vwCl [(h0, .inr (6, [.ref h1, .ref h2, .null, .ref q1, .long 0, .int 0, .ref q2, .ref q3, .ref q4])), (q1, .inl (cJ, 10, .inr (.inl (fun _ => 0)))), (q2, .inl (cI, 10, .inl (fun _ => 0))), (q3, .inl (cI, 10, .inl (fun _ => 0))), (q4, .inl (cI, 45, .inl (fun _ => 0)))] H := hP
  have hD : va_D A [(h0, .inr (6, [.ref h1, .ref h2, .null, .ref q1, .long 0, .int 0, .ref q2, .ref q3, .ref q4])), (q1, .inl (cJ, 10, .inr (.inl (fun _ => 0)))), (q2, .inl (cI, 10, .inl (fun _ => 0))), (q3, .inl (cI, 10, .inl (fun _ => 0))), (q4, .inl (cI, 45, .inl (fun _ => 0)))] := hD
  refine lv_aload_n hx hb dX6_init_46 rfl (lv_at hl 0 rfl) ?_
  refine lv_aload_n hx hb dX6_init_47 rfl (lv_at hl 3 rfl) ?_
  refine va_putF (D := (dC, dI)) (ci := 6) (v := .ref h3) (ty := .object "NinePortraits$Studio") (C := RX6) (T := TX6) (N := 9) hx hb hts iX6 tyX6 tyX6_ok nmX6 hown hK hP hD hS 0 rfl rfl 2 (by decide) (hts _ qw318) (fun _ h9 => h9) rfl hin rfl (by decide +kernel) rfl rfl (Nat.le_of_ble_eq_true rfl) dX6_init_48 (fun H locs hP hD hS => ?_)
  have hP : va_P (dC, dI) vwCl [(h0, .inr (6, [.ref h1, .ref h2, .ref h3, .ref q1, .long 0, .int 0, .ref q2, .ref q3, .ref q4])), (q1, .inl (cJ, 10, .inr (.inl (fun _ => 0)))), (q2, .inl (cI, 10, .inl (fun _ => 0))), (q3, .inl (cI, 10, .inl (fun _ => 0))), (q4, .inl (cI, 45, .inl (fun _ => 0)))] H := hP
  have hD : va_D A [(h0, .inr (6, [.ref h1, .ref h2, .ref h3, .ref q1, .long 0, .int 0, .ref q2, .ref q3, .ref q4])), (q1, .inl (cJ, 10, .inr (.inl (fun _ => 0)))), (q2, .inl (cI, 10, .inl (fun _ => 0))), (q3, .inl (cI, 10, .inl (fun _ => 0))), (q4, .inl (cI, 45, .inl (fun _ => 0)))] := hD
  exact W.vret hx hb hr (fun t ht hW => ⟨⟨(), rfl, trivial, ⟨q1, q2, q3, q4, by rw [ht]; exact hP, hD⟩⟩, hS.F ht⟩) hS.2.2 dX6_init_51
set_option maxHeartbeats 4000000 in
set_option maxRecDepth 100000 in
theorem c_X3_init (l : Launch) (dC : Nat → ClassId) (dI : Nat → Nat → Nat) (cI cJ : ClassId) (h0 : Nat) (sz : Nat) : Met l yX3_init (.code yX3_init cX3_init 1 none :: wA) ({ frames := 1, cells := 0, slots := 0, locals := 20 }) (zP (dC, dI) [(cI, .int), (cJ, .long)] [.ref h0] sz []) (va_Qv (fun (_ : Unit) => True) (fun (_ : Unit) (_ : State) => True) (va_A [] sz)) 0 0 (va_A [] sz) := by
  refine Met.ofW (cc := cX3_init) (maxL := 1) (ret := none) (by decide) rfl ?_
  intro p e s m args below meth c s₁ B hml hv
  obtain ⟨rfl, hsz, hP, hK, hT⟩ := hv
  have hx := B.exec
  have hb := B.bytes
  have hr := B.returns
  have hts : ∀ w ∈ wA, w.before _ s = true := fun w h => atoms_spec (ws := .code yX3_init cX3_init 1 none :: wA) B.pre w (List.mem_cons_of_mem _ h)
  have hown : s.vm.findClass RX3 = some m.cls := findClass_of_methodNamed B.named
  have hlocks := B.notSynchronized
  have hin : meth.name = "<init>" := (name_of_methodNamed B.named B.method).1
  subst hsz
  have hD : va_D (va_A [] s.heap.size) [] := zD0
  generalize hAe : va_A [] s.heap.size = A at hD ⊢
  have hA : ∀ q : Nat, s.heap.size ≤ q → A q := fun q h => by rw [← hAe]; exact Or.inr h
  have hl := lv_entry ([.ref h0]) (n := 1) (Nat.le_of_ble_eq_true rfl)
  rw [lg_entry_eq]
  generalize (lg_sl ([.ref h0]) ++ List.replicate (1 - (lg_sl ([.ref h0])).length) Slot.unset).toArray = ls at hl ⊢
  have hl : lv_has ls 1 [(0, .ref h0)] := hl
  refine zstart (fun H hH => ?_)
  rw [← hH] at hP
  have hS : va_S A s.heap H [] := by rw [hH]; exact va_S.rf
  refine lv_aload_n hx hb dX3_init_0 rfl (lv_at hl 0 rfl) ?_
  refine W.objInit hx hb hown (hts _ qw351) (hts _ qw124) (hts _ qw125) rfl (by rw [hml]; exact hl.1) rfl dX3_init_1 (Nat.le_of_ble_eq_true rfl) (Nat.le_of_ble_eq_true rfl) ?_
  refine W.eq (g2 := F0 m 4 ls []) rfl ?_
  exact W.vret hx hb hr (fun t ht hW => ⟨⟨(), rfl, trivial, trivial⟩, hS.F ht⟩) hS.2.2 dX3_init_4
set_option maxHeartbeats 4000000 in
set_option maxRecDepth 100000 in
theorem c_X10_init (l : Launch) (dC : Nat → ClassId) (dI : Nat → Nat → Nat) (cI cJ cQ : ClassId) (h0 : Nat) (sz : Nat) : Met l yX10_init (.code yX10_init cX10_init 1 none :: wA) ({ frames := 2, cells := 36, slots := 1656, locals := 43 }) (zPE (dC, dI) [(cI, .int), (cJ, .long), (cQ, .object "NinePortraits$Law")] [.ref h0] sz [(h0, .inr (10, [.null, .null, .null, .null, .null, .null, .null, .null, .null, .null, .null, .null, .null, .int 0, .int 0, .int 0, .int 0]))]) (va_Qv (fun (_ : Unit) => True) (fun (_ : Unit) (t : State) => ∃ (q1 : Nat) (q3 : Nat) (q4 : Nat) (q6 : Nat) (q8 : Nat) (q9 : Nat) (q11 : Nat) (q12 : Nat) (q13 : Nat) (q14 : Nat) (q16 : Nat) (q17 : Nat) (q18 : Nat) (q19 : Nat) (q20 : Nat) (q22 : Nat) (q23 : Nat) (q24 : Nat) (q25 : Nat) (q27 : Nat) (q28 : Nat) (q29 : Nat) (q30 : Nat) (q32 : Nat) (q33 : Nat) (q35 : Nat) (q36 : Nat) (q37 : Nat) (q38 : Nat) (q39 : Nat) (q41 : Nat) (q42 : Nat) (q43 : Nat) (q44 : Nat) (q45 : Nat) (q47 : Nat), va_P (dC, dI) vwCl [(h0, .inr (10, [.ref q1, .ref q4, .ref q6, .ref q9, .ref q14, .ref q19, .ref q20, .ref q25, .ref q30, .ref q33, .ref q39, .ref q45, .ref q47, .int 0, .int (-1), .int 0, .int 0])), (q1, .inr (9, [.ref q3, .int 0, .int 0])), (q3, .inl (cI, 260, .inl (fun _ => 0))), (q4, .inr (2, [.null, .null, .int 0])), (q6, .inr (5, [.ref q8, .int 0, .null])), (q8, .inl (cI, 241, .inl (fun _ => 0))), (q9, .inr (1, [.ref q11, .ref q12, .ref q13, .int 0, .int 0])), (q11, .inl (cI, 3, .inl (fun _ => 0))), (q12, .inl (cI, 24, .inl (fun _ => 0))), (q13, .inl (cI, 20, .inl (fun _ => 0))), (q14, .inr (1, [.ref q16, .ref q17, .ref q18, .int 0, .int 0])), (q16, .inl (cI, 3, .inl (fun _ => 0))), (q17, .inl (cI, 24, .inl (fun _ => 0))), (q18, .inl (cI, 20, .inl (fun _ => 0))), (q19, .inl (cQ, 4, .inr (.inr (.inr (.inr (fun _ => none)))))), (q20, .inr (7, [.ref q22, .ref q23, .ref q24, .int 0, .int 0, .int 0, .int (-1), .int 0, .int 0])), (q22, .inl (cI, 6, .inl (fun _ => 0))), (q23, .inl (cI, 5, .inl (fun _ => 0))), (q24, .inl (cI, 80, .inl (fun _ => 0))), (q25, .inr (7, [.ref q27, .ref q28, .ref q29, .int 0, .int 0, .int 0, .int (-1), .int 0, .int 0])), (q27, .inl (cI, 6, .inl (fun _ => 0))), (q28, .inl (cI, 5, .inl (fun _ => 0))), (q29, .inl (cI, 80, .inl (fun _ => 0))), (q30, .inr (0, [.ref q32, .int 0, .int 0])), (q32, .inl (cI, 680, .inl (fun _ => 0))), (q33, .inr (8, [.ref q35, .ref q36, .ref q14, .ref q20, .ref q37, .ref q38, .null])), (q35, .inl (cI, 10, .inl (fun _ => 0))), (q36, .inl (cI, 10, .inl (fun _ => 0))), (q37, .inl (cI, 6, .inl (fun _ => 0))), (q38, .inl (cI, 32, .inl (fun _ => 0))), (q39, .inr (6, [.ref q14, .ref q20, .ref q33, .ref q41, .long 0, .int 0, .ref q42, .ref q43, .ref q44])), (q41, .inl (cJ, 10, .inr (.inl (fun _ => 0)))), (q42, .inl (cI, 10, .inl (fun _ => 0))), (q43, .inl (cI, 10, .inl (fun _ => 0))), (q44, .inl (cI, 45, .inl (fun _ => 0))), (q45, .inr (3, [.long 0])), (q47, .inl (cI, 5, .inl (fun _ => 0)))] t.heap ∧ va_D (va_A [(h0, .inr (10, [.null, .null, .null, .null, .null, .null, .null, .null, .null, .null, .null, .null, .null, .int 0, .int 0, .int 0, .int 0]))] sz) [(h0, .inr (10, [.ref q1, .ref q4, .ref q6, .ref q9, .ref q14, .ref q19, .ref q20, .ref q25, .ref q30, .ref q33, .ref q39, .ref q45, .ref q47, .int 0, .int (-1), .int 0, .int 0])), (q1, .inr (9, [.ref q3, .int 0, .int 0])), (q3, .inl (cI, 260, .inl (fun _ => 0))), (q4, .inr (2, [.null, .null, .int 0])), (q6, .inr (5, [.ref q8, .int 0, .null])), (q8, .inl (cI, 241, .inl (fun _ => 0))), (q9, .inr (1, [.ref q11, .ref q12, .ref q13, .int 0, .int 0])), (q11, .inl (cI, 3, .inl (fun _ => 0))), (q12, .inl (cI, 24, .inl (fun _ => 0))), (q13, .inl (cI, 20, .inl (fun _ => 0))), (q14, .inr (1, [.ref q16, .ref q17, .ref q18, .int 0, .int 0])), (q16, .inl (cI, 3, .inl (fun _ => 0))), (q17, .inl (cI, 24, .inl (fun _ => 0))), (q18, .inl (cI, 20, .inl (fun _ => 0))), (q19, .inl (cQ, 4, .inr (.inr (.inr (.inr (fun _ => none)))))), (q20, .inr (7, [.ref q22, .ref q23, .ref q24, .int 0, .int 0, .int 0, .int (-1), .int 0, .int 0])), (q22, .inl (cI, 6, .inl (fun _ => 0))), (q23, .inl (cI, 5, .inl (fun _ => 0))), (q24, .inl (cI, 80, .inl (fun _ => 0))), (q25, .inr (7, [.ref q27, .ref q28, .ref q29, .int 0, .int 0, .int 0, .int (-1), .int 0, .int 0])), (q27, .inl (cI, 6, .inl (fun _ => 0))), (q28, .inl (cI, 5, .inl (fun _ => 0))), (q29, .inl (cI, 80, .inl (fun _ => 0))), (q30, .inr (0, [.ref q32, .int 0, .int 0])), (q32, .inl (cI, 680, .inl (fun _ => 0))), (q33, .inr (8, [.ref q35, .ref q36, .ref q14, .ref q20, .ref q37, .ref q38, .null])), (q35, .inl (cI, 10, .inl (fun _ => 0))), (q36, .inl (cI, 10, .inl (fun _ => 0))), (q37, .inl (cI, 6, .inl (fun _ => 0))), (q38, .inl (cI, 32, .inl (fun _ => 0))), (q39, .inr (6, [.ref q14, .ref q20, .ref q33, .ref q41, .long 0, .int 0, .ref q42, .ref q43, .ref q44])), (q41, .inl (cJ, 10, .inr (.inl (fun _ => 0)))), (q42, .inl (cI, 10, .inl (fun _ => 0))), (q43, .inl (cI, 10, .inl (fun _ => 0))), (q44, .inl (cI, 45, .inl (fun _ => 0))), (q45, .inr (3, [.long 0])), (q47, .inl (cI, 5, .inl (fun _ => 0)))]) (va_A [(h0, .inr (10, [.null, .null, .null, .null, .null, .null, .null, .null, .null, .null, .null, .null, .null, .int 0, .int 0, .int 0, .int 0]))] sz)) 36 1656 (va_A [(h0, .inr (10, [.null, .null, .null, .null, .null, .null, .null, .null, .null, .null, .null, .null, .null, .int 0, .int 0, .int 0, .int 0]))] sz) := by
  refine Met.ofW (cc := cX10_init) (maxL := 1) (ret := none) (by decide) rfl ?_
  intro p e s m args below meth c s₁ B hml hv
  obtain ⟨⟨rfl, hsz, hP, hK3, hT⟩, hE⟩ := hv
  have hK : va_K (dC, dI) vwCl [(cI, .int), (cJ, .long)] s := hK3.sub [0, 1] rfl
  obtain ⟨hN_9, hN_18, hN_25, hN_32, hN_48, hN_58, hN_83, hAO⟩ := hE
  have hx := B.exec
  have hb := B.bytes
  have hr := B.returns
  have hts : ∀ w ∈ wA, w.before _ s = true := fun w h => atoms_spec (ws := .code yX10_init cX10_init 1 none :: wA) B.pre w (List.mem_cons_of_mem _ h)
  have hown : s.vm.findClass RX10 = some m.cls := findClass_of_methodNamed B.named
  have hlocks := B.notSynchronized
  have hin : meth.name = "<init>" := (name_of_methodNamed B.named B.method).1
  subst hsz
  have hD := hT.self (sz := s.heap.size)
  generalize hAe : va_A [(h0, .inr (10, [.null, .null, .null, .null, .null, .null, .null, .null, .null, .null, .null, .null, .null, .int 0, .int 0, .int 0, .int 0]))] s.heap.size = A at hD ⊢
  have hA : ∀ q : Nat, s.heap.size ≤ q → A q := fun q h => by rw [← hAe]; exact Or.inr h
  have hl := lv_entry ([.ref h0]) (n := 1) (Nat.le_of_ble_eq_true rfl)
  rw [lg_entry_eq]
  generalize (lg_sl ([.ref h0]) ++ List.replicate (1 - (lg_sl ([.ref h0])).length) Slot.unset).toArray = ls at hl ⊢
  have hl : lv_has ls 1 [(0, .ref h0)] := hl
  refine zstart (fun H hH => ?_)
  rw [← hH] at hP
  have hS : va_S A s.heap H [] := by rw [hH]; exact va_S.rf
  refine lv_aload_n hx hb dX10_init_0 rfl (lv_at hl 0 rfl) ?_
  refine W.objInit hx hb hown (hts _ qw123) (hts _ qw124) (hts _ qw125) rfl (by rw [hml]; exact hl.1) rfl dX10_init_1 (Nat.le_of_ble_eq_true rfl) (Nat.le_of_ble_eq_true rfl) ?_
  refine W.eq (g2 := F0 m 4 ls []) rfl ?_
  refine lv_aload_n hx hb dX10_init_4 rfl (lv_at hl 0 rfl) ?_
  refine va_new (ci := 9) (fs := [.null, .int 0, .int 0]) (C := RX9) (T := TX9) (N := 3) hx hb hts iX9 tyX9 tyX9_ok hown (hts _ qw126) (hts _ qw127) (hts _ qw99) hK hP hD hS hA rfl fsX9 (Nat.le_of_ble_eq_true rfl) (Nat.le_of_ble_eq_true rfl) dX10_init_5 (fun q1 H hP hD hS => ?_)
  have hP : va_P (dC, dI) vwCl [(h0, .inr (10, [.null, .null, .null, .null, .null, .null, .null, .null, .null, .null, .null, .null, .null, .int 0, .int 0, .int 0, .int 0])), (q1, .inr (9, [.null, .int 0, .int 0]))] H := hP
  have hD : va_D A [(h0, .inr (10, [.null, .null, .null, .null, .null, .null, .null, .null, .null, .null, .null, .null, .null, .int 0, .int 0, .int 0, .int 0])), (q1, .inr (9, [.null, .int 0, .int 0]))] := hD
  refine W.widen (k := 1) (n := 3) (Nat.le_of_ble_eq_true rfl) (Nat.le_of_ble_eq_true rfl) ?_
  refine lv_dup hx hb dX10_init_8 rfl ?_
  have hPc := hP.sub (ws' := [(q1, .inr (9, [.null, .int 0, .int 0]))]) [1] rfl
  have hDc := hD.sub (ws' := [(q1, .inr (9, [.null, .int 0, .int 0]))]) [1] (by decide) rfl
  have hFc := va_free (wc := [(q1, .inr (9, [.null, .int 0, .int 0]))]) hD hS hA [1] rfl
  refine va_callv (va_runIN (As := []) (rest := [.ref q1, .ref h0]) ⟨hx, hb, hml, hown, hts⟩ (c_X9_init l dC dI cI cJ q1 H.size) ⟨va_cnB 0 hts (zgI qw130) rfl rfl rfl (hN_9) (hts _ qw99) (hd_X9_init).2 ⟨Nat.le_of_ble_eq_true rfl, Nat.le_of_ble_eq_true rfl⟩, rfl, hts _ qw129⟩ (zPS hPc hK hDc) rfl rfl hl.1 rfl (lv_room (Nat.le_of_ble_eq_true rfl)) dX10_init_9 ⟨Nat.le_of_ble_eq_true rfl, Nat.le_of_ble_eq_true rfl⟩) hS (fun q _ h => hFc q h) hFc (fun u t H locs ht hvm hw hB hz1 hk1 hS => ?_)
  refine W.widen (k := 2) (n := 263) (Nat.le_of_ble_eq_true rfl) (Nat.le_of_ble_eq_true rfl) ?_
  obtain ⟨q3, hB⟩ := hB
  obtain ⟨hP1, hD1⟩ := hB
  rw [ht] at hP1
  obtain ⟨hP, hD⟩ := va_join (wr := [(h0, .inr (10, [.null, .null, .null, .null, .null, .null, .null, .null, .null, .null, .null, .null, .null, .int 0, .int 0, .int 0, .int 0]))]) (w1 := [(q1, .inr (9, [.ref q3, .int 0, .int 0])), (q3, .inl (cI, 260, .inl (fun _ => 0)))]) hP hD [1] [0] rfl rfl (by decide) (by decide) hk1 hFc hP1 hD1
  have hP : va_P (dC, dI) vwCl [(h0, .inr (10, [.null, .null, .null, .null, .null, .null, .null, .null, .null, .null, .null, .null, .null, .int 0, .int 0, .int 0, .int 0])), (q1, .inr (9, [.ref q3, .int 0, .int 0])), (q3, .inl (cI, 260, .inl (fun _ => 0)))] H := hP
  have hD : va_D A [(h0, .inr (10, [.null, .null, .null, .null, .null, .null, .null, .null, .null, .null, .null, .null, .null, .int 0, .int 0, .int 0, .int 0])), (q1, .inr (9, [.ref q3, .int 0, .int 0])), (q3, .inl (cI, 260, .inl (fun _ => 0)))] := hD
  refine va_putF (D := (dC, dI)) (ci := 10) (v := .ref q1) (ty := .object "NinePortraits$Tape") (C := RX10) (T := TX10) (N := 17) hx hb hts iX10 tyX10 tyX10_ok nmX10 hown hK hP hD hS 0 rfl rfl 0 (by decide) (hts _ qw356) (fun _ h9 => h9) rfl hin rfl (by decide +kernel) rfl rfl (Nat.le_of_ble_eq_true rfl) dX10_init_12 (fun H locs hP hD hS => ?_)
  have hP : va_P (dC, dI) vwCl [(h0, .inr (10, [.ref q1, .null, .null, .null, .null, .null, .null, .null, .null, .null, .null, .null, .null, .int 0, .int 0, .int 0, .int 0])), (q1, .inr (9, [.ref q3, .int 0, .int 0])), (q3, .inl (cI, 260, .inl (fun _ => 0)))] H := hP
  have hD : va_D A [(h0, .inr (10, [.ref q1, .null, .null, .null, .null, .null, .null, .null, .null, .null, .null, .null, .null, .int 0, .int 0, .int 0, .int 0])), (q1, .inr (9, [.ref q3, .int 0, .int 0])), (q3, .inl (cI, 260, .inl (fun _ => 0)))] := hD
  refine lv_aload_n hx hb dX10_init_15 rfl (lv_at hl 0 rfl) ?_
  refine va_new (ci := 2) (fs := [.null, .null, .int 0]) (C := RX2) (T := TX2) (N := 3) hx hb hts iX2 tyX2 tyX2_ok hown (hts _ qw148) (hts _ qw149) (hts _ qw100) hK hP hD hS hA rfl fsX2 (Nat.le_of_ble_eq_true rfl) (Nat.le_of_ble_eq_true rfl) dX10_init_16 (fun q4 H hP hD hS => ?_)
  have hP : va_P (dC, dI) vwCl [(h0, .inr (10, [.ref q1, .null, .null, .null, .null, .null, .null, .null, .null, .null, .null, .null, .null, .int 0, .int 0, .int 0, .int 0])), (q1, .inr (9, [.ref q3, .int 0, .int 0])), (q3, .inl (cI, 260, .inl (fun _ => 0))), (q4, .inr (2, [.null, .null, .int 0]))] H := hP
  have hD : va_D A [(h0, .inr (10, [.ref q1, .null, .null, .null, .null, .null, .null, .null, .null, .null, .null, .null, .null, .int 0, .int 0, .int 0, .int 0])), (q1, .inr (9, [.ref q3, .int 0, .int 0])), (q3, .inl (cI, 260, .inl (fun _ => 0))), (q4, .inr (2, [.null, .null, .int 0]))] := hD
  refine W.widen (k := 3) (n := 266) (Nat.le_of_ble_eq_true rfl) (Nat.le_of_ble_eq_true rfl) ?_
  refine lv_dup hx hb dX10_init_19 rfl ?_
  have hPc : va_P (dC, dI) vwCl [] H := zP0
  have hDc : va_D (fun _ => True) [] := zD0
  have hFc := zfr hS hA
  refine va_callv (va_runIN (As := []) (rest := [.ref q4, .ref h0]) ⟨hx, hb, hml, hown, hts⟩ (c_X2_init l dC dI cI cJ q4 H.size) ⟨va_cnB 0 hts (zgI qw152) rfl rfl rfl (hN_18) (hts _ qw100) (hd_X2_init).2 ⟨Nat.le_of_ble_eq_true rfl, Nat.le_of_ble_eq_true rfl⟩, rfl, hts _ qw151⟩ (zPS hPc hK hDc) rfl rfl hl.1 rfl (lv_room (Nat.le_of_ble_eq_true rfl)) dX10_init_20 ⟨Nat.le_of_ble_eq_true rfl, Nat.le_of_ble_eq_true rfl⟩) hS (fun q _ h => hFc q h) hFc (fun u t H locs ht hvm hw hB hz1 hk1 hS => ?_)
  have hP := zkeep hP hk1
  refine va_putF (D := (dC, dI)) (ci := 10) (v := .ref q4) (ty := .object "NinePortraits$CourtReader") (C := RX10) (T := TX10) (N := 17) hx hb hts iX10 tyX10 tyX10_ok nmX10 hown hK hP hD hS 0 rfl rfl 1 (by decide) (hts _ qw357) (fun _ h9 => h9) rfl hin rfl (by decide +kernel) rfl rfl (Nat.le_of_ble_eq_true rfl) dX10_init_23 (fun H locs hP hD hS => ?_)
  have hP : va_P (dC, dI) vwCl [(h0, .inr (10, [.ref q1, .ref q4, .null, .null, .null, .null, .null, .null, .null, .null, .null, .null, .null, .int 0, .int 0, .int 0, .int 0])), (q1, .inr (9, [.ref q3, .int 0, .int 0])), (q3, .inl (cI, 260, .inl (fun _ => 0))), (q4, .inr (2, [.null, .null, .int 0]))] H := hP
  have hD : va_D A [(h0, .inr (10, [.ref q1, .ref q4, .null, .null, .null, .null, .null, .null, .null, .null, .null, .null, .null, .int 0, .int 0, .int 0, .int 0])), (q1, .inr (9, [.ref q3, .int 0, .int 0])), (q3, .inl (cI, 260, .inl (fun _ => 0))), (q4, .inr (2, [.null, .null, .int 0]))] := hD
  refine lv_aload_n hx hb dX10_init_26 rfl (lv_at hl 0 rfl) ?_
  refine va_new (ci := 5) (fs := [.null, .int 0, .null]) (C := RX5) (T := TX5) (N := 3) hx hb hts iX5 tyX5 tyX5_ok hown (hts _ qw164) (hts _ qw165) (hts _ qw101) hK hP hD hS hA rfl fsX5 (Nat.le_of_ble_eq_true rfl) (Nat.le_of_ble_eq_true rfl) dX10_init_27 (fun q6 H hP hD hS => ?_)
  have hP : va_P (dC, dI) vwCl [(h0, .inr (10, [.ref q1, .ref q4, .null, .null, .null, .null, .null, .null, .null, .null, .null, .null, .null, .int 0, .int 0, .int 0, .int 0])), (q1, .inr (9, [.ref q3, .int 0, .int 0])), (q3, .inl (cI, 260, .inl (fun _ => 0))), (q4, .inr (2, [.null, .null, .int 0])), (q6, .inr (5, [.null, .int 0, .null]))] H := hP
  have hD : va_D A [(h0, .inr (10, [.ref q1, .ref q4, .null, .null, .null, .null, .null, .null, .null, .null, .null, .null, .null, .int 0, .int 0, .int 0, .int 0])), (q1, .inr (9, [.ref q3, .int 0, .int 0])), (q3, .inl (cI, 260, .inl (fun _ => 0))), (q4, .inr (2, [.null, .null, .int 0])), (q6, .inr (5, [.null, .int 0, .null]))] := hD
  refine W.widen (k := 4) (n := 269) (Nat.le_of_ble_eq_true rfl) (Nat.le_of_ble_eq_true rfl) ?_
  refine lv_dup hx hb dX10_init_30 rfl ?_
  have hPc := hP.sub (ws' := [(q6, .inr (5, [.null, .int 0, .null]))]) [4] rfl
  have hDc := hD.sub (ws' := [(q6, .inr (5, [.null, .int 0, .null]))]) [4] (by decide) rfl
  have hFc := va_free (wc := [(q6, .inr (5, [.null, .int 0, .null]))]) hD hS hA [4] rfl
  refine va_callv (va_runIN (As := []) (rest := [.ref q6, .ref h0]) ⟨hx, hb, hml, hown, hts⟩ (c_X5_init l dC dI cI cJ q6 H.size) ⟨va_cnB 0 hts (zgI qw168) rfl rfl rfl (hN_25) (hts _ qw101) (hd_X5_init).2 ⟨Nat.le_of_ble_eq_true rfl, Nat.le_of_ble_eq_true rfl⟩, rfl, hts _ qw167⟩ (zPS hPc hK hDc) rfl rfl hl.1 rfl (lv_room (Nat.le_of_ble_eq_true rfl)) dX10_init_31 ⟨Nat.le_of_ble_eq_true rfl, Nat.le_of_ble_eq_true rfl⟩) hS (fun q _ h => hFc q h) hFc (fun u t H locs ht hvm hw hB hz1 hk1 hS => ?_)
  refine W.widen (k := 5) (n := 510) (Nat.le_of_ble_eq_true rfl) (Nat.le_of_ble_eq_true rfl) ?_
  obtain ⟨q8, hB⟩ := hB
  obtain ⟨hP1, hD1⟩ := hB
  rw [ht] at hP1
  obtain ⟨hP, hD⟩ := va_join (wr := [(h0, .inr (10, [.ref q1, .ref q4, .null, .null, .null, .null, .null, .null, .null, .null, .null, .null, .null, .int 0, .int 0, .int 0, .int 0])), (q1, .inr (9, [.ref q3, .int 0, .int 0])), (q3, .inl (cI, 260, .inl (fun _ => 0))), (q4, .inr (2, [.null, .null, .int 0]))]) (w1 := [(q6, .inr (5, [.ref q8, .int 0, .null])), (q8, .inl (cI, 241, .inl (fun _ => 0)))]) hP hD [4] [0, 1, 2, 3] rfl rfl (by decide) (by decide) hk1 hFc hP1 hD1
  have hP : va_P (dC, dI) vwCl [(h0, .inr (10, [.ref q1, .ref q4, .null, .null, .null, .null, .null, .null, .null, .null, .null, .null, .null, .int 0, .int 0, .int 0, .int 0])), (q1, .inr (9, [.ref q3, .int 0, .int 0])), (q3, .inl (cI, 260, .inl (fun _ => 0))), (q4, .inr (2, [.null, .null, .int 0])), (q6, .inr (5, [.ref q8, .int 0, .null])), (q8, .inl (cI, 241, .inl (fun _ => 0)))] H := hP
  have hD : va_D A [(h0, .inr (10, [.ref q1, .ref q4, .null, .null, .null, .null, .null, .null, .null, .null, .null, .null, .null, .int 0, .int 0, .int 0, .int 0])), (q1, .inr (9, [.ref q3, .int 0, .int 0])), (q3, .inl (cI, 260, .inl (fun _ => 0))), (q4, .inr (2, [.null, .null, .int 0])), (q6, .inr (5, [.ref q8, .int 0, .null])), (q8, .inl (cI, 241, .inl (fun _ => 0)))] := hD
  refine va_putF (D := (dC, dI)) (ci := 10) (v := .ref q6) (ty := .object "NinePortraits$LawReader") (C := RX10) (T := TX10) (N := 17) hx hb hts iX10 tyX10 tyX10_ok nmX10 hown hK hP hD hS 0 rfl rfl 2 (by decide) (hts _ qw358) (fun _ h9 => h9) rfl hin rfl (by decide +kernel) rfl rfl (Nat.le_of_ble_eq_true rfl) dX10_init_34 (fun H locs hP hD hS => ?_)
  have hP : va_P (dC, dI) vwCl [(h0, .inr (10, [.ref q1, .ref q4, .ref q6, .null, .null, .null, .null, .null, .null, .null, .null, .null, .null, .int 0, .int 0, .int 0, .int 0])), (q1, .inr (9, [.ref q3, .int 0, .int 0])), (q3, .inl (cI, 260, .inl (fun _ => 0))), (q4, .inr (2, [.null, .null, .int 0])), (q6, .inr (5, [.ref q8, .int 0, .null])), (q8, .inl (cI, 241, .inl (fun _ => 0)))] H := hP
  have hD : va_D A [(h0, .inr (10, [.ref q1, .ref q4, .ref q6, .null, .null, .null, .null, .null, .null, .null, .null, .null, .null, .int 0, .int 0, .int 0, .int 0])), (q1, .inr (9, [.ref q3, .int 0, .int 0])), (q3, .inl (cI, 260, .inl (fun _ => 0))), (q4, .inr (2, [.null, .null, .int 0])), (q6, .inr (5, [.ref q8, .int 0, .null])), (q8, .inl (cI, 241, .inl (fun _ => 0)))] := hD
  refine lv_aload_n hx hb dX10_init_37 rfl (lv_at hl 0 rfl) ?_
  refine va_new (ci := 1) (fs := [.null, .null, .null, .int 0, .int 0]) (C := RX1) (T := TX1) (N := 5) hx hb hts iX1 tyX1 tyX1_ok hown (hts _ qw180) (hts _ qw181) (hts _ qw102) hK hP hD hS hA rfl fsX1 (Nat.le_of_ble_eq_true rfl) (Nat.le_of_ble_eq_true rfl) dX10_init_38 (fun q9 H hP hD hS => ?_)
  have hP : va_P (dC, dI) vwCl [(h0, .inr (10, [.ref q1, .ref q4, .ref q6, .null, .null, .null, .null, .null, .null, .null, .null, .null, .null, .int 0, .int 0, .int 0, .int 0])), (q1, .inr (9, [.ref q3, .int 0, .int 0])), (q3, .inl (cI, 260, .inl (fun _ => 0))), (q4, .inr (2, [.null, .null, .int 0])), (q6, .inr (5, [.ref q8, .int 0, .null])), (q8, .inl (cI, 241, .inl (fun _ => 0))), (q9, .inr (1, [.null, .null, .null, .int 0, .int 0]))] H := hP
  have hD : va_D A [(h0, .inr (10, [.ref q1, .ref q4, .ref q6, .null, .null, .null, .null, .null, .null, .null, .null, .null, .null, .int 0, .int 0, .int 0, .int 0])), (q1, .inr (9, [.ref q3, .int 0, .int 0])), (q3, .inl (cI, 260, .inl (fun _ => 0))), (q4, .inr (2, [.null, .null, .int 0])), (q6, .inr (5, [.ref q8, .int 0, .null])), (q8, .inl (cI, 241, .inl (fun _ => 0))), (q9, .inr (1, [.null, .null, .null, .int 0, .int 0]))] := hD
  refine W.widen (k := 6) (n := 515) (Nat.le_of_ble_eq_true rfl) (Nat.le_of_ble_eq_true rfl) ?_
  refine lv_dup hx hb dX10_init_41 rfl ?_
  have hPc := hP.sub (ws' := [(q9, .inr (1, [.null, .null, .null, .int 0, .int 0]))]) [6] rfl
  have hDc := hD.sub (ws' := [(q9, .inr (1, [.null, .null, .null, .int 0, .int 0]))]) [6] (by decide) rfl
  have hFc := va_free (wc := [(q9, .inr (1, [.null, .null, .null, .int 0, .int 0]))]) hD hS hA [6] rfl
  refine va_callv (va_runIN (As := []) (rest := [.ref q9, .ref h0]) ⟨hx, hb, hml, hown, hts⟩ (c_X1_init l dC dI cI cJ q9 H.size) ⟨va_cnB 0 hts (zgI qw184) rfl rfl rfl (hN_32) (hts _ qw102) (hd_X1_init).2 ⟨Nat.le_of_ble_eq_true rfl, Nat.le_of_ble_eq_true rfl⟩, rfl, hts _ qw183⟩ (zPS hPc hK hDc) rfl rfl hl.1 rfl (lv_room (Nat.le_of_ble_eq_true rfl)) dX10_init_42 ⟨Nat.le_of_ble_eq_true rfl, Nat.le_of_ble_eq_true rfl⟩) hS (fun q _ h => hFc q h) hFc (fun u t H locs ht hvm hw hB hz1 hk1 hS => ?_)
  refine W.widen (k := 9) (n := 562) (Nat.le_of_ble_eq_true rfl) (Nat.le_of_ble_eq_true rfl) ?_
  obtain ⟨q11, q12, q13, hB⟩ := hB
  obtain ⟨hP1, hD1⟩ := hB
  rw [ht] at hP1
  obtain ⟨hP, hD⟩ := va_join (wr := [(h0, .inr (10, [.ref q1, .ref q4, .ref q6, .null, .null, .null, .null, .null, .null, .null, .null, .null, .null, .int 0, .int 0, .int 0, .int 0])), (q1, .inr (9, [.ref q3, .int 0, .int 0])), (q3, .inl (cI, 260, .inl (fun _ => 0))), (q4, .inr (2, [.null, .null, .int 0])), (q6, .inr (5, [.ref q8, .int 0, .null])), (q8, .inl (cI, 241, .inl (fun _ => 0)))]) (w1 := [(q9, .inr (1, [.ref q11, .ref q12, .ref q13, .int 0, .int 0])), (q11, .inl (cI, 3, .inl (fun _ => 0))), (q12, .inl (cI, 24, .inl (fun _ => 0))), (q13, .inl (cI, 20, .inl (fun _ => 0)))]) hP hD [6] [0, 1, 2, 3, 4, 5] rfl rfl (by decide) (by decide) hk1 hFc hP1 hD1
  have hP : va_P (dC, dI) vwCl [(h0, .inr (10, [.ref q1, .ref q4, .ref q6, .null, .null, .null, .null, .null, .null, .null, .null, .null, .null, .int 0, .int 0, .int 0, .int 0])), (q1, .inr (9, [.ref q3, .int 0, .int 0])), (q3, .inl (cI, 260, .inl (fun _ => 0))), (q4, .inr (2, [.null, .null, .int 0])), (q6, .inr (5, [.ref q8, .int 0, .null])), (q8, .inl (cI, 241, .inl (fun _ => 0))), (q9, .inr (1, [.ref q11, .ref q12, .ref q13, .int 0, .int 0])), (q11, .inl (cI, 3, .inl (fun _ => 0))), (q12, .inl (cI, 24, .inl (fun _ => 0))), (q13, .inl (cI, 20, .inl (fun _ => 0)))] H := hP
  have hD : va_D A [(h0, .inr (10, [.ref q1, .ref q4, .ref q6, .null, .null, .null, .null, .null, .null, .null, .null, .null, .null, .int 0, .int 0, .int 0, .int 0])), (q1, .inr (9, [.ref q3, .int 0, .int 0])), (q3, .inl (cI, 260, .inl (fun _ => 0))), (q4, .inr (2, [.null, .null, .int 0])), (q6, .inr (5, [.ref q8, .int 0, .null])), (q8, .inl (cI, 241, .inl (fun _ => 0))), (q9, .inr (1, [.ref q11, .ref q12, .ref q13, .int 0, .int 0])), (q11, .inl (cI, 3, .inl (fun _ => 0))), (q12, .inl (cI, 24, .inl (fun _ => 0))), (q13, .inl (cI, 20, .inl (fun _ => 0)))] := hD
  refine va_putF (D := (dC, dI)) (ci := 10) (v := .ref q9) (ty := .object "NinePortraits$Court") (C := RX10) (T := TX10) (N := 17) hx hb hts iX10 tyX10 tyX10_ok nmX10 hown hK hP hD hS 0 rfl rfl 3 (by decide) (hts _ qw359) (fun _ h9 => h9) rfl hin rfl (by decide +kernel) rfl rfl (Nat.le_of_ble_eq_true rfl) dX10_init_45 (fun H locs hP hD hS => ?_)
  have hP : va_P (dC, dI) vwCl [(h0, .inr (10, [.ref q1, .ref q4, .ref q6, .ref q9, .null, .null, .null, .null, .null, .null, .null, .null, .null, .int 0, .int 0, .int 0, .int 0])), (q1, .inr (9, [.ref q3, .int 0, .int 0])), (q3, .inl (cI, 260, .inl (fun _ => 0))), (q4, .inr (2, [.null, .null, .int 0])), (q6, .inr (5, [.ref q8, .int 0, .null])), (q8, .inl (cI, 241, .inl (fun _ => 0))), (q9, .inr (1, [.ref q11, .ref q12, .ref q13, .int 0, .int 0])), (q11, .inl (cI, 3, .inl (fun _ => 0))), (q12, .inl (cI, 24, .inl (fun _ => 0))), (q13, .inl (cI, 20, .inl (fun _ => 0)))] H := hP
  have hD : va_D A [(h0, .inr (10, [.ref q1, .ref q4, .ref q6, .ref q9, .null, .null, .null, .null, .null, .null, .null, .null, .null, .int 0, .int 0, .int 0, .int 0])), (q1, .inr (9, [.ref q3, .int 0, .int 0])), (q3, .inl (cI, 260, .inl (fun _ => 0))), (q4, .inr (2, [.null, .null, .int 0])), (q6, .inr (5, [.ref q8, .int 0, .null])), (q8, .inl (cI, 241, .inl (fun _ => 0))), (q9, .inr (1, [.ref q11, .ref q12, .ref q13, .int 0, .int 0])), (q11, .inl (cI, 3, .inl (fun _ => 0))), (q12, .inl (cI, 24, .inl (fun _ => 0))), (q13, .inl (cI, 20, .inl (fun _ => 0)))] := hD
  refine lv_aload_n hx hb dX10_init_48 rfl (lv_at hl 0 rfl) ?_
  refine va_new (ci := 1) (fs := [.null, .null, .null, .int 0, .int 0]) (C := RX1) (T := TX1) (N := 5) hx hb hts iX1 tyX1 tyX1_ok hown (hts _ qw180) (hts _ qw181) (hts _ qw102) hK hP hD hS hA rfl fsX1 (Nat.le_of_ble_eq_true rfl) (Nat.le_of_ble_eq_true rfl) dX10_init_49 (fun q14 H hP hD hS => ?_)
  have hP : va_P (dC, dI) vwCl [(h0, .inr (10, [.ref q1, .ref q4, .ref q6, .ref q9, .null, .null, .null, .null, .null, .null, .null, .null, .null, .int 0, .int 0, .int 0, .int 0])), (q1, .inr (9, [.ref q3, .int 0, .int 0])), (q3, .inl (cI, 260, .inl (fun _ => 0))), (q4, .inr (2, [.null, .null, .int 0])), (q6, .inr (5, [.ref q8, .int 0, .null])), (q8, .inl (cI, 241, .inl (fun _ => 0))), (q9, .inr (1, [.ref q11, .ref q12, .ref q13, .int 0, .int 0])), (q11, .inl (cI, 3, .inl (fun _ => 0))), (q12, .inl (cI, 24, .inl (fun _ => 0))), (q13, .inl (cI, 20, .inl (fun _ => 0))), (q14, .inr (1, [.null, .null, .null, .int 0, .int 0]))] H := hP
  have hD : va_D A [(h0, .inr (10, [.ref q1, .ref q4, .ref q6, .ref q9, .null, .null, .null, .null, .null, .null, .null, .null, .null, .int 0, .int 0, .int 0, .int 0])), (q1, .inr (9, [.ref q3, .int 0, .int 0])), (q3, .inl (cI, 260, .inl (fun _ => 0))), (q4, .inr (2, [.null, .null, .int 0])), (q6, .inr (5, [.ref q8, .int 0, .null])), (q8, .inl (cI, 241, .inl (fun _ => 0))), (q9, .inr (1, [.ref q11, .ref q12, .ref q13, .int 0, .int 0])), (q11, .inl (cI, 3, .inl (fun _ => 0))), (q12, .inl (cI, 24, .inl (fun _ => 0))), (q13, .inl (cI, 20, .inl (fun _ => 0))), (q14, .inr (1, [.null, .null, .null, .int 0, .int 0]))] := hD
  refine W.widen (k := 10) (n := 567) (Nat.le_of_ble_eq_true rfl) (Nat.le_of_ble_eq_true rfl) ?_
  refine lv_dup hx hb dX10_init_52 rfl ?_
  have hPc := hP.sub (ws' := [(q14, .inr (1, [.null, .null, .null, .int 0, .int 0]))]) [10] rfl
  have hDc := hD.sub (ws' := [(q14, .inr (1, [.null, .null, .null, .int 0, .int 0]))]) [10] (by decide) rfl
  have hFc := va_free (wc := [(q14, .inr (1, [.null, .null, .null, .int 0, .int 0]))]) hD hS hA [10] rfl
  refine va_callv (va_runIN (As := []) (rest := [.ref q14, .ref h0]) ⟨hx, hb, hml, hown, hts⟩ (c_X1_init l dC dI cI cJ q14 H.size) ⟨va_cnB 0 hts (zgI qw184) rfl rfl rfl (hN_32) (hts _ qw102) (hd_X1_init).2 ⟨Nat.le_of_ble_eq_true rfl, Nat.le_of_ble_eq_true rfl⟩, rfl, hts _ qw183⟩ (zPS hPc hK hDc) rfl rfl hl.1 rfl (lv_room (Nat.le_of_ble_eq_true rfl)) dX10_init_53 ⟨Nat.le_of_ble_eq_true rfl, Nat.le_of_ble_eq_true rfl⟩) hS (fun q _ h => hFc q h) hFc (fun u t H locs ht hvm hw hB hz1 hk1 hS => ?_)
  refine W.widen (k := 13) (n := 614) (Nat.le_of_ble_eq_true rfl) (Nat.le_of_ble_eq_true rfl) ?_
  obtain ⟨q16, q17, q18, hB⟩ := hB
  obtain ⟨hP1, hD1⟩ := hB
  rw [ht] at hP1
  obtain ⟨hP, hD⟩ := va_join (wr := [(h0, .inr (10, [.ref q1, .ref q4, .ref q6, .ref q9, .null, .null, .null, .null, .null, .null, .null, .null, .null, .int 0, .int 0, .int 0, .int 0])), (q1, .inr (9, [.ref q3, .int 0, .int 0])), (q3, .inl (cI, 260, .inl (fun _ => 0))), (q4, .inr (2, [.null, .null, .int 0])), (q6, .inr (5, [.ref q8, .int 0, .null])), (q8, .inl (cI, 241, .inl (fun _ => 0))), (q9, .inr (1, [.ref q11, .ref q12, .ref q13, .int 0, .int 0])), (q11, .inl (cI, 3, .inl (fun _ => 0))), (q12, .inl (cI, 24, .inl (fun _ => 0))), (q13, .inl (cI, 20, .inl (fun _ => 0)))]) (w1 := [(q14, .inr (1, [.ref q16, .ref q17, .ref q18, .int 0, .int 0])), (q16, .inl (cI, 3, .inl (fun _ => 0))), (q17, .inl (cI, 24, .inl (fun _ => 0))), (q18, .inl (cI, 20, .inl (fun _ => 0)))]) hP hD [10] [0, 1, 2, 3, 4, 5, 6, 7, 8, 9] rfl rfl (by decide) (by decide) hk1 hFc hP1 hD1
  have hP : va_P (dC, dI) vwCl [(h0, .inr (10, [.ref q1, .ref q4, .ref q6, .ref q9, .null, .null, .null, .null, .null, .null, .null, .null, .null, .int 0, .int 0, .int 0, .int 0])), (q1, .inr (9, [.ref q3, .int 0, .int 0])), (q3, .inl (cI, 260, .inl (fun _ => 0))), (q4, .inr (2, [.null, .null, .int 0])), (q6, .inr (5, [.ref q8, .int 0, .null])), (q8, .inl (cI, 241, .inl (fun _ => 0))), (q9, .inr (1, [.ref q11, .ref q12, .ref q13, .int 0, .int 0])), (q11, .inl (cI, 3, .inl (fun _ => 0))), (q12, .inl (cI, 24, .inl (fun _ => 0))), (q13, .inl (cI, 20, .inl (fun _ => 0))), (q14, .inr (1, [.ref q16, .ref q17, .ref q18, .int 0, .int 0])), (q16, .inl (cI, 3, .inl (fun _ => 0))), (q17, .inl (cI, 24, .inl (fun _ => 0))), (q18, .inl (cI, 20, .inl (fun _ => 0)))] H := hP
  have hD : va_D A [(h0, .inr (10, [.ref q1, .ref q4, .ref q6, .ref q9, .null, .null, .null, .null, .null, .null, .null, .null, .null, .int 0, .int 0, .int 0, .int 0])), (q1, .inr (9, [.ref q3, .int 0, .int 0])), (q3, .inl (cI, 260, .inl (fun _ => 0))), (q4, .inr (2, [.null, .null, .int 0])), (q6, .inr (5, [.ref q8, .int 0, .null])), (q8, .inl (cI, 241, .inl (fun _ => 0))), (q9, .inr (1, [.ref q11, .ref q12, .ref q13, .int 0, .int 0])), (q11, .inl (cI, 3, .inl (fun _ => 0))), (q12, .inl (cI, 24, .inl (fun _ => 0))), (q13, .inl (cI, 20, .inl (fun _ => 0))), (q14, .inr (1, [.ref q16, .ref q17, .ref q18, .int 0, .int 0])), (q16, .inl (cI, 3, .inl (fun _ => 0))), (q17, .inl (cI, 24, .inl (fun _ => 0))), (q18, .inl (cI, 20, .inl (fun _ => 0)))] := hD
  refine va_putF (D := (dC, dI)) (ci := 10) (v := .ref q14) (ty := .object "NinePortraits$Court") (C := RX10) (T := TX10) (N := 17) hx hb hts iX10 tyX10 tyX10_ok nmX10 hown hK hP hD hS 0 rfl rfl 4 (by decide) (hts _ qw360) (fun _ h9 => h9) rfl hin rfl (by decide +kernel) rfl rfl (Nat.le_of_ble_eq_true rfl) dX10_init_56 (fun H locs hP hD hS => ?_)
  have hP : va_P (dC, dI) vwCl [(h0, .inr (10, [.ref q1, .ref q4, .ref q6, .ref q9, .ref q14, .null, .null, .null, .null, .null, .null, .null, .null, .int 0, .int 0, .int 0, .int 0])), (q1, .inr (9, [.ref q3, .int 0, .int 0])), (q3, .inl (cI, 260, .inl (fun _ => 0))), (q4, .inr (2, [.null, .null, .int 0])), (q6, .inr (5, [.ref q8, .int 0, .null])), (q8, .inl (cI, 241, .inl (fun _ => 0))), (q9, .inr (1, [.ref q11, .ref q12, .ref q13, .int 0, .int 0])), (q11, .inl (cI, 3, .inl (fun _ => 0))), (q12, .inl (cI, 24, .inl (fun _ => 0))), (q13, .inl (cI, 20, .inl (fun _ => 0))), (q14, .inr (1, [.ref q16, .ref q17, .ref q18, .int 0, .int 0])), (q16, .inl (cI, 3, .inl (fun _ => 0))), (q17, .inl (cI, 24, .inl (fun _ => 0))), (q18, .inl (cI, 20, .inl (fun _ => 0)))] H := hP
  have hD : va_D A [(h0, .inr (10, [.ref q1, .ref q4, .ref q6, .ref q9, .ref q14, .null, .null, .null, .null, .null, .null, .null, .null, .int 0, .int 0, .int 0, .int 0])), (q1, .inr (9, [.ref q3, .int 0, .int 0])), (q3, .inl (cI, 260, .inl (fun _ => 0))), (q4, .inr (2, [.null, .null, .int 0])), (q6, .inr (5, [.ref q8, .int 0, .null])), (q8, .inl (cI, 241, .inl (fun _ => 0))), (q9, .inr (1, [.ref q11, .ref q12, .ref q13, .int 0, .int 0])), (q11, .inl (cI, 3, .inl (fun _ => 0))), (q12, .inl (cI, 24, .inl (fun _ => 0))), (q13, .inl (cI, 20, .inl (fun _ => 0))), (q14, .inr (1, [.ref q16, .ref q17, .ref q18, .int 0, .int 0])), (q16, .inl (cI, 3, .inl (fun _ => 0))), (q17, .inl (cI, 24, .inl (fun _ => 0))), (q18, .inl (cI, 20, .inl (fun _ => 0)))] := hD
  refine lv_aload_n hx hb dX10_init_59 rfl (lv_at hl 0 rfl) ?_
  refine lv_iconst (v := 4) hx hb dX10_init_60 (by decide) ?_
  refine va_newq (N' := 4) hx hb hown (hts _ qw212) hAO hK3 hP hD hS hA (by decide) (by decide) (by decide) (Nat.le_of_ble_eq_true rfl) (Nat.le_of_ble_eq_true rfl) dX10_init_61 (fun q19 cA H hK2 hP hD hS => ?_)
  obtain rfl : cQ = cA := (zcA hK2 2 3 rfl rfl).symm
  have hP : va_P (dC, dI) vwCl [(h0, .inr (10, [.ref q1, .ref q4, .ref q6, .ref q9, .ref q14, .null, .null, .null, .null, .null, .null, .null, .null, .int 0, .int 0, .int 0, .int 0])), (q1, .inr (9, [.ref q3, .int 0, .int 0])), (q3, .inl (cI, 260, .inl (fun _ => 0))), (q4, .inr (2, [.null, .null, .int 0])), (q6, .inr (5, [.ref q8, .int 0, .null])), (q8, .inl (cI, 241, .inl (fun _ => 0))), (q9, .inr (1, [.ref q11, .ref q12, .ref q13, .int 0, .int 0])), (q11, .inl (cI, 3, .inl (fun _ => 0))), (q12, .inl (cI, 24, .inl (fun _ => 0))), (q13, .inl (cI, 20, .inl (fun _ => 0))), (q14, .inr (1, [.ref q16, .ref q17, .ref q18, .int 0, .int 0])), (q16, .inl (cI, 3, .inl (fun _ => 0))), (q17, .inl (cI, 24, .inl (fun _ => 0))), (q18, .inl (cI, 20, .inl (fun _ => 0))), (q19, .inl (cQ, 4, .inr (.inr (.inr (.inr (fun _ => none))))))] H := hP
  have hD : va_D A [(h0, .inr (10, [.ref q1, .ref q4, .ref q6, .ref q9, .ref q14, .null, .null, .null, .null, .null, .null, .null, .null, .int 0, .int 0, .int 0, .int 0])), (q1, .inr (9, [.ref q3, .int 0, .int 0])), (q3, .inl (cI, 260, .inl (fun _ => 0))), (q4, .inr (2, [.null, .null, .int 0])), (q6, .inr (5, [.ref q8, .int 0, .null])), (q8, .inl (cI, 241, .inl (fun _ => 0))), (q9, .inr (1, [.ref q11, .ref q12, .ref q13, .int 0, .int 0])), (q11, .inl (cI, 3, .inl (fun _ => 0))), (q12, .inl (cI, 24, .inl (fun _ => 0))), (q13, .inl (cI, 20, .inl (fun _ => 0))), (q14, .inr (1, [.ref q16, .ref q17, .ref q18, .int 0, .int 0])), (q16, .inl (cI, 3, .inl (fun _ => 0))), (q17, .inl (cI, 24, .inl (fun _ => 0))), (q18, .inl (cI, 20, .inl (fun _ => 0))), (q19, .inl (cQ, 4, .inr (.inr (.inr (.inr (fun _ => none))))))] := hD
  refine W.widen (k := 14) (n := 618) (Nat.le_of_ble_eq_true rfl) (Nat.le_of_ble_eq_true rfl) ?_
  refine va_putF (D := (dC, dI)) (ci := 10) (v := .ref q19) (ty := .array (.object "NinePortraits$Law")) (C := RX10) (T := TX10) (N := 17) hx hb hts iX10 tyX10 tyX10_ok nmX10 hown hK hP hD hS 0 rfl rfl 5 (by decide) (hts _ qw361) (fun _ h9 => h9) rfl hin rfl (by decide +kernel) rfl rfl (Nat.le_of_ble_eq_true rfl) dX10_init_64 (fun H locs hP hD hS => ?_)
  have hP : va_P (dC, dI) vwCl [(h0, .inr (10, [.ref q1, .ref q4, .ref q6, .ref q9, .ref q14, .ref q19, .null, .null, .null, .null, .null, .null, .null, .int 0, .int 0, .int 0, .int 0])), (q1, .inr (9, [.ref q3, .int 0, .int 0])), (q3, .inl (cI, 260, .inl (fun _ => 0))), (q4, .inr (2, [.null, .null, .int 0])), (q6, .inr (5, [.ref q8, .int 0, .null])), (q8, .inl (cI, 241, .inl (fun _ => 0))), (q9, .inr (1, [.ref q11, .ref q12, .ref q13, .int 0, .int 0])), (q11, .inl (cI, 3, .inl (fun _ => 0))), (q12, .inl (cI, 24, .inl (fun _ => 0))), (q13, .inl (cI, 20, .inl (fun _ => 0))), (q14, .inr (1, [.ref q16, .ref q17, .ref q18, .int 0, .int 0])), (q16, .inl (cI, 3, .inl (fun _ => 0))), (q17, .inl (cI, 24, .inl (fun _ => 0))), (q18, .inl (cI, 20, .inl (fun _ => 0))), (q19, .inl (cQ, 4, .inr (.inr (.inr (.inr (fun _ => none))))))] H := hP
  have hD : va_D A [(h0, .inr (10, [.ref q1, .ref q4, .ref q6, .ref q9, .ref q14, .ref q19, .null, .null, .null, .null, .null, .null, .null, .int 0, .int 0, .int 0, .int 0])), (q1, .inr (9, [.ref q3, .int 0, .int 0])), (q3, .inl (cI, 260, .inl (fun _ => 0))), (q4, .inr (2, [.null, .null, .int 0])), (q6, .inr (5, [.ref q8, .int 0, .null])), (q8, .inl (cI, 241, .inl (fun _ => 0))), (q9, .inr (1, [.ref q11, .ref q12, .ref q13, .int 0, .int 0])), (q11, .inl (cI, 3, .inl (fun _ => 0))), (q12, .inl (cI, 24, .inl (fun _ => 0))), (q13, .inl (cI, 20, .inl (fun _ => 0))), (q14, .inr (1, [.ref q16, .ref q17, .ref q18, .int 0, .int 0])), (q16, .inl (cI, 3, .inl (fun _ => 0))), (q17, .inl (cI, 24, .inl (fun _ => 0))), (q18, .inl (cI, 20, .inl (fun _ => 0))), (q19, .inl (cQ, 4, .inr (.inr (.inr (.inr (fun _ => none))))))] := hD
  refine lv_aload_n hx hb dX10_init_67 rfl (lv_at hl 0 rfl) ?_
  refine va_new (ci := 7) (fs := [.null, .null, .null, .int 0, .int 0, .int 0, .int 0, .int 0, .int 0]) (C := RX7) (T := TX7) (N := 9) hx hb hts iX7 tyX7 tyX7_ok hown (hts _ qw214) (hts _ qw215) (hts _ qw103) hK hP hD hS hA rfl fsX7 (Nat.le_of_ble_eq_true rfl) (Nat.le_of_ble_eq_true rfl) dX10_init_68 (fun q20 H hP hD hS => ?_)
  have hP : va_P (dC, dI) vwCl [(h0, .inr (10, [.ref q1, .ref q4, .ref q6, .ref q9, .ref q14, .ref q19, .null, .null, .null, .null, .null, .null, .null, .int 0, .int 0, .int 0, .int 0])), (q1, .inr (9, [.ref q3, .int 0, .int 0])), (q3, .inl (cI, 260, .inl (fun _ => 0))), (q4, .inr (2, [.null, .null, .int 0])), (q6, .inr (5, [.ref q8, .int 0, .null])), (q8, .inl (cI, 241, .inl (fun _ => 0))), (q9, .inr (1, [.ref q11, .ref q12, .ref q13, .int 0, .int 0])), (q11, .inl (cI, 3, .inl (fun _ => 0))), (q12, .inl (cI, 24, .inl (fun _ => 0))), (q13, .inl (cI, 20, .inl (fun _ => 0))), (q14, .inr (1, [.ref q16, .ref q17, .ref q18, .int 0, .int 0])), (q16, .inl (cI, 3, .inl (fun _ => 0))), (q17, .inl (cI, 24, .inl (fun _ => 0))), (q18, .inl (cI, 20, .inl (fun _ => 0))), (q19, .inl (cQ, 4, .inr (.inr (.inr (.inr (fun _ => none)))))), (q20, .inr (7, [.null, .null, .null, .int 0, .int 0, .int 0, .int 0, .int 0, .int 0]))] H := hP
  have hD : va_D A [(h0, .inr (10, [.ref q1, .ref q4, .ref q6, .ref q9, .ref q14, .ref q19, .null, .null, .null, .null, .null, .null, .null, .int 0, .int 0, .int 0, .int 0])), (q1, .inr (9, [.ref q3, .int 0, .int 0])), (q3, .inl (cI, 260, .inl (fun _ => 0))), (q4, .inr (2, [.null, .null, .int 0])), (q6, .inr (5, [.ref q8, .int 0, .null])), (q8, .inl (cI, 241, .inl (fun _ => 0))), (q9, .inr (1, [.ref q11, .ref q12, .ref q13, .int 0, .int 0])), (q11, .inl (cI, 3, .inl (fun _ => 0))), (q12, .inl (cI, 24, .inl (fun _ => 0))), (q13, .inl (cI, 20, .inl (fun _ => 0))), (q14, .inr (1, [.ref q16, .ref q17, .ref q18, .int 0, .int 0])), (q16, .inl (cI, 3, .inl (fun _ => 0))), (q17, .inl (cI, 24, .inl (fun _ => 0))), (q18, .inl (cI, 20, .inl (fun _ => 0))), (q19, .inl (cQ, 4, .inr (.inr (.inr (.inr (fun _ => none)))))), (q20, .inr (7, [.null, .null, .null, .int 0, .int 0, .int 0, .int 0, .int 0, .int 0]))] := hD
  refine W.widen (k := 15) (n := 627) (Nat.le_of_ble_eq_true rfl) (Nat.le_of_ble_eq_true rfl) ?_
  refine lv_dup hx hb dX10_init_71 rfl ?_
  have hPc := hP.sub (ws' := [(q20, .inr (7, [.null, .null, .null, .int 0, .int 0, .int 0, .int 0, .int 0, .int 0]))]) [15] rfl
  have hDc := hD.sub (ws' := [(q20, .inr (7, [.null, .null, .null, .int 0, .int 0, .int 0, .int 0, .int 0, .int 0]))]) [15] (by decide) rfl
  have hFc := va_free (wc := [(q20, .inr (7, [.null, .null, .null, .int 0, .int 0, .int 0, .int 0, .int 0, .int 0]))]) hD hS hA [15] rfl
  refine va_callv (va_runIN (As := []) (rest := [.ref q20, .ref h0]) ⟨hx, hb, hml, hown, hts⟩ (c_X7_init l dC dI cI cJ q20 H.size) ⟨va_cnB 0 hts (zgI qw218) rfl rfl rfl (hN_48) (hts _ qw103) (hd_X7_init).2 ⟨Nat.le_of_ble_eq_true rfl, Nat.le_of_ble_eq_true rfl⟩, rfl, hts _ qw217⟩ (zPS hPc hK hDc) rfl rfl hl.1 rfl (lv_room (Nat.le_of_ble_eq_true rfl)) dX10_init_72 ⟨Nat.le_of_ble_eq_true rfl, Nat.le_of_ble_eq_true rfl⟩) hS (fun q _ h => hFc q h) hFc (fun u t H locs ht hvm hw hB hz1 hk1 hS => ?_)
  refine W.widen (k := 18) (n := 718) (Nat.le_of_ble_eq_true rfl) (Nat.le_of_ble_eq_true rfl) ?_
  obtain ⟨q22, q23, q24, hB⟩ := hB
  obtain ⟨hP1, hD1⟩ := hB
  rw [ht] at hP1
  obtain ⟨hP, hD⟩ := va_join (wr := [(h0, .inr (10, [.ref q1, .ref q4, .ref q6, .ref q9, .ref q14, .ref q19, .null, .null, .null, .null, .null, .null, .null, .int 0, .int 0, .int 0, .int 0])), (q1, .inr (9, [.ref q3, .int 0, .int 0])), (q3, .inl (cI, 260, .inl (fun _ => 0))), (q4, .inr (2, [.null, .null, .int 0])), (q6, .inr (5, [.ref q8, .int 0, .null])), (q8, .inl (cI, 241, .inl (fun _ => 0))), (q9, .inr (1, [.ref q11, .ref q12, .ref q13, .int 0, .int 0])), (q11, .inl (cI, 3, .inl (fun _ => 0))), (q12, .inl (cI, 24, .inl (fun _ => 0))), (q13, .inl (cI, 20, .inl (fun _ => 0))), (q14, .inr (1, [.ref q16, .ref q17, .ref q18, .int 0, .int 0])), (q16, .inl (cI, 3, .inl (fun _ => 0))), (q17, .inl (cI, 24, .inl (fun _ => 0))), (q18, .inl (cI, 20, .inl (fun _ => 0))), (q19, .inl (cQ, 4, .inr (.inr (.inr (.inr (fun _ => none))))))]) (w1 := [(q20, .inr (7, [.ref q22, .ref q23, .ref q24, .int 0, .int 0, .int 0, .int (-1), .int 0, .int 0])), (q22, .inl (cI, 6, .inl (fun _ => 0))), (q23, .inl (cI, 5, .inl (fun _ => 0))), (q24, .inl (cI, 80, .inl (fun _ => 0)))]) hP hD [15] [0, 1, 2, 3, 4, 5, 6, 7, 8, 9, 10, 11, 12, 13, 14] rfl rfl (by decide) (by decide) hk1 hFc hP1 hD1
  have hP : va_P (dC, dI) vwCl [(h0, .inr (10, [.ref q1, .ref q4, .ref q6, .ref q9, .ref q14, .ref q19, .null, .null, .null, .null, .null, .null, .null, .int 0, .int 0, .int 0, .int 0])), (q1, .inr (9, [.ref q3, .int 0, .int 0])), (q3, .inl (cI, 260, .inl (fun _ => 0))), (q4, .inr (2, [.null, .null, .int 0])), (q6, .inr (5, [.ref q8, .int 0, .null])), (q8, .inl (cI, 241, .inl (fun _ => 0))), (q9, .inr (1, [.ref q11, .ref q12, .ref q13, .int 0, .int 0])), (q11, .inl (cI, 3, .inl (fun _ => 0))), (q12, .inl (cI, 24, .inl (fun _ => 0))), (q13, .inl (cI, 20, .inl (fun _ => 0))), (q14, .inr (1, [.ref q16, .ref q17, .ref q18, .int 0, .int 0])), (q16, .inl (cI, 3, .inl (fun _ => 0))), (q17, .inl (cI, 24, .inl (fun _ => 0))), (q18, .inl (cI, 20, .inl (fun _ => 0))), (q19, .inl (cQ, 4, .inr (.inr (.inr (.inr (fun _ => none)))))), (q20, .inr (7, [.ref q22, .ref q23, .ref q24, .int 0, .int 0, .int 0, .int (-1), .int 0, .int 0])), (q22, .inl (cI, 6, .inl (fun _ => 0))), (q23, .inl (cI, 5, .inl (fun _ => 0))), (q24, .inl (cI, 80, .inl (fun _ => 0)))] H := hP
  have hD : va_D A [(h0, .inr (10, [.ref q1, .ref q4, .ref q6, .ref q9, .ref q14, .ref q19, .null, .null, .null, .null, .null, .null, .null, .int 0, .int 0, .int 0, .int 0])), (q1, .inr (9, [.ref q3, .int 0, .int 0])), (q3, .inl (cI, 260, .inl (fun _ => 0))), (q4, .inr (2, [.null, .null, .int 0])), (q6, .inr (5, [.ref q8, .int 0, .null])), (q8, .inl (cI, 241, .inl (fun _ => 0))), (q9, .inr (1, [.ref q11, .ref q12, .ref q13, .int 0, .int 0])), (q11, .inl (cI, 3, .inl (fun _ => 0))), (q12, .inl (cI, 24, .inl (fun _ => 0))), (q13, .inl (cI, 20, .inl (fun _ => 0))), (q14, .inr (1, [.ref q16, .ref q17, .ref q18, .int 0, .int 0])), (q16, .inl (cI, 3, .inl (fun _ => 0))), (q17, .inl (cI, 24, .inl (fun _ => 0))), (q18, .inl (cI, 20, .inl (fun _ => 0))), (q19, .inl (cQ, 4, .inr (.inr (.inr (.inr (fun _ => none)))))), (q20, .inr (7, [.ref q22, .ref q23, .ref q24, .int 0, .int 0, .int 0, .int (-1), .int 0, .int 0])), (q22, .inl (cI, 6, .inl (fun _ => 0))), (q23, .inl (cI, 5, .inl (fun _ => 0))), (q24, .inl (cI, 80, .inl (fun _ => 0)))] := hD
  refine va_putF (D := (dC, dI)) (ci := 10) (v := .ref q20) (ty := .object "NinePortraits$State") (C := RX10) (T := TX10) (N := 17) hx hb hts iX10 tyX10 tyX10_ok nmX10 hown hK hP hD hS 0 rfl rfl 6 (by decide) (hts _ qw362) (fun _ h9 => h9) rfl hin rfl (by decide +kernel) rfl rfl (Nat.le_of_ble_eq_true rfl) dX10_init_75 (fun H locs hP hD hS => ?_)
  have hP : va_P (dC, dI) vwCl [(h0, .inr (10, [.ref q1, .ref q4, .ref q6, .ref q9, .ref q14, .ref q19, .ref q20, .null, .null, .null, .null, .null, .null, .int 0, .int 0, .int 0, .int 0])), (q1, .inr (9, [.ref q3, .int 0, .int 0])), (q3, .inl (cI, 260, .inl (fun _ => 0))), (q4, .inr (2, [.null, .null, .int 0])), (q6, .inr (5, [.ref q8, .int 0, .null])), (q8, .inl (cI, 241, .inl (fun _ => 0))), (q9, .inr (1, [.ref q11, .ref q12, .ref q13, .int 0, .int 0])), (q11, .inl (cI, 3, .inl (fun _ => 0))), (q12, .inl (cI, 24, .inl (fun _ => 0))), (q13, .inl (cI, 20, .inl (fun _ => 0))), (q14, .inr (1, [.ref q16, .ref q17, .ref q18, .int 0, .int 0])), (q16, .inl (cI, 3, .inl (fun _ => 0))), (q17, .inl (cI, 24, .inl (fun _ => 0))), (q18, .inl (cI, 20, .inl (fun _ => 0))), (q19, .inl (cQ, 4, .inr (.inr (.inr (.inr (fun _ => none)))))), (q20, .inr (7, [.ref q22, .ref q23, .ref q24, .int 0, .int 0, .int 0, .int (-1), .int 0, .int 0])), (q22, .inl (cI, 6, .inl (fun _ => 0))), (q23, .inl (cI, 5, .inl (fun _ => 0))), (q24, .inl (cI, 80, .inl (fun _ => 0)))] H := hP
  have hD : va_D A [(h0, .inr (10, [.ref q1, .ref q4, .ref q6, .ref q9, .ref q14, .ref q19, .ref q20, .null, .null, .null, .null, .null, .null, .int 0, .int 0, .int 0, .int 0])), (q1, .inr (9, [.ref q3, .int 0, .int 0])), (q3, .inl (cI, 260, .inl (fun _ => 0))), (q4, .inr (2, [.null, .null, .int 0])), (q6, .inr (5, [.ref q8, .int 0, .null])), (q8, .inl (cI, 241, .inl (fun _ => 0))), (q9, .inr (1, [.ref q11, .ref q12, .ref q13, .int 0, .int 0])), (q11, .inl (cI, 3, .inl (fun _ => 0))), (q12, .inl (cI, 24, .inl (fun _ => 0))), (q13, .inl (cI, 20, .inl (fun _ => 0))), (q14, .inr (1, [.ref q16, .ref q17, .ref q18, .int 0, .int 0])), (q16, .inl (cI, 3, .inl (fun _ => 0))), (q17, .inl (cI, 24, .inl (fun _ => 0))), (q18, .inl (cI, 20, .inl (fun _ => 0))), (q19, .inl (cQ, 4, .inr (.inr (.inr (.inr (fun _ => none)))))), (q20, .inr (7, [.ref q22, .ref q23, .ref q24, .int 0, .int 0, .int 0, .int (-1), .int 0, .int 0])), (q22, .inl (cI, 6, .inl (fun _ => 0))), (q23, .inl (cI, 5, .inl (fun _ => 0))), (q24, .inl (cI, 80, .inl (fun _ => 0)))] := hD
  refine lv_aload_n hx hb dX10_init_78 rfl (lv_at hl 0 rfl) ?_
  refine va_new (ci := 7) (fs := [.null, .null, .null, .int 0, .int 0, .int 0, .int 0, .int 0, .int 0]) (C := RX7) (T := TX7) (N := 9) hx hb hts iX7 tyX7 tyX7_ok hown (hts _ qw214) (hts _ qw215) (hts _ qw103) hK hP hD hS hA rfl fsX7 (Nat.le_of_ble_eq_true rfl) (Nat.le_of_ble_eq_true rfl) dX10_init_79 (fun q25 H hP hD hS => ?_)
  have hP : va_P (dC, dI) vwCl [(h0, .inr (10, [.ref q1, .ref q4, .ref q6, .ref q9, .ref q14, .ref q19, .ref q20, .null, .null, .null, .null, .null, .null, .int 0, .int 0, .int 0, .int 0])), (q1, .inr (9, [.ref q3, .int 0, .int 0])), (q3, .inl (cI, 260, .inl (fun _ => 0))), (q4, .inr (2, [.null, .null, .int 0])), (q6, .inr (5, [.ref q8, .int 0, .null])), (q8, .inl (cI, 241, .inl (fun _ => 0))), (q9, .inr (1, [.ref q11, .ref q12, .ref q13, .int 0, .int 0])), (q11, .inl (cI, 3, .inl (fun _ => 0))), (q12, .inl (cI, 24, .inl (fun _ => 0))), (q13, .inl (cI, 20, .inl (fun _ => 0))), (q14, .inr (1, [.ref q16, .ref q17, .ref q18, .int 0, .int 0])), (q16, .inl (cI, 3, .inl (fun _ => 0))), (q17, .inl (cI, 24, .inl (fun _ => 0))), (q18, .inl (cI, 20, .inl (fun _ => 0))), (q19, .inl (cQ, 4, .inr (.inr (.inr (.inr (fun _ => none)))))), (q20, .inr (7, [.ref q22, .ref q23, .ref q24, .int 0, .int 0, .int 0, .int (-1), .int 0, .int 0])), (q22, .inl (cI, 6, .inl (fun _ => 0))), (q23, .inl (cI, 5, .inl (fun _ => 0))), (q24, .inl (cI, 80, .inl (fun _ => 0))), (q25, .inr (7, [.null, .null, .null, .int 0, .int 0, .int 0, .int 0, .int 0, .int 0]))] H := hP
  have hD : va_D A [(h0, .inr (10, [.ref q1, .ref q4, .ref q6, .ref q9, .ref q14, .ref q19, .ref q20, .null, .null, .null, .null, .null, .null, .int 0, .int 0, .int 0, .int 0])), (q1, .inr (9, [.ref q3, .int 0, .int 0])), (q3, .inl (cI, 260, .inl (fun _ => 0))), (q4, .inr (2, [.null, .null, .int 0])), (q6, .inr (5, [.ref q8, .int 0, .null])), (q8, .inl (cI, 241, .inl (fun _ => 0))), (q9, .inr (1, [.ref q11, .ref q12, .ref q13, .int 0, .int 0])), (q11, .inl (cI, 3, .inl (fun _ => 0))), (q12, .inl (cI, 24, .inl (fun _ => 0))), (q13, .inl (cI, 20, .inl (fun _ => 0))), (q14, .inr (1, [.ref q16, .ref q17, .ref q18, .int 0, .int 0])), (q16, .inl (cI, 3, .inl (fun _ => 0))), (q17, .inl (cI, 24, .inl (fun _ => 0))), (q18, .inl (cI, 20, .inl (fun _ => 0))), (q19, .inl (cQ, 4, .inr (.inr (.inr (.inr (fun _ => none)))))), (q20, .inr (7, [.ref q22, .ref q23, .ref q24, .int 0, .int 0, .int 0, .int (-1), .int 0, .int 0])), (q22, .inl (cI, 6, .inl (fun _ => 0))), (q23, .inl (cI, 5, .inl (fun _ => 0))), (q24, .inl (cI, 80, .inl (fun _ => 0))), (q25, .inr (7, [.null, .null, .null, .int 0, .int 0, .int 0, .int 0, .int 0, .int 0]))] := hD
  refine W.widen (k := 19) (n := 727) (Nat.le_of_ble_eq_true rfl) (Nat.le_of_ble_eq_true rfl) ?_
  refine lv_dup hx hb dX10_init_82 rfl ?_
  have hPc := hP.sub (ws' := [(q25, .inr (7, [.null, .null, .null, .int 0, .int 0, .int 0, .int 0, .int 0, .int 0]))]) [19] rfl
  have hDc := hD.sub (ws' := [(q25, .inr (7, [.null, .null, .null, .int 0, .int 0, .int 0, .int 0, .int 0, .int 0]))]) [19] (by decide) rfl
  have hFc := va_free (wc := [(q25, .inr (7, [.null, .null, .null, .int 0, .int 0, .int 0, .int 0, .int 0, .int 0]))]) hD hS hA [19] rfl
  refine va_callv (va_runIN (As := []) (rest := [.ref q25, .ref h0]) ⟨hx, hb, hml, hown, hts⟩ (c_X7_init l dC dI cI cJ q25 H.size) ⟨va_cnB 0 hts (zgI qw218) rfl rfl rfl (hN_48) (hts _ qw103) (hd_X7_init).2 ⟨Nat.le_of_ble_eq_true rfl, Nat.le_of_ble_eq_true rfl⟩, rfl, hts _ qw217⟩ (zPS hPc hK hDc) rfl rfl hl.1 rfl (lv_room (Nat.le_of_ble_eq_true rfl)) dX10_init_83 ⟨Nat.le_of_ble_eq_true rfl, Nat.le_of_ble_eq_true rfl⟩) hS (fun q _ h => hFc q h) hFc (fun u t H locs ht hvm hw hB hz1 hk1 hS => ?_)
  refine W.widen (k := 22) (n := 818) (Nat.le_of_ble_eq_true rfl) (Nat.le_of_ble_eq_true rfl) ?_
  obtain ⟨q27, q28, q29, hB⟩ := hB
  obtain ⟨hP1, hD1⟩ := hB
  rw [ht] at hP1
  obtain ⟨hP, hD⟩ := va_join (wr := [(h0, .inr (10, [.ref q1, .ref q4, .ref q6, .ref q9, .ref q14, .ref q19, .ref q20, .null, .null, .null, .null, .null, .null, .int 0, .int 0, .int 0, .int 0])), (q1, .inr (9, [.ref q3, .int 0, .int 0])), (q3, .inl (cI, 260, .inl (fun _ => 0))), (q4, .inr (2, [.null, .null, .int 0])), (q6, .inr (5, [.ref q8, .int 0, .null])), (q8, .inl (cI, 241, .inl (fun _ => 0))), (q9, .inr (1, [.ref q11, .ref q12, .ref q13, .int 0, .int 0])), (q11, .inl (cI, 3, .inl (fun _ => 0))), (q12, .inl (cI, 24, .inl (fun _ => 0))), (q13, .inl (cI, 20, .inl (fun _ => 0))), (q14, .inr (1, [.ref q16, .ref q17, .ref q18, .int 0, .int 0])), (q16, .inl (cI, 3, .inl (fun _ => 0))), (q17, .inl (cI, 24, .inl (fun _ => 0))), (q18, .inl (cI, 20, .inl (fun _ => 0))), (q19, .inl (cQ, 4, .inr (.inr (.inr (.inr (fun _ => none)))))), (q20, .inr (7, [.ref q22, .ref q23, .ref q24, .int 0, .int 0, .int 0, .int (-1), .int 0, .int 0])), (q22, .inl (cI, 6, .inl (fun _ => 0))), (q23, .inl (cI, 5, .inl (fun _ => 0))), (q24, .inl (cI, 80, .inl (fun _ => 0)))]) (w1 := [(q25, .inr (7, [.ref q27, .ref q28, .ref q29, .int 0, .int 0, .int 0, .int (-1), .int 0, .int 0])), (q27, .inl (cI, 6, .inl (fun _ => 0))), (q28, .inl (cI, 5, .inl (fun _ => 0))), (q29, .inl (cI, 80, .inl (fun _ => 0)))]) hP hD [19] [0, 1, 2, 3, 4, 5, 6, 7, 8, 9, 10, 11, 12, 13, 14, 15, 16, 17, 18] rfl rfl (by decide) (by decide) hk1 hFc hP1 hD1
  have hP : va_P (dC, dI) vwCl [(h0, .inr (10, [.ref q1, .ref q4, .ref q6, .ref q9, .ref q14, .ref q19, .ref q20, .null, .null, .null, .null, .null, .null, .int 0, .int 0, .int 0, .int 0])), (q1, .inr (9, [.ref q3, .int 0, .int 0])), (q3, .inl (cI, 260, .inl (fun _ => 0))), (q4, .inr (2, [.null, .null, .int 0])), (q6, .inr (5, [.ref q8, .int 0, .null])), (q8, .inl (cI, 241, .inl (fun _ => 0))), (q9, .inr (1, [.ref q11, .ref q12, .ref q13, .int 0, .int 0])), (q11, .inl (cI, 3, .inl (fun _ => 0))), (q12, .inl (cI, 24, .inl (fun _ => 0))), (q13, .inl (cI, 20, .inl (fun _ => 0))), (q14, .inr (1, [.ref q16, .ref q17, .ref q18, .int 0, .int 0])), (q16, .inl (cI, 3, .inl (fun _ => 0))), (q17, .inl (cI, 24, .inl (fun _ => 0))), (q18, .inl (cI, 20, .inl (fun _ => 0))), (q19, .inl (cQ, 4, .inr (.inr (.inr (.inr (fun _ => none)))))), (q20, .inr (7, [.ref q22, .ref q23, .ref q24, .int 0, .int 0, .int 0, .int (-1), .int 0, .int 0])), (q22, .inl (cI, 6, .inl (fun _ => 0))), (q23, .inl (cI, 5, .inl (fun _ => 0))), (q24, .inl (cI, 80, .inl (fun _ => 0))), (q25, .inr (7, [.ref q27, .ref q28, .ref q29, .int 0, .int 0, .int 0, .int (-1), .int 0, .int 0])), (q27, .inl (cI, 6, .inl (fun _ => 0))), (q28, .inl (cI, 5, .inl (fun _ => 0))), (q29, .inl (cI, 80, .inl (fun _ => 0)))] H := hP
  have hD : va_D A [(h0, .inr (10, [.ref q1, .ref q4, .ref q6, .ref q9, .ref q14, .ref q19, .ref q20, .null, .null, .null, .null, .null, .null, .int 0, .int 0, .int 0, .int 0])), (q1, .inr (9, [.ref q3, .int 0, .int 0])), (q3, .inl (cI, 260, .inl (fun _ => 0))), (q4, .inr (2, [.null, .null, .int 0])), (q6, .inr (5, [.ref q8, .int 0, .null])), (q8, .inl (cI, 241, .inl (fun _ => 0))), (q9, .inr (1, [.ref q11, .ref q12, .ref q13, .int 0, .int 0])), (q11, .inl (cI, 3, .inl (fun _ => 0))), (q12, .inl (cI, 24, .inl (fun _ => 0))), (q13, .inl (cI, 20, .inl (fun _ => 0))), (q14, .inr (1, [.ref q16, .ref q17, .ref q18, .int 0, .int 0])), (q16, .inl (cI, 3, .inl (fun _ => 0))), (q17, .inl (cI, 24, .inl (fun _ => 0))), (q18, .inl (cI, 20, .inl (fun _ => 0))), (q19, .inl (cQ, 4, .inr (.inr (.inr (.inr (fun _ => none)))))), (q20, .inr (7, [.ref q22, .ref q23, .ref q24, .int 0, .int 0, .int 0, .int (-1), .int 0, .int 0])), (q22, .inl (cI, 6, .inl (fun _ => 0))), (q23, .inl (cI, 5, .inl (fun _ => 0))), (q24, .inl (cI, 80, .inl (fun _ => 0))), (q25, .inr (7, [.ref q27, .ref q28, .ref q29, .int 0, .int 0, .int 0, .int (-1), .int 0, .int 0])), (q27, .inl (cI, 6, .inl (fun _ => 0))), (q28, .inl (cI, 5, .inl (fun _ => 0))), (q29, .inl (cI, 80, .inl (fun _ => 0)))] := hD
  refine va_putF (D := (dC, dI)) (ci := 10) (v := .ref q25) (ty := .object "NinePortraits$State") (C := RX10) (T := TX10) (N := 17) hx hb hts iX10 tyX10 tyX10_ok nmX10 hown hK hP hD hS 0 rfl rfl 7 (by decide) (hts _ qw363) (fun _ h9 => h9) rfl hin rfl (by decide +kernel) rfl rfl (Nat.le_of_ble_eq_true rfl) dX10_init_86 (fun H locs hP hD hS => ?_)
  have hP : va_P (dC, dI) vwCl [(h0, .inr (10, [.ref q1, .ref q4, .ref q6, .ref q9, .ref q14, .ref q19, .ref q20, .ref q25, .null, .null, .null, .null, .null, .int 0, .int 0, .int 0, .int 0])), (q1, .inr (9, [.ref q3, .int 0, .int 0])), (q3, .inl (cI, 260, .inl (fun _ => 0))), (q4, .inr (2, [.null, .null, .int 0])), (q6, .inr (5, [.ref q8, .int 0, .null])), (q8, .inl (cI, 241, .inl (fun _ => 0))), (q9, .inr (1, [.ref q11, .ref q12, .ref q13, .int 0, .int 0])), (q11, .inl (cI, 3, .inl (fun _ => 0))), (q12, .inl (cI, 24, .inl (fun _ => 0))), (q13, .inl (cI, 20, .inl (fun _ => 0))), (q14, .inr (1, [.ref q16, .ref q17, .ref q18, .int 0, .int 0])), (q16, .inl (cI, 3, .inl (fun _ => 0))), (q17, .inl (cI, 24, .inl (fun _ => 0))), (q18, .inl (cI, 20, .inl (fun _ => 0))), (q19, .inl (cQ, 4, .inr (.inr (.inr (.inr (fun _ => none)))))), (q20, .inr (7, [.ref q22, .ref q23, .ref q24, .int 0, .int 0, .int 0, .int (-1), .int 0, .int 0])), (q22, .inl (cI, 6, .inl (fun _ => 0))), (q23, .inl (cI, 5, .inl (fun _ => 0))), (q24, .inl (cI, 80, .inl (fun _ => 0))), (q25, .inr (7, [.ref q27, .ref q28, .ref q29, .int 0, .int 0, .int 0, .int (-1), .int 0, .int 0])), (q27, .inl (cI, 6, .inl (fun _ => 0))), (q28, .inl (cI, 5, .inl (fun _ => 0))), (q29, .inl (cI, 80, .inl (fun _ => 0)))] H := hP
  have hD : va_D A [(h0, .inr (10, [.ref q1, .ref q4, .ref q6, .ref q9, .ref q14, .ref q19, .ref q20, .ref q25, .null, .null, .null, .null, .null, .int 0, .int 0, .int 0, .int 0])), (q1, .inr (9, [.ref q3, .int 0, .int 0])), (q3, .inl (cI, 260, .inl (fun _ => 0))), (q4, .inr (2, [.null, .null, .int 0])), (q6, .inr (5, [.ref q8, .int 0, .null])), (q8, .inl (cI, 241, .inl (fun _ => 0))), (q9, .inr (1, [.ref q11, .ref q12, .ref q13, .int 0, .int 0])), (q11, .inl (cI, 3, .inl (fun _ => 0))), (q12, .inl (cI, 24, .inl (fun _ => 0))), (q13, .inl (cI, 20, .inl (fun _ => 0))), (q14, .inr (1, [.ref q16, .ref q17, .ref q18, .int 0, .int 0])), (q16, .inl (cI, 3, .inl (fun _ => 0))), (q17, .inl (cI, 24, .inl (fun _ => 0))), (q18, .inl (cI, 20, .inl (fun _ => 0))), (q19, .inl (cQ, 4, .inr (.inr (.inr (.inr (fun _ => none)))))), (q20, .inr (7, [.ref q22, .ref q23, .ref q24, .int 0, .int 0, .int 0, .int (-1), .int 0, .int 0])), (q22, .inl (cI, 6, .inl (fun _ => 0))), (q23, .inl (cI, 5, .inl (fun _ => 0))), (q24, .inl (cI, 80, .inl (fun _ => 0))), (q25, .inr (7, [.ref q27, .ref q28, .ref q29, .int 0, .int 0, .int 0, .int (-1), .int 0, .int 0])), (q27, .inl (cI, 6, .inl (fun _ => 0))), (q28, .inl (cI, 5, .inl (fun _ => 0))), (q29, .inl (cI, 80, .inl (fun _ => 0)))] := hD
  refine lv_aload_n hx hb dX10_init_89 rfl (lv_at hl 0 rfl) ?_
  refine va_new (ci := 0) (fs := [.null, .int 0, .int 0]) (C := RX0) (T := TX0) (N := 3) hx hb hts iX0 tyX0 tyX0_ok hown (hts _ qw262) (hts _ qw263) (hts _ qw104) hK hP hD hS hA rfl fsX0 (Nat.le_of_ble_eq_true rfl) (Nat.le_of_ble_eq_true rfl) dX10_init_90 (fun q30 H hP hD hS => ?_)
  have hP : va_P (dC, dI) vwCl [(h0, .inr (10, [.ref q1, .ref q4, .ref q6, .ref q9, .ref q14, .ref q19, .ref q20, .ref q25, .null, .null, .null, .null, .null, .int 0, .int 0, .int 0, .int 0])), (q1, .inr (9, [.ref q3, .int 0, .int 0])), (q3, .inl (cI, 260, .inl (fun _ => 0))), (q4, .inr (2, [.null, .null, .int 0])), (q6, .inr (5, [.ref q8, .int 0, .null])), (q8, .inl (cI, 241, .inl (fun _ => 0))), (q9, .inr (1, [.ref q11, .ref q12, .ref q13, .int 0, .int 0])), (q11, .inl (cI, 3, .inl (fun _ => 0))), (q12, .inl (cI, 24, .inl (fun _ => 0))), (q13, .inl (cI, 20, .inl (fun _ => 0))), (q14, .inr (1, [.ref q16, .ref q17, .ref q18, .int 0, .int 0])), (q16, .inl (cI, 3, .inl (fun _ => 0))), (q17, .inl (cI, 24, .inl (fun _ => 0))), (q18, .inl (cI, 20, .inl (fun _ => 0))), (q19, .inl (cQ, 4, .inr (.inr (.inr (.inr (fun _ => none)))))), (q20, .inr (7, [.ref q22, .ref q23, .ref q24, .int 0, .int 0, .int 0, .int (-1), .int 0, .int 0])), (q22, .inl (cI, 6, .inl (fun _ => 0))), (q23, .inl (cI, 5, .inl (fun _ => 0))), (q24, .inl (cI, 80, .inl (fun _ => 0))), (q25, .inr (7, [.ref q27, .ref q28, .ref q29, .int 0, .int 0, .int 0, .int (-1), .int 0, .int 0])), (q27, .inl (cI, 6, .inl (fun _ => 0))), (q28, .inl (cI, 5, .inl (fun _ => 0))), (q29, .inl (cI, 80, .inl (fun _ => 0))), (q30, .inr (0, [.null, .int 0, .int 0]))] H := hP
  have hD : va_D A [(h0, .inr (10, [.ref q1, .ref q4, .ref q6, .ref q9, .ref q14, .ref q19, .ref q20, .ref q25, .null, .null, .null, .null, .null, .int 0, .int 0, .int 0, .int 0])), (q1, .inr (9, [.ref q3, .int 0, .int 0])), (q3, .inl (cI, 260, .inl (fun _ => 0))), (q4, .inr (2, [.null, .null, .int 0])), (q6, .inr (5, [.ref q8, .int 0, .null])), (q8, .inl (cI, 241, .inl (fun _ => 0))), (q9, .inr (1, [.ref q11, .ref q12, .ref q13, .int 0, .int 0])), (q11, .inl (cI, 3, .inl (fun _ => 0))), (q12, .inl (cI, 24, .inl (fun _ => 0))), (q13, .inl (cI, 20, .inl (fun _ => 0))), (q14, .inr (1, [.ref q16, .ref q17, .ref q18, .int 0, .int 0])), (q16, .inl (cI, 3, .inl (fun _ => 0))), (q17, .inl (cI, 24, .inl (fun _ => 0))), (q18, .inl (cI, 20, .inl (fun _ => 0))), (q19, .inl (cQ, 4, .inr (.inr (.inr (.inr (fun _ => none)))))), (q20, .inr (7, [.ref q22, .ref q23, .ref q24, .int 0, .int 0, .int 0, .int (-1), .int 0, .int 0])), (q22, .inl (cI, 6, .inl (fun _ => 0))), (q23, .inl (cI, 5, .inl (fun _ => 0))), (q24, .inl (cI, 80, .inl (fun _ => 0))), (q25, .inr (7, [.ref q27, .ref q28, .ref q29, .int 0, .int 0, .int 0, .int (-1), .int 0, .int 0])), (q27, .inl (cI, 6, .inl (fun _ => 0))), (q28, .inl (cI, 5, .inl (fun _ => 0))), (q29, .inl (cI, 80, .inl (fun _ => 0))), (q30, .inr (0, [.null, .int 0, .int 0]))] := hD
  refine W.widen (k := 23) (n := 821) (Nat.le_of_ble_eq_true rfl) (Nat.le_of_ble_eq_true rfl) ?_
  refine lv_dup hx hb dX10_init_93 rfl ?_
  have hPc := hP.sub (ws' := [(q30, .inr (0, [.null, .int 0, .int 0]))]) [23] rfl
  have hDc := hD.sub (ws' := [(q30, .inr (0, [.null, .int 0, .int 0]))]) [23] (by decide) rfl
  have hFc := va_free (wc := [(q30, .inr (0, [.null, .int 0, .int 0]))]) hD hS hA [23] rfl
  refine va_callv (va_runIN (As := []) (rest := [.ref q30, .ref h0]) ⟨hx, hb, hml, hown, hts⟩ (c_X0_init l dC dI cI cJ q30 H.size) ⟨va_cnB 0 hts (zgI qw266) rfl rfl rfl (hN_58) (hts _ qw104) (hd_X0_init).2 ⟨Nat.le_of_ble_eq_true rfl, Nat.le_of_ble_eq_true rfl⟩, rfl, hts _ qw265⟩ (zPS hPc hK hDc) rfl rfl hl.1 rfl (lv_room (Nat.le_of_ble_eq_true rfl)) dX10_init_94 ⟨Nat.le_of_ble_eq_true rfl, Nat.le_of_ble_eq_true rfl⟩) hS (fun q _ h => hFc q h) hFc (fun u t H locs ht hvm hw hB hz1 hk1 hS => ?_)
  refine W.widen (k := 24) (n := 1501) (Nat.le_of_ble_eq_true rfl) (Nat.le_of_ble_eq_true rfl) ?_
  obtain ⟨q32, hB⟩ := hB
  obtain ⟨hP1, hD1⟩ := hB
  rw [ht] at hP1
  obtain ⟨hP, hD⟩ := va_join (wr := [(h0, .inr (10, [.ref q1, .ref q4, .ref q6, .ref q9, .ref q14, .ref q19, .ref q20, .ref q25, .null, .null, .null, .null, .null, .int 0, .int 0, .int 0, .int 0])), (q1, .inr (9, [.ref q3, .int 0, .int 0])), (q3, .inl (cI, 260, .inl (fun _ => 0))), (q4, .inr (2, [.null, .null, .int 0])), (q6, .inr (5, [.ref q8, .int 0, .null])), (q8, .inl (cI, 241, .inl (fun _ => 0))), (q9, .inr (1, [.ref q11, .ref q12, .ref q13, .int 0, .int 0])), (q11, .inl (cI, 3, .inl (fun _ => 0))), (q12, .inl (cI, 24, .inl (fun _ => 0))), (q13, .inl (cI, 20, .inl (fun _ => 0))), (q14, .inr (1, [.ref q16, .ref q17, .ref q18, .int 0, .int 0])), (q16, .inl (cI, 3, .inl (fun _ => 0))), (q17, .inl (cI, 24, .inl (fun _ => 0))), (q18, .inl (cI, 20, .inl (fun _ => 0))), (q19, .inl (cQ, 4, .inr (.inr (.inr (.inr (fun _ => none)))))), (q20, .inr (7, [.ref q22, .ref q23, .ref q24, .int 0, .int 0, .int 0, .int (-1), .int 0, .int 0])), (q22, .inl (cI, 6, .inl (fun _ => 0))), (q23, .inl (cI, 5, .inl (fun _ => 0))), (q24, .inl (cI, 80, .inl (fun _ => 0))), (q25, .inr (7, [.ref q27, .ref q28, .ref q29, .int 0, .int 0, .int 0, .int (-1), .int 0, .int 0])), (q27, .inl (cI, 6, .inl (fun _ => 0))), (q28, .inl (cI, 5, .inl (fun _ => 0))), (q29, .inl (cI, 80, .inl (fun _ => 0)))]) (w1 := [(q30, .inr (0, [.ref q32, .int 0, .int 0])), (q32, .inl (cI, 680, .inl (fun _ => 0)))]) hP hD [23] [0, 1, 2, 3, 4, 5, 6, 7, 8, 9, 10, 11, 12, 13, 14, 15, 16, 17, 18, 19, 20, 21, 22] rfl rfl (by decide) (by decide) hk1 hFc hP1 hD1
  have hP : va_P (dC, dI) vwCl [(h0, .inr (10, [.ref q1, .ref q4, .ref q6, .ref q9, .ref q14, .ref q19, .ref q20, .ref q25, .null, .null, .null, .null, .null, .int 0, .int 0, .int 0, .int 0])), (q1, .inr (9, [.ref q3, .int 0, .int 0])), (q3, .inl (cI, 260, .inl (fun _ => 0))), (q4, .inr (2, [.null, .null, .int 0])), (q6, .inr (5, [.ref q8, .int 0, .null])), (q8, .inl (cI, 241, .inl (fun _ => 0))), (q9, .inr (1, [.ref q11, .ref q12, .ref q13, .int 0, .int 0])), (q11, .inl (cI, 3, .inl (fun _ => 0))), (q12, .inl (cI, 24, .inl (fun _ => 0))), (q13, .inl (cI, 20, .inl (fun _ => 0))), (q14, .inr (1, [.ref q16, .ref q17, .ref q18, .int 0, .int 0])), (q16, .inl (cI, 3, .inl (fun _ => 0))), (q17, .inl (cI, 24, .inl (fun _ => 0))), (q18, .inl (cI, 20, .inl (fun _ => 0))), (q19, .inl (cQ, 4, .inr (.inr (.inr (.inr (fun _ => none)))))), (q20, .inr (7, [.ref q22, .ref q23, .ref q24, .int 0, .int 0, .int 0, .int (-1), .int 0, .int 0])), (q22, .inl (cI, 6, .inl (fun _ => 0))), (q23, .inl (cI, 5, .inl (fun _ => 0))), (q24, .inl (cI, 80, .inl (fun _ => 0))), (q25, .inr (7, [.ref q27, .ref q28, .ref q29, .int 0, .int 0, .int 0, .int (-1), .int 0, .int 0])), (q27, .inl (cI, 6, .inl (fun _ => 0))), (q28, .inl (cI, 5, .inl (fun _ => 0))), (q29, .inl (cI, 80, .inl (fun _ => 0))), (q30, .inr (0, [.ref q32, .int 0, .int 0])), (q32, .inl (cI, 680, .inl (fun _ => 0)))] H := hP
  have hD : va_D A [(h0, .inr (10, [.ref q1, .ref q4, .ref q6, .ref q9, .ref q14, .ref q19, .ref q20, .ref q25, .null, .null, .null, .null, .null, .int 0, .int 0, .int 0, .int 0])), (q1, .inr (9, [.ref q3, .int 0, .int 0])), (q3, .inl (cI, 260, .inl (fun _ => 0))), (q4, .inr (2, [.null, .null, .int 0])), (q6, .inr (5, [.ref q8, .int 0, .null])), (q8, .inl (cI, 241, .inl (fun _ => 0))), (q9, .inr (1, [.ref q11, .ref q12, .ref q13, .int 0, .int 0])), (q11, .inl (cI, 3, .inl (fun _ => 0))), (q12, .inl (cI, 24, .inl (fun _ => 0))), (q13, .inl (cI, 20, .inl (fun _ => 0))), (q14, .inr (1, [.ref q16, .ref q17, .ref q18, .int 0, .int 0])), (q16, .inl (cI, 3, .inl (fun _ => 0))), (q17, .inl (cI, 24, .inl (fun _ => 0))), (q18, .inl (cI, 20, .inl (fun _ => 0))), (q19, .inl (cQ, 4, .inr (.inr (.inr (.inr (fun _ => none)))))), (q20, .inr (7, [.ref q22, .ref q23, .ref q24, .int 0, .int 0, .int 0, .int (-1), .int 0, .int 0])), (q22, .inl (cI, 6, .inl (fun _ => 0))), (q23, .inl (cI, 5, .inl (fun _ => 0))), (q24, .inl (cI, 80, .inl (fun _ => 0))), (q25, .inr (7, [.ref q27, .ref q28, .ref q29, .int 0, .int 0, .int 0, .int (-1), .int 0, .int 0])), (q27, .inl (cI, 6, .inl (fun _ => 0))), (q28, .inl (cI, 5, .inl (fun _ => 0))), (q29, .inl (cI, 80, .inl (fun _ => 0))), (q30, .inr (0, [.ref q32, .int 0, .int 0])), (q32, .inl (cI, 680, .inl (fun _ => 0)))] := hD
  refine va_putF (D := (dC, dI)) (ci := 10) (v := .ref q30) (ty := .object "NinePortraits$Acts") (C := RX10) (T := TX10) (N := 17) hx hb hts iX10 tyX10 tyX10_ok nmX10 hown hK hP hD hS 0 rfl rfl 8 (by decide) (hts _ qw364) (fun _ h9 => h9) rfl hin rfl (by decide +kernel) rfl rfl (Nat.le_of_ble_eq_true rfl) dX10_init_97 (fun H locs hP hD hS => ?_)
  have hP : va_P (dC, dI) vwCl [(h0, .inr (10, [.ref q1, .ref q4, .ref q6, .ref q9, .ref q14, .ref q19, .ref q20, .ref q25, .ref q30, .null, .null, .null, .null, .int 0, .int 0, .int 0, .int 0])), (q1, .inr (9, [.ref q3, .int 0, .int 0])), (q3, .inl (cI, 260, .inl (fun _ => 0))), (q4, .inr (2, [.null, .null, .int 0])), (q6, .inr (5, [.ref q8, .int 0, .null])), (q8, .inl (cI, 241, .inl (fun _ => 0))), (q9, .inr (1, [.ref q11, .ref q12, .ref q13, .int 0, .int 0])), (q11, .inl (cI, 3, .inl (fun _ => 0))), (q12, .inl (cI, 24, .inl (fun _ => 0))), (q13, .inl (cI, 20, .inl (fun _ => 0))), (q14, .inr (1, [.ref q16, .ref q17, .ref q18, .int 0, .int 0])), (q16, .inl (cI, 3, .inl (fun _ => 0))), (q17, .inl (cI, 24, .inl (fun _ => 0))), (q18, .inl (cI, 20, .inl (fun _ => 0))), (q19, .inl (cQ, 4, .inr (.inr (.inr (.inr (fun _ => none)))))), (q20, .inr (7, [.ref q22, .ref q23, .ref q24, .int 0, .int 0, .int 0, .int (-1), .int 0, .int 0])), (q22, .inl (cI, 6, .inl (fun _ => 0))), (q23, .inl (cI, 5, .inl (fun _ => 0))), (q24, .inl (cI, 80, .inl (fun _ => 0))), (q25, .inr (7, [.ref q27, .ref q28, .ref q29, .int 0, .int 0, .int 0, .int (-1), .int 0, .int 0])), (q27, .inl (cI, 6, .inl (fun _ => 0))), (q28, .inl (cI, 5, .inl (fun _ => 0))), (q29, .inl (cI, 80, .inl (fun _ => 0))), (q30, .inr (0, [.ref q32, .int 0, .int 0])), (q32, .inl (cI, 680, .inl (fun _ => 0)))] H := hP
  have hD : va_D A [(h0, .inr (10, [.ref q1, .ref q4, .ref q6, .ref q9, .ref q14, .ref q19, .ref q20, .ref q25, .ref q30, .null, .null, .null, .null, .int 0, .int 0, .int 0, .int 0])), (q1, .inr (9, [.ref q3, .int 0, .int 0])), (q3, .inl (cI, 260, .inl (fun _ => 0))), (q4, .inr (2, [.null, .null, .int 0])), (q6, .inr (5, [.ref q8, .int 0, .null])), (q8, .inl (cI, 241, .inl (fun _ => 0))), (q9, .inr (1, [.ref q11, .ref q12, .ref q13, .int 0, .int 0])), (q11, .inl (cI, 3, .inl (fun _ => 0))), (q12, .inl (cI, 24, .inl (fun _ => 0))), (q13, .inl (cI, 20, .inl (fun _ => 0))), (q14, .inr (1, [.ref q16, .ref q17, .ref q18, .int 0, .int 0])), (q16, .inl (cI, 3, .inl (fun _ => 0))), (q17, .inl (cI, 24, .inl (fun _ => 0))), (q18, .inl (cI, 20, .inl (fun _ => 0))), (q19, .inl (cQ, 4, .inr (.inr (.inr (.inr (fun _ => none)))))), (q20, .inr (7, [.ref q22, .ref q23, .ref q24, .int 0, .int 0, .int 0, .int (-1), .int 0, .int 0])), (q22, .inl (cI, 6, .inl (fun _ => 0))), (q23, .inl (cI, 5, .inl (fun _ => 0))), (q24, .inl (cI, 80, .inl (fun _ => 0))), (q25, .inr (7, [.ref q27, .ref q28, .ref q29, .int 0, .int 0, .int 0, .int (-1), .int 0, .int 0])), (q27, .inl (cI, 6, .inl (fun _ => 0))), (q28, .inl (cI, 5, .inl (fun _ => 0))), (q29, .inl (cI, 80, .inl (fun _ => 0))), (q30, .inr (0, [.ref q32, .int 0, .int 0])), (q32, .inl (cI, 680, .inl (fun _ => 0)))] := hD
  refine lv_aload_n hx hb dX10_init_100 rfl (lv_at hl 0 rfl) ?_
  refine va_new (ci := 8) (fs := [.null, .null, .null, .null, .null, .null, .null]) (C := RX8) (T := TX8) (N := 7) hx hb hts iX8 tyX8 tyX8_ok hown (hts _ qw279) (hts _ qw280) (hts _ qw105) hK hP hD hS hA rfl fsX8 (Nat.le_of_ble_eq_true rfl) (Nat.le_of_ble_eq_true rfl) dX10_init_101 (fun q33 H hP hD hS => ?_)
  have hP : va_P (dC, dI) vwCl [(h0, .inr (10, [.ref q1, .ref q4, .ref q6, .ref q9, .ref q14, .ref q19, .ref q20, .ref q25, .ref q30, .null, .null, .null, .null, .int 0, .int 0, .int 0, .int 0])), (q1, .inr (9, [.ref q3, .int 0, .int 0])), (q3, .inl (cI, 260, .inl (fun _ => 0))), (q4, .inr (2, [.null, .null, .int 0])), (q6, .inr (5, [.ref q8, .int 0, .null])), (q8, .inl (cI, 241, .inl (fun _ => 0))), (q9, .inr (1, [.ref q11, .ref q12, .ref q13, .int 0, .int 0])), (q11, .inl (cI, 3, .inl (fun _ => 0))), (q12, .inl (cI, 24, .inl (fun _ => 0))), (q13, .inl (cI, 20, .inl (fun _ => 0))), (q14, .inr (1, [.ref q16, .ref q17, .ref q18, .int 0, .int 0])), (q16, .inl (cI, 3, .inl (fun _ => 0))), (q17, .inl (cI, 24, .inl (fun _ => 0))), (q18, .inl (cI, 20, .inl (fun _ => 0))), (q19, .inl (cQ, 4, .inr (.inr (.inr (.inr (fun _ => none)))))), (q20, .inr (7, [.ref q22, .ref q23, .ref q24, .int 0, .int 0, .int 0, .int (-1), .int 0, .int 0])), (q22, .inl (cI, 6, .inl (fun _ => 0))), (q23, .inl (cI, 5, .inl (fun _ => 0))), (q24, .inl (cI, 80, .inl (fun _ => 0))), (q25, .inr (7, [.ref q27, .ref q28, .ref q29, .int 0, .int 0, .int 0, .int (-1), .int 0, .int 0])), (q27, .inl (cI, 6, .inl (fun _ => 0))), (q28, .inl (cI, 5, .inl (fun _ => 0))), (q29, .inl (cI, 80, .inl (fun _ => 0))), (q30, .inr (0, [.ref q32, .int 0, .int 0])), (q32, .inl (cI, 680, .inl (fun _ => 0))), (q33, .inr (8, [.null, .null, .null, .null, .null, .null, .null]))] H := hP
  have hD : va_D A [(h0, .inr (10, [.ref q1, .ref q4, .ref q6, .ref q9, .ref q14, .ref q19, .ref q20, .ref q25, .ref q30, .null, .null, .null, .null, .int 0, .int 0, .int 0, .int 0])), (q1, .inr (9, [.ref q3, .int 0, .int 0])), (q3, .inl (cI, 260, .inl (fun _ => 0))), (q4, .inr (2, [.null, .null, .int 0])), (q6, .inr (5, [.ref q8, .int 0, .null])), (q8, .inl (cI, 241, .inl (fun _ => 0))), (q9, .inr (1, [.ref q11, .ref q12, .ref q13, .int 0, .int 0])), (q11, .inl (cI, 3, .inl (fun _ => 0))), (q12, .inl (cI, 24, .inl (fun _ => 0))), (q13, .inl (cI, 20, .inl (fun _ => 0))), (q14, .inr (1, [.ref q16, .ref q17, .ref q18, .int 0, .int 0])), (q16, .inl (cI, 3, .inl (fun _ => 0))), (q17, .inl (cI, 24, .inl (fun _ => 0))), (q18, .inl (cI, 20, .inl (fun _ => 0))), (q19, .inl (cQ, 4, .inr (.inr (.inr (.inr (fun _ => none)))))), (q20, .inr (7, [.ref q22, .ref q23, .ref q24, .int 0, .int 0, .int 0, .int (-1), .int 0, .int 0])), (q22, .inl (cI, 6, .inl (fun _ => 0))), (q23, .inl (cI, 5, .inl (fun _ => 0))), (q24, .inl (cI, 80, .inl (fun _ => 0))), (q25, .inr (7, [.ref q27, .ref q28, .ref q29, .int 0, .int 0, .int 0, .int (-1), .int 0, .int 0])), (q27, .inl (cI, 6, .inl (fun _ => 0))), (q28, .inl (cI, 5, .inl (fun _ => 0))), (q29, .inl (cI, 80, .inl (fun _ => 0))), (q30, .inr (0, [.ref q32, .int 0, .int 0])), (q32, .inl (cI, 680, .inl (fun _ => 0))), (q33, .inr (8, [.null, .null, .null, .null, .null, .null, .null]))] := hD
  refine W.widen (k := 25) (n := 1508) (Nat.le_of_ble_eq_true rfl) (Nat.le_of_ble_eq_true rfl) ?_
  refine lv_dup hx hb dX10_init_104 rfl ?_
  refine lv_aload_n hx hb dX10_init_105 rfl (lv_at hl 0 rfl) ?_
  refine va_get (D := (dC, dI)) (ci := 10) (v := .ref q14) (C := RX10) (T := TX10) (N := 17) hx hb hts iX10 hown hK hP 0 rfl rfl 4 (by decide) (hts _ qw360) (fun _ h9 => h9) rfl dX10_init_106 ?_
  refine lv_aload_n hx hb dX10_init_109 rfl (lv_at hl 0 rfl) ?_
  refine va_get (D := (dC, dI)) (ci := 10) (v := .ref q20) (C := RX10) (T := TX10) (N := 17) hx hb hts iX10 hown hK hP 0 rfl rfl 6 (by decide) (hts _ qw362) (fun _ h9 => h9) rfl dX10_init_110 ?_
  have hPc := hP.sub (ws' := [(q33, .inr (8, [.null, .null, .null, .null, .null, .null, .null]))]) [25] rfl
  have hDc := hD.sub (ws' := [(q33, .inr (8, [.null, .null, .null, .null, .null, .null, .null]))]) [25] (by decide) rfl
  have hFc := va_free (wc := [(q33, .inr (8, [.null, .null, .null, .null, .null, .null, .null]))]) hD hS hA [25] rfl
  refine va_callv (va_runI (As := [.ref q14, .ref q20]) (rest := [.ref q33, .ref h0]) ⟨hx, hb, hml, hown, hts⟩ (c_X8_init l dC dI cI cJ q33 q14 q20 H.size) (cwI 2 hts (zgI qw283) rfl rfl rfl (hts _ qw105) (hts _ qw281) (hts _ qw282) rfl (hd_X8_init).2 ⟨Nat.le_of_ble_eq_true rfl, Nat.le_of_ble_eq_true rfl⟩) (zPS hPc hK hDc) rfl rfl hl.1 rfl (lv_room (Nat.le_of_ble_eq_true rfl)) dX10_init_113 ⟨Nat.le_of_ble_eq_true rfl, Nat.le_of_ble_eq_true rfl⟩) hS (fun q _ h => hFc q h) hFc (fun u t H locs ht hvm hw hB hz1 hk1 hS => ?_)
  refine W.widen (k := 29) (n := 1566) (Nat.le_of_ble_eq_true rfl) (Nat.le_of_ble_eq_true rfl) ?_
  obtain ⟨q35, q36, q37, q38, hB⟩ := hB
  obtain ⟨hP1, hD1⟩ := hB
  rw [ht] at hP1
  obtain ⟨hP, hD⟩ := va_join (wr := [(h0, .inr (10, [.ref q1, .ref q4, .ref q6, .ref q9, .ref q14, .ref q19, .ref q20, .ref q25, .ref q30, .null, .null, .null, .null, .int 0, .int 0, .int 0, .int 0])), (q1, .inr (9, [.ref q3, .int 0, .int 0])), (q3, .inl (cI, 260, .inl (fun _ => 0))), (q4, .inr (2, [.null, .null, .int 0])), (q6, .inr (5, [.ref q8, .int 0, .null])), (q8, .inl (cI, 241, .inl (fun _ => 0))), (q9, .inr (1, [.ref q11, .ref q12, .ref q13, .int 0, .int 0])), (q11, .inl (cI, 3, .inl (fun _ => 0))), (q12, .inl (cI, 24, .inl (fun _ => 0))), (q13, .inl (cI, 20, .inl (fun _ => 0))), (q14, .inr (1, [.ref q16, .ref q17, .ref q18, .int 0, .int 0])), (q16, .inl (cI, 3, .inl (fun _ => 0))), (q17, .inl (cI, 24, .inl (fun _ => 0))), (q18, .inl (cI, 20, .inl (fun _ => 0))), (q19, .inl (cQ, 4, .inr (.inr (.inr (.inr (fun _ => none)))))), (q20, .inr (7, [.ref q22, .ref q23, .ref q24, .int 0, .int 0, .int 0, .int (-1), .int 0, .int 0])), (q22, .inl (cI, 6, .inl (fun _ => 0))), (q23, .inl (cI, 5, .inl (fun _ => 0))), (q24, .inl (cI, 80, .inl (fun _ => 0))), (q25, .inr (7, [.ref q27, .ref q28, .ref q29, .int 0, .int 0, .int 0, .int (-1), .int 0, .int 0])), (q27, .inl (cI, 6, .inl (fun _ => 0))), (q28, .inl (cI, 5, .inl (fun _ => 0))), (q29, .inl (cI, 80, .inl (fun _ => 0))), (q30, .inr (0, [.ref q32, .int 0, .int 0])), (q32, .inl (cI, 680, .inl (fun _ => 0)))]) (w1 := [(q33, .inr (8, [.ref q35, .ref q36, .ref q14, .ref q20, .ref q37, .ref q38, .null])), (q35, .inl (cI, 10, .inl (fun _ => 0))), (q36, .inl (cI, 10, .inl (fun _ => 0))), (q37, .inl (cI, 6, .inl (fun _ => 0))), (q38, .inl (cI, 32, .inl (fun _ => 0)))]) hP hD [25] [0, 1, 2, 3, 4, 5, 6, 7, 8, 9, 10, 11, 12, 13, 14, 15, 16, 17, 18, 19, 20, 21, 22, 23, 24] rfl rfl (by decide) (by decide) hk1 hFc hP1 hD1
  have hP : va_P (dC, dI) vwCl [(h0, .inr (10, [.ref q1, .ref q4, .ref q6, .ref q9, .ref q14, .ref q19, .ref q20, .ref q25, .ref q30, .null, .null, .null, .null, .int 0, .int 0, .int 0, .int 0])), (q1, .inr (9, [.ref q3, .int 0, .int 0])), (q3, .inl (cI, 260, .inl (fun _ => 0))), (q4, .inr (2, [.null, .null, .int 0])), (q6, .inr (5, [.ref q8, .int 0, .null])), (q8, .inl (cI, 241, .inl (fun _ => 0))), (q9, .inr (1, [.ref q11, .ref q12, .ref q13, .int 0, .int 0])), (q11, .inl (cI, 3, .inl (fun _ => 0))), (q12, .inl (cI, 24, .inl (fun _ => 0))), (q13, .inl (cI, 20, .inl (fun _ => 0))), (q14, .inr (1, [.ref q16, .ref q17, .ref q18, .int 0, .int 0])), (q16, .inl (cI, 3, .inl (fun _ => 0))), (q17, .inl (cI, 24, .inl (fun _ => 0))), (q18, .inl (cI, 20, .inl (fun _ => 0))), (q19, .inl (cQ, 4, .inr (.inr (.inr (.inr (fun _ => none)))))), (q20, .inr (7, [.ref q22, .ref q23, .ref q24, .int 0, .int 0, .int 0, .int (-1), .int 0, .int 0])), (q22, .inl (cI, 6, .inl (fun _ => 0))), (q23, .inl (cI, 5, .inl (fun _ => 0))), (q24, .inl (cI, 80, .inl (fun _ => 0))), (q25, .inr (7, [.ref q27, .ref q28, .ref q29, .int 0, .int 0, .int 0, .int (-1), .int 0, .int 0])), (q27, .inl (cI, 6, .inl (fun _ => 0))), (q28, .inl (cI, 5, .inl (fun _ => 0))), (q29, .inl (cI, 80, .inl (fun _ => 0))), (q30, .inr (0, [.ref q32, .int 0, .int 0])), (q32, .inl (cI, 680, .inl (fun _ => 0))), (q33, .inr (8, [.ref q35, .ref q36, .ref q14, .ref q20, .ref q37, .ref q38, .null])), (q35, .inl (cI, 10, .inl (fun _ => 0))), (q36, .inl (cI, 10, .inl (fun _ => 0))), (q37, .inl (cI, 6, .inl (fun _ => 0))), (q38, .inl (cI, 32, .inl (fun _ => 0)))] H := hP
  have hD : va_D A [(h0, .inr (10, [.ref q1, .ref q4, .ref q6, .ref q9, .ref q14, .ref q19, .ref q20, .ref q25, .ref q30, .null, .null, .null, .null, .int 0, .int 0, .int 0, .int 0])), (q1, .inr (9, [.ref q3, .int 0, .int 0])), (q3, .inl (cI, 260, .inl (fun _ => 0))), (q4, .inr (2, [.null, .null, .int 0])), (q6, .inr (5, [.ref q8, .int 0, .null])), (q8, .inl (cI, 241, .inl (fun _ => 0))), (q9, .inr (1, [.ref q11, .ref q12, .ref q13, .int 0, .int 0])), (q11, .inl (cI, 3, .inl (fun _ => 0))), (q12, .inl (cI, 24, .inl (fun _ => 0))), (q13, .inl (cI, 20, .inl (fun _ => 0))), (q14, .inr (1, [.ref q16, .ref q17, .ref q18, .int 0, .int 0])), (q16, .inl (cI, 3, .inl (fun _ => 0))), (q17, .inl (cI, 24, .inl (fun _ => 0))), (q18, .inl (cI, 20, .inl (fun _ => 0))), (q19, .inl (cQ, 4, .inr (.inr (.inr (.inr (fun _ => none)))))), (q20, .inr (7, [.ref q22, .ref q23, .ref q24, .int 0, .int 0, .int 0, .int (-1), .int 0, .int 0])), (q22, .inl (cI, 6, .inl (fun _ => 0))), (q23, .inl (cI, 5, .inl (fun _ => 0))), (q24, .inl (cI, 80, .inl (fun _ => 0))), (q25, .inr (7, [.ref q27, .ref q28, .ref q29, .int 0, .int 0, .int 0, .int (-1), .int 0, .int 0])), (q27, .inl (cI, 6, .inl (fun _ => 0))), (q28, .inl (cI, 5, .inl (fun _ => 0))), (q29, .inl (cI, 80, .inl (fun _ => 0))), (q30, .inr (0, [.ref q32, .int 0, .int 0])), (q32, .inl (cI, 680, .inl (fun _ => 0))), (q33, .inr (8, [.ref q35, .ref q36, .ref q14, .ref q20, .ref q37, .ref q38, .null])), (q35, .inl (cI, 10, .inl (fun _ => 0))), (q36, .inl (cI, 10, .inl (fun _ => 0))), (q37, .inl (cI, 6, .inl (fun _ => 0))), (q38, .inl (cI, 32, .inl (fun _ => 0)))] := hD
  refine va_putF (D := (dC, dI)) (ci := 10) (v := .ref q33) (ty := .object "NinePortraits$Studio") (C := RX10) (T := TX10) (N := 17) hx hb hts iX10 tyX10 tyX10_ok nmX10 hown hK hP hD hS 0 rfl rfl 9 (by decide) (hts _ qw365) (fun _ h9 => h9) rfl hin rfl (by decide +kernel) rfl rfl (Nat.le_of_ble_eq_true rfl) dX10_init_116 (fun H locs hP hD hS => ?_)
  have hP : va_P (dC, dI) vwCl [(h0, .inr (10, [.ref q1, .ref q4, .ref q6, .ref q9, .ref q14, .ref q19, .ref q20, .ref q25, .ref q30, .ref q33, .null, .null, .null, .int 0, .int 0, .int 0, .int 0])), (q1, .inr (9, [.ref q3, .int 0, .int 0])), (q3, .inl (cI, 260, .inl (fun _ => 0))), (q4, .inr (2, [.null, .null, .int 0])), (q6, .inr (5, [.ref q8, .int 0, .null])), (q8, .inl (cI, 241, .inl (fun _ => 0))), (q9, .inr (1, [.ref q11, .ref q12, .ref q13, .int 0, .int 0])), (q11, .inl (cI, 3, .inl (fun _ => 0))), (q12, .inl (cI, 24, .inl (fun _ => 0))), (q13, .inl (cI, 20, .inl (fun _ => 0))), (q14, .inr (1, [.ref q16, .ref q17, .ref q18, .int 0, .int 0])), (q16, .inl (cI, 3, .inl (fun _ => 0))), (q17, .inl (cI, 24, .inl (fun _ => 0))), (q18, .inl (cI, 20, .inl (fun _ => 0))), (q19, .inl (cQ, 4, .inr (.inr (.inr (.inr (fun _ => none)))))), (q20, .inr (7, [.ref q22, .ref q23, .ref q24, .int 0, .int 0, .int 0, .int (-1), .int 0, .int 0])), (q22, .inl (cI, 6, .inl (fun _ => 0))), (q23, .inl (cI, 5, .inl (fun _ => 0))), (q24, .inl (cI, 80, .inl (fun _ => 0))), (q25, .inr (7, [.ref q27, .ref q28, .ref q29, .int 0, .int 0, .int 0, .int (-1), .int 0, .int 0])), (q27, .inl (cI, 6, .inl (fun _ => 0))), (q28, .inl (cI, 5, .inl (fun _ => 0))), (q29, .inl (cI, 80, .inl (fun _ => 0))), (q30, .inr (0, [.ref q32, .int 0, .int 0])), (q32, .inl (cI, 680, .inl (fun _ => 0))), (q33, .inr (8, [.ref q35, .ref q36, .ref q14, .ref q20, .ref q37, .ref q38, .null])), (q35, .inl (cI, 10, .inl (fun _ => 0))), (q36, .inl (cI, 10, .inl (fun _ => 0))), (q37, .inl (cI, 6, .inl (fun _ => 0))), (q38, .inl (cI, 32, .inl (fun _ => 0)))] H := hP
  have hD : va_D A [(h0, .inr (10, [.ref q1, .ref q4, .ref q6, .ref q9, .ref q14, .ref q19, .ref q20, .ref q25, .ref q30, .ref q33, .null, .null, .null, .int 0, .int 0, .int 0, .int 0])), (q1, .inr (9, [.ref q3, .int 0, .int 0])), (q3, .inl (cI, 260, .inl (fun _ => 0))), (q4, .inr (2, [.null, .null, .int 0])), (q6, .inr (5, [.ref q8, .int 0, .null])), (q8, .inl (cI, 241, .inl (fun _ => 0))), (q9, .inr (1, [.ref q11, .ref q12, .ref q13, .int 0, .int 0])), (q11, .inl (cI, 3, .inl (fun _ => 0))), (q12, .inl (cI, 24, .inl (fun _ => 0))), (q13, .inl (cI, 20, .inl (fun _ => 0))), (q14, .inr (1, [.ref q16, .ref q17, .ref q18, .int 0, .int 0])), (q16, .inl (cI, 3, .inl (fun _ => 0))), (q17, .inl (cI, 24, .inl (fun _ => 0))), (q18, .inl (cI, 20, .inl (fun _ => 0))), (q19, .inl (cQ, 4, .inr (.inr (.inr (.inr (fun _ => none)))))), (q20, .inr (7, [.ref q22, .ref q23, .ref q24, .int 0, .int 0, .int 0, .int (-1), .int 0, .int 0])), (q22, .inl (cI, 6, .inl (fun _ => 0))), (q23, .inl (cI, 5, .inl (fun _ => 0))), (q24, .inl (cI, 80, .inl (fun _ => 0))), (q25, .inr (7, [.ref q27, .ref q28, .ref q29, .int 0, .int 0, .int 0, .int (-1), .int 0, .int 0])), (q27, .inl (cI, 6, .inl (fun _ => 0))), (q28, .inl (cI, 5, .inl (fun _ => 0))), (q29, .inl (cI, 80, .inl (fun _ => 0))), (q30, .inr (0, [.ref q32, .int 0, .int 0])), (q32, .inl (cI, 680, .inl (fun _ => 0))), (q33, .inr (8, [.ref q35, .ref q36, .ref q14, .ref q20, .ref q37, .ref q38, .null])), (q35, .inl (cI, 10, .inl (fun _ => 0))), (q36, .inl (cI, 10, .inl (fun _ => 0))), (q37, .inl (cI, 6, .inl (fun _ => 0))), (q38, .inl (cI, 32, .inl (fun _ => 0)))] := hD
  refine lv_aload_n hx hb dX10_init_119 rfl (lv_at hl 0 rfl) ?_
  refine va_new (ci := 6) (fs := [.null, .null, .null, .null, .long 0, .int 0, .null, .null, .null]) (C := RX6) (T := TX6) (N := 9) hx hb hts iX6 tyX6 tyX6_ok hown (hts _ qw310) (hts _ qw311) (hts _ qw106) hK hP hD hS hA rfl fsX6 (Nat.le_of_ble_eq_true rfl) (Nat.le_of_ble_eq_true rfl) dX10_init_120 (fun q39 H hP hD hS => ?_)
  have hP : va_P (dC, dI) vwCl [(h0, .inr (10, [.ref q1, .ref q4, .ref q6, .ref q9, .ref q14, .ref q19, .ref q20, .ref q25, .ref q30, .ref q33, .null, .null, .null, .int 0, .int 0, .int 0, .int 0])), (q1, .inr (9, [.ref q3, .int 0, .int 0])), (q3, .inl (cI, 260, .inl (fun _ => 0))), (q4, .inr (2, [.null, .null, .int 0])), (q6, .inr (5, [.ref q8, .int 0, .null])), (q8, .inl (cI, 241, .inl (fun _ => 0))), (q9, .inr (1, [.ref q11, .ref q12, .ref q13, .int 0, .int 0])), (q11, .inl (cI, 3, .inl (fun _ => 0))), (q12, .inl (cI, 24, .inl (fun _ => 0))), (q13, .inl (cI, 20, .inl (fun _ => 0))), (q14, .inr (1, [.ref q16, .ref q17, .ref q18, .int 0, .int 0])), (q16, .inl (cI, 3, .inl (fun _ => 0))), (q17, .inl (cI, 24, .inl (fun _ => 0))), (q18, .inl (cI, 20, .inl (fun _ => 0))), (q19, .inl (cQ, 4, .inr (.inr (.inr (.inr (fun _ => none)))))), (q20, .inr (7, [.ref q22, .ref q23, .ref q24, .int 0, .int 0, .int 0, .int (-1), .int 0, .int 0])), (q22, .inl (cI, 6, .inl (fun _ => 0))), (q23, .inl (cI, 5, .inl (fun _ => 0))), (q24, .inl (cI, 80, .inl (fun _ => 0))), (q25, .inr (7, [.ref q27, .ref q28, .ref q29, .int 0, .int 0, .int 0, .int (-1), .int 0, .int 0])), (q27, .inl (cI, 6, .inl (fun _ => 0))), (q28, .inl (cI, 5, .inl (fun _ => 0))), (q29, .inl (cI, 80, .inl (fun _ => 0))), (q30, .inr (0, [.ref q32, .int 0, .int 0])), (q32, .inl (cI, 680, .inl (fun _ => 0))), (q33, .inr (8, [.ref q35, .ref q36, .ref q14, .ref q20, .ref q37, .ref q38, .null])), (q35, .inl (cI, 10, .inl (fun _ => 0))), (q36, .inl (cI, 10, .inl (fun _ => 0))), (q37, .inl (cI, 6, .inl (fun _ => 0))), (q38, .inl (cI, 32, .inl (fun _ => 0))), (q39, .inr (6, [.null, .null, .null, .null, .long 0, .int 0, .null, .null, .null]))] H := hP
  have hD : va_D A [(h0, .inr (10, [.ref q1, .ref q4, .ref q6, .ref q9, .ref q14, .ref q19, .ref q20, .ref q25, .ref q30, .ref q33, .null, .null, .null, .int 0, .int 0, .int 0, .int 0])), (q1, .inr (9, [.ref q3, .int 0, .int 0])), (q3, .inl (cI, 260, .inl (fun _ => 0))), (q4, .inr (2, [.null, .null, .int 0])), (q6, .inr (5, [.ref q8, .int 0, .null])), (q8, .inl (cI, 241, .inl (fun _ => 0))), (q9, .inr (1, [.ref q11, .ref q12, .ref q13, .int 0, .int 0])), (q11, .inl (cI, 3, .inl (fun _ => 0))), (q12, .inl (cI, 24, .inl (fun _ => 0))), (q13, .inl (cI, 20, .inl (fun _ => 0))), (q14, .inr (1, [.ref q16, .ref q17, .ref q18, .int 0, .int 0])), (q16, .inl (cI, 3, .inl (fun _ => 0))), (q17, .inl (cI, 24, .inl (fun _ => 0))), (q18, .inl (cI, 20, .inl (fun _ => 0))), (q19, .inl (cQ, 4, .inr (.inr (.inr (.inr (fun _ => none)))))), (q20, .inr (7, [.ref q22, .ref q23, .ref q24, .int 0, .int 0, .int 0, .int (-1), .int 0, .int 0])), (q22, .inl (cI, 6, .inl (fun _ => 0))), (q23, .inl (cI, 5, .inl (fun _ => 0))), (q24, .inl (cI, 80, .inl (fun _ => 0))), (q25, .inr (7, [.ref q27, .ref q28, .ref q29, .int 0, .int 0, .int 0, .int (-1), .int 0, .int 0])), (q27, .inl (cI, 6, .inl (fun _ => 0))), (q28, .inl (cI, 5, .inl (fun _ => 0))), (q29, .inl (cI, 80, .inl (fun _ => 0))), (q30, .inr (0, [.ref q32, .int 0, .int 0])), (q32, .inl (cI, 680, .inl (fun _ => 0))), (q33, .inr (8, [.ref q35, .ref q36, .ref q14, .ref q20, .ref q37, .ref q38, .null])), (q35, .inl (cI, 10, .inl (fun _ => 0))), (q36, .inl (cI, 10, .inl (fun _ => 0))), (q37, .inl (cI, 6, .inl (fun _ => 0))), (q38, .inl (cI, 32, .inl (fun _ => 0))), (q39, .inr (6, [.null, .null, .null, .null, .long 0, .int 0, .null, .null, .null]))] := hD
  refine W.widen (k := 30) (n := 1575) (Nat.le_of_ble_eq_true rfl) (Nat.le_of_ble_eq_true rfl) ?_
  refine lv_dup hx hb dX10_init_123 rfl ?_
  refine lv_aload_n hx hb dX10_init_124 rfl (lv_at hl 0 rfl) ?_
  refine va_get (D := (dC, dI)) (ci := 10) (v := .ref q14) (C := RX10) (T := TX10) (N := 17) hx hb hts iX10 hown hK hP 0 rfl rfl 4 (by decide) (hts _ qw360) (fun _ h9 => h9) rfl dX10_init_125 ?_
  refine lv_aload_n hx hb dX10_init_128 rfl (lv_at hl 0 rfl) ?_
  refine va_get (D := (dC, dI)) (ci := 10) (v := .ref q20) (C := RX10) (T := TX10) (N := 17) hx hb hts iX10 hown hK hP 0 rfl rfl 6 (by decide) (hts _ qw362) (fun _ h9 => h9) rfl dX10_init_129 ?_
  refine lv_aload_n hx hb dX10_init_132 rfl (lv_at hl 0 rfl) ?_
  refine va_get (D := (dC, dI)) (ci := 10) (v := .ref q33) (C := RX10) (T := TX10) (N := 17) hx hb hts iX10 hown hK hP 0 rfl rfl 9 (by decide) (hts _ qw365) (fun _ h9 => h9) rfl dX10_init_133 ?_
  have hPc := hP.sub (ws' := [(q39, .inr (6, [.null, .null, .null, .null, .long 0, .int 0, .null, .null, .null]))]) [30] rfl
  have hDc := hD.sub (ws' := [(q39, .inr (6, [.null, .null, .null, .null, .long 0, .int 0, .null, .null, .null]))]) [30] (by decide) rfl
  have hFc := va_free (wc := [(q39, .inr (6, [.null, .null, .null, .null, .long 0, .int 0, .null, .null, .null]))]) hD hS hA [30] rfl
  refine va_callv (va_runI (As := [.ref q14, .ref q20, .ref q33]) (rest := [.ref q39, .ref h0]) ⟨hx, hb, hml, hown, hts⟩ (c_X6_init l dC dI cI cJ q39 q14 q20 q33 H.size) (cwI 3 hts (zgI qw314) rfl rfl rfl (hts _ qw106) (hts _ qw312) (hts _ qw313) rfl (hd_X6_init).2 ⟨Nat.le_of_ble_eq_true rfl, Nat.le_of_ble_eq_true rfl⟩) (zPS hPc hK hDc) rfl rfl hl.1 rfl (lv_room (Nat.le_of_ble_eq_true rfl)) dX10_init_136 ⟨Nat.le_of_ble_eq_true rfl, Nat.le_of_ble_eq_true rfl⟩) hS (fun q _ h => hFc q h) hFc (fun u t H locs ht hvm hw hB hz1 hk1 hS => ?_)
  refine W.widen (k := 34) (n := 1650) (Nat.le_of_ble_eq_true rfl) (Nat.le_of_ble_eq_true rfl) ?_
  obtain ⟨q41, q42, q43, q44, hB⟩ := hB
  obtain ⟨hP1, hD1⟩ := hB
  rw [ht] at hP1
  obtain ⟨hP, hD⟩ := va_join (wr := [(h0, .inr (10, [.ref q1, .ref q4, .ref q6, .ref q9, .ref q14, .ref q19, .ref q20, .ref q25, .ref q30, .ref q33, .null, .null, .null, .int 0, .int 0, .int 0, .int 0])), (q1, .inr (9, [.ref q3, .int 0, .int 0])), (q3, .inl (cI, 260, .inl (fun _ => 0))), (q4, .inr (2, [.null, .null, .int 0])), (q6, .inr (5, [.ref q8, .int 0, .null])), (q8, .inl (cI, 241, .inl (fun _ => 0))), (q9, .inr (1, [.ref q11, .ref q12, .ref q13, .int 0, .int 0])), (q11, .inl (cI, 3, .inl (fun _ => 0))), (q12, .inl (cI, 24, .inl (fun _ => 0))), (q13, .inl (cI, 20, .inl (fun _ => 0))), (q14, .inr (1, [.ref q16, .ref q17, .ref q18, .int 0, .int 0])), (q16, .inl (cI, 3, .inl (fun _ => 0))), (q17, .inl (cI, 24, .inl (fun _ => 0))), (q18, .inl (cI, 20, .inl (fun _ => 0))), (q19, .inl (cQ, 4, .inr (.inr (.inr (.inr (fun _ => none)))))), (q20, .inr (7, [.ref q22, .ref q23, .ref q24, .int 0, .int 0, .int 0, .int (-1), .int 0, .int 0])), (q22, .inl (cI, 6, .inl (fun _ => 0))), (q23, .inl (cI, 5, .inl (fun _ => 0))), (q24, .inl (cI, 80, .inl (fun _ => 0))), (q25, .inr (7, [.ref q27, .ref q28, .ref q29, .int 0, .int 0, .int 0, .int (-1), .int 0, .int 0])), (q27, .inl (cI, 6, .inl (fun _ => 0))), (q28, .inl (cI, 5, .inl (fun _ => 0))), (q29, .inl (cI, 80, .inl (fun _ => 0))), (q30, .inr (0, [.ref q32, .int 0, .int 0])), (q32, .inl (cI, 680, .inl (fun _ => 0))), (q33, .inr (8, [.ref q35, .ref q36, .ref q14, .ref q20, .ref q37, .ref q38, .null])), (q35, .inl (cI, 10, .inl (fun _ => 0))), (q36, .inl (cI, 10, .inl (fun _ => 0))), (q37, .inl (cI, 6, .inl (fun _ => 0))), (q38, .inl (cI, 32, .inl (fun _ => 0)))]) (w1 := [(q39, .inr (6, [.ref q14, .ref q20, .ref q33, .ref q41, .long 0, .int 0, .ref q42, .ref q43, .ref q44])), (q41, .inl (cJ, 10, .inr (.inl (fun _ => 0)))), (q42, .inl (cI, 10, .inl (fun _ => 0))), (q43, .inl (cI, 10, .inl (fun _ => 0))), (q44, .inl (cI, 45, .inl (fun _ => 0)))]) hP hD [30] [0, 1, 2, 3, 4, 5, 6, 7, 8, 9, 10, 11, 12, 13, 14, 15, 16, 17, 18, 19, 20, 21, 22, 23, 24, 25, 26, 27, 28, 29] rfl rfl (by decide) (by decide) hk1 hFc hP1 hD1
  have hP : va_P (dC, dI) vwCl [(h0, .inr (10, [.ref q1, .ref q4, .ref q6, .ref q9, .ref q14, .ref q19, .ref q20, .ref q25, .ref q30, .ref q33, .null, .null, .null, .int 0, .int 0, .int 0, .int 0])), (q1, .inr (9, [.ref q3, .int 0, .int 0])), (q3, .inl (cI, 260, .inl (fun _ => 0))), (q4, .inr (2, [.null, .null, .int 0])), (q6, .inr (5, [.ref q8, .int 0, .null])), (q8, .inl (cI, 241, .inl (fun _ => 0))), (q9, .inr (1, [.ref q11, .ref q12, .ref q13, .int 0, .int 0])), (q11, .inl (cI, 3, .inl (fun _ => 0))), (q12, .inl (cI, 24, .inl (fun _ => 0))), (q13, .inl (cI, 20, .inl (fun _ => 0))), (q14, .inr (1, [.ref q16, .ref q17, .ref q18, .int 0, .int 0])), (q16, .inl (cI, 3, .inl (fun _ => 0))), (q17, .inl (cI, 24, .inl (fun _ => 0))), (q18, .inl (cI, 20, .inl (fun _ => 0))), (q19, .inl (cQ, 4, .inr (.inr (.inr (.inr (fun _ => none)))))), (q20, .inr (7, [.ref q22, .ref q23, .ref q24, .int 0, .int 0, .int 0, .int (-1), .int 0, .int 0])), (q22, .inl (cI, 6, .inl (fun _ => 0))), (q23, .inl (cI, 5, .inl (fun _ => 0))), (q24, .inl (cI, 80, .inl (fun _ => 0))), (q25, .inr (7, [.ref q27, .ref q28, .ref q29, .int 0, .int 0, .int 0, .int (-1), .int 0, .int 0])), (q27, .inl (cI, 6, .inl (fun _ => 0))), (q28, .inl (cI, 5, .inl (fun _ => 0))), (q29, .inl (cI, 80, .inl (fun _ => 0))), (q30, .inr (0, [.ref q32, .int 0, .int 0])), (q32, .inl (cI, 680, .inl (fun _ => 0))), (q33, .inr (8, [.ref q35, .ref q36, .ref q14, .ref q20, .ref q37, .ref q38, .null])), (q35, .inl (cI, 10, .inl (fun _ => 0))), (q36, .inl (cI, 10, .inl (fun _ => 0))), (q37, .inl (cI, 6, .inl (fun _ => 0))), (q38, .inl (cI, 32, .inl (fun _ => 0))), (q39, .inr (6, [.ref q14, .ref q20, .ref q33, .ref q41, .long 0, .int 0, .ref q42, .ref q43, .ref q44])), (q41, .inl (cJ, 10, .inr (.inl (fun _ => 0)))), (q42, .inl (cI, 10, .inl (fun _ => 0))), (q43, .inl (cI, 10, .inl (fun _ => 0))), (q44, .inl (cI, 45, .inl (fun _ => 0)))] H := hP
  have hD : va_D A [(h0, .inr (10, [.ref q1, .ref q4, .ref q6, .ref q9, .ref q14, .ref q19, .ref q20, .ref q25, .ref q30, .ref q33, .null, .null, .null, .int 0, .int 0, .int 0, .int 0])), (q1, .inr (9, [.ref q3, .int 0, .int 0])), (q3, .inl (cI, 260, .inl (fun _ => 0))), (q4, .inr (2, [.null, .null, .int 0])), (q6, .inr (5, [.ref q8, .int 0, .null])), (q8, .inl (cI, 241, .inl (fun _ => 0))), (q9, .inr (1, [.ref q11, .ref q12, .ref q13, .int 0, .int 0])), (q11, .inl (cI, 3, .inl (fun _ => 0))), (q12, .inl (cI, 24, .inl (fun _ => 0))), (q13, .inl (cI, 20, .inl (fun _ => 0))), (q14, .inr (1, [.ref q16, .ref q17, .ref q18, .int 0, .int 0])), (q16, .inl (cI, 3, .inl (fun _ => 0))), (q17, .inl (cI, 24, .inl (fun _ => 0))), (q18, .inl (cI, 20, .inl (fun _ => 0))), (q19, .inl (cQ, 4, .inr (.inr (.inr (.inr (fun _ => none)))))), (q20, .inr (7, [.ref q22, .ref q23, .ref q24, .int 0, .int 0, .int 0, .int (-1), .int 0, .int 0])), (q22, .inl (cI, 6, .inl (fun _ => 0))), (q23, .inl (cI, 5, .inl (fun _ => 0))), (q24, .inl (cI, 80, .inl (fun _ => 0))), (q25, .inr (7, [.ref q27, .ref q28, .ref q29, .int 0, .int 0, .int 0, .int (-1), .int 0, .int 0])), (q27, .inl (cI, 6, .inl (fun _ => 0))), (q28, .inl (cI, 5, .inl (fun _ => 0))), (q29, .inl (cI, 80, .inl (fun _ => 0))), (q30, .inr (0, [.ref q32, .int 0, .int 0])), (q32, .inl (cI, 680, .inl (fun _ => 0))), (q33, .inr (8, [.ref q35, .ref q36, .ref q14, .ref q20, .ref q37, .ref q38, .null])), (q35, .inl (cI, 10, .inl (fun _ => 0))), (q36, .inl (cI, 10, .inl (fun _ => 0))), (q37, .inl (cI, 6, .inl (fun _ => 0))), (q38, .inl (cI, 32, .inl (fun _ => 0))), (q39, .inr (6, [.ref q14, .ref q20, .ref q33, .ref q41, .long 0, .int 0, .ref q42, .ref q43, .ref q44])), (q41, .inl (cJ, 10, .inr (.inl (fun _ => 0)))), (q42, .inl (cI, 10, .inl (fun _ => 0))), (q43, .inl (cI, 10, .inl (fun _ => 0))), (q44, .inl (cI, 45, .inl (fun _ => 0)))] := hD
  refine va_putF (D := (dC, dI)) (ci := 10) (v := .ref q39) (ty := .object "NinePortraits$Mind") (C := RX10) (T := TX10) (N := 17) hx hb hts iX10 tyX10 tyX10_ok nmX10 hown hK hP hD hS 0 rfl rfl 10 (by decide) (hts _ qw366) (fun _ h9 => h9) rfl hin rfl (by decide +kernel) rfl rfl (Nat.le_of_ble_eq_true rfl) dX10_init_139 (fun H locs hP hD hS => ?_)
  have hP : va_P (dC, dI) vwCl [(h0, .inr (10, [.ref q1, .ref q4, .ref q6, .ref q9, .ref q14, .ref q19, .ref q20, .ref q25, .ref q30, .ref q33, .ref q39, .null, .null, .int 0, .int 0, .int 0, .int 0])), (q1, .inr (9, [.ref q3, .int 0, .int 0])), (q3, .inl (cI, 260, .inl (fun _ => 0))), (q4, .inr (2, [.null, .null, .int 0])), (q6, .inr (5, [.ref q8, .int 0, .null])), (q8, .inl (cI, 241, .inl (fun _ => 0))), (q9, .inr (1, [.ref q11, .ref q12, .ref q13, .int 0, .int 0])), (q11, .inl (cI, 3, .inl (fun _ => 0))), (q12, .inl (cI, 24, .inl (fun _ => 0))), (q13, .inl (cI, 20, .inl (fun _ => 0))), (q14, .inr (1, [.ref q16, .ref q17, .ref q18, .int 0, .int 0])), (q16, .inl (cI, 3, .inl (fun _ => 0))), (q17, .inl (cI, 24, .inl (fun _ => 0))), (q18, .inl (cI, 20, .inl (fun _ => 0))), (q19, .inl (cQ, 4, .inr (.inr (.inr (.inr (fun _ => none)))))), (q20, .inr (7, [.ref q22, .ref q23, .ref q24, .int 0, .int 0, .int 0, .int (-1), .int 0, .int 0])), (q22, .inl (cI, 6, .inl (fun _ => 0))), (q23, .inl (cI, 5, .inl (fun _ => 0))), (q24, .inl (cI, 80, .inl (fun _ => 0))), (q25, .inr (7, [.ref q27, .ref q28, .ref q29, .int 0, .int 0, .int 0, .int (-1), .int 0, .int 0])), (q27, .inl (cI, 6, .inl (fun _ => 0))), (q28, .inl (cI, 5, .inl (fun _ => 0))), (q29, .inl (cI, 80, .inl (fun _ => 0))), (q30, .inr (0, [.ref q32, .int 0, .int 0])), (q32, .inl (cI, 680, .inl (fun _ => 0))), (q33, .inr (8, [.ref q35, .ref q36, .ref q14, .ref q20, .ref q37, .ref q38, .null])), (q35, .inl (cI, 10, .inl (fun _ => 0))), (q36, .inl (cI, 10, .inl (fun _ => 0))), (q37, .inl (cI, 6, .inl (fun _ => 0))), (q38, .inl (cI, 32, .inl (fun _ => 0))), (q39, .inr (6, [.ref q14, .ref q20, .ref q33, .ref q41, .long 0, .int 0, .ref q42, .ref q43, .ref q44])), (q41, .inl (cJ, 10, .inr (.inl (fun _ => 0)))), (q42, .inl (cI, 10, .inl (fun _ => 0))), (q43, .inl (cI, 10, .inl (fun _ => 0))), (q44, .inl (cI, 45, .inl (fun _ => 0)))] H := hP
  have hD : va_D A [(h0, .inr (10, [.ref q1, .ref q4, .ref q6, .ref q9, .ref q14, .ref q19, .ref q20, .ref q25, .ref q30, .ref q33, .ref q39, .null, .null, .int 0, .int 0, .int 0, .int 0])), (q1, .inr (9, [.ref q3, .int 0, .int 0])), (q3, .inl (cI, 260, .inl (fun _ => 0))), (q4, .inr (2, [.null, .null, .int 0])), (q6, .inr (5, [.ref q8, .int 0, .null])), (q8, .inl (cI, 241, .inl (fun _ => 0))), (q9, .inr (1, [.ref q11, .ref q12, .ref q13, .int 0, .int 0])), (q11, .inl (cI, 3, .inl (fun _ => 0))), (q12, .inl (cI, 24, .inl (fun _ => 0))), (q13, .inl (cI, 20, .inl (fun _ => 0))), (q14, .inr (1, [.ref q16, .ref q17, .ref q18, .int 0, .int 0])), (q16, .inl (cI, 3, .inl (fun _ => 0))), (q17, .inl (cI, 24, .inl (fun _ => 0))), (q18, .inl (cI, 20, .inl (fun _ => 0))), (q19, .inl (cQ, 4, .inr (.inr (.inr (.inr (fun _ => none)))))), (q20, .inr (7, [.ref q22, .ref q23, .ref q24, .int 0, .int 0, .int 0, .int (-1), .int 0, .int 0])), (q22, .inl (cI, 6, .inl (fun _ => 0))), (q23, .inl (cI, 5, .inl (fun _ => 0))), (q24, .inl (cI, 80, .inl (fun _ => 0))), (q25, .inr (7, [.ref q27, .ref q28, .ref q29, .int 0, .int 0, .int 0, .int (-1), .int 0, .int 0])), (q27, .inl (cI, 6, .inl (fun _ => 0))), (q28, .inl (cI, 5, .inl (fun _ => 0))), (q29, .inl (cI, 80, .inl (fun _ => 0))), (q30, .inr (0, [.ref q32, .int 0, .int 0])), (q32, .inl (cI, 680, .inl (fun _ => 0))), (q33, .inr (8, [.ref q35, .ref q36, .ref q14, .ref q20, .ref q37, .ref q38, .null])), (q35, .inl (cI, 10, .inl (fun _ => 0))), (q36, .inl (cI, 10, .inl (fun _ => 0))), (q37, .inl (cI, 6, .inl (fun _ => 0))), (q38, .inl (cI, 32, .inl (fun _ => 0))), (q39, .inr (6, [.ref q14, .ref q20, .ref q33, .ref q41, .long 0, .int 0, .ref q42, .ref q43, .ref q44])), (q41, .inl (cJ, 10, .inr (.inl (fun _ => 0)))), (q42, .inl (cI, 10, .inl (fun _ => 0))), (q43, .inl (cI, 10, .inl (fun _ => 0))), (q44, .inl (cI, 45, .inl (fun _ => 0)))] := hD
  refine lv_aload_n hx hb dX10_init_142 rfl (lv_at hl 0 rfl) ?_
  refine va_new (ci := 3) (fs := [.long 0]) (C := RX3) (T := TX3) (N := 1) hx hb hts iX3 tyX3 tyX3_ok hown (hts _ qw346) (hts _ qw347) (hts _ qw107) hK hP hD hS hA rfl fsX3 (Nat.le_of_ble_eq_true rfl) (Nat.le_of_ble_eq_true rfl) dX10_init_143 (fun q45 H hP hD hS => ?_)
  have hP : va_P (dC, dI) vwCl [(h0, .inr (10, [.ref q1, .ref q4, .ref q6, .ref q9, .ref q14, .ref q19, .ref q20, .ref q25, .ref q30, .ref q33, .ref q39, .null, .null, .int 0, .int 0, .int 0, .int 0])), (q1, .inr (9, [.ref q3, .int 0, .int 0])), (q3, .inl (cI, 260, .inl (fun _ => 0))), (q4, .inr (2, [.null, .null, .int 0])), (q6, .inr (5, [.ref q8, .int 0, .null])), (q8, .inl (cI, 241, .inl (fun _ => 0))), (q9, .inr (1, [.ref q11, .ref q12, .ref q13, .int 0, .int 0])), (q11, .inl (cI, 3, .inl (fun _ => 0))), (q12, .inl (cI, 24, .inl (fun _ => 0))), (q13, .inl (cI, 20, .inl (fun _ => 0))), (q14, .inr (1, [.ref q16, .ref q17, .ref q18, .int 0, .int 0])), (q16, .inl (cI, 3, .inl (fun _ => 0))), (q17, .inl (cI, 24, .inl (fun _ => 0))), (q18, .inl (cI, 20, .inl (fun _ => 0))), (q19, .inl (cQ, 4, .inr (.inr (.inr (.inr (fun _ => none)))))), (q20, .inr (7, [.ref q22, .ref q23, .ref q24, .int 0, .int 0, .int 0, .int (-1), .int 0, .int 0])), (q22, .inl (cI, 6, .inl (fun _ => 0))), (q23, .inl (cI, 5, .inl (fun _ => 0))), (q24, .inl (cI, 80, .inl (fun _ => 0))), (q25, .inr (7, [.ref q27, .ref q28, .ref q29, .int 0, .int 0, .int 0, .int (-1), .int 0, .int 0])), (q27, .inl (cI, 6, .inl (fun _ => 0))), (q28, .inl (cI, 5, .inl (fun _ => 0))), (q29, .inl (cI, 80, .inl (fun _ => 0))), (q30, .inr (0, [.ref q32, .int 0, .int 0])), (q32, .inl (cI, 680, .inl (fun _ => 0))), (q33, .inr (8, [.ref q35, .ref q36, .ref q14, .ref q20, .ref q37, .ref q38, .null])), (q35, .inl (cI, 10, .inl (fun _ => 0))), (q36, .inl (cI, 10, .inl (fun _ => 0))), (q37, .inl (cI, 6, .inl (fun _ => 0))), (q38, .inl (cI, 32, .inl (fun _ => 0))), (q39, .inr (6, [.ref q14, .ref q20, .ref q33, .ref q41, .long 0, .int 0, .ref q42, .ref q43, .ref q44])), (q41, .inl (cJ, 10, .inr (.inl (fun _ => 0)))), (q42, .inl (cI, 10, .inl (fun _ => 0))), (q43, .inl (cI, 10, .inl (fun _ => 0))), (q44, .inl (cI, 45, .inl (fun _ => 0))), (q45, .inr (3, [.long 0]))] H := hP
  have hD : va_D A [(h0, .inr (10, [.ref q1, .ref q4, .ref q6, .ref q9, .ref q14, .ref q19, .ref q20, .ref q25, .ref q30, .ref q33, .ref q39, .null, .null, .int 0, .int 0, .int 0, .int 0])), (q1, .inr (9, [.ref q3, .int 0, .int 0])), (q3, .inl (cI, 260, .inl (fun _ => 0))), (q4, .inr (2, [.null, .null, .int 0])), (q6, .inr (5, [.ref q8, .int 0, .null])), (q8, .inl (cI, 241, .inl (fun _ => 0))), (q9, .inr (1, [.ref q11, .ref q12, .ref q13, .int 0, .int 0])), (q11, .inl (cI, 3, .inl (fun _ => 0))), (q12, .inl (cI, 24, .inl (fun _ => 0))), (q13, .inl (cI, 20, .inl (fun _ => 0))), (q14, .inr (1, [.ref q16, .ref q17, .ref q18, .int 0, .int 0])), (q16, .inl (cI, 3, .inl (fun _ => 0))), (q17, .inl (cI, 24, .inl (fun _ => 0))), (q18, .inl (cI, 20, .inl (fun _ => 0))), (q19, .inl (cQ, 4, .inr (.inr (.inr (.inr (fun _ => none)))))), (q20, .inr (7, [.ref q22, .ref q23, .ref q24, .int 0, .int 0, .int 0, .int (-1), .int 0, .int 0])), (q22, .inl (cI, 6, .inl (fun _ => 0))), (q23, .inl (cI, 5, .inl (fun _ => 0))), (q24, .inl (cI, 80, .inl (fun _ => 0))), (q25, .inr (7, [.ref q27, .ref q28, .ref q29, .int 0, .int 0, .int 0, .int (-1), .int 0, .int 0])), (q27, .inl (cI, 6, .inl (fun _ => 0))), (q28, .inl (cI, 5, .inl (fun _ => 0))), (q29, .inl (cI, 80, .inl (fun _ => 0))), (q30, .inr (0, [.ref q32, .int 0, .int 0])), (q32, .inl (cI, 680, .inl (fun _ => 0))), (q33, .inr (8, [.ref q35, .ref q36, .ref q14, .ref q20, .ref q37, .ref q38, .null])), (q35, .inl (cI, 10, .inl (fun _ => 0))), (q36, .inl (cI, 10, .inl (fun _ => 0))), (q37, .inl (cI, 6, .inl (fun _ => 0))), (q38, .inl (cI, 32, .inl (fun _ => 0))), (q39, .inr (6, [.ref q14, .ref q20, .ref q33, .ref q41, .long 0, .int 0, .ref q42, .ref q43, .ref q44])), (q41, .inl (cJ, 10, .inr (.inl (fun _ => 0)))), (q42, .inl (cI, 10, .inl (fun _ => 0))), (q43, .inl (cI, 10, .inl (fun _ => 0))), (q44, .inl (cI, 45, .inl (fun _ => 0))), (q45, .inr (3, [.long 0]))] := hD
  refine W.widen (k := 35) (n := 1651) (Nat.le_of_ble_eq_true rfl) (Nat.le_of_ble_eq_true rfl) ?_
  refine lv_dup hx hb dX10_init_146 rfl ?_
  have hPc : va_P (dC, dI) vwCl [] H := zP0
  have hDc : va_D (fun _ => True) [] := zD0
  have hFc := zfr hS hA
  refine va_callv (va_runIN (As := []) (rest := [.ref q45, .ref h0]) ⟨hx, hb, hml, hown, hts⟩ (c_X3_init l dC dI cI cJ q45 H.size) ⟨va_cnB 0 hts (zgI qw350) rfl rfl rfl (hN_83) (hts _ qw107) (hd_X3_init).2 ⟨Nat.le_of_ble_eq_true rfl, Nat.le_of_ble_eq_true rfl⟩, rfl, hts _ qw349⟩ (zPS hPc hK hDc) rfl rfl hl.1 rfl (lv_room (Nat.le_of_ble_eq_true rfl)) dX10_init_147 ⟨Nat.le_of_ble_eq_true rfl, Nat.le_of_ble_eq_true rfl⟩) hS (fun q _ h => hFc q h) hFc (fun u t H locs ht hvm hw hB hz1 hk1 hS => ?_)
  have hP := zkeep hP hk1
  refine va_putF (D := (dC, dI)) (ci := 10) (v := .ref q45) (ty := .object "NinePortraits$Draws") (C := RX10) (T := TX10) (N := 17) hx hb hts iX10 tyX10 tyX10_ok nmX10 hown hK hP hD hS 0 rfl rfl 11 (by decide) (hts _ qw367) (fun _ h9 => h9) rfl hin rfl (by decide +kernel) rfl rfl (Nat.le_of_ble_eq_true rfl) dX10_init_150 (fun H locs hP hD hS => ?_)
  have hP : va_P (dC, dI) vwCl [(h0, .inr (10, [.ref q1, .ref q4, .ref q6, .ref q9, .ref q14, .ref q19, .ref q20, .ref q25, .ref q30, .ref q33, .ref q39, .ref q45, .null, .int 0, .int 0, .int 0, .int 0])), (q1, .inr (9, [.ref q3, .int 0, .int 0])), (q3, .inl (cI, 260, .inl (fun _ => 0))), (q4, .inr (2, [.null, .null, .int 0])), (q6, .inr (5, [.ref q8, .int 0, .null])), (q8, .inl (cI, 241, .inl (fun _ => 0))), (q9, .inr (1, [.ref q11, .ref q12, .ref q13, .int 0, .int 0])), (q11, .inl (cI, 3, .inl (fun _ => 0))), (q12, .inl (cI, 24, .inl (fun _ => 0))), (q13, .inl (cI, 20, .inl (fun _ => 0))), (q14, .inr (1, [.ref q16, .ref q17, .ref q18, .int 0, .int 0])), (q16, .inl (cI, 3, .inl (fun _ => 0))), (q17, .inl (cI, 24, .inl (fun _ => 0))), (q18, .inl (cI, 20, .inl (fun _ => 0))), (q19, .inl (cQ, 4, .inr (.inr (.inr (.inr (fun _ => none)))))), (q20, .inr (7, [.ref q22, .ref q23, .ref q24, .int 0, .int 0, .int 0, .int (-1), .int 0, .int 0])), (q22, .inl (cI, 6, .inl (fun _ => 0))), (q23, .inl (cI, 5, .inl (fun _ => 0))), (q24, .inl (cI, 80, .inl (fun _ => 0))), (q25, .inr (7, [.ref q27, .ref q28, .ref q29, .int 0, .int 0, .int 0, .int (-1), .int 0, .int 0])), (q27, .inl (cI, 6, .inl (fun _ => 0))), (q28, .inl (cI, 5, .inl (fun _ => 0))), (q29, .inl (cI, 80, .inl (fun _ => 0))), (q30, .inr (0, [.ref q32, .int 0, .int 0])), (q32, .inl (cI, 680, .inl (fun _ => 0))), (q33, .inr (8, [.ref q35, .ref q36, .ref q14, .ref q20, .ref q37, .ref q38, .null])), (q35, .inl (cI, 10, .inl (fun _ => 0))), (q36, .inl (cI, 10, .inl (fun _ => 0))), (q37, .inl (cI, 6, .inl (fun _ => 0))), (q38, .inl (cI, 32, .inl (fun _ => 0))), (q39, .inr (6, [.ref q14, .ref q20, .ref q33, .ref q41, .long 0, .int 0, .ref q42, .ref q43, .ref q44])), (q41, .inl (cJ, 10, .inr (.inl (fun _ => 0)))), (q42, .inl (cI, 10, .inl (fun _ => 0))), (q43, .inl (cI, 10, .inl (fun _ => 0))), (q44, .inl (cI, 45, .inl (fun _ => 0))), (q45, .inr (3, [.long 0]))] H := hP
  have hD : va_D A [(h0, .inr (10, [.ref q1, .ref q4, .ref q6, .ref q9, .ref q14, .ref q19, .ref q20, .ref q25, .ref q30, .ref q33, .ref q39, .ref q45, .null, .int 0, .int 0, .int 0, .int 0])), (q1, .inr (9, [.ref q3, .int 0, .int 0])), (q3, .inl (cI, 260, .inl (fun _ => 0))), (q4, .inr (2, [.null, .null, .int 0])), (q6, .inr (5, [.ref q8, .int 0, .null])), (q8, .inl (cI, 241, .inl (fun _ => 0))), (q9, .inr (1, [.ref q11, .ref q12, .ref q13, .int 0, .int 0])), (q11, .inl (cI, 3, .inl (fun _ => 0))), (q12, .inl (cI, 24, .inl (fun _ => 0))), (q13, .inl (cI, 20, .inl (fun _ => 0))), (q14, .inr (1, [.ref q16, .ref q17, .ref q18, .int 0, .int 0])), (q16, .inl (cI, 3, .inl (fun _ => 0))), (q17, .inl (cI, 24, .inl (fun _ => 0))), (q18, .inl (cI, 20, .inl (fun _ => 0))), (q19, .inl (cQ, 4, .inr (.inr (.inr (.inr (fun _ => none)))))), (q20, .inr (7, [.ref q22, .ref q23, .ref q24, .int 0, .int 0, .int 0, .int (-1), .int 0, .int 0])), (q22, .inl (cI, 6, .inl (fun _ => 0))), (q23, .inl (cI, 5, .inl (fun _ => 0))), (q24, .inl (cI, 80, .inl (fun _ => 0))), (q25, .inr (7, [.ref q27, .ref q28, .ref q29, .int 0, .int 0, .int 0, .int (-1), .int 0, .int 0])), (q27, .inl (cI, 6, .inl (fun _ => 0))), (q28, .inl (cI, 5, .inl (fun _ => 0))), (q29, .inl (cI, 80, .inl (fun _ => 0))), (q30, .inr (0, [.ref q32, .int 0, .int 0])), (q32, .inl (cI, 680, .inl (fun _ => 0))), (q33, .inr (8, [.ref q35, .ref q36, .ref q14, .ref q20, .ref q37, .ref q38, .null])), (q35, .inl (cI, 10, .inl (fun _ => 0))), (q36, .inl (cI, 10, .inl (fun _ => 0))), (q37, .inl (cI, 6, .inl (fun _ => 0))), (q38, .inl (cI, 32, .inl (fun _ => 0))), (q39, .inr (6, [.ref q14, .ref q20, .ref q33, .ref q41, .long 0, .int 0, .ref q42, .ref q43, .ref q44])), (q41, .inl (cJ, 10, .inr (.inl (fun _ => 0)))), (q42, .inl (cI, 10, .inl (fun _ => 0))), (q43, .inl (cI, 10, .inl (fun _ => 0))), (q44, .inl (cI, 45, .inl (fun _ => 0))), (q45, .inr (3, [.long 0]))] := hD
  refine lv_aload_n hx hb dX10_init_153 rfl (lv_at hl 0 rfl) ?_
  refine lv_iconst (v := 5) hx hb dX10_init_154 (by decide) ?_
  refine va_newa (atype := .int) (ty := .int) (N' := 5) (a0 := (5, .inl (fun _ => 0))) hx hb (hts _ qw147) rfl hK hP hD hS hA (fun _ => rfl) (by decide) (by decide) (Nat.le_of_ble_eq_true rfl) (Nat.le_of_ble_eq_true rfl) (Nat.le_of_ble_eq_true rfl) dX10_init_155 (fun q47 cA H hK2 hP hD hS => ?_)
  obtain rfl : cI = cA := (zcA hK2 0 2 rfl rfl).symm
  have hP : va_P (dC, dI) vwCl [(h0, .inr (10, [.ref q1, .ref q4, .ref q6, .ref q9, .ref q14, .ref q19, .ref q20, .ref q25, .ref q30, .ref q33, .ref q39, .ref q45, .null, .int 0, .int 0, .int 0, .int 0])), (q1, .inr (9, [.ref q3, .int 0, .int 0])), (q3, .inl (cI, 260, .inl (fun _ => 0))), (q4, .inr (2, [.null, .null, .int 0])), (q6, .inr (5, [.ref q8, .int 0, .null])), (q8, .inl (cI, 241, .inl (fun _ => 0))), (q9, .inr (1, [.ref q11, .ref q12, .ref q13, .int 0, .int 0])), (q11, .inl (cI, 3, .inl (fun _ => 0))), (q12, .inl (cI, 24, .inl (fun _ => 0))), (q13, .inl (cI, 20, .inl (fun _ => 0))), (q14, .inr (1, [.ref q16, .ref q17, .ref q18, .int 0, .int 0])), (q16, .inl (cI, 3, .inl (fun _ => 0))), (q17, .inl (cI, 24, .inl (fun _ => 0))), (q18, .inl (cI, 20, .inl (fun _ => 0))), (q19, .inl (cQ, 4, .inr (.inr (.inr (.inr (fun _ => none)))))), (q20, .inr (7, [.ref q22, .ref q23, .ref q24, .int 0, .int 0, .int 0, .int (-1), .int 0, .int 0])), (q22, .inl (cI, 6, .inl (fun _ => 0))), (q23, .inl (cI, 5, .inl (fun _ => 0))), (q24, .inl (cI, 80, .inl (fun _ => 0))), (q25, .inr (7, [.ref q27, .ref q28, .ref q29, .int 0, .int 0, .int 0, .int (-1), .int 0, .int 0])), (q27, .inl (cI, 6, .inl (fun _ => 0))), (q28, .inl (cI, 5, .inl (fun _ => 0))), (q29, .inl (cI, 80, .inl (fun _ => 0))), (q30, .inr (0, [.ref q32, .int 0, .int 0])), (q32, .inl (cI, 680, .inl (fun _ => 0))), (q33, .inr (8, [.ref q35, .ref q36, .ref q14, .ref q20, .ref q37, .ref q38, .null])), (q35, .inl (cI, 10, .inl (fun _ => 0))), (q36, .inl (cI, 10, .inl (fun _ => 0))), (q37, .inl (cI, 6, .inl (fun _ => 0))), (q38, .inl (cI, 32, .inl (fun _ => 0))), (q39, .inr (6, [.ref q14, .ref q20, .ref q33, .ref q41, .long 0, .int 0, .ref q42, .ref q43, .ref q44])), (q41, .inl (cJ, 10, .inr (.inl (fun _ => 0)))), (q42, .inl (cI, 10, .inl (fun _ => 0))), (q43, .inl (cI, 10, .inl (fun _ => 0))), (q44, .inl (cI, 45, .inl (fun _ => 0))), (q45, .inr (3, [.long 0])), (q47, .inl (cI, 5, .inl (fun _ => 0)))] H := hP
  have hD : va_D A [(h0, .inr (10, [.ref q1, .ref q4, .ref q6, .ref q9, .ref q14, .ref q19, .ref q20, .ref q25, .ref q30, .ref q33, .ref q39, .ref q45, .null, .int 0, .int 0, .int 0, .int 0])), (q1, .inr (9, [.ref q3, .int 0, .int 0])), (q3, .inl (cI, 260, .inl (fun _ => 0))), (q4, .inr (2, [.null, .null, .int 0])), (q6, .inr (5, [.ref q8, .int 0, .null])), (q8, .inl (cI, 241, .inl (fun _ => 0))), (q9, .inr (1, [.ref q11, .ref q12, .ref q13, .int 0, .int 0])), (q11, .inl (cI, 3, .inl (fun _ => 0))), (q12, .inl (cI, 24, .inl (fun _ => 0))), (q13, .inl (cI, 20, .inl (fun _ => 0))), (q14, .inr (1, [.ref q16, .ref q17, .ref q18, .int 0, .int 0])), (q16, .inl (cI, 3, .inl (fun _ => 0))), (q17, .inl (cI, 24, .inl (fun _ => 0))), (q18, .inl (cI, 20, .inl (fun _ => 0))), (q19, .inl (cQ, 4, .inr (.inr (.inr (.inr (fun _ => none)))))), (q20, .inr (7, [.ref q22, .ref q23, .ref q24, .int 0, .int 0, .int 0, .int (-1), .int 0, .int 0])), (q22, .inl (cI, 6, .inl (fun _ => 0))), (q23, .inl (cI, 5, .inl (fun _ => 0))), (q24, .inl (cI, 80, .inl (fun _ => 0))), (q25, .inr (7, [.ref q27, .ref q28, .ref q29, .int 0, .int 0, .int 0, .int (-1), .int 0, .int 0])), (q27, .inl (cI, 6, .inl (fun _ => 0))), (q28, .inl (cI, 5, .inl (fun _ => 0))), (q29, .inl (cI, 80, .inl (fun _ => 0))), (q30, .inr (0, [.ref q32, .int 0, .int 0])), (q32, .inl (cI, 680, .inl (fun _ => 0))), (q33, .inr (8, [.ref q35, .ref q36, .ref q14, .ref q20, .ref q37, .ref q38, .null])), (q35, .inl (cI, 10, .inl (fun _ => 0))), (q36, .inl (cI, 10, .inl (fun _ => 0))), (q37, .inl (cI, 6, .inl (fun _ => 0))), (q38, .inl (cI, 32, .inl (fun _ => 0))), (q39, .inr (6, [.ref q14, .ref q20, .ref q33, .ref q41, .long 0, .int 0, .ref q42, .ref q43, .ref q44])), (q41, .inl (cJ, 10, .inr (.inl (fun _ => 0)))), (q42, .inl (cI, 10, .inl (fun _ => 0))), (q43, .inl (cI, 10, .inl (fun _ => 0))), (q44, .inl (cI, 45, .inl (fun _ => 0))), (q45, .inr (3, [.long 0])), (q47, .inl (cI, 5, .inl (fun _ => 0)))] := hD
  refine W.widen (k := 36) (n := 1656) (Nat.le_of_ble_eq_true rfl) (Nat.le_of_ble_eq_true rfl) ?_
  refine va_putF (D := (dC, dI)) (ci := 10) (v := .ref q47) (ty := .array .int) (C := RX10) (T := TX10) (N := 17) hx hb hts iX10 tyX10 tyX10_ok nmX10 hown hK hP hD hS 0 rfl rfl 12 (by decide) (hts _ qw368) (fun _ h9 => h9) rfl hin rfl (by decide +kernel) rfl rfl (Nat.le_of_ble_eq_true rfl) dX10_init_157 (fun H locs hP hD hS => ?_)
  have hP : va_P (dC, dI) vwCl [(h0, .inr (10, [.ref q1, .ref q4, .ref q6, .ref q9, .ref q14, .ref q19, .ref q20, .ref q25, .ref q30, .ref q33, .ref q39, .ref q45, .ref q47, .int 0, .int 0, .int 0, .int 0])), (q1, .inr (9, [.ref q3, .int 0, .int 0])), (q3, .inl (cI, 260, .inl (fun _ => 0))), (q4, .inr (2, [.null, .null, .int 0])), (q6, .inr (5, [.ref q8, .int 0, .null])), (q8, .inl (cI, 241, .inl (fun _ => 0))), (q9, .inr (1, [.ref q11, .ref q12, .ref q13, .int 0, .int 0])), (q11, .inl (cI, 3, .inl (fun _ => 0))), (q12, .inl (cI, 24, .inl (fun _ => 0))), (q13, .inl (cI, 20, .inl (fun _ => 0))), (q14, .inr (1, [.ref q16, .ref q17, .ref q18, .int 0, .int 0])), (q16, .inl (cI, 3, .inl (fun _ => 0))), (q17, .inl (cI, 24, .inl (fun _ => 0))), (q18, .inl (cI, 20, .inl (fun _ => 0))), (q19, .inl (cQ, 4, .inr (.inr (.inr (.inr (fun _ => none)))))), (q20, .inr (7, [.ref q22, .ref q23, .ref q24, .int 0, .int 0, .int 0, .int (-1), .int 0, .int 0])), (q22, .inl (cI, 6, .inl (fun _ => 0))), (q23, .inl (cI, 5, .inl (fun _ => 0))), (q24, .inl (cI, 80, .inl (fun _ => 0))), (q25, .inr (7, [.ref q27, .ref q28, .ref q29, .int 0, .int 0, .int 0, .int (-1), .int 0, .int 0])), (q27, .inl (cI, 6, .inl (fun _ => 0))), (q28, .inl (cI, 5, .inl (fun _ => 0))), (q29, .inl (cI, 80, .inl (fun _ => 0))), (q30, .inr (0, [.ref q32, .int 0, .int 0])), (q32, .inl (cI, 680, .inl (fun _ => 0))), (q33, .inr (8, [.ref q35, .ref q36, .ref q14, .ref q20, .ref q37, .ref q38, .null])), (q35, .inl (cI, 10, .inl (fun _ => 0))), (q36, .inl (cI, 10, .inl (fun _ => 0))), (q37, .inl (cI, 6, .inl (fun _ => 0))), (q38, .inl (cI, 32, .inl (fun _ => 0))), (q39, .inr (6, [.ref q14, .ref q20, .ref q33, .ref q41, .long 0, .int 0, .ref q42, .ref q43, .ref q44])), (q41, .inl (cJ, 10, .inr (.inl (fun _ => 0)))), (q42, .inl (cI, 10, .inl (fun _ => 0))), (q43, .inl (cI, 10, .inl (fun _ => 0))), (q44, .inl (cI, 45, .inl (fun _ => 0))), (q45, .inr (3, [.long 0])), (q47, .inl (cI, 5, .inl (fun _ => 0)))] H := hP
  have hD : va_D A [(h0, .inr (10, [.ref q1, .ref q4, .ref q6, .ref q9, .ref q14, .ref q19, .ref q20, .ref q25, .ref q30, .ref q33, .ref q39, .ref q45, .ref q47, .int 0, .int 0, .int 0, .int 0])), (q1, .inr (9, [.ref q3, .int 0, .int 0])), (q3, .inl (cI, 260, .inl (fun _ => 0))), (q4, .inr (2, [.null, .null, .int 0])), (q6, .inr (5, [.ref q8, .int 0, .null])), (q8, .inl (cI, 241, .inl (fun _ => 0))), (q9, .inr (1, [.ref q11, .ref q12, .ref q13, .int 0, .int 0])), (q11, .inl (cI, 3, .inl (fun _ => 0))), (q12, .inl (cI, 24, .inl (fun _ => 0))), (q13, .inl (cI, 20, .inl (fun _ => 0))), (q14, .inr (1, [.ref q16, .ref q17, .ref q18, .int 0, .int 0])), (q16, .inl (cI, 3, .inl (fun _ => 0))), (q17, .inl (cI, 24, .inl (fun _ => 0))), (q18, .inl (cI, 20, .inl (fun _ => 0))), (q19, .inl (cQ, 4, .inr (.inr (.inr (.inr (fun _ => none)))))), (q20, .inr (7, [.ref q22, .ref q23, .ref q24, .int 0, .int 0, .int 0, .int (-1), .int 0, .int 0])), (q22, .inl (cI, 6, .inl (fun _ => 0))), (q23, .inl (cI, 5, .inl (fun _ => 0))), (q24, .inl (cI, 80, .inl (fun _ => 0))), (q25, .inr (7, [.ref q27, .ref q28, .ref q29, .int 0, .int 0, .int 0, .int (-1), .int 0, .int 0])), (q27, .inl (cI, 6, .inl (fun _ => 0))), (q28, .inl (cI, 5, .inl (fun _ => 0))), (q29, .inl (cI, 80, .inl (fun _ => 0))), (q30, .inr (0, [.ref q32, .int 0, .int 0])), (q32, .inl (cI, 680, .inl (fun _ => 0))), (q33, .inr (8, [.ref q35, .ref q36, .ref q14, .ref q20, .ref q37, .ref q38, .null])), (q35, .inl (cI, 10, .inl (fun _ => 0))), (q36, .inl (cI, 10, .inl (fun _ => 0))), (q37, .inl (cI, 6, .inl (fun _ => 0))), (q38, .inl (cI, 32, .inl (fun _ => 0))), (q39, .inr (6, [.ref q14, .ref q20, .ref q33, .ref q41, .long 0, .int 0, .ref q42, .ref q43, .ref q44])), (q41, .inl (cJ, 10, .inr (.inl (fun _ => 0)))), (q42, .inl (cI, 10, .inl (fun _ => 0))), (q43, .inl (cI, 10, .inl (fun _ => 0))), (q44, .inl (cI, 45, .inl (fun _ => 0))), (q45, .inr (3, [.long 0])), (q47, .inl (cI, 5, .inl (fun _ => 0)))] := hD
  refine lv_aload_n hx hb dX10_init_160 rfl (lv_at hl 0 rfl) ?_
  refine lv_iconst (v := (-1)) hx hb dX10_init_161 (by decide) ?_
  refine va_put (D := (dC, dI)) (ci := 10) (v := .int (-1)) (ty := .int) (C := RX10) (T := TX10) (N := 17) hx hb hts iX10 tyX10 tyX10_ok nmX10 hown hK hP hD hS 0 rfl rfl 14 (by decide) (hts _ qw370) (fun _ h9 => h9) rfl (by decide +kernel) rfl rfl (Nat.le_of_ble_eq_true rfl) dX10_init_162 (fun H locs hP hD hS => ?_)
  have hP : va_P (dC, dI) vwCl [(h0, .inr (10, [.ref q1, .ref q4, .ref q6, .ref q9, .ref q14, .ref q19, .ref q20, .ref q25, .ref q30, .ref q33, .ref q39, .ref q45, .ref q47, .int 0, .int (-1), .int 0, .int 0])), (q1, .inr (9, [.ref q3, .int 0, .int 0])), (q3, .inl (cI, 260, .inl (fun _ => 0))), (q4, .inr (2, [.null, .null, .int 0])), (q6, .inr (5, [.ref q8, .int 0, .null])), (q8, .inl (cI, 241, .inl (fun _ => 0))), (q9, .inr (1, [.ref q11, .ref q12, .ref q13, .int 0, .int 0])), (q11, .inl (cI, 3, .inl (fun _ => 0))), (q12, .inl (cI, 24, .inl (fun _ => 0))), (q13, .inl (cI, 20, .inl (fun _ => 0))), (q14, .inr (1, [.ref q16, .ref q17, .ref q18, .int 0, .int 0])), (q16, .inl (cI, 3, .inl (fun _ => 0))), (q17, .inl (cI, 24, .inl (fun _ => 0))), (q18, .inl (cI, 20, .inl (fun _ => 0))), (q19, .inl (cQ, 4, .inr (.inr (.inr (.inr (fun _ => none)))))), (q20, .inr (7, [.ref q22, .ref q23, .ref q24, .int 0, .int 0, .int 0, .int (-1), .int 0, .int 0])), (q22, .inl (cI, 6, .inl (fun _ => 0))), (q23, .inl (cI, 5, .inl (fun _ => 0))), (q24, .inl (cI, 80, .inl (fun _ => 0))), (q25, .inr (7, [.ref q27, .ref q28, .ref q29, .int 0, .int 0, .int 0, .int (-1), .int 0, .int 0])), (q27, .inl (cI, 6, .inl (fun _ => 0))), (q28, .inl (cI, 5, .inl (fun _ => 0))), (q29, .inl (cI, 80, .inl (fun _ => 0))), (q30, .inr (0, [.ref q32, .int 0, .int 0])), (q32, .inl (cI, 680, .inl (fun _ => 0))), (q33, .inr (8, [.ref q35, .ref q36, .ref q14, .ref q20, .ref q37, .ref q38, .null])), (q35, .inl (cI, 10, .inl (fun _ => 0))), (q36, .inl (cI, 10, .inl (fun _ => 0))), (q37, .inl (cI, 6, .inl (fun _ => 0))), (q38, .inl (cI, 32, .inl (fun _ => 0))), (q39, .inr (6, [.ref q14, .ref q20, .ref q33, .ref q41, .long 0, .int 0, .ref q42, .ref q43, .ref q44])), (q41, .inl (cJ, 10, .inr (.inl (fun _ => 0)))), (q42, .inl (cI, 10, .inl (fun _ => 0))), (q43, .inl (cI, 10, .inl (fun _ => 0))), (q44, .inl (cI, 45, .inl (fun _ => 0))), (q45, .inr (3, [.long 0])), (q47, .inl (cI, 5, .inl (fun _ => 0)))] H := hP
  have hD : va_D A [(h0, .inr (10, [.ref q1, .ref q4, .ref q6, .ref q9, .ref q14, .ref q19, .ref q20, .ref q25, .ref q30, .ref q33, .ref q39, .ref q45, .ref q47, .int 0, .int (-1), .int 0, .int 0])), (q1, .inr (9, [.ref q3, .int 0, .int 0])), (q3, .inl (cI, 260, .inl (fun _ => 0))), (q4, .inr (2, [.null, .null, .int 0])), (q6, .inr (5, [.ref q8, .int 0, .null])), (q8, .inl (cI, 241, .inl (fun _ => 0))), (q9, .inr (1, [.ref q11, .ref q12, .ref q13, .int 0, .int 0])), (q11, .inl (cI, 3, .inl (fun _ => 0))), (q12, .inl (cI, 24, .inl (fun _ => 0))), (q13, .inl (cI, 20, .inl (fun _ => 0))), (q14, .inr (1, [.ref q16, .ref q17, .ref q18, .int 0, .int 0])), (q16, .inl (cI, 3, .inl (fun _ => 0))), (q17, .inl (cI, 24, .inl (fun _ => 0))), (q18, .inl (cI, 20, .inl (fun _ => 0))), (q19, .inl (cQ, 4, .inr (.inr (.inr (.inr (fun _ => none)))))), (q20, .inr (7, [.ref q22, .ref q23, .ref q24, .int 0, .int 0, .int 0, .int (-1), .int 0, .int 0])), (q22, .inl (cI, 6, .inl (fun _ => 0))), (q23, .inl (cI, 5, .inl (fun _ => 0))), (q24, .inl (cI, 80, .inl (fun _ => 0))), (q25, .inr (7, [.ref q27, .ref q28, .ref q29, .int 0, .int 0, .int 0, .int (-1), .int 0, .int 0])), (q27, .inl (cI, 6, .inl (fun _ => 0))), (q28, .inl (cI, 5, .inl (fun _ => 0))), (q29, .inl (cI, 80, .inl (fun _ => 0))), (q30, .inr (0, [.ref q32, .int 0, .int 0])), (q32, .inl (cI, 680, .inl (fun _ => 0))), (q33, .inr (8, [.ref q35, .ref q36, .ref q14, .ref q20, .ref q37, .ref q38, .null])), (q35, .inl (cI, 10, .inl (fun _ => 0))), (q36, .inl (cI, 10, .inl (fun _ => 0))), (q37, .inl (cI, 6, .inl (fun _ => 0))), (q38, .inl (cI, 32, .inl (fun _ => 0))), (q39, .inr (6, [.ref q14, .ref q20, .ref q33, .ref q41, .long 0, .int 0, .ref q42, .ref q43, .ref q44])), (q41, .inl (cJ, 10, .inr (.inl (fun _ => 0)))), (q42, .inl (cI, 10, .inl (fun _ => 0))), (q43, .inl (cI, 10, .inl (fun _ => 0))), (q44, .inl (cI, 45, .inl (fun _ => 0))), (q45, .inr (3, [.long 0])), (q47, .inl (cI, 5, .inl (fun _ => 0)))] := hD
  exact W.vret hx hb hr (fun t ht hW => ⟨⟨(), rfl, trivial, ⟨q1, q3, q4, q6, q8, q9, q11, q12, q13, q14, q16, q17, q18, q19, q20, q22, q23, q24, q25, q27, q28, q29, q30, q32, q33, q35, q36, q37, q38, q39, q41, q42, q43, q44, q45, q47, by rw [ht]; exact hP, hD⟩⟩, hS.F ht⟩) hS.2.2 dX10_init_165
set_option maxHeartbeats 4000000 in
set_option maxRecDepth 100000 in
theorem c_X11_init (l : Launch) (dC : Nat → ClassId) (dI : Nat → Nat → Nat) (cI cJ : ClassId) (h0 : Nat) (sz : Nat) : Met l yX11_init (.code yX11_init cX11_init 1 none :: wA) ({ frames := 1, cells := 23, slots := 11830, locals := 20 }) (zP (dC, dI) [(cI, .int), (cJ, .long)] [.ref h0] sz [(h0, .inr (11, [.int 0, .null, .int 0, .int 0, .int 0, .int 0, .null, .null, .null, .null, .null, .null, .null, .int 0, .int 0, .null, .null, .null, .null, .null, .int 0, .int 0, .null, .null, .null, .int 0, .int 0, .null, .null, .int 0, .int 0, .null, .int 0, .long 0, .null, .int 0, .int 0, .null, .null, .null, .int 0]))]) (va_Qv (fun (_ : Unit) => True) (fun (_ : Unit) (t : State) => ∃ (q1 : Nat) (q2 : Nat) (q3 : Nat) (q4 : Nat) (q5 : Nat) (q6 : Nat) (q7 : Nat) (q8 : Nat) (q9 : Nat) (q10 : Nat) (q11 : Nat) (q12 : Nat) (q13 : Nat) (q14 : Nat) (q15 : Nat) (q16 : Nat) (q17 : Nat) (q18 : Nat) (q19 : Nat) (q20 : Nat) (q21 : Nat) (q22 : Nat) (q23 : Nat), va_P (dC, dI) vwCl [(h0, .inr (11, [.int 0, .ref q1, .int 0, .int 0, .int 0, .int 0, .ref q2, .ref q3, .ref q4, .ref q5, .ref q6, .ref q7, .ref q8, .int 0, .int 0, .ref q9, .ref q10, .ref q11, .ref q12, .ref q13, .int 0, .int 0, .ref q14, .ref q15, .ref q16, .int 0, .int 0, .ref q17, .ref q18, .int (-1), .int 0, .ref q19, .int 0, .long 0, .ref q20, .int 0, .int 0, .ref q21, .ref q22, .ref q23, .int 0])), (q1, .inl (cI, 240, .inl (fun _ => 0))), (q2, .inl (cI, 2600, .inl (fun _ => 0))), (q3, .inl (cI, 2600, .inl (fun _ => 0))), (q4, .inl (cI, 5, .inl (fun _ => 0))), (q5, .inl (cI, 5, .inl (fun _ => 0))), (q6, .inl (cI, 700, .inl (fun _ => 0))), (q7, .inl (cI, 700, .inl (fun _ => 0))), (q8, .inl (cI, 700, .inl (fun _ => 0))), (q9, .inl (cI, 6, .inl (fun _ => 0))), (q10, .inl (cI, 80, .inl (fun _ => 0))), (q11, .inl (cI, 3, .inl (fun _ => 0))), (q12, .inl (cI, 24, .inl (fun _ => 0))), (q13, .inl (cI, 20, .inl (fun _ => 0))), (q14, .inl (cI, 3, .inl (fun _ => 0))), (q15, .inl (cI, 24, .inl (fun _ => 0))), (q16, .inl (cI, 20, .inl (fun _ => 0))), (q17, .inl (cI, 97, .inl (fun _ => 0))), (q18, .inl (cI, 5, .inl (fun _ => 0))), (q19, .inl (cI, 3880, .inl (fun _ => 0))), (q20, .inl (cI, 10, .inl (fun _ => 0))), (q21, .inl (cI, 6, .inl (fun _ => 0))), (q22, .inl (cI, 5, .inl (fun _ => 0))), (q23, .inl (cI, 97, .inl (fun _ => 0)))] t.heap ∧ va_D (va_A [(h0, .inr (11, [.int 0, .null, .int 0, .int 0, .int 0, .int 0, .null, .null, .null, .null, .null, .null, .null, .int 0, .int 0, .null, .null, .null, .null, .null, .int 0, .int 0, .null, .null, .null, .int 0, .int 0, .null, .null, .int 0, .int 0, .null, .int 0, .long 0, .null, .int 0, .int 0, .null, .null, .null, .int 0]))] sz) [(h0, .inr (11, [.int 0, .ref q1, .int 0, .int 0, .int 0, .int 0, .ref q2, .ref q3, .ref q4, .ref q5, .ref q6, .ref q7, .ref q8, .int 0, .int 0, .ref q9, .ref q10, .ref q11, .ref q12, .ref q13, .int 0, .int 0, .ref q14, .ref q15, .ref q16, .int 0, .int 0, .ref q17, .ref q18, .int (-1), .int 0, .ref q19, .int 0, .long 0, .ref q20, .int 0, .int 0, .ref q21, .ref q22, .ref q23, .int 0])), (q1, .inl (cI, 240, .inl (fun _ => 0))), (q2, .inl (cI, 2600, .inl (fun _ => 0))), (q3, .inl (cI, 2600, .inl (fun _ => 0))), (q4, .inl (cI, 5, .inl (fun _ => 0))), (q5, .inl (cI, 5, .inl (fun _ => 0))), (q6, .inl (cI, 700, .inl (fun _ => 0))), (q7, .inl (cI, 700, .inl (fun _ => 0))), (q8, .inl (cI, 700, .inl (fun _ => 0))), (q9, .inl (cI, 6, .inl (fun _ => 0))), (q10, .inl (cI, 80, .inl (fun _ => 0))), (q11, .inl (cI, 3, .inl (fun _ => 0))), (q12, .inl (cI, 24, .inl (fun _ => 0))), (q13, .inl (cI, 20, .inl (fun _ => 0))), (q14, .inl (cI, 3, .inl (fun _ => 0))), (q15, .inl (cI, 24, .inl (fun _ => 0))), (q16, .inl (cI, 20, .inl (fun _ => 0))), (q17, .inl (cI, 97, .inl (fun _ => 0))), (q18, .inl (cI, 5, .inl (fun _ => 0))), (q19, .inl (cI, 3880, .inl (fun _ => 0))), (q20, .inl (cI, 10, .inl (fun _ => 0))), (q21, .inl (cI, 6, .inl (fun _ => 0))), (q22, .inl (cI, 5, .inl (fun _ => 0))), (q23, .inl (cI, 97, .inl (fun _ => 0)))]) (va_A [(h0, .inr (11, [.int 0, .null, .int 0, .int 0, .int 0, .int 0, .null, .null, .null, .null, .null, .null, .null, .int 0, .int 0, .null, .null, .null, .null, .null, .int 0, .int 0, .null, .null, .null, .int 0, .int 0, .null, .null, .int 0, .int 0, .null, .int 0, .long 0, .null, .int 0, .int 0, .null, .null, .null, .int 0]))] sz)) 23 11830 (va_A [(h0, .inr (11, [.int 0, .null, .int 0, .int 0, .int 0, .int 0, .null, .null, .null, .null, .null, .null, .null, .int 0, .int 0, .null, .null, .null, .null, .null, .int 0, .int 0, .null, .null, .null, .int 0, .int 0, .null, .null, .int 0, .int 0, .null, .int 0, .long 0, .null, .int 0, .int 0, .null, .null, .null, .int 0]))] sz) := by
  refine Met.ofW (cc := cX11_init) (maxL := 1) (ret := none) (by decide) rfl ?_
  intro p e s m args below meth c s₁ B hml hv
  obtain ⟨rfl, hsz, hP, hK, hT⟩ := hv
  have hx := B.exec
  have hb := B.bytes
  have hr := B.returns
  have hts : ∀ w ∈ wA, w.before _ s = true := fun w h => atoms_spec (ws := .code yX11_init cX11_init 1 none :: wA) B.pre w (List.mem_cons_of_mem _ h)
  have hown : s.vm.findClass RX11 = some m.cls := findClass_of_methodNamed B.named
  have hlocks := B.notSynchronized
  have hin : meth.name = "<init>" := (name_of_methodNamed B.named B.method).1
  subst hsz
  have hD := hT.self (sz := s.heap.size)
  generalize hAe : va_A [(h0, .inr (11, [.int 0, .null, .int 0, .int 0, .int 0, .int 0, .null, .null, .null, .null, .null, .null, .null, .int 0, .int 0, .null, .null, .null, .null, .null, .int 0, .int 0, .null, .null, .null, .int 0, .int 0, .null, .null, .int 0, .int 0, .null, .int 0, .long 0, .null, .int 0, .int 0, .null, .null, .null, .int 0]))] s.heap.size = A at hD ⊢
  have hA : ∀ q : Nat, s.heap.size ≤ q → A q := fun q h => by rw [← hAe]; exact Or.inr h
  have hl := lv_entry ([.ref h0]) (n := 1) (Nat.le_of_ble_eq_true rfl)
  rw [lg_entry_eq]
  generalize (lg_sl ([.ref h0]) ++ List.replicate (1 - (lg_sl ([.ref h0])).length) Slot.unset).toArray = ls at hl ⊢
  have hl : lv_has ls 1 [(0, .ref h0)] := hl
  refine zstart (fun H hH => ?_)
  rw [← hH] at hP
  have hS : va_S A s.heap H [] := by rw [hH]; exact va_S.rf
  refine lv_aload_n hx hb dX11_init_0 rfl (lv_at hl 0 rfl) ?_
  refine W.objInit hx hb hown (hts _ qw1126) (hts _ qw124) (hts _ qw125) rfl (by rw [hml]; exact hl.1) rfl dX11_init_1 (Nat.le_of_ble_eq_true rfl) (Nat.le_of_ble_eq_true rfl) ?_
  refine W.eq (g2 := F0 m 4 ls []) rfl ?_
  refine lv_aload_n hx hb dX11_init_4 rfl (lv_at hl 0 rfl) ?_
  refine lv_sipush (v := 240) hx hb dX11_init_5 (by decide) ?_
  refine va_newa (atype := .int) (ty := .int) (N' := 240) (a0 := (240, .inl (fun _ => 0))) hx hb (hts _ qw147) rfl hK hP hD hS hA (fun _ => rfl) (by decide) (by decide) (Nat.le_of_ble_eq_true rfl) (Nat.le_of_ble_eq_true rfl) (Nat.le_of_ble_eq_true rfl) dX11_init_8 (fun q1 cA H hK2 hP hD hS => ?_)
  obtain rfl : cI = cA := (zcA hK2 0 2 rfl rfl).symm
  have hP : va_P (dC, dI) vwCl [(h0, .inr (11, [.int 0, .null, .int 0, .int 0, .int 0, .int 0, .null, .null, .null, .null, .null, .null, .null, .int 0, .int 0, .null, .null, .null, .null, .null, .int 0, .int 0, .null, .null, .null, .int 0, .int 0, .null, .null, .int 0, .int 0, .null, .int 0, .long 0, .null, .int 0, .int 0, .null, .null, .null, .int 0])), (q1, .inl (cI, 240, .inl (fun _ => 0)))] H := hP
  have hD : va_D A [(h0, .inr (11, [.int 0, .null, .int 0, .int 0, .int 0, .int 0, .null, .null, .null, .null, .null, .null, .null, .int 0, .int 0, .null, .null, .null, .null, .null, .int 0, .int 0, .null, .null, .null, .int 0, .int 0, .null, .null, .int 0, .int 0, .null, .int 0, .long 0, .null, .int 0, .int 0, .null, .null, .null, .int 0])), (q1, .inl (cI, 240, .inl (fun _ => 0)))] := hD
  refine W.widen (k := 1) (n := 240) (Nat.le_of_ble_eq_true rfl) (Nat.le_of_ble_eq_true rfl) ?_
  refine va_putF (D := (dC, dI)) (ci := 11) (v := .ref q1) (ty := .array .int) (C := RX11) (T := TX11) (N := 41) hx hb hts iX11 tyX11 tyX11_ok nmX11 hown hK hP hD hS 0 rfl rfl 1 (by decide) (hts _ qw1128) (fun _ h9 => h9) rfl hin rfl (by decide +kernel) rfl rfl (Nat.le_of_ble_eq_true rfl) dX11_init_10 (fun H locs hP hD hS => ?_)
  have hP : va_P (dC, dI) vwCl [(h0, .inr (11, [.int 0, .ref q1, .int 0, .int 0, .int 0, .int 0, .null, .null, .null, .null, .null, .null, .null, .int 0, .int 0, .null, .null, .null, .null, .null, .int 0, .int 0, .null, .null, .null, .int 0, .int 0, .null, .null, .int 0, .int 0, .null, .int 0, .long 0, .null, .int 0, .int 0, .null, .null, .null, .int 0])), (q1, .inl (cI, 240, .inl (fun _ => 0)))] H := hP
  have hD : va_D A [(h0, .inr (11, [.int 0, .ref q1, .int 0, .int 0, .int 0, .int 0, .null, .null, .null, .null, .null, .null, .null, .int 0, .int 0, .null, .null, .null, .null, .null, .int 0, .int 0, .null, .null, .null, .int 0, .int 0, .null, .null, .int 0, .int 0, .null, .int 0, .long 0, .null, .int 0, .int 0, .null, .null, .null, .int 0])), (q1, .inl (cI, 240, .inl (fun _ => 0)))] := hD
  refine lv_aload_n hx hb dX11_init_13 rfl (lv_at hl 0 rfl) ?_
  refine lv_sipush (v := 2600) hx hb dX11_init_14 (by decide) ?_
  refine va_newa (atype := .int) (ty := .int) (N' := 2600) (a0 := (2600, .inl (fun _ => 0))) hx hb (hts _ qw147) rfl hK hP hD hS hA (fun _ => rfl) (by decide) (by decide) (Nat.le_of_ble_eq_true rfl) (Nat.le_of_ble_eq_true rfl) (Nat.le_of_ble_eq_true rfl) dX11_init_17 (fun q2 cA H hK2 hP hD hS => ?_)
  obtain rfl : cI = cA := (zcA hK2 0 2 rfl rfl).symm
  have hP : va_P (dC, dI) vwCl [(h0, .inr (11, [.int 0, .ref q1, .int 0, .int 0, .int 0, .int 0, .null, .null, .null, .null, .null, .null, .null, .int 0, .int 0, .null, .null, .null, .null, .null, .int 0, .int 0, .null, .null, .null, .int 0, .int 0, .null, .null, .int 0, .int 0, .null, .int 0, .long 0, .null, .int 0, .int 0, .null, .null, .null, .int 0])), (q1, .inl (cI, 240, .inl (fun _ => 0))), (q2, .inl (cI, 2600, .inl (fun _ => 0)))] H := hP
  have hD : va_D A [(h0, .inr (11, [.int 0, .ref q1, .int 0, .int 0, .int 0, .int 0, .null, .null, .null, .null, .null, .null, .null, .int 0, .int 0, .null, .null, .null, .null, .null, .int 0, .int 0, .null, .null, .null, .int 0, .int 0, .null, .null, .int 0, .int 0, .null, .int 0, .long 0, .null, .int 0, .int 0, .null, .null, .null, .int 0])), (q1, .inl (cI, 240, .inl (fun _ => 0))), (q2, .inl (cI, 2600, .inl (fun _ => 0)))] := hD
  refine W.widen (k := 2) (n := 2840) (Nat.le_of_ble_eq_true rfl) (Nat.le_of_ble_eq_true rfl) ?_
  refine va_putF (D := (dC, dI)) (ci := 11) (v := .ref q2) (ty := .array .int) (C := RX11) (T := TX11) (N := 41) hx hb hts iX11 tyX11 tyX11_ok nmX11 hown hK hP hD hS 0 rfl rfl 6 (by decide) (hts _ qw1133) (fun _ h9 => h9) rfl hin rfl (by decide +kernel) rfl rfl (Nat.le_of_ble_eq_true rfl) dX11_init_19 (fun H locs hP hD hS => ?_)
  have hP : va_P (dC, dI) vwCl [(h0, .inr (11, [.int 0, .ref q1, .int 0, .int 0, .int 0, .int 0, .ref q2, .null, .null, .null, .null, .null, .null, .int 0, .int 0, .null, .null, .null, .null, .null, .int 0, .int 0, .null, .null, .null, .int 0, .int 0, .null, .null, .int 0, .int 0, .null, .int 0, .long 0, .null, .int 0, .int 0, .null, .null, .null, .int 0])), (q1, .inl (cI, 240, .inl (fun _ => 0))), (q2, .inl (cI, 2600, .inl (fun _ => 0)))] H := hP
  have hD : va_D A [(h0, .inr (11, [.int 0, .ref q1, .int 0, .int 0, .int 0, .int 0, .ref q2, .null, .null, .null, .null, .null, .null, .int 0, .int 0, .null, .null, .null, .null, .null, .int 0, .int 0, .null, .null, .null, .int 0, .int 0, .null, .null, .int 0, .int 0, .null, .int 0, .long 0, .null, .int 0, .int 0, .null, .null, .null, .int 0])), (q1, .inl (cI, 240, .inl (fun _ => 0))), (q2, .inl (cI, 2600, .inl (fun _ => 0)))] := hD
  refine lv_aload_n hx hb dX11_init_22 rfl (lv_at hl 0 rfl) ?_
  refine lv_sipush (v := 2600) hx hb dX11_init_23 (by decide) ?_
  refine va_newa (atype := .int) (ty := .int) (N' := 2600) (a0 := (2600, .inl (fun _ => 0))) hx hb (hts _ qw147) rfl hK hP hD hS hA (fun _ => rfl) (by decide) (by decide) (Nat.le_of_ble_eq_true rfl) (Nat.le_of_ble_eq_true rfl) (Nat.le_of_ble_eq_true rfl) dX11_init_26 (fun q3 cA H hK2 hP hD hS => ?_)
  obtain rfl : cI = cA := (zcA hK2 0 2 rfl rfl).symm
  have hP : va_P (dC, dI) vwCl [(h0, .inr (11, [.int 0, .ref q1, .int 0, .int 0, .int 0, .int 0, .ref q2, .null, .null, .null, .null, .null, .null, .int 0, .int 0, .null, .null, .null, .null, .null, .int 0, .int 0, .null, .null, .null, .int 0, .int 0, .null, .null, .int 0, .int 0, .null, .int 0, .long 0, .null, .int 0, .int 0, .null, .null, .null, .int 0])), (q1, .inl (cI, 240, .inl (fun _ => 0))), (q2, .inl (cI, 2600, .inl (fun _ => 0))), (q3, .inl (cI, 2600, .inl (fun _ => 0)))] H := hP
  have hD : va_D A [(h0, .inr (11, [.int 0, .ref q1, .int 0, .int 0, .int 0, .int 0, .ref q2, .null, .null, .null, .null, .null, .null, .int 0, .int 0, .null, .null, .null, .null, .null, .int 0, .int 0, .null, .null, .null, .int 0, .int 0, .null, .null, .int 0, .int 0, .null, .int 0, .long 0, .null, .int 0, .int 0, .null, .null, .null, .int 0])), (q1, .inl (cI, 240, .inl (fun _ => 0))), (q2, .inl (cI, 2600, .inl (fun _ => 0))), (q3, .inl (cI, 2600, .inl (fun _ => 0)))] := hD
  refine W.widen (k := 3) (n := 5440) (Nat.le_of_ble_eq_true rfl) (Nat.le_of_ble_eq_true rfl) ?_
  refine va_putF (D := (dC, dI)) (ci := 11) (v := .ref q3) (ty := .array .int) (C := RX11) (T := TX11) (N := 41) hx hb hts iX11 tyX11 tyX11_ok nmX11 hown hK hP hD hS 0 rfl rfl 7 (by decide) (hts _ qw1134) (fun _ h9 => h9) rfl hin rfl (by decide +kernel) rfl rfl (Nat.le_of_ble_eq_true rfl) dX11_init_28 (fun H locs hP hD hS => ?_)
  have hP : va_P (dC, dI) vwCl [(h0, .inr (11, [.int 0, .ref q1, .int 0, .int 0, .int 0, .int 0, .ref q2, .ref q3, .null, .null, .null, .null, .null, .int 0, .int 0, .null, .null, .null, .null, .null, .int 0, .int 0, .null, .null, .null, .int 0, .int 0, .null, .null, .int 0, .int 0, .null, .int 0, .long 0, .null, .int 0, .int 0, .null, .null, .null, .int 0])), (q1, .inl (cI, 240, .inl (fun _ => 0))), (q2, .inl (cI, 2600, .inl (fun _ => 0))), (q3, .inl (cI, 2600, .inl (fun _ => 0)))] H := hP
  have hD : va_D A [(h0, .inr (11, [.int 0, .ref q1, .int 0, .int 0, .int 0, .int 0, .ref q2, .ref q3, .null, .null, .null, .null, .null, .int 0, .int 0, .null, .null, .null, .null, .null, .int 0, .int 0, .null, .null, .null, .int 0, .int 0, .null, .null, .int 0, .int 0, .null, .int 0, .long 0, .null, .int 0, .int 0, .null, .null, .null, .int 0])), (q1, .inl (cI, 240, .inl (fun _ => 0))), (q2, .inl (cI, 2600, .inl (fun _ => 0))), (q3, .inl (cI, 2600, .inl (fun _ => 0)))] := hD
  refine lv_aload_n hx hb dX11_init_31 rfl (lv_at hl 0 rfl) ?_
  refine lv_iconst (v := 5) hx hb dX11_init_32 (by decide) ?_
  refine va_newa (atype := .int) (ty := .int) (N' := 5) (a0 := (5, .inl (fun _ => 0))) hx hb (hts _ qw147) rfl hK hP hD hS hA (fun _ => rfl) (by decide) (by decide) (Nat.le_of_ble_eq_true rfl) (Nat.le_of_ble_eq_true rfl) (Nat.le_of_ble_eq_true rfl) dX11_init_33 (fun q4 cA H hK2 hP hD hS => ?_)
  obtain rfl : cI = cA := (zcA hK2 0 2 rfl rfl).symm
  have hP : va_P (dC, dI) vwCl [(h0, .inr (11, [.int 0, .ref q1, .int 0, .int 0, .int 0, .int 0, .ref q2, .ref q3, .null, .null, .null, .null, .null, .int 0, .int 0, .null, .null, .null, .null, .null, .int 0, .int 0, .null, .null, .null, .int 0, .int 0, .null, .null, .int 0, .int 0, .null, .int 0, .long 0, .null, .int 0, .int 0, .null, .null, .null, .int 0])), (q1, .inl (cI, 240, .inl (fun _ => 0))), (q2, .inl (cI, 2600, .inl (fun _ => 0))), (q3, .inl (cI, 2600, .inl (fun _ => 0))), (q4, .inl (cI, 5, .inl (fun _ => 0)))] H := hP
  have hD : va_D A [(h0, .inr (11, [.int 0, .ref q1, .int 0, .int 0, .int 0, .int 0, .ref q2, .ref q3, .null, .null, .null, .null, .null, .int 0, .int 0, .null, .null, .null, .null, .null, .int 0, .int 0, .null, .null, .null, .int 0, .int 0, .null, .null, .int 0, .int 0, .null, .int 0, .long 0, .null, .int 0, .int 0, .null, .null, .null, .int 0])), (q1, .inl (cI, 240, .inl (fun _ => 0))), (q2, .inl (cI, 2600, .inl (fun _ => 0))), (q3, .inl (cI, 2600, .inl (fun _ => 0))), (q4, .inl (cI, 5, .inl (fun _ => 0)))] := hD
  refine W.widen (k := 4) (n := 5445) (Nat.le_of_ble_eq_true rfl) (Nat.le_of_ble_eq_true rfl) ?_
  refine va_putF (D := (dC, dI)) (ci := 11) (v := .ref q4) (ty := .array .int) (C := RX11) (T := TX11) (N := 41) hx hb hts iX11 tyX11 tyX11_ok nmX11 hown hK hP hD hS 0 rfl rfl 8 (by decide) (hts _ qw1135) (fun _ h9 => h9) rfl hin rfl (by decide +kernel) rfl rfl (Nat.le_of_ble_eq_true rfl) dX11_init_35 (fun H locs hP hD hS => ?_)
  have hP : va_P (dC, dI) vwCl [(h0, .inr (11, [.int 0, .ref q1, .int 0, .int 0, .int 0, .int 0, .ref q2, .ref q3, .ref q4, .null, .null, .null, .null, .int 0, .int 0, .null, .null, .null, .null, .null, .int 0, .int 0, .null, .null, .null, .int 0, .int 0, .null, .null, .int 0, .int 0, .null, .int 0, .long 0, .null, .int 0, .int 0, .null, .null, .null, .int 0])), (q1, .inl (cI, 240, .inl (fun _ => 0))), (q2, .inl (cI, 2600, .inl (fun _ => 0))), (q3, .inl (cI, 2600, .inl (fun _ => 0))), (q4, .inl (cI, 5, .inl (fun _ => 0)))] H := hP
  have hD : va_D A [(h0, .inr (11, [.int 0, .ref q1, .int 0, .int 0, .int 0, .int 0, .ref q2, .ref q3, .ref q4, .null, .null, .null, .null, .int 0, .int 0, .null, .null, .null, .null, .null, .int 0, .int 0, .null, .null, .null, .int 0, .int 0, .null, .null, .int 0, .int 0, .null, .int 0, .long 0, .null, .int 0, .int 0, .null, .null, .null, .int 0])), (q1, .inl (cI, 240, .inl (fun _ => 0))), (q2, .inl (cI, 2600, .inl (fun _ => 0))), (q3, .inl (cI, 2600, .inl (fun _ => 0))), (q4, .inl (cI, 5, .inl (fun _ => 0)))] := hD
  refine lv_aload_n hx hb dX11_init_38 rfl (lv_at hl 0 rfl) ?_
  refine lv_iconst (v := 5) hx hb dX11_init_39 (by decide) ?_
  refine va_newa (atype := .int) (ty := .int) (N' := 5) (a0 := (5, .inl (fun _ => 0))) hx hb (hts _ qw147) rfl hK hP hD hS hA (fun _ => rfl) (by decide) (by decide) (Nat.le_of_ble_eq_true rfl) (Nat.le_of_ble_eq_true rfl) (Nat.le_of_ble_eq_true rfl) dX11_init_40 (fun q5 cA H hK2 hP hD hS => ?_)
  obtain rfl : cI = cA := (zcA hK2 0 2 rfl rfl).symm
  have hP : va_P (dC, dI) vwCl [(h0, .inr (11, [.int 0, .ref q1, .int 0, .int 0, .int 0, .int 0, .ref q2, .ref q3, .ref q4, .null, .null, .null, .null, .int 0, .int 0, .null, .null, .null, .null, .null, .int 0, .int 0, .null, .null, .null, .int 0, .int 0, .null, .null, .int 0, .int 0, .null, .int 0, .long 0, .null, .int 0, .int 0, .null, .null, .null, .int 0])), (q1, .inl (cI, 240, .inl (fun _ => 0))), (q2, .inl (cI, 2600, .inl (fun _ => 0))), (q3, .inl (cI, 2600, .inl (fun _ => 0))), (q4, .inl (cI, 5, .inl (fun _ => 0))), (q5, .inl (cI, 5, .inl (fun _ => 0)))] H := hP
  have hD : va_D A [(h0, .inr (11, [.int 0, .ref q1, .int 0, .int 0, .int 0, .int 0, .ref q2, .ref q3, .ref q4, .null, .null, .null, .null, .int 0, .int 0, .null, .null, .null, .null, .null, .int 0, .int 0, .null, .null, .null, .int 0, .int 0, .null, .null, .int 0, .int 0, .null, .int 0, .long 0, .null, .int 0, .int 0, .null, .null, .null, .int 0])), (q1, .inl (cI, 240, .inl (fun _ => 0))), (q2, .inl (cI, 2600, .inl (fun _ => 0))), (q3, .inl (cI, 2600, .inl (fun _ => 0))), (q4, .inl (cI, 5, .inl (fun _ => 0))), (q5, .inl (cI, 5, .inl (fun _ => 0)))] := hD
  refine W.widen (k := 5) (n := 5450) (Nat.le_of_ble_eq_true rfl) (Nat.le_of_ble_eq_true rfl) ?_
  refine va_putF (D := (dC, dI)) (ci := 11) (v := .ref q5) (ty := .array .int) (C := RX11) (T := TX11) (N := 41) hx hb hts iX11 tyX11 tyX11_ok nmX11 hown hK hP hD hS 0 rfl rfl 9 (by decide) (hts _ qw1136) (fun _ h9 => h9) rfl hin rfl (by decide +kernel) rfl rfl (Nat.le_of_ble_eq_true rfl) dX11_init_42 (fun H locs hP hD hS => ?_)
  have hP : va_P (dC, dI) vwCl [(h0, .inr (11, [.int 0, .ref q1, .int 0, .int 0, .int 0, .int 0, .ref q2, .ref q3, .ref q4, .ref q5, .null, .null, .null, .int 0, .int 0, .null, .null, .null, .null, .null, .int 0, .int 0, .null, .null, .null, .int 0, .int 0, .null, .null, .int 0, .int 0, .null, .int 0, .long 0, .null, .int 0, .int 0, .null, .null, .null, .int 0])), (q1, .inl (cI, 240, .inl (fun _ => 0))), (q2, .inl (cI, 2600, .inl (fun _ => 0))), (q3, .inl (cI, 2600, .inl (fun _ => 0))), (q4, .inl (cI, 5, .inl (fun _ => 0))), (q5, .inl (cI, 5, .inl (fun _ => 0)))] H := hP
  have hD : va_D A [(h0, .inr (11, [.int 0, .ref q1, .int 0, .int 0, .int 0, .int 0, .ref q2, .ref q3, .ref q4, .ref q5, .null, .null, .null, .int 0, .int 0, .null, .null, .null, .null, .null, .int 0, .int 0, .null, .null, .null, .int 0, .int 0, .null, .null, .int 0, .int 0, .null, .int 0, .long 0, .null, .int 0, .int 0, .null, .null, .null, .int 0])), (q1, .inl (cI, 240, .inl (fun _ => 0))), (q2, .inl (cI, 2600, .inl (fun _ => 0))), (q3, .inl (cI, 2600, .inl (fun _ => 0))), (q4, .inl (cI, 5, .inl (fun _ => 0))), (q5, .inl (cI, 5, .inl (fun _ => 0)))] := hD
  refine lv_aload_n hx hb dX11_init_45 rfl (lv_at hl 0 rfl) ?_
  refine lv_sipush (v := 700) hx hb dX11_init_46 (by decide) ?_
  refine va_newa (atype := .int) (ty := .int) (N' := 700) (a0 := (700, .inl (fun _ => 0))) hx hb (hts _ qw147) rfl hK hP hD hS hA (fun _ => rfl) (by decide) (by decide) (Nat.le_of_ble_eq_true rfl) (Nat.le_of_ble_eq_true rfl) (Nat.le_of_ble_eq_true rfl) dX11_init_49 (fun q6 cA H hK2 hP hD hS => ?_)
  obtain rfl : cI = cA := (zcA hK2 0 2 rfl rfl).symm
  have hP : va_P (dC, dI) vwCl [(h0, .inr (11, [.int 0, .ref q1, .int 0, .int 0, .int 0, .int 0, .ref q2, .ref q3, .ref q4, .ref q5, .null, .null, .null, .int 0, .int 0, .null, .null, .null, .null, .null, .int 0, .int 0, .null, .null, .null, .int 0, .int 0, .null, .null, .int 0, .int 0, .null, .int 0, .long 0, .null, .int 0, .int 0, .null, .null, .null, .int 0])), (q1, .inl (cI, 240, .inl (fun _ => 0))), (q2, .inl (cI, 2600, .inl (fun _ => 0))), (q3, .inl (cI, 2600, .inl (fun _ => 0))), (q4, .inl (cI, 5, .inl (fun _ => 0))), (q5, .inl (cI, 5, .inl (fun _ => 0))), (q6, .inl (cI, 700, .inl (fun _ => 0)))] H := hP
  have hD : va_D A [(h0, .inr (11, [.int 0, .ref q1, .int 0, .int 0, .int 0, .int 0, .ref q2, .ref q3, .ref q4, .ref q5, .null, .null, .null, .int 0, .int 0, .null, .null, .null, .null, .null, .int 0, .int 0, .null, .null, .null, .int 0, .int 0, .null, .null, .int 0, .int 0, .null, .int 0, .long 0, .null, .int 0, .int 0, .null, .null, .null, .int 0])), (q1, .inl (cI, 240, .inl (fun _ => 0))), (q2, .inl (cI, 2600, .inl (fun _ => 0))), (q3, .inl (cI, 2600, .inl (fun _ => 0))), (q4, .inl (cI, 5, .inl (fun _ => 0))), (q5, .inl (cI, 5, .inl (fun _ => 0))), (q6, .inl (cI, 700, .inl (fun _ => 0)))] := hD
  refine W.widen (k := 6) (n := 6150) (Nat.le_of_ble_eq_true rfl) (Nat.le_of_ble_eq_true rfl) ?_
  refine va_putF (D := (dC, dI)) (ci := 11) (v := .ref q6) (ty := .array .int) (C := RX11) (T := TX11) (N := 41) hx hb hts iX11 tyX11 tyX11_ok nmX11 hown hK hP hD hS 0 rfl rfl 10 (by decide) (hts _ qw1137) (fun _ h9 => h9) rfl hin rfl (by decide +kernel) rfl rfl (Nat.le_of_ble_eq_true rfl) dX11_init_51 (fun H locs hP hD hS => ?_)
  have hP : va_P (dC, dI) vwCl [(h0, .inr (11, [.int 0, .ref q1, .int 0, .int 0, .int 0, .int 0, .ref q2, .ref q3, .ref q4, .ref q5, .ref q6, .null, .null, .int 0, .int 0, .null, .null, .null, .null, .null, .int 0, .int 0, .null, .null, .null, .int 0, .int 0, .null, .null, .int 0, .int 0, .null, .int 0, .long 0, .null, .int 0, .int 0, .null, .null, .null, .int 0])), (q1, .inl (cI, 240, .inl (fun _ => 0))), (q2, .inl (cI, 2600, .inl (fun _ => 0))), (q3, .inl (cI, 2600, .inl (fun _ => 0))), (q4, .inl (cI, 5, .inl (fun _ => 0))), (q5, .inl (cI, 5, .inl (fun _ => 0))), (q6, .inl (cI, 700, .inl (fun _ => 0)))] H := hP
  have hD : va_D A [(h0, .inr (11, [.int 0, .ref q1, .int 0, .int 0, .int 0, .int 0, .ref q2, .ref q3, .ref q4, .ref q5, .ref q6, .null, .null, .int 0, .int 0, .null, .null, .null, .null, .null, .int 0, .int 0, .null, .null, .null, .int 0, .int 0, .null, .null, .int 0, .int 0, .null, .int 0, .long 0, .null, .int 0, .int 0, .null, .null, .null, .int 0])), (q1, .inl (cI, 240, .inl (fun _ => 0))), (q2, .inl (cI, 2600, .inl (fun _ => 0))), (q3, .inl (cI, 2600, .inl (fun _ => 0))), (q4, .inl (cI, 5, .inl (fun _ => 0))), (q5, .inl (cI, 5, .inl (fun _ => 0))), (q6, .inl (cI, 700, .inl (fun _ => 0)))] := hD
  refine lv_aload_n hx hb dX11_init_54 rfl (lv_at hl 0 rfl) ?_
  refine lv_sipush (v := 700) hx hb dX11_init_55 (by decide) ?_
  refine va_newa (atype := .int) (ty := .int) (N' := 700) (a0 := (700, .inl (fun _ => 0))) hx hb (hts _ qw147) rfl hK hP hD hS hA (fun _ => rfl) (by decide) (by decide) (Nat.le_of_ble_eq_true rfl) (Nat.le_of_ble_eq_true rfl) (Nat.le_of_ble_eq_true rfl) dX11_init_58 (fun q7 cA H hK2 hP hD hS => ?_)
  obtain rfl : cI = cA := (zcA hK2 0 2 rfl rfl).symm
  have hP : va_P (dC, dI) vwCl [(h0, .inr (11, [.int 0, .ref q1, .int 0, .int 0, .int 0, .int 0, .ref q2, .ref q3, .ref q4, .ref q5, .ref q6, .null, .null, .int 0, .int 0, .null, .null, .null, .null, .null, .int 0, .int 0, .null, .null, .null, .int 0, .int 0, .null, .null, .int 0, .int 0, .null, .int 0, .long 0, .null, .int 0, .int 0, .null, .null, .null, .int 0])), (q1, .inl (cI, 240, .inl (fun _ => 0))), (q2, .inl (cI, 2600, .inl (fun _ => 0))), (q3, .inl (cI, 2600, .inl (fun _ => 0))), (q4, .inl (cI, 5, .inl (fun _ => 0))), (q5, .inl (cI, 5, .inl (fun _ => 0))), (q6, .inl (cI, 700, .inl (fun _ => 0))), (q7, .inl (cI, 700, .inl (fun _ => 0)))] H := hP
  have hD : va_D A [(h0, .inr (11, [.int 0, .ref q1, .int 0, .int 0, .int 0, .int 0, .ref q2, .ref q3, .ref q4, .ref q5, .ref q6, .null, .null, .int 0, .int 0, .null, .null, .null, .null, .null, .int 0, .int 0, .null, .null, .null, .int 0, .int 0, .null, .null, .int 0, .int 0, .null, .int 0, .long 0, .null, .int 0, .int 0, .null, .null, .null, .int 0])), (q1, .inl (cI, 240, .inl (fun _ => 0))), (q2, .inl (cI, 2600, .inl (fun _ => 0))), (q3, .inl (cI, 2600, .inl (fun _ => 0))), (q4, .inl (cI, 5, .inl (fun _ => 0))), (q5, .inl (cI, 5, .inl (fun _ => 0))), (q6, .inl (cI, 700, .inl (fun _ => 0))), (q7, .inl (cI, 700, .inl (fun _ => 0)))] := hD
  refine W.widen (k := 7) (n := 6850) (Nat.le_of_ble_eq_true rfl) (Nat.le_of_ble_eq_true rfl) ?_
  refine va_putF (D := (dC, dI)) (ci := 11) (v := .ref q7) (ty := .array .int) (C := RX11) (T := TX11) (N := 41) hx hb hts iX11 tyX11 tyX11_ok nmX11 hown hK hP hD hS 0 rfl rfl 11 (by decide) (hts _ qw1138) (fun _ h9 => h9) rfl hin rfl (by decide +kernel) rfl rfl (Nat.le_of_ble_eq_true rfl) dX11_init_60 (fun H locs hP hD hS => ?_)
  have hP : va_P (dC, dI) vwCl [(h0, .inr (11, [.int 0, .ref q1, .int 0, .int 0, .int 0, .int 0, .ref q2, .ref q3, .ref q4, .ref q5, .ref q6, .ref q7, .null, .int 0, .int 0, .null, .null, .null, .null, .null, .int 0, .int 0, .null, .null, .null, .int 0, .int 0, .null, .null, .int 0, .int 0, .null, .int 0, .long 0, .null, .int 0, .int 0, .null, .null, .null, .int 0])), (q1, .inl (cI, 240, .inl (fun _ => 0))), (q2, .inl (cI, 2600, .inl (fun _ => 0))), (q3, .inl (cI, 2600, .inl (fun _ => 0))), (q4, .inl (cI, 5, .inl (fun _ => 0))), (q5, .inl (cI, 5, .inl (fun _ => 0))), (q6, .inl (cI, 700, .inl (fun _ => 0))), (q7, .inl (cI, 700, .inl (fun _ => 0)))] H := hP
  have hD : va_D A [(h0, .inr (11, [.int 0, .ref q1, .int 0, .int 0, .int 0, .int 0, .ref q2, .ref q3, .ref q4, .ref q5, .ref q6, .ref q7, .null, .int 0, .int 0, .null, .null, .null, .null, .null, .int 0, .int 0, .null, .null, .null, .int 0, .int 0, .null, .null, .int 0, .int 0, .null, .int 0, .long 0, .null, .int 0, .int 0, .null, .null, .null, .int 0])), (q1, .inl (cI, 240, .inl (fun _ => 0))), (q2, .inl (cI, 2600, .inl (fun _ => 0))), (q3, .inl (cI, 2600, .inl (fun _ => 0))), (q4, .inl (cI, 5, .inl (fun _ => 0))), (q5, .inl (cI, 5, .inl (fun _ => 0))), (q6, .inl (cI, 700, .inl (fun _ => 0))), (q7, .inl (cI, 700, .inl (fun _ => 0)))] := hD
  refine lv_aload_n hx hb dX11_init_63 rfl (lv_at hl 0 rfl) ?_
  refine lv_sipush (v := 700) hx hb dX11_init_64 (by decide) ?_
  refine va_newa (atype := .int) (ty := .int) (N' := 700) (a0 := (700, .inl (fun _ => 0))) hx hb (hts _ qw147) rfl hK hP hD hS hA (fun _ => rfl) (by decide) (by decide) (Nat.le_of_ble_eq_true rfl) (Nat.le_of_ble_eq_true rfl) (Nat.le_of_ble_eq_true rfl) dX11_init_67 (fun q8 cA H hK2 hP hD hS => ?_)
  obtain rfl : cI = cA := (zcA hK2 0 2 rfl rfl).symm
  have hP : va_P (dC, dI) vwCl [(h0, .inr (11, [.int 0, .ref q1, .int 0, .int 0, .int 0, .int 0, .ref q2, .ref q3, .ref q4, .ref q5, .ref q6, .ref q7, .null, .int 0, .int 0, .null, .null, .null, .null, .null, .int 0, .int 0, .null, .null, .null, .int 0, .int 0, .null, .null, .int 0, .int 0, .null, .int 0, .long 0, .null, .int 0, .int 0, .null, .null, .null, .int 0])), (q1, .inl (cI, 240, .inl (fun _ => 0))), (q2, .inl (cI, 2600, .inl (fun _ => 0))), (q3, .inl (cI, 2600, .inl (fun _ => 0))), (q4, .inl (cI, 5, .inl (fun _ => 0))), (q5, .inl (cI, 5, .inl (fun _ => 0))), (q6, .inl (cI, 700, .inl (fun _ => 0))), (q7, .inl (cI, 700, .inl (fun _ => 0))), (q8, .inl (cI, 700, .inl (fun _ => 0)))] H := hP
  have hD : va_D A [(h0, .inr (11, [.int 0, .ref q1, .int 0, .int 0, .int 0, .int 0, .ref q2, .ref q3, .ref q4, .ref q5, .ref q6, .ref q7, .null, .int 0, .int 0, .null, .null, .null, .null, .null, .int 0, .int 0, .null, .null, .null, .int 0, .int 0, .null, .null, .int 0, .int 0, .null, .int 0, .long 0, .null, .int 0, .int 0, .null, .null, .null, .int 0])), (q1, .inl (cI, 240, .inl (fun _ => 0))), (q2, .inl (cI, 2600, .inl (fun _ => 0))), (q3, .inl (cI, 2600, .inl (fun _ => 0))), (q4, .inl (cI, 5, .inl (fun _ => 0))), (q5, .inl (cI, 5, .inl (fun _ => 0))), (q6, .inl (cI, 700, .inl (fun _ => 0))), (q7, .inl (cI, 700, .inl (fun _ => 0))), (q8, .inl (cI, 700, .inl (fun _ => 0)))] := hD
  refine W.widen (k := 8) (n := 7550) (Nat.le_of_ble_eq_true rfl) (Nat.le_of_ble_eq_true rfl) ?_
  refine va_putF (D := (dC, dI)) (ci := 11) (v := .ref q8) (ty := .array .int) (C := RX11) (T := TX11) (N := 41) hx hb hts iX11 tyX11 tyX11_ok nmX11 hown hK hP hD hS 0 rfl rfl 12 (by decide) (hts _ qw1139) (fun _ h9 => h9) rfl hin rfl (by decide +kernel) rfl rfl (Nat.le_of_ble_eq_true rfl) dX11_init_69 (fun H locs hP hD hS => ?_)
  have hP : va_P (dC, dI) vwCl [(h0, .inr (11, [.int 0, .ref q1, .int 0, .int 0, .int 0, .int 0, .ref q2, .ref q3, .ref q4, .ref q5, .ref q6, .ref q7, .ref q8, .int 0, .int 0, .null, .null, .null, .null, .null, .int 0, .int 0, .null, .null, .null, .int 0, .int 0, .null, .null, .int 0, .int 0, .null, .int 0, .long 0, .null, .int 0, .int 0, .null, .null, .null, .int 0])), (q1, .inl (cI, 240, .inl (fun _ => 0))), (q2, .inl (cI, 2600, .inl (fun _ => 0))), (q3, .inl (cI, 2600, .inl (fun _ => 0))), (q4, .inl (cI, 5, .inl (fun _ => 0))), (q5, .inl (cI, 5, .inl (fun _ => 0))), (q6, .inl (cI, 700, .inl (fun _ => 0))), (q7, .inl (cI, 700, .inl (fun _ => 0))), (q8, .inl (cI, 700, .inl (fun _ => 0)))] H := hP
  have hD : va_D A [(h0, .inr (11, [.int 0, .ref q1, .int 0, .int 0, .int 0, .int 0, .ref q2, .ref q3, .ref q4, .ref q5, .ref q6, .ref q7, .ref q8, .int 0, .int 0, .null, .null, .null, .null, .null, .int 0, .int 0, .null, .null, .null, .int 0, .int 0, .null, .null, .int 0, .int 0, .null, .int 0, .long 0, .null, .int 0, .int 0, .null, .null, .null, .int 0])), (q1, .inl (cI, 240, .inl (fun _ => 0))), (q2, .inl (cI, 2600, .inl (fun _ => 0))), (q3, .inl (cI, 2600, .inl (fun _ => 0))), (q4, .inl (cI, 5, .inl (fun _ => 0))), (q5, .inl (cI, 5, .inl (fun _ => 0))), (q6, .inl (cI, 700, .inl (fun _ => 0))), (q7, .inl (cI, 700, .inl (fun _ => 0))), (q8, .inl (cI, 700, .inl (fun _ => 0)))] := hD
  refine lv_aload_n hx hb dX11_init_72 rfl (lv_at hl 0 rfl) ?_
  refine lv_bipush (v := 6) hx hb dX11_init_73 (by decide) ?_
  refine va_newa (atype := .int) (ty := .int) (N' := 6) (a0 := (6, .inl (fun _ => 0))) hx hb (hts _ qw147) rfl hK hP hD hS hA (fun _ => rfl) (by decide) (by decide) (Nat.le_of_ble_eq_true rfl) (Nat.le_of_ble_eq_true rfl) (Nat.le_of_ble_eq_true rfl) dX11_init_75 (fun q9 cA H hK2 hP hD hS => ?_)
  obtain rfl : cI = cA := (zcA hK2 0 2 rfl rfl).symm
  have hP : va_P (dC, dI) vwCl [(h0, .inr (11, [.int 0, .ref q1, .int 0, .int 0, .int 0, .int 0, .ref q2, .ref q3, .ref q4, .ref q5, .ref q6, .ref q7, .ref q8, .int 0, .int 0, .null, .null, .null, .null, .null, .int 0, .int 0, .null, .null, .null, .int 0, .int 0, .null, .null, .int 0, .int 0, .null, .int 0, .long 0, .null, .int 0, .int 0, .null, .null, .null, .int 0])), (q1, .inl (cI, 240, .inl (fun _ => 0))), (q2, .inl (cI, 2600, .inl (fun _ => 0))), (q3, .inl (cI, 2600, .inl (fun _ => 0))), (q4, .inl (cI, 5, .inl (fun _ => 0))), (q5, .inl (cI, 5, .inl (fun _ => 0))), (q6, .inl (cI, 700, .inl (fun _ => 0))), (q7, .inl (cI, 700, .inl (fun _ => 0))), (q8, .inl (cI, 700, .inl (fun _ => 0))), (q9, .inl (cI, 6, .inl (fun _ => 0)))] H := hP
  have hD : va_D A [(h0, .inr (11, [.int 0, .ref q1, .int 0, .int 0, .int 0, .int 0, .ref q2, .ref q3, .ref q4, .ref q5, .ref q6, .ref q7, .ref q8, .int 0, .int 0, .null, .null, .null, .null, .null, .int 0, .int 0, .null, .null, .null, .int 0, .int 0, .null, .null, .int 0, .int 0, .null, .int 0, .long 0, .null, .int 0, .int 0, .null, .null, .null, .int 0])), (q1, .inl (cI, 240, .inl (fun _ => 0))), (q2, .inl (cI, 2600, .inl (fun _ => 0))), (q3, .inl (cI, 2600, .inl (fun _ => 0))), (q4, .inl (cI, 5, .inl (fun _ => 0))), (q5, .inl (cI, 5, .inl (fun _ => 0))), (q6, .inl (cI, 700, .inl (fun _ => 0))), (q7, .inl (cI, 700, .inl (fun _ => 0))), (q8, .inl (cI, 700, .inl (fun _ => 0))), (q9, .inl (cI, 6, .inl (fun _ => 0)))] := hD
  refine W.widen (k := 9) (n := 7556) (Nat.le_of_ble_eq_true rfl) (Nat.le_of_ble_eq_true rfl) ?_
  refine va_putF (D := (dC, dI)) (ci := 11) (v := .ref q9) (ty := .array .int) (C := RX11) (T := TX11) (N := 41) hx hb hts iX11 tyX11 tyX11_ok nmX11 hown hK hP hD hS 0 rfl rfl 15 (by decide) (hts _ qw1142) (fun _ h9 => h9) rfl hin rfl (by decide +kernel) rfl rfl (Nat.le_of_ble_eq_true rfl) dX11_init_77 (fun H locs hP hD hS => ?_)
  have hP : va_P (dC, dI) vwCl [(h0, .inr (11, [.int 0, .ref q1, .int 0, .int 0, .int 0, .int 0, .ref q2, .ref q3, .ref q4, .ref q5, .ref q6, .ref q7, .ref q8, .int 0, .int 0, .ref q9, .null, .null, .null, .null, .int 0, .int 0, .null, .null, .null, .int 0, .int 0, .null, .null, .int 0, .int 0, .null, .int 0, .long 0, .null, .int 0, .int 0, .null, .null, .null, .int 0])), (q1, .inl (cI, 240, .inl (fun _ => 0))), (q2, .inl (cI, 2600, .inl (fun _ => 0))), (q3, .inl (cI, 2600, .inl (fun _ => 0))), (q4, .inl (cI, 5, .inl (fun _ => 0))), (q5, .inl (cI, 5, .inl (fun _ => 0))), (q6, .inl (cI, 700, .inl (fun _ => 0))), (q7, .inl (cI, 700, .inl (fun _ => 0))), (q8, .inl (cI, 700, .inl (fun _ => 0))), (q9, .inl (cI, 6, .inl (fun _ => 0)))] H := hP
  have hD : va_D A [(h0, .inr (11, [.int 0, .ref q1, .int 0, .int 0, .int 0, .int 0, .ref q2, .ref q3, .ref q4, .ref q5, .ref q6, .ref q7, .ref q8, .int 0, .int 0, .ref q9, .null, .null, .null, .null, .int 0, .int 0, .null, .null, .null, .int 0, .int 0, .null, .null, .int 0, .int 0, .null, .int 0, .long 0, .null, .int 0, .int 0, .null, .null, .null, .int 0])), (q1, .inl (cI, 240, .inl (fun _ => 0))), (q2, .inl (cI, 2600, .inl (fun _ => 0))), (q3, .inl (cI, 2600, .inl (fun _ => 0))), (q4, .inl (cI, 5, .inl (fun _ => 0))), (q5, .inl (cI, 5, .inl (fun _ => 0))), (q6, .inl (cI, 700, .inl (fun _ => 0))), (q7, .inl (cI, 700, .inl (fun _ => 0))), (q8, .inl (cI, 700, .inl (fun _ => 0))), (q9, .inl (cI, 6, .inl (fun _ => 0)))] := hD
  refine lv_aload_n hx hb dX11_init_80 rfl (lv_at hl 0 rfl) ?_
  refine lv_bipush (v := 80) hx hb dX11_init_81 (by decide) ?_
  refine va_newa (atype := .int) (ty := .int) (N' := 80) (a0 := (80, .inl (fun _ => 0))) hx hb (hts _ qw147) rfl hK hP hD hS hA (fun _ => rfl) (by decide) (by decide) (Nat.le_of_ble_eq_true rfl) (Nat.le_of_ble_eq_true rfl) (Nat.le_of_ble_eq_true rfl) dX11_init_83 (fun q10 cA H hK2 hP hD hS => ?_)
  obtain rfl : cI = cA := (zcA hK2 0 2 rfl rfl).symm
  have hP : va_P (dC, dI) vwCl [(h0, .inr (11, [.int 0, .ref q1, .int 0, .int 0, .int 0, .int 0, .ref q2, .ref q3, .ref q4, .ref q5, .ref q6, .ref q7, .ref q8, .int 0, .int 0, .ref q9, .null, .null, .null, .null, .int 0, .int 0, .null, .null, .null, .int 0, .int 0, .null, .null, .int 0, .int 0, .null, .int 0, .long 0, .null, .int 0, .int 0, .null, .null, .null, .int 0])), (q1, .inl (cI, 240, .inl (fun _ => 0))), (q2, .inl (cI, 2600, .inl (fun _ => 0))), (q3, .inl (cI, 2600, .inl (fun _ => 0))), (q4, .inl (cI, 5, .inl (fun _ => 0))), (q5, .inl (cI, 5, .inl (fun _ => 0))), (q6, .inl (cI, 700, .inl (fun _ => 0))), (q7, .inl (cI, 700, .inl (fun _ => 0))), (q8, .inl (cI, 700, .inl (fun _ => 0))), (q9, .inl (cI, 6, .inl (fun _ => 0))), (q10, .inl (cI, 80, .inl (fun _ => 0)))] H := hP
  have hD : va_D A [(h0, .inr (11, [.int 0, .ref q1, .int 0, .int 0, .int 0, .int 0, .ref q2, .ref q3, .ref q4, .ref q5, .ref q6, .ref q7, .ref q8, .int 0, .int 0, .ref q9, .null, .null, .null, .null, .int 0, .int 0, .null, .null, .null, .int 0, .int 0, .null, .null, .int 0, .int 0, .null, .int 0, .long 0, .null, .int 0, .int 0, .null, .null, .null, .int 0])), (q1, .inl (cI, 240, .inl (fun _ => 0))), (q2, .inl (cI, 2600, .inl (fun _ => 0))), (q3, .inl (cI, 2600, .inl (fun _ => 0))), (q4, .inl (cI, 5, .inl (fun _ => 0))), (q5, .inl (cI, 5, .inl (fun _ => 0))), (q6, .inl (cI, 700, .inl (fun _ => 0))), (q7, .inl (cI, 700, .inl (fun _ => 0))), (q8, .inl (cI, 700, .inl (fun _ => 0))), (q9, .inl (cI, 6, .inl (fun _ => 0))), (q10, .inl (cI, 80, .inl (fun _ => 0)))] := hD
  refine W.widen (k := 10) (n := 7636) (Nat.le_of_ble_eq_true rfl) (Nat.le_of_ble_eq_true rfl) ?_
  refine va_putF (D := (dC, dI)) (ci := 11) (v := .ref q10) (ty := .array .int) (C := RX11) (T := TX11) (N := 41) hx hb hts iX11 tyX11 tyX11_ok nmX11 hown hK hP hD hS 0 rfl rfl 16 (by decide) (hts _ qw1143) (fun _ h9 => h9) rfl hin rfl (by decide +kernel) rfl rfl (Nat.le_of_ble_eq_true rfl) dX11_init_85 (fun H locs hP hD hS => ?_)
  have hP : va_P (dC, dI) vwCl [(h0, .inr (11, [.int 0, .ref q1, .int 0, .int 0, .int 0, .int 0, .ref q2, .ref q3, .ref q4, .ref q5, .ref q6, .ref q7, .ref q8, .int 0, .int 0, .ref q9, .ref q10, .null, .null, .null, .int 0, .int 0, .null, .null, .null, .int 0, .int 0, .null, .null, .int 0, .int 0, .null, .int 0, .long 0, .null, .int 0, .int 0, .null, .null, .null, .int 0])), (q1, .inl (cI, 240, .inl (fun _ => 0))), (q2, .inl (cI, 2600, .inl (fun _ => 0))), (q3, .inl (cI, 2600, .inl (fun _ => 0))), (q4, .inl (cI, 5, .inl (fun _ => 0))), (q5, .inl (cI, 5, .inl (fun _ => 0))), (q6, .inl (cI, 700, .inl (fun _ => 0))), (q7, .inl (cI, 700, .inl (fun _ => 0))), (q8, .inl (cI, 700, .inl (fun _ => 0))), (q9, .inl (cI, 6, .inl (fun _ => 0))), (q10, .inl (cI, 80, .inl (fun _ => 0)))] H := hP
  have hD : va_D A [(h0, .inr (11, [.int 0, .ref q1, .int 0, .int 0, .int 0, .int 0, .ref q2, .ref q3, .ref q4, .ref q5, .ref q6, .ref q7, .ref q8, .int 0, .int 0, .ref q9, .ref q10, .null, .null, .null, .int 0, .int 0, .null, .null, .null, .int 0, .int 0, .null, .null, .int 0, .int 0, .null, .int 0, .long 0, .null, .int 0, .int 0, .null, .null, .null, .int 0])), (q1, .inl (cI, 240, .inl (fun _ => 0))), (q2, .inl (cI, 2600, .inl (fun _ => 0))), (q3, .inl (cI, 2600, .inl (fun _ => 0))), (q4, .inl (cI, 5, .inl (fun _ => 0))), (q5, .inl (cI, 5, .inl (fun _ => 0))), (q6, .inl (cI, 700, .inl (fun _ => 0))), (q7, .inl (cI, 700, .inl (fun _ => 0))), (q8, .inl (cI, 700, .inl (fun _ => 0))), (q9, .inl (cI, 6, .inl (fun _ => 0))), (q10, .inl (cI, 80, .inl (fun _ => 0)))] := hD
  refine lv_aload_n hx hb dX11_init_88 rfl (lv_at hl 0 rfl) ?_
  refine lv_iconst (v := 3) hx hb dX11_init_89 (by decide) ?_
  refine va_newa (atype := .int) (ty := .int) (N' := 3) (a0 := (3, .inl (fun _ => 0))) hx hb (hts _ qw147) rfl hK hP hD hS hA (fun _ => rfl) (by decide) (by decide) (Nat.le_of_ble_eq_true rfl) (Nat.le_of_ble_eq_true rfl) (Nat.le_of_ble_eq_true rfl) dX11_init_90 (fun q11 cA H hK2 hP hD hS => ?_)
  obtain rfl : cI = cA := (zcA hK2 0 2 rfl rfl).symm
  have hP : va_P (dC, dI) vwCl [(h0, .inr (11, [.int 0, .ref q1, .int 0, .int 0, .int 0, .int 0, .ref q2, .ref q3, .ref q4, .ref q5, .ref q6, .ref q7, .ref q8, .int 0, .int 0, .ref q9, .ref q10, .null, .null, .null, .int 0, .int 0, .null, .null, .null, .int 0, .int 0, .null, .null, .int 0, .int 0, .null, .int 0, .long 0, .null, .int 0, .int 0, .null, .null, .null, .int 0])), (q1, .inl (cI, 240, .inl (fun _ => 0))), (q2, .inl (cI, 2600, .inl (fun _ => 0))), (q3, .inl (cI, 2600, .inl (fun _ => 0))), (q4, .inl (cI, 5, .inl (fun _ => 0))), (q5, .inl (cI, 5, .inl (fun _ => 0))), (q6, .inl (cI, 700, .inl (fun _ => 0))), (q7, .inl (cI, 700, .inl (fun _ => 0))), (q8, .inl (cI, 700, .inl (fun _ => 0))), (q9, .inl (cI, 6, .inl (fun _ => 0))), (q10, .inl (cI, 80, .inl (fun _ => 0))), (q11, .inl (cI, 3, .inl (fun _ => 0)))] H := hP
  have hD : va_D A [(h0, .inr (11, [.int 0, .ref q1, .int 0, .int 0, .int 0, .int 0, .ref q2, .ref q3, .ref q4, .ref q5, .ref q6, .ref q7, .ref q8, .int 0, .int 0, .ref q9, .ref q10, .null, .null, .null, .int 0, .int 0, .null, .null, .null, .int 0, .int 0, .null, .null, .int 0, .int 0, .null, .int 0, .long 0, .null, .int 0, .int 0, .null, .null, .null, .int 0])), (q1, .inl (cI, 240, .inl (fun _ => 0))), (q2, .inl (cI, 2600, .inl (fun _ => 0))), (q3, .inl (cI, 2600, .inl (fun _ => 0))), (q4, .inl (cI, 5, .inl (fun _ => 0))), (q5, .inl (cI, 5, .inl (fun _ => 0))), (q6, .inl (cI, 700, .inl (fun _ => 0))), (q7, .inl (cI, 700, .inl (fun _ => 0))), (q8, .inl (cI, 700, .inl (fun _ => 0))), (q9, .inl (cI, 6, .inl (fun _ => 0))), (q10, .inl (cI, 80, .inl (fun _ => 0))), (q11, .inl (cI, 3, .inl (fun _ => 0)))] := hD
  refine W.widen (k := 11) (n := 7639) (Nat.le_of_ble_eq_true rfl) (Nat.le_of_ble_eq_true rfl) ?_
  refine va_putF (D := (dC, dI)) (ci := 11) (v := .ref q11) (ty := .array .int) (C := RX11) (T := TX11) (N := 41) hx hb hts iX11 tyX11 tyX11_ok nmX11 hown hK hP hD hS 0 rfl rfl 17 (by decide) (hts _ qw1144) (fun _ h9 => h9) rfl hin rfl (by decide +kernel) rfl rfl (Nat.le_of_ble_eq_true rfl) dX11_init_92 (fun H locs hP hD hS => ?_)
  have hP : va_P (dC, dI) vwCl [(h0, .inr (11, [.int 0, .ref q1, .int 0, .int 0, .int 0, .int 0, .ref q2, .ref q3, .ref q4, .ref q5, .ref q6, .ref q7, .ref q8, .int 0, .int 0, .ref q9, .ref q10, .ref q11, .null, .null, .int 0, .int 0, .null, .null, .null, .int 0, .int 0, .null, .null, .int 0, .int 0, .null, .int 0, .long 0, .null, .int 0, .int 0, .null, .null, .null, .int 0])), (q1, .inl (cI, 240, .inl (fun _ => 0))), (q2, .inl (cI, 2600, .inl (fun _ => 0))), (q3, .inl (cI, 2600, .inl (fun _ => 0))), (q4, .inl (cI, 5, .inl (fun _ => 0))), (q5, .inl (cI, 5, .inl (fun _ => 0))), (q6, .inl (cI, 700, .inl (fun _ => 0))), (q7, .inl (cI, 700, .inl (fun _ => 0))), (q8, .inl (cI, 700, .inl (fun _ => 0))), (q9, .inl (cI, 6, .inl (fun _ => 0))), (q10, .inl (cI, 80, .inl (fun _ => 0))), (q11, .inl (cI, 3, .inl (fun _ => 0)))] H := hP
  have hD : va_D A [(h0, .inr (11, [.int 0, .ref q1, .int 0, .int 0, .int 0, .int 0, .ref q2, .ref q3, .ref q4, .ref q5, .ref q6, .ref q7, .ref q8, .int 0, .int 0, .ref q9, .ref q10, .ref q11, .null, .null, .int 0, .int 0, .null, .null, .null, .int 0, .int 0, .null, .null, .int 0, .int 0, .null, .int 0, .long 0, .null, .int 0, .int 0, .null, .null, .null, .int 0])), (q1, .inl (cI, 240, .inl (fun _ => 0))), (q2, .inl (cI, 2600, .inl (fun _ => 0))), (q3, .inl (cI, 2600, .inl (fun _ => 0))), (q4, .inl (cI, 5, .inl (fun _ => 0))), (q5, .inl (cI, 5, .inl (fun _ => 0))), (q6, .inl (cI, 700, .inl (fun _ => 0))), (q7, .inl (cI, 700, .inl (fun _ => 0))), (q8, .inl (cI, 700, .inl (fun _ => 0))), (q9, .inl (cI, 6, .inl (fun _ => 0))), (q10, .inl (cI, 80, .inl (fun _ => 0))), (q11, .inl (cI, 3, .inl (fun _ => 0)))] := hD
  refine lv_aload_n hx hb dX11_init_95 rfl (lv_at hl 0 rfl) ?_
  refine lv_bipush (v := 24) hx hb dX11_init_96 (by decide) ?_
  refine va_newa (atype := .int) (ty := .int) (N' := 24) (a0 := (24, .inl (fun _ => 0))) hx hb (hts _ qw147) rfl hK hP hD hS hA (fun _ => rfl) (by decide) (by decide) (Nat.le_of_ble_eq_true rfl) (Nat.le_of_ble_eq_true rfl) (Nat.le_of_ble_eq_true rfl) dX11_init_98 (fun q12 cA H hK2 hP hD hS => ?_)
  obtain rfl : cI = cA := (zcA hK2 0 2 rfl rfl).symm
  have hP : va_P (dC, dI) vwCl [(h0, .inr (11, [.int 0, .ref q1, .int 0, .int 0, .int 0, .int 0, .ref q2, .ref q3, .ref q4, .ref q5, .ref q6, .ref q7, .ref q8, .int 0, .int 0, .ref q9, .ref q10, .ref q11, .null, .null, .int 0, .int 0, .null, .null, .null, .int 0, .int 0, .null, .null, .int 0, .int 0, .null, .int 0, .long 0, .null, .int 0, .int 0, .null, .null, .null, .int 0])), (q1, .inl (cI, 240, .inl (fun _ => 0))), (q2, .inl (cI, 2600, .inl (fun _ => 0))), (q3, .inl (cI, 2600, .inl (fun _ => 0))), (q4, .inl (cI, 5, .inl (fun _ => 0))), (q5, .inl (cI, 5, .inl (fun _ => 0))), (q6, .inl (cI, 700, .inl (fun _ => 0))), (q7, .inl (cI, 700, .inl (fun _ => 0))), (q8, .inl (cI, 700, .inl (fun _ => 0))), (q9, .inl (cI, 6, .inl (fun _ => 0))), (q10, .inl (cI, 80, .inl (fun _ => 0))), (q11, .inl (cI, 3, .inl (fun _ => 0))), (q12, .inl (cI, 24, .inl (fun _ => 0)))] H := hP
  have hD : va_D A [(h0, .inr (11, [.int 0, .ref q1, .int 0, .int 0, .int 0, .int 0, .ref q2, .ref q3, .ref q4, .ref q5, .ref q6, .ref q7, .ref q8, .int 0, .int 0, .ref q9, .ref q10, .ref q11, .null, .null, .int 0, .int 0, .null, .null, .null, .int 0, .int 0, .null, .null, .int 0, .int 0, .null, .int 0, .long 0, .null, .int 0, .int 0, .null, .null, .null, .int 0])), (q1, .inl (cI, 240, .inl (fun _ => 0))), (q2, .inl (cI, 2600, .inl (fun _ => 0))), (q3, .inl (cI, 2600, .inl (fun _ => 0))), (q4, .inl (cI, 5, .inl (fun _ => 0))), (q5, .inl (cI, 5, .inl (fun _ => 0))), (q6, .inl (cI, 700, .inl (fun _ => 0))), (q7, .inl (cI, 700, .inl (fun _ => 0))), (q8, .inl (cI, 700, .inl (fun _ => 0))), (q9, .inl (cI, 6, .inl (fun _ => 0))), (q10, .inl (cI, 80, .inl (fun _ => 0))), (q11, .inl (cI, 3, .inl (fun _ => 0))), (q12, .inl (cI, 24, .inl (fun _ => 0)))] := hD
  refine W.widen (k := 12) (n := 7663) (Nat.le_of_ble_eq_true rfl) (Nat.le_of_ble_eq_true rfl) ?_
  refine va_putF (D := (dC, dI)) (ci := 11) (v := .ref q12) (ty := .array .int) (C := RX11) (T := TX11) (N := 41) hx hb hts iX11 tyX11 tyX11_ok nmX11 hown hK hP hD hS 0 rfl rfl 18 (by decide) (hts _ qw1145) (fun _ h9 => h9) rfl hin rfl (by decide +kernel) rfl rfl (Nat.le_of_ble_eq_true rfl) dX11_init_100 (fun H locs hP hD hS => ?_)
  have hP : va_P (dC, dI) vwCl [(h0, .inr (11, [.int 0, .ref q1, .int 0, .int 0, .int 0, .int 0, .ref q2, .ref q3, .ref q4, .ref q5, .ref q6, .ref q7, .ref q8, .int 0, .int 0, .ref q9, .ref q10, .ref q11, .ref q12, .null, .int 0, .int 0, .null, .null, .null, .int 0, .int 0, .null, .null, .int 0, .int 0, .null, .int 0, .long 0, .null, .int 0, .int 0, .null, .null, .null, .int 0])), (q1, .inl (cI, 240, .inl (fun _ => 0))), (q2, .inl (cI, 2600, .inl (fun _ => 0))), (q3, .inl (cI, 2600, .inl (fun _ => 0))), (q4, .inl (cI, 5, .inl (fun _ => 0))), (q5, .inl (cI, 5, .inl (fun _ => 0))), (q6, .inl (cI, 700, .inl (fun _ => 0))), (q7, .inl (cI, 700, .inl (fun _ => 0))), (q8, .inl (cI, 700, .inl (fun _ => 0))), (q9, .inl (cI, 6, .inl (fun _ => 0))), (q10, .inl (cI, 80, .inl (fun _ => 0))), (q11, .inl (cI, 3, .inl (fun _ => 0))), (q12, .inl (cI, 24, .inl (fun _ => 0)))] H := hP
  have hD : va_D A [(h0, .inr (11, [.int 0, .ref q1, .int 0, .int 0, .int 0, .int 0, .ref q2, .ref q3, .ref q4, .ref q5, .ref q6, .ref q7, .ref q8, .int 0, .int 0, .ref q9, .ref q10, .ref q11, .ref q12, .null, .int 0, .int 0, .null, .null, .null, .int 0, .int 0, .null, .null, .int 0, .int 0, .null, .int 0, .long 0, .null, .int 0, .int 0, .null, .null, .null, .int 0])), (q1, .inl (cI, 240, .inl (fun _ => 0))), (q2, .inl (cI, 2600, .inl (fun _ => 0))), (q3, .inl (cI, 2600, .inl (fun _ => 0))), (q4, .inl (cI, 5, .inl (fun _ => 0))), (q5, .inl (cI, 5, .inl (fun _ => 0))), (q6, .inl (cI, 700, .inl (fun _ => 0))), (q7, .inl (cI, 700, .inl (fun _ => 0))), (q8, .inl (cI, 700, .inl (fun _ => 0))), (q9, .inl (cI, 6, .inl (fun _ => 0))), (q10, .inl (cI, 80, .inl (fun _ => 0))), (q11, .inl (cI, 3, .inl (fun _ => 0))), (q12, .inl (cI, 24, .inl (fun _ => 0)))] := hD
  refine lv_aload_n hx hb dX11_init_103 rfl (lv_at hl 0 rfl) ?_
  refine lv_bipush (v := 20) hx hb dX11_init_104 (by decide) ?_
  refine va_newa (atype := .int) (ty := .int) (N' := 20) (a0 := (20, .inl (fun _ => 0))) hx hb (hts _ qw147) rfl hK hP hD hS hA (fun _ => rfl) (by decide) (by decide) (Nat.le_of_ble_eq_true rfl) (Nat.le_of_ble_eq_true rfl) (Nat.le_of_ble_eq_true rfl) dX11_init_106 (fun q13 cA H hK2 hP hD hS => ?_)
  obtain rfl : cI = cA := (zcA hK2 0 2 rfl rfl).symm
  have hP : va_P (dC, dI) vwCl [(h0, .inr (11, [.int 0, .ref q1, .int 0, .int 0, .int 0, .int 0, .ref q2, .ref q3, .ref q4, .ref q5, .ref q6, .ref q7, .ref q8, .int 0, .int 0, .ref q9, .ref q10, .ref q11, .ref q12, .null, .int 0, .int 0, .null, .null, .null, .int 0, .int 0, .null, .null, .int 0, .int 0, .null, .int 0, .long 0, .null, .int 0, .int 0, .null, .null, .null, .int 0])), (q1, .inl (cI, 240, .inl (fun _ => 0))), (q2, .inl (cI, 2600, .inl (fun _ => 0))), (q3, .inl (cI, 2600, .inl (fun _ => 0))), (q4, .inl (cI, 5, .inl (fun _ => 0))), (q5, .inl (cI, 5, .inl (fun _ => 0))), (q6, .inl (cI, 700, .inl (fun _ => 0))), (q7, .inl (cI, 700, .inl (fun _ => 0))), (q8, .inl (cI, 700, .inl (fun _ => 0))), (q9, .inl (cI, 6, .inl (fun _ => 0))), (q10, .inl (cI, 80, .inl (fun _ => 0))), (q11, .inl (cI, 3, .inl (fun _ => 0))), (q12, .inl (cI, 24, .inl (fun _ => 0))), (q13, .inl (cI, 20, .inl (fun _ => 0)))] H := hP
  have hD : va_D A [(h0, .inr (11, [.int 0, .ref q1, .int 0, .int 0, .int 0, .int 0, .ref q2, .ref q3, .ref q4, .ref q5, .ref q6, .ref q7, .ref q8, .int 0, .int 0, .ref q9, .ref q10, .ref q11, .ref q12, .null, .int 0, .int 0, .null, .null, .null, .int 0, .int 0, .null, .null, .int 0, .int 0, .null, .int 0, .long 0, .null, .int 0, .int 0, .null, .null, .null, .int 0])), (q1, .inl (cI, 240, .inl (fun _ => 0))), (q2, .inl (cI, 2600, .inl (fun _ => 0))), (q3, .inl (cI, 2600, .inl (fun _ => 0))), (q4, .inl (cI, 5, .inl (fun _ => 0))), (q5, .inl (cI, 5, .inl (fun _ => 0))), (q6, .inl (cI, 700, .inl (fun _ => 0))), (q7, .inl (cI, 700, .inl (fun _ => 0))), (q8, .inl (cI, 700, .inl (fun _ => 0))), (q9, .inl (cI, 6, .inl (fun _ => 0))), (q10, .inl (cI, 80, .inl (fun _ => 0))), (q11, .inl (cI, 3, .inl (fun _ => 0))), (q12, .inl (cI, 24, .inl (fun _ => 0))), (q13, .inl (cI, 20, .inl (fun _ => 0)))] := hD
  refine W.widen (k := 13) (n := 7683) (Nat.le_of_ble_eq_true rfl) (Nat.le_of_ble_eq_true rfl) ?_
  refine va_putF (D := (dC, dI)) (ci := 11) (v := .ref q13) (ty := .array .int) (C := RX11) (T := TX11) (N := 41) hx hb hts iX11 tyX11 tyX11_ok nmX11 hown hK hP hD hS 0 rfl rfl 19 (by decide) (hts _ qw1146) (fun _ h9 => h9) rfl hin rfl (by decide +kernel) rfl rfl (Nat.le_of_ble_eq_true rfl) dX11_init_108 (fun H locs hP hD hS => ?_)
  have hP : va_P (dC, dI) vwCl [(h0, .inr (11, [.int 0, .ref q1, .int 0, .int 0, .int 0, .int 0, .ref q2, .ref q3, .ref q4, .ref q5, .ref q6, .ref q7, .ref q8, .int 0, .int 0, .ref q9, .ref q10, .ref q11, .ref q12, .ref q13, .int 0, .int 0, .null, .null, .null, .int 0, .int 0, .null, .null, .int 0, .int 0, .null, .int 0, .long 0, .null, .int 0, .int 0, .null, .null, .null, .int 0])), (q1, .inl (cI, 240, .inl (fun _ => 0))), (q2, .inl (cI, 2600, .inl (fun _ => 0))), (q3, .inl (cI, 2600, .inl (fun _ => 0))), (q4, .inl (cI, 5, .inl (fun _ => 0))), (q5, .inl (cI, 5, .inl (fun _ => 0))), (q6, .inl (cI, 700, .inl (fun _ => 0))), (q7, .inl (cI, 700, .inl (fun _ => 0))), (q8, .inl (cI, 700, .inl (fun _ => 0))), (q9, .inl (cI, 6, .inl (fun _ => 0))), (q10, .inl (cI, 80, .inl (fun _ => 0))), (q11, .inl (cI, 3, .inl (fun _ => 0))), (q12, .inl (cI, 24, .inl (fun _ => 0))), (q13, .inl (cI, 20, .inl (fun _ => 0)))] H := hP
  have hD : va_D A [(h0, .inr (11, [.int 0, .ref q1, .int 0, .int 0, .int 0, .int 0, .ref q2, .ref q3, .ref q4, .ref q5, .ref q6, .ref q7, .ref q8, .int 0, .int 0, .ref q9, .ref q10, .ref q11, .ref q12, .ref q13, .int 0, .int 0, .null, .null, .null, .int 0, .int 0, .null, .null, .int 0, .int 0, .null, .int 0, .long 0, .null, .int 0, .int 0, .null, .null, .null, .int 0])), (q1, .inl (cI, 240, .inl (fun _ => 0))), (q2, .inl (cI, 2600, .inl (fun _ => 0))), (q3, .inl (cI, 2600, .inl (fun _ => 0))), (q4, .inl (cI, 5, .inl (fun _ => 0))), (q5, .inl (cI, 5, .inl (fun _ => 0))), (q6, .inl (cI, 700, .inl (fun _ => 0))), (q7, .inl (cI, 700, .inl (fun _ => 0))), (q8, .inl (cI, 700, .inl (fun _ => 0))), (q9, .inl (cI, 6, .inl (fun _ => 0))), (q10, .inl (cI, 80, .inl (fun _ => 0))), (q11, .inl (cI, 3, .inl (fun _ => 0))), (q12, .inl (cI, 24, .inl (fun _ => 0))), (q13, .inl (cI, 20, .inl (fun _ => 0)))] := hD
  refine lv_aload_n hx hb dX11_init_111 rfl (lv_at hl 0 rfl) ?_
  refine lv_iconst (v := 3) hx hb dX11_init_112 (by decide) ?_
  refine va_newa (atype := .int) (ty := .int) (N' := 3) (a0 := (3, .inl (fun _ => 0))) hx hb (hts _ qw147) rfl hK hP hD hS hA (fun _ => rfl) (by decide) (by decide) (Nat.le_of_ble_eq_true rfl) (Nat.le_of_ble_eq_true rfl) (Nat.le_of_ble_eq_true rfl) dX11_init_113 (fun q14 cA H hK2 hP hD hS => ?_)
  obtain rfl : cI = cA := (zcA hK2 0 2 rfl rfl).symm
  have hP : va_P (dC, dI) vwCl [(h0, .inr (11, [.int 0, .ref q1, .int 0, .int 0, .int 0, .int 0, .ref q2, .ref q3, .ref q4, .ref q5, .ref q6, .ref q7, .ref q8, .int 0, .int 0, .ref q9, .ref q10, .ref q11, .ref q12, .ref q13, .int 0, .int 0, .null, .null, .null, .int 0, .int 0, .null, .null, .int 0, .int 0, .null, .int 0, .long 0, .null, .int 0, .int 0, .null, .null, .null, .int 0])), (q1, .inl (cI, 240, .inl (fun _ => 0))), (q2, .inl (cI, 2600, .inl (fun _ => 0))), (q3, .inl (cI, 2600, .inl (fun _ => 0))), (q4, .inl (cI, 5, .inl (fun _ => 0))), (q5, .inl (cI, 5, .inl (fun _ => 0))), (q6, .inl (cI, 700, .inl (fun _ => 0))), (q7, .inl (cI, 700, .inl (fun _ => 0))), (q8, .inl (cI, 700, .inl (fun _ => 0))), (q9, .inl (cI, 6, .inl (fun _ => 0))), (q10, .inl (cI, 80, .inl (fun _ => 0))), (q11, .inl (cI, 3, .inl (fun _ => 0))), (q12, .inl (cI, 24, .inl (fun _ => 0))), (q13, .inl (cI, 20, .inl (fun _ => 0))), (q14, .inl (cI, 3, .inl (fun _ => 0)))] H := hP
  have hD : va_D A [(h0, .inr (11, [.int 0, .ref q1, .int 0, .int 0, .int 0, .int 0, .ref q2, .ref q3, .ref q4, .ref q5, .ref q6, .ref q7, .ref q8, .int 0, .int 0, .ref q9, .ref q10, .ref q11, .ref q12, .ref q13, .int 0, .int 0, .null, .null, .null, .int 0, .int 0, .null, .null, .int 0, .int 0, .null, .int 0, .long 0, .null, .int 0, .int 0, .null, .null, .null, .int 0])), (q1, .inl (cI, 240, .inl (fun _ => 0))), (q2, .inl (cI, 2600, .inl (fun _ => 0))), (q3, .inl (cI, 2600, .inl (fun _ => 0))), (q4, .inl (cI, 5, .inl (fun _ => 0))), (q5, .inl (cI, 5, .inl (fun _ => 0))), (q6, .inl (cI, 700, .inl (fun _ => 0))), (q7, .inl (cI, 700, .inl (fun _ => 0))), (q8, .inl (cI, 700, .inl (fun _ => 0))), (q9, .inl (cI, 6, .inl (fun _ => 0))), (q10, .inl (cI, 80, .inl (fun _ => 0))), (q11, .inl (cI, 3, .inl (fun _ => 0))), (q12, .inl (cI, 24, .inl (fun _ => 0))), (q13, .inl (cI, 20, .inl (fun _ => 0))), (q14, .inl (cI, 3, .inl (fun _ => 0)))] := hD
  refine W.widen (k := 14) (n := 7686) (Nat.le_of_ble_eq_true rfl) (Nat.le_of_ble_eq_true rfl) ?_
  refine va_putF (D := (dC, dI)) (ci := 11) (v := .ref q14) (ty := .array .int) (C := RX11) (T := TX11) (N := 41) hx hb hts iX11 tyX11 tyX11_ok nmX11 hown hK hP hD hS 0 rfl rfl 22 (by decide) (hts _ qw1149) (fun _ h9 => h9) rfl hin rfl (by decide +kernel) rfl rfl (Nat.le_of_ble_eq_true rfl) dX11_init_115 (fun H locs hP hD hS => ?_)
  have hP : va_P (dC, dI) vwCl [(h0, .inr (11, [.int 0, .ref q1, .int 0, .int 0, .int 0, .int 0, .ref q2, .ref q3, .ref q4, .ref q5, .ref q6, .ref q7, .ref q8, .int 0, .int 0, .ref q9, .ref q10, .ref q11, .ref q12, .ref q13, .int 0, .int 0, .ref q14, .null, .null, .int 0, .int 0, .null, .null, .int 0, .int 0, .null, .int 0, .long 0, .null, .int 0, .int 0, .null, .null, .null, .int 0])), (q1, .inl (cI, 240, .inl (fun _ => 0))), (q2, .inl (cI, 2600, .inl (fun _ => 0))), (q3, .inl (cI, 2600, .inl (fun _ => 0))), (q4, .inl (cI, 5, .inl (fun _ => 0))), (q5, .inl (cI, 5, .inl (fun _ => 0))), (q6, .inl (cI, 700, .inl (fun _ => 0))), (q7, .inl (cI, 700, .inl (fun _ => 0))), (q8, .inl (cI, 700, .inl (fun _ => 0))), (q9, .inl (cI, 6, .inl (fun _ => 0))), (q10, .inl (cI, 80, .inl (fun _ => 0))), (q11, .inl (cI, 3, .inl (fun _ => 0))), (q12, .inl (cI, 24, .inl (fun _ => 0))), (q13, .inl (cI, 20, .inl (fun _ => 0))), (q14, .inl (cI, 3, .inl (fun _ => 0)))] H := hP
  have hD : va_D A [(h0, .inr (11, [.int 0, .ref q1, .int 0, .int 0, .int 0, .int 0, .ref q2, .ref q3, .ref q4, .ref q5, .ref q6, .ref q7, .ref q8, .int 0, .int 0, .ref q9, .ref q10, .ref q11, .ref q12, .ref q13, .int 0, .int 0, .ref q14, .null, .null, .int 0, .int 0, .null, .null, .int 0, .int 0, .null, .int 0, .long 0, .null, .int 0, .int 0, .null, .null, .null, .int 0])), (q1, .inl (cI, 240, .inl (fun _ => 0))), (q2, .inl (cI, 2600, .inl (fun _ => 0))), (q3, .inl (cI, 2600, .inl (fun _ => 0))), (q4, .inl (cI, 5, .inl (fun _ => 0))), (q5, .inl (cI, 5, .inl (fun _ => 0))), (q6, .inl (cI, 700, .inl (fun _ => 0))), (q7, .inl (cI, 700, .inl (fun _ => 0))), (q8, .inl (cI, 700, .inl (fun _ => 0))), (q9, .inl (cI, 6, .inl (fun _ => 0))), (q10, .inl (cI, 80, .inl (fun _ => 0))), (q11, .inl (cI, 3, .inl (fun _ => 0))), (q12, .inl (cI, 24, .inl (fun _ => 0))), (q13, .inl (cI, 20, .inl (fun _ => 0))), (q14, .inl (cI, 3, .inl (fun _ => 0)))] := hD
  refine lv_aload_n hx hb dX11_init_118 rfl (lv_at hl 0 rfl) ?_
  refine lv_bipush (v := 24) hx hb dX11_init_119 (by decide) ?_
  refine va_newa (atype := .int) (ty := .int) (N' := 24) (a0 := (24, .inl (fun _ => 0))) hx hb (hts _ qw147) rfl hK hP hD hS hA (fun _ => rfl) (by decide) (by decide) (Nat.le_of_ble_eq_true rfl) (Nat.le_of_ble_eq_true rfl) (Nat.le_of_ble_eq_true rfl) dX11_init_121 (fun q15 cA H hK2 hP hD hS => ?_)
  obtain rfl : cI = cA := (zcA hK2 0 2 rfl rfl).symm
  have hP : va_P (dC, dI) vwCl [(h0, .inr (11, [.int 0, .ref q1, .int 0, .int 0, .int 0, .int 0, .ref q2, .ref q3, .ref q4, .ref q5, .ref q6, .ref q7, .ref q8, .int 0, .int 0, .ref q9, .ref q10, .ref q11, .ref q12, .ref q13, .int 0, .int 0, .ref q14, .null, .null, .int 0, .int 0, .null, .null, .int 0, .int 0, .null, .int 0, .long 0, .null, .int 0, .int 0, .null, .null, .null, .int 0])), (q1, .inl (cI, 240, .inl (fun _ => 0))), (q2, .inl (cI, 2600, .inl (fun _ => 0))), (q3, .inl (cI, 2600, .inl (fun _ => 0))), (q4, .inl (cI, 5, .inl (fun _ => 0))), (q5, .inl (cI, 5, .inl (fun _ => 0))), (q6, .inl (cI, 700, .inl (fun _ => 0))), (q7, .inl (cI, 700, .inl (fun _ => 0))), (q8, .inl (cI, 700, .inl (fun _ => 0))), (q9, .inl (cI, 6, .inl (fun _ => 0))), (q10, .inl (cI, 80, .inl (fun _ => 0))), (q11, .inl (cI, 3, .inl (fun _ => 0))), (q12, .inl (cI, 24, .inl (fun _ => 0))), (q13, .inl (cI, 20, .inl (fun _ => 0))), (q14, .inl (cI, 3, .inl (fun _ => 0))), (q15, .inl (cI, 24, .inl (fun _ => 0)))] H := hP
  have hD : va_D A [(h0, .inr (11, [.int 0, .ref q1, .int 0, .int 0, .int 0, .int 0, .ref q2, .ref q3, .ref q4, .ref q5, .ref q6, .ref q7, .ref q8, .int 0, .int 0, .ref q9, .ref q10, .ref q11, .ref q12, .ref q13, .int 0, .int 0, .ref q14, .null, .null, .int 0, .int 0, .null, .null, .int 0, .int 0, .null, .int 0, .long 0, .null, .int 0, .int 0, .null, .null, .null, .int 0])), (q1, .inl (cI, 240, .inl (fun _ => 0))), (q2, .inl (cI, 2600, .inl (fun _ => 0))), (q3, .inl (cI, 2600, .inl (fun _ => 0))), (q4, .inl (cI, 5, .inl (fun _ => 0))), (q5, .inl (cI, 5, .inl (fun _ => 0))), (q6, .inl (cI, 700, .inl (fun _ => 0))), (q7, .inl (cI, 700, .inl (fun _ => 0))), (q8, .inl (cI, 700, .inl (fun _ => 0))), (q9, .inl (cI, 6, .inl (fun _ => 0))), (q10, .inl (cI, 80, .inl (fun _ => 0))), (q11, .inl (cI, 3, .inl (fun _ => 0))), (q12, .inl (cI, 24, .inl (fun _ => 0))), (q13, .inl (cI, 20, .inl (fun _ => 0))), (q14, .inl (cI, 3, .inl (fun _ => 0))), (q15, .inl (cI, 24, .inl (fun _ => 0)))] := hD
  refine W.widen (k := 15) (n := 7710) (Nat.le_of_ble_eq_true rfl) (Nat.le_of_ble_eq_true rfl) ?_
  refine va_putF (D := (dC, dI)) (ci := 11) (v := .ref q15) (ty := .array .int) (C := RX11) (T := TX11) (N := 41) hx hb hts iX11 tyX11 tyX11_ok nmX11 hown hK hP hD hS 0 rfl rfl 23 (by decide) (hts _ qw1150) (fun _ h9 => h9) rfl hin rfl (by decide +kernel) rfl rfl (Nat.le_of_ble_eq_true rfl) dX11_init_123 (fun H locs hP hD hS => ?_)
  have hP : va_P (dC, dI) vwCl [(h0, .inr (11, [.int 0, .ref q1, .int 0, .int 0, .int 0, .int 0, .ref q2, .ref q3, .ref q4, .ref q5, .ref q6, .ref q7, .ref q8, .int 0, .int 0, .ref q9, .ref q10, .ref q11, .ref q12, .ref q13, .int 0, .int 0, .ref q14, .ref q15, .null, .int 0, .int 0, .null, .null, .int 0, .int 0, .null, .int 0, .long 0, .null, .int 0, .int 0, .null, .null, .null, .int 0])), (q1, .inl (cI, 240, .inl (fun _ => 0))), (q2, .inl (cI, 2600, .inl (fun _ => 0))), (q3, .inl (cI, 2600, .inl (fun _ => 0))), (q4, .inl (cI, 5, .inl (fun _ => 0))), (q5, .inl (cI, 5, .inl (fun _ => 0))), (q6, .inl (cI, 700, .inl (fun _ => 0))), (q7, .inl (cI, 700, .inl (fun _ => 0))), (q8, .inl (cI, 700, .inl (fun _ => 0))), (q9, .inl (cI, 6, .inl (fun _ => 0))), (q10, .inl (cI, 80, .inl (fun _ => 0))), (q11, .inl (cI, 3, .inl (fun _ => 0))), (q12, .inl (cI, 24, .inl (fun _ => 0))), (q13, .inl (cI, 20, .inl (fun _ => 0))), (q14, .inl (cI, 3, .inl (fun _ => 0))), (q15, .inl (cI, 24, .inl (fun _ => 0)))] H := hP
  have hD : va_D A [(h0, .inr (11, [.int 0, .ref q1, .int 0, .int 0, .int 0, .int 0, .ref q2, .ref q3, .ref q4, .ref q5, .ref q6, .ref q7, .ref q8, .int 0, .int 0, .ref q9, .ref q10, .ref q11, .ref q12, .ref q13, .int 0, .int 0, .ref q14, .ref q15, .null, .int 0, .int 0, .null, .null, .int 0, .int 0, .null, .int 0, .long 0, .null, .int 0, .int 0, .null, .null, .null, .int 0])), (q1, .inl (cI, 240, .inl (fun _ => 0))), (q2, .inl (cI, 2600, .inl (fun _ => 0))), (q3, .inl (cI, 2600, .inl (fun _ => 0))), (q4, .inl (cI, 5, .inl (fun _ => 0))), (q5, .inl (cI, 5, .inl (fun _ => 0))), (q6, .inl (cI, 700, .inl (fun _ => 0))), (q7, .inl (cI, 700, .inl (fun _ => 0))), (q8, .inl (cI, 700, .inl (fun _ => 0))), (q9, .inl (cI, 6, .inl (fun _ => 0))), (q10, .inl (cI, 80, .inl (fun _ => 0))), (q11, .inl (cI, 3, .inl (fun _ => 0))), (q12, .inl (cI, 24, .inl (fun _ => 0))), (q13, .inl (cI, 20, .inl (fun _ => 0))), (q14, .inl (cI, 3, .inl (fun _ => 0))), (q15, .inl (cI, 24, .inl (fun _ => 0)))] := hD
  refine lv_aload_n hx hb dX11_init_126 rfl (lv_at hl 0 rfl) ?_
  refine lv_bipush (v := 20) hx hb dX11_init_127 (by decide) ?_
  refine va_newa (atype := .int) (ty := .int) (N' := 20) (a0 := (20, .inl (fun _ => 0))) hx hb (hts _ qw147) rfl hK hP hD hS hA (fun _ => rfl) (by decide) (by decide) (Nat.le_of_ble_eq_true rfl) (Nat.le_of_ble_eq_true rfl) (Nat.le_of_ble_eq_true rfl) dX11_init_129 (fun q16 cA H hK2 hP hD hS => ?_)
  obtain rfl : cI = cA := (zcA hK2 0 2 rfl rfl).symm
  have hP : va_P (dC, dI) vwCl [(h0, .inr (11, [.int 0, .ref q1, .int 0, .int 0, .int 0, .int 0, .ref q2, .ref q3, .ref q4, .ref q5, .ref q6, .ref q7, .ref q8, .int 0, .int 0, .ref q9, .ref q10, .ref q11, .ref q12, .ref q13, .int 0, .int 0, .ref q14, .ref q15, .null, .int 0, .int 0, .null, .null, .int 0, .int 0, .null, .int 0, .long 0, .null, .int 0, .int 0, .null, .null, .null, .int 0])), (q1, .inl (cI, 240, .inl (fun _ => 0))), (q2, .inl (cI, 2600, .inl (fun _ => 0))), (q3, .inl (cI, 2600, .inl (fun _ => 0))), (q4, .inl (cI, 5, .inl (fun _ => 0))), (q5, .inl (cI, 5, .inl (fun _ => 0))), (q6, .inl (cI, 700, .inl (fun _ => 0))), (q7, .inl (cI, 700, .inl (fun _ => 0))), (q8, .inl (cI, 700, .inl (fun _ => 0))), (q9, .inl (cI, 6, .inl (fun _ => 0))), (q10, .inl (cI, 80, .inl (fun _ => 0))), (q11, .inl (cI, 3, .inl (fun _ => 0))), (q12, .inl (cI, 24, .inl (fun _ => 0))), (q13, .inl (cI, 20, .inl (fun _ => 0))), (q14, .inl (cI, 3, .inl (fun _ => 0))), (q15, .inl (cI, 24, .inl (fun _ => 0))), (q16, .inl (cI, 20, .inl (fun _ => 0)))] H := hP
  have hD : va_D A [(h0, .inr (11, [.int 0, .ref q1, .int 0, .int 0, .int 0, .int 0, .ref q2, .ref q3, .ref q4, .ref q5, .ref q6, .ref q7, .ref q8, .int 0, .int 0, .ref q9, .ref q10, .ref q11, .ref q12, .ref q13, .int 0, .int 0, .ref q14, .ref q15, .null, .int 0, .int 0, .null, .null, .int 0, .int 0, .null, .int 0, .long 0, .null, .int 0, .int 0, .null, .null, .null, .int 0])), (q1, .inl (cI, 240, .inl (fun _ => 0))), (q2, .inl (cI, 2600, .inl (fun _ => 0))), (q3, .inl (cI, 2600, .inl (fun _ => 0))), (q4, .inl (cI, 5, .inl (fun _ => 0))), (q5, .inl (cI, 5, .inl (fun _ => 0))), (q6, .inl (cI, 700, .inl (fun _ => 0))), (q7, .inl (cI, 700, .inl (fun _ => 0))), (q8, .inl (cI, 700, .inl (fun _ => 0))), (q9, .inl (cI, 6, .inl (fun _ => 0))), (q10, .inl (cI, 80, .inl (fun _ => 0))), (q11, .inl (cI, 3, .inl (fun _ => 0))), (q12, .inl (cI, 24, .inl (fun _ => 0))), (q13, .inl (cI, 20, .inl (fun _ => 0))), (q14, .inl (cI, 3, .inl (fun _ => 0))), (q15, .inl (cI, 24, .inl (fun _ => 0))), (q16, .inl (cI, 20, .inl (fun _ => 0)))] := hD
  refine W.widen (k := 16) (n := 7730) (Nat.le_of_ble_eq_true rfl) (Nat.le_of_ble_eq_true rfl) ?_
  refine va_putF (D := (dC, dI)) (ci := 11) (v := .ref q16) (ty := .array .int) (C := RX11) (T := TX11) (N := 41) hx hb hts iX11 tyX11 tyX11_ok nmX11 hown hK hP hD hS 0 rfl rfl 24 (by decide) (hts _ qw1151) (fun _ h9 => h9) rfl hin rfl (by decide +kernel) rfl rfl (Nat.le_of_ble_eq_true rfl) dX11_init_131 (fun H locs hP hD hS => ?_)
  have hP : va_P (dC, dI) vwCl [(h0, .inr (11, [.int 0, .ref q1, .int 0, .int 0, .int 0, .int 0, .ref q2, .ref q3, .ref q4, .ref q5, .ref q6, .ref q7, .ref q8, .int 0, .int 0, .ref q9, .ref q10, .ref q11, .ref q12, .ref q13, .int 0, .int 0, .ref q14, .ref q15, .ref q16, .int 0, .int 0, .null, .null, .int 0, .int 0, .null, .int 0, .long 0, .null, .int 0, .int 0, .null, .null, .null, .int 0])), (q1, .inl (cI, 240, .inl (fun _ => 0))), (q2, .inl (cI, 2600, .inl (fun _ => 0))), (q3, .inl (cI, 2600, .inl (fun _ => 0))), (q4, .inl (cI, 5, .inl (fun _ => 0))), (q5, .inl (cI, 5, .inl (fun _ => 0))), (q6, .inl (cI, 700, .inl (fun _ => 0))), (q7, .inl (cI, 700, .inl (fun _ => 0))), (q8, .inl (cI, 700, .inl (fun _ => 0))), (q9, .inl (cI, 6, .inl (fun _ => 0))), (q10, .inl (cI, 80, .inl (fun _ => 0))), (q11, .inl (cI, 3, .inl (fun _ => 0))), (q12, .inl (cI, 24, .inl (fun _ => 0))), (q13, .inl (cI, 20, .inl (fun _ => 0))), (q14, .inl (cI, 3, .inl (fun _ => 0))), (q15, .inl (cI, 24, .inl (fun _ => 0))), (q16, .inl (cI, 20, .inl (fun _ => 0)))] H := hP
  have hD : va_D A [(h0, .inr (11, [.int 0, .ref q1, .int 0, .int 0, .int 0, .int 0, .ref q2, .ref q3, .ref q4, .ref q5, .ref q6, .ref q7, .ref q8, .int 0, .int 0, .ref q9, .ref q10, .ref q11, .ref q12, .ref q13, .int 0, .int 0, .ref q14, .ref q15, .ref q16, .int 0, .int 0, .null, .null, .int 0, .int 0, .null, .int 0, .long 0, .null, .int 0, .int 0, .null, .null, .null, .int 0])), (q1, .inl (cI, 240, .inl (fun _ => 0))), (q2, .inl (cI, 2600, .inl (fun _ => 0))), (q3, .inl (cI, 2600, .inl (fun _ => 0))), (q4, .inl (cI, 5, .inl (fun _ => 0))), (q5, .inl (cI, 5, .inl (fun _ => 0))), (q6, .inl (cI, 700, .inl (fun _ => 0))), (q7, .inl (cI, 700, .inl (fun _ => 0))), (q8, .inl (cI, 700, .inl (fun _ => 0))), (q9, .inl (cI, 6, .inl (fun _ => 0))), (q10, .inl (cI, 80, .inl (fun _ => 0))), (q11, .inl (cI, 3, .inl (fun _ => 0))), (q12, .inl (cI, 24, .inl (fun _ => 0))), (q13, .inl (cI, 20, .inl (fun _ => 0))), (q14, .inl (cI, 3, .inl (fun _ => 0))), (q15, .inl (cI, 24, .inl (fun _ => 0))), (q16, .inl (cI, 20, .inl (fun _ => 0)))] := hD
  refine lv_aload_n hx hb dX11_init_134 rfl (lv_at hl 0 rfl) ?_
  refine lv_bipush (v := 97) hx hb dX11_init_135 (by decide) ?_
  refine va_newa (atype := .int) (ty := .int) (N' := 97) (a0 := (97, .inl (fun _ => 0))) hx hb (hts _ qw147) rfl hK hP hD hS hA (fun _ => rfl) (by decide) (by decide) (Nat.le_of_ble_eq_true rfl) (Nat.le_of_ble_eq_true rfl) (Nat.le_of_ble_eq_true rfl) dX11_init_137 (fun q17 cA H hK2 hP hD hS => ?_)
  obtain rfl : cI = cA := (zcA hK2 0 2 rfl rfl).symm
  have hP : va_P (dC, dI) vwCl [(h0, .inr (11, [.int 0, .ref q1, .int 0, .int 0, .int 0, .int 0, .ref q2, .ref q3, .ref q4, .ref q5, .ref q6, .ref q7, .ref q8, .int 0, .int 0, .ref q9, .ref q10, .ref q11, .ref q12, .ref q13, .int 0, .int 0, .ref q14, .ref q15, .ref q16, .int 0, .int 0, .null, .null, .int 0, .int 0, .null, .int 0, .long 0, .null, .int 0, .int 0, .null, .null, .null, .int 0])), (q1, .inl (cI, 240, .inl (fun _ => 0))), (q2, .inl (cI, 2600, .inl (fun _ => 0))), (q3, .inl (cI, 2600, .inl (fun _ => 0))), (q4, .inl (cI, 5, .inl (fun _ => 0))), (q5, .inl (cI, 5, .inl (fun _ => 0))), (q6, .inl (cI, 700, .inl (fun _ => 0))), (q7, .inl (cI, 700, .inl (fun _ => 0))), (q8, .inl (cI, 700, .inl (fun _ => 0))), (q9, .inl (cI, 6, .inl (fun _ => 0))), (q10, .inl (cI, 80, .inl (fun _ => 0))), (q11, .inl (cI, 3, .inl (fun _ => 0))), (q12, .inl (cI, 24, .inl (fun _ => 0))), (q13, .inl (cI, 20, .inl (fun _ => 0))), (q14, .inl (cI, 3, .inl (fun _ => 0))), (q15, .inl (cI, 24, .inl (fun _ => 0))), (q16, .inl (cI, 20, .inl (fun _ => 0))), (q17, .inl (cI, 97, .inl (fun _ => 0)))] H := hP
  have hD : va_D A [(h0, .inr (11, [.int 0, .ref q1, .int 0, .int 0, .int 0, .int 0, .ref q2, .ref q3, .ref q4, .ref q5, .ref q6, .ref q7, .ref q8, .int 0, .int 0, .ref q9, .ref q10, .ref q11, .ref q12, .ref q13, .int 0, .int 0, .ref q14, .ref q15, .ref q16, .int 0, .int 0, .null, .null, .int 0, .int 0, .null, .int 0, .long 0, .null, .int 0, .int 0, .null, .null, .null, .int 0])), (q1, .inl (cI, 240, .inl (fun _ => 0))), (q2, .inl (cI, 2600, .inl (fun _ => 0))), (q3, .inl (cI, 2600, .inl (fun _ => 0))), (q4, .inl (cI, 5, .inl (fun _ => 0))), (q5, .inl (cI, 5, .inl (fun _ => 0))), (q6, .inl (cI, 700, .inl (fun _ => 0))), (q7, .inl (cI, 700, .inl (fun _ => 0))), (q8, .inl (cI, 700, .inl (fun _ => 0))), (q9, .inl (cI, 6, .inl (fun _ => 0))), (q10, .inl (cI, 80, .inl (fun _ => 0))), (q11, .inl (cI, 3, .inl (fun _ => 0))), (q12, .inl (cI, 24, .inl (fun _ => 0))), (q13, .inl (cI, 20, .inl (fun _ => 0))), (q14, .inl (cI, 3, .inl (fun _ => 0))), (q15, .inl (cI, 24, .inl (fun _ => 0))), (q16, .inl (cI, 20, .inl (fun _ => 0))), (q17, .inl (cI, 97, .inl (fun _ => 0)))] := hD
  refine W.widen (k := 17) (n := 7827) (Nat.le_of_ble_eq_true rfl) (Nat.le_of_ble_eq_true rfl) ?_
  refine va_putF (D := (dC, dI)) (ci := 11) (v := .ref q17) (ty := .array .int) (C := RX11) (T := TX11) (N := 41) hx hb hts iX11 tyX11 tyX11_ok nmX11 hown hK hP hD hS 0 rfl rfl 27 (by decide) (hts _ qw1154) (fun _ h9 => h9) rfl hin rfl (by decide +kernel) rfl rfl (Nat.le_of_ble_eq_true rfl) dX11_init_139 (fun H locs hP hD hS => ?_)
  have hP : va_P (dC, dI) vwCl [(h0, .inr (11, [.int 0, .ref q1, .int 0, .int 0, .int 0, .int 0, .ref q2, .ref q3, .ref q4, .ref q5, .ref q6, .ref q7, .ref q8, .int 0, .int 0, .ref q9, .ref q10, .ref q11, .ref q12, .ref q13, .int 0, .int 0, .ref q14, .ref q15, .ref q16, .int 0, .int 0, .ref q17, .null, .int 0, .int 0, .null, .int 0, .long 0, .null, .int 0, .int 0, .null, .null, .null, .int 0])), (q1, .inl (cI, 240, .inl (fun _ => 0))), (q2, .inl (cI, 2600, .inl (fun _ => 0))), (q3, .inl (cI, 2600, .inl (fun _ => 0))), (q4, .inl (cI, 5, .inl (fun _ => 0))), (q5, .inl (cI, 5, .inl (fun _ => 0))), (q6, .inl (cI, 700, .inl (fun _ => 0))), (q7, .inl (cI, 700, .inl (fun _ => 0))), (q8, .inl (cI, 700, .inl (fun _ => 0))), (q9, .inl (cI, 6, .inl (fun _ => 0))), (q10, .inl (cI, 80, .inl (fun _ => 0))), (q11, .inl (cI, 3, .inl (fun _ => 0))), (q12, .inl (cI, 24, .inl (fun _ => 0))), (q13, .inl (cI, 20, .inl (fun _ => 0))), (q14, .inl (cI, 3, .inl (fun _ => 0))), (q15, .inl (cI, 24, .inl (fun _ => 0))), (q16, .inl (cI, 20, .inl (fun _ => 0))), (q17, .inl (cI, 97, .inl (fun _ => 0)))] H := hP
  have hD : va_D A [(h0, .inr (11, [.int 0, .ref q1, .int 0, .int 0, .int 0, .int 0, .ref q2, .ref q3, .ref q4, .ref q5, .ref q6, .ref q7, .ref q8, .int 0, .int 0, .ref q9, .ref q10, .ref q11, .ref q12, .ref q13, .int 0, .int 0, .ref q14, .ref q15, .ref q16, .int 0, .int 0, .ref q17, .null, .int 0, .int 0, .null, .int 0, .long 0, .null, .int 0, .int 0, .null, .null, .null, .int 0])), (q1, .inl (cI, 240, .inl (fun _ => 0))), (q2, .inl (cI, 2600, .inl (fun _ => 0))), (q3, .inl (cI, 2600, .inl (fun _ => 0))), (q4, .inl (cI, 5, .inl (fun _ => 0))), (q5, .inl (cI, 5, .inl (fun _ => 0))), (q6, .inl (cI, 700, .inl (fun _ => 0))), (q7, .inl (cI, 700, .inl (fun _ => 0))), (q8, .inl (cI, 700, .inl (fun _ => 0))), (q9, .inl (cI, 6, .inl (fun _ => 0))), (q10, .inl (cI, 80, .inl (fun _ => 0))), (q11, .inl (cI, 3, .inl (fun _ => 0))), (q12, .inl (cI, 24, .inl (fun _ => 0))), (q13, .inl (cI, 20, .inl (fun _ => 0))), (q14, .inl (cI, 3, .inl (fun _ => 0))), (q15, .inl (cI, 24, .inl (fun _ => 0))), (q16, .inl (cI, 20, .inl (fun _ => 0))), (q17, .inl (cI, 97, .inl (fun _ => 0)))] := hD
  refine lv_aload_n hx hb dX11_init_142 rfl (lv_at hl 0 rfl) ?_
  refine lv_iconst (v := 5) hx hb dX11_init_143 (by decide) ?_
  refine va_newa (atype := .int) (ty := .int) (N' := 5) (a0 := (5, .inl (fun _ => 0))) hx hb (hts _ qw147) rfl hK hP hD hS hA (fun _ => rfl) (by decide) (by decide) (Nat.le_of_ble_eq_true rfl) (Nat.le_of_ble_eq_true rfl) (Nat.le_of_ble_eq_true rfl) dX11_init_144 (fun q18 cA H hK2 hP hD hS => ?_)
  obtain rfl : cI = cA := (zcA hK2 0 2 rfl rfl).symm
  have hP : va_P (dC, dI) vwCl [(h0, .inr (11, [.int 0, .ref q1, .int 0, .int 0, .int 0, .int 0, .ref q2, .ref q3, .ref q4, .ref q5, .ref q6, .ref q7, .ref q8, .int 0, .int 0, .ref q9, .ref q10, .ref q11, .ref q12, .ref q13, .int 0, .int 0, .ref q14, .ref q15, .ref q16, .int 0, .int 0, .ref q17, .null, .int 0, .int 0, .null, .int 0, .long 0, .null, .int 0, .int 0, .null, .null, .null, .int 0])), (q1, .inl (cI, 240, .inl (fun _ => 0))), (q2, .inl (cI, 2600, .inl (fun _ => 0))), (q3, .inl (cI, 2600, .inl (fun _ => 0))), (q4, .inl (cI, 5, .inl (fun _ => 0))), (q5, .inl (cI, 5, .inl (fun _ => 0))), (q6, .inl (cI, 700, .inl (fun _ => 0))), (q7, .inl (cI, 700, .inl (fun _ => 0))), (q8, .inl (cI, 700, .inl (fun _ => 0))), (q9, .inl (cI, 6, .inl (fun _ => 0))), (q10, .inl (cI, 80, .inl (fun _ => 0))), (q11, .inl (cI, 3, .inl (fun _ => 0))), (q12, .inl (cI, 24, .inl (fun _ => 0))), (q13, .inl (cI, 20, .inl (fun _ => 0))), (q14, .inl (cI, 3, .inl (fun _ => 0))), (q15, .inl (cI, 24, .inl (fun _ => 0))), (q16, .inl (cI, 20, .inl (fun _ => 0))), (q17, .inl (cI, 97, .inl (fun _ => 0))), (q18, .inl (cI, 5, .inl (fun _ => 0)))] H := hP
  have hD : va_D A [(h0, .inr (11, [.int 0, .ref q1, .int 0, .int 0, .int 0, .int 0, .ref q2, .ref q3, .ref q4, .ref q5, .ref q6, .ref q7, .ref q8, .int 0, .int 0, .ref q9, .ref q10, .ref q11, .ref q12, .ref q13, .int 0, .int 0, .ref q14, .ref q15, .ref q16, .int 0, .int 0, .ref q17, .null, .int 0, .int 0, .null, .int 0, .long 0, .null, .int 0, .int 0, .null, .null, .null, .int 0])), (q1, .inl (cI, 240, .inl (fun _ => 0))), (q2, .inl (cI, 2600, .inl (fun _ => 0))), (q3, .inl (cI, 2600, .inl (fun _ => 0))), (q4, .inl (cI, 5, .inl (fun _ => 0))), (q5, .inl (cI, 5, .inl (fun _ => 0))), (q6, .inl (cI, 700, .inl (fun _ => 0))), (q7, .inl (cI, 700, .inl (fun _ => 0))), (q8, .inl (cI, 700, .inl (fun _ => 0))), (q9, .inl (cI, 6, .inl (fun _ => 0))), (q10, .inl (cI, 80, .inl (fun _ => 0))), (q11, .inl (cI, 3, .inl (fun _ => 0))), (q12, .inl (cI, 24, .inl (fun _ => 0))), (q13, .inl (cI, 20, .inl (fun _ => 0))), (q14, .inl (cI, 3, .inl (fun _ => 0))), (q15, .inl (cI, 24, .inl (fun _ => 0))), (q16, .inl (cI, 20, .inl (fun _ => 0))), (q17, .inl (cI, 97, .inl (fun _ => 0))), (q18, .inl (cI, 5, .inl (fun _ => 0)))] := hD
  refine W.widen (k := 18) (n := 7832) (Nat.le_of_ble_eq_true rfl) (Nat.le_of_ble_eq_true rfl) ?_
  refine va_putF (D := (dC, dI)) (ci := 11) (v := .ref q18) (ty := .array .int) (C := RX11) (T := TX11) (N := 41) hx hb hts iX11 tyX11 tyX11_ok nmX11 hown hK hP hD hS 0 rfl rfl 28 (by decide) (hts _ qw1155) (fun _ h9 => h9) rfl hin rfl (by decide +kernel) rfl rfl (Nat.le_of_ble_eq_true rfl) dX11_init_146 (fun H locs hP hD hS => ?_)
  have hP : va_P (dC, dI) vwCl [(h0, .inr (11, [.int 0, .ref q1, .int 0, .int 0, .int 0, .int 0, .ref q2, .ref q3, .ref q4, .ref q5, .ref q6, .ref q7, .ref q8, .int 0, .int 0, .ref q9, .ref q10, .ref q11, .ref q12, .ref q13, .int 0, .int 0, .ref q14, .ref q15, .ref q16, .int 0, .int 0, .ref q17, .ref q18, .int 0, .int 0, .null, .int 0, .long 0, .null, .int 0, .int 0, .null, .null, .null, .int 0])), (q1, .inl (cI, 240, .inl (fun _ => 0))), (q2, .inl (cI, 2600, .inl (fun _ => 0))), (q3, .inl (cI, 2600, .inl (fun _ => 0))), (q4, .inl (cI, 5, .inl (fun _ => 0))), (q5, .inl (cI, 5, .inl (fun _ => 0))), (q6, .inl (cI, 700, .inl (fun _ => 0))), (q7, .inl (cI, 700, .inl (fun _ => 0))), (q8, .inl (cI, 700, .inl (fun _ => 0))), (q9, .inl (cI, 6, .inl (fun _ => 0))), (q10, .inl (cI, 80, .inl (fun _ => 0))), (q11, .inl (cI, 3, .inl (fun _ => 0))), (q12, .inl (cI, 24, .inl (fun _ => 0))), (q13, .inl (cI, 20, .inl (fun _ => 0))), (q14, .inl (cI, 3, .inl (fun _ => 0))), (q15, .inl (cI, 24, .inl (fun _ => 0))), (q16, .inl (cI, 20, .inl (fun _ => 0))), (q17, .inl (cI, 97, .inl (fun _ => 0))), (q18, .inl (cI, 5, .inl (fun _ => 0)))] H := hP
  have hD : va_D A [(h0, .inr (11, [.int 0, .ref q1, .int 0, .int 0, .int 0, .int 0, .ref q2, .ref q3, .ref q4, .ref q5, .ref q6, .ref q7, .ref q8, .int 0, .int 0, .ref q9, .ref q10, .ref q11, .ref q12, .ref q13, .int 0, .int 0, .ref q14, .ref q15, .ref q16, .int 0, .int 0, .ref q17, .ref q18, .int 0, .int 0, .null, .int 0, .long 0, .null, .int 0, .int 0, .null, .null, .null, .int 0])), (q1, .inl (cI, 240, .inl (fun _ => 0))), (q2, .inl (cI, 2600, .inl (fun _ => 0))), (q3, .inl (cI, 2600, .inl (fun _ => 0))), (q4, .inl (cI, 5, .inl (fun _ => 0))), (q5, .inl (cI, 5, .inl (fun _ => 0))), (q6, .inl (cI, 700, .inl (fun _ => 0))), (q7, .inl (cI, 700, .inl (fun _ => 0))), (q8, .inl (cI, 700, .inl (fun _ => 0))), (q9, .inl (cI, 6, .inl (fun _ => 0))), (q10, .inl (cI, 80, .inl (fun _ => 0))), (q11, .inl (cI, 3, .inl (fun _ => 0))), (q12, .inl (cI, 24, .inl (fun _ => 0))), (q13, .inl (cI, 20, .inl (fun _ => 0))), (q14, .inl (cI, 3, .inl (fun _ => 0))), (q15, .inl (cI, 24, .inl (fun _ => 0))), (q16, .inl (cI, 20, .inl (fun _ => 0))), (q17, .inl (cI, 97, .inl (fun _ => 0))), (q18, .inl (cI, 5, .inl (fun _ => 0)))] := hD
  refine lv_aload_n hx hb dX11_init_149 rfl (lv_at hl 0 rfl) ?_
  refine lv_iconst (v := (-1)) hx hb dX11_init_150 (by decide) ?_
  refine va_put (D := (dC, dI)) (ci := 11) (v := .int (-1)) (ty := .int) (C := RX11) (T := TX11) (N := 41) hx hb hts iX11 tyX11 tyX11_ok nmX11 hown hK hP hD hS 0 rfl rfl 29 (by decide) (hts _ qw1156) (fun _ h9 => h9) rfl (by decide +kernel) rfl rfl (Nat.le_of_ble_eq_true rfl) dX11_init_151 (fun H locs hP hD hS => ?_)
  have hP : va_P (dC, dI) vwCl [(h0, .inr (11, [.int 0, .ref q1, .int 0, .int 0, .int 0, .int 0, .ref q2, .ref q3, .ref q4, .ref q5, .ref q6, .ref q7, .ref q8, .int 0, .int 0, .ref q9, .ref q10, .ref q11, .ref q12, .ref q13, .int 0, .int 0, .ref q14, .ref q15, .ref q16, .int 0, .int 0, .ref q17, .ref q18, .int (-1), .int 0, .null, .int 0, .long 0, .null, .int 0, .int 0, .null, .null, .null, .int 0])), (q1, .inl (cI, 240, .inl (fun _ => 0))), (q2, .inl (cI, 2600, .inl (fun _ => 0))), (q3, .inl (cI, 2600, .inl (fun _ => 0))), (q4, .inl (cI, 5, .inl (fun _ => 0))), (q5, .inl (cI, 5, .inl (fun _ => 0))), (q6, .inl (cI, 700, .inl (fun _ => 0))), (q7, .inl (cI, 700, .inl (fun _ => 0))), (q8, .inl (cI, 700, .inl (fun _ => 0))), (q9, .inl (cI, 6, .inl (fun _ => 0))), (q10, .inl (cI, 80, .inl (fun _ => 0))), (q11, .inl (cI, 3, .inl (fun _ => 0))), (q12, .inl (cI, 24, .inl (fun _ => 0))), (q13, .inl (cI, 20, .inl (fun _ => 0))), (q14, .inl (cI, 3, .inl (fun _ => 0))), (q15, .inl (cI, 24, .inl (fun _ => 0))), (q16, .inl (cI, 20, .inl (fun _ => 0))), (q17, .inl (cI, 97, .inl (fun _ => 0))), (q18, .inl (cI, 5, .inl (fun _ => 0)))] H := hP
  have hD : va_D A [(h0, .inr (11, [.int 0, .ref q1, .int 0, .int 0, .int 0, .int 0, .ref q2, .ref q3, .ref q4, .ref q5, .ref q6, .ref q7, .ref q8, .int 0, .int 0, .ref q9, .ref q10, .ref q11, .ref q12, .ref q13, .int 0, .int 0, .ref q14, .ref q15, .ref q16, .int 0, .int 0, .ref q17, .ref q18, .int (-1), .int 0, .null, .int 0, .long 0, .null, .int 0, .int 0, .null, .null, .null, .int 0])), (q1, .inl (cI, 240, .inl (fun _ => 0))), (q2, .inl (cI, 2600, .inl (fun _ => 0))), (q3, .inl (cI, 2600, .inl (fun _ => 0))), (q4, .inl (cI, 5, .inl (fun _ => 0))), (q5, .inl (cI, 5, .inl (fun _ => 0))), (q6, .inl (cI, 700, .inl (fun _ => 0))), (q7, .inl (cI, 700, .inl (fun _ => 0))), (q8, .inl (cI, 700, .inl (fun _ => 0))), (q9, .inl (cI, 6, .inl (fun _ => 0))), (q10, .inl (cI, 80, .inl (fun _ => 0))), (q11, .inl (cI, 3, .inl (fun _ => 0))), (q12, .inl (cI, 24, .inl (fun _ => 0))), (q13, .inl (cI, 20, .inl (fun _ => 0))), (q14, .inl (cI, 3, .inl (fun _ => 0))), (q15, .inl (cI, 24, .inl (fun _ => 0))), (q16, .inl (cI, 20, .inl (fun _ => 0))), (q17, .inl (cI, 97, .inl (fun _ => 0))), (q18, .inl (cI, 5, .inl (fun _ => 0)))] := hD
  refine lv_aload_n hx hb dX11_init_154 rfl (lv_at hl 0 rfl) ?_
  refine lv_sipush (v := 3880) hx hb dX11_init_155 (by decide) ?_
  refine va_newa (atype := .int) (ty := .int) (N' := 3880) (a0 := (3880, .inl (fun _ => 0))) hx hb (hts _ qw147) rfl hK hP hD hS hA (fun _ => rfl) (by decide) (by decide) (Nat.le_of_ble_eq_true rfl) (Nat.le_of_ble_eq_true rfl) (Nat.le_of_ble_eq_true rfl) dX11_init_158 (fun q19 cA H hK2 hP hD hS => ?_)
  obtain rfl : cI = cA := (zcA hK2 0 2 rfl rfl).symm
  have hP : va_P (dC, dI) vwCl [(h0, .inr (11, [.int 0, .ref q1, .int 0, .int 0, .int 0, .int 0, .ref q2, .ref q3, .ref q4, .ref q5, .ref q6, .ref q7, .ref q8, .int 0, .int 0, .ref q9, .ref q10, .ref q11, .ref q12, .ref q13, .int 0, .int 0, .ref q14, .ref q15, .ref q16, .int 0, .int 0, .ref q17, .ref q18, .int (-1), .int 0, .null, .int 0, .long 0, .null, .int 0, .int 0, .null, .null, .null, .int 0])), (q1, .inl (cI, 240, .inl (fun _ => 0))), (q2, .inl (cI, 2600, .inl (fun _ => 0))), (q3, .inl (cI, 2600, .inl (fun _ => 0))), (q4, .inl (cI, 5, .inl (fun _ => 0))), (q5, .inl (cI, 5, .inl (fun _ => 0))), (q6, .inl (cI, 700, .inl (fun _ => 0))), (q7, .inl (cI, 700, .inl (fun _ => 0))), (q8, .inl (cI, 700, .inl (fun _ => 0))), (q9, .inl (cI, 6, .inl (fun _ => 0))), (q10, .inl (cI, 80, .inl (fun _ => 0))), (q11, .inl (cI, 3, .inl (fun _ => 0))), (q12, .inl (cI, 24, .inl (fun _ => 0))), (q13, .inl (cI, 20, .inl (fun _ => 0))), (q14, .inl (cI, 3, .inl (fun _ => 0))), (q15, .inl (cI, 24, .inl (fun _ => 0))), (q16, .inl (cI, 20, .inl (fun _ => 0))), (q17, .inl (cI, 97, .inl (fun _ => 0))), (q18, .inl (cI, 5, .inl (fun _ => 0))), (q19, .inl (cI, 3880, .inl (fun _ => 0)))] H := hP
  have hD : va_D A [(h0, .inr (11, [.int 0, .ref q1, .int 0, .int 0, .int 0, .int 0, .ref q2, .ref q3, .ref q4, .ref q5, .ref q6, .ref q7, .ref q8, .int 0, .int 0, .ref q9, .ref q10, .ref q11, .ref q12, .ref q13, .int 0, .int 0, .ref q14, .ref q15, .ref q16, .int 0, .int 0, .ref q17, .ref q18, .int (-1), .int 0, .null, .int 0, .long 0, .null, .int 0, .int 0, .null, .null, .null, .int 0])), (q1, .inl (cI, 240, .inl (fun _ => 0))), (q2, .inl (cI, 2600, .inl (fun _ => 0))), (q3, .inl (cI, 2600, .inl (fun _ => 0))), (q4, .inl (cI, 5, .inl (fun _ => 0))), (q5, .inl (cI, 5, .inl (fun _ => 0))), (q6, .inl (cI, 700, .inl (fun _ => 0))), (q7, .inl (cI, 700, .inl (fun _ => 0))), (q8, .inl (cI, 700, .inl (fun _ => 0))), (q9, .inl (cI, 6, .inl (fun _ => 0))), (q10, .inl (cI, 80, .inl (fun _ => 0))), (q11, .inl (cI, 3, .inl (fun _ => 0))), (q12, .inl (cI, 24, .inl (fun _ => 0))), (q13, .inl (cI, 20, .inl (fun _ => 0))), (q14, .inl (cI, 3, .inl (fun _ => 0))), (q15, .inl (cI, 24, .inl (fun _ => 0))), (q16, .inl (cI, 20, .inl (fun _ => 0))), (q17, .inl (cI, 97, .inl (fun _ => 0))), (q18, .inl (cI, 5, .inl (fun _ => 0))), (q19, .inl (cI, 3880, .inl (fun _ => 0)))] := hD
  refine W.widen (k := 19) (n := 11712) (Nat.le_of_ble_eq_true rfl) (Nat.le_of_ble_eq_true rfl) ?_
  refine va_putF (D := (dC, dI)) (ci := 11) (v := .ref q19) (ty := .array .int) (C := RX11) (T := TX11) (N := 41) hx hb hts iX11 tyX11 tyX11_ok nmX11 hown hK hP hD hS 0 rfl rfl 31 (by decide) (hts _ qw1158) (fun _ h9 => h9) rfl hin rfl (by decide +kernel) rfl rfl (Nat.le_of_ble_eq_true rfl) dX11_init_160 (fun H locs hP hD hS => ?_)
  have hP : va_P (dC, dI) vwCl [(h0, .inr (11, [.int 0, .ref q1, .int 0, .int 0, .int 0, .int 0, .ref q2, .ref q3, .ref q4, .ref q5, .ref q6, .ref q7, .ref q8, .int 0, .int 0, .ref q9, .ref q10, .ref q11, .ref q12, .ref q13, .int 0, .int 0, .ref q14, .ref q15, .ref q16, .int 0, .int 0, .ref q17, .ref q18, .int (-1), .int 0, .ref q19, .int 0, .long 0, .null, .int 0, .int 0, .null, .null, .null, .int 0])), (q1, .inl (cI, 240, .inl (fun _ => 0))), (q2, .inl (cI, 2600, .inl (fun _ => 0))), (q3, .inl (cI, 2600, .inl (fun _ => 0))), (q4, .inl (cI, 5, .inl (fun _ => 0))), (q5, .inl (cI, 5, .inl (fun _ => 0))), (q6, .inl (cI, 700, .inl (fun _ => 0))), (q7, .inl (cI, 700, .inl (fun _ => 0))), (q8, .inl (cI, 700, .inl (fun _ => 0))), (q9, .inl (cI, 6, .inl (fun _ => 0))), (q10, .inl (cI, 80, .inl (fun _ => 0))), (q11, .inl (cI, 3, .inl (fun _ => 0))), (q12, .inl (cI, 24, .inl (fun _ => 0))), (q13, .inl (cI, 20, .inl (fun _ => 0))), (q14, .inl (cI, 3, .inl (fun _ => 0))), (q15, .inl (cI, 24, .inl (fun _ => 0))), (q16, .inl (cI, 20, .inl (fun _ => 0))), (q17, .inl (cI, 97, .inl (fun _ => 0))), (q18, .inl (cI, 5, .inl (fun _ => 0))), (q19, .inl (cI, 3880, .inl (fun _ => 0)))] H := hP
  have hD : va_D A [(h0, .inr (11, [.int 0, .ref q1, .int 0, .int 0, .int 0, .int 0, .ref q2, .ref q3, .ref q4, .ref q5, .ref q6, .ref q7, .ref q8, .int 0, .int 0, .ref q9, .ref q10, .ref q11, .ref q12, .ref q13, .int 0, .int 0, .ref q14, .ref q15, .ref q16, .int 0, .int 0, .ref q17, .ref q18, .int (-1), .int 0, .ref q19, .int 0, .long 0, .null, .int 0, .int 0, .null, .null, .null, .int 0])), (q1, .inl (cI, 240, .inl (fun _ => 0))), (q2, .inl (cI, 2600, .inl (fun _ => 0))), (q3, .inl (cI, 2600, .inl (fun _ => 0))), (q4, .inl (cI, 5, .inl (fun _ => 0))), (q5, .inl (cI, 5, .inl (fun _ => 0))), (q6, .inl (cI, 700, .inl (fun _ => 0))), (q7, .inl (cI, 700, .inl (fun _ => 0))), (q8, .inl (cI, 700, .inl (fun _ => 0))), (q9, .inl (cI, 6, .inl (fun _ => 0))), (q10, .inl (cI, 80, .inl (fun _ => 0))), (q11, .inl (cI, 3, .inl (fun _ => 0))), (q12, .inl (cI, 24, .inl (fun _ => 0))), (q13, .inl (cI, 20, .inl (fun _ => 0))), (q14, .inl (cI, 3, .inl (fun _ => 0))), (q15, .inl (cI, 24, .inl (fun _ => 0))), (q16, .inl (cI, 20, .inl (fun _ => 0))), (q17, .inl (cI, 97, .inl (fun _ => 0))), (q18, .inl (cI, 5, .inl (fun _ => 0))), (q19, .inl (cI, 3880, .inl (fun _ => 0)))] := hD
  refine lv_aload_n hx hb dX11_init_163 rfl (lv_at hl 0 rfl) ?_
  refine lv_bipush (v := 10) hx hb dX11_init_164 (by decide) ?_
  refine va_newa (atype := .int) (ty := .int) (N' := 10) (a0 := (10, .inl (fun _ => 0))) hx hb (hts _ qw147) rfl hK hP hD hS hA (fun _ => rfl) (by decide) (by decide) (Nat.le_of_ble_eq_true rfl) (Nat.le_of_ble_eq_true rfl) (Nat.le_of_ble_eq_true rfl) dX11_init_166 (fun q20 cA H hK2 hP hD hS => ?_)
  obtain rfl : cI = cA := (zcA hK2 0 2 rfl rfl).symm
  have hP : va_P (dC, dI) vwCl [(h0, .inr (11, [.int 0, .ref q1, .int 0, .int 0, .int 0, .int 0, .ref q2, .ref q3, .ref q4, .ref q5, .ref q6, .ref q7, .ref q8, .int 0, .int 0, .ref q9, .ref q10, .ref q11, .ref q12, .ref q13, .int 0, .int 0, .ref q14, .ref q15, .ref q16, .int 0, .int 0, .ref q17, .ref q18, .int (-1), .int 0, .ref q19, .int 0, .long 0, .null, .int 0, .int 0, .null, .null, .null, .int 0])), (q1, .inl (cI, 240, .inl (fun _ => 0))), (q2, .inl (cI, 2600, .inl (fun _ => 0))), (q3, .inl (cI, 2600, .inl (fun _ => 0))), (q4, .inl (cI, 5, .inl (fun _ => 0))), (q5, .inl (cI, 5, .inl (fun _ => 0))), (q6, .inl (cI, 700, .inl (fun _ => 0))), (q7, .inl (cI, 700, .inl (fun _ => 0))), (q8, .inl (cI, 700, .inl (fun _ => 0))), (q9, .inl (cI, 6, .inl (fun _ => 0))), (q10, .inl (cI, 80, .inl (fun _ => 0))), (q11, .inl (cI, 3, .inl (fun _ => 0))), (q12, .inl (cI, 24, .inl (fun _ => 0))), (q13, .inl (cI, 20, .inl (fun _ => 0))), (q14, .inl (cI, 3, .inl (fun _ => 0))), (q15, .inl (cI, 24, .inl (fun _ => 0))), (q16, .inl (cI, 20, .inl (fun _ => 0))), (q17, .inl (cI, 97, .inl (fun _ => 0))), (q18, .inl (cI, 5, .inl (fun _ => 0))), (q19, .inl (cI, 3880, .inl (fun _ => 0))), (q20, .inl (cI, 10, .inl (fun _ => 0)))] H := hP
  have hD : va_D A [(h0, .inr (11, [.int 0, .ref q1, .int 0, .int 0, .int 0, .int 0, .ref q2, .ref q3, .ref q4, .ref q5, .ref q6, .ref q7, .ref q8, .int 0, .int 0, .ref q9, .ref q10, .ref q11, .ref q12, .ref q13, .int 0, .int 0, .ref q14, .ref q15, .ref q16, .int 0, .int 0, .ref q17, .ref q18, .int (-1), .int 0, .ref q19, .int 0, .long 0, .null, .int 0, .int 0, .null, .null, .null, .int 0])), (q1, .inl (cI, 240, .inl (fun _ => 0))), (q2, .inl (cI, 2600, .inl (fun _ => 0))), (q3, .inl (cI, 2600, .inl (fun _ => 0))), (q4, .inl (cI, 5, .inl (fun _ => 0))), (q5, .inl (cI, 5, .inl (fun _ => 0))), (q6, .inl (cI, 700, .inl (fun _ => 0))), (q7, .inl (cI, 700, .inl (fun _ => 0))), (q8, .inl (cI, 700, .inl (fun _ => 0))), (q9, .inl (cI, 6, .inl (fun _ => 0))), (q10, .inl (cI, 80, .inl (fun _ => 0))), (q11, .inl (cI, 3, .inl (fun _ => 0))), (q12, .inl (cI, 24, .inl (fun _ => 0))), (q13, .inl (cI, 20, .inl (fun _ => 0))), (q14, .inl (cI, 3, .inl (fun _ => 0))), (q15, .inl (cI, 24, .inl (fun _ => 0))), (q16, .inl (cI, 20, .inl (fun _ => 0))), (q17, .inl (cI, 97, .inl (fun _ => 0))), (q18, .inl (cI, 5, .inl (fun _ => 0))), (q19, .inl (cI, 3880, .inl (fun _ => 0))), (q20, .inl (cI, 10, .inl (fun _ => 0)))] := hD
  refine W.widen (k := 20) (n := 11722) (Nat.le_of_ble_eq_true rfl) (Nat.le_of_ble_eq_true rfl) ?_
  refine va_putF (D := (dC, dI)) (ci := 11) (v := .ref q20) (ty := .array .int) (C := RX11) (T := TX11) (N := 41) hx hb hts iX11 tyX11 tyX11_ok nmX11 hown hK hP hD hS 0 rfl rfl 34 (by decide) (hts _ qw1161) (fun _ h9 => h9) rfl hin rfl (by decide +kernel) rfl rfl (Nat.le_of_ble_eq_true rfl) dX11_init_168 (fun H locs hP hD hS => ?_)
  have hP : va_P (dC, dI) vwCl [(h0, .inr (11, [.int 0, .ref q1, .int 0, .int 0, .int 0, .int 0, .ref q2, .ref q3, .ref q4, .ref q5, .ref q6, .ref q7, .ref q8, .int 0, .int 0, .ref q9, .ref q10, .ref q11, .ref q12, .ref q13, .int 0, .int 0, .ref q14, .ref q15, .ref q16, .int 0, .int 0, .ref q17, .ref q18, .int (-1), .int 0, .ref q19, .int 0, .long 0, .ref q20, .int 0, .int 0, .null, .null, .null, .int 0])), (q1, .inl (cI, 240, .inl (fun _ => 0))), (q2, .inl (cI, 2600, .inl (fun _ => 0))), (q3, .inl (cI, 2600, .inl (fun _ => 0))), (q4, .inl (cI, 5, .inl (fun _ => 0))), (q5, .inl (cI, 5, .inl (fun _ => 0))), (q6, .inl (cI, 700, .inl (fun _ => 0))), (q7, .inl (cI, 700, .inl (fun _ => 0))), (q8, .inl (cI, 700, .inl (fun _ => 0))), (q9, .inl (cI, 6, .inl (fun _ => 0))), (q10, .inl (cI, 80, .inl (fun _ => 0))), (q11, .inl (cI, 3, .inl (fun _ => 0))), (q12, .inl (cI, 24, .inl (fun _ => 0))), (q13, .inl (cI, 20, .inl (fun _ => 0))), (q14, .inl (cI, 3, .inl (fun _ => 0))), (q15, .inl (cI, 24, .inl (fun _ => 0))), (q16, .inl (cI, 20, .inl (fun _ => 0))), (q17, .inl (cI, 97, .inl (fun _ => 0))), (q18, .inl (cI, 5, .inl (fun _ => 0))), (q19, .inl (cI, 3880, .inl (fun _ => 0))), (q20, .inl (cI, 10, .inl (fun _ => 0)))] H := hP
  have hD : va_D A [(h0, .inr (11, [.int 0, .ref q1, .int 0, .int 0, .int 0, .int 0, .ref q2, .ref q3, .ref q4, .ref q5, .ref q6, .ref q7, .ref q8, .int 0, .int 0, .ref q9, .ref q10, .ref q11, .ref q12, .ref q13, .int 0, .int 0, .ref q14, .ref q15, .ref q16, .int 0, .int 0, .ref q17, .ref q18, .int (-1), .int 0, .ref q19, .int 0, .long 0, .ref q20, .int 0, .int 0, .null, .null, .null, .int 0])), (q1, .inl (cI, 240, .inl (fun _ => 0))), (q2, .inl (cI, 2600, .inl (fun _ => 0))), (q3, .inl (cI, 2600, .inl (fun _ => 0))), (q4, .inl (cI, 5, .inl (fun _ => 0))), (q5, .inl (cI, 5, .inl (fun _ => 0))), (q6, .inl (cI, 700, .inl (fun _ => 0))), (q7, .inl (cI, 700, .inl (fun _ => 0))), (q8, .inl (cI, 700, .inl (fun _ => 0))), (q9, .inl (cI, 6, .inl (fun _ => 0))), (q10, .inl (cI, 80, .inl (fun _ => 0))), (q11, .inl (cI, 3, .inl (fun _ => 0))), (q12, .inl (cI, 24, .inl (fun _ => 0))), (q13, .inl (cI, 20, .inl (fun _ => 0))), (q14, .inl (cI, 3, .inl (fun _ => 0))), (q15, .inl (cI, 24, .inl (fun _ => 0))), (q16, .inl (cI, 20, .inl (fun _ => 0))), (q17, .inl (cI, 97, .inl (fun _ => 0))), (q18, .inl (cI, 5, .inl (fun _ => 0))), (q19, .inl (cI, 3880, .inl (fun _ => 0))), (q20, .inl (cI, 10, .inl (fun _ => 0)))] := hD
  refine lv_aload_n hx hb dX11_init_171 rfl (lv_at hl 0 rfl) ?_
  refine lv_bipush (v := 6) hx hb dX11_init_172 (by decide) ?_
  refine va_newa (atype := .int) (ty := .int) (N' := 6) (a0 := (6, .inl (fun _ => 0))) hx hb (hts _ qw147) rfl hK hP hD hS hA (fun _ => rfl) (by decide) (by decide) (Nat.le_of_ble_eq_true rfl) (Nat.le_of_ble_eq_true rfl) (Nat.le_of_ble_eq_true rfl) dX11_init_174 (fun q21 cA H hK2 hP hD hS => ?_)
  obtain rfl : cI = cA := (zcA hK2 0 2 rfl rfl).symm
  have hP : va_P (dC, dI) vwCl [(h0, .inr (11, [.int 0, .ref q1, .int 0, .int 0, .int 0, .int 0, .ref q2, .ref q3, .ref q4, .ref q5, .ref q6, .ref q7, .ref q8, .int 0, .int 0, .ref q9, .ref q10, .ref q11, .ref q12, .ref q13, .int 0, .int 0, .ref q14, .ref q15, .ref q16, .int 0, .int 0, .ref q17, .ref q18, .int (-1), .int 0, .ref q19, .int 0, .long 0, .ref q20, .int 0, .int 0, .null, .null, .null, .int 0])), (q1, .inl (cI, 240, .inl (fun _ => 0))), (q2, .inl (cI, 2600, .inl (fun _ => 0))), (q3, .inl (cI, 2600, .inl (fun _ => 0))), (q4, .inl (cI, 5, .inl (fun _ => 0))), (q5, .inl (cI, 5, .inl (fun _ => 0))), (q6, .inl (cI, 700, .inl (fun _ => 0))), (q7, .inl (cI, 700, .inl (fun _ => 0))), (q8, .inl (cI, 700, .inl (fun _ => 0))), (q9, .inl (cI, 6, .inl (fun _ => 0))), (q10, .inl (cI, 80, .inl (fun _ => 0))), (q11, .inl (cI, 3, .inl (fun _ => 0))), (q12, .inl (cI, 24, .inl (fun _ => 0))), (q13, .inl (cI, 20, .inl (fun _ => 0))), (q14, .inl (cI, 3, .inl (fun _ => 0))), (q15, .inl (cI, 24, .inl (fun _ => 0))), (q16, .inl (cI, 20, .inl (fun _ => 0))), (q17, .inl (cI, 97, .inl (fun _ => 0))), (q18, .inl (cI, 5, .inl (fun _ => 0))), (q19, .inl (cI, 3880, .inl (fun _ => 0))), (q20, .inl (cI, 10, .inl (fun _ => 0))), (q21, .inl (cI, 6, .inl (fun _ => 0)))] H := hP
  have hD : va_D A [(h0, .inr (11, [.int 0, .ref q1, .int 0, .int 0, .int 0, .int 0, .ref q2, .ref q3, .ref q4, .ref q5, .ref q6, .ref q7, .ref q8, .int 0, .int 0, .ref q9, .ref q10, .ref q11, .ref q12, .ref q13, .int 0, .int 0, .ref q14, .ref q15, .ref q16, .int 0, .int 0, .ref q17, .ref q18, .int (-1), .int 0, .ref q19, .int 0, .long 0, .ref q20, .int 0, .int 0, .null, .null, .null, .int 0])), (q1, .inl (cI, 240, .inl (fun _ => 0))), (q2, .inl (cI, 2600, .inl (fun _ => 0))), (q3, .inl (cI, 2600, .inl (fun _ => 0))), (q4, .inl (cI, 5, .inl (fun _ => 0))), (q5, .inl (cI, 5, .inl (fun _ => 0))), (q6, .inl (cI, 700, .inl (fun _ => 0))), (q7, .inl (cI, 700, .inl (fun _ => 0))), (q8, .inl (cI, 700, .inl (fun _ => 0))), (q9, .inl (cI, 6, .inl (fun _ => 0))), (q10, .inl (cI, 80, .inl (fun _ => 0))), (q11, .inl (cI, 3, .inl (fun _ => 0))), (q12, .inl (cI, 24, .inl (fun _ => 0))), (q13, .inl (cI, 20, .inl (fun _ => 0))), (q14, .inl (cI, 3, .inl (fun _ => 0))), (q15, .inl (cI, 24, .inl (fun _ => 0))), (q16, .inl (cI, 20, .inl (fun _ => 0))), (q17, .inl (cI, 97, .inl (fun _ => 0))), (q18, .inl (cI, 5, .inl (fun _ => 0))), (q19, .inl (cI, 3880, .inl (fun _ => 0))), (q20, .inl (cI, 10, .inl (fun _ => 0))), (q21, .inl (cI, 6, .inl (fun _ => 0)))] := hD
  refine W.widen (k := 21) (n := 11728) (Nat.le_of_ble_eq_true rfl) (Nat.le_of_ble_eq_true rfl) ?_
  refine va_putF (D := (dC, dI)) (ci := 11) (v := .ref q21) (ty := .array .int) (C := RX11) (T := TX11) (N := 41) hx hb hts iX11 tyX11 tyX11_ok nmX11 hown hK hP hD hS 0 rfl rfl 37 (by decide) (hts _ qw1164) (fun _ h9 => h9) rfl hin rfl (by decide +kernel) rfl rfl (Nat.le_of_ble_eq_true rfl) dX11_init_176 (fun H locs hP hD hS => ?_)
  have hP : va_P (dC, dI) vwCl [(h0, .inr (11, [.int 0, .ref q1, .int 0, .int 0, .int 0, .int 0, .ref q2, .ref q3, .ref q4, .ref q5, .ref q6, .ref q7, .ref q8, .int 0, .int 0, .ref q9, .ref q10, .ref q11, .ref q12, .ref q13, .int 0, .int 0, .ref q14, .ref q15, .ref q16, .int 0, .int 0, .ref q17, .ref q18, .int (-1), .int 0, .ref q19, .int 0, .long 0, .ref q20, .int 0, .int 0, .ref q21, .null, .null, .int 0])), (q1, .inl (cI, 240, .inl (fun _ => 0))), (q2, .inl (cI, 2600, .inl (fun _ => 0))), (q3, .inl (cI, 2600, .inl (fun _ => 0))), (q4, .inl (cI, 5, .inl (fun _ => 0))), (q5, .inl (cI, 5, .inl (fun _ => 0))), (q6, .inl (cI, 700, .inl (fun _ => 0))), (q7, .inl (cI, 700, .inl (fun _ => 0))), (q8, .inl (cI, 700, .inl (fun _ => 0))), (q9, .inl (cI, 6, .inl (fun _ => 0))), (q10, .inl (cI, 80, .inl (fun _ => 0))), (q11, .inl (cI, 3, .inl (fun _ => 0))), (q12, .inl (cI, 24, .inl (fun _ => 0))), (q13, .inl (cI, 20, .inl (fun _ => 0))), (q14, .inl (cI, 3, .inl (fun _ => 0))), (q15, .inl (cI, 24, .inl (fun _ => 0))), (q16, .inl (cI, 20, .inl (fun _ => 0))), (q17, .inl (cI, 97, .inl (fun _ => 0))), (q18, .inl (cI, 5, .inl (fun _ => 0))), (q19, .inl (cI, 3880, .inl (fun _ => 0))), (q20, .inl (cI, 10, .inl (fun _ => 0))), (q21, .inl (cI, 6, .inl (fun _ => 0)))] H := hP
  have hD : va_D A [(h0, .inr (11, [.int 0, .ref q1, .int 0, .int 0, .int 0, .int 0, .ref q2, .ref q3, .ref q4, .ref q5, .ref q6, .ref q7, .ref q8, .int 0, .int 0, .ref q9, .ref q10, .ref q11, .ref q12, .ref q13, .int 0, .int 0, .ref q14, .ref q15, .ref q16, .int 0, .int 0, .ref q17, .ref q18, .int (-1), .int 0, .ref q19, .int 0, .long 0, .ref q20, .int 0, .int 0, .ref q21, .null, .null, .int 0])), (q1, .inl (cI, 240, .inl (fun _ => 0))), (q2, .inl (cI, 2600, .inl (fun _ => 0))), (q3, .inl (cI, 2600, .inl (fun _ => 0))), (q4, .inl (cI, 5, .inl (fun _ => 0))), (q5, .inl (cI, 5, .inl (fun _ => 0))), (q6, .inl (cI, 700, .inl (fun _ => 0))), (q7, .inl (cI, 700, .inl (fun _ => 0))), (q8, .inl (cI, 700, .inl (fun _ => 0))), (q9, .inl (cI, 6, .inl (fun _ => 0))), (q10, .inl (cI, 80, .inl (fun _ => 0))), (q11, .inl (cI, 3, .inl (fun _ => 0))), (q12, .inl (cI, 24, .inl (fun _ => 0))), (q13, .inl (cI, 20, .inl (fun _ => 0))), (q14, .inl (cI, 3, .inl (fun _ => 0))), (q15, .inl (cI, 24, .inl (fun _ => 0))), (q16, .inl (cI, 20, .inl (fun _ => 0))), (q17, .inl (cI, 97, .inl (fun _ => 0))), (q18, .inl (cI, 5, .inl (fun _ => 0))), (q19, .inl (cI, 3880, .inl (fun _ => 0))), (q20, .inl (cI, 10, .inl (fun _ => 0))), (q21, .inl (cI, 6, .inl (fun _ => 0)))] := hD
  refine lv_aload_n hx hb dX11_init_179 rfl (lv_at hl 0 rfl) ?_
  refine lv_iconst (v := 5) hx hb dX11_init_180 (by decide) ?_
  refine va_newa (atype := .int) (ty := .int) (N' := 5) (a0 := (5, .inl (fun _ => 0))) hx hb (hts _ qw147) rfl hK hP hD hS hA (fun _ => rfl) (by decide) (by decide) (Nat.le_of_ble_eq_true rfl) (Nat.le_of_ble_eq_true rfl) (Nat.le_of_ble_eq_true rfl) dX11_init_181 (fun q22 cA H hK2 hP hD hS => ?_)
  obtain rfl : cI = cA := (zcA hK2 0 2 rfl rfl).symm
  have hP : va_P (dC, dI) vwCl [(h0, .inr (11, [.int 0, .ref q1, .int 0, .int 0, .int 0, .int 0, .ref q2, .ref q3, .ref q4, .ref q5, .ref q6, .ref q7, .ref q8, .int 0, .int 0, .ref q9, .ref q10, .ref q11, .ref q12, .ref q13, .int 0, .int 0, .ref q14, .ref q15, .ref q16, .int 0, .int 0, .ref q17, .ref q18, .int (-1), .int 0, .ref q19, .int 0, .long 0, .ref q20, .int 0, .int 0, .ref q21, .null, .null, .int 0])), (q1, .inl (cI, 240, .inl (fun _ => 0))), (q2, .inl (cI, 2600, .inl (fun _ => 0))), (q3, .inl (cI, 2600, .inl (fun _ => 0))), (q4, .inl (cI, 5, .inl (fun _ => 0))), (q5, .inl (cI, 5, .inl (fun _ => 0))), (q6, .inl (cI, 700, .inl (fun _ => 0))), (q7, .inl (cI, 700, .inl (fun _ => 0))), (q8, .inl (cI, 700, .inl (fun _ => 0))), (q9, .inl (cI, 6, .inl (fun _ => 0))), (q10, .inl (cI, 80, .inl (fun _ => 0))), (q11, .inl (cI, 3, .inl (fun _ => 0))), (q12, .inl (cI, 24, .inl (fun _ => 0))), (q13, .inl (cI, 20, .inl (fun _ => 0))), (q14, .inl (cI, 3, .inl (fun _ => 0))), (q15, .inl (cI, 24, .inl (fun _ => 0))), (q16, .inl (cI, 20, .inl (fun _ => 0))), (q17, .inl (cI, 97, .inl (fun _ => 0))), (q18, .inl (cI, 5, .inl (fun _ => 0))), (q19, .inl (cI, 3880, .inl (fun _ => 0))), (q20, .inl (cI, 10, .inl (fun _ => 0))), (q21, .inl (cI, 6, .inl (fun _ => 0))), (q22, .inl (cI, 5, .inl (fun _ => 0)))] H := hP
  have hD : va_D A [(h0, .inr (11, [.int 0, .ref q1, .int 0, .int 0, .int 0, .int 0, .ref q2, .ref q3, .ref q4, .ref q5, .ref q6, .ref q7, .ref q8, .int 0, .int 0, .ref q9, .ref q10, .ref q11, .ref q12, .ref q13, .int 0, .int 0, .ref q14, .ref q15, .ref q16, .int 0, .int 0, .ref q17, .ref q18, .int (-1), .int 0, .ref q19, .int 0, .long 0, .ref q20, .int 0, .int 0, .ref q21, .null, .null, .int 0])), (q1, .inl (cI, 240, .inl (fun _ => 0))), (q2, .inl (cI, 2600, .inl (fun _ => 0))), (q3, .inl (cI, 2600, .inl (fun _ => 0))), (q4, .inl (cI, 5, .inl (fun _ => 0))), (q5, .inl (cI, 5, .inl (fun _ => 0))), (q6, .inl (cI, 700, .inl (fun _ => 0))), (q7, .inl (cI, 700, .inl (fun _ => 0))), (q8, .inl (cI, 700, .inl (fun _ => 0))), (q9, .inl (cI, 6, .inl (fun _ => 0))), (q10, .inl (cI, 80, .inl (fun _ => 0))), (q11, .inl (cI, 3, .inl (fun _ => 0))), (q12, .inl (cI, 24, .inl (fun _ => 0))), (q13, .inl (cI, 20, .inl (fun _ => 0))), (q14, .inl (cI, 3, .inl (fun _ => 0))), (q15, .inl (cI, 24, .inl (fun _ => 0))), (q16, .inl (cI, 20, .inl (fun _ => 0))), (q17, .inl (cI, 97, .inl (fun _ => 0))), (q18, .inl (cI, 5, .inl (fun _ => 0))), (q19, .inl (cI, 3880, .inl (fun _ => 0))), (q20, .inl (cI, 10, .inl (fun _ => 0))), (q21, .inl (cI, 6, .inl (fun _ => 0))), (q22, .inl (cI, 5, .inl (fun _ => 0)))] := hD
  refine W.widen (k := 22) (n := 11733) (Nat.le_of_ble_eq_true rfl) (Nat.le_of_ble_eq_true rfl) ?_
  refine va_putF (D := (dC, dI)) (ci := 11) (v := .ref q22) (ty := .array .int) (C := RX11) (T := TX11) (N := 41) hx hb hts iX11 tyX11 tyX11_ok nmX11 hown hK hP hD hS 0 rfl rfl 38 (by decide) (hts _ qw1165) (fun _ h9 => h9) rfl hin rfl (by decide +kernel) rfl rfl (Nat.le_of_ble_eq_true rfl) dX11_init_183 (fun H locs hP hD hS => ?_)
  have hP : va_P (dC, dI) vwCl [(h0, .inr (11, [.int 0, .ref q1, .int 0, .int 0, .int 0, .int 0, .ref q2, .ref q3, .ref q4, .ref q5, .ref q6, .ref q7, .ref q8, .int 0, .int 0, .ref q9, .ref q10, .ref q11, .ref q12, .ref q13, .int 0, .int 0, .ref q14, .ref q15, .ref q16, .int 0, .int 0, .ref q17, .ref q18, .int (-1), .int 0, .ref q19, .int 0, .long 0, .ref q20, .int 0, .int 0, .ref q21, .ref q22, .null, .int 0])), (q1, .inl (cI, 240, .inl (fun _ => 0))), (q2, .inl (cI, 2600, .inl (fun _ => 0))), (q3, .inl (cI, 2600, .inl (fun _ => 0))), (q4, .inl (cI, 5, .inl (fun _ => 0))), (q5, .inl (cI, 5, .inl (fun _ => 0))), (q6, .inl (cI, 700, .inl (fun _ => 0))), (q7, .inl (cI, 700, .inl (fun _ => 0))), (q8, .inl (cI, 700, .inl (fun _ => 0))), (q9, .inl (cI, 6, .inl (fun _ => 0))), (q10, .inl (cI, 80, .inl (fun _ => 0))), (q11, .inl (cI, 3, .inl (fun _ => 0))), (q12, .inl (cI, 24, .inl (fun _ => 0))), (q13, .inl (cI, 20, .inl (fun _ => 0))), (q14, .inl (cI, 3, .inl (fun _ => 0))), (q15, .inl (cI, 24, .inl (fun _ => 0))), (q16, .inl (cI, 20, .inl (fun _ => 0))), (q17, .inl (cI, 97, .inl (fun _ => 0))), (q18, .inl (cI, 5, .inl (fun _ => 0))), (q19, .inl (cI, 3880, .inl (fun _ => 0))), (q20, .inl (cI, 10, .inl (fun _ => 0))), (q21, .inl (cI, 6, .inl (fun _ => 0))), (q22, .inl (cI, 5, .inl (fun _ => 0)))] H := hP
  have hD : va_D A [(h0, .inr (11, [.int 0, .ref q1, .int 0, .int 0, .int 0, .int 0, .ref q2, .ref q3, .ref q4, .ref q5, .ref q6, .ref q7, .ref q8, .int 0, .int 0, .ref q9, .ref q10, .ref q11, .ref q12, .ref q13, .int 0, .int 0, .ref q14, .ref q15, .ref q16, .int 0, .int 0, .ref q17, .ref q18, .int (-1), .int 0, .ref q19, .int 0, .long 0, .ref q20, .int 0, .int 0, .ref q21, .ref q22, .null, .int 0])), (q1, .inl (cI, 240, .inl (fun _ => 0))), (q2, .inl (cI, 2600, .inl (fun _ => 0))), (q3, .inl (cI, 2600, .inl (fun _ => 0))), (q4, .inl (cI, 5, .inl (fun _ => 0))), (q5, .inl (cI, 5, .inl (fun _ => 0))), (q6, .inl (cI, 700, .inl (fun _ => 0))), (q7, .inl (cI, 700, .inl (fun _ => 0))), (q8, .inl (cI, 700, .inl (fun _ => 0))), (q9, .inl (cI, 6, .inl (fun _ => 0))), (q10, .inl (cI, 80, .inl (fun _ => 0))), (q11, .inl (cI, 3, .inl (fun _ => 0))), (q12, .inl (cI, 24, .inl (fun _ => 0))), (q13, .inl (cI, 20, .inl (fun _ => 0))), (q14, .inl (cI, 3, .inl (fun _ => 0))), (q15, .inl (cI, 24, .inl (fun _ => 0))), (q16, .inl (cI, 20, .inl (fun _ => 0))), (q17, .inl (cI, 97, .inl (fun _ => 0))), (q18, .inl (cI, 5, .inl (fun _ => 0))), (q19, .inl (cI, 3880, .inl (fun _ => 0))), (q20, .inl (cI, 10, .inl (fun _ => 0))), (q21, .inl (cI, 6, .inl (fun _ => 0))), (q22, .inl (cI, 5, .inl (fun _ => 0)))] := hD
  refine lv_aload_n hx hb dX11_init_186 rfl (lv_at hl 0 rfl) ?_
  refine lv_bipush (v := 97) hx hb dX11_init_187 (by decide) ?_
  refine va_newa (atype := .int) (ty := .int) (N' := 97) (a0 := (97, .inl (fun _ => 0))) hx hb (hts _ qw147) rfl hK hP hD hS hA (fun _ => rfl) (by decide) (by decide) (Nat.le_of_ble_eq_true rfl) (Nat.le_of_ble_eq_true rfl) (Nat.le_of_ble_eq_true rfl) dX11_init_189 (fun q23 cA H hK2 hP hD hS => ?_)
  obtain rfl : cI = cA := (zcA hK2 0 2 rfl rfl).symm
  have hP : va_P (dC, dI) vwCl [(h0, .inr (11, [.int 0, .ref q1, .int 0, .int 0, .int 0, .int 0, .ref q2, .ref q3, .ref q4, .ref q5, .ref q6, .ref q7, .ref q8, .int 0, .int 0, .ref q9, .ref q10, .ref q11, .ref q12, .ref q13, .int 0, .int 0, .ref q14, .ref q15, .ref q16, .int 0, .int 0, .ref q17, .ref q18, .int (-1), .int 0, .ref q19, .int 0, .long 0, .ref q20, .int 0, .int 0, .ref q21, .ref q22, .null, .int 0])), (q1, .inl (cI, 240, .inl (fun _ => 0))), (q2, .inl (cI, 2600, .inl (fun _ => 0))), (q3, .inl (cI, 2600, .inl (fun _ => 0))), (q4, .inl (cI, 5, .inl (fun _ => 0))), (q5, .inl (cI, 5, .inl (fun _ => 0))), (q6, .inl (cI, 700, .inl (fun _ => 0))), (q7, .inl (cI, 700, .inl (fun _ => 0))), (q8, .inl (cI, 700, .inl (fun _ => 0))), (q9, .inl (cI, 6, .inl (fun _ => 0))), (q10, .inl (cI, 80, .inl (fun _ => 0))), (q11, .inl (cI, 3, .inl (fun _ => 0))), (q12, .inl (cI, 24, .inl (fun _ => 0))), (q13, .inl (cI, 20, .inl (fun _ => 0))), (q14, .inl (cI, 3, .inl (fun _ => 0))), (q15, .inl (cI, 24, .inl (fun _ => 0))), (q16, .inl (cI, 20, .inl (fun _ => 0))), (q17, .inl (cI, 97, .inl (fun _ => 0))), (q18, .inl (cI, 5, .inl (fun _ => 0))), (q19, .inl (cI, 3880, .inl (fun _ => 0))), (q20, .inl (cI, 10, .inl (fun _ => 0))), (q21, .inl (cI, 6, .inl (fun _ => 0))), (q22, .inl (cI, 5, .inl (fun _ => 0))), (q23, .inl (cI, 97, .inl (fun _ => 0)))] H := hP
  have hD : va_D A [(h0, .inr (11, [.int 0, .ref q1, .int 0, .int 0, .int 0, .int 0, .ref q2, .ref q3, .ref q4, .ref q5, .ref q6, .ref q7, .ref q8, .int 0, .int 0, .ref q9, .ref q10, .ref q11, .ref q12, .ref q13, .int 0, .int 0, .ref q14, .ref q15, .ref q16, .int 0, .int 0, .ref q17, .ref q18, .int (-1), .int 0, .ref q19, .int 0, .long 0, .ref q20, .int 0, .int 0, .ref q21, .ref q22, .null, .int 0])), (q1, .inl (cI, 240, .inl (fun _ => 0))), (q2, .inl (cI, 2600, .inl (fun _ => 0))), (q3, .inl (cI, 2600, .inl (fun _ => 0))), (q4, .inl (cI, 5, .inl (fun _ => 0))), (q5, .inl (cI, 5, .inl (fun _ => 0))), (q6, .inl (cI, 700, .inl (fun _ => 0))), (q7, .inl (cI, 700, .inl (fun _ => 0))), (q8, .inl (cI, 700, .inl (fun _ => 0))), (q9, .inl (cI, 6, .inl (fun _ => 0))), (q10, .inl (cI, 80, .inl (fun _ => 0))), (q11, .inl (cI, 3, .inl (fun _ => 0))), (q12, .inl (cI, 24, .inl (fun _ => 0))), (q13, .inl (cI, 20, .inl (fun _ => 0))), (q14, .inl (cI, 3, .inl (fun _ => 0))), (q15, .inl (cI, 24, .inl (fun _ => 0))), (q16, .inl (cI, 20, .inl (fun _ => 0))), (q17, .inl (cI, 97, .inl (fun _ => 0))), (q18, .inl (cI, 5, .inl (fun _ => 0))), (q19, .inl (cI, 3880, .inl (fun _ => 0))), (q20, .inl (cI, 10, .inl (fun _ => 0))), (q21, .inl (cI, 6, .inl (fun _ => 0))), (q22, .inl (cI, 5, .inl (fun _ => 0))), (q23, .inl (cI, 97, .inl (fun _ => 0)))] := hD
  refine W.widen (k := 23) (n := 11830) (Nat.le_of_ble_eq_true rfl) (Nat.le_of_ble_eq_true rfl) ?_
  refine va_putF (D := (dC, dI)) (ci := 11) (v := .ref q23) (ty := .array .int) (C := RX11) (T := TX11) (N := 41) hx hb hts iX11 tyX11 tyX11_ok nmX11 hown hK hP hD hS 0 rfl rfl 39 (by decide) (hts _ qw1166) (fun _ h9 => h9) rfl hin rfl (by decide +kernel) rfl rfl (Nat.le_of_ble_eq_true rfl) dX11_init_191 (fun H locs hP hD hS => ?_)
  have hP : va_P (dC, dI) vwCl [(h0, .inr (11, [.int 0, .ref q1, .int 0, .int 0, .int 0, .int 0, .ref q2, .ref q3, .ref q4, .ref q5, .ref q6, .ref q7, .ref q8, .int 0, .int 0, .ref q9, .ref q10, .ref q11, .ref q12, .ref q13, .int 0, .int 0, .ref q14, .ref q15, .ref q16, .int 0, .int 0, .ref q17, .ref q18, .int (-1), .int 0, .ref q19, .int 0, .long 0, .ref q20, .int 0, .int 0, .ref q21, .ref q22, .ref q23, .int 0])), (q1, .inl (cI, 240, .inl (fun _ => 0))), (q2, .inl (cI, 2600, .inl (fun _ => 0))), (q3, .inl (cI, 2600, .inl (fun _ => 0))), (q4, .inl (cI, 5, .inl (fun _ => 0))), (q5, .inl (cI, 5, .inl (fun _ => 0))), (q6, .inl (cI, 700, .inl (fun _ => 0))), (q7, .inl (cI, 700, .inl (fun _ => 0))), (q8, .inl (cI, 700, .inl (fun _ => 0))), (q9, .inl (cI, 6, .inl (fun _ => 0))), (q10, .inl (cI, 80, .inl (fun _ => 0))), (q11, .inl (cI, 3, .inl (fun _ => 0))), (q12, .inl (cI, 24, .inl (fun _ => 0))), (q13, .inl (cI, 20, .inl (fun _ => 0))), (q14, .inl (cI, 3, .inl (fun _ => 0))), (q15, .inl (cI, 24, .inl (fun _ => 0))), (q16, .inl (cI, 20, .inl (fun _ => 0))), (q17, .inl (cI, 97, .inl (fun _ => 0))), (q18, .inl (cI, 5, .inl (fun _ => 0))), (q19, .inl (cI, 3880, .inl (fun _ => 0))), (q20, .inl (cI, 10, .inl (fun _ => 0))), (q21, .inl (cI, 6, .inl (fun _ => 0))), (q22, .inl (cI, 5, .inl (fun _ => 0))), (q23, .inl (cI, 97, .inl (fun _ => 0)))] H := hP
  have hD : va_D A [(h0, .inr (11, [.int 0, .ref q1, .int 0, .int 0, .int 0, .int 0, .ref q2, .ref q3, .ref q4, .ref q5, .ref q6, .ref q7, .ref q8, .int 0, .int 0, .ref q9, .ref q10, .ref q11, .ref q12, .ref q13, .int 0, .int 0, .ref q14, .ref q15, .ref q16, .int 0, .int 0, .ref q17, .ref q18, .int (-1), .int 0, .ref q19, .int 0, .long 0, .ref q20, .int 0, .int 0, .ref q21, .ref q22, .ref q23, .int 0])), (q1, .inl (cI, 240, .inl (fun _ => 0))), (q2, .inl (cI, 2600, .inl (fun _ => 0))), (q3, .inl (cI, 2600, .inl (fun _ => 0))), (q4, .inl (cI, 5, .inl (fun _ => 0))), (q5, .inl (cI, 5, .inl (fun _ => 0))), (q6, .inl (cI, 700, .inl (fun _ => 0))), (q7, .inl (cI, 700, .inl (fun _ => 0))), (q8, .inl (cI, 700, .inl (fun _ => 0))), (q9, .inl (cI, 6, .inl (fun _ => 0))), (q10, .inl (cI, 80, .inl (fun _ => 0))), (q11, .inl (cI, 3, .inl (fun _ => 0))), (q12, .inl (cI, 24, .inl (fun _ => 0))), (q13, .inl (cI, 20, .inl (fun _ => 0))), (q14, .inl (cI, 3, .inl (fun _ => 0))), (q15, .inl (cI, 24, .inl (fun _ => 0))), (q16, .inl (cI, 20, .inl (fun _ => 0))), (q17, .inl (cI, 97, .inl (fun _ => 0))), (q18, .inl (cI, 5, .inl (fun _ => 0))), (q19, .inl (cI, 3880, .inl (fun _ => 0))), (q20, .inl (cI, 10, .inl (fun _ => 0))), (q21, .inl (cI, 6, .inl (fun _ => 0))), (q22, .inl (cI, 5, .inl (fun _ => 0))), (q23, .inl (cI, 97, .inl (fun _ => 0)))] := hD
  exact W.vret hx hb hr (fun t ht hW => ⟨⟨(), rfl, trivial, ⟨q1, q2, q3, q4, q5, q6, q7, q8, q9, q10, q11, q12, q13, q14, q15, q16, q17, q18, q19, q20, q21, q22, q23, by rw [ht]; exact hP, hD⟩⟩, hS.F ht⟩) hS.2.2 dX11_init_194
