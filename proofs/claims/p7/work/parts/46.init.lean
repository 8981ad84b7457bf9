abbrev cX0_init : ByteArray := prog_2_method_1_code
def yX0_init : MethodName := ⟨RX0, "<init>", "()V"⟩
abbrev cX1_init : ByteArray := prog_3_method_1_code
def yX1_init : MethodName := ⟨RX1, "<init>", "()V"⟩
abbrev cX2_init : ByteArray := prog_4_method_1_code
def yX2_init : MethodName := ⟨RX2, "<init>", "()V"⟩
abbrev cX3_init : ByteArray := prog_5_method_1_code
def yX3_init : MethodName := ⟨RX3, "<init>", "()V"⟩
abbrev cX5_init : ByteArray := prog_7_method_1_code
def yX5_init : MethodName := ⟨RX5, "<init>", "()V"⟩
abbrev cX6_init : ByteArray := prog_8_method_1_code
def yX6_init : MethodName := ⟨RX6, "<init>", "(LNinePortraits$Court;LNinePortraits$State;LNinePortraits$Studio;)V"⟩
abbrev cX7_init : ByteArray := prog_9_method_1_code
def yX7_init : MethodName := ⟨RX7, "<init>", "()V"⟩
abbrev cX8_init : ByteArray := prog_10_method_1_code
def yX8_init : MethodName := ⟨RX8, "<init>", "(LNinePortraits$Court;LNinePortraits$State;)V"⟩
abbrev cX9_init : ByteArray := prog_11_method_1_code
def yX9_init : MethodName := ⟨RX9, "<init>", "()V"⟩
abbrev cX10_init : ByteArray := prog_1_method_1_code
def yX10_init : MethodName := ⟨RX10, "<init>", "()V"⟩
abbrev cX11_init : ByteArray := prog_13_method_3_code
def yX11_init : MethodName := ⟨RX11, "<init>", "()V"⟩
abbrev cL_law : ByteArray := code
def yL_law : MethodName := ⟨RL, "law", "([I)Z"⟩
theorem dX0_init_0 : decode cX0_init 0 = .ok (.aload_n 0, 1) := by decide +kernel
theorem dX0_init_1 : decode cX0_init 1 = .ok (.invokespecial 3, 3) := by decide +kernel
theorem dX0_init_4 : decode cX0_init 4 = .ok (.aload_n 0, 1) := by decide +kernel
theorem dX0_init_5 : decode cX0_init 5 = .ok (.sipush 680, 3) := by decide +kernel
theorem dX0_init_8 : decode cX0_init 8 = .ok (.newarray .int, 2) := by decide +kernel
theorem dX0_init_10 : decode cX0_init 10 = .ok (.putfield 11, 3) := by decide +kernel
theorem dX0_init_13 : decode cX0_init 13 = .ok (.return_, 1) := by decide +kernel
theorem dX1_init_0 : decode cX1_init 0 = .ok (.aload_n 0, 1) := by decide +kernel
theorem dX1_init_1 : decode cX1_init 1 = .ok (.invokespecial 3, 3) := by decide +kernel
theorem dX1_init_4 : decode cX1_init 4 = .ok (.aload_n 0, 1) := by decide +kernel
theorem dX1_init_5 : decode cX1_init 5 = .ok (.iconst 3, 1) := by decide +kernel
theorem dX1_init_6 : decode cX1_init 6 = .ok (.newarray .int, 2) := by decide +kernel
theorem dX1_init_8 : decode cX1_init 8 = .ok (.putfield 9, 3) := by decide +kernel
theorem dX1_init_11 : decode cX1_init 11 = .ok (.aload_n 0, 1) := by decide +kernel
theorem dX1_init_12 : decode cX1_init 12 = .ok (.bipush 24, 2) := by decide +kernel
theorem dX1_init_14 : decode cX1_init 14 = .ok (.newarray .int, 2) := by decide +kernel
theorem dX1_init_16 : decode cX1_init 16 = .ok (.putfield 15, 3) := by decide +kernel
theorem dX1_init_19 : decode cX1_init 19 = .ok (.aload_n 0, 1) := by decide +kernel
theorem dX1_init_20 : decode cX1_init 20 = .ok (.bipush 20, 2) := by decide +kernel
theorem dX1_init_22 : decode cX1_init 22 = .ok (.newarray .int, 2) := by decide +kernel
theorem dX1_init_24 : decode cX1_init 24 = .ok (.putfield 18, 3) := by decide +kernel
theorem dX1_init_27 : decode cX1_init 27 = .ok (.return_, 1) := by decide +kernel
theorem dX2_init_0 : decode cX2_init 0 = .ok (.aload_n 0, 1) := by decide +kernel
theorem dX2_init_1 : decode cX2_init 1 = .ok (.invokespecial 3, 3) := by decide +kernel
theorem dX2_init_4 : decode cX2_init 4 = .ok (.return_, 1) := by decide +kernel
theorem dX3_init_0 : decode cX3_init 0 = .ok (.aload_n 0, 1) := by decide +kernel
theorem dX3_init_1 : decode cX3_init 1 = .ok (.invokespecial 1, 3) := by decide +kernel
theorem dX3_init_4 : decode cX3_init 4 = .ok (.return_, 1) := by decide +kernel
theorem dX5_init_0 : decode cX5_init 0 = .ok (.aload_n 0, 1) := by decide +kernel
theorem dX5_init_1 : decode cX5_init 1 = .ok (.invokespecial 3, 3) := by decide +kernel
theorem dX5_init_4 : decode cX5_init 4 = .ok (.aload_n 0, 1) := by decide +kernel
theorem dX5_init_5 : decode cX5_init 5 = .ok (.sipush 241, 3) := by decide +kernel
theorem dX5_init_8 : decode cX5_init 8 = .ok (.newarray .int, 2) := by decide +kernel
theorem dX5_init_10 : decode cX5_init 10 = .ok (.putfield 9, 3) := by decide +kernel
theorem dX5_init_13 : decode cX5_init 13 = .ok (.return_, 1) := by decide +kernel
theorem dX6_init_0 : decode cX6_init 0 = .ok (.aload_n 0, 1) := by decide +kernel
theorem dX6_init_1 : decode cX6_init 1 = .ok (.invokespecial 3, 3) := by decide +kernel
theorem dX6_init_4 : decode cX6_init 4 = .ok (.aload_n 0, 1) := by decide +kernel
theorem dX6_init_5 : decode cX6_init 5 = .ok (.bipush 10, 2) := by decide +kernel
theorem dX6_init_7 : decode cX6_init 7 = .ok (.newarray .long, 2) := by decide +kernel
theorem dX6_init_9 : decode cX6_init 9 = .ok (.putfield 9, 3) := by decide +kernel
theorem dX6_init_12 : decode cX6_init 12 = .ok (.aload_n 0, 1) := by decide +kernel
theorem dX6_init_13 : decode cX6_init 13 = .ok (.bipush 10, 2) := by decide +kernel
theorem dX6_init_15 : decode cX6_init 15 = .ok (.newarray .int, 2) := by decide +kernel
theorem dX6_init_17 : decode cX6_init 17 = .ok (.putfield 15, 3) := by decide +kernel
theorem dX6_init_20 : decode cX6_init 20 = .ok (.aload_n 0, 1) := by decide +kernel
theorem dX6_init_21 : decode cX6_init 21 = .ok (.bipush 10, 2) := by decide +kernel
theorem dX6_init_23 : decode cX6_init 23 = .ok (.newarray .int, 2) := by decide +kernel
theorem dX6_init_25 : decode cX6_init 25 = .ok (.putfield 19, 3) := by decide +kernel
theorem dX6_init_28 : decode cX6_init 28 = .ok (.aload_n 0, 1) := by decide +kernel
theorem dX6_init_29 : decode cX6_init 29 = .ok (.bipush 45, 2) := by decide +kernel
theorem dX6_init_31 : decode cX6_init 31 = .ok (.newarray .int, 2) := by decide +kernel
theorem dX6_init_33 : decode cX6_init 33 = .ok (.putfield 22, 3) := by decide +kernel
theorem dX6_init_36 : decode cX6_init 36 = .ok (.aload_n 0, 1) := by decide +kernel
theorem dX6_init_37 : decode cX6_init 37 = .ok (.aload_n 1, 1) := by decide +kernel
theorem dX6_init_38 : decode cX6_init 38 = .ok (.putfield 25, 3) := by decide +kernel
theorem dX6_init_41 : decode cX6_init 41 = .ok (.aload_n 0, 1) := by decide +kernel
theorem dX6_init_42 : decode cX6_init 42 = .ok (.aload_n 2, 1) := by decide +kernel
theorem dX6_init_43 : decode cX6_init 43 = .ok (.putfield 29, 3) := by decide +kernel
theorem dX6_init_46 : decode cX6_init 46 = .ok (.aload_n 0, 1) := by decide +kernel
theorem dX6_init_47 : decode cX6_init 47 = .ok (.aload_n 3, 1) := by decide +kernel
theorem dX6_init_48 : decode cX6_init 48 = .ok (.putfield 33, 3) := by decide +kernel
theorem dX6_init_51 : decode cX6_init 51 = .ok (.return_, 1) := by decide +kernel
theorem dX7_init_0 : decode cX7_init 0 = .ok (.aload_n 0, 1) := by decide +kernel
theorem dX7_init_1 : decode cX7_init 1 = .ok (.invokespecial 3, 3) := by decide +kernel
theorem dX7_init_4 : decode cX7_init 4 = .ok (.aload_n 0, 1) := by decide +kernel
theorem dX7_init_5 : decode cX7_init 5 = .ok (.bipush 6, 2) := by decide +kernel
theorem dX7_init_7 : decode cX7_init 7 = .ok (.newarray .int, 2) := by decide +kernel
theorem dX7_init_9 : decode cX7_init 9 = .ok (.putfield 9, 3) := by decide +kernel
theorem dX7_init_12 : decode cX7_init 12 = .ok (.aload_n 0, 1) := by decide +kernel
theorem dX7_init_13 : decode cX7_init 13 = .ok (.iconst 5, 1) := by decide +kernel
theorem dX7_init_14 : decode cX7_init 14 = .ok (.newarray .int, 2) := by decide +kernel
theorem dX7_init_16 : decode cX7_init 16 = .ok (.putfield 15, 3) := by decide +kernel
theorem dX7_init_19 : decode cX7_init 19 = .ok (.aload_n 0, 1) := by decide +kernel
theorem dX7_init_20 : decode cX7_init 20 = .ok (.bipush 80, 2) := by decide +kernel
theorem dX7_init_22 : decode cX7_init 22 = .ok (.newarray .int, 2) := by decide +kernel
theorem dX7_init_24 : decode cX7_init 24 = .ok (.putfield 18, 3) := by decide +kernel
theorem dX7_init_27 : decode cX7_init 27 = .ok (.aload_n 0, 1) := by decide +kernel
theorem dX7_init_28 : decode cX7_init 28 = .ok (.iconst (-1), 1) := by decide +kernel
theorem dX7_init_29 : decode cX7_init 29 = .ok (.putfield 21, 3) := by decide +kernel
theorem dX7_init_32 : decode cX7_init 32 = .ok (.return_, 1) := by decide +kernel
theorem dX8_init_0 : decode cX8_init 0 = .ok (.aload_n 0, 1) := by decide +kernel
theorem dX8_init_1 : decode cX8_init 1 = .ok (.invokespecial 3, 3) := by decide +kernel
theorem dX8_init_4 : decode cX8_init 4 = .ok (.aload_n 0, 1) := by decide +kernel
theorem dX8_init_5 : decode cX8_init 5 = .ok (.bipush 10, 2) := by decide +kernel
theorem dX8_init_7 : decode cX8_init 7 = .ok (.newarray .int, 2) := by decide +kernel
theorem dX8_init_9 : decode cX8_init 9 = .ok (.putfield 9, 3) := by decide +kernel
theorem dX8_init_12 : decode cX8_init 12 = .ok (.aload_n 0, 1) := by decide +kernel
theorem dX8_init_13 : decode cX8_init 13 = .ok (.bipush 10, 2) := by decide +kernel
theorem dX8_init_15 : decode cX8_init 15 = .ok (.newarray .int, 2) := by decide +kernel
theorem dX8_init_17 : decode cX8_init 17 = .ok (.putfield 15, 3) := by decide +kernel
theorem dX8_init_20 : decode cX8_init 20 = .ok (.aload_n 0, 1) := by decide +kernel
theorem dX8_init_21 : decode cX8_init 21 = .ok (.bipush 6, 2) := by decide +kernel
theorem dX8_init_23 : decode cX8_init 23 = .ok (.newarray .int, 2) := by decide +kernel
theorem dX8_init_25 : decode cX8_init 25 = .ok (.putfield 18, 3) := by decide +kernel
theorem dX8_init_28 : decode cX8_init 28 = .ok (.aload_n 0, 1) := by decide +kernel
theorem dX8_init_29 : decode cX8_init 29 = .ok (.bipush 32, 2) := by decide +kernel
theorem dX8_init_31 : decode cX8_init 31 = .ok (.newarray .int, 2) := by decide +kernel
theorem dX8_init_33 : decode cX8_init 33 = .ok (.putfield 21, 3) := by decide +kernel
theorem dX8_init_36 : decode cX8_init 36 = .ok (.aload_n 0, 1) := by decide +kernel
theorem dX8_init_37 : decode cX8_init 37 = .ok (.aload_n 1, 1) := by decide +kernel
theorem dX8_init_38 : decode cX8_init 38 = .ok (.putfield 24, 3) := by decide +kernel
theorem dX8_init_41 : decode cX8_init 41 = .ok (.aload_n 0, 1) := by decide +kernel
theorem dX8_init_42 : decode cX8_init 42 = .ok (.aload_n 2, 1) := by decide +kernel
theorem dX8_init_43 : decode cX8_init 43 = .ok (.putfield 28, 3) := by decide +kernel
theorem dX8_init_46 : decode cX8_init 46 = .ok (.return_, 1) := by decide +kernel
theorem dX9_init_0 : decode cX9_init 0 = .ok (.aload_n 0, 1) := by decide +kernel
theorem dX9_init_1 : decode cX9_init 1 = .ok (.invokespecial 3, 3) := by decide +kernel
theorem dX9_init_4 : decode cX9_init 4 = .ok (.aload_n 0, 1) := by decide +kernel
theorem dX9_init_5 : decode cX9_init 5 = .ok (.sipush 260, 3) := by decide +kernel
theorem dX9_init_8 : decode cX9_init 8 = .ok (.newarray .int, 2) := by decide +kernel
theorem dX9_init_10 : decode cX9_init 10 = .ok (.putfield 9, 3) := by decide +kernel
theorem dX9_init_13 : decode cX9_init 13 = .ok (.return_, 1) := by decide +kernel
theorem dX10_init_0 : decode cX10_init 0 = .ok (.aload_n 0, 1) := by decide +kernel
theorem dX10_init_1 : decode cX10_init 1 = .ok (.invokespecial 1, 3) := by decide +kernel
theorem dX10_init_4 : decode cX10_init 4 = .ok (.aload_n 0, 1) := by decide +kernel
theorem dX10_init_5 : decode cX10_init 5 = .ok (.new 7, 3) := by decide +kernel
theorem dX10_init_8 : decode cX10_init 8 = .ok (.dup, 1) := by decide +kernel
theorem dX10_init_9 : decode cX10_init 9 = .ok (.invokespecial 9, 3) := by decide +kernel
theorem dX10_init_12 : decode cX10_init 12 = .ok (.putfield 10, 3) := by decide +kernel
theorem dX10_init_15 : decode cX10_init 15 = .ok (.aload_n 0, 1) := by decide +kernel
theorem dX10_init_16 : decode cX10_init 16 = .ok (.new 16, 3) := by decide +kernel
theorem dX10_init_19 : decode cX10_init 19 = .ok (.dup, 1) := by decide +kernel
theorem dX10_init_20 : decode cX10_init 20 = .ok (.invokespecial 18, 3) := by decide +kernel
theorem dX10_init_23 : decode cX10_init 23 = .ok (.putfield 19, 3) := by decide +kernel
theorem dX10_init_26 : decode cX10_init 26 = .ok (.aload_n 0, 1) := by decide +kernel
theorem dX10_init_27 : decode cX10_init 27 = .ok (.new 23, 3) := by decide +kernel
theorem dX10_init_30 : decode cX10_init 30 = .ok (.dup, 1) := by decide +kernel
theorem dX10_init_31 : decode cX10_init 31 = .ok (.invokespecial 25, 3) := by decide +kernel
theorem dX10_init_34 : decode cX10_init 34 = .ok (.putfield 26, 3) := by decide +kernel
theorem dX10_init_37 : decode cX10_init 37 = .ok (.aload_n 0, 1) := by decide +kernel
theorem dX10_init_38 : decode cX10_init 38 = .ok (.new 30, 3) := by decide +kernel
theorem dX10_init_41 : decode cX10_init 41 = .ok (.dup, 1) := by decide +kernel
theorem dX10_init_42 : decode cX10_init 42 = .ok (.invokespecial 32, 3) := by decide +kernel
theorem dX10_init_45 : decode cX10_init 45 = .ok (.putfield 33, 3) := by decide +kernel
theorem dX10_init_48 : decode cX10_init 48 = .ok (.aload_n 0, 1) := by decide +kernel
theorem dX10_init_49 : decode cX10_init 49 = .ok (.new 30, 3) := by decide +kernel
theorem dX10_init_52 : decode cX10_init 52 = .ok (.dup, 1) := by decide +kernel
theorem dX10_init_53 : decode cX10_init 53 = .ok (.invokespecial 32, 3) := by decide +kernel
theorem dX10_init_56 : decode cX10_init 56 = .ok (.putfield 37, 3) := by decide +kernel
theorem dX10_init_59 : decode cX10_init 59 = .ok (.aload_n 0, 1) := by decide +kernel
theorem dX10_init_60 : decode cX10_init 60 = .ok (.iconst 4, 1) := by decide +kernel
theorem dX10_init_61 : decode cX10_init 61 = .ok (.anewarray 40, 3) := by decide +kernel
theorem dX10_init_64 : decode cX10_init 64 = .ok (.putfield 42, 3) := by decide +kernel
theorem dX10_init_67 : decode cX10_init 67 = .ok (.aload_n 0, 1) := by decide +kernel
theorem dX10_init_68 : decode cX10_init 68 = .ok (.new 46, 3) := by decide +kernel
theorem dX10_init_71 : decode cX10_init 71 = .ok (.dup, 1) := by decide +kernel
theorem dX10_init_72 : decode cX10_init 72 = .ok (.invokespecial 48, 3) := by decide +kernel
theorem dX10_init_75 : decode cX10_init 75 = .ok (.putfield 49, 3) := by decide +kernel
theorem dX10_init_78 : decode cX10_init 78 = .ok (.aload_n 0, 1) := by decide +kernel
theorem dX10_init_79 : decode cX10_init 79 = .ok (.new 46, 3) := by decide +kernel
theorem dX10_init_82 : decode cX10_init 82 = .ok (.dup, 1) := by decide +kernel
theorem dX10_init_83 : decode cX10_init 83 = .ok (.invokespecial 48, 3) := by decide +kernel
theorem dX10_init_86 : decode cX10_init 86 = .ok (.putfield 53, 3) := by decide +kernel
theorem dX10_init_89 : decode cX10_init 89 = .ok (.aload_n 0, 1) := by decide +kernel
theorem dX10_init_90 : decode cX10_init 90 = .ok (.new 56, 3) := by decide +kernel
theorem dX10_init_93 : decode cX10_init 93 = .ok (.dup, 1) := by decide +kernel
theorem dX10_init_94 : decode cX10_init 94 = .ok (.invokespecial 58, 3) := by decide +kernel
theorem dX10_init_97 : decode cX10_init 97 = .ok (.putfield 59, 3) := by decide +kernel
theorem dX10_init_100 : decode cX10_init 100 = .ok (.aload_n 0, 1) := by decide +kernel
theorem dX10_init_101 : decode cX10_init 101 = .ok (.new 63, 3) := by decide +kernel
theorem dX10_init_104 : decode cX10_init 104 = .ok (.dup, 1) := by decide +kernel
theorem dX10_init_105 : decode cX10_init 105 = .ok (.aload_n 0, 1) := by decide +kernel
theorem dX10_init_106 : decode cX10_init 106 = .ok (.getfield 37, 3) := by decide +kernel
theorem dX10_init_109 : decode cX10_init 109 = .ok (.aload_n 0, 1) := by decide +kernel
theorem dX10_init_110 : decode cX10_init 110 = .ok (.getfield 49, 3) := by decide +kernel
theorem dX10_init_113 : decode cX10_init 113 = .ok (.invokespecial 65, 3) := by decide +kernel
theorem dX10_init_116 : decode cX10_init 116 = .ok (.putfield 68, 3) := by decide +kernel
theorem dX10_init_119 : decode cX10_init 119 = .ok (.aload_n 0, 1) := by decide +kernel
theorem dX10_init_120 : decode cX10_init 120 = .ok (.new 72, 3) := by decide +kernel
theorem dX10_init_123 : decode cX10_init 123 = .ok (.dup, 1) := by decide +kernel
theorem dX10_init_124 : decode cX10_init 124 = .ok (.aload_n 0, 1) := by decide +kernel
theorem dX10_init_125 : decode cX10_init 125 = .ok (.getfield 37, 3) := by decide +kernel
theorem dX10_init_128 : decode cX10_init 128 = .ok (.aload_n 0, 1) := by decide +kernel
theorem dX10_init_129 : decode cX10_init 129 = .ok (.getfield 49, 3) := by decide +kernel
theorem dX10_init_132 : decode cX10_init 132 = .ok (.aload_n 0, 1) := by decide +kernel
theorem dX10_init_133 : decode cX10_init 133 = .ok (.getfield 68, 3) := by decide +kernel
theorem dX10_init_136 : decode cX10_init 136 = .ok (.invokespecial 74, 3) := by decide +kernel
theorem dX10_init_139 : decode cX10_init 139 = .ok (.putfield 77, 3) := by decide +kernel
theorem dX10_init_142 : decode cX10_init 142 = .ok (.aload_n 0, 1) := by decide +kernel
theorem dX10_init_143 : decode cX10_init 143 = .ok (.new 81, 3) := by decide +kernel
theorem dX10_init_146 : decode cX10_init 146 = .ok (.dup, 1) := by decide +kernel
theorem dX10_init_147 : decode cX10_init 147 = .ok (.invokespecial 83, 3) := by decide +kernel
theorem dX10_init_150 : decode cX10_init 150 = .ok (.putfield 84, 3) := by decide +kernel
theorem dX10_init_153 : decode cX10_init 153 = .ok (.aload_n 0, 1) := by decide +kernel
theorem dX10_init_154 : decode cX10_init 154 = .ok (.iconst 5, 1) := by decide +kernel
theorem dX10_init_155 : decode cX10_init 155 = .ok (.newarray .int, 2) := by decide +kernel
theorem dX10_init_157 : decode cX10_init 157 = .ok (.putfield 88, 3) := by decide +kernel
theorem dX10_init_160 : decode cX10_init 160 = .ok (.aload_n 0, 1) := by decide +kernel
theorem dX10_init_161 : decode cX10_init 161 = .ok (.iconst (-1), 1) := by decide +kernel
theorem dX10_init_162 : decode cX10_init 162 = .ok (.putfield 92, 3) := by decide +kernel
theorem dX10_init_165 : decode cX10_init 165 = .ok (.return_, 1) := by decide +kernel
theorem dX11_init_0 : decode cX11_init 0 = .ok (.aload_n 0, 1) := by decide +kernel
theorem dX11_init_1 : decode cX11_init 1 = .ok (.invokespecial 3, 3) := by decide +kernel
theorem dX11_init_4 : decode cX11_init 4 = .ok (.aload_n 0, 1) := by decide +kernel
theorem dX11_init_5 : decode cX11_init 5 = .ok (.sipush 240, 3) := by decide +kernel
theorem dX11_init_8 : decode cX11_init 8 = .ok (.newarray .int, 2) := by decide +kernel
theorem dX11_init_10 : decode cX11_init 10 = .ok (.putfield 9, 3) := by decide +kernel
theorem dX11_init_13 : decode cX11_init 13 = .ok (.aload_n 0, 1) := by decide +kernel
theorem dX11_init_14 : decode cX11_init 14 = .ok (.sipush 2600, 3) := by decide +kernel
theorem dX11_init_17 : decode cX11_init 17 = .ok (.newarray .int, 2) := by decide +kernel
theorem dX11_init_19 : decode cX11_init 19 = .ok (.putfield 13, 3) := by decide +kernel
theorem dX11_init_22 : decode cX11_init 22 = .ok (.aload_n 0, 1) := by decide +kernel
theorem dX11_init_23 : decode cX11_init 23 = .ok (.sipush 2600, 3) := by decide +kernel
theorem dX11_init_26 : decode cX11_init 26 = .ok (.newarray .int, 2) := by decide +kernel
theorem dX11_init_28 : decode cX11_init 28 = .ok (.putfield 16, 3) := by decide +kernel
theorem dX11_init_31 : decode cX11_init 31 = .ok (.aload_n 0, 1) := by decide +kernel
theorem dX11_init_32 : decode cX11_init 32 = .ok (.iconst 5, 1) := by decide +kernel
theorem dX11_init_33 : decode cX11_init 33 = .ok (.newarray .int, 2) := by decide +kernel
theorem dX11_init_35 : decode cX11_init 35 = .ok (.putfield 19, 3) := by decide +kernel
theorem dX11_init_38 : decode cX11_init 38 = .ok (.aload_n 0, 1) := by decide +kernel
theorem dX11_init_39 : decode cX11_init 39 = .ok (.iconst 5, 1) := by decide +kernel
theorem dX11_init_40 : decode cX11_init 40 = .ok (.newarray .int, 2) := by decide +kernel
theorem dX11_init_42 : decode cX11_init 42 = .ok (.putfield 22, 3) := by decide +kernel
theorem dX11_init_45 : decode cX11_init 45 = .ok (.aload_n 0, 1) := by decide +kernel
theorem dX11_init_46 : decode cX11_init 46 = .ok (.sipush 700, 3) := by decide +kernel
theorem dX11_init_49 : decode cX11_init 49 = .ok (.newarray .int, 2) := by decide +kernel
theorem dX11_init_51 : decode cX11_init 51 = .ok (.putfield 25, 3) := by decide +kernel
theorem dX11_init_54 : decode cX11_init 54 = .ok (.aload_n 0, 1) := by decide +kernel
theorem dX11_init_55 : decode cX11_init 55 = .ok (.sipush 700, 3) := by decide +kernel
theorem dX11_init_58 : decode cX11_init 58 = .ok (.newarray .int, 2) := by decide +kernel
theorem dX11_init_60 : decode cX11_init 60 = .ok (.putfield 28, 3) := by decide +kernel
theorem dX11_init_63 : decode cX11_init 63 = .ok (.aload_n 0, 1) := by decide +kernel
theorem dX11_init_64 : decode cX11_init 64 = .ok (.sipush 700, 3) := by decide +kernel
theorem dX11_init_67 : decode cX11_init 67 = .ok (.newarray .int, 2) := by decide +kernel
theorem dX11_init_69 : decode cX11_init 69 = .ok (.putfield 31, 3) := by decide +kernel
theorem dX11_init_72 : decode cX11_init 72 = .ok (.aload_n 0, 1) := by decide +kernel
theorem dX11_init_73 : decode cX11_init 73 = .ok (.bipush 6, 2) := by decide +kernel
theorem dX11_init_75 : decode cX11_init 75 = .ok (.newarray .int, 2) := by decide +kernel
theorem dX11_init_77 : decode cX11_init 77 = .ok (.putfield 34, 3) := by decide +kernel
theorem dX11_init_80 : decode cX11_init 80 = .ok (.aload_n 0, 1) := by decide +kernel
theorem dX11_init_81 : decode cX11_init 81 = .ok (.bipush 80, 2) := by decide +kernel
theorem dX11_init_83 : decode cX11_init 83 = .ok (.newarray .int, 2) := by decide +kernel
theorem dX11_init_85 : decode cX11_init 85 = .ok (.putfield 37, 3) := by decide +kernel
theorem dX11_init_88 : decode cX11_init 88 = .ok (.aload_n 0, 1) := by decide +kernel
theorem dX11_init_89 : decode cX11_init 89 = .ok (.iconst 3, 1) := by decide +kernel
theorem dX11_init_90 : decode cX11_init 90 = .ok (.newarray .int, 2) := by decide +kernel
theorem dX11_init_92 : decode cX11_init 92 = .ok (.putfield 40, 3) := by decide +kernel
theorem dX11_init_95 : decode cX11_init 95 = .ok (.aload_n 0, 1) := by decide +kernel
theorem dX11_init_96 : decode cX11_init 96 = .ok (.bipush 24, 2) := by decide +kernel
theorem dX11_init_98 : decode cX11_init 98 = .ok (.newarray .int, 2) := by decide +kernel
theorem dX11_init_100 : decode cX11_init 100 = .ok (.putfield 43, 3) := by decide +kernel
theorem dX11_init_103 : decode cX11_init 103 = .ok (.aload_n 0, 1) := by decide +kernel
theorem dX11_init_104 : decode cX11_init 104 = .ok (.bipush 20, 2) := by decide +kernel
theorem dX11_init_106 : decode cX11_init 106 = .ok (.newarray .int, 2) := by decide +kernel
theorem dX11_init_108 : decode cX11_init 108 = .ok (.putfield 46, 3) := by decide +kernel
theorem dX11_init_111 : decode cX11_init 111 = .ok (.aload_n 0, 1) := by decide +kernel
theorem dX11_init_112 : decode cX11_init 112 = .ok (.iconst 3, 1) := by decide +kernel
theorem dX11_init_113 : decode cX11_init 113 = .ok (.newarray .int, 2) := by decide +kernel
theorem dX11_init_115 : decode cX11_init 115 = .ok (.putfield 49, 3) := by decide +kernel
theorem dX11_init_118 : decode cX11_init 118 = .ok (.aload_n 0, 1) := by decide +kernel
theorem dX11_init_119 : decode cX11_init 119 = .ok (.bipush 24, 2) := by decide +kernel
theorem dX11_init_121 : decode cX11_init 121 = .ok (.newarray .int, 2) := by decide +kernel
theorem dX11_init_123 : decode cX11_init 123 = .ok (.putfield 52, 3) := by decide +kernel
theorem dX11_init_126 : decode cX11_init 126 = .ok (.aload_n 0, 1) := by decide +kernel
theorem dX11_init_127 : decode cX11_init 127 = .ok (.bipush 20, 2) := by decide +kernel
theorem dX11_init_129 : decode cX11_init 129 = .ok (.newarray .int, 2) := by decide +kernel
theorem dX11_init_131 : decode cX11_init 131 = .ok (.putfield 55, 3) := by decide +kernel
theorem dX11_init_134 : decode cX11_init 134 = .ok (.aload_n 0, 1) := by decide +kernel
theorem dX11_init_135 : decode cX11_init 135 = .ok (.bipush 97, 2) := by decide +kernel
theorem dX11_init_137 : decode cX11_init 137 = .ok (.newarray .int, 2) := by decide +kernel
theorem dX11_init_139 : decode cX11_init 139 = .ok (.putfield 58, 3) := by decide +kernel
theorem dX11_init_142 : decode cX11_init 142 = .ok (.aload_n 0, 1) := by decide +kernel
theorem dX11_init_143 : decode cX11_init 143 = .ok (.iconst 5, 1) := by decide +kernel
theorem dX11_init_144 : decode cX11_init 144 = .ok (.newarray .int, 2) := by decide +kernel
theorem dX11_init_146 : decode cX11_init 146 = .ok (.putfield 61, 3) := by decide +kernel
theorem dX11_init_149 : decode cX11_init 149 = .ok (.aload_n 0, 1) := by decide +kernel
theorem dX11_init_150 : decode cX11_init 150 = .ok (.iconst (-1), 1) := by decide +kernel
theorem dX11_init_151 : decode cX11_init 151 = .ok (.putfield 64, 3) := by decide +kernel
theorem dX11_init_154 : decode cX11_init 154 = .ok (.aload_n 0, 1) := by decide +kernel
theorem dX11_init_155 : decode cX11_init 155 = .ok (.sipush 3880, 3) := by decide +kernel
theorem dX11_init_158 : decode cX11_init 158 = .ok (.newarray .int, 2) := by decide +kernel
theorem dX11_init_160 : decode cX11_init 160 = .ok (.putfield 68, 3) := by decide +kernel
theorem dX11_init_163 : decode cX11_init 163 = .ok (.aload_n 0, 1) := by decide +kernel
theorem dX11_init_164 : decode cX11_init 164 = .ok (.bipush 10, 2) := by decide +kernel
theorem dX11_init_166 : decode cX11_init 166 = .ok (.newarray .int, 2) := by decide +kernel
theorem dX11_init_168 : decode cX11_init 168 = .ok (.putfield 71, 3) := by decide +kernel
theorem dX11_init_171 : decode cX11_init 171 = .ok (.aload_n 0, 1) := by decide +kernel
theorem dX11_init_172 : decode cX11_init 172 = .ok (.bipush 6, 2) := by decide +kernel
theorem dX11_init_174 : decode cX11_init 174 = .ok (.newarray .int, 2) := by decide +kernel
theorem dX11_init_176 : decode cX11_init 176 = .ok (.putfield 74, 3) := by decide +kernel
theorem dX11_init_179 : decode cX11_init 179 = .ok (.aload_n 0, 1) := by decide +kernel
theorem dX11_init_180 : decode cX11_init 180 = .ok (.iconst 5, 1) := by decide +kernel
theorem dX11_init_181 : decode cX11_init 181 = .ok (.newarray .int, 2) := by decide +kernel
theorem dX11_init_183 : decode cX11_init 183 = .ok (.putfield 77, 3) := by decide +kernel
theorem dX11_init_186 : decode cX11_init 186 = .ok (.aload_n 0, 1) := by decide +kernel
theorem dX11_init_187 : decode cX11_init 187 = .ok (.bipush 97, 2) := by decide +kernel
theorem dX11_init_189 : decode cX11_init 189 = .ok (.newarray .int, 2) := by decide +kernel
theorem dX11_init_191 : decode cX11_init 191 = .ok (.putfield 80, 3) := by decide +kernel
theorem dX11_init_194 : decode cX11_init 194 = .ok (.return_, 1) := by decide +kernel
theorem dL_law_0 : decode cL_law 0 = .ok (.new 8, 3) := by decide +kernel
theorem dL_law_3 : decode cL_law 3 = .ok (.dup, 1) := by decide +kernel
theorem dL_law_4 : decode cL_law 4 = .ok (.invokespecial 15, 3) := by decide +kernel
theorem dL_law_7 : decode cL_law 7 = .ok (.astore_n 1, 1) := by decide +kernel
theorem dL_law_8 : decode cL_law 8 = .ok (.new 16, 3) := by decide +kernel
theorem dL_law_11 : decode cL_law 11 = .ok (.dup, 1) := by decide +kernel
theorem dL_law_12 : decode cL_law 12 = .ok (.invokespecial 18, 3) := by decide +kernel
theorem dL_law_15 : decode cL_law 15 = .ok (.astore_n 2, 1) := by decide +kernel
theorem dL_law_16 : decode cL_law 16 = .ok (.iconst 1, 1) := zd_o4 zy_16
theorem dL_law_17 : decode cL_law 17 = .ok (.newarray .long, 2) := by decide +kernel
theorem dL_law_19 : decode cL_law 19 = .ok (.astore_n 3, 1) := by decide +kernel
theorem dL_law_20 : decode cL_law 20 = .ok (.iconst 0, 1) := zd_o3 zy_20
theorem dL_law_21 : decode cL_law 21 = .ok (.istore 4, 2) := by decide +kernel
theorem dL_law_23 : decode cL_law 23 = .ok (.iload 4, 2) := zd_iload zy_23 zy_24 rfl
theorem dL_law_25 : decode cL_law 25 = .ok (.aload_n 0, 1) := zd_o42 zy_25
theorem dL_law_26 : decode cL_law 26 = .ok (.arraylength, 1) := by decide +kernel
theorem dL_law_27 : decode cL_law 27 = .ok (.bipush 7, 2) := by decide +kernel
theorem dL_law_29 : decode cL_law 29 = .ok (.isub, 1) := by decide +kernel
theorem dL_law_30 : decode cL_law 30 = .ok (.if_icmp .gt 1801, 3) := by decide +kernel
theorem dL_law_33 : decode cL_law 33 = .ok (.aload_n 0, 1) := zd_o42 zy_33
theorem dL_law_34 : decode cL_law 34 = .ok (.iload 4, 2) := zd_iload zy_34 zy_35 rfl
theorem dL_law_36 : decode cL_law 36 = .ok (.iaload, 1) := zd_o46 zy_36
theorem dL_law_37 : decode cL_law 37 = .ok (.bipush 63, 2) := by decide +kernel
theorem dL_law_39 : decode cL_law 39 = .ok (.iand, 1) := by decide +kernel
theorem dL_law_40 : decode cL_law 40 = .ok (.tableswitch 1785 0 47 #[208, 281, 306, 331, 356, 381, 449, 486, 511, 548, 597, 634, 671, 696, 721, 746, 771, 784, 809, 834, 903, 928, 941, 978, 1003, 1040, 1077, 1114, 1139, 1164, 1201, 1226, 1313, 1374, 1411, 1448, 1473, 1510, 1559, 1584, 1609, 1634, 1659, 1684, 1709, 1734, 1747, 1760], 208) := by decide +kernel
theorem dL_law_248 : decode cL_law 248 = .ok (.aload_n 1, 1) := zd_o43 zy_248
theorem dL_law_249 : decode cL_law 249 = .ok (.aload_n 0, 1) := zd_o42 zy_249
theorem dL_law_250 : decode cL_law 250 = .ok (.iload 4, 2) := zd_iload zy_250 zy_251 rfl
theorem dL_law_252 : decode cL_law 252 = .ok (.iconst 1, 1) := zd_o4 zy_252
theorem dL_law_253 : decode cL_law 253 = .ok (.iadd, 1) := zd_o96 zy_253
theorem dL_law_254 : decode cL_law 254 = .ok (.iaload, 1) := zd_o46 zy_254
theorem dL_law_255 : decode cL_law 255 = .ok (.aload_n 0, 1) := zd_o42 zy_255
theorem dL_law_256 : decode cL_law 256 = .ok (.iload 4, 2) := zd_iload zy_256 zy_257 rfl
theorem dL_law_258 : decode cL_law 258 = .ok (.iconst 2, 1) := zd_o5 zy_258
theorem dL_law_259 : decode cL_law 259 = .ok (.iadd, 1) := zd_o96 zy_259
theorem dL_law_260 : decode cL_law 260 = .ok (.iaload, 1) := zd_o46 zy_260
theorem dL_law_261 : decode cL_law 261 = .ok (.aload_n 0, 1) := zd_o42 zy_261
theorem dL_law_262 : decode cL_law 262 = .ok (.iload 4, 2) := zd_iload zy_262 zy_263 rfl
theorem dL_law_264 : decode cL_law 264 = .ok (.iconst 3, 1) := zd_o6 zy_264
theorem dL_law_265 : decode cL_law 265 = .ok (.iadd, 1) := zd_o96 zy_265
theorem dL_law_266 : decode cL_law 266 = .ok (.iaload, 1) := zd_o46 zy_266
theorem dL_law_267 : decode cL_law 267 = .ok (.aload_n 0, 1) := zd_o42 zy_267
theorem dL_law_268 : decode cL_law 268 = .ok (.iload 4, 2) := zd_iload zy_268 zy_269 rfl
theorem dL_law_270 : decode cL_law 270 = .ok (.iconst 4, 1) := zd_o7 zy_270
theorem dL_law_271 : decode cL_law 271 = .ok (.iadd, 1) := zd_o96 zy_271
theorem dL_law_272 : decode cL_law 272 = .ok (.iaload, 1) := zd_o46 zy_272
theorem dL_law_273 : decode cL_law 273 = .ok (.aload_n 0, 1) := zd_o42 zy_273
theorem dL_law_274 : decode cL_law 274 = .ok (.iload 4, 2) := zd_iload zy_274 zy_275 rfl
theorem dL_law_276 : decode cL_law 276 = .ok (.iconst 5, 1) := zd_o8 zy_276
theorem dL_law_277 : decode cL_law 277 = .ok (.iadd, 1) := zd_o96 zy_277
theorem dL_law_278 : decode cL_law 278 = .ok (.iaload, 1) := zd_o46 zy_278
theorem dL_law_279 : decode cL_law 279 = .ok (.invokevirtual 19, 3) := zd_invv zy_279 zy_280 zy_281 rfl
theorem dL_law_282 : decode cL_law 282 = .ok (.pop, 1) := zd_o87 zy_282
theorem dL_law_283 : decode cL_law 283 = .ok (.aload_n 2, 1) := zd_o44 zy_283
theorem dL_law_284 : decode cL_law 284 = .ok (.aload_n 0, 1) := zd_o42 zy_284
theorem dL_law_285 : decode cL_law 285 = .ok (.iload 4, 2) := zd_iload zy_285 zy_286 rfl
theorem dL_law_287 : decode cL_law 287 = .ok (.iconst 1, 1) := zd_o4 zy_287
theorem dL_law_288 : decode cL_law 288 = .ok (.iadd, 1) := zd_o96 zy_288
theorem dL_law_289 : decode cL_law 289 = .ok (.iaload, 1) := zd_o46 zy_289
theorem dL_law_290 : decode cL_law 290 = .ok (.aload_n 0, 1) := zd_o42 zy_290
theorem dL_law_291 : decode cL_law 291 = .ok (.iload 4, 2) := zd_iload zy_291 zy_292 rfl
theorem dL_law_293 : decode cL_law 293 = .ok (.iconst 2, 1) := zd_o5 zy_293
theorem dL_law_294 : decode cL_law 294 = .ok (.iadd, 1) := zd_o96 zy_294
theorem dL_law_295 : decode cL_law 295 = .ok (.iaload, 1) := zd_o46 zy_295
theorem dL_law_296 : decode cL_law 296 = .ok (.aload_n 0, 1) := zd_o42 zy_296
theorem dL_law_297 : decode cL_law 297 = .ok (.iload 4, 2) := zd_iload zy_297 zy_298 rfl
theorem dL_law_299 : decode cL_law 299 = .ok (.iconst 3, 1) := zd_o6 zy_299
theorem dL_law_300 : decode cL_law 300 = .ok (.iadd, 1) := zd_o96 zy_300
theorem dL_law_301 : decode cL_law 301 = .ok (.iaload, 1) := zd_o46 zy_301
theorem dL_law_302 : decode cL_law 302 = .ok (.aload_n 0, 1) := zd_o42 zy_302
theorem dL_law_303 : decode cL_law 303 = .ok (.iload 4, 2) := zd_iload zy_303 zy_304 rfl
theorem dL_law_305 : decode cL_law 305 = .ok (.iconst 4, 1) := zd_o7 zy_305
theorem dL_law_306 : decode cL_law 306 = .ok (.iadd, 1) := zd_o96 zy_306
theorem dL_law_307 : decode cL_law 307 = .ok (.iaload, 1) := zd_o46 zy_307
theorem dL_law_308 : decode cL_law 308 = .ok (.aload_n 0, 1) := zd_o42 zy_308
theorem dL_law_309 : decode cL_law 309 = .ok (.iload 4, 2) := zd_iload zy_309 zy_310 rfl
theorem dL_law_311 : decode cL_law 311 = .ok (.iconst 5, 1) := zd_o8 zy_311
theorem dL_law_312 : decode cL_law 312 = .ok (.iadd, 1) := zd_o96 zy_312
theorem dL_law_313 : decode cL_law 313 = .ok (.iaload, 1) := zd_o46 zy_313
theorem dL_law_314 : decode cL_law 314 = .ok (.invokevirtual 23, 3) := zd_invv zy_314 zy_315 zy_316 rfl
theorem dL_law_317 : decode cL_law 317 = .ok (.pop, 1) := zd_o87 zy_317
theorem dL_law_318 : decode cL_law 318 = .ok (.goto 1507, 3) := by decide +kernel
theorem dL_law_321 : decode cL_law 321 = .ok (.aload_n 1, 1) := zd_o43 zy_321
theorem dL_law_322 : decode cL_law 322 = .ok (.aload_n 0, 1) := zd_o42 zy_322
theorem dL_law_323 : decode cL_law 323 = .ok (.iload 4, 2) := zd_iload zy_323 zy_324 rfl
theorem dL_law_325 : decode cL_law 325 = .ok (.iconst 1, 1) := zd_o4 zy_325
theorem dL_law_326 : decode cL_law 326 = .ok (.iadd, 1) := zd_o96 zy_326
theorem dL_law_327 : decode cL_law 327 = .ok (.iaload, 1) := zd_o46 zy_327
theorem dL_law_328 : decode cL_law 328 = .ok (.invokevirtual 24, 3) := zd_invv zy_328 zy_329 zy_330 rfl
theorem dL_law_331 : decode cL_law 331 = .ok (.pop, 1) := zd_o87 zy_331
theorem dL_law_332 : decode cL_law 332 = .ok (.aload_n 2, 1) := zd_o44 zy_332
theorem dL_law_333 : decode cL_law 333 = .ok (.aload_n 0, 1) := zd_o42 zy_333
theorem dL_law_334 : decode cL_law 334 = .ok (.iload 4, 2) := zd_iload zy_334 zy_335 rfl
theorem dL_law_336 : decode cL_law 336 = .ok (.iconst 1, 1) := zd_o4 zy_336
theorem dL_law_337 : decode cL_law 337 = .ok (.iadd, 1) := zd_o96 zy_337
theorem dL_law_338 : decode cL_law 338 = .ok (.iaload, 1) := zd_o46 zy_338
theorem dL_law_339 : decode cL_law 339 = .ok (.invokevirtual 28, 3) := zd_invv zy_339 zy_340 zy_341 rfl
theorem dL_law_342 : decode cL_law 342 = .ok (.pop, 1) := zd_o87 zy_342
theorem dL_law_343 : decode cL_law 343 = .ok (.goto 1482, 3) := by decide +kernel
theorem dL_law_346 : decode cL_law 346 = .ok (.aload_n 1, 1) := zd_o43 zy_346
theorem dL_law_347 : decode cL_law 347 = .ok (.aload_n 0, 1) := zd_o42 zy_347
theorem dL_law_348 : decode cL_law 348 = .ok (.iload 4, 2) := zd_iload zy_348 zy_349 rfl
theorem dL_law_350 : decode cL_law 350 = .ok (.iconst 1, 1) := zd_o4 zy_350
theorem dL_law_351 : decode cL_law 351 = .ok (.iadd, 1) := zd_o96 zy_351
theorem dL_law_352 : decode cL_law 352 = .ok (.iaload, 1) := zd_o46 zy_352
theorem dL_law_353 : decode cL_law 353 = .ok (.invokevirtual 29, 3) := zd_invv zy_353 zy_354 zy_355 rfl
theorem dL_law_356 : decode cL_law 356 = .ok (.pop, 1) := zd_o87 zy_356
theorem dL_law_357 : decode cL_law 357 = .ok (.aload_n 2, 1) := zd_o44 zy_357
theorem dL_law_358 : decode cL_law 358 = .ok (.aload_n 0, 1) := zd_o42 zy_358
theorem dL_law_359 : decode cL_law 359 = .ok (.iload 4, 2) := zd_iload zy_359 zy_360 rfl
theorem dL_law_361 : decode cL_law 361 = .ok (.iconst 1, 1) := zd_o4 zy_361
theorem dL_law_362 : decode cL_law 362 = .ok (.iadd, 1) := zd_o96 zy_362
theorem dL_law_363 : decode cL_law 363 = .ok (.iaload, 1) := zd_o46 zy_363
theorem dL_law_364 : decode cL_law 364 = .ok (.invokevirtual 33, 3) := zd_invv zy_364 zy_365 zy_366 rfl
theorem dL_law_367 : decode cL_law 367 = .ok (.pop, 1) := zd_o87 zy_367
theorem dL_law_368 : decode cL_law 368 = .ok (.goto 1457, 3) := by decide +kernel
theorem dL_law_371 : decode cL_law 371 = .ok (.aload_n 1, 1) := zd_o43 zy_371
theorem dL_law_372 : decode cL_law 372 = .ok (.aload_n 0, 1) := zd_o42 zy_372
theorem dL_law_373 : decode cL_law 373 = .ok (.iload 4, 2) := zd_iload zy_373 zy_374 rfl
theorem dL_law_375 : decode cL_law 375 = .ok (.iconst 1, 1) := zd_o4 zy_375
theorem dL_law_376 : decode cL_law 376 = .ok (.iadd, 1) := zd_o96 zy_376
theorem dL_law_377 : decode cL_law 377 = .ok (.iaload, 1) := zd_o46 zy_377
theorem dL_law_378 : decode cL_law 378 = .ok (.invokevirtual 34, 3) := zd_invv zy_378 zy_379 zy_380 rfl
theorem dL_law_381 : decode cL_law 381 = .ok (.pop, 1) := zd_o87 zy_381
theorem dL_law_382 : decode cL_law 382 = .ok (.aload_n 2, 1) := zd_o44 zy_382
theorem dL_law_383 : decode cL_law 383 = .ok (.aload_n 0, 1) := zd_o42 zy_383
theorem dL_law_384 : decode cL_law 384 = .ok (.iload 4, 2) := zd_iload zy_384 zy_385 rfl
theorem dL_law_386 : decode cL_law 386 = .ok (.iconst 1, 1) := zd_o4 zy_386
theorem dL_law_387 : decode cL_law 387 = .ok (.iadd, 1) := zd_o96 zy_387
theorem dL_law_388 : decode cL_law 388 = .ok (.iaload, 1) := zd_o46 zy_388
theorem dL_law_389 : decode cL_law 389 = .ok (.invokevirtual 37, 3) := zd_invv zy_389 zy_390 zy_391 rfl
theorem dL_law_392 : decode cL_law 392 = .ok (.pop, 1) := zd_o87 zy_392
theorem dL_law_393 : decode cL_law 393 = .ok (.goto 1432, 3) := by decide +kernel
theorem dL_law_396 : decode cL_law 396 = .ok (.aload_n 1, 1) := zd_o43 zy_396
theorem dL_law_397 : decode cL_law 397 = .ok (.aload_n 0, 1) := zd_o42 zy_397
theorem dL_law_398 : decode cL_law 398 = .ok (.iload 4, 2) := zd_iload zy_398 zy_399 rfl
theorem dL_law_400 : decode cL_law 400 = .ok (.iconst 1, 1) := zd_o4 zy_400
theorem dL_law_401 : decode cL_law 401 = .ok (.iadd, 1) := zd_o96 zy_401
theorem dL_law_402 : decode cL_law 402 = .ok (.iaload, 1) := zd_o46 zy_402
theorem dL_law_403 : decode cL_law 403 = .ok (.invokevirtual 38, 3) := zd_invv zy_403 zy_404 zy_405 rfl
theorem dL_law_406 : decode cL_law 406 = .ok (.pop, 1) := zd_o87 zy_406
theorem dL_law_407 : decode cL_law 407 = .ok (.aload_n 2, 1) := zd_o44 zy_407
theorem dL_law_408 : decode cL_law 408 = .ok (.aload_n 0, 1) := zd_o42 zy_408
theorem dL_law_409 : decode cL_law 409 = .ok (.iload 4, 2) := zd_iload zy_409 zy_410 rfl
theorem dL_law_411 : decode cL_law 411 = .ok (.iconst 1, 1) := zd_o4 zy_411
theorem dL_law_412 : decode cL_law 412 = .ok (.iadd, 1) := zd_o96 zy_412
theorem dL_law_413 : decode cL_law 413 = .ok (.iaload, 1) := zd_o46 zy_413
theorem dL_law_414 : decode cL_law 414 = .ok (.invokevirtual 41, 3) := zd_invv zy_414 zy_415 zy_416 rfl
theorem dL_law_417 : decode cL_law 417 = .ok (.pop, 1) := zd_o87 zy_417
theorem dL_law_418 : decode cL_law 418 = .ok (.goto 1407, 3) := by decide +kernel
theorem dL_law_421 : decode cL_law 421 = .ok (.aload_n 1, 1) := zd_o43 zy_421
theorem dL_law_422 : decode cL_law 422 = .ok (.aload_n 0, 1) := zd_o42 zy_422
theorem dL_law_423 : decode cL_law 423 = .ok (.iload 4, 2) := zd_iload zy_423 zy_424 rfl
theorem dL_law_425 : decode cL_law 425 = .ok (.iconst 1, 1) := zd_o4 zy_425
theorem dL_law_426 : decode cL_law 426 = .ok (.iadd, 1) := zd_o96 zy_426
theorem dL_law_427 : decode cL_law 427 = .ok (.iaload, 1) := zd_o46 zy_427
theorem dL_law_428 : decode cL_law 428 = .ok (.aload_n 0, 1) := zd_o42 zy_428
theorem dL_law_429 : decode cL_law 429 = .ok (.iload 4, 2) := zd_iload zy_429 zy_430 rfl
theorem dL_law_431 : decode cL_law 431 = .ok (.iconst 2, 1) := zd_o5 zy_431
theorem dL_law_432 : decode cL_law 432 = .ok (.iadd, 1) := zd_o96 zy_432
theorem dL_law_433 : decode cL_law 433 = .ok (.iaload, 1) := zd_o46 zy_433
theorem dL_law_434 : decode cL_law 434 = .ok (.aload_n 3, 1) := zd_o45 zy_434
theorem dL_law_435 : decode cL_law 435 = .ok (.invokestatic 42, 3) := by decide +kernel
theorem dL_law_438 : decode cL_law 438 = .ok (.istore 5, 2) := by decide +kernel
theorem dL_law_440 : decode cL_law 440 = .ok (.aload_n 2, 1) := zd_o44 zy_440
theorem dL_law_441 : decode cL_law 441 = .ok (.aload_n 0, 1) := zd_o42 zy_441
theorem dL_law_442 : decode cL_law 442 = .ok (.iload 4, 2) := zd_iload zy_442 zy_443 rfl
theorem dL_law_444 : decode cL_law 444 = .ok (.iconst 1, 1) := zd_o4 zy_444
theorem dL_law_445 : decode cL_law 445 = .ok (.iadd, 1) := zd_o96 zy_445
theorem dL_law_446 : decode cL_law 446 = .ok (.iaload, 1) := zd_o46 zy_446
theorem dL_law_447 : decode cL_law 447 = .ok (.aload_n 0, 1) := zd_o42 zy_447
theorem dL_law_448 : decode cL_law 448 = .ok (.iload 4, 2) := zd_iload zy_448 zy_449 rfl
theorem dL_law_450 : decode cL_law 450 = .ok (.iconst 2, 1) := zd_o5 zy_450
theorem dL_law_451 : decode cL_law 451 = .ok (.iadd, 1) := zd_o96 zy_451
theorem dL_law_452 : decode cL_law 452 = .ok (.iaload, 1) := zd_o46 zy_452
theorem dL_law_453 : decode cL_law 453 = .ok (.invokevirtual 47, 3) := zd_invv zy_453 zy_454 zy_455 rfl
theorem dL_law_456 : decode cL_law 456 = .ok (.istore 6, 2) := by decide +kernel
theorem dL_law_458 : decode cL_law 458 = .ok (.aload_n 2, 1) := zd_o44 zy_458
theorem dL_law_459 : decode cL_law 459 = .ok (.invokevirtual 48, 3) := zd_invv zy_459 zy_460 zy_461 rfl
theorem dL_law_462 : decode cL_law 462 = .ok (.iload 5, 2) := zd_iload zy_462 zy_463 rfl
theorem dL_law_464 : decode cL_law 464 = .ok (.if_icmp .eq 5, 3) := by decide +kernel
theorem dL_law_469 : decode cL_law 469 = .ok (.iload 5, 2) := zd_iload zy_469 zy_470 rfl
theorem dL_law_471 : decode cL_law 471 = .ok (.ifCond .ne 15, 3) := by decide +kernel
theorem dL_law_474 : decode cL_law 474 = .ok (.aload_n 3, 1) := zd_o45 zy_474
theorem dL_law_475 : decode cL_law 475 = .ok (.iconst 0, 1) := zd_o3 zy_475
theorem dL_law_476 : decode cL_law 476 = .ok (.laload, 1) := by decide +kernel
theorem dL_law_477 : decode cL_law 477 = .ok (.iload 6, 2) := zd_iload zy_477 zy_478 rfl
theorem dL_law_479 : decode cL_law 479 = .ok (.i2l, 1) := by decide +kernel
theorem dL_law_480 : decode cL_law 480 = .ok (.lcmp, 1) := by decide +kernel
theorem dL_law_481 : decode cL_law 481 = .ok (.ifCond .eq 5, 3) := by decide +kernel
theorem dL_law_486 : decode cL_law 486 = .ok (.goto 1339, 3) := by decide +kernel
theorem dL_law_489 : decode cL_law 489 = .ok (.aload_n 1, 1) := zd_o43 zy_489
theorem dL_law_490 : decode cL_law 490 = .ok (.aload_n 0, 1) := zd_o42 zy_490
theorem dL_law_491 : decode cL_law 491 = .ok (.iload 4, 2) := zd_iload zy_491 zy_492 rfl
theorem dL_law_493 : decode cL_law 493 = .ok (.iconst 1, 1) := zd_o4 zy_493
theorem dL_law_494 : decode cL_law 494 = .ok (.iadd, 1) := zd_o96 zy_494
theorem dL_law_495 : decode cL_law 495 = .ok (.iaload, 1) := zd_o46 zy_495
theorem dL_law_496 : decode cL_law 496 = .ok (.aload_n 0, 1) := zd_o42 zy_496
theorem dL_law_497 : decode cL_law 497 = .ok (.iload 4, 2) := zd_iload zy_497 zy_498 rfl
theorem dL_law_499 : decode cL_law 499 = .ok (.iconst 2, 1) := zd_o5 zy_499
theorem dL_law_500 : decode cL_law 500 = .ok (.iadd, 1) := zd_o96 zy_500
theorem dL_law_501 : decode cL_law 501 = .ok (.iaload, 1) := zd_o46 zy_501
theorem dL_law_502 : decode cL_law 502 = .ok (.invokevirtual 52, 3) := zd_invv zy_502 zy_503 zy_504 rfl
theorem dL_law_505 : decode cL_law 505 = .ok (.pop, 1) := zd_o87 zy_505
theorem dL_law_506 : decode cL_law 506 = .ok (.aload_n 2, 1) := zd_o44 zy_506
theorem dL_law_507 : decode cL_law 507 = .ok (.aload_n 0, 1) := zd_o42 zy_507
theorem dL_law_508 : decode cL_law 508 = .ok (.iload 4, 2) := zd_iload zy_508 zy_509 rfl
theorem dL_law_510 : decode cL_law 510 = .ok (.iconst 1, 1) := zd_o4 zy_510
theorem dL_law_511 : decode cL_law 511 = .ok (.iadd, 1) := zd_o96 zy_511
theorem dL_law_512 : decode cL_law 512 = .ok (.iaload, 1) := zd_o46 zy_512
theorem dL_law_513 : decode cL_law 513 = .ok (.aload_n 0, 1) := zd_o42 zy_513
theorem dL_law_514 : decode cL_law 514 = .ok (.iload 4, 2) := zd_iload zy_514 zy_515 rfl
theorem dL_law_516 : decode cL_law 516 = .ok (.iconst 2, 1) := zd_o5 zy_516
theorem dL_law_517 : decode cL_law 517 = .ok (.iadd, 1) := zd_o96 zy_517
theorem dL_law_518 : decode cL_law 518 = .ok (.iaload, 1) := zd_o46 zy_518
theorem dL_law_519 : decode cL_law 519 = .ok (.invokevirtual 55, 3) := zd_invv zy_519 zy_520 zy_521 rfl
theorem dL_law_522 : decode cL_law 522 = .ok (.pop, 1) := zd_o87 zy_522
theorem dL_law_523 : decode cL_law 523 = .ok (.goto 1302, 3) := by decide +kernel
theorem dL_law_526 : decode cL_law 526 = .ok (.aload_n 1, 1) := zd_o43 zy_526
theorem dL_law_527 : decode cL_law 527 = .ok (.aload_n 0, 1) := zd_o42 zy_527
theorem dL_law_528 : decode cL_law 528 = .ok (.iload 4, 2) := zd_iload zy_528 zy_529 rfl
theorem dL_law_530 : decode cL_law 530 = .ok (.iconst 1, 1) := zd_o4 zy_530
theorem dL_law_531 : decode cL_law 531 = .ok (.iadd, 1) := zd_o96 zy_531
theorem dL_law_532 : decode cL_law 532 = .ok (.iaload, 1) := zd_o46 zy_532
theorem dL_law_533 : decode cL_law 533 = .ok (.invokevirtual 56, 3) := zd_invv zy_533 zy_534 zy_535 rfl
theorem dL_law_536 : decode cL_law 536 = .ok (.pop, 1) := zd_o87 zy_536
theorem dL_law_537 : decode cL_law 537 = .ok (.aload_n 2, 1) := zd_o44 zy_537
theorem dL_law_538 : decode cL_law 538 = .ok (.aload_n 0, 1) := zd_o42 zy_538
theorem dL_law_539 : decode cL_law 539 = .ok (.iload 4, 2) := zd_iload zy_539 zy_540 rfl
theorem dL_law_541 : decode cL_law 541 = .ok (.iconst 1, 1) := zd_o4 zy_541
theorem dL_law_542 : decode cL_law 542 = .ok (.iadd, 1) := zd_o96 zy_542
theorem dL_law_543 : decode cL_law 543 = .ok (.iaload, 1) := zd_o46 zy_543
theorem dL_law_544 : decode cL_law 544 = .ok (.invokevirtual 59, 3) := zd_invv zy_544 zy_545 zy_546 rfl
theorem dL_law_547 : decode cL_law 547 = .ok (.pop, 1) := zd_o87 zy_547
theorem dL_law_548 : decode cL_law 548 = .ok (.goto 1277, 3) := by decide +kernel
theorem dL_law_551 : decode cL_law 551 = .ok (.aload_n 1, 1) := zd_o43 zy_551
theorem dL_law_552 : decode cL_law 552 = .ok (.aload_n 0, 1) := zd_o42 zy_552
theorem dL_law_553 : decode cL_law 553 = .ok (.iload 4, 2) := zd_iload zy_553 zy_554 rfl
theorem dL_law_555 : decode cL_law 555 = .ok (.iconst 1, 1) := zd_o4 zy_555
theorem dL_law_556 : decode cL_law 556 = .ok (.iadd, 1) := zd_o96 zy_556
theorem dL_law_557 : decode cL_law 557 = .ok (.iaload, 1) := zd_o46 zy_557
theorem dL_law_558 : decode cL_law 558 = .ok (.aload_n 0, 1) := zd_o42 zy_558
theorem dL_law_559 : decode cL_law 559 = .ok (.iload 4, 2) := zd_iload zy_559 zy_560 rfl
theorem dL_law_561 : decode cL_law 561 = .ok (.iconst 2, 1) := zd_o5 zy_561
theorem dL_law_562 : decode cL_law 562 = .ok (.iadd, 1) := zd_o96 zy_562
theorem dL_law_563 : decode cL_law 563 = .ok (.iaload, 1) := zd_o46 zy_563
theorem dL_law_564 : decode cL_law 564 = .ok (.invokevirtual 60, 3) := zd_invv zy_564 zy_565 zy_566 rfl
theorem dL_law_567 : decode cL_law 567 = .ok (.pop, 1) := zd_o87 zy_567
theorem dL_law_568 : decode cL_law 568 = .ok (.aload_n 2, 1) := zd_o44 zy_568
theorem dL_law_569 : decode cL_law 569 = .ok (.aload_n 0, 1) := zd_o42 zy_569
theorem dL_law_570 : decode cL_law 570 = .ok (.iload 4, 2) := zd_iload zy_570 zy_571 rfl
theorem dL_law_572 : decode cL_law 572 = .ok (.iconst 1, 1) := zd_o4 zy_572
theorem dL_law_573 : decode cL_law 573 = .ok (.iadd, 1) := zd_o96 zy_573
theorem dL_law_574 : decode cL_law 574 = .ok (.iaload, 1) := zd_o46 zy_574
theorem dL_law_575 : decode cL_law 575 = .ok (.aload_n 0, 1) := zd_o42 zy_575
theorem dL_law_576 : decode cL_law 576 = .ok (.iload 4, 2) := zd_iload zy_576 zy_577 rfl
theorem dL_law_578 : decode cL_law 578 = .ok (.iconst 2, 1) := zd_o5 zy_578
theorem dL_law_579 : decode cL_law 579 = .ok (.iadd, 1) := zd_o96 zy_579
theorem dL_law_580 : decode cL_law 580 = .ok (.iaload, 1) := zd_o46 zy_580
theorem dL_law_581 : decode cL_law 581 = .ok (.invokevirtual 63, 3) := zd_invv zy_581 zy_582 zy_583 rfl
theorem dL_law_584 : decode cL_law 584 = .ok (.pop, 1) := zd_o87 zy_584
theorem dL_law_585 : decode cL_law 585 = .ok (.goto 1240, 3) := by decide +kernel
theorem dL_law_588 : decode cL_law 588 = .ok (.aload_n 1, 1) := zd_o43 zy_588
theorem dL_law_589 : decode cL_law 589 = .ok (.aload_n 0, 1) := zd_o42 zy_589
theorem dL_law_590 : decode cL_law 590 = .ok (.iload 4, 2) := zd_iload zy_590 zy_591 rfl
theorem dL_law_592 : decode cL_law 592 = .ok (.iconst 1, 1) := zd_o4 zy_592
theorem dL_law_593 : decode cL_law 593 = .ok (.iadd, 1) := zd_o96 zy_593
theorem dL_law_594 : decode cL_law 594 = .ok (.iaload, 1) := zd_o46 zy_594
theorem dL_law_595 : decode cL_law 595 = .ok (.aload_n 0, 1) := zd_o42 zy_595
theorem dL_law_596 : decode cL_law 596 = .ok (.iload 4, 2) := zd_iload zy_596 zy_597 rfl
theorem dL_law_598 : decode cL_law 598 = .ok (.iconst 2, 1) := zd_o5 zy_598
theorem dL_law_599 : decode cL_law 599 = .ok (.iadd, 1) := zd_o96 zy_599
theorem dL_law_600 : decode cL_law 600 = .ok (.iaload, 1) := zd_o46 zy_600
theorem dL_law_601 : decode cL_law 601 = .ok (.aload_n 0, 1) := zd_o42 zy_601
theorem dL_law_602 : decode cL_law 602 = .ok (.iload 4, 2) := zd_iload zy_602 zy_603 rfl
theorem dL_law_604 : decode cL_law 604 = .ok (.iconst 3, 1) := zd_o6 zy_604
theorem dL_law_605 : decode cL_law 605 = .ok (.iadd, 1) := zd_o96 zy_605
theorem dL_law_606 : decode cL_law 606 = .ok (.iaload, 1) := zd_o46 zy_606
theorem dL_law_607 : decode cL_law 607 = .ok (.invokevirtual 64, 3) := zd_invv zy_607 zy_608 zy_609 rfl
theorem dL_law_610 : decode cL_law 610 = .ok (.pop, 1) := zd_o87 zy_610
theorem dL_law_611 : decode cL_law 611 = .ok (.aload_n 2, 1) := zd_o44 zy_611
theorem dL_law_612 : decode cL_law 612 = .ok (.aload_n 0, 1) := zd_o42 zy_612
theorem dL_law_613 : decode cL_law 613 = .ok (.iload 4, 2) := zd_iload zy_613 zy_614 rfl
theorem dL_law_615 : decode cL_law 615 = .ok (.iconst 1, 1) := zd_o4 zy_615
theorem dL_law_616 : decode cL_law 616 = .ok (.iadd, 1) := zd_o96 zy_616
theorem dL_law_617 : decode cL_law 617 = .ok (.iaload, 1) := zd_o46 zy_617
theorem dL_law_618 : decode cL_law 618 = .ok (.aload_n 0, 1) := zd_o42 zy_618
theorem dL_law_619 : decode cL_law 619 = .ok (.iload 4, 2) := zd_iload zy_619 zy_620 rfl
theorem dL_law_621 : decode cL_law 621 = .ok (.iconst 2, 1) := zd_o5 zy_621
theorem dL_law_622 : decode cL_law 622 = .ok (.iadd, 1) := zd_o96 zy_622
theorem dL_law_623 : decode cL_law 623 = .ok (.iaload, 1) := zd_o46 zy_623
theorem dL_law_624 : decode cL_law 624 = .ok (.aload_n 0, 1) := zd_o42 zy_624
theorem dL_law_625 : decode cL_law 625 = .ok (.iload 4, 2) := zd_iload zy_625 zy_626 rfl
theorem dL_law_627 : decode cL_law 627 = .ok (.iconst 3, 1) := zd_o6 zy_627
theorem dL_law_628 : decode cL_law 628 = .ok (.iadd, 1) := zd_o96 zy_628
theorem dL_law_629 : decode cL_law 629 = .ok (.iaload, 1) := zd_o46 zy_629
theorem dL_law_630 : decode cL_law 630 = .ok (.invokevirtual 68, 3) := zd_invv zy_630 zy_631 zy_632 rfl
theorem dL_law_633 : decode cL_law 633 = .ok (.pop, 1) := zd_o87 zy_633
theorem dL_law_634 : decode cL_law 634 = .ok (.goto 1191, 3) := by decide +kernel
theorem dL_law_637 : decode cL_law 637 = .ok (.aload_n 1, 1) := zd_o43 zy_637
theorem dL_law_638 : decode cL_law 638 = .ok (.aload_n 0, 1) := zd_o42 zy_638
theorem dL_law_639 : decode cL_law 639 = .ok (.iload 4, 2) := zd_iload zy_639 zy_640 rfl
theorem dL_law_641 : decode cL_law 641 = .ok (.iconst 1, 1) := zd_o4 zy_641
theorem dL_law_642 : decode cL_law 642 = .ok (.iadd, 1) := zd_o96 zy_642
theorem dL_law_643 : decode cL_law 643 = .ok (.iaload, 1) := zd_o46 zy_643
theorem dL_law_644 : decode cL_law 644 = .ok (.aload_n 0, 1) := zd_o42 zy_644
theorem dL_law_645 : decode cL_law 645 = .ok (.iload 4, 2) := zd_iload zy_645 zy_646 rfl
theorem dL_law_647 : decode cL_law 647 = .ok (.iconst 2, 1) := zd_o5 zy_647
theorem dL_law_648 : decode cL_law 648 = .ok (.iadd, 1) := zd_o96 zy_648
theorem dL_law_649 : decode cL_law 649 = .ok (.iaload, 1) := zd_o46 zy_649
theorem dL_law_650 : decode cL_law 650 = .ok (.invokevirtual 69, 3) := zd_invv zy_650 zy_651 zy_652 rfl
theorem dL_law_653 : decode cL_law 653 = .ok (.pop, 1) := zd_o87 zy_653
theorem dL_law_654 : decode cL_law 654 = .ok (.aload_n 2, 1) := zd_o44 zy_654
theorem dL_law_655 : decode cL_law 655 = .ok (.aload_n 0, 1) := zd_o42 zy_655
theorem dL_law_656 : decode cL_law 656 = .ok (.iload 4, 2) := zd_iload zy_656 zy_657 rfl
theorem dL_law_658 : decode cL_law 658 = .ok (.iconst 1, 1) := zd_o4 zy_658
theorem dL_law_659 : decode cL_law 659 = .ok (.iadd, 1) := zd_o96 zy_659
theorem dL_law_660 : decode cL_law 660 = .ok (.iaload, 1) := zd_o46 zy_660
theorem dL_law_661 : decode cL_law 661 = .ok (.aload_n 0, 1) := zd_o42 zy_661
theorem dL_law_662 : decode cL_law 662 = .ok (.iload 4, 2) := zd_iload zy_662 zy_663 rfl
theorem dL_law_664 : decode cL_law 664 = .ok (.iconst 2, 1) := zd_o5 zy_664
theorem dL_law_665 : decode cL_law 665 = .ok (.iadd, 1) := zd_o96 zy_665
theorem dL_law_666 : decode cL_law 666 = .ok (.iaload, 1) := zd_o46 zy_666
theorem dL_law_667 : decode cL_law 667 = .ok (.invokevirtual 72, 3) := zd_invv zy_667 zy_668 zy_669 rfl
theorem dL_law_670 : decode cL_law 670 = .ok (.pop, 1) := zd_o87 zy_670
theorem dL_law_671 : decode cL_law 671 = .ok (.goto 1154, 3) := by decide +kernel
theorem dL_law_674 : decode cL_law 674 = .ok (.aload_n 1, 1) := zd_o43 zy_674
theorem dL_law_675 : decode cL_law 675 = .ok (.aload_n 0, 1) := zd_o42 zy_675
theorem dL_law_676 : decode cL_law 676 = .ok (.iload 4, 2) := zd_iload zy_676 zy_677 rfl
theorem dL_law_678 : decode cL_law 678 = .ok (.iconst 1, 1) := zd_o4 zy_678
theorem dL_law_679 : decode cL_law 679 = .ok (.iadd, 1) := zd_o96 zy_679
theorem dL_law_680 : decode cL_law 680 = .ok (.iaload, 1) := zd_o46 zy_680
theorem dL_law_681 : decode cL_law 681 = .ok (.aload_n 0, 1) := zd_o42 zy_681
theorem dL_law_682 : decode cL_law 682 = .ok (.iload 4, 2) := zd_iload zy_682 zy_683 rfl
theorem dL_law_684 : decode cL_law 684 = .ok (.iconst 2, 1) := zd_o5 zy_684
theorem dL_law_685 : decode cL_law 685 = .ok (.iadd, 1) := zd_o96 zy_685
theorem dL_law_686 : decode cL_law 686 = .ok (.iaload, 1) := zd_o46 zy_686
theorem dL_law_687 : decode cL_law 687 = .ok (.invokevirtual 73, 3) := zd_invv zy_687 zy_688 zy_689 rfl
theorem dL_law_690 : decode cL_law 690 = .ok (.pop, 1) := zd_o87 zy_690
theorem dL_law_691 : decode cL_law 691 = .ok (.aload_n 2, 1) := zd_o44 zy_691
theorem dL_law_692 : decode cL_law 692 = .ok (.aload_n 0, 1) := zd_o42 zy_692
theorem dL_law_693 : decode cL_law 693 = .ok (.iload 4, 2) := zd_iload zy_693 zy_694 rfl
theorem dL_law_695 : decode cL_law 695 = .ok (.iconst 1, 1) := zd_o4 zy_695
theorem dL_law_696 : decode cL_law 696 = .ok (.iadd, 1) := zd_o96 zy_696
theorem dL_law_697 : decode cL_law 697 = .ok (.iaload, 1) := zd_o46 zy_697
theorem dL_law_698 : decode cL_law 698 = .ok (.aload_n 0, 1) := zd_o42 zy_698
theorem dL_law_699 : decode cL_law 699 = .ok (.iload 4, 2) := zd_iload zy_699 zy_700 rfl
theorem dL_law_701 : decode cL_law 701 = .ok (.iconst 2, 1) := zd_o5 zy_701
theorem dL_law_702 : decode cL_law 702 = .ok (.iadd, 1) := zd_o96 zy_702
theorem dL_law_703 : decode cL_law 703 = .ok (.iaload, 1) := zd_o46 zy_703
theorem dL_law_704 : decode cL_law 704 = .ok (.invokevirtual 76, 3) := zd_invv zy_704 zy_705 zy_706 rfl
theorem dL_law_707 : decode cL_law 707 = .ok (.pop, 1) := zd_o87 zy_707
theorem dL_law_708 : decode cL_law 708 = .ok (.goto 1117, 3) := by decide +kernel
theorem dL_law_711 : decode cL_law 711 = .ok (.aload_n 1, 1) := zd_o43 zy_711
theorem dL_law_712 : decode cL_law 712 = .ok (.aload_n 0, 1) := zd_o42 zy_712
theorem dL_law_713 : decode cL_law 713 = .ok (.iload 4, 2) := zd_iload zy_713 zy_714 rfl
theorem dL_law_715 : decode cL_law 715 = .ok (.iconst 1, 1) := zd_o4 zy_715
theorem dL_law_716 : decode cL_law 716 = .ok (.iadd, 1) := zd_o96 zy_716
theorem dL_law_717 : decode cL_law 717 = .ok (.iaload, 1) := zd_o46 zy_717
theorem dL_law_718 : decode cL_law 718 = .ok (.invokevirtual 77, 3) := zd_invv zy_718 zy_719 zy_720 rfl
theorem dL_law_721 : decode cL_law 721 = .ok (.pop, 1) := zd_o87 zy_721
theorem dL_law_722 : decode cL_law 722 = .ok (.aload_n 2, 1) := zd_o44 zy_722
theorem dL_law_723 : decode cL_law 723 = .ok (.aload_n 0, 1) := zd_o42 zy_723
theorem dL_law_724 : decode cL_law 724 = .ok (.iload 4, 2) := zd_iload zy_724 zy_725 rfl
theorem dL_law_726 : decode cL_law 726 = .ok (.iconst 1, 1) := zd_o4 zy_726
theorem dL_law_727 : decode cL_law 727 = .ok (.iadd, 1) := zd_o96 zy_727
theorem dL_law_728 : decode cL_law 728 = .ok (.iaload, 1) := zd_o46 zy_728
theorem dL_law_729 : decode cL_law 729 = .ok (.invokevirtual 80, 3) := zd_invv zy_729 zy_730 zy_731 rfl
theorem dL_law_732 : decode cL_law 732 = .ok (.pop, 1) := zd_o87 zy_732
theorem dL_law_733 : decode cL_law 733 = .ok (.goto 1092, 3) := by decide +kernel
theorem dL_law_736 : decode cL_law 736 = .ok (.aload_n 1, 1) := zd_o43 zy_736
theorem dL_law_737 : decode cL_law 737 = .ok (.aload_n 0, 1) := zd_o42 zy_737
theorem dL_law_738 : decode cL_law 738 = .ok (.iload 4, 2) := zd_iload zy_738 zy_739 rfl
theorem dL_law_740 : decode cL_law 740 = .ok (.iconst 1, 1) := zd_o4 zy_740
theorem dL_law_741 : decode cL_law 741 = .ok (.iadd, 1) := zd_o96 zy_741
theorem dL_law_742 : decode cL_law 742 = .ok (.iaload, 1) := zd_o46 zy_742
theorem dL_law_743 : decode cL_law 743 = .ok (.invokevirtual 81, 3) := zd_invv zy_743 zy_744 zy_745 rfl
theorem dL_law_746 : decode cL_law 746 = .ok (.pop, 1) := zd_o87 zy_746
theorem dL_law_747 : decode cL_law 747 = .ok (.aload_n 2, 1) := zd_o44 zy_747
theorem dL_law_748 : decode cL_law 748 = .ok (.aload_n 0, 1) := zd_o42 zy_748
theorem dL_law_749 : decode cL_law 749 = .ok (.iload 4, 2) := zd_iload zy_749 zy_750 rfl
theorem dL_law_751 : decode cL_law 751 = .ok (.iconst 1, 1) := zd_o4 zy_751
theorem dL_law_752 : decode cL_law 752 = .ok (.iadd, 1) := zd_o96 zy_752
theorem dL_law_753 : decode cL_law 753 = .ok (.iaload, 1) := zd_o46 zy_753
theorem dL_law_754 : decode cL_law 754 = .ok (.invokevirtual 84, 3) := zd_invv zy_754 zy_755 zy_756 rfl
theorem dL_law_757 : decode cL_law 757 = .ok (.pop, 1) := zd_o87 zy_757
theorem dL_law_758 : decode cL_law 758 = .ok (.goto 1067, 3) := by decide +kernel
theorem dL_law_761 : decode cL_law 761 = .ok (.aload_n 1, 1) := zd_o43 zy_761
theorem dL_law_762 : decode cL_law 762 = .ok (.aload_n 0, 1) := zd_o42 zy_762
theorem dL_law_763 : decode cL_law 763 = .ok (.iload 4, 2) := zd_iload zy_763 zy_764 rfl
theorem dL_law_765 : decode cL_law 765 = .ok (.iconst 1, 1) := zd_o4 zy_765
theorem dL_law_766 : decode cL_law 766 = .ok (.iadd, 1) := zd_o96 zy_766
theorem dL_law_767 : decode cL_law 767 = .ok (.iaload, 1) := zd_o46 zy_767
theorem dL_law_768 : decode cL_law 768 = .ok (.invokevirtual 85, 3) := zd_invv zy_768 zy_769 zy_770 rfl
theorem dL_law_771 : decode cL_law 771 = .ok (.pop, 1) := zd_o87 zy_771
theorem dL_law_772 : decode cL_law 772 = .ok (.aload_n 2, 1) := zd_o44 zy_772
theorem dL_law_773 : decode cL_law 773 = .ok (.aload_n 0, 1) := zd_o42 zy_773
theorem dL_law_774 : decode cL_law 774 = .ok (.iload 4, 2) := zd_iload zy_774 zy_775 rfl
theorem dL_law_776 : decode cL_law 776 = .ok (.iconst 1, 1) := zd_o4 zy_776
theorem dL_law_777 : decode cL_law 777 = .ok (.iadd, 1) := zd_o96 zy_777
theorem dL_law_778 : decode cL_law 778 = .ok (.iaload, 1) := zd_o46 zy_778
theorem dL_law_779 : decode cL_law 779 = .ok (.invokevirtual 88, 3) := zd_invv zy_779 zy_780 zy_781 rfl
theorem dL_law_782 : decode cL_law 782 = .ok (.pop, 1) := zd_o87 zy_782
theorem dL_law_783 : decode cL_law 783 = .ok (.goto 1042, 3) := by decide +kernel
theorem dL_law_786 : decode cL_law 786 = .ok (.aload_n 1, 1) := zd_o43 zy_786
theorem dL_law_787 : decode cL_law 787 = .ok (.aload_n 0, 1) := zd_o42 zy_787
theorem dL_law_788 : decode cL_law 788 = .ok (.iload 4, 2) := zd_iload zy_788 zy_789 rfl
theorem dL_law_790 : decode cL_law 790 = .ok (.iconst 1, 1) := zd_o4 zy_790
theorem dL_law_791 : decode cL_law 791 = .ok (.iadd, 1) := zd_o96 zy_791
theorem dL_law_792 : decode cL_law 792 = .ok (.iaload, 1) := zd_o46 zy_792
theorem dL_law_793 : decode cL_law 793 = .ok (.invokevirtual 89, 3) := zd_invv zy_793 zy_794 zy_795 rfl
theorem dL_law_796 : decode cL_law 796 = .ok (.pop, 1) := zd_o87 zy_796
theorem dL_law_797 : decode cL_law 797 = .ok (.aload_n 2, 1) := zd_o44 zy_797
theorem dL_law_798 : decode cL_law 798 = .ok (.aload_n 0, 1) := zd_o42 zy_798
theorem dL_law_799 : decode cL_law 799 = .ok (.iload 4, 2) := zd_iload zy_799 zy_800 rfl
theorem dL_law_801 : decode cL_law 801 = .ok (.iconst 1, 1) := zd_o4 zy_801
theorem dL_law_802 : decode cL_law 802 = .ok (.iadd, 1) := zd_o96 zy_802
theorem dL_law_803 : decode cL_law 803 = .ok (.iaload, 1) := zd_o46 zy_803
theorem dL_law_804 : decode cL_law 804 = .ok (.invokevirtual 92, 3) := zd_invv zy_804 zy_805 zy_806 rfl
theorem dL_law_807 : decode cL_law 807 = .ok (.pop, 1) := zd_o87 zy_807
theorem dL_law_808 : decode cL_law 808 = .ok (.goto 1017, 3) := by decide +kernel
theorem dL_law_811 : decode cL_law 811 = .ok (.aload_n 1, 1) := zd_o43 zy_811
theorem dL_law_812 : decode cL_law 812 = .ok (.invokevirtual 93, 3) := zd_invv zy_812 zy_813 zy_814 rfl
theorem dL_law_815 : decode cL_law 815 = .ok (.pop, 1) := zd_o87 zy_815
theorem dL_law_816 : decode cL_law 816 = .ok (.aload_n 2, 1) := zd_o44 zy_816
theorem dL_law_817 : decode cL_law 817 = .ok (.invokevirtual 96, 3) := zd_invv zy_817 zy_818 zy_819 rfl
theorem dL_law_820 : decode cL_law 820 = .ok (.pop, 1) := zd_o87 zy_820
theorem dL_law_821 : decode cL_law 821 = .ok (.goto 1004, 3) := by decide +kernel
theorem dL_law_824 : decode cL_law 824 = .ok (.aload_n 1, 1) := zd_o43 zy_824
theorem dL_law_825 : decode cL_law 825 = .ok (.aload_n 0, 1) := zd_o42 zy_825
theorem dL_law_826 : decode cL_law 826 = .ok (.iload 4, 2) := zd_iload zy_826 zy_827 rfl
theorem dL_law_828 : decode cL_law 828 = .ok (.iconst 1, 1) := zd_o4 zy_828
theorem dL_law_829 : decode cL_law 829 = .ok (.iadd, 1) := zd_o96 zy_829
theorem dL_law_830 : decode cL_law 830 = .ok (.iaload, 1) := zd_o46 zy_830
theorem dL_law_831 : decode cL_law 831 = .ok (.invokevirtual 97, 3) := zd_invv zy_831 zy_832 zy_833 rfl
theorem dL_law_834 : decode cL_law 834 = .ok (.pop, 1) := zd_o87 zy_834
theorem dL_law_835 : decode cL_law 835 = .ok (.aload_n 2, 1) := zd_o44 zy_835
theorem dL_law_836 : decode cL_law 836 = .ok (.aload_n 0, 1) := zd_o42 zy_836
theorem dL_law_837 : decode cL_law 837 = .ok (.iload 4, 2) := zd_iload zy_837 zy_838 rfl
theorem dL_law_839 : decode cL_law 839 = .ok (.iconst 1, 1) := zd_o4 zy_839
theorem dL_law_840 : decode cL_law 840 = .ok (.iadd, 1) := zd_o96 zy_840
theorem dL_law_841 : decode cL_law 841 = .ok (.iaload, 1) := zd_o46 zy_841
theorem dL_law_842 : decode cL_law 842 = .ok (.invokevirtual 100, 3) := zd_invv zy_842 zy_843 zy_844 rfl
theorem dL_law_845 : decode cL_law 845 = .ok (.pop, 1) := zd_o87 zy_845
theorem dL_law_846 : decode cL_law 846 = .ok (.goto 979, 3) := by decide +kernel
theorem dL_law_849 : decode cL_law 849 = .ok (.aload_n 1, 1) := zd_o43 zy_849
theorem dL_law_850 : decode cL_law 850 = .ok (.aload_n 0, 1) := zd_o42 zy_850
theorem dL_law_851 : decode cL_law 851 = .ok (.iload 4, 2) := zd_iload zy_851 zy_852 rfl
theorem dL_law_853 : decode cL_law 853 = .ok (.iconst 1, 1) := zd_o4 zy_853
theorem dL_law_854 : decode cL_law 854 = .ok (.iadd, 1) := zd_o96 zy_854
theorem dL_law_855 : decode cL_law 855 = .ok (.iaload, 1) := zd_o46 zy_855
theorem dL_law_856 : decode cL_law 856 = .ok (.invokevirtual 101, 3) := zd_invv zy_856 zy_857 zy_858 rfl
theorem dL_law_859 : decode cL_law 859 = .ok (.pop, 1) := zd_o87 zy_859
theorem dL_law_860 : decode cL_law 860 = .ok (.aload_n 2, 1) := zd_o44 zy_860
theorem dL_law_861 : decode cL_law 861 = .ok (.aload_n 0, 1) := zd_o42 zy_861
theorem dL_law_862 : decode cL_law 862 = .ok (.iload 4, 2) := zd_iload zy_862 zy_863 rfl
theorem dL_law_864 : decode cL_law 864 = .ok (.iconst 1, 1) := zd_o4 zy_864
theorem dL_law_865 : decode cL_law 865 = .ok (.iadd, 1) := zd_o96 zy_865
theorem dL_law_866 : decode cL_law 866 = .ok (.iaload, 1) := zd_o46 zy_866
theorem dL_law_867 : decode cL_law 867 = .ok (.invokevirtual 104, 3) := zd_invv zy_867 zy_868 zy_869 rfl
theorem dL_law_870 : decode cL_law 870 = .ok (.pop, 1) := zd_o87 zy_870
theorem dL_law_871 : decode cL_law 871 = .ok (.goto 954, 3) := by decide +kernel
theorem dL_law_874 : decode cL_law 874 = .ok (.aload_n 1, 1) := zd_o43 zy_874
theorem dL_law_875 : decode cL_law 875 = .ok (.aload_n 0, 1) := zd_o42 zy_875
theorem dL_law_876 : decode cL_law 876 = .ok (.iload 4, 2) := zd_iload zy_876 zy_877 rfl
theorem dL_law_878 : decode cL_law 878 = .ok (.iconst 1, 1) := zd_o4 zy_878
theorem dL_law_879 : decode cL_law 879 = .ok (.iadd, 1) := zd_o96 zy_879
theorem dL_law_880 : decode cL_law 880 = .ok (.iaload, 1) := zd_o46 zy_880
theorem dL_law_881 : decode cL_law 881 = .ok (.aload_n 0, 1) := zd_o42 zy_881
theorem dL_law_882 : decode cL_law 882 = .ok (.iload 4, 2) := zd_iload zy_882 zy_883 rfl
theorem dL_law_884 : decode cL_law 884 = .ok (.iconst 2, 1) := zd_o5 zy_884
theorem dL_law_885 : decode cL_law 885 = .ok (.iadd, 1) := zd_o96 zy_885
theorem dL_law_886 : decode cL_law 886 = .ok (.iaload, 1) := zd_o46 zy_886
theorem dL_law_887 : decode cL_law 887 = .ok (.i2l, 1) := by decide +kernel
theorem dL_law_888 : decode cL_law 888 = .ok (.bipush 32, 2) := by decide +kernel
theorem dL_law_890 : decode cL_law 890 = .ok (.lshl, 1) := by decide +kernel
theorem dL_law_891 : decode cL_law 891 = .ok (.aload_n 0, 1) := zd_o42 zy_891
theorem dL_law_892 : decode cL_law 892 = .ok (.iload 4, 2) := zd_iload zy_892 zy_893 rfl
theorem dL_law_894 : decode cL_law 894 = .ok (.iconst 3, 1) := zd_o6 zy_894
theorem dL_law_895 : decode cL_law 895 = .ok (.iadd, 1) := zd_o96 zy_895
theorem dL_law_896 : decode cL_law 896 = .ok (.iaload, 1) := zd_o46 zy_896
theorem dL_law_897 : decode cL_law 897 = .ok (.i2l, 1) := by decide +kernel
theorem dL_law_898 : decode cL_law 898 = .ok (.ldc2_w 105, 3) := by decide +kernel
theorem dL_law_901 : decode cL_law 901 = .ok (.land, 1) := by decide +kernel
theorem dL_law_902 : decode cL_law 902 = .ok (.lor, 1) := by decide +kernel
theorem dL_law_903 : decode cL_law 903 = .ok (.invokevirtual 107, 3) := zd_invv zy_903 zy_904 zy_905 rfl
theorem dL_law_906 : decode cL_law 906 = .ok (.pop, 1) := zd_o87 zy_906
theorem dL_law_907 : decode cL_law 907 = .ok (.aload_n 2, 1) := zd_o44 zy_907
theorem dL_law_908 : decode cL_law 908 = .ok (.aload_n 0, 1) := zd_o42 zy_908
theorem dL_law_909 : decode cL_law 909 = .ok (.iload 4, 2) := zd_iload zy_909 zy_910 rfl
theorem dL_law_911 : decode cL_law 911 = .ok (.iconst 1, 1) := zd_o4 zy_911
theorem dL_law_912 : decode cL_law 912 = .ok (.iadd, 1) := zd_o96 zy_912
theorem dL_law_913 : decode cL_law 913 = .ok (.iaload, 1) := zd_o46 zy_913
theorem dL_law_914 : decode cL_law 914 = .ok (.aload_n 0, 1) := zd_o42 zy_914
theorem dL_law_915 : decode cL_law 915 = .ok (.iload 4, 2) := zd_iload zy_915 zy_916 rfl
theorem dL_law_917 : decode cL_law 917 = .ok (.iconst 2, 1) := zd_o5 zy_917
theorem dL_law_918 : decode cL_law 918 = .ok (.iadd, 1) := zd_o96 zy_918
theorem dL_law_919 : decode cL_law 919 = .ok (.iaload, 1) := zd_o46 zy_919
theorem dL_law_920 : decode cL_law 920 = .ok (.i2l, 1) := by decide +kernel
theorem dL_law_921 : decode cL_law 921 = .ok (.bipush 32, 2) := by decide +kernel
theorem dL_law_923 : decode cL_law 923 = .ok (.lshl, 1) := by decide +kernel
theorem dL_law_924 : decode cL_law 924 = .ok (.aload_n 0, 1) := zd_o42 zy_924
theorem dL_law_925 : decode cL_law 925 = .ok (.iload 4, 2) := zd_iload zy_925 zy_926 rfl
theorem dL_law_927 : decode cL_law 927 = .ok (.iconst 3, 1) := zd_o6 zy_927
theorem dL_law_928 : decode cL_law 928 = .ok (.iadd, 1) := zd_o96 zy_928
theorem dL_law_929 : decode cL_law 929 = .ok (.iaload, 1) := zd_o46 zy_929
theorem dL_law_930 : decode cL_law 930 = .ok (.i2l, 1) := by decide +kernel
theorem dL_law_931 : decode cL_law 931 = .ok (.ldc2_w 105, 3) := by decide +kernel
theorem dL_law_934 : decode cL_law 934 = .ok (.land, 1) := by decide +kernel
theorem dL_law_935 : decode cL_law 935 = .ok (.lor, 1) := by decide +kernel
theorem dL_law_936 : decode cL_law 936 = .ok (.invokevirtual 111, 3) := zd_invv zy_936 zy_937 zy_938 rfl
theorem dL_law_939 : decode cL_law 939 = .ok (.pop, 1) := zd_o87 zy_939
theorem dL_law_940 : decode cL_law 940 = .ok (.goto 885, 3) := by decide +kernel
theorem dL_law_943 : decode cL_law 943 = .ok (.aload_n 1, 1) := zd_o43 zy_943
theorem dL_law_944 : decode cL_law 944 = .ok (.aload_n 0, 1) := zd_o42 zy_944
theorem dL_law_945 : decode cL_law 945 = .ok (.iload 4, 2) := zd_iload zy_945 zy_946 rfl
theorem dL_law_947 : decode cL_law 947 = .ok (.iconst 1, 1) := zd_o4 zy_947
theorem dL_law_948 : decode cL_law 948 = .ok (.iadd, 1) := zd_o96 zy_948
theorem dL_law_949 : decode cL_law 949 = .ok (.iaload, 1) := zd_o46 zy_949
theorem dL_law_950 : decode cL_law 950 = .ok (.invokevirtual 112, 3) := zd_invv zy_950 zy_951 zy_952 rfl
theorem dL_law_953 : decode cL_law 953 = .ok (.pop, 1) := zd_o87 zy_953
theorem dL_law_954 : decode cL_law 954 = .ok (.aload_n 2, 1) := zd_o44 zy_954
theorem dL_law_955 : decode cL_law 955 = .ok (.aload_n 0, 1) := zd_o42 zy_955
theorem dL_law_956 : decode cL_law 956 = .ok (.iload 4, 2) := zd_iload zy_956 zy_957 rfl
theorem dL_law_958 : decode cL_law 958 = .ok (.iconst 1, 1) := zd_o4 zy_958
theorem dL_law_959 : decode cL_law 959 = .ok (.iadd, 1) := zd_o96 zy_959
theorem dL_law_960 : decode cL_law 960 = .ok (.iaload, 1) := zd_o46 zy_960
theorem dL_law_961 : decode cL_law 961 = .ok (.invokevirtual 115, 3) := zd_invv zy_961 zy_962 zy_963 rfl
theorem dL_law_964 : decode cL_law 964 = .ok (.pop, 1) := zd_o87 zy_964
theorem dL_law_965 : decode cL_law 965 = .ok (.goto 860, 3) := by decide +kernel
theorem dL_law_968 : decode cL_law 968 = .ok (.aload_n 1, 1) := zd_o43 zy_968
theorem dL_law_969 : decode cL_law 969 = .ok (.invokevirtual 116, 3) := zd_invv zy_969 zy_970 zy_971 rfl
theorem dL_law_972 : decode cL_law 972 = .ok (.pop, 1) := zd_o87 zy_972
theorem dL_law_973 : decode cL_law 973 = .ok (.aload_n 2, 1) := zd_o44 zy_973
theorem dL_law_974 : decode cL_law 974 = .ok (.invokevirtual 119, 3) := zd_invv zy_974 zy_975 zy_976 rfl
theorem dL_law_977 : decode cL_law 977 = .ok (.pop, 1) := zd_o87 zy_977
theorem dL_law_978 : decode cL_law 978 = .ok (.goto 847, 3) := by decide +kernel
theorem dL_law_981 : decode cL_law 981 = .ok (.aload_n 1, 1) := zd_o43 zy_981
theorem dL_law_982 : decode cL_law 982 = .ok (.aload_n 0, 1) := zd_o42 zy_982
theorem dL_law_983 : decode cL_law 983 = .ok (.iload 4, 2) := zd_iload zy_983 zy_984 rfl
theorem dL_law_985 : decode cL_law 985 = .ok (.iconst 1, 1) := zd_o4 zy_985
theorem dL_law_986 : decode cL_law 986 = .ok (.iadd, 1) := zd_o96 zy_986
theorem dL_law_987 : decode cL_law 987 = .ok (.iaload, 1) := zd_o46 zy_987
theorem dL_law_988 : decode cL_law 988 = .ok (.aload_n 0, 1) := zd_o42 zy_988
theorem dL_law_989 : decode cL_law 989 = .ok (.iload 4, 2) := zd_iload zy_989 zy_990 rfl
theorem dL_law_991 : decode cL_law 991 = .ok (.iconst 2, 1) := zd_o5 zy_991
theorem dL_law_992 : decode cL_law 992 = .ok (.iadd, 1) := zd_o96 zy_992
theorem dL_law_993 : decode cL_law 993 = .ok (.iaload, 1) := zd_o46 zy_993
theorem dL_law_994 : decode cL_law 994 = .ok (.invokevirtual 120, 3) := zd_invv zy_994 zy_995 zy_996 rfl
theorem dL_law_997 : decode cL_law 997 = .ok (.pop, 1) := zd_o87 zy_997
theorem dL_law_998 : decode cL_law 998 = .ok (.aload_n 2, 1) := zd_o44 zy_998
theorem dL_law_999 : decode cL_law 999 = .ok (.aload_n 0, 1) := zd_o42 zy_999
theorem dL_law_1000 : decode cL_law 1000 = .ok (.iload 4, 2) := zd_iload zy_1000 zy_1001 rfl
theorem dL_law_1002 : decode cL_law 1002 = .ok (.iconst 1, 1) := zd_o4 zy_1002
theorem dL_law_1003 : decode cL_law 1003 = .ok (.iadd, 1) := zd_o96 zy_1003
theorem dL_law_1004 : decode cL_law 1004 = .ok (.iaload, 1) := zd_o46 zy_1004
theorem dL_law_1005 : decode cL_law 1005 = .ok (.aload_n 0, 1) := zd_o42 zy_1005
theorem dL_law_1006 : decode cL_law 1006 = .ok (.iload 4, 2) := zd_iload zy_1006 zy_1007 rfl
theorem dL_law_1008 : decode cL_law 1008 = .ok (.iconst 2, 1) := zd_o5 zy_1008
theorem dL_law_1009 : decode cL_law 1009 = .ok (.iadd, 1) := zd_o96 zy_1009
theorem dL_law_1010 : decode cL_law 1010 = .ok (.iaload, 1) := zd_o46 zy_1010
theorem dL_law_1011 : decode cL_law 1011 = .ok (.invokevirtual 123, 3) := zd_invv zy_1011 zy_1012 zy_1013 rfl
theorem dL_law_1014 : decode cL_law 1014 = .ok (.pop, 1) := zd_o87 zy_1014
theorem dL_law_1015 : decode cL_law 1015 = .ok (.goto 810, 3) := by decide +kernel
theorem dL_law_1018 : decode cL_law 1018 = .ok (.aload_n 1, 1) := zd_o43 zy_1018
theorem dL_law_1019 : decode cL_law 1019 = .ok (.aload_n 0, 1) := zd_o42 zy_1019
theorem dL_law_1020 : decode cL_law 1020 = .ok (.iload 4, 2) := zd_iload zy_1020 zy_1021 rfl
theorem dL_law_1022 : decode cL_law 1022 = .ok (.iconst 1, 1) := zd_o4 zy_1022
theorem dL_law_1023 : decode cL_law 1023 = .ok (.iadd, 1) := zd_o96 zy_1023
theorem dL_law_1024 : decode cL_law 1024 = .ok (.iaload, 1) := zd_o46 zy_1024
theorem dL_law_1025 : decode cL_law 1025 = .ok (.invokevirtual 124, 3) := zd_invv zy_1025 zy_1026 zy_1027 rfl
theorem dL_law_1028 : decode cL_law 1028 = .ok (.pop, 1) := zd_o87 zy_1028
theorem dL_law_1029 : decode cL_law 1029 = .ok (.aload_n 2, 1) := zd_o44 zy_1029
theorem dL_law_1030 : decode cL_law 1030 = .ok (.aload_n 0, 1) := zd_o42 zy_1030
theorem dL_law_1031 : decode cL_law 1031 = .ok (.iload 4, 2) := zd_iload zy_1031 zy_1032 rfl
theorem dL_law_1033 : decode cL_law 1033 = .ok (.iconst 1, 1) := zd_o4 zy_1033
theorem dL_law_1034 : decode cL_law 1034 = .ok (.iadd, 1) := zd_o96 zy_1034
theorem dL_law_1035 : decode cL_law 1035 = .ok (.iaload, 1) := zd_o46 zy_1035
theorem dL_law_1036 : decode cL_law 1036 = .ok (.invokevirtual 127, 3) := zd_invv zy_1036 zy_1037 zy_1038 rfl
theorem dL_law_1039 : decode cL_law 1039 = .ok (.pop, 1) := zd_o87 zy_1039
theorem dL_law_1040 : decode cL_law 1040 = .ok (.goto 785, 3) := by decide +kernel
theorem dL_law_1043 : decode cL_law 1043 = .ok (.aload_n 1, 1) := zd_o43 zy_1043
theorem dL_law_1044 : decode cL_law 1044 = .ok (.aload_n 0, 1) := zd_o42 zy_1044
theorem dL_law_1045 : decode cL_law 1045 = .ok (.iload 4, 2) := zd_iload zy_1045 zy_1046 rfl
theorem dL_law_1047 : decode cL_law 1047 = .ok (.iconst 1, 1) := zd_o4 zy_1047
theorem dL_law_1048 : decode cL_law 1048 = .ok (.iadd, 1) := zd_o96 zy_1048
theorem dL_law_1049 : decode cL_law 1049 = .ok (.iaload, 1) := zd_o46 zy_1049
theorem dL_law_1050 : decode cL_law 1050 = .ok (.aload_n 0, 1) := zd_o42 zy_1050
theorem dL_law_1051 : decode cL_law 1051 = .ok (.iload 4, 2) := zd_iload zy_1051 zy_1052 rfl
theorem dL_law_1053 : decode cL_law 1053 = .ok (.iconst 2, 1) := zd_o5 zy_1053
theorem dL_law_1054 : decode cL_law 1054 = .ok (.iadd, 1) := zd_o96 zy_1054
theorem dL_law_1055 : decode cL_law 1055 = .ok (.iaload, 1) := zd_o46 zy_1055
theorem dL_law_1056 : decode cL_law 1056 = .ok (.invokevirtual 128, 3) := zd_invv zy_1056 zy_1057 zy_1058 rfl
theorem dL_law_1059 : decode cL_law 1059 = .ok (.pop, 1) := zd_o87 zy_1059
theorem dL_law_1060 : decode cL_law 1060 = .ok (.aload_n 2, 1) := zd_o44 zy_1060
theorem dL_law_1061 : decode cL_law 1061 = .ok (.aload_n 0, 1) := zd_o42 zy_1061
theorem dL_law_1062 : decode cL_law 1062 = .ok (.iload 4, 2) := zd_iload zy_1062 zy_1063 rfl
theorem dL_law_1064 : decode cL_law 1064 = .ok (.iconst 1, 1) := zd_o4 zy_1064
theorem dL_law_1065 : decode cL_law 1065 = .ok (.iadd, 1) := zd_o96 zy_1065
theorem dL_law_1066 : decode cL_law 1066 = .ok (.iaload, 1) := zd_o46 zy_1066
theorem dL_law_1067 : decode cL_law 1067 = .ok (.aload_n 0, 1) := zd_o42 zy_1067
theorem dL_law_1068 : decode cL_law 1068 = .ok (.iload 4, 2) := zd_iload zy_1068 zy_1069 rfl
theorem dL_law_1070 : decode cL_law 1070 = .ok (.iconst 2, 1) := zd_o5 zy_1070
theorem dL_law_1071 : decode cL_law 1071 = .ok (.iadd, 1) := zd_o96 zy_1071
theorem dL_law_1072 : decode cL_law 1072 = .ok (.iaload, 1) := zd_o46 zy_1072
theorem dL_law_1073 : decode cL_law 1073 = .ok (.invokevirtual 131, 3) := zd_invv zy_1073 zy_1074 zy_1075 rfl
theorem dL_law_1076 : decode cL_law 1076 = .ok (.pop, 1) := zd_o87 zy_1076
theorem dL_law_1077 : decode cL_law 1077 = .ok (.goto 748, 3) := by decide +kernel
theorem dL_law_1080 : decode cL_law 1080 = .ok (.aload_n 1, 1) := zd_o43 zy_1080
theorem dL_law_1081 : decode cL_law 1081 = .ok (.aload_n 0, 1) := zd_o42 zy_1081
theorem dL_law_1082 : decode cL_law 1082 = .ok (.iload 4, 2) := zd_iload zy_1082 zy_1083 rfl
theorem dL_law_1084 : decode cL_law 1084 = .ok (.iconst 1, 1) := zd_o4 zy_1084
theorem dL_law_1085 : decode cL_law 1085 = .ok (.iadd, 1) := zd_o96 zy_1085
theorem dL_law_1086 : decode cL_law 1086 = .ok (.iaload, 1) := zd_o46 zy_1086
theorem dL_law_1087 : decode cL_law 1087 = .ok (.aload_n 0, 1) := zd_o42 zy_1087
theorem dL_law_1088 : decode cL_law 1088 = .ok (.iload 4, 2) := zd_iload zy_1088 zy_1089 rfl
theorem dL_law_1090 : decode cL_law 1090 = .ok (.iconst 2, 1) := zd_o5 zy_1090
theorem dL_law_1091 : decode cL_law 1091 = .ok (.iadd, 1) := zd_o96 zy_1091
theorem dL_law_1092 : decode cL_law 1092 = .ok (.iaload, 1) := zd_o46 zy_1092
theorem dL_law_1093 : decode cL_law 1093 = .ok (.invokevirtual 132, 3) := zd_invv zy_1093 zy_1094 zy_1095 rfl
theorem dL_law_1096 : decode cL_law 1096 = .ok (.pop, 1) := zd_o87 zy_1096
theorem dL_law_1097 : decode cL_law 1097 = .ok (.aload_n 2, 1) := zd_o44 zy_1097
theorem dL_law_1098 : decode cL_law 1098 = .ok (.aload_n 0, 1) := zd_o42 zy_1098
theorem dL_law_1099 : decode cL_law 1099 = .ok (.iload 4, 2) := zd_iload zy_1099 zy_1100 rfl
theorem dL_law_1101 : decode cL_law 1101 = .ok (.iconst 1, 1) := zd_o4 zy_1101
theorem dL_law_1102 : decode cL_law 1102 = .ok (.iadd, 1) := zd_o96 zy_1102
theorem dL_law_1103 : decode cL_law 1103 = .ok (.iaload, 1) := zd_o46 zy_1103
theorem dL_law_1104 : decode cL_law 1104 = .ok (.aload_n 0, 1) := zd_o42 zy_1104
theorem dL_law_1105 : decode cL_law 1105 = .ok (.iload 4, 2) := zd_iload zy_1105 zy_1106 rfl
theorem dL_law_1107 : decode cL_law 1107 = .ok (.iconst 2, 1) := zd_o5 zy_1107
theorem dL_law_1108 : decode cL_law 1108 = .ok (.iadd, 1) := zd_o96 zy_1108
theorem dL_law_1109 : decode cL_law 1109 = .ok (.iaload, 1) := zd_o46 zy_1109
theorem dL_law_1110 : decode cL_law 1110 = .ok (.invokevirtual 135, 3) := zd_invv zy_1110 zy_1111 zy_1112 rfl
theorem dL_law_1113 : decode cL_law 1113 = .ok (.pop, 1) := zd_o87 zy_1113
theorem dL_law_1114 : decode cL_law 1114 = .ok (.goto 711, 3) := by decide +kernel
theorem dL_law_1117 : decode cL_law 1117 = .ok (.aload_n 1, 1) := zd_o43 zy_1117
theorem dL_law_1118 : decode cL_law 1118 = .ok (.aload_n 0, 1) := zd_o42 zy_1118
theorem dL_law_1119 : decode cL_law 1119 = .ok (.iload 4, 2) := zd_iload zy_1119 zy_1120 rfl
theorem dL_law_1121 : decode cL_law 1121 = .ok (.iconst 1, 1) := zd_o4 zy_1121
theorem dL_law_1122 : decode cL_law 1122 = .ok (.iadd, 1) := zd_o96 zy_1122
theorem dL_law_1123 : decode cL_law 1123 = .ok (.iaload, 1) := zd_o46 zy_1123
theorem dL_law_1124 : decode cL_law 1124 = .ok (.aload_n 0, 1) := zd_o42 zy_1124
theorem dL_law_1125 : decode cL_law 1125 = .ok (.iload 4, 2) := zd_iload zy_1125 zy_1126 rfl
theorem dL_law_1127 : decode cL_law 1127 = .ok (.iconst 2, 1) := zd_o5 zy_1127
theorem dL_law_1128 : decode cL_law 1128 = .ok (.iadd, 1) := zd_o96 zy_1128
theorem dL_law_1129 : decode cL_law 1129 = .ok (.iaload, 1) := zd_o46 zy_1129
theorem dL_law_1130 : decode cL_law 1130 = .ok (.invokevirtual 136, 3) := zd_invv zy_1130 zy_1131 zy_1132 rfl
theorem dL_law_1133 : decode cL_law 1133 = .ok (.pop, 1) := zd_o87 zy_1133
theorem dL_law_1134 : decode cL_law 1134 = .ok (.aload_n 2, 1) := zd_o44 zy_1134
theorem dL_law_1135 : decode cL_law 1135 = .ok (.aload_n 0, 1) := zd_o42 zy_1135
theorem dL_law_1136 : decode cL_law 1136 = .ok (.iload 4, 2) := zd_iload zy_1136 zy_1137 rfl
theorem dL_law_1138 : decode cL_law 1138 = .ok (.iconst 1, 1) := zd_o4 zy_1138
theorem dL_law_1139 : decode cL_law 1139 = .ok (.iadd, 1) := zd_o96 zy_1139
theorem dL_law_1140 : decode cL_law 1140 = .ok (.iaload, 1) := zd_o46 zy_1140
theorem dL_law_1141 : decode cL_law 1141 = .ok (.aload_n 0, 1) := zd_o42 zy_1141
theorem dL_law_1142 : decode cL_law 1142 = .ok (.iload 4, 2) := zd_iload zy_1142 zy_1143 rfl
theorem dL_law_1144 : decode cL_law 1144 = .ok (.iconst 2, 1) := zd_o5 zy_1144
theorem dL_law_1145 : decode cL_law 1145 = .ok (.iadd, 1) := zd_o96 zy_1145
theorem dL_law_1146 : decode cL_law 1146 = .ok (.iaload, 1) := zd_o46 zy_1146
theorem dL_law_1147 : decode cL_law 1147 = .ok (.invokevirtual 139, 3) := zd_invv zy_1147 zy_1148 zy_1149 rfl
theorem dL_law_1150 : decode cL_law 1150 = .ok (.pop, 1) := zd_o87 zy_1150
theorem dL_law_1151 : decode cL_law 1151 = .ok (.goto 674, 3) := by decide +kernel
theorem dL_law_1154 : decode cL_law 1154 = .ok (.aload_n 1, 1) := zd_o43 zy_1154
theorem dL_law_1155 : decode cL_law 1155 = .ok (.aload_n 0, 1) := zd_o42 zy_1155
theorem dL_law_1156 : decode cL_law 1156 = .ok (.iload 4, 2) := zd_iload zy_1156 zy_1157 rfl
theorem dL_law_1158 : decode cL_law 1158 = .ok (.iconst 1, 1) := zd_o4 zy_1158
theorem dL_law_1159 : decode cL_law 1159 = .ok (.iadd, 1) := zd_o96 zy_1159
theorem dL_law_1160 : decode cL_law 1160 = .ok (.iaload, 1) := zd_o46 zy_1160
theorem dL_law_1161 : decode cL_law 1161 = .ok (.invokevirtual 140, 3) := zd_invv zy_1161 zy_1162 zy_1163 rfl
theorem dL_law_1164 : decode cL_law 1164 = .ok (.pop, 1) := zd_o87 zy_1164
theorem dL_law_1165 : decode cL_law 1165 = .ok (.aload_n 2, 1) := zd_o44 zy_1165
theorem dL_law_1166 : decode cL_law 1166 = .ok (.aload_n 0, 1) := zd_o42 zy_1166
theorem dL_law_1167 : decode cL_law 1167 = .ok (.iload 4, 2) := zd_iload zy_1167 zy_1168 rfl
theorem dL_law_1169 : decode cL_law 1169 = .ok (.iconst 1, 1) := zd_o4 zy_1169
theorem dL_law_1170 : decode cL_law 1170 = .ok (.iadd, 1) := zd_o96 zy_1170
theorem dL_law_1171 : decode cL_law 1171 = .ok (.iaload, 1) := zd_o46 zy_1171
theorem dL_law_1172 : decode cL_law 1172 = .ok (.invokevirtual 143, 3) := zd_invv zy_1172 zy_1173 zy_1174 rfl
theorem dL_law_1175 : decode cL_law 1175 = .ok (.pop, 1) := zd_o87 zy_1175
theorem dL_law_1176 : decode cL_law 1176 = .ok (.goto 649, 3) := by decide +kernel
theorem dL_law_1179 : decode cL_law 1179 = .ok (.aload_n 1, 1) := zd_o43 zy_1179
theorem dL_law_1180 : decode cL_law 1180 = .ok (.aload_n 0, 1) := zd_o42 zy_1180
theorem dL_law_1181 : decode cL_law 1181 = .ok (.iload 4, 2) := zd_iload zy_1181 zy_1182 rfl
theorem dL_law_1183 : decode cL_law 1183 = .ok (.iconst 1, 1) := zd_o4 zy_1183
theorem dL_law_1184 : decode cL_law 1184 = .ok (.iadd, 1) := zd_o96 zy_1184
theorem dL_law_1185 : decode cL_law 1185 = .ok (.iaload, 1) := zd_o46 zy_1185
theorem dL_law_1186 : decode cL_law 1186 = .ok (.invokevirtual 144, 3) := zd_invv zy_1186 zy_1187 zy_1188 rfl
theorem dL_law_1189 : decode cL_law 1189 = .ok (.pop, 1) := zd_o87 zy_1189
theorem dL_law_1190 : decode cL_law 1190 = .ok (.aload_n 2, 1) := zd_o44 zy_1190
theorem dL_law_1191 : decode cL_law 1191 = .ok (.aload_n 0, 1) := zd_o42 zy_1191
theorem dL_law_1192 : decode cL_law 1192 = .ok (.iload 4, 2) := zd_iload zy_1192 zy_1193 rfl
theorem dL_law_1194 : decode cL_law 1194 = .ok (.iconst 1, 1) := zd_o4 zy_1194
theorem dL_law_1195 : decode cL_law 1195 = .ok (.iadd, 1) := zd_o96 zy_1195
theorem dL_law_1196 : decode cL_law 1196 = .ok (.iaload, 1) := zd_o46 zy_1196
theorem dL_law_1197 : decode cL_law 1197 = .ok (.invokevirtual 147, 3) := zd_invv zy_1197 zy_1198 zy_1199 rfl
theorem dL_law_1200 : decode cL_law 1200 = .ok (.pop, 1) := zd_o87 zy_1200
theorem dL_law_1201 : decode cL_law 1201 = .ok (.goto 624, 3) := by decide +kernel
theorem dL_law_1204 : decode cL_law 1204 = .ok (.aload_n 1, 1) := zd_o43 zy_1204
theorem dL_law_1205 : decode cL_law 1205 = .ok (.aload_n 0, 1) := zd_o42 zy_1205
theorem dL_law_1206 : decode cL_law 1206 = .ok (.iload 4, 2) := zd_iload zy_1206 zy_1207 rfl
theorem dL_law_1208 : decode cL_law 1208 = .ok (.iconst 1, 1) := zd_o4 zy_1208
theorem dL_law_1209 : decode cL_law 1209 = .ok (.iadd, 1) := zd_o96 zy_1209
theorem dL_law_1210 : decode cL_law 1210 = .ok (.iaload, 1) := zd_o46 zy_1210
theorem dL_law_1211 : decode cL_law 1211 = .ok (.aload_n 0, 1) := zd_o42 zy_1211
theorem dL_law_1212 : decode cL_law 1212 = .ok (.iload 4, 2) := zd_iload zy_1212 zy_1213 rfl
theorem dL_law_1214 : decode cL_law 1214 = .ok (.iconst 2, 1) := zd_o5 zy_1214
theorem dL_law_1215 : decode cL_law 1215 = .ok (.iadd, 1) := zd_o96 zy_1215
theorem dL_law_1216 : decode cL_law 1216 = .ok (.iaload, 1) := zd_o46 zy_1216
theorem dL_law_1217 : decode cL_law 1217 = .ok (.invokevirtual 148, 3) := zd_invv zy_1217 zy_1218 zy_1219 rfl
theorem dL_law_1220 : decode cL_law 1220 = .ok (.pop, 1) := zd_o87 zy_1220
theorem dL_law_1221 : decode cL_law 1221 = .ok (.aload_n 2, 1) := zd_o44 zy_1221
theorem dL_law_1222 : decode cL_law 1222 = .ok (.aload_n 0, 1) := zd_o42 zy_1222
theorem dL_law_1223 : decode cL_law 1223 = .ok (.iload 4, 2) := zd_iload zy_1223 zy_1224 rfl
theorem dL_law_1225 : decode cL_law 1225 = .ok (.iconst 1, 1) := zd_o4 zy_1225
theorem dL_law_1226 : decode cL_law 1226 = .ok (.iadd, 1) := zd_o96 zy_1226
theorem dL_law_1227 : decode cL_law 1227 = .ok (.iaload, 1) := zd_o46 zy_1227
theorem dL_law_1228 : decode cL_law 1228 = .ok (.aload_n 0, 1) := zd_o42 zy_1228
theorem dL_law_1229 : decode cL_law 1229 = .ok (.iload 4, 2) := zd_iload zy_1229 zy_1230 rfl
theorem dL_law_1231 : decode cL_law 1231 = .ok (.iconst 2, 1) := zd_o5 zy_1231
theorem dL_law_1232 : decode cL_law 1232 = .ok (.iadd, 1) := zd_o96 zy_1232
theorem dL_law_1233 : decode cL_law 1233 = .ok (.iaload, 1) := zd_o46 zy_1233
theorem dL_law_1234 : decode cL_law 1234 = .ok (.invokevirtual 151, 3) := zd_invv zy_1234 zy_1235 zy_1236 rfl
theorem dL_law_1237 : decode cL_law 1237 = .ok (.pop, 1) := zd_o87 zy_1237
theorem dL_law_1238 : decode cL_law 1238 = .ok (.goto 587, 3) := by decide +kernel
theorem dL_law_1241 : decode cL_law 1241 = .ok (.aload_n 1, 1) := zd_o43 zy_1241
theorem dL_law_1242 : decode cL_law 1242 = .ok (.aload_n 0, 1) := zd_o42 zy_1242
theorem dL_law_1243 : decode cL_law 1243 = .ok (.iload 4, 2) := zd_iload zy_1243 zy_1244 rfl
theorem dL_law_1245 : decode cL_law 1245 = .ok (.iconst 1, 1) := zd_o4 zy_1245
theorem dL_law_1246 : decode cL_law 1246 = .ok (.iadd, 1) := zd_o96 zy_1246
theorem dL_law_1247 : decode cL_law 1247 = .ok (.iaload, 1) := zd_o46 zy_1247
theorem dL_law_1248 : decode cL_law 1248 = .ok (.invokevirtual 152, 3) := zd_invv zy_1248 zy_1249 zy_1250 rfl
theorem dL_law_1251 : decode cL_law 1251 = .ok (.pop, 1) := zd_o87 zy_1251
theorem dL_law_1252 : decode cL_law 1252 = .ok (.aload_n 2, 1) := zd_o44 zy_1252
theorem dL_law_1253 : decode cL_law 1253 = .ok (.aload_n 0, 1) := zd_o42 zy_1253
theorem dL_law_1254 : decode cL_law 1254 = .ok (.iload 4, 2) := zd_iload zy_1254 zy_1255 rfl
theorem dL_law_1256 : decode cL_law 1256 = .ok (.iconst 1, 1) := zd_o4 zy_1256
theorem dL_law_1257 : decode cL_law 1257 = .ok (.iadd, 1) := zd_o96 zy_1257
theorem dL_law_1258 : decode cL_law 1258 = .ok (.iaload, 1) := zd_o46 zy_1258
theorem dL_law_1259 : decode cL_law 1259 = .ok (.invokevirtual 155, 3) := zd_invv zy_1259 zy_1260 zy_1261 rfl
theorem dL_law_1262 : decode cL_law 1262 = .ok (.pop, 1) := zd_o87 zy_1262
theorem dL_law_1263 : decode cL_law 1263 = .ok (.goto 562, 3) := by decide +kernel
theorem dL_law_1266 : decode cL_law 1266 = .ok (.aload_n 1, 1) := zd_o43 zy_1266
theorem dL_law_1267 : decode cL_law 1267 = .ok (.aload_n 0, 1) := zd_o42 zy_1267
theorem dL_law_1268 : decode cL_law 1268 = .ok (.iload 4, 2) := zd_iload zy_1268 zy_1269 rfl
theorem dL_law_1270 : decode cL_law 1270 = .ok (.iconst 1, 1) := zd_o4 zy_1270
theorem dL_law_1271 : decode cL_law 1271 = .ok (.iadd, 1) := zd_o96 zy_1271
theorem dL_law_1272 : decode cL_law 1272 = .ok (.iaload, 1) := zd_o46 zy_1272
theorem dL_law_1273 : decode cL_law 1273 = .ok (.aload_n 0, 1) := zd_o42 zy_1273
theorem dL_law_1274 : decode cL_law 1274 = .ok (.iload 4, 2) := zd_iload zy_1274 zy_1275 rfl
theorem dL_law_1276 : decode cL_law 1276 = .ok (.iconst 2, 1) := zd_o5 zy_1276
theorem dL_law_1277 : decode cL_law 1277 = .ok (.iadd, 1) := zd_o96 zy_1277
theorem dL_law_1278 : decode cL_law 1278 = .ok (.iaload, 1) := zd_o46 zy_1278
theorem dL_law_1279 : decode cL_law 1279 = .ok (.aload_n 0, 1) := zd_o42 zy_1279
theorem dL_law_1280 : decode cL_law 1280 = .ok (.iload 4, 2) := zd_iload zy_1280 zy_1281 rfl
theorem dL_law_1282 : decode cL_law 1282 = .ok (.iconst 3, 1) := zd_o6 zy_1282
theorem dL_law_1283 : decode cL_law 1283 = .ok (.iadd, 1) := zd_o96 zy_1283
theorem dL_law_1284 : decode cL_law 1284 = .ok (.iaload, 1) := zd_o46 zy_1284
theorem dL_law_1285 : decode cL_law 1285 = .ok (.aload_n 0, 1) := zd_o42 zy_1285
theorem dL_law_1286 : decode cL_law 1286 = .ok (.iload 4, 2) := zd_iload zy_1286 zy_1287 rfl
theorem dL_law_1288 : decode cL_law 1288 = .ok (.iconst 4, 1) := zd_o7 zy_1288
theorem dL_law_1289 : decode cL_law 1289 = .ok (.iadd, 1) := zd_o96 zy_1289
theorem dL_law_1290 : decode cL_law 1290 = .ok (.iaload, 1) := zd_o46 zy_1290
theorem dL_law_1291 : decode cL_law 1291 = .ok (.aload_n 0, 1) := zd_o42 zy_1291
theorem dL_law_1292 : decode cL_law 1292 = .ok (.iload 4, 2) := zd_iload zy_1292 zy_1293 rfl
theorem dL_law_1294 : decode cL_law 1294 = .ok (.iconst 5, 1) := zd_o8 zy_1294
theorem dL_law_1295 : decode cL_law 1295 = .ok (.iadd, 1) := zd_o96 zy_1295
theorem dL_law_1296 : decode cL_law 1296 = .ok (.iaload, 1) := zd_o46 zy_1296
theorem dL_law_1297 : decode cL_law 1297 = .ok (.aload_n 0, 1) := zd_o42 zy_1297
theorem dL_law_1298 : decode cL_law 1298 = .ok (.iload 4, 2) := zd_iload zy_1298 zy_1299 rfl
theorem dL_law_1300 : decode cL_law 1300 = .ok (.bipush 6, 2) := by decide +kernel
theorem dL_law_1302 : decode cL_law 1302 = .ok (.iadd, 1) := zd_o96 zy_1302
theorem dL_law_1303 : decode cL_law 1303 = .ok (.iaload, 1) := zd_o46 zy_1303
theorem dL_law_1304 : decode cL_law 1304 = .ok (.invokevirtual 156, 3) := zd_invv zy_1304 zy_1305 zy_1306 rfl
theorem dL_law_1307 : decode cL_law 1307 = .ok (.pop, 1) := zd_o87 zy_1307
theorem dL_law_1308 : decode cL_law 1308 = .ok (.aload_n 2, 1) := zd_o44 zy_1308
theorem dL_law_1309 : decode cL_law 1309 = .ok (.aload_n 0, 1) := zd_o42 zy_1309
theorem dL_law_1310 : decode cL_law 1310 = .ok (.iload 4, 2) := zd_iload zy_1310 zy_1311 rfl
theorem dL_law_1312 : decode cL_law 1312 = .ok (.iconst 1, 1) := zd_o4 zy_1312
theorem dL_law_1313 : decode cL_law 1313 = .ok (.iadd, 1) := zd_o96 zy_1313
theorem dL_law_1314 : decode cL_law 1314 = .ok (.iaload, 1) := zd_o46 zy_1314
theorem dL_law_1315 : decode cL_law 1315 = .ok (.aload_n 0, 1) := zd_o42 zy_1315
theorem dL_law_1316 : decode cL_law 1316 = .ok (.iload 4, 2) := zd_iload zy_1316 zy_1317 rfl
theorem dL_law_1318 : decode cL_law 1318 = .ok (.iconst 2, 1) := zd_o5 zy_1318
theorem dL_law_1319 : decode cL_law 1319 = .ok (.iadd, 1) := zd_o96 zy_1319
theorem dL_law_1320 : decode cL_law 1320 = .ok (.iaload, 1) := zd_o46 zy_1320
theorem dL_law_1321 : decode cL_law 1321 = .ok (.aload_n 0, 1) := zd_o42 zy_1321
theorem dL_law_1322 : decode cL_law 1322 = .ok (.iload 4, 2) := zd_iload zy_1322 zy_1323 rfl
theorem dL_law_1324 : decode cL_law 1324 = .ok (.iconst 3, 1) := zd_o6 zy_1324
theorem dL_law_1325 : decode cL_law 1325 = .ok (.iadd, 1) := zd_o96 zy_1325
theorem dL_law_1326 : decode cL_law 1326 = .ok (.iaload, 1) := zd_o46 zy_1326
theorem dL_law_1327 : decode cL_law 1327 = .ok (.aload_n 0, 1) := zd_o42 zy_1327
theorem dL_law_1328 : decode cL_law 1328 = .ok (.iload 4, 2) := zd_iload zy_1328 zy_1329 rfl
theorem dL_law_1330 : decode cL_law 1330 = .ok (.iconst 4, 1) := zd_o7 zy_1330
theorem dL_law_1331 : decode cL_law 1331 = .ok (.iadd, 1) := zd_o96 zy_1331
theorem dL_law_1332 : decode cL_law 1332 = .ok (.iaload, 1) := zd_o46 zy_1332
theorem dL_law_1333 : decode cL_law 1333 = .ok (.aload_n 0, 1) := zd_o42 zy_1333
theorem dL_law_1334 : decode cL_law 1334 = .ok (.iload 4, 2) := zd_iload zy_1334 zy_1335 rfl
theorem dL_law_1336 : decode cL_law 1336 = .ok (.iconst 5, 1) := zd_o8 zy_1336
theorem dL_law_1337 : decode cL_law 1337 = .ok (.iadd, 1) := zd_o96 zy_1337
theorem dL_law_1338 : decode cL_law 1338 = .ok (.iaload, 1) := zd_o46 zy_1338
theorem dL_law_1339 : decode cL_law 1339 = .ok (.aload_n 0, 1) := zd_o42 zy_1339
theorem dL_law_1340 : decode cL_law 1340 = .ok (.iload 4, 2) := zd_iload zy_1340 zy_1341 rfl
theorem dL_law_1342 : decode cL_law 1342 = .ok (.bipush 6, 2) := by decide +kernel
theorem dL_law_1344 : decode cL_law 1344 = .ok (.iadd, 1) := zd_o96 zy_1344
theorem dL_law_1345 : decode cL_law 1345 = .ok (.iaload, 1) := zd_o46 zy_1345
theorem dL_law_1346 : decode cL_law 1346 = .ok (.invokevirtual 160, 3) := zd_invv zy_1346 zy_1347 zy_1348 rfl
theorem dL_law_1349 : decode cL_law 1349 = .ok (.pop, 1) := zd_o87 zy_1349
theorem dL_law_1350 : decode cL_law 1350 = .ok (.goto 475, 3) := by decide +kernel
theorem dL_law_1353 : decode cL_law 1353 = .ok (.aload_n 1, 1) := zd_o43 zy_1353
theorem dL_law_1354 : decode cL_law 1354 = .ok (.aload_n 0, 1) := zd_o42 zy_1354
theorem dL_law_1355 : decode cL_law 1355 = .ok (.iload 4, 2) := zd_iload zy_1355 zy_1356 rfl
theorem dL_law_1357 : decode cL_law 1357 = .ok (.iconst 1, 1) := zd_o4 zy_1357
theorem dL_law_1358 : decode cL_law 1358 = .ok (.iadd, 1) := zd_o96 zy_1358
theorem dL_law_1359 : decode cL_law 1359 = .ok (.iaload, 1) := zd_o46 zy_1359
theorem dL_law_1360 : decode cL_law 1360 = .ok (.aload_n 0, 1) := zd_o42 zy_1360
theorem dL_law_1361 : decode cL_law 1361 = .ok (.iload 4, 2) := zd_iload zy_1361 zy_1362 rfl
theorem dL_law_1363 : decode cL_law 1363 = .ok (.iconst 2, 1) := zd_o5 zy_1363
theorem dL_law_1364 : decode cL_law 1364 = .ok (.iadd, 1) := zd_o96 zy_1364
theorem dL_law_1365 : decode cL_law 1365 = .ok (.iaload, 1) := zd_o46 zy_1365
theorem dL_law_1366 : decode cL_law 1366 = .ok (.aload_n 0, 1) := zd_o42 zy_1366
theorem dL_law_1367 : decode cL_law 1367 = .ok (.iload 4, 2) := zd_iload zy_1367 zy_1368 rfl
theorem dL_law_1369 : decode cL_law 1369 = .ok (.iconst 3, 1) := zd_o6 zy_1369
theorem dL_law_1370 : decode cL_law 1370 = .ok (.iadd, 1) := zd_o96 zy_1370
theorem dL_law_1371 : decode cL_law 1371 = .ok (.iaload, 1) := zd_o46 zy_1371
theorem dL_law_1372 : decode cL_law 1372 = .ok (.aload_n 0, 1) := zd_o42 zy_1372
theorem dL_law_1373 : decode cL_law 1373 = .ok (.iload 4, 2) := zd_iload zy_1373 zy_1374 rfl
theorem dL_law_1375 : decode cL_law 1375 = .ok (.iconst 4, 1) := zd_o7 zy_1375
theorem dL_law_1376 : decode cL_law 1376 = .ok (.iadd, 1) := zd_o96 zy_1376
theorem dL_law_1377 : decode cL_law 1377 = .ok (.iaload, 1) := zd_o46 zy_1377
theorem dL_law_1378 : decode cL_law 1378 = .ok (.invokevirtual 161, 3) := zd_invv zy_1378 zy_1379 zy_1380 rfl
theorem dL_law_1381 : decode cL_law 1381 = .ok (.pop, 1) := zd_o87 zy_1381
theorem dL_law_1382 : decode cL_law 1382 = .ok (.aload_n 2, 1) := zd_o44 zy_1382
theorem dL_law_1383 : decode cL_law 1383 = .ok (.aload_n 0, 1) := zd_o42 zy_1383
theorem dL_law_1384 : decode cL_law 1384 = .ok (.iload 4, 2) := zd_iload zy_1384 zy_1385 rfl
theorem dL_law_1386 : decode cL_law 1386 = .ok (.iconst 1, 1) := zd_o4 zy_1386
theorem dL_law_1387 : decode cL_law 1387 = .ok (.iadd, 1) := zd_o96 zy_1387
theorem dL_law_1388 : decode cL_law 1388 = .ok (.iaload, 1) := zd_o46 zy_1388
theorem dL_law_1389 : decode cL_law 1389 = .ok (.aload_n 0, 1) := zd_o42 zy_1389
theorem dL_law_1390 : decode cL_law 1390 = .ok (.iload 4, 2) := zd_iload zy_1390 zy_1391 rfl
theorem dL_law_1392 : decode cL_law 1392 = .ok (.iconst 2, 1) := zd_o5 zy_1392
theorem dL_law_1393 : decode cL_law 1393 = .ok (.iadd, 1) := zd_o96 zy_1393
theorem dL_law_1394 : decode cL_law 1394 = .ok (.iaload, 1) := zd_o46 zy_1394
theorem dL_law_1395 : decode cL_law 1395 = .ok (.aload_n 0, 1) := zd_o42 zy_1395
theorem dL_law_1396 : decode cL_law 1396 = .ok (.iload 4, 2) := zd_iload zy_1396 zy_1397 rfl
theorem dL_law_1398 : decode cL_law 1398 = .ok (.iconst 3, 1) := zd_o6 zy_1398
theorem dL_law_1399 : decode cL_law 1399 = .ok (.iadd, 1) := zd_o96 zy_1399
theorem dL_law_1400 : decode cL_law 1400 = .ok (.iaload, 1) := zd_o46 zy_1400
theorem dL_law_1401 : decode cL_law 1401 = .ok (.aload_n 0, 1) := zd_o42 zy_1401
theorem dL_law_1402 : decode cL_law 1402 = .ok (.iload 4, 2) := zd_iload zy_1402 zy_1403 rfl
theorem dL_law_1404 : decode cL_law 1404 = .ok (.iconst 4, 1) := zd_o7 zy_1404
theorem dL_law_1405 : decode cL_law 1405 = .ok (.iadd, 1) := zd_o96 zy_1405
theorem dL_law_1406 : decode cL_law 1406 = .ok (.iaload, 1) := zd_o46 zy_1406
theorem dL_law_1407 : decode cL_law 1407 = .ok (.invokevirtual 165, 3) := zd_invv zy_1407 zy_1408 zy_1409 rfl
theorem dL_law_1410 : decode cL_law 1410 = .ok (.pop, 1) := zd_o87 zy_1410
theorem dL_law_1411 : decode cL_law 1411 = .ok (.goto 414, 3) := by decide +kernel
theorem dL_law_1414 : decode cL_law 1414 = .ok (.aload_n 1, 1) := zd_o43 zy_1414
theorem dL_law_1415 : decode cL_law 1415 = .ok (.aload_n 0, 1) := zd_o42 zy_1415
theorem dL_law_1416 : decode cL_law 1416 = .ok (.iload 4, 2) := zd_iload zy_1416 zy_1417 rfl
theorem dL_law_1418 : decode cL_law 1418 = .ok (.iconst 1, 1) := zd_o4 zy_1418
theorem dL_law_1419 : decode cL_law 1419 = .ok (.iadd, 1) := zd_o96 zy_1419
theorem dL_law_1420 : decode cL_law 1420 = .ok (.iaload, 1) := zd_o46 zy_1420
theorem dL_law_1421 : decode cL_law 1421 = .ok (.aload_n 0, 1) := zd_o42 zy_1421
theorem dL_law_1422 : decode cL_law 1422 = .ok (.iload 4, 2) := zd_iload zy_1422 zy_1423 rfl
theorem dL_law_1424 : decode cL_law 1424 = .ok (.iconst 2, 1) := zd_o5 zy_1424
theorem dL_law_1425 : decode cL_law 1425 = .ok (.iadd, 1) := zd_o96 zy_1425
theorem dL_law_1426 : decode cL_law 1426 = .ok (.iaload, 1) := zd_o46 zy_1426
theorem dL_law_1427 : decode cL_law 1427 = .ok (.invokevirtual 166, 3) := zd_invv zy_1427 zy_1428 zy_1429 rfl
theorem dL_law_1430 : decode cL_law 1430 = .ok (.pop, 1) := zd_o87 zy_1430
theorem dL_law_1431 : decode cL_law 1431 = .ok (.aload_n 2, 1) := zd_o44 zy_1431
theorem dL_law_1432 : decode cL_law 1432 = .ok (.aload_n 0, 1) := zd_o42 zy_1432
theorem dL_law_1433 : decode cL_law 1433 = .ok (.iload 4, 2) := zd_iload zy_1433 zy_1434 rfl
theorem dL_law_1435 : decode cL_law 1435 = .ok (.iconst 1, 1) := zd_o4 zy_1435
theorem dL_law_1436 : decode cL_law 1436 = .ok (.iadd, 1) := zd_o96 zy_1436
theorem dL_law_1437 : decode cL_law 1437 = .ok (.iaload, 1) := zd_o46 zy_1437
theorem dL_law_1438 : decode cL_law 1438 = .ok (.aload_n 0, 1) := zd_o42 zy_1438
theorem dL_law_1439 : decode cL_law 1439 = .ok (.iload 4, 2) := zd_iload zy_1439 zy_1440 rfl
theorem dL_law_1441 : decode cL_law 1441 = .ok (.iconst 2, 1) := zd_o5 zy_1441
theorem dL_law_1442 : decode cL_law 1442 = .ok (.iadd, 1) := zd_o96 zy_1442
theorem dL_law_1443 : decode cL_law 1443 = .ok (.iaload, 1) := zd_o46 zy_1443
theorem dL_law_1444 : decode cL_law 1444 = .ok (.invokevirtual 169, 3) := zd_invv zy_1444 zy_1445 zy_1446 rfl
theorem dL_law_1447 : decode cL_law 1447 = .ok (.pop, 1) := zd_o87 zy_1447
theorem dL_law_1448 : decode cL_law 1448 = .ok (.goto 377, 3) := by decide +kernel
theorem dL_law_1451 : decode cL_law 1451 = .ok (.aload_n 1, 1) := zd_o43 zy_1451
theorem dL_law_1452 : decode cL_law 1452 = .ok (.aload_n 0, 1) := zd_o42 zy_1452
theorem dL_law_1453 : decode cL_law 1453 = .ok (.iload 4, 2) := zd_iload zy_1453 zy_1454 rfl
theorem dL_law_1455 : decode cL_law 1455 = .ok (.iconst 1, 1) := zd_o4 zy_1455
theorem dL_law_1456 : decode cL_law 1456 = .ok (.iadd, 1) := zd_o96 zy_1456
theorem dL_law_1457 : decode cL_law 1457 = .ok (.iaload, 1) := zd_o46 zy_1457
theorem dL_law_1458 : decode cL_law 1458 = .ok (.aload_n 0, 1) := zd_o42 zy_1458
theorem dL_law_1459 : decode cL_law 1459 = .ok (.iload 4, 2) := zd_iload zy_1459 zy_1460 rfl
theorem dL_law_1461 : decode cL_law 1461 = .ok (.iconst 2, 1) := zd_o5 zy_1461
theorem dL_law_1462 : decode cL_law 1462 = .ok (.iadd, 1) := zd_o96 zy_1462
theorem dL_law_1463 : decode cL_law 1463 = .ok (.iaload, 1) := zd_o46 zy_1463
theorem dL_law_1464 : decode cL_law 1464 = .ok (.invokevirtual 170, 3) := zd_invv zy_1464 zy_1465 zy_1466 rfl
theorem dL_law_1467 : decode cL_law 1467 = .ok (.pop, 1) := zd_o87 zy_1467
theorem dL_law_1468 : decode cL_law 1468 = .ok (.aload_n 2, 1) := zd_o44 zy_1468
theorem dL_law_1469 : decode cL_law 1469 = .ok (.aload_n 0, 1) := zd_o42 zy_1469
theorem dL_law_1470 : decode cL_law 1470 = .ok (.iload 4, 2) := zd_iload zy_1470 zy_1471 rfl
theorem dL_law_1472 : decode cL_law 1472 = .ok (.iconst 1, 1) := zd_o4 zy_1472
theorem dL_law_1473 : decode cL_law 1473 = .ok (.iadd, 1) := zd_o96 zy_1473
theorem dL_law_1474 : decode cL_law 1474 = .ok (.iaload, 1) := zd_o46 zy_1474
theorem dL_law_1475 : decode cL_law 1475 = .ok (.aload_n 0, 1) := zd_o42 zy_1475
theorem dL_law_1476 : decode cL_law 1476 = .ok (.iload 4, 2) := zd_iload zy_1476 zy_1477 rfl
theorem dL_law_1478 : decode cL_law 1478 = .ok (.iconst 2, 1) := zd_o5 zy_1478
theorem dL_law_1479 : decode cL_law 1479 = .ok (.iadd, 1) := zd_o96 zy_1479
theorem dL_law_1480 : decode cL_law 1480 = .ok (.iaload, 1) := zd_o46 zy_1480
theorem dL_law_1481 : decode cL_law 1481 = .ok (.invokevirtual 173, 3) := zd_invv zy_1481 zy_1482 zy_1483 rfl
theorem dL_law_1484 : decode cL_law 1484 = .ok (.pop, 1) := zd_o87 zy_1484
theorem dL_law_1485 : decode cL_law 1485 = .ok (.goto 340, 3) := by decide +kernel
theorem dL_law_1488 : decode cL_law 1488 = .ok (.aload_n 1, 1) := zd_o43 zy_1488
theorem dL_law_1489 : decode cL_law 1489 = .ok (.aload_n 0, 1) := zd_o42 zy_1489
theorem dL_law_1490 : decode cL_law 1490 = .ok (.iload 4, 2) := zd_iload zy_1490 zy_1491 rfl
theorem dL_law_1492 : decode cL_law 1492 = .ok (.iconst 1, 1) := zd_o4 zy_1492
theorem dL_law_1493 : decode cL_law 1493 = .ok (.iadd, 1) := zd_o96 zy_1493
theorem dL_law_1494 : decode cL_law 1494 = .ok (.iaload, 1) := zd_o46 zy_1494
theorem dL_law_1495 : decode cL_law 1495 = .ok (.invokevirtual 174, 3) := zd_invv zy_1495 zy_1496 zy_1497 rfl
theorem dL_law_1498 : decode cL_law 1498 = .ok (.pop, 1) := zd_o87 zy_1498
theorem dL_law_1499 : decode cL_law 1499 = .ok (.aload_n 2, 1) := zd_o44 zy_1499
theorem dL_law_1500 : decode cL_law 1500 = .ok (.aload_n 0, 1) := zd_o42 zy_1500
theorem dL_law_1501 : decode cL_law 1501 = .ok (.iload 4, 2) := zd_iload zy_1501 zy_1502 rfl
theorem dL_law_1503 : decode cL_law 1503 = .ok (.iconst 1, 1) := zd_o4 zy_1503
theorem dL_law_1504 : decode cL_law 1504 = .ok (.iadd, 1) := zd_o96 zy_1504
theorem dL_law_1505 : decode cL_law 1505 = .ok (.iaload, 1) := zd_o46 zy_1505
theorem dL_law_1506 : decode cL_law 1506 = .ok (.invokevirtual 177, 3) := zd_invv zy_1506 zy_1507 zy_1508 rfl
theorem dL_law_1509 : decode cL_law 1509 = .ok (.pop, 1) := zd_o87 zy_1509
theorem dL_law_1510 : decode cL_law 1510 = .ok (.goto 315, 3) := by decide +kernel
theorem dL_law_1513 : decode cL_law 1513 = .ok (.aload_n 1, 1) := zd_o43 zy_1513
theorem dL_law_1514 : decode cL_law 1514 = .ok (.aload_n 0, 1) := zd_o42 zy_1514
theorem dL_law_1515 : decode cL_law 1515 = .ok (.iload 4, 2) := zd_iload zy_1515 zy_1516 rfl
theorem dL_law_1517 : decode cL_law 1517 = .ok (.iconst 1, 1) := zd_o4 zy_1517
theorem dL_law_1518 : decode cL_law 1518 = .ok (.iadd, 1) := zd_o96 zy_1518
theorem dL_law_1519 : decode cL_law 1519 = .ok (.iaload, 1) := zd_o46 zy_1519
theorem dL_law_1520 : decode cL_law 1520 = .ok (.aload_n 0, 1) := zd_o42 zy_1520
theorem dL_law_1521 : decode cL_law 1521 = .ok (.iload 4, 2) := zd_iload zy_1521 zy_1522 rfl
theorem dL_law_1523 : decode cL_law 1523 = .ok (.iconst 2, 1) := zd_o5 zy_1523
theorem dL_law_1524 : decode cL_law 1524 = .ok (.iadd, 1) := zd_o96 zy_1524
theorem dL_law_1525 : decode cL_law 1525 = .ok (.iaload, 1) := zd_o46 zy_1525
theorem dL_law_1526 : decode cL_law 1526 = .ok (.invokevirtual 178, 3) := zd_invv zy_1526 zy_1527 zy_1528 rfl
theorem dL_law_1529 : decode cL_law 1529 = .ok (.pop, 1) := zd_o87 zy_1529
theorem dL_law_1530 : decode cL_law 1530 = .ok (.aload_n 2, 1) := zd_o44 zy_1530
theorem dL_law_1531 : decode cL_law 1531 = .ok (.aload_n 0, 1) := zd_o42 zy_1531
theorem dL_law_1532 : decode cL_law 1532 = .ok (.iload 4, 2) := zd_iload zy_1532 zy_1533 rfl
theorem dL_law_1534 : decode cL_law 1534 = .ok (.iconst 1, 1) := zd_o4 zy_1534
theorem dL_law_1535 : decode cL_law 1535 = .ok (.iadd, 1) := zd_o96 zy_1535
theorem dL_law_1536 : decode cL_law 1536 = .ok (.iaload, 1) := zd_o46 zy_1536
theorem dL_law_1537 : decode cL_law 1537 = .ok (.aload_n 0, 1) := zd_o42 zy_1537
theorem dL_law_1538 : decode cL_law 1538 = .ok (.iload 4, 2) := zd_iload zy_1538 zy_1539 rfl
theorem dL_law_1540 : decode cL_law 1540 = .ok (.iconst 2, 1) := zd_o5 zy_1540
theorem dL_law_1541 : decode cL_law 1541 = .ok (.iadd, 1) := zd_o96 zy_1541
theorem dL_law_1542 : decode cL_law 1542 = .ok (.iaload, 1) := zd_o46 zy_1542
theorem dL_law_1543 : decode cL_law 1543 = .ok (.invokevirtual 181, 3) := zd_invv zy_1543 zy_1544 zy_1545 rfl
theorem dL_law_1546 : decode cL_law 1546 = .ok (.pop, 1) := zd_o87 zy_1546
theorem dL_law_1547 : decode cL_law 1547 = .ok (.goto 278, 3) := by decide +kernel
theorem dL_law_1550 : decode cL_law 1550 = .ok (.aload_n 1, 1) := zd_o43 zy_1550
theorem dL_law_1551 : decode cL_law 1551 = .ok (.aload_n 0, 1) := zd_o42 zy_1551
theorem dL_law_1552 : decode cL_law 1552 = .ok (.iload 4, 2) := zd_iload zy_1552 zy_1553 rfl
theorem dL_law_1554 : decode cL_law 1554 = .ok (.iconst 1, 1) := zd_o4 zy_1554
theorem dL_law_1555 : decode cL_law 1555 = .ok (.iadd, 1) := zd_o96 zy_1555
theorem dL_law_1556 : decode cL_law 1556 = .ok (.iaload, 1) := zd_o46 zy_1556
theorem dL_law_1557 : decode cL_law 1557 = .ok (.aload_n 0, 1) := zd_o42 zy_1557
theorem dL_law_1558 : decode cL_law 1558 = .ok (.iload 4, 2) := zd_iload zy_1558 zy_1559 rfl
theorem dL_law_1560 : decode cL_law 1560 = .ok (.iconst 2, 1) := zd_o5 zy_1560
theorem dL_law_1561 : decode cL_law 1561 = .ok (.iadd, 1) := zd_o96 zy_1561
theorem dL_law_1562 : decode cL_law 1562 = .ok (.iaload, 1) := zd_o46 zy_1562
theorem dL_law_1563 : decode cL_law 1563 = .ok (.aload_n 0, 1) := zd_o42 zy_1563
theorem dL_law_1564 : decode cL_law 1564 = .ok (.iload 4, 2) := zd_iload zy_1564 zy_1565 rfl
theorem dL_law_1566 : decode cL_law 1566 = .ok (.iconst 3, 1) := zd_o6 zy_1566
theorem dL_law_1567 : decode cL_law 1567 = .ok (.iadd, 1) := zd_o96 zy_1567
theorem dL_law_1568 : decode cL_law 1568 = .ok (.iaload, 1) := zd_o46 zy_1568
theorem dL_law_1569 : decode cL_law 1569 = .ok (.invokevirtual 182, 3) := zd_invv zy_1569 zy_1570 zy_1571 rfl
theorem dL_law_1572 : decode cL_law 1572 = .ok (.pop, 1) := zd_o87 zy_1572
theorem dL_law_1573 : decode cL_law 1573 = .ok (.aload_n 2, 1) := zd_o44 zy_1573
theorem dL_law_1574 : decode cL_law 1574 = .ok (.aload_n 0, 1) := zd_o42 zy_1574
theorem dL_law_1575 : decode cL_law 1575 = .ok (.iload 4, 2) := zd_iload zy_1575 zy_1576 rfl
theorem dL_law_1577 : decode cL_law 1577 = .ok (.iconst 1, 1) := zd_o4 zy_1577
theorem dL_law_1578 : decode cL_law 1578 = .ok (.iadd, 1) := zd_o96 zy_1578
theorem dL_law_1579 : decode cL_law 1579 = .ok (.iaload, 1) := zd_o46 zy_1579
theorem dL_law_1580 : decode cL_law 1580 = .ok (.aload_n 0, 1) := zd_o42 zy_1580
theorem dL_law_1581 : decode cL_law 1581 = .ok (.iload 4, 2) := zd_iload zy_1581 zy_1582 rfl
theorem dL_law_1583 : decode cL_law 1583 = .ok (.iconst 2, 1) := zd_o5 zy_1583
theorem dL_law_1584 : decode cL_law 1584 = .ok (.iadd, 1) := zd_o96 zy_1584
theorem dL_law_1585 : decode cL_law 1585 = .ok (.iaload, 1) := zd_o46 zy_1585
theorem dL_law_1586 : decode cL_law 1586 = .ok (.aload_n 0, 1) := zd_o42 zy_1586
theorem dL_law_1587 : decode cL_law 1587 = .ok (.iload 4, 2) := zd_iload zy_1587 zy_1588 rfl
theorem dL_law_1589 : decode cL_law 1589 = .ok (.iconst 3, 1) := zd_o6 zy_1589
theorem dL_law_1590 : decode cL_law 1590 = .ok (.iadd, 1) := zd_o96 zy_1590
theorem dL_law_1591 : decode cL_law 1591 = .ok (.iaload, 1) := zd_o46 zy_1591
theorem dL_law_1592 : decode cL_law 1592 = .ok (.invokevirtual 185, 3) := zd_invv zy_1592 zy_1593 zy_1594 rfl
theorem dL_law_1595 : decode cL_law 1595 = .ok (.pop, 1) := zd_o87 zy_1595
theorem dL_law_1596 : decode cL_law 1596 = .ok (.goto 229, 3) := by decide +kernel
theorem dL_law_1599 : decode cL_law 1599 = .ok (.aload_n 1, 1) := zd_o43 zy_1599
theorem dL_law_1600 : decode cL_law 1600 = .ok (.aload_n 0, 1) := zd_o42 zy_1600
theorem dL_law_1601 : decode cL_law 1601 = .ok (.iload 4, 2) := zd_iload zy_1601 zy_1602 rfl
theorem dL_law_1603 : decode cL_law 1603 = .ok (.iconst 1, 1) := zd_o4 zy_1603
theorem dL_law_1604 : decode cL_law 1604 = .ok (.iadd, 1) := zd_o96 zy_1604
theorem dL_law_1605 : decode cL_law 1605 = .ok (.iaload, 1) := zd_o46 zy_1605
theorem dL_law_1606 : decode cL_law 1606 = .ok (.invokevirtual 186, 3) := zd_invv zy_1606 zy_1607 zy_1608 rfl
theorem dL_law_1609 : decode cL_law 1609 = .ok (.pop, 1) := zd_o87 zy_1609
theorem dL_law_1610 : decode cL_law 1610 = .ok (.aload_n 2, 1) := zd_o44 zy_1610
theorem dL_law_1611 : decode cL_law 1611 = .ok (.aload_n 0, 1) := zd_o42 zy_1611
theorem dL_law_1612 : decode cL_law 1612 = .ok (.iload 4, 2) := zd_iload zy_1612 zy_1613 rfl
theorem dL_law_1614 : decode cL_law 1614 = .ok (.iconst 1, 1) := zd_o4 zy_1614
theorem dL_law_1615 : decode cL_law 1615 = .ok (.iadd, 1) := zd_o96 zy_1615
theorem dL_law_1616 : decode cL_law 1616 = .ok (.iaload, 1) := zd_o46 zy_1616
theorem dL_law_1617 : decode cL_law 1617 = .ok (.invokevirtual 189, 3) := zd_invv zy_1617 zy_1618 zy_1619 rfl
theorem dL_law_1620 : decode cL_law 1620 = .ok (.pop, 1) := zd_o87 zy_1620
theorem dL_law_1621 : decode cL_law 1621 = .ok (.goto 204, 3) := by decide +kernel
theorem dL_law_1624 : decode cL_law 1624 = .ok (.aload_n 1, 1) := zd_o43 zy_1624
theorem dL_law_1625 : decode cL_law 1625 = .ok (.aload_n 0, 1) := zd_o42 zy_1625
theorem dL_law_1626 : decode cL_law 1626 = .ok (.iload 4, 2) := zd_iload zy_1626 zy_1627 rfl
theorem dL_law_1628 : decode cL_law 1628 = .ok (.iconst 1, 1) := zd_o4 zy_1628
theorem dL_law_1629 : decode cL_law 1629 = .ok (.iadd, 1) := zd_o96 zy_1629
theorem dL_law_1630 : decode cL_law 1630 = .ok (.iaload, 1) := zd_o46 zy_1630
theorem dL_law_1631 : decode cL_law 1631 = .ok (.invokevirtual 190, 3) := zd_invv zy_1631 zy_1632 zy_1633 rfl
theorem dL_law_1634 : decode cL_law 1634 = .ok (.pop, 1) := zd_o87 zy_1634
theorem dL_law_1635 : decode cL_law 1635 = .ok (.aload_n 2, 1) := zd_o44 zy_1635
theorem dL_law_1636 : decode cL_law 1636 = .ok (.aload_n 0, 1) := zd_o42 zy_1636
theorem dL_law_1637 : decode cL_law 1637 = .ok (.iload 4, 2) := zd_iload zy_1637 zy_1638 rfl
theorem dL_law_1639 : decode cL_law 1639 = .ok (.iconst 1, 1) := zd_o4 zy_1639
theorem dL_law_1640 : decode cL_law 1640 = .ok (.iadd, 1) := zd_o96 zy_1640
theorem dL_law_1641 : decode cL_law 1641 = .ok (.iaload, 1) := zd_o46 zy_1641
theorem dL_law_1642 : decode cL_law 1642 = .ok (.invokevirtual 193, 3) := zd_invv zy_1642 zy_1643 zy_1644 rfl
theorem dL_law_1645 : decode cL_law 1645 = .ok (.pop, 1) := zd_o87 zy_1645
theorem dL_law_1646 : decode cL_law 1646 = .ok (.goto 179, 3) := by decide +kernel
theorem dL_law_1649 : decode cL_law 1649 = .ok (.aload_n 1, 1) := zd_o43 zy_1649
theorem dL_law_1650 : decode cL_law 1650 = .ok (.aload_n 0, 1) := zd_o42 zy_1650
theorem dL_law_1651 : decode cL_law 1651 = .ok (.iload 4, 2) := zd_iload zy_1651 zy_1652 rfl
theorem dL_law_1653 : decode cL_law 1653 = .ok (.iconst 1, 1) := zd_o4 zy_1653
theorem dL_law_1654 : decode cL_law 1654 = .ok (.iadd, 1) := zd_o96 zy_1654
theorem dL_law_1655 : decode cL_law 1655 = .ok (.iaload, 1) := zd_o46 zy_1655
theorem dL_law_1656 : decode cL_law 1656 = .ok (.invokevirtual 194, 3) := zd_invv zy_1656 zy_1657 zy_1658 rfl
theorem dL_law_1659 : decode cL_law 1659 = .ok (.pop, 1) := zd_o87 zy_1659
theorem dL_law_1660 : decode cL_law 1660 = .ok (.aload_n 2, 1) := zd_o44 zy_1660
theorem dL_law_1661 : decode cL_law 1661 = .ok (.aload_n 0, 1) := zd_o42 zy_1661
theorem dL_law_1662 : decode cL_law 1662 = .ok (.iload 4, 2) := zd_iload zy_1662 zy_1663 rfl
theorem dL_law_1664 : decode cL_law 1664 = .ok (.iconst 1, 1) := zd_o4 zy_1664
theorem dL_law_1665 : decode cL_law 1665 = .ok (.iadd, 1) := zd_o96 zy_1665
theorem dL_law_1666 : decode cL_law 1666 = .ok (.iaload, 1) := zd_o46 zy_1666
theorem dL_law_1667 : decode cL_law 1667 = .ok (.invokevirtual 197, 3) := zd_invv zy_1667 zy_1668 zy_1669 rfl
theorem dL_law_1670 : decode cL_law 1670 = .ok (.pop, 1) := zd_o87 zy_1670
theorem dL_law_1671 : decode cL_law 1671 = .ok (.goto 154, 3) := by decide +kernel
theorem dL_law_1674 : decode cL_law 1674 = .ok (.aload_n 1, 1) := zd_o43 zy_1674
theorem dL_law_1675 : decode cL_law 1675 = .ok (.aload_n 0, 1) := zd_o42 zy_1675
theorem dL_law_1676 : decode cL_law 1676 = .ok (.iload 4, 2) := zd_iload zy_1676 zy_1677 rfl
theorem dL_law_1678 : decode cL_law 1678 = .ok (.iconst 1, 1) := zd_o4 zy_1678
theorem dL_law_1679 : decode cL_law 1679 = .ok (.iadd, 1) := zd_o96 zy_1679
theorem dL_law_1680 : decode cL_law 1680 = .ok (.iaload, 1) := zd_o46 zy_1680
theorem dL_law_1681 : decode cL_law 1681 = .ok (.invokevirtual 198, 3) := zd_invv zy_1681 zy_1682 zy_1683 rfl
theorem dL_law_1684 : decode cL_law 1684 = .ok (.pop, 1) := zd_o87 zy_1684
theorem dL_law_1685 : decode cL_law 1685 = .ok (.aload_n 2, 1) := zd_o44 zy_1685
theorem dL_law_1686 : decode cL_law 1686 = .ok (.aload_n 0, 1) := zd_o42 zy_1686
theorem dL_law_1687 : decode cL_law 1687 = .ok (.iload 4, 2) := zd_iload zy_1687 zy_1688 rfl
theorem dL_law_1689 : decode cL_law 1689 = .ok (.iconst 1, 1) := zd_o4 zy_1689
theorem dL_law_1690 : decode cL_law 1690 = .ok (.iadd, 1) := zd_o96 zy_1690
theorem dL_law_1691 : decode cL_law 1691 = .ok (.iaload, 1) := zd_o46 zy_1691
theorem dL_law_1692 : decode cL_law 1692 = .ok (.invokevirtual 201, 3) := zd_invv zy_1692 zy_1693 zy_1694 rfl
theorem dL_law_1695 : decode cL_law 1695 = .ok (.pop, 1) := zd_o87 zy_1695
theorem dL_law_1696 : decode cL_law 1696 = .ok (.goto 129, 3) := by decide +kernel
theorem dL_law_1699 : decode cL_law 1699 = .ok (.aload_n 1, 1) := zd_o43 zy_1699
theorem dL_law_1700 : decode cL_law 1700 = .ok (.aload_n 0, 1) := zd_o42 zy_1700
theorem dL_law_1701 : decode cL_law 1701 = .ok (.iload 4, 2) := zd_iload zy_1701 zy_1702 rfl
theorem dL_law_1703 : decode cL_law 1703 = .ok (.iconst 1, 1) := zd_o4 zy_1703
theorem dL_law_1704 : decode cL_law 1704 = .ok (.iadd, 1) := zd_o96 zy_1704
theorem dL_law_1705 : decode cL_law 1705 = .ok (.iaload, 1) := zd_o46 zy_1705
theorem dL_law_1706 : decode cL_law 1706 = .ok (.invokevirtual 202, 3) := zd_invv zy_1706 zy_1707 zy_1708 rfl
theorem dL_law_1709 : decode cL_law 1709 = .ok (.pop, 1) := zd_o87 zy_1709
theorem dL_law_1710 : decode cL_law 1710 = .ok (.aload_n 2, 1) := zd_o44 zy_1710
theorem dL_law_1711 : decode cL_law 1711 = .ok (.aload_n 0, 1) := zd_o42 zy_1711
theorem dL_law_1712 : decode cL_law 1712 = .ok (.iload 4, 2) := zd_iload zy_1712 zy_1713 rfl
theorem dL_law_1714 : decode cL_law 1714 = .ok (.iconst 1, 1) := zd_o4 zy_1714
theorem dL_law_1715 : decode cL_law 1715 = .ok (.iadd, 1) := zd_o96 zy_1715
theorem dL_law_1716 : decode cL_law 1716 = .ok (.iaload, 1) := zd_o46 zy_1716
theorem dL_law_1717 : decode cL_law 1717 = .ok (.invokevirtual 205, 3) := zd_invv zy_1717 zy_1718 zy_1719 rfl
theorem dL_law_1720 : decode cL_law 1720 = .ok (.pop, 1) := zd_o87 zy_1720
theorem dL_law_1721 : decode cL_law 1721 = .ok (.goto 104, 3) := by decide +kernel
theorem dL_law_1724 : decode cL_law 1724 = .ok (.aload_n 1, 1) := zd_o43 zy_1724
theorem dL_law_1725 : decode cL_law 1725 = .ok (.aload_n 0, 1) := zd_o42 zy_1725
theorem dL_law_1726 : decode cL_law 1726 = .ok (.iload 4, 2) := zd_iload zy_1726 zy_1727 rfl
theorem dL_law_1728 : decode cL_law 1728 = .ok (.iconst 1, 1) := zd_o4 zy_1728
theorem dL_law_1729 : decode cL_law 1729 = .ok (.iadd, 1) := zd_o96 zy_1729
theorem dL_law_1730 : decode cL_law 1730 = .ok (.iaload, 1) := zd_o46 zy_1730
theorem dL_law_1731 : decode cL_law 1731 = .ok (.invokevirtual 206, 3) := zd_invv zy_1731 zy_1732 zy_1733 rfl
theorem dL_law_1734 : decode cL_law 1734 = .ok (.pop, 1) := zd_o87 zy_1734
theorem dL_law_1735 : decode cL_law 1735 = .ok (.aload_n 2, 1) := zd_o44 zy_1735
theorem dL_law_1736 : decode cL_law 1736 = .ok (.aload_n 0, 1) := zd_o42 zy_1736
theorem dL_law_1737 : decode cL_law 1737 = .ok (.iload 4, 2) := zd_iload zy_1737 zy_1738 rfl
theorem dL_law_1739 : decode cL_law 1739 = .ok (.iconst 1, 1) := zd_o4 zy_1739
theorem dL_law_1740 : decode cL_law 1740 = .ok (.iadd, 1) := zd_o96 zy_1740
theorem dL_law_1741 : decode cL_law 1741 = .ok (.iaload, 1) := zd_o46 zy_1741
theorem dL_law_1742 : decode cL_law 1742 = .ok (.invokevirtual 209, 3) := zd_invv zy_1742 zy_1743 zy_1744 rfl
theorem dL_law_1745 : decode cL_law 1745 = .ok (.pop, 1) := zd_o87 zy_1745
theorem dL_law_1746 : decode cL_law 1746 = .ok (.goto 79, 3) := by decide +kernel
theorem dL_law_1749 : decode cL_law 1749 = .ok (.aload_n 1, 1) := zd_o43 zy_1749
theorem dL_law_1750 : decode cL_law 1750 = .ok (.aload_n 0, 1) := zd_o42 zy_1750
theorem dL_law_1751 : decode cL_law 1751 = .ok (.iload 4, 2) := zd_iload zy_1751 zy_1752 rfl
theorem dL_law_1753 : decode cL_law 1753 = .ok (.iconst 1, 1) := zd_o4 zy_1753
theorem dL_law_1754 : decode cL_law 1754 = .ok (.iadd, 1) := zd_o96 zy_1754
theorem dL_law_1755 : decode cL_law 1755 = .ok (.iaload, 1) := zd_o46 zy_1755
theorem dL_law_1756 : decode cL_law 1756 = .ok (.invokevirtual 210, 3) := zd_invv zy_1756 zy_1757 zy_1758 rfl
theorem dL_law_1759 : decode cL_law 1759 = .ok (.pop, 1) := zd_o87 zy_1759
theorem dL_law_1760 : decode cL_law 1760 = .ok (.aload_n 2, 1) := zd_o44 zy_1760
theorem dL_law_1761 : decode cL_law 1761 = .ok (.aload_n 0, 1) := zd_o42 zy_1761
theorem dL_law_1762 : decode cL_law 1762 = .ok (.iload 4, 2) := zd_iload zy_1762 zy_1763 rfl
theorem dL_law_1764 : decode cL_law 1764 = .ok (.iconst 1, 1) := zd_o4 zy_1764
theorem dL_law_1765 : decode cL_law 1765 = .ok (.iadd, 1) := zd_o96 zy_1765
theorem dL_law_1766 : decode cL_law 1766 = .ok (.iaload, 1) := zd_o46 zy_1766
theorem dL_law_1767 : decode cL_law 1767 = .ok (.invokevirtual 213, 3) := zd_invv zy_1767 zy_1768 zy_1769 rfl
theorem dL_law_1770 : decode cL_law 1770 = .ok (.pop, 1) := zd_o87 zy_1770
theorem dL_law_1771 : decode cL_law 1771 = .ok (.goto 54, 3) := by decide +kernel
theorem dL_law_1774 : decode cL_law 1774 = .ok (.aload_n 1, 1) := zd_o43 zy_1774
theorem dL_law_1775 : decode cL_law 1775 = .ok (.invokevirtual 214, 3) := zd_invv zy_1775 zy_1776 zy_1777 rfl
theorem dL_law_1778 : decode cL_law 1778 = .ok (.pop, 1) := zd_o87 zy_1778
theorem dL_law_1779 : decode cL_law 1779 = .ok (.aload_n 2, 1) := zd_o44 zy_1779
theorem dL_law_1780 : decode cL_law 1780 = .ok (.invokevirtual 217, 3) := zd_invv zy_1780 zy_1781 zy_1782 rfl
theorem dL_law_1783 : decode cL_law 1783 = .ok (.pop, 1) := zd_o87 zy_1783
theorem dL_law_1784 : decode cL_law 1784 = .ok (.goto 41, 3) := by decide +kernel
theorem dL_law_1787 : decode cL_law 1787 = .ok (.aload_n 1, 1) := zd_o43 zy_1787
theorem dL_law_1788 : decode cL_law 1788 = .ok (.invokevirtual 218, 3) := zd_invv zy_1788 zy_1789 zy_1790 rfl
theorem dL_law_1791 : decode cL_law 1791 = .ok (.pop, 1) := zd_o87 zy_1791
theorem dL_law_1792 : decode cL_law 1792 = .ok (.aload_n 2, 1) := zd_o44 zy_1792
theorem dL_law_1793 : decode cL_law 1793 = .ok (.invokevirtual 221, 3) := zd_invv zy_1793 zy_1794 zy_1795 rfl
theorem dL_law_1796 : decode cL_law 1796 = .ok (.pop, 1) := zd_o87 zy_1796
theorem dL_law_1797 : decode cL_law 1797 = .ok (.goto 28, 3) := by decide +kernel
theorem dL_law_1800 : decode cL_law 1800 = .ok (.aload_n 1, 1) := zd_o43 zy_1800
theorem dL_law_1801 : decode cL_law 1801 = .ok (.aload_n 0, 1) := zd_o42 zy_1801
theorem dL_law_1802 : decode cL_law 1802 = .ok (.iload 4, 2) := zd_iload zy_1802 zy_1803 rfl
theorem dL_law_1804 : decode cL_law 1804 = .ok (.iconst 1, 1) := zd_o4 zy_1804
theorem dL_law_1805 : decode cL_law 1805 = .ok (.iadd, 1) := zd_o96 zy_1805
theorem dL_law_1806 : decode cL_law 1806 = .ok (.iaload, 1) := zd_o46 zy_1806
theorem dL_law_1807 : decode cL_law 1807 = .ok (.invokevirtual 222, 3) := zd_invv zy_1807 zy_1808 zy_1809 rfl
theorem dL_law_1810 : decode cL_law 1810 = .ok (.pop, 1) := zd_o87 zy_1810
theorem dL_law_1811 : decode cL_law 1811 = .ok (.aload_n 2, 1) := zd_o44 zy_1811
theorem dL_law_1812 : decode cL_law 1812 = .ok (.aload_n 0, 1) := zd_o42 zy_1812
theorem dL_law_1813 : decode cL_law 1813 = .ok (.iload 4, 2) := zd_iload zy_1813 zy_1814 rfl
theorem dL_law_1815 : decode cL_law 1815 = .ok (.iconst 1, 1) := zd_o4 zy_1815
theorem dL_law_1816 : decode cL_law 1816 = .ok (.iadd, 1) := zd_o96 zy_1816
theorem dL_law_1817 : decode cL_law 1817 = .ok (.iaload, 1) := zd_o46 zy_1817
theorem dL_law_1818 : decode cL_law 1818 = .ok (.invokevirtual 225, 3) := zd_invv zy_1818 zy_1819 zy_1820 rfl
theorem dL_law_1821 : decode cL_law 1821 = .ok (.pop, 1) := zd_o87 zy_1821
theorem dL_law_1822 : decode cL_law 1822 = .ok (.goto 3, 3) := by decide +kernel
theorem dL_law_1825 : decode cL_law 1825 = .ok (.iinc 4 7, 3) := by decide +kernel
theorem dL_law_1828 : decode cL_law 1828 = .ok (.goto (-1805), 3) := by decide +kernel
theorem dL_law_1831 : decode cL_law 1831 = .ok (.iconst 1, 1) := zd_o4 zy_1831
theorem dL_law_1832 : decode cL_law 1832 = .ok (.ireturn, 1) := by decide +kernel
set_option maxRecDepth 20000 in
theorem qw118 : Cond.classLink RL 8 RX10 ∈ wA := List.mem_filter.mpr ⟨zt1 (List.mem_of_getElem? (i := 21) rfl), (by decide +kernel)⟩
set_option maxRecDepth 20000 in
theorem qw119 : Cond.instantiable RX10 17 ∈ wA := List.mem_filter.mpr ⟨zt1 (List.mem_of_getElem? (i := 22) rfl), (by decide +kernel)⟩
set_option maxRecDepth 20000 in
theorem qw120 : Cond.methodLink RL 15 yX10_init ∈ wA := List.mem_filter.mpr ⟨zt1 (List.mem_of_getElem? (i := 23) rfl), (by decide +kernel)⟩
set_option maxRecDepth 20000 in
theorem qw121 : Cond.instanceMethod yX10_init ∈ wA := List.mem_filter.mpr ⟨zt1 (List.mem_of_getElem? (i := 24) rfl), (by decide +kernel)⟩
set_option maxRecDepth 20000 in
theorem qw122 : Cond.code yX10_init cX10_init 1 none ∈ wA := List.mem_filter.mpr ⟨zt1 (List.mem_of_getElem? (i := 25) rfl), (by decide +kernel)⟩
set_option maxRecDepth 20000 in
theorem qw123 : Cond.methodLink RX10 1 objectInit ∈ wA := List.mem_filter.mpr ⟨zt1 (List.mem_of_getElem? (i := 26) rfl), (by decide +kernel)⟩
set_option maxRecDepth 20000 in
theorem qw126 : Cond.classLink RX10 7 RX9 ∈ wA := List.mem_filter.mpr ⟨zt1 (List.mem_of_getElem? (i := 29) rfl), (by decide +kernel)⟩
set_option maxRecDepth 20000 in
theorem qw127 : Cond.instantiable RX9 3 ∈ wA := List.mem_filter.mpr ⟨zt1 (List.mem_of_getElem? (i := 30) rfl), (by decide +kernel)⟩
set_option maxRecDepth 20000 in
theorem qw129 : Cond.instanceMethod yX9_init ∈ wA := List.mem_filter.mpr ⟨zt1 (List.mem_of_getElem? (i := 32) rfl), (by decide +kernel)⟩
set_option maxRecDepth 20000 in
theorem qw130 : Cond.code yX9_init cX9_init 1 none ∈ wA := List.mem_filter.mpr ⟨zt1 (List.mem_of_getElem? (i := 33) rfl), (by decide +kernel)⟩
set_option maxRecDepth 20000 in
theorem qw131 : Cond.methodLink RX9 3 objectInit ∈ wA := List.mem_filter.mpr ⟨zt1 (List.mem_of_getElem? (i := 34) rfl), (by decide +kernel)⟩
set_option maxRecDepth 20000 in
theorem qw148 : Cond.classLink RX10 16 RX2 ∈ wA := List.mem_filter.mpr ⟨zt1 (List.mem_of_getElem? (i := 51) rfl), (by decide +kernel)⟩
set_option maxRecDepth 20000 in
theorem qw149 : Cond.instantiable RX2 3 ∈ wA := List.mem_filter.mpr ⟨zt1 (List.mem_of_getElem? (i := 52) rfl), (by decide +kernel)⟩
set_option maxRecDepth 20000 in
theorem qw151 : Cond.instanceMethod yX2_init ∈ wA := List.mem_filter.mpr ⟨zt1 (List.mem_of_getElem? (i := 54) rfl), (by decide +kernel)⟩
set_option maxRecDepth 20000 in
theorem qw152 : Cond.code yX2_init cX2_init 1 none ∈ wA := List.mem_filter.mpr ⟨zt1 (List.mem_of_getElem? (i := 55) rfl), (by decide +kernel)⟩
set_option maxRecDepth 20000 in
theorem qw153 : Cond.methodLink RX2 3 objectInit ∈ wA := List.mem_filter.mpr ⟨zt1 (List.mem_of_getElem? (i := 56) rfl), (by decide +kernel)⟩
set_option maxRecDepth 20000 in
theorem qw164 : Cond.classLink RX10 23 RX5 ∈ wA := List.mem_filter.mpr ⟨zt1 (List.mem_of_getElem? (i := 67) rfl), (by decide +kernel)⟩
set_option maxRecDepth 20000 in
theorem qw165 : Cond.instantiable RX5 3 ∈ wA := List.mem_filter.mpr ⟨zt1 (List.mem_of_getElem? (i := 68) rfl), (by decide +kernel)⟩
set_option maxRecDepth 20000 in
theorem qw167 : Cond.instanceMethod yX5_init ∈ wA := List.mem_filter.mpr ⟨zt1 (List.mem_of_getElem? (i := 70) rfl), (by decide +kernel)⟩
set_option maxRecDepth 20000 in
theorem qw168 : Cond.code yX5_init cX5_init 1 none ∈ wA := List.mem_filter.mpr ⟨zt1 (List.mem_of_getElem? (i := 71) rfl), (by decide +kernel)⟩
set_option maxRecDepth 20000 in
theorem qw169 : Cond.methodLink RX5 3 objectInit ∈ wA := List.mem_filter.mpr ⟨zt1 (List.mem_of_getElem? (i := 72) rfl), (by decide +kernel)⟩
set_option maxRecDepth 20000 in
theorem qw180 : Cond.classLink RX10 30 RX1 ∈ wA := List.mem_filter.mpr ⟨zt1 (List.mem_of_getElem? (i := 83) rfl), (by decide +kernel)⟩
set_option maxRecDepth 20000 in
theorem qw181 : Cond.instantiable RX1 5 ∈ wA := List.mem_filter.mpr ⟨zt1 (List.mem_of_getElem? (i := 84) rfl), (by decide +kernel)⟩
set_option maxRecDepth 20000 in
theorem qw183 : Cond.instanceMethod yX1_init ∈ wA := List.mem_filter.mpr ⟨zt1 (List.mem_of_getElem? (i := 86) rfl), (by decide +kernel)⟩
set_option maxRecDepth 20000 in
theorem qw184 : Cond.code yX1_init cX1_init 1 none ∈ wA := List.mem_filter.mpr ⟨zt1 (List.mem_of_getElem? (i := 87) rfl), (by decide +kernel)⟩
set_option maxRecDepth 20000 in
theorem qw185 : Cond.methodLink RX1 3 objectInit ∈ wA := List.mem_filter.mpr ⟨zt1 (List.mem_of_getElem? (i := 88) rfl), (by decide +kernel)⟩
set_option maxRecDepth 20000 in
theorem qw212 : Cond.classLink RX10 40 RX4 ∈ wA := List.mem_filter.mpr ⟨zt1 (List.mem_of_getElem? (i := 115) rfl), (by decide +kernel)⟩
set_option maxRecDepth 20000 in
theorem qw214 : Cond.classLink RX10 46 RX7 ∈ wA := List.mem_filter.mpr ⟨zt1 (List.mem_of_getElem? (i := 117) rfl), (by decide +kernel)⟩
set_option maxRecDepth 20000 in
theorem qw215 : Cond.instantiable RX7 9 ∈ wA := List.mem_filter.mpr ⟨zt1 (List.mem_of_getElem? (i := 118) rfl), (by decide +kernel)⟩
set_option maxRecDepth 20000 in
theorem qw217 : Cond.instanceMethod yX7_init ∈ wA := List.mem_filter.mpr ⟨zt1 (List.mem_of_getElem? (i := 120) rfl), (by decide +kernel)⟩
set_option maxRecDepth 20000 in
theorem qw218 : Cond.code yX7_init cX7_init 1 none ∈ wA := List.mem_filter.mpr ⟨zt1 (List.mem_of_getElem? (i := 121) rfl), (by decide +kernel)⟩
set_option maxRecDepth 20000 in
theorem qw219 : Cond.methodLink RX7 3 objectInit ∈ wA := List.mem_filter.mpr ⟨zt1 (List.mem_of_getElem? (i := 122) rfl), (by decide +kernel)⟩
set_option maxRecDepth 20000 in
theorem qw262 : Cond.classLink RX10 56 RX0 ∈ wA := List.mem_filter.mpr ⟨zt1 (List.mem_of_getElem? (i := 165) rfl), (by decide +kernel)⟩
set_option maxRecDepth 20000 in
theorem qw263 : Cond.instantiable RX0 3 ∈ wA := List.mem_filter.mpr ⟨zt1 (List.mem_of_getElem? (i := 166) rfl), (by decide +kernel)⟩
set_option maxRecDepth 20000 in
theorem qw265 : Cond.instanceMethod yX0_init ∈ wA := List.mem_filter.mpr ⟨zt1 (List.mem_of_getElem? (i := 168) rfl), (by decide +kernel)⟩
set_option maxRecDepth 20000 in
theorem qw266 : Cond.code yX0_init cX0_init 1 none ∈ wA := List.mem_filter.mpr ⟨zt1 (List.mem_of_getElem? (i := 169) rfl), (by decide +kernel)⟩
set_option maxRecDepth 20000 in
theorem qw267 : Cond.methodLink RX0 3 objectInit ∈ wA := List.mem_filter.mpr ⟨zt1 (List.mem_of_getElem? (i := 170) rfl), (by decide +kernel)⟩
set_option maxRecDepth 20000 in
theorem qw279 : Cond.classLink RX10 63 RX8 ∈ wA := List.mem_filter.mpr ⟨zt1 (List.mem_of_getElem? (i := 182) rfl), (by decide +kernel)⟩
set_option maxRecDepth 20000 in
theorem qw280 : Cond.instantiable RX8 7 ∈ wA := List.mem_filter.mpr ⟨zt1 (List.mem_of_getElem? (i := 183) rfl), (by decide +kernel)⟩
set_option maxRecDepth 20000 in
theorem qw281 : Cond.methodLink RX10 65 yX8_init ∈ wA := List.mem_filter.mpr ⟨zt1 (List.mem_of_getElem? (i := 184) rfl), (by decide +kernel)⟩
set_option maxRecDepth 20000 in
theorem qw282 : Cond.instanceMethod yX8_init ∈ wA := List.mem_filter.mpr ⟨zt1 (List.mem_of_getElem? (i := 185) rfl), (by decide +kernel)⟩
set_option maxRecDepth 20000 in
theorem qw283 : Cond.code yX8_init cX8_init 3 none ∈ wA := List.mem_filter.mpr ⟨zt1 (List.mem_of_getElem? (i := 186) rfl), (by decide +kernel)⟩
set_option maxRecDepth 20000 in
theorem qw284 : Cond.methodLink RX8 3 objectInit ∈ wA := List.mem_filter.mpr ⟨zt1 (List.mem_of_getElem? (i := 187) rfl), (by decide +kernel)⟩
set_option maxRecDepth 20000 in
theorem qw285 : Cond.fieldLink RX8 9 "NinePortraits$Studio" "oneLooks" "[I" ∈ wA := List.mem_filter.mpr ⟨zt1 (List.mem_of_getElem? (i := 188) rfl), (by decide +kernel)⟩
set_option maxRecDepth 20000 in
theorem qw287 : Cond.fieldLink RX8 15 "NinePortraits$Studio" "otherLooks" "[I" ∈ wA := List.mem_filter.mpr ⟨zt1 (List.mem_of_getElem? (i := 190) rfl), (by decide +kernel)⟩
set_option maxRecDepth 20000 in
theorem qw310 : Cond.classLink RX10 72 RX6 ∈ wA := List.mem_filter.mpr ⟨zt1 (List.mem_of_getElem? (i := 213) rfl), (by decide +kernel)⟩
set_option maxRecDepth 20000 in
theorem qw311 : Cond.instantiable RX6 9 ∈ wA := List.mem_filter.mpr ⟨zt1 (List.mem_of_getElem? (i := 214) rfl), (by decide +kernel)⟩
set_option maxRecDepth 20000 in
theorem qw312 : Cond.methodLink RX10 74 yX6_init ∈ wA := List.mem_filter.mpr ⟨zt1 (List.mem_of_getElem? (i := 215) rfl), (by decide +kernel)⟩
set_option maxRecDepth 20000 in
theorem qw313 : Cond.instanceMethod yX6_init ∈ wA := List.mem_filter.mpr ⟨zt1 (List.mem_of_getElem? (i := 216) rfl), (by decide +kernel)⟩
set_option maxRecDepth 20000 in
theorem qw314 : Cond.code yX6_init cX6_init 4 none ∈ wA := List.mem_filter.mpr ⟨zt1 (List.mem_of_getElem? (i := 217) rfl), (by decide +kernel)⟩
set_option maxRecDepth 20000 in
theorem qw315 : Cond.methodLink RX6 3 objectInit ∈ wA := List.mem_filter.mpr ⟨zt1 (List.mem_of_getElem? (i := 218) rfl), (by decide +kernel)⟩
set_option maxRecDepth 20000 in
theorem qw345 : Cond.arrayClass .long ∈ wA := List.mem_filter.mpr ⟨zt2 (List.mem_of_getElem? (i := 8) rfl), (by decide +kernel)⟩
set_option maxRecDepth 20000 in
theorem qw346 : Cond.classLink RX10 81 RX3 ∈ wA := List.mem_filter.mpr ⟨zt2 (List.mem_of_getElem? (i := 9) rfl), (by decide +kernel)⟩
set_option maxRecDepth 20000 in
theorem qw347 : Cond.instantiable RX3 1 ∈ wA := List.mem_filter.mpr ⟨zt2 (List.mem_of_getElem? (i := 10) rfl), (by decide +kernel)⟩
set_option maxRecDepth 20000 in
theorem qw349 : Cond.instanceMethod yX3_init ∈ wA := List.mem_filter.mpr ⟨zt2 (List.mem_of_getElem? (i := 12) rfl), (by decide +kernel)⟩
set_option maxRecDepth 20000 in
theorem qw350 : Cond.code yX3_init cX3_init 1 none ∈ wA := List.mem_filter.mpr ⟨zt2 (List.mem_of_getElem? (i := 13) rfl), (by decide +kernel)⟩
set_option maxRecDepth 20000 in
theorem qw351 : Cond.methodLink RX3 1 objectInit ∈ wA := List.mem_filter.mpr ⟨zt2 (List.mem_of_getElem? (i := 14) rfl), (by decide +kernel)⟩
set_option maxRecDepth 20000 in
theorem qw1121 : Cond.classLink RL 16 RX11 ∈ wA := List.mem_filter.mpr ⟨zt5 (List.mem_of_getElem? (i := 64) rfl), (by decide +kernel)⟩
set_option maxRecDepth 20000 in
theorem qw1122 : Cond.instantiable RX11 41 ∈ wA := List.mem_filter.mpr ⟨zt5 (List.mem_of_getElem? (i := 65) rfl), (by decide +kernel)⟩
set_option maxRecDepth 20000 in
theorem qw1123 : Cond.methodLink RL 18 yX11_init ∈ wA := List.mem_filter.mpr ⟨zt5 (List.mem_of_getElem? (i := 66) rfl), (by decide +kernel)⟩
set_option maxRecDepth 20000 in
theorem qw1124 : Cond.instanceMethod yX11_init ∈ wA := List.mem_filter.mpr ⟨zt5 (List.mem_of_getElem? (i := 67) rfl), (by decide +kernel)⟩
set_option maxRecDepth 20000 in
theorem qw1125 : Cond.code yX11_init cX11_init 1 none ∈ wA := List.mem_filter.mpr ⟨zt5 (List.mem_of_getElem? (i := 68) rfl), (by decide +kernel)⟩
set_option maxRecDepth 20000 in
theorem qw1126 : Cond.methodLink RX11 3 objectInit ∈ wA := List.mem_filter.mpr ⟨zt5 (List.mem_of_getElem? (i := 69) rfl), (by decide +kernel)⟩
set_option maxRecDepth 20000 in
theorem qw1765 : Cond.constantLong RL 105 4294967295 ∈ wA := List.mem_filter.mpr ⟨zt7 (List.mem_of_getElem? (i := 228) rfl), (by decide +kernel)⟩
theorem hd_X0_init : yX0_init.cls = RX0 ∧ yX0_init.cls ≠ "java/lang/invoke/MethodHandle" ∧ yX0_init.cls ≠ "java/lang/invoke/VarHandle" ∧ (parseMethodDescriptor yX0_init.desc).map (fun d => d.parameters.length) = some 0 := by decide +kernel
theorem hd_X10_init : yX10_init.cls = RX10 ∧ yX10_init.cls ≠ "java/lang/invoke/MethodHandle" ∧ yX10_init.cls ≠ "java/lang/invoke/VarHandle" ∧ (parseMethodDescriptor yX10_init.desc).map (fun d => d.parameters.length) = some 0 := by decide +kernel
theorem hd_X11_init : yX11_init.cls = RX11 ∧ yX11_init.cls ≠ "java/lang/invoke/MethodHandle" ∧ yX11_init.cls ≠ "java/lang/invoke/VarHandle" ∧ (parseMethodDescriptor yX11_init.desc).map (fun d => d.parameters.length) = some 0 := by decide +kernel
theorem hd_X1_init : yX1_init.cls = RX1 ∧ yX1_init.cls ≠ "java/lang/invoke/MethodHandle" ∧ yX1_init.cls ≠ "java/lang/invoke/VarHandle" ∧ (parseMethodDescriptor yX1_init.desc).map (fun d => d.parameters.length) = some 0 := by decide +kernel
theorem hd_X2_init : yX2_init.cls = RX2 ∧ yX2_init.cls ≠ "java/lang/invoke/MethodHandle" ∧ yX2_init.cls ≠ "java/lang/invoke/VarHandle" ∧ (parseMethodDescriptor yX2_init.desc).map (fun d => d.parameters.length) = some 0 := by decide +kernel
theorem hd_X3_init : yX3_init.cls = RX3 ∧ yX3_init.cls ≠ "java/lang/invoke/MethodHandle" ∧ yX3_init.cls ≠ "java/lang/invoke/VarHandle" ∧ (parseMethodDescriptor yX3_init.desc).map (fun d => d.parameters.length) = some 0 := by decide +kernel
theorem hd_X5_init : yX5_init.cls = RX5 ∧ yX5_init.cls ≠ "java/lang/invoke/MethodHandle" ∧ yX5_init.cls ≠ "java/lang/invoke/VarHandle" ∧ (parseMethodDescriptor yX5_init.desc).map (fun d => d.parameters.length) = some 0 := by decide +kernel
theorem hd_X6_init : yX6_init.cls = RX6 ∧ yX6_init.cls ≠ "java/lang/invoke/MethodHandle" ∧ yX6_init.cls ≠ "java/lang/invoke/VarHandle" ∧ (parseMethodDescriptor yX6_init.desc).map (fun d => d.parameters.length) = some 3 := by decide +kernel
theorem hd_X7_init : yX7_init.cls = RX7 ∧ yX7_init.cls ≠ "java/lang/invoke/MethodHandle" ∧ yX7_init.cls ≠ "java/lang/invoke/VarHandle" ∧ (parseMethodDescriptor yX7_init.desc).map (fun d => d.parameters.length) = some 0 := by decide +kernel
theorem hd_X8_init : yX8_init.cls = RX8 ∧ yX8_init.cls ≠ "java/lang/invoke/MethodHandle" ∧ yX8_init.cls ≠ "java/lang/invoke/VarHandle" ∧ (parseMethodDescriptor yX8_init.desc).map (fun d => d.parameters.length) = some 2 := by decide +kernel
theorem hd_X9_init : yX9_init.cls = RX9 ∧ yX9_init.cls ≠ "java/lang/invoke/MethodHandle" ∧ yX9_init.cls ≠ "java/lang/invoke/VarHandle" ∧ (parseMethodDescriptor yX9_init.desc).map (fun d => d.parameters.length) = some 0 := by decide +kernel
/-- the words that a constructor needs beside the tables' good ones: its nest mates' constructors, the array of laws -/
def zE (U : State) : Prop := va_Nw (.methodLinkNest RX10 9 yX9_init "NinePortraits") U ∧ va_Nw (.methodLinkNest RX10 18 yX2_init "NinePortraits") U ∧ va_Nw (.methodLinkNest RX10 25 yX5_init "NinePortraits") U ∧ va_Nw (.methodLinkNest RX10 32 yX1_init "NinePortraits") U ∧ va_Nw (.methodLinkNest RX10 48 yX7_init "NinePortraits") U ∧ va_Nw (.methodLinkNest RX10 58 yX0_init "NinePortraits") U ∧ va_Nw (.methodLinkNest RX10 83 yX3_init "NinePortraits") U ∧ va_AO "NinePortraits$Law" U
theorem zE_same {u U : State} (h : u.vm = U.vm) (z : zE u) : zE U := by
  obtain ⟨h1, h2, h3, h4, h5, h6, h7, h8⟩ := z
  exact ⟨h1.same rfl h, h2.same rfl h, h3.same rfl h, h4.same rfl h, h5.same rfl h, h6.same rfl h, h7.same rfl h, va_AO.moved (by rw [h]; exact Vm.Alike.refl U.vm) h8⟩
theorem zE_warm {s U : State} (hW : s.WarmedH U.vm) (z : zE s) : zE U := by
  obtain ⟨h1, h2, h3, h4, h5, h6, h7, h8⟩ := z
  exact ⟨h1.warmM hW, h2.warmM hW, h3.warmM hW, h4.warmM hW, h5.warmM hW, h6.warmM hW, h7.warmM hW, va_AO.moved hW.alike h8⟩
def zPE (D : va_G) (ts : List (ClassId × FieldType)) (av : List Value) (sz : Nat) (ws : va_W) : Array Value → State → Prop := fun v U => zP D ts av sz ws v U ∧ zE U
theorem zPES {D : va_G} {ts : List (ClassId × FieldType)} {As : List Value} {ws : va_W} {s : State} {H : Heap} {A : Nat → Prop} (hP : va_P D vwCl ws H) (hK : va_K D vwCl ts s) (hD : va_D A ws) (hE : zE s) : PreS s H (zPE D ts As H.size ws) As :=
  ⟨fun a U g mk q => ⟨zPb a U g mk q.1, zE_same (u := U) rfl q.2⟩, fun U hU hW => ⟨(zPS hP hK hD).2 U hU hW, zE_warm hW hE⟩⟩
set_option maxHeartbeats 4000000 in
set_option maxRecDepth 100000 in
theorem c_X9_init (l : Launch) (dC : Nat → ClassId) (dI : Nat → Nat → Nat) (cI cJ : ClassId) (h0 : Nat) (sz : Nat) : Met l yX9_init (.code yX9_init cX9_init 1 none :: wA) ({ frames := 1, cells := 1, slots := 260, locals := 20 }) (zP (dC, dI) [(cI, .int), (cJ, .long)] [.ref h0] sz [(h0, .inr (9, [.null, .int 0, .int 0]))]) (va_Qv (fun (_ : Unit) => True) (fun (_ : Unit) (t : State) => ∃ (q1 : Nat), va_P (dC, dI) vwCl [(h0, .inr (9, [.ref q1, .int 0, .int 0])), (q1, .inl (cI, 260, .inl (fun _ => 0)))] t.heap ∧ va_D (va_A [(h0, .inr (9, [.null, .int 0, .int 0]))] sz) [(h0, .inr (9, [.ref q1, .int 0, .int 0])), (q1, .inl (cI, 260, .inl (fun _ => 0)))]) (va_A [(h0, .inr (9, [.null, .int 0, .int 0]))] sz)) 1 260 (va_A [(h0, .inr (9, [.null, .int 0, .int 0]))] sz) := by
  refine Met.ofW (cc := cX9_init) (maxL := 1) (ret := none) (by decide) rfl ?_
  intro p e s m args below meth c s₁ B hml hv
  obtain ⟨rfl, hsz, hP, hK, hT⟩ := hv
  have hx := B.exec
  have hb := B.bytes
  have hr := B.returns
  have hts : ∀ w ∈ wA, w.before _ s = true := fun w h => atoms_spec (ws := .code yX9_init cX9_init 1 none :: wA) B.pre w (List.mem_cons_of_mem _ h)
  have hown : s.vm.findClass RX9 = some m.cls := findClass_of_methodNamed B.named
  have hlocks := B.notSynchronized
  have hin : meth.name = "<init>" := (name_of_methodNamed B.named B.method).1
  subst hsz
  have hD := hT.self (sz := s.heap.size)
  generalize hAe : va_A [(h0, .inr (9, [.null, .int 0, .int 0]))] s.heap.size = A at hD ⊢
  have hA : ∀ q : Nat, s.heap.size ≤ q → A q := fun q h => by rw [← hAe]; exact Or.inr h
  have hl := lv_entry ([.ref h0]) (n := 1) (Nat.le_of_ble_eq_true rfl)
  rw [lg_entry_eq]
  generalize (lg_sl ([.ref h0]) ++ List.replicate (1 - (lg_sl ([.ref h0])).length) Slot.unset).toArray = ls at hl ⊢
  have hl : lv_has ls 1 [(0, .ref h0)] := hl
  refine zstart (fun H hH => ?_)
  rw [← hH] at hP
  have hS : va_S A s.heap H [] := by rw [hH]; exact va_S.rf
  refine lv_aload_n hx hb dX9_init_0 rfl (lv_at hl 0 rfl) ?_
  refine W.objInit hx hb hown (hts _ qw131) (hts _ qw124) (hts _ qw125) rfl (by rw [hml]; exact hl.1) rfl dX9_init_1 (Nat.le_of_ble_eq_true rfl) (Nat.le_of_ble_eq_true rfl) ?_
  refine W.eq (g2 := F0 m 4 ls []) rfl ?_
  refine lv_aload_n hx hb dX9_init_4 rfl (lv_at hl 0 rfl) ?_
  refine lv_sipush (v := 260) hx hb dX9_init_5 (by decide) ?_
  refine va_newa (atype := .int) (ty := .int) (N' := 260) (a0 := (260, .inl (fun _ => 0))) hx hb (hts _ qw147) rfl hK hP hD hS hA (fun _ => rfl) (by decide) (by decide) (Nat.le_of_ble_eq_true rfl) (Nat.le_of_ble_eq_true rfl) (Nat.le_of_ble_eq_true rfl) dX9_init_8 (fun q1 cA H hK2 hP hD hS => ?_)
  obtain rfl : cI = cA := (zcA hK2 0 2 rfl rfl).symm
  have hP : va_P (dC, dI) vwCl [(h0, .inr (9, [.null, .int 0, .int 0])), (q1, .inl (cI, 260, .inl (fun _ => 0)))] H := hP
  have hD : va_D A [(h0, .inr (9, [.null, .int 0, .int 0])), (q1, .inl (cI, 260, .inl (fun _ => 0)))] := hD
  refine W.widen (k := 1) (n := 260) (Nat.le_of_ble_eq_true rfl) (Nat.le_of_ble_eq_true rfl) ?_
  refine va_putF (D := (dC, dI)) (ci := 9) (v := .ref q1) (ty := .array .int) (C := RX9) (T := TX9) (N := 3) hx hb hts iX9 tyX9 tyX9_ok nmX9 hown hK hP hD hS 0 rfl rfl 0 (by decide) (hts _ qw132) (fun _ h9 => h9) rfl hin rfl (by decide +kernel) rfl rfl (Nat.le_of_ble_eq_true rfl) dX9_init_10 (fun H locs hP hD hS => ?_)
  have hP : va_P (dC, dI) vwCl [(h0, .inr (9, [.ref q1, .int 0, .int 0])), (q1, .inl (cI, 260, .inl (fun _ => 0)))] H := hP
  have hD : va_D A [(h0, .inr (9, [.ref q1, .int 0, .int 0])), (q1, .inl (cI, 260, .inl (fun _ => 0)))] := hD
  exact W.vret hx hb hr (fun t ht hW => ⟨⟨(), rfl, trivial, ⟨q1, by rw [ht]; exact hP, hD⟩⟩, hS.F ht⟩) hS.2.2 dX9_init_13
set_option maxHeartbeats 4000000 in
set_option maxRecDepth 100000 in
theorem c_X2_init (l : Launch) (dC : Nat → ClassId) (dI : Nat → Nat → Nat) (cI cJ : ClassId) (h0 : Nat) (sz : Nat) : Met l yX2_init (.code yX2_init cX2_init 1 none :: wA) ({ frames := 1, cells := 0, slots := 0, locals := 20 }) (zP (dC, dI) [(cI, .int), (cJ, .long)] [.ref h0] sz []) (va_Qv (fun (_ : Unit) => True) (fun (_ : Unit) (_ : State) => True) (va_A [] sz)) 0 0 (va_A [] sz) := by
  refine Met.ofW (cc := cX2_init) (maxL := 1) (ret := none) (by decide) rfl ?_
  intro p e s m args below meth c s₁ B hml hv
  obtain ⟨rfl, hsz, hP, hK, hT⟩ := hv
  have hx := B.exec
  have hb := B.bytes
  have hr := B.returns
  have hts : ∀ w ∈ wA, w.before _ s = true := fun w h => atoms_spec (ws := .code yX2_init cX2_init 1 none :: wA) B.pre w (List.mem_cons_of_mem _ h)
  have hown : s.vm.findClass RX2 = some m.cls := findClass_of_methodNamed B.named
  have hlocks := B.notSynchronized
  have hin : meth.name = "<init>" := (name_of_methodNamed B.named B.method).1
  subst hsz
  have hD : va_D (va_A [] s.heap.size) [] := zD0
  generalize hAe : va_A [] s.heap.size = A at hD ⊢
  have hA : ∀ q : Nat, s.heap.size ≤ q → A q := fun q h => by rw [← hAe]; exact Or.inr h
  have hl := lv_entry ([.ref h0]) (n := 1) (Nat.le_of_ble_eq_true rfl)
  rw [lg_entry_eq]
  generalize (lg_sl ([.ref h0]) ++ List.replicate (1 - (lg_sl ([.ref h0])).length) Slot.unset).toArray = ls at hl ⊢
  have hl : lv_has ls 1 [(0, .ref h0)] := hl
  refine zstart (fun H hH => ?_)
  rw [← hH] at hP
  have hS : va_S A s.heap H [] := by rw [hH]; exact va_S.rf
  refine lv_aload_n hx hb dX2_init_0 rfl (lv_at hl 0 rfl) ?_
  refine W.objInit hx hb hown (hts _ qw153) (hts _ qw124) (hts _ qw125) rfl (by rw [hml]; exact hl.1) rfl dX2_init_1 (Nat.le_of_ble_eq_true rfl) (Nat.le_of_ble_eq_true rfl) ?_
  refine W.eq (g2 := F0 m 4 ls []) rfl ?_
  exact W.vret hx hb hr (fun t ht hW => ⟨⟨(), rfl, trivial, trivial⟩, hS.F ht⟩) hS.2.2 dX2_init_4
set_option maxHeartbeats 4000000 in
set_option maxRecDepth 100000 in
theorem c_X5_init (l : Launch) (dC : Nat → ClassId) (dI : Nat → Nat → Nat) (cI cJ : ClassId) (h0 : Nat) (sz : Nat) : Met l yX5_init (.code yX5_init cX5_init 1 none :: wA) ({ frames := 1, cells := 1, slots := 241, locals := 20 }) (zP (dC, dI) [(cI, .int), (cJ, .long)] [.ref h0] sz [(h0, .inr (5, [.null, .int 0, .null]))]) (va_Qv (fun (_ : Unit) => True) (fun (_ : Unit) (t : State) => ∃ (q1 : Nat), va_P (dC, dI) vwCl [(h0, .inr (5, [.ref q1, .int 0, .null])), (q1, .inl (cI, 241, .inl (fun _ => 0)))] t.heap ∧ va_D (va_A [(h0, .inr (5, [.null, .int 0, .null]))] sz) [(h0, .inr (5, [.ref q1, .int 0, .null])), (q1, .inl (cI, 241, .inl (fun _ => 0)))]) (va_A [(h0, .inr (5, [.null, .int 0, .null]))] sz)) 1 241 (va_A [(h0, .inr (5, [.null, .int 0, .null]))] sz) := by
  refine Met.ofW (cc := cX5_init) (maxL := 1) (ret := none) (by decide) rfl ?_
  intro p e s m args below meth c s₁ B hml hv
  obtain ⟨rfl, hsz, hP, hK, hT⟩ := hv
  have hx := B.exec
  have hb := B.bytes
  have hr := B.returns
  have hts : ∀ w ∈ wA, w.before _ s = true := fun w h => atoms_spec (ws := .code yX5_init cX5_init 1 none :: wA) B.pre w (List.mem_cons_of_mem _ h)
  have hown : s.vm.findClass RX5 = some m.cls := findClass_of_methodNamed B.named
  have hlocks := B.notSynchronized
  have hin : meth.name = "<init>" := (name_of_methodNamed B.named B.method).1
  subst hsz
  have hD := hT.self (sz := s.heap.size)
  generalize hAe : va_A [(h0, .inr (5, [.null, .int 0, .null]))] s.heap.size = A at hD ⊢
  have hA : ∀ q : Nat, s.heap.size ≤ q → A q := fun q h => by rw [← hAe]; exact Or.inr h
  have hl := lv_entry ([.ref h0]) (n := 1) (Nat.le_of_ble_eq_true rfl)
  rw [lg_entry_eq]
  generalize (lg_sl ([.ref h0]) ++ List.replicate (1 - (lg_sl ([.ref h0])).length) Slot.unset).toArray = ls at hl ⊢
  have hl : lv_has ls 1 [(0, .ref h0)] := hl
  refine zstart (fun H hH => ?_)
  rw [← hH] at hP
  have hS : va_S A s.heap H [] := by rw [hH]; exact va_S.rf
  refine lv_aload_n hx hb dX5_init_0 rfl (lv_at hl 0 rfl) ?_
  refine W.objInit hx hb hown (hts _ qw169) (hts _ qw124) (hts _ qw125) rfl (by rw [hml]; exact hl.1) rfl dX5_init_1 (Nat.le_of_ble_eq_true rfl) (Nat.le_of_ble_eq_true rfl) ?_
  refine W.eq (g2 := F0 m 4 ls []) rfl ?_
  refine lv_aload_n hx hb dX5_init_4 rfl (lv_at hl 0 rfl) ?_
  refine lv_sipush (v := 241) hx hb dX5_init_5 (by decide) ?_
  refine va_newa (atype := .int) (ty := .int) (N' := 241) (a0 := (241, .inl (fun _ => 0))) hx hb (hts _ qw147) rfl hK hP hD hS hA (fun _ => rfl) (by decide) (by decide) (Nat.le_of_ble_eq_true rfl) (Nat.le_of_ble_eq_true rfl) (Nat.le_of_ble_eq_true rfl) dX5_init_8 (fun q1 cA H hK2 hP hD hS => ?_)
  obtain rfl : cI = cA := (zcA hK2 0 2 rfl rfl).symm
  have hP : va_P (dC, dI) vwCl [(h0, .inr (5, [.null, .int 0, .null])), (q1, .inl (cI, 241, .inl (fun _ => 0)))] H := hP
  have hD : va_D A [(h0, .inr (5, [.null, .int 0, .null])), (q1, .inl (cI, 241, .inl (fun _ => 0)))] := hD
  refine W.widen (k := 1) (n := 241) (Nat.le_of_ble_eq_true rfl) (Nat.le_of_ble_eq_true rfl) ?_
  refine va_putF (D := (dC, dI)) (ci := 5) (v := .ref q1) (ty := .array .int) (C := RX5) (T := TX5) (N := 3) hx hb hts iX5 tyX5 tyX5_ok nmX5 hown hK hP hD hS 0 rfl rfl 0 (by decide) (hts _ qw170) (fun _ h9 => h9) rfl hin rfl (by decide +kernel) rfl rfl (Nat.le_of_ble_eq_true rfl) dX5_init_10 (fun H locs hP hD hS => ?_)
  have hP : va_P (dC, dI) vwCl [(h0, .inr (5, [.ref q1, .int 0, .null])), (q1, .inl (cI, 241, .inl (fun _ => 0)))] H := hP
  have hD : va_D A [(h0, .inr (5, [.ref q1, .int 0, .null])), (q1, .inl (cI, 241, .inl (fun _ => 0)))] := hD
  exact W.vret hx hb hr (fun t ht hW => ⟨⟨(), rfl, trivial, ⟨q1, by rw [ht]; exact hP, hD⟩⟩, hS.F ht⟩) hS.2.2 dX5_init_13
set_option maxHeartbeats 4000000 in
set_option maxRecDepth 100000 in
theorem c_X1_init (l : Launch) (dC : Nat → ClassId) (dI : Nat → Nat → Nat) (cI cJ : ClassId) (h0 : Nat) (sz : Nat) : Met l yX1_init (.code yX1_init cX1_init 1 none :: wA) ({ frames := 1, cells := 3, slots := 47, locals := 20 }) (zP (dC, dI) [(cI, .int), (cJ, .long)] [.ref h0] sz [(h0, .inr (1, [.null, .null, .null, .int 0, .int 0]))]) (va_Qv (fun (_ : Unit) => True) (fun (_ : Unit) (t : State) => ∃ (q1 : Nat) (q2 : Nat) (q3 : Nat), va_P (dC, dI) vwCl [(h0, .inr (1, [.ref q1, .ref q2, .ref q3, .int 0, .int 0])), (q1, .inl (cI, 3, .inl (fun _ => 0))), (q2, .inl (cI, 24, .inl (fun _ => 0))), (q3, .inl (cI, 20, .inl (fun _ => 0)))] t.heap ∧ va_D (va_A [(h0, .inr (1, [.null, .null, .null, .int 0, .int 0]))] sz) [(h0, .inr (1, [.ref q1, .ref q2, .ref q3, .int 0, .int 0])), (q1, .inl (cI, 3, .inl (fun _ => 0))), (q2, .inl (cI, 24, .inl (fun _ => 0))), (q3, .inl (cI, 20, .inl (fun _ => 0)))]) (va_A [(h0, .inr (1, [.null, .null, .null, .int 0, .int 0]))] sz)) 3 47 (va_A [(h0, .inr (1, [.null, .null, .null, .int 0, .int 0]))] sz) := by
  refine Met.ofW (cc := cX1_init) (maxL := 1) (ret := none) (by decide) rfl ?_
  intro p e s m args below meth c s₁ B hml hv
  obtain ⟨rfl, hsz, hP, hK, hT⟩ := hv
  have hx := B.exec
  have hb := B.bytes
  have hr := B.returns
  have hts : ∀ w ∈ wA, w.before _ s = true := fun w h => atoms_spec (ws := .code yX1_init cX1_init 1 none :: wA) B.pre w (List.mem_cons_of_mem _ h)
  have hown : s.vm.findClass RX1 = some m.cls := findClass_of_methodNamed B.named
  have hlocks := B.notSynchronized
  have hin : meth.name = "<init>" := (name_of_methodNamed B.named B.method).1
  subst hsz
  have hD := hT.self (sz := s.heap.size)
  generalize hAe : va_A [(h0, .inr (1, [.null, .null, .null, .int 0, .int 0]))] s.heap.size = A at hD ⊢
  have hA : ∀ q : Nat, s.heap.size ≤ q → A q := fun q h => by rw [← hAe]; exact Or.inr h
  have hl := lv_entry ([.ref h0]) (n := 1) (Nat.le_of_ble_eq_true rfl)
  rw [lg_entry_eq]
  generalize (lg_sl ([.ref h0]) ++ List.replicate (1 - (lg_sl ([.ref h0])).length) Slot.unset).toArray = ls at hl ⊢
  have hl : lv_has ls 1 [(0, .ref h0)] := hl
  refine zstart (fun H hH => ?_)
  rw [← hH] at hP
  have hS : va_S A s.heap H [] := by rw [hH]; exact va_S.rf
  refine lv_aload_n hx hb dX1_init_0 rfl (lv_at hl 0 rfl) ?_
  refine W.objInit hx hb hown (hts _ qw185) (hts _ qw124) (hts _ qw125) rfl (by rw [hml]; exact hl.1) rfl dX1_init_1 (Nat.le_of_ble_eq_true rfl) (Nat.le_of_ble_eq_true rfl) ?_
  refine W.eq (g2 := F0 m 4 ls []) rfl ?_
  refine lv_aload_n hx hb dX1_init_4 rfl (lv_at hl 0 rfl) ?_
  refine lv_iconst (v := 3) hx hb dX1_init_5 (by decide) ?_
  refine va_newa (atype := .int) (ty := .int) (N' := 3) (a0 := (3, .inl (fun _ => 0))) hx hb (hts _ qw147) rfl hK hP hD hS hA (fun _ => rfl) (by decide) (by decide) (Nat.le_of_ble_eq_true rfl) (Nat.le_of_ble_eq_true rfl) (Nat.le_of_ble_eq_true rfl) dX1_init_6 (fun q1 cA H hK2 hP hD hS => ?_)
  obtain rfl : cI = cA := (zcA hK2 0 2 rfl rfl).symm
  have hP : va_P (dC, dI) vwCl [(h0, .inr (1, [.null, .null, .null, .int 0, .int 0])), (q1, .inl (cI, 3, .inl (fun _ => 0)))] H := hP
  have hD : va_D A [(h0, .inr (1, [.null, .null, .null, .int 0, .int 0])), (q1, .inl (cI, 3, .inl (fun _ => 0)))] := hD
  refine W.widen (k := 1) (n := 3) (Nat.le_of_ble_eq_true rfl) (Nat.le_of_ble_eq_true rfl) ?_
  refine va_putF (D := (dC, dI)) (ci := 1) (v := .ref q1) (ty := .array .int) (C := RX1) (T := TX1) (N := 5) hx hb hts iX1 tyX1 tyX1_ok nmX1 hown hK hP hD hS 0 rfl rfl 0 (by decide) (hts _ qw186) (fun _ h9 => h9) rfl hin rfl (by decide +kernel) rfl rfl (Nat.le_of_ble_eq_true rfl) dX1_init_8 (fun H locs hP hD hS => ?_)
  have hP : va_P (dC, dI) vwCl [(h0, .inr (1, [.ref q1, .null, .null, .int 0, .int 0])), (q1, .inl (cI, 3, .inl (fun _ => 0)))] H := hP
  have hD : va_D A [(h0, .inr (1, [.ref q1, .null, .null, .int 0, .int 0])), (q1, .inl (cI, 3, .inl (fun _ => 0)))] := hD
  refine lv_aload_n hx hb dX1_init_11 rfl (lv_at hl 0 rfl) ?_
  refine lv_bipush (v := 24) hx hb dX1_init_12 (by decide) ?_
  refine va_newa (atype := .int) (ty := .int) (N' := 24) (a0 := (24, .inl (fun _ => 0))) hx hb (hts _ qw147) rfl hK hP hD hS hA (fun _ => rfl) (by decide) (by decide) (Nat.le_of_ble_eq_true rfl) (Nat.le_of_ble_eq_true rfl) (Nat.le_of_ble_eq_true rfl) dX1_init_14 (fun q2 cA H hK2 hP hD hS => ?_)
  obtain rfl : cI = cA := (zcA hK2 0 2 rfl rfl).symm
  have hP : va_P (dC, dI) vwCl [(h0, .inr (1, [.ref q1, .null, .null, .int 0, .int 0])), (q1, .inl (cI, 3, .inl (fun _ => 0))), (q2, .inl (cI, 24, .inl (fun _ => 0)))] H := hP
  have hD : va_D A [(h0, .inr (1, [.ref q1, .null, .null, .int 0, .int 0])), (q1, .inl (cI, 3, .inl (fun _ => 0))), (q2, .inl (cI, 24, .inl (fun _ => 0)))] := hD
  refine W.widen (k := 2) (n := 27) (Nat.le_of_ble_eq_true rfl) (Nat.le_of_ble_eq_true rfl) ?_
  refine va_putF (D := (dC, dI)) (ci := 1) (v := .ref q2) (ty := .array .int) (C := RX1) (T := TX1) (N := 5) hx hb hts iX1 tyX1 tyX1_ok nmX1 hown hK hP hD hS 0 rfl rfl 1 (by decide) (hts _ qw188) (fun _ h9 => h9) rfl hin rfl (by decide +kernel) rfl rfl (Nat.le_of_ble_eq_true rfl) dX1_init_16 (fun H locs hP hD hS => ?_)
  have hP : va_P (dC, dI) vwCl [(h0, .inr (1, [.ref q1, .ref q2, .null, .int 0, .int 0])), (q1, .inl (cI, 3, .inl (fun _ => 0))), (q2, .inl (cI, 24, .inl (fun _ => 0)))] H := hP
  have hD : va_D A [(h0, .inr (1, [.ref q1, .ref q2, .null, .int 0, .int 0])), (q1, .inl (cI, 3, .inl (fun _ => 0))), (q2, .inl (cI, 24, .inl (fun _ => 0)))] := hD
  refine lv_aload_n hx hb dX1_init_19 rfl (lv_at hl 0 rfl) ?_
  refine lv_bipush (v := 20) hx hb dX1_init_20 (by decide) ?_
  refine va_newa (atype := .int) (ty := .int) (N' := 20) (a0 := (20, .inl (fun _ => 0))) hx hb (hts _ qw147) rfl hK hP hD hS hA (fun _ => rfl) (by decide) (by decide) (Nat.le_of_ble_eq_true rfl) (Nat.le_of_ble_eq_true rfl) (Nat.le_of_ble_eq_true rfl) dX1_init_22 (fun q3 cA H hK2 hP hD hS => ?_)
  obtain rfl : cI = cA := (zcA hK2 0 2 rfl rfl).symm
  have hP : va_P (dC, dI) vwCl [(h0, .inr (1, [.ref q1, .ref q2, .null, .int 0, .int 0])), (q1, .inl (cI, 3, .inl (fun _ => 0))), (q2, .inl (cI, 24, .inl (fun _ => 0))), (q3, .inl (cI, 20, .inl (fun _ => 0)))] H := hP
  have hD : va_D A [(h0, .inr (1, [.ref q1, .ref q2, .null, .int 0, .int 0])), (q1, .inl (cI, 3, .inl (fun _ => 0))), (q2, .inl (cI, 24, .inl (fun _ => 0))), (q3, .inl (cI, 20, .inl (fun _ => 0)))] := hD
  refine W.widen (k := 3) (n := 47) (Nat.le_of_ble_eq_true rfl) (Nat.le_of_ble_eq_true rfl) ?_
  refine va_putF (D := (dC, dI)) (ci := 1) (v := .ref q3) (ty := .array .int) (C := RX1) (T := TX1) (N := 5) hx hb hts iX1 tyX1 tyX1_ok nmX1 hown hK hP hD hS 0 rfl rfl 2 (by decide) (hts _ qw190) (fun _ h9 => h9) rfl hin rfl (by decide +kernel) rfl rfl (Nat.le_of_ble_eq_true rfl) dX1_init_24 (fun H locs hP hD hS => ?_)
  have hP : va_P (dC, dI) vwCl [(h0, .inr (1, [.ref q1, .ref q2, .ref q3, .int 0, .int 0])), (q1, .inl (cI, 3, .inl (fun _ => 0))), (q2, .inl (cI, 24, .inl (fun _ => 0))), (q3, .inl (cI, 20, .inl (fun _ => 0)))] H := hP
  have hD : va_D A [(h0, .inr (1, [.ref q1, .ref q2, .ref q3, .int 0, .int 0])), (q1, .inl (cI, 3, .inl (fun _ => 0))), (q2, .inl (cI, 24, .inl (fun _ => 0))), (q3, .inl (cI, 20, .inl (fun _ => 0)))] := hD
  exact W.vret hx hb hr (fun t ht hW => ⟨⟨(), rfl, trivial, ⟨q1, q2, q3, by rw [ht]; exact hP, hD⟩⟩, hS.F ht⟩) hS.2.2 dX1_init_27
set_option maxHeartbeats 4000000 in
set_option maxRecDepth 100000 in
theorem c_X7_init (l : Launch) (dC : Nat → ClassId) (dI : Nat → Nat → Nat) (cI cJ : ClassId) (h0 : Nat) (sz : Nat) : Met l yX7_init (.code yX7_init cX7_init 1 none :: wA) ({ frames := 1, cells := 3, slots := 91, locals := 20 }) (zP (dC, dI) [(cI, .int), (cJ, .long)] [.ref h0] sz [(h0, .inr (7, [.null, .null, .null, .int 0, .int 0, .int 0, .int 0, .int 0, .int 0]))]) (va_Qv (fun (_ : Unit) => True) (fun (_ : Unit) (t : State) => ∃ (q1 : Nat) (q2 : Nat) (q3 : Nat), va_P (dC, dI) vwCl [(h0, .inr (7, [.ref q1, .ref q2, .ref q3, .int 0, .int 0, .int 0, .int (-1), .int 0, .int 0])), (q1, .inl (cI, 6, .inl (fun _ => 0))), (q2, .inl (cI, 5, .inl (fun _ => 0))), (q3, .inl (cI, 80, .inl (fun _ => 0)))] t.heap ∧ va_D (va_A [(h0, .inr (7, [.null, .null, .null, .int 0, .int 0, .int 0, .int 0, .int 0, .int 0]))] sz) [(h0, .inr (7, [.ref q1, .ref q2, .ref q3, .int 0, .int 0, .int 0, .int (-1), .int 0, .int 0])), (q1, .inl (cI, 6, .inl (fun _ => 0))), (q2, .inl (cI, 5, .inl (fun _ => 0))), (q3, .inl (cI, 80, .inl (fun _ => 0)))]) (va_A [(h0, .inr (7, [.null, .null, .null, .int 0, .int 0, .int 0, .int 0, .int 0, .int 0]))] sz)) 3 91 (va_A [(h0, .inr (7, [.null, .null, .null, .int 0, .int 0, .int 0, .int 0, .int 0, .int 0]))] sz) := by
  refine Met.ofW (cc := cX7_init) (maxL := 1) (ret := none) (by decide) rfl ?_
  intro p e s m args below meth c s₁ B hml hv
  obtain ⟨rfl, hsz, hP, hK, hT⟩ := hv
  have hx := B.exec
  have hb := B.bytes
  have hr := B.returns
  have hts : ∀ w ∈ wA, w.before _ s = true := fun w h => atoms_spec (ws := .code yX7_init cX7_init 1 none :: wA) B.pre w (List.mem_cons_of_mem _ h)
  have hown : s.vm.findClass RX7 = some m.cls := findClass_of_methodNamed B.named
  have hlocks := B.notSynchronized
  have hin : meth.name = "<init>" := (name_of_methodNamed B.named B.method).1
  subst hsz
  have hD := hT.self (sz := s.heap.size)
  generalize hAe : va_A [(h0, .inr (7, [.null, .null, .null, .int 0, .int 0, .int 0, .int 0, .int 0, .int 0]))] s.heap.size = A at hD ⊢
  have hA : ∀ q : Nat, s.heap.size ≤ q → A q := fun q h => by rw [← hAe]; exact Or.inr h
  have hl := lv_entry ([.ref h0]) (n := 1) (Nat.le_of_ble_eq_true rfl)
  rw [lg_entry_eq]
  generalize (lg_sl ([.ref h0]) ++ List.replicate (1 - (lg_sl ([.ref h0])).length) Slot.unset).toArray = ls at hl ⊢
  have hl : lv_has ls 1 [(0, .ref h0)] := hl
  refine zstart (fun H hH => ?_)
  rw [← hH] at hP
  have hS : va_S A s.heap H [] := by rw [hH]; exact va_S.rf
  refine lv_aload_n hx hb dX7_init_0 rfl (lv_at hl 0 rfl) ?_
  refine W.objInit hx hb hown (hts _ qw219) (hts _ qw124) (hts _ qw125) rfl (by rw [hml]; exact hl.1) rfl dX7_init_1 (Nat.le_of_ble_eq_true rfl) (Nat.le_of_ble_eq_true rfl) ?_
  refine W.eq (g2 := F0 m 4 ls []) rfl ?_
  refine lv_aload_n hx hb dX7_init_4 rfl (lv_at hl 0 rfl) ?_
  refine lv_bipush (v := 6) hx hb dX7_init_5 (by decide) ?_
  refine va_newa (atype := .int) (ty := .int) (N' := 6) (a0 := (6, .inl (fun _ => 0))) hx hb (hts _ qw147) rfl hK hP hD hS hA (fun _ => rfl) (by decide) (by decide) (Nat.le_of_ble_eq_true rfl) (Nat.le_of_ble_eq_true rfl) (Nat.le_of_ble_eq_true rfl) dX7_init_7 (fun q1 cA H hK2 hP hD hS => ?_)
  obtain rfl : cI = cA := (zcA hK2 0 2 rfl rfl).symm
  have hP : va_P (dC, dI) vwCl [(h0, .inr (7, [.null, .null, .null, .int 0, .int 0, .int 0, .int 0, .int 0, .int 0])), (q1, .inl (cI, 6, .inl (fun _ => 0)))] H := hP
  have hD : va_D A [(h0, .inr (7, [.null, .null, .null, .int 0, .int 0, .int 0, .int 0, .int 0, .int 0])), (q1, .inl (cI, 6, .inl (fun _ => 0)))] := hD
  refine W.widen (k := 1) (n := 6) (Nat.le_of_ble_eq_true rfl) (Nat.le_of_ble_eq_true rfl) ?_
  refine va_putF (D := (dC, dI)) (ci := 7) (v := .ref q1) (ty := .array .int) (C := RX7) (T := TX7) (N := 9) hx hb hts iX7 tyX7 tyX7_ok nmX7 hown hK hP hD hS 0 rfl rfl 0 (by decide) (hts _ qw220) (fun _ h9 => h9) rfl hin rfl (by decide +kernel) rfl rfl (Nat.le_of_ble_eq_true rfl) dX7_init_9 (fun H locs hP hD hS => ?_)
  have hP : va_P (dC, dI) vwCl [(h0, .inr (7, [.ref q1, .null, .null, .int 0, .int 0, .int 0, .int 0, .int 0, .int 0])), (q1, .inl (cI, 6, .inl (fun _ => 0)))] H := hP
  have hD : va_D A [(h0, .inr (7, [.ref q1, .null, .null, .int 0, .int 0, .int 0, .int 0, .int 0, .int 0])), (q1, .inl (cI, 6, .inl (fun _ => 0)))] := hD
  refine lv_aload_n hx hb dX7_init_12 rfl (lv_at hl 0 rfl) ?_
  refine lv_iconst (v := 5) hx hb dX7_init_13 (by decide) ?_
  refine va_newa (atype := .int) (ty := .int) (N' := 5) (a0 := (5, .inl (fun _ => 0))) hx hb (hts _ qw147) rfl hK hP hD hS hA (fun _ => rfl) (by decide) (by decide) (Nat.le_of_ble_eq_true rfl) (Nat.le_of_ble_eq_true rfl) (Nat.le_of_ble_eq_true rfl) dX7_init_14 (fun q2 cA H hK2 hP hD hS => ?_)
  obtain rfl : cI = cA := (zcA hK2 0 2 rfl rfl).symm
  have hP : va_P (dC, dI) vwCl [(h0, .inr (7, [.ref q1, .null, .null, .int 0, .int 0, .int 0, .int 0, .int 0, .int 0])), (q1, .inl (cI, 6, .inl (fun _ => 0))), (q2, .inl (cI, 5, .inl (fun _ => 0)))] H := hP
  have hD : va_D A [(h0, .inr (7, [.ref q1, .null, .null, .int 0, .int 0, .int 0, .int 0, .int 0, .int 0])), (q1, .inl (cI, 6, .inl (fun _ => 0))), (q2, .inl (cI, 5, .inl (fun _ => 0)))] := hD
  refine W.widen (k := 2) (n := 11) (Nat.le_of_ble_eq_true rfl) (Nat.le_of_ble_eq_true rfl) ?_
  refine va_putF (D := (dC, dI)) (ci := 7) (v := .ref q2) (ty := .array .int) (C := RX7) (T := TX7) (N := 9) hx hb hts iX7 tyX7 tyX7_ok nmX7 hown hK hP hD hS 0 rfl rfl 1 (by decide) (hts _ qw223) (fun _ h9 => h9) rfl hin rfl (by decide +kernel) rfl rfl (Nat.le_of_ble_eq_true rfl) dX7_init_16 (fun H locs hP hD hS => ?_)
  have hP : va_P (dC, dI) vwCl [(h0, .inr (7, [.ref q1, .ref q2, .null, .int 0, .int 0, .int 0, .int 0, .int 0, .int 0])), (q1, .inl (cI, 6, .inl (fun _ => 0))), (q2, .inl (cI, 5, .inl (fun _ => 0)))] H := hP
  have hD : va_D A [(h0, .inr (7, [.ref q1, .ref q2, .null, .int 0, .int 0, .int 0, .int 0, .int 0, .int 0])), (q1, .inl (cI, 6, .inl (fun _ => 0))), (q2, .inl (cI, 5, .inl (fun _ => 0)))] := hD
  refine lv_aload_n hx hb dX7_init_19 rfl (lv_at hl 0 rfl) ?_
  refine lv_bipush (v := 80) hx hb dX7_init_20 (by decide) ?_
  refine va_newa (atype := .int) (ty := .int) (N' := 80) (a0 := (80, .inl (fun _ => 0))) hx hb (hts _ qw147) rfl hK hP hD hS hA (fun _ => rfl) (by decide) (by decide) (Nat.le_of_ble_eq_true rfl) (Nat.le_of_ble_eq_true rfl) (Nat.le_of_ble_eq_true rfl) dX7_init_22 (fun q3 cA H hK2 hP hD hS => ?_)
  obtain rfl : cI = cA := (zcA hK2 0 2 rfl rfl).symm
  have hP : va_P (dC, dI) vwCl [(h0, .inr (7, [.ref q1, .ref q2, .null, .int 0, .int 0, .int 0, .int 0, .int 0, .int 0])), (q1, .inl (cI, 6, .inl (fun _ => 0))), (q2, .inl (cI, 5, .inl (fun _ => 0))), (q3, .inl (cI, 80, .inl (fun _ => 0)))] H := hP
  have hD : va_D A [(h0, .inr (7, [.ref q1, .ref q2, .null, .int 0, .int 0, .int 0, .int 0, .int 0, .int 0])), (q1, .inl (cI, 6, .inl (fun _ => 0))), (q2, .inl (cI, 5, .inl (fun _ => 0))), (q3, .inl (cI, 80, .inl (fun _ => 0)))] := hD
  refine W.widen (k := 3) (n := 91) (Nat.le_of_ble_eq_true rfl) (Nat.le_of_ble_eq_true rfl) ?_
  refine va_putF (D := (dC, dI)) (ci := 7) (v := .ref q3) (ty := .array .int) (C := RX7) (T := TX7) (N := 9) hx hb hts iX7 tyX7 tyX7_ok nmX7 hown hK hP hD hS 0 rfl rfl 2 (by decide) (hts _ qw226) (fun _ h9 => h9) rfl hin rfl (by decide +kernel) rfl rfl (Nat.le_of_ble_eq_true rfl) dX7_init_24 (fun H locs hP hD hS => ?_)
  have hP : va_P (dC, dI) vwCl [(h0, .inr (7, [.ref q1, .ref q2, .ref q3, .int 0, .int 0, .int 0, .int 0, .int 0, .int 0])), (q1, .inl (cI, 6, .inl (fun _ => 0))), (q2, .inl (cI, 5, .inl (fun _ => 0))), (q3, .inl (cI, 80, .inl (fun _ => 0)))] H := hP
  have hD : va_D A [(h0, .inr (7, [.ref q1, .ref q2, .ref q3, .int 0, .int 0, .int 0, .int 0, .int 0, .int 0])), (q1, .inl (cI, 6, .inl (fun _ => 0))), (q2, .inl (cI, 5, .inl (fun _ => 0))), (q3, .inl (cI, 80, .inl (fun _ => 0)))] := hD
  refine lv_aload_n hx hb dX7_init_27 rfl (lv_at hl 0 rfl) ?_
  refine lv_iconst (v := (-1)) hx hb dX7_init_28 (by decide) ?_
  refine va_put (D := (dC, dI)) (ci := 7) (v := .int (-1)) (ty := .int) (C := RX7) (T := TX7) (N := 9) hx hb hts iX7 tyX7 tyX7_ok nmX7 hown hK hP hD hS 0 rfl rfl 6 (by decide) (hts _ qw236) (fun _ h9 => h9) rfl (by decide +kernel) rfl rfl (Nat.le_of_ble_eq_true rfl) dX7_init_29 (fun H locs hP hD hS => ?_)
  have hP : va_P (dC, dI) vwCl [(h0, .inr (7, [.ref q1, .ref q2, .ref q3, .int 0, .int 0, .int 0, .int (-1), .int 0, .int 0])), (q1, .inl (cI, 6, .inl (fun _ => 0))), (q2, .inl (cI, 5, .inl (fun _ => 0))), (q3, .inl (cI, 80, .inl (fun _ => 0)))] H := hP
  have hD : va_D A [(h0, .inr (7, [.ref q1, .ref q2, .ref q3, .int 0, .int 0, .int 0, .int (-1), .int 0, .int 0])), (q1, .inl (cI, 6, .inl (fun _ => 0))), (q2, .inl (cI, 5, .inl (fun _ => 0))), (q3, .inl (cI, 80, .inl (fun _ => 0)))] := hD
  exact W.vret hx hb hr (fun t ht hW => ⟨⟨(), rfl, trivial, ⟨q1, q2, q3, by rw [ht]; exact hP, hD⟩⟩, hS.F ht⟩) hS.2.2 dX7_init_32
set_option maxHeartbeats 4000000 in
set_option maxRecDepth 100000 in
theorem c_X0_init (l : Launch) (dC : Nat → ClassId) (dI : Nat → Nat → Nat) (cI cJ : ClassId) (h0 : Nat) (sz : Nat) : Met l yX0_init (.code yX0_init cX0_init 1 none :: wA) ({ frames := 1, cells := 1, slots := 680, locals := 20 }) (zP (dC, dI) [(cI, .int), (cJ, .long)] [.ref h0] sz [(h0, .inr (0, [.null, .int 0, .int 0]))]) (va_Qv (fun (_ : Unit) => True) (fun (_ : Unit) (t : State) => ∃ (q1 : Nat), va_P (dC, dI) vwCl [(h0, .inr (0, [.ref q1, .int 0, .int 0])), (q1, .inl (cI, 680, .inl (fun _ => 0)))] t.heap ∧ va_D (va_A [(h0, .inr (0, [.null, .int 0, .int 0]))] sz) [(h0, .inr (0, [.ref q1, .int 0, .int 0])), (q1, .inl (cI, 680, .inl (fun _ => 0)))]) (va_A [(h0, .inr (0, [.null, .int 0, .int 0]))] sz)) 1 680 (va_A [(h0, .inr (0, [.null, .int 0, .int 0]))] sz) := by
  refine Met.ofW (cc := cX0_init) (maxL := 1) (ret := none) (by decide) rfl ?_
  intro p e s m args below meth c s₁ B hml hv
  obtain ⟨rfl, hsz, hP, hK, hT⟩ := hv
  have hx := B.exec
  have hb := B.bytes
  have hr := B.returns
  have hts : ∀ w ∈ wA, w.before _ s = true := fun w h => atoms_spec (ws := .code yX0_init cX0_init 1 none :: wA) B.pre w (List.mem_cons_of_mem _ h)
  have hown : s.vm.findClass RX0 = some m.cls := findClass_of_methodNamed B.named
  have hlocks := B.notSynchronized
  have hin : meth.name = "<init>" := (name_of_methodNamed B.named B.method).1
  subst hsz
  have hD := hT.self (sz := s.heap.size)
  generalize hAe : va_A [(h0, .inr (0, [.null, .int 0, .int 0]))] s.heap.size = A at hD ⊢
  have hA : ∀ q : Nat, s.heap.size ≤ q → A q := fun q h => by rw [← hAe]; exact Or.inr h
  have hl := lv_entry ([.ref h0]) (n := 1) (Nat.le_of_ble_eq_true rfl)
  rw [lg_entry_eq]
  generalize (lg_sl ([.ref h0]) ++ List.replicate (1 - (lg_sl ([.ref h0])).length) Slot.unset).toArray = ls at hl ⊢
  have hl : lv_has ls 1 [(0, .ref h0)] := hl
  refine zstart (fun H hH => ?_)
  rw [← hH] at hP
  have hS : va_S A s.heap H [] := by rw [hH]; exact va_S.rf
  refine lv_aload_n hx hb dX0_init_0 rfl (lv_at hl 0 rfl) ?_
  refine W.objInit hx hb hown (hts _ qw267) (hts _ qw124) (hts _ qw125) rfl (by rw [hml]; exact hl.1) rfl dX0_init_1 (Nat.le_of_ble_eq_true rfl) (Nat.le_of_ble_eq_true rfl) ?_
  refine W.eq (g2 := F0 m 4 ls []) rfl ?_
  refine lv_aload_n hx hb dX0_init_4 rfl (lv_at hl 0 rfl) ?_
  refine lv_sipush (v := 680) hx hb dX0_init_5 (by decide) ?_
  refine va_newa (atype := .int) (ty := .int) (N' := 680) (a0 := (680, .inl (fun _ => 0))) hx hb (hts _ qw147) rfl hK hP hD hS hA (fun _ => rfl) (by decide) (by decide) (Nat.le_of_ble_eq_true rfl) (Nat.le_of_ble_eq_true rfl) (Nat.le_of_ble_eq_true rfl) dX0_init_8 (fun q1 cA H hK2 hP hD hS => ?_)
  obtain rfl : cI = cA := (zcA hK2 0 2 rfl rfl).symm
  have hP : va_P (dC, dI) vwCl [(h0, .inr (0, [.null, .int 0, .int 0])), (q1, .inl (cI, 680, .inl (fun _ => 0)))] H := hP
  have hD : va_D A [(h0, .inr (0, [.null, .int 0, .int 0])), (q1, .inl (cI, 680, .inl (fun _ => 0)))] := hD
  refine W.widen (k := 1) (n := 680) (Nat.le_of_ble_eq_true rfl) (Nat.le_of_ble_eq_true rfl) ?_
  refine va_putF (D := (dC, dI)) (ci := 0) (v := .ref q1) (ty := .array .int) (C := RX0) (T := TX0) (N := 3) hx hb hts iX0 tyX0 tyX0_ok nmX0 hown hK hP hD hS 0 rfl rfl 0 (by decide) (hts _ qw268) (fun _ h9 => h9) rfl hin rfl (by decide +kernel) rfl rfl (Nat.le_of_ble_eq_true rfl) dX0_init_10 (fun H locs hP hD hS => ?_)
  have hP : va_P (dC, dI) vwCl [(h0, .inr (0, [.ref q1, .int 0, .int 0])), (q1, .inl (cI, 680, .inl (fun _ => 0)))] H := hP
  have hD : va_D A [(h0, .inr (0, [.ref q1, .int 0, .int 0])), (q1, .inl (cI, 680, .inl (fun _ => 0)))] := hD
  exact W.vret hx hb hr (fun t ht hW => ⟨⟨(), rfl, trivial, ⟨q1, by rw [ht]; exact hP, hD⟩⟩, hS.F ht⟩) hS.2.2 dX0_init_13
set_option maxHeartbeats 4000000 in
set_option maxRecDepth 100000 in
theorem c_X8_init (l : Launch) (dC : Nat → ClassId) (dI : Nat → Nat → Nat) (cI cJ : ClassId) (h0 h1 h2 : Nat) (sz : Nat) : Met l yX8_init (.code yX8_init cX8_init 3 none :: wA) ({ frames := 1, cells := 4, slots := 58, locals := 20 }) (zP (dC, dI) [(cI, .int), (cJ, .long)] [.ref h0, .ref h1, .ref h2] sz [(h0, .inr (8, [.null, .null, .null, .null, .null, .null, .null]))]) (va_Qv (fun (_ : Unit) => True) (fun (_ : Unit) (t : State) => ∃ (q1 : Nat) (q2 : Nat) (q3 : Nat) (q4 : Nat), va_P (dC, dI) vwCl [(h0, .inr (8, [.ref q1, .ref q2, .ref h1, .ref h2, .ref q3, .ref q4, .null])), (q1, .inl (cI, 10, .inl (fun _ => 0))), (q2, .inl (cI, 10, .inl (fun _ => 0))), (q3, .inl (cI, 6, .inl (fun _ => 0))), (q4, .inl (cI, 32, .inl (fun _ => 0)))] t.heap ∧ va_D (va_A [(h0, .inr (8, [.null, .null, .null, .null, .null, .null, .null]))] sz) [(h0, .inr (8, [.ref q1, .ref q2, .ref h1, .ref h2, .ref q3, .ref q4, .null])), (q1, .inl (cI, 10, .inl (fun _ => 0))), (q2, .inl (cI, 10, .inl (fun _ => 0))), (q3, .inl (cI, 6, .inl (fun _ => 0))), (q4, .inl (cI, 32, .inl (fun _ => 0)))]) (va_A [(h0, .inr (8, [.null, .null, .null, .null, .null, .null, .null]))] sz)) 4 58 (va_A [(h0, .inr (8, [.null, .null, .null, .null, .null, .null, .null]))] sz) := by
  refine Met.ofW (cc := cX8_init) (maxL := 3) (ret := none) (by decide) rfl ?_
  intro p e s m args below meth c s₁ B hml hv
  obtain ⟨rfl, hsz, hP, hK, hT⟩ := hv
  have hx := B.exec
  have hb := B.bytes
  have hr := B.returns
  have hts : ∀ w ∈ wA, w.before _ s = true := fun w h => atoms_spec (ws := .code yX8_init cX8_init 3 none :: wA) B.pre w (List.mem_cons_of_mem _ h)
  have hown : s.vm.findClass RX8 = some m.cls := findClass_of_methodNamed B.named
  have hlocks := B.notSynchronized
  have hin : meth.name = "<init>" := (name_of_methodNamed B.named B.method).1
  subst hsz
  have hD := hT.self (sz := s.heap.size)
  generalize hAe : va_A [(h0, .inr (8, [.null, .null, .null, .null, .null, .null, .null]))] s.heap.size = A at hD ⊢
  have hA : ∀ q : Nat, s.heap.size ≤ q → A q := fun q h => by rw [← hAe]; exact Or.inr h
  have hl := lv_entry ([.ref h0, .ref h1, .ref h2]) (n := 3) (Nat.le_of_ble_eq_true rfl)
  rw [lg_entry_eq]
  generalize (lg_sl ([.ref h0, .ref h1, .ref h2]) ++ List.replicate (3 - (lg_sl ([.ref h0, .ref h1, .ref h2])).length) Slot.unset).toArray = ls at hl ⊢
  have hl : lv_has ls 3 [(0, .ref h0), (1, .ref h1), (2, .ref h2)] := hl
  refine zstart (fun H hH => ?_)
  rw [← hH] at hP
  have hS : va_S A s.heap H [] := by rw [hH]; exact va_S.rf
  refine lv_aload_n hx hb dX8_init_0 rfl (lv_at hl 0 rfl) ?_
  refine W.objInit hx hb hown (hts _ qw284) (hts _ qw124) (hts _ qw125) rfl (by rw [hml]; exact hl.1) rfl dX8_init_1 (Nat.le_of_ble_eq_true rfl) (Nat.le_of_ble_eq_true rfl) ?_
  refine W.eq (g2 := F0 m 4 ls []) rfl ?_
  refine lv_aload_n hx hb dX8_init_4 rfl (lv_at hl 0 rfl) ?_
  refine lv_bipush (v := 10) hx hb dX8_init_5 (by decide) ?_
  refine va_newa (atype := .int) (ty := .int) (N' := 10) (a0 := (10, .inl (fun _ => 0))) hx hb (hts _ qw147) rfl hK hP hD hS hA (fun _ => rfl) (by decide) (by decide) (Nat.le_of_ble_eq_true rfl) (Nat.le_of_ble_eq_true rfl) (Nat.le_of_ble_eq_true rfl) dX8_init_7 (fun q1 cA H hK2 hP hD hS => ?_)
  obtain rfl : cI = cA := (zcA hK2 0 2 rfl rfl).symm
  have hP : va_P (dC, dI) vwCl [(h0, .inr (8, [.null, .null, .null, .null, .null, .null, .null])), (q1, .inl (cI, 10, .inl (fun _ => 0)))] H := hP
  have hD : va_D A [(h0, .inr (8, [.null, .null, .null, .null, .null, .null, .null])), (q1, .inl (cI, 10, .inl (fun _ => 0)))] := hD
  refine W.widen (k := 1) (n := 10) (Nat.le_of_ble_eq_true rfl) (Nat.le_of_ble_eq_true rfl) ?_
  refine va_putF (D := (dC, dI)) (ci := 8) (v := .ref q1) (ty := .array .int) (C := RX8) (T := TX8) (N := 7) hx hb hts iX8 tyX8 tyX8_ok nmX8 hown hK hP hD hS 0 rfl rfl 0 (by decide) (hts _ qw285) (fun _ h9 => h9) rfl hin rfl (by decide +kernel) rfl rfl (Nat.le_of_ble_eq_true rfl) dX8_init_9 (fun H locs hP hD hS => ?_)
  have hP : va_P (dC, dI) vwCl [(h0, .inr (8, [.ref q1, .null, .null, .null, .null, .null, .null])), (q1, .inl (cI, 10, .inl (fun _ => 0)))] H := hP
  have hD : va_D A [(h0, .inr (8, [.ref q1, .null, .null, .null, .null, .null, .null])), (q1, .inl (cI, 10, .inl (fun _ => 0)))] := hD
  refine lv_aload_n hx hb dX8_init_12 rfl (lv_at hl 0 rfl) ?_
  refine lv_bipush (v := 10) hx hb dX8_init_13 (by decide) ?_
  refine va_newa (atype := .int) (ty := .int) (N' := 10) (a0 := (10, .inl (fun _ => 0))) hx hb (hts _ qw147) rfl hK hP hD hS hA (fun _ => rfl) (by decide) (by decide) (Nat.le_of_ble_eq_true rfl) (Nat.le_of_ble_eq_true rfl) (Nat.le_of_ble_eq_true rfl) dX8_init_15 (fun q2 cA H hK2 hP hD hS => ?_)
  obtain rfl : cI = cA := (zcA hK2 0 2 rfl rfl).symm
  have hP : va_P (dC, dI) vwCl [(h0, .inr (8, [.ref q1, .null, .null, .null, .null, .null, .null])), (q1, .inl (cI, 10, .inl (fun _ => 0))), (q2, .inl (cI, 10, .inl (fun _ => 0)))] H := hP
  have hD : va_D A [(h0, .inr (8, [.ref q1, .null, .null, .null, .null, .null, .null])), (q1, .inl (cI, 10, .inl (fun _ => 0))), (q2, .inl (cI, 10, .inl (fun _ => 0)))] := hD
  refine W.widen (k := 2) (n := 20) (Nat.le_of_ble_eq_true rfl) (Nat.le_of_ble_eq_true rfl) ?_
  refine va_putF (D := (dC, dI)) (ci := 8) (v := .ref q2) (ty := .array .int) (C := RX8) (T := TX8) (N := 7) hx hb hts iX8 tyX8 tyX8_ok nmX8 hown hK hP hD hS 0 rfl rfl 1 (by decide) (hts _ qw287) (fun _ h9 => h9) rfl hin rfl (by decide +kernel) rfl rfl (Nat.le_of_ble_eq_true rfl) dX8_init_17 (fun H locs hP hD hS => ?_)
  have hP : va_P (dC, dI) vwCl [(h0, .inr (8, [.ref q1, .ref q2, .null, .null, .null, .null, .null])), (q1, .inl (cI, 10, .inl (fun _ => 0))), (q2, .inl (cI, 10, .inl (fun _ => 0)))] H := hP
  have hD : va_D A [(h0, .inr (8, [.ref q1, .ref q2, .null, .null, .null, .null, .null])), (q1, .inl (cI, 10, .inl (fun _ => 0))), (q2, .inl (cI, 10, .inl (fun _ => 0)))] := hD
  refine lv_aload_n hx hb dX8_init_20 rfl (lv_at hl 0 rfl) ?_
  refine lv_bipush (v := 6) hx hb dX8_init_21 (by decide) ?_
  refine va_newa (atype := .int) (ty := .int) (N' := 6) (a0 := (6, .inl (fun _ => 0))) hx hb (hts _ qw147) rfl hK hP hD hS hA (fun _ => rfl) (by decide) (by decide) (Nat.le_of_ble_eq_true rfl) (Nat.le_of_ble_eq_true rfl) (Nat.le_of_ble_eq_true rfl) dX8_init_23 (fun q3 cA H hK2 hP hD hS => ?_)
  obtain rfl : cI = cA := (zcA hK2 0 2 rfl rfl).symm
  have hP : va_P (dC, dI) vwCl [(h0, .inr (8, [.ref q1, .ref q2, .null, .null, .null, .null, .null])), (q1, .inl (cI, 10, .inl (fun _ => 0))), (q2, .inl (cI, 10, .inl (fun _ => 0))), (q3, .inl (cI, 6, .inl (fun _ => 0)))] H := hP
  have hD : va_D A [(h0, .inr (8, [.ref q1, .ref q2, .null, .null, .null, .null, .null])), (q1, .inl (cI, 10, .inl (fun _ => 0))), (q2, .inl (cI, 10, .inl (fun _ => 0))), (q3, .inl (cI, 6, .inl (fun _ => 0)))] := hD
  refine W.widen (k := 3) (n := 26) (Nat.le_of_ble_eq_true rfl) (Nat.le_of_ble_eq_true rfl) ?_
  refine va_putF (D := (dC, dI)) (ci := 8) (v := .ref q3) (ty := .array .int) (C := RX8) (T := TX8) (N := 7) hx hb hts iX8 tyX8 tyX8_ok nmX8 hown hK hP hD hS 0 rfl rfl 4 (by decide) (hts _ qw291) (fun _ h9 => h9) rfl hin rfl (by decide +kernel) rfl rfl (Nat.le_of_ble_eq_true rfl) dX8_init_25 (fun H locs hP hD hS => ?_)
  have hP : va_P (dC, dI) vwCl [(h0, .inr (8, [.ref q1, .ref q2, .null, .null, .ref q3, .null, .null])), (q1, .inl (cI, 10, .inl (fun _ => 0))), (q2, .inl (cI, 10, .inl (fun _ => 0))), (q3, .inl (cI, 6, .inl (fun _ => 0)))] H := hP
  have hD : va_D A [(h0, .inr (8, [.ref q1, .ref q2, .null, .null, .ref q3, .null, .null])), (q1, .inl (cI, 10, .inl (fun _ => 0))), (q2, .inl (cI, 10, .inl (fun _ => 0))), (q3, .inl (cI, 6, .inl (fun _ => 0)))] := hD
  refine lv_aload_n hx hb dX8_init_28 rfl (lv_at hl 0 rfl) ?_
  refine lv_bipush (v := 32) hx hb dX8_init_29 (by decide) ?_
  refine va_newa (atype := .int) (ty := .int) (N' := 32) (a0 := (32, .inl (fun _ => 0))) hx hb (hts _ qw147) rfl hK hP hD hS hA (fun _ => rfl) (by decide) (by decide) (Nat.le_of_ble_eq_true rfl) (Nat.le_of_ble_eq_true rfl) (Nat.le_of_ble_eq_true rfl) dX8_init_31 (fun q4 cA H hK2 hP hD hS => ?_)
  obtain rfl : cI = cA := (zcA hK2 0 2 rfl rfl).symm
  have hP : va_P (dC, dI) vwCl [(h0, .inr (8, [.ref q1, .ref q2, .null, .null, .ref q3, .null, .null])), (q1, .inl (cI, 10, .inl (fun _ => 0))), (q2, .inl (cI, 10, .inl (fun _ => 0))), (q3, .inl (cI, 6, .inl (fun _ => 0))), (q4, .inl (cI, 32, .inl (fun _ => 0)))] H := hP
  have hD : va_D A [(h0, .inr (8, [.ref q1, .ref q2, .null, .null, .ref q3, .null, .null])), (q1, .inl (cI, 10, .inl (fun _ => 0))), (q2, .inl (cI, 10, .inl (fun _ => 0))), (q3, .inl (cI, 6, .inl (fun _ => 0))), (q4, .inl (cI, 32, .inl (fun _ => 0)))] := hD
  refine W.widen (k := 4) (n := 58) (Nat.le_of_ble_eq_true rfl) (Nat.le_of_ble_eq_true rfl) ?_
  refine va_putF (D := (dC, dI)) (ci := 8) (v := .ref q4) (ty := .array .int) (C := RX8) (T := TX8) (N := 7) hx hb hts iX8 tyX8 tyX8_ok nmX8 hown hK hP hD hS 0 rfl rfl 5 (by decide) (hts _ qw292) (fun _ h9 => h9) rfl hin rfl (by decide +kernel) rfl rfl (Nat.le_of_ble_eq_true rfl) dX8_init_33 (fun H locs hP hD hS => ?_)
  have hP : va_P (dC, dI) vwCl [(h0, .inr (8, [.ref q1, .ref q2, .null, .null, .ref q3, .ref q4, .null])), (q1, .inl (cI, 10, .inl (fun _ => 0))), (q2, .inl (cI, 10, .inl (fun _ => 0))), (q3, .inl (cI, 6, .inl (fun _ => 0))), (q4, .inl (cI, 32, .inl (fun _ => 0)))] H := hP
  have hD : va_D A [(h0, .inr (8, [.ref q1, .ref q2, .null, .null, .ref q3, .ref q4, .null])), (q1, .inl (cI, 10, .inl (fun _ => 0))), (q2, .inl (cI, 10, .inl (fun _ => 0))), (q3, .inl (cI, 6, .inl (fun _ => 0))), (q4, .inl (cI, 32, .inl (fun _ => 0)))] := hD
  refine lv_aload_n hx hb dX8_init_36 rfl (lv_at hl 0 rfl) ?_
  refine lv_aload_n hx hb dX8_init_37 rfl (lv_at hl 1 rfl) ?_
  refine va_putF (D := (dC, dI)) (ci := 8) (v := .ref h1) (ty := .object "NinePortraits$Court") (C := RX8) (T := TX8) (N := 7) hx hb hts iX8 tyX8 tyX8_ok nmX8 hown hK hP hD hS 0 rfl rfl 2 (by decide) (hts _ qw289) (fun _ h9 => h9) rfl hin rfl (by decide +kernel) rfl rfl (Nat.le_of_ble_eq_true rfl) dX8_init_38 (fun H locs hP hD hS => ?_)
  have hP : va_P (dC, dI) vwCl [(h0, .inr (8, [.ref q1, .ref q2, .ref h1, .null, .ref q3, .ref q4, .null])), (q1, .inl (cI, 10, .inl (fun _ => 0))), (q2, .inl (cI, 10, .inl (fun _ => 0))), (q3, .inl (cI, 6, .inl (fun _ => 0))), (q4, .inl (cI, 32, .inl (fun _ => 0)))] H := hP
  have hD : va_D A [(h0, .inr (8, [.ref q1, .ref q2, .ref h1, .null, .ref q3, .ref q4, .null])), (q1, .inl (cI, 10, .inl (fun _ => 0))), (q2, .inl (cI, 10, .inl (fun _ => 0))), (q3, .inl (cI, 6, .inl (fun _ => 0))), (q4, .inl (cI, 32, .inl (fun _ => 0)))] := hD
  refine lv_aload_n hx hb dX8_init_41 rfl (lv_at hl 0 rfl) ?_
  refine lv_aload_n hx hb dX8_init_42 rfl (lv_at hl 2 rfl) ?_
  refine va_putF (D := (dC, dI)) (ci := 8) (v := .ref h2) (ty := .object "NinePortraits$State") (C := RX8) (T := TX8) (N := 7) hx hb hts iX8 tyX8 tyX8_ok nmX8 hown hK hP hD hS 0 rfl rfl 3 (by decide) (hts _ qw290) (fun _ h9 => h9) rfl hin rfl (by decide +kernel) rfl rfl (Nat.le_of_ble_eq_true rfl) dX8_init_43 (fun H locs hP hD hS => ?_)
  have hP : va_P (dC, dI) vwCl [(h0, .inr (8, [.ref q1, .ref q2, .ref h1, .ref h2, .ref q3, .ref q4, .null])), (q1, .inl (cI, 10, .inl (fun _ => 0))), (q2, .inl (cI, 10, .inl (fun _ => 0))), (q3, .inl (cI, 6, .inl (fun _ => 0))), (q4, .inl (cI, 32, .inl (fun _ => 0)))] H := hP
  have hD : va_D A [(h0, .inr (8, [.ref q1, .ref q2, .ref h1, .ref h2, .ref q3, .ref q4, .null])), (q1, .inl (cI, 10, .inl (fun _ => 0))), (q2, .inl (cI, 10, .inl (fun _ => 0))), (q3, .inl (cI, 6, .inl (fun _ => 0))), (q4, .inl (cI, 32, .inl (fun _ => 0)))] := hD
  exact W.vret hx hb hr (fun t ht hW => ⟨⟨(), rfl, trivial, ⟨q1, q2, q3, q4, by rw [ht]; exact hP, hD⟩⟩, hS.F ht⟩) hS.2.2 dX8_init_46
set_option maxHeartbeats 4000000 in
set_option maxRecDepth 100000 in
theorem c_X6_init (l : Launch) (dC : Nat → ClassId) (dI : Nat → Nat → Nat) (cI cJ : ClassId) (h0 h1 h2 h3 : Nat) (sz : Nat) : Met l yX6_init (.code yX6_init cX6_init 4 none :: wA) ({ frames := 1, cells := 4, slots := 75, locals := 20 }) (zP (dC, dI) [(cI, .int), (cJ, .long)] [.ref h0, .ref h1, .ref h2, .ref h3] sz [(h0, .inr (6, [.null, .null, .null, .null, .long 0, .int 0, .null, .null, .null]))]) (va_Qv (fun (_ : Unit) => True) (fun (_ : Unit) (t : State) => ∃ (q1 : Nat) (q2 : Nat) (q3 : Nat) (q4 : Nat), va_P (dC, dI) vwCl [(h0, .inr (6, [.ref h1, .ref h2, .ref h3, .ref q1, .long 0, .int 0, .ref q2, .ref q3, .ref q4])), (q1, .inl (cJ, 10, .inr (.inl (fun _ => 0)))), (q2, .inl (cI, 10, .inl (fun _ => 0))), (q3, .inl (cI, 10, .inl (fun _ => 0))), (q4, .inl (cI, 45, .inl (fun _ => 0)))] t.heap ∧ va_D (va_A [(h0, .inr (6, [.null, .null, .null, .null, .long 0, .int 0, .null, .null, .null]))] sz) [(h0, .inr (6, [.ref h1, .ref h2, .ref h3, .ref q1, .long 0, .int 0, .ref q2, .ref q3, .ref q4])), (q1, .inl (cJ, 10, .inr (.inl (fun _ => 0)))), (q2, .inl (cI, 10, .inl (fun _ => 0))), (q3, .inl (cI, 10, .inl (fun _ => 0))), (q4, .inl (cI, 45, .inl (fun _ => 0)))]) (va_A [(h0, .inr (6, [.null, .null, .null, .null, .long 0, .int 0, .null, .null, .null]))] sz)) 4 75 (va_A [(h0, .inr (6, [.null, .null, .null, .null, .long 0, .int 0, .null, .null, .null]))] sz) := by
  refine Met.ofW (cc := cX6_init) (maxL := 4) (ret := none) (by decide) rfl ?_
  intro p e s m args below meth c s₁ B hml hv
  obtain ⟨rfl, hsz, hP, hK, hT⟩ := hv
  have hx := B.exec
  have hb := B.bytes
  have hr := B.returns
  have hts : ∀ w ∈ wA, w.before _ s = true := fun w h => atoms_spec (ws := .code yX6_init cX6_init 4 none :: wA) B.pre w (List.mem_cons_of_mem _ h)
  have hown : s.vm.findClass RX6 = some m.cls := findClass_of_methodNamed B.named
  have hlocks := B.notSynchronized
  have hin : meth.name = "<init>" := (name_of_methodNamed B.named B.method).1
  subst hsz
  have hD := hT.self (sz := s.heap.size)
  generalize hAe : va_A [(h0, .inr (6, [.null, .null, .null, .null, .long 0, .int 0, .null, .null, .null]))] s.heap.size = A at hD ⊢
  have hA : ∀ q : Nat, s.heap.size ≤ q → A q := fun q h => by rw [← hAe]; exact Or.inr h
  have hl := lv_entry ([.ref h0, .ref h1, .ref h2, .ref h3]) (n := 4) (Nat.le_of_ble_eq_true rfl)
  rw [lg_entry_eq]
  generalize (lg_sl ([.ref h0, .ref h1, .ref h2, .ref h3]) ++ List.replicate (4 - (lg_sl ([.ref h0, .ref h1, .ref h2, .ref h3])).length) Slot.unset).toArray = ls at hl ⊢
  have hl : lv_has ls 4 [(0, .ref h0), (1, .ref h1), (2, .ref h2), (3, .ref h3)] := hl
  refine zstart (fun H hH => ?_)
  rw [← hH] at hP
  have hS : va_S A s.heap H [] := by rw [hH]; exact va_S.rf
  refine lv_aload_n hx hb dX6_init_0 rfl (lv_at hl 0 rfl) ?_
  refine W.objInit hx hb hown (hts _ qw315) (hts _ qw124) (hts _ qw125) rfl (by rw [hml]; exact hl.1) rfl dX6_init_1 (Nat.le_of_ble_eq_true rfl) (Nat.le_of_ble_eq_true rfl) ?_
  refine W.eq (g2 := F0 m 4 ls []) rfl ?_
  refine lv_aload_n hx hb dX6_init_4 rfl (lv_at hl 0 rfl) ?_
  refine lv_bipush (v := 10) hx hb dX6_init_5 (by decide) ?_
  refine va_newa (atype := .long) (ty := .long) (N' := 10) (a0 := (10, .inr (.inl (fun _ => 0)))) hx hb (hts _ qw345) rfl hK hP hD hS hA (fun _ => rfl) (by decide) (by decide) (Nat.le_of_ble_eq_true rfl) (Nat.le_of_ble_eq_true rfl) (Nat.le_of_ble_eq_true rfl) dX6_init_7 (fun q1 cA H hK2 hP hD hS => ?_)
  obtain rfl : cJ = cA := (zcA hK2 1 2 rfl rfl).symm
  have hP : va_P (dC, dI) vwCl [(h0, .inr (6, [.null, .null, .null, .null, .long 0, .int 0, .null, .null, .null])), (q1, .inl (cJ, 10, .inr (.inl (fun _ => 0))))] H := hP
  have hD : va_D A [(h0, .inr (6, [.null, .null, .null, .null, .long 0, .int 0, .null, .null, .null])), (q1, .inl (cJ, 10, .inr (.inl (fun _ => 0))))] := hD
  refine W.widen (k := 1) (n := 10) (Nat.le_of_ble_eq_true rfl) (Nat.le_of_ble_eq_true rfl) ?_
  refine va_putF (D := (dC, dI)) (ci := 6) (v := .ref q1) (ty := .array .long) (C := RX6) (T := TX6) (N := 9) hx hb hts iX6 tyX6 tyX6_ok nmX6 hown hK hP hD hS 0 rfl rfl 3 (by decide) (hts _ qw319) (fun _ h9 => h9) rfl hin rfl (by decide +kernel) rfl rfl (Nat.le_of_ble_eq_true rfl) dX6_init_9 (fun H locs hP hD hS => ?_)
  have hP : va_P (dC, dI) vwCl [(h0, .inr (6, [.null, .null, .null, .ref q1, .long 0, .int 0, .null, .null, .null])), (q1, .inl (cJ, 10, .inr (.inl (fun _ => 0))))] H := hP
  have hD : va_D A [(h0, .inr (6, [.null, .null, .null, .ref q1, .long 0, .int 0, .null, .null, .null])), (q1, .inl (cJ, 10, .inr (.inl (fun _ => 0))))] := hD
  refine lv_aload_n hx hb dX6_init_12 rfl (lv_at hl 0 rfl) ?_
  refine lv_bipush (v := 10) hx hb dX6_init_13 (by decide) ?_
  refine va_newa (atype := .int) (ty := .int) (N' := 10) (a0 := (10, .inl (fun _ => 0))) hx hb (hts _ qw147) rfl hK hP hD hS hA (fun _ => rfl) (by decide) (by decide) (Nat.le_of_ble_eq_true rfl) (Nat.le_of_ble_eq_true rfl) (Nat.le_of_ble_eq_true rfl) dX6_init_15 (fun q2 cA H hK2 hP hD hS => ?_)
  obtain rfl : cI = cA := (zcA hK2 0 2 rfl rfl).symm
  have hP : va_P (dC, dI) vwCl [(h0, .inr (6, [.null, .null, .null, .ref q1, .long 0, .int 0, .null, .null, .null])), (q1, .inl (cJ, 10, .inr (.inl (fun _ => 0)))), (q2, .inl (cI, 10, .inl (fun _ => 0)))] H := hP
  have hD : va_D A [(h0, .inr (6, [.null, .null, .null, .ref q1, .long 0, .int 0, .null, .null, .null])), (q1, .inl (cJ, 10, .inr (.inl (fun _ => 0)))), (q2, .inl (cI, 10, .inl (fun _ => 0)))] := hD
  refine W.widen (k := 2) (n := 20) (Nat.le_of_ble_eq_true rfl) (Nat.le_of_ble_eq_true rfl) ?_
  refine va_putF (D := (dC, dI)) (ci := 6) (v := .ref q2) (ty := .array .int) (C := RX6) (T := TX6) (N := 9) hx hb hts iX6 tyX6 tyX6_ok nmX6 hown hK hP hD hS 0 rfl rfl 6 (by decide) (hts _ qw323) (fun _ h9 => h9) rfl hin rfl (by decide +kernel) rfl rfl (Nat.le_of_ble_eq_true rfl) dX6_init_17 (fun H locs hP hD hS => ?_)
  have hP : va_P (dC, dI) vwCl [(h0, .inr (6, [.null, .null, .null, .ref q1, .long 0, .int 0, .ref q2, .null, .null])), (q1, .inl (cJ, 10, .inr (.inl (fun _ => 0)))), (q2, .inl (cI, 10, .inl (fun _ => 0)))] H := hP
  have hD : va_D A [(h0, .inr (6, [.null, .null, .null, .ref q1, .long 0, .int 0, .ref q2, .null, .null])), (q1, .inl (cJ, 10, .inr (.inl (fun _ => 0)))), (q2, .inl (cI, 10, .inl (fun _ => 0)))] := hD
  refine lv_aload_n hx hb dX6_init_20 rfl (lv_at hl 0 rfl) ?_
  refine lv_bipush (v := 10) hx hb dX6_init_21 (by decide) ?_
  refine va_newa (atype := .int) (ty := .int) (N' := 10) (a0 := (10, .inl (fun _ => 0))) hx hb (hts _ qw147) rfl hK hP hD hS hA (fun _ => rfl) (by decide) (by decide) (Nat.le_of_ble_eq_true rfl) (Nat.le_of_ble_eq_true rfl) (Nat.le_of_ble_eq_true rfl) dX6_init_23 (fun q3 cA H hK2 hP hD hS => ?_)
  obtain rfl : cI = cA := (zcA hK2 0 2 rfl rfl).symm
  have hP : va_P (dC, dI) vwCl [(h0, .inr (6, [.null, .null, .null, .ref q1, .long 0, .int 0, .ref q2, .null, .null])), (q1, .inl (cJ, 10, .inr (.inl (fun _ => 0)))), (q2, .inl (cI, 10, .inl (fun _ => 0))), (q3, .inl (cI, 10, .inl (fun _ => 0)))] H := hP
  have hD : va_D A [(h0, .inr (6, [.null, .null, .null, .ref q1, .long 0, .int 0, .ref q2, .null, .null])), (q1, .inl (cJ, 10, .inr (.inl (fun _ => 0)))), (q2, .inl (cI, 10, .inl (fun _ => 0))), (q3, .inl (cI, 10, .inl (fun _ => 0)))] := hD
  refine W.widen (k := 3) (n := 30) (Nat.le_of_ble_eq_true rfl) (Nat.le_of_ble_eq_true rfl) ?_
  refine va_putF (D := (dC, dI)) (ci := 6) (v := .ref q3) (ty := .array .int) (C := RX6) (T := TX6) (N := 9) hx hb hts iX6 tyX6 tyX6_ok nmX6 hown hK hP hD hS 0 rfl rfl 7 (by decide) (hts _ qw324) (fun _ h9 => h9) rfl hin rfl (by decide +kernel) rfl rfl (Nat.le_of_ble_eq_true rfl) dX6_init_25 (fun H locs hP hD hS => ?_)
  have hP : va_P (dC, dI) vwCl [(h0, .inr (6, [.null, .null, .null, .ref q1, .long 0, .int 0, .ref q2, .ref q3, .null])), (q1, .inl (cJ, 10, .inr (.inl (fun _ => 0)))), (q2, .inl (cI, 10, .inl (fun _ => 0))), (q3, .inl (cI, 10, .inl (fun _ => 0)))] H := hP
  have hD : va_D A [(h0, .inr (6, [.null, .null, .null, .ref q1, .long 0, .int 0, .ref q2, .ref q3, .null])), (q1, .inl (cJ, 10, .inr (.inl (fun _ => 0)))), (q2, .inl (cI, 10, .inl (fun _ => 0))), (q3, .inl (cI, 10, .inl (fun _ => 0)))] := hD
  refine lv_aload_n hx hb dX6_init_28 rfl (lv_at hl 0 rfl) ?_
  refine lv_bipush (v := 45) hx hb dX6_init_29 (by decide) ?_
  refine va_newa (atype := .int) (ty := .int) (N' := 45) (a0 := (45, .inl (fun _ => 0))) hx hb (hts _ qw147) rfl hK hP hD hS hA (fun _ => rfl) (by decide) (by decide) (Nat.le_of_ble_eq_true rfl) (Nat.le_of_ble_eq_true rfl) (Nat.le_of_ble_eq_true rfl) dX6_init_31 (fun q4 cA H hK2 hP hD hS => ?_)
  obtain rfl : cI = cA := (zcA hK2 0 2 rfl rfl).symm
  have hP : va_P (dC, dI) vwCl [(h0, .inr (6, [.null, .null, .null, .ref q1, .long 0, .int 0, .ref q2, .ref q3, .null])), (q1, .inl (cJ, 10, .inr (.inl (fun _ => 0)))), (q2, .inl (cI, 10, .inl (fun _ => 0))), (q3, .inl (cI, 10, .inl (fun _ => 0))), (q4, .inl (cI, 45, .inl (fun _ => 0)))] H := hP
  have hD : va_D A [(h0, .inr (6, [.null, .null, .null, .ref q1, .long 0, .int 0, .ref q2, .ref q3, .null])), (q1, .inl (cJ, 10, .inr (.inl (fun _ => 0)))), (q2, .inl (cI, 10, .inl (fun _ => 0))), (q3, .inl (cI, 10, .inl (fun _ => 0))), (q4, .inl (cI, 45, .inl (fun _ => 0)))] := hD
  refine W.widen (k := 4) (n := 75) (Nat.le_of_ble_eq_true rfl) (Nat.le_of_ble_eq_true rfl) ?_
  refine va_putF (D := (dC, dI)) (ci := 6) (v := .ref q4) (ty := .array .int) (C := RX6) (T := TX6) (N := 9) hx hb hts iX6 tyX6 tyX6_ok nmX6 hown hK hP hD hS 0 rfl rfl 8 (by decide) (hts _ qw325) (fun _ h9 => h9) rfl hin rfl (by decide +kernel) rfl rfl (Nat.le_of_ble_eq_true rfl) dX6_init_33 (fun H locs hP hD hS => ?_)
  have hP : va_P (dC, dI) vwCl [(h0, .inr (6, [.null, .null, .null, .ref q1, .long 0, .int 0, .ref q2, .ref q3, .ref q4])), (q1, .inl (cJ, 10, .inr (.inl (fun _ => 0)))), (q2, .inl (cI, 10, .inl (fun _ => 0))), (q3, .inl (cI, 10, .inl (fun _ => 0))), (q4, .inl (cI, 45, .inl (fun _ => 0)))] H := hP
  have hD : va_D A [(h0, .inr (6, [.null, .null, .null, .ref q1, .long 0, .int 0, .ref q2, .ref q3, .ref q4])), (q1, .inl (cJ, 10, .inr (.inl (fun _ => 0)))), (q2, .inl (cI, 10, .inl (fun _ => 0))), (q3, .inl (cI, 10, .inl (fun _ => 0))), (q4, .inl (cI, 45, .inl (fun _ => 0)))] := hD
  refine lv_aload_n hx hb dX6_init_36 rfl (lv_at hl 0 rfl) ?_
  refine lv_aload_n hx hb dX6_init_37 rfl (lv_at hl 1 rfl) ?_
  refine va_putF (D := (dC, dI)) (ci := 6) (v := .ref h1) (ty := .object "NinePortraits$Court") (C := RX6) (T := TX6) (N := 9) hx hb hts iX6 tyX6 tyX6_ok nmX6 hown hK hP hD hS 0 rfl rfl 0 (by decide) (hts _ qw316) (fun _ h9 => h9) rfl hin rfl (by decide +kernel) rfl rfl (Nat.le_of_ble_eq_true rfl) dX6_init_38 (fun H locs hP hD hS => ?_)
  have hP : va_P (dC, dI) vwCl [(h0, .inr (6, [.ref h1, .null, .null, .ref q1, .long 0, .int 0, .ref q2, .ref q3, .ref q4])), (q1, .inl (cJ, 10, .inr (.inl (fun _ => 0)))), (q2, .inl (cI, 10, .inl (fun _ => 0))), (q3, .inl (cI, 10, .inl (fun _ => 0))), (q4, .inl (cI, 45, .inl (fun _ => 0)))] H := hP
  have hD : va_D A [(h0, .inr (6, [.ref h1, .null, .null, .ref q1, .long 0, .int 0, .ref q2, .ref q3, .ref q4])), (q1, .inl (cJ, 10, .inr (.inl (fun _ => 0)))), (q2, .inl (cI, 10, .inl (fun _ => 0))), (q3, .inl (cI, 10, .inl (fun _ => 0))), (q4, .inl (cI, 45, .inl (fun _ => 0)))] := hD
  refine lv_aload_n hx hb dX6_init_41 rfl (lv_at hl 0 rfl) ?_
  refine lv_aload_n hx hb dX6_init_42 rfl (lv_at hl 2 rfl) ?_
  refine va_putF (D := (dC, dI)) (ci := 6) (v := .ref h2) (ty := .object "NinePortraits$State") (C := RX6) (T := TX6) (N := 9) hx hb hts iX6 tyX6 tyX6_ok nmX6 hown hK hP hD hS 0 rfl rfl 1 (by decide) (hts _ qw317) (fun _ h9 => h9) rfl hin rfl (by decide +kernel) rfl rfl (Nat.le_of_ble_eq_true rfl) dX6_init_43 (fun H locs hP hD hS => ?_)
  have hP : va_P (dC, dI) vwCl [(h0, .inr (6, [.ref h1, .ref h2, .null, .ref q1, .long 0, .int 0, .ref q2, .ref q3, .ref q4])), (q1, .inl (cJ, 10, .inr (.inl (fun _ => 0)))), (q2, .inl (cI, 10, .inl (fun _ => 0))), (q3, .inl (cI, 10, .inl (fun _ => 0))), (q4, .inl (cI, 45, .inl (fun _ => 0)))] H := hP
  have hD : va_D A [(h0, .inr (6, [.ref h1, .ref h2, .null, .ref q1, .long 0, .int 0, .ref q2, .ref q3, .ref q4])), (q1, .inl (cJ, 10, .inr (.inl (fun _ => 0)))), (q2, .inl (cI, 10, .inl (fun _ => 0))), (q3, .inl (cI, 10, .inl (fun _ => 0))), (q4, .inl (cI, 45, .inl (fun _ => 0)))] := hD
  refine lv_aload_n hx hb dX6_init_46 rfl (lv_at hl 0 rfl) ?_
  refine lv_aload_n hx hb dX6_init_47 rfl (lv_at hl 3 rfl) ?_
  refine va_putF (D := (dC, dI)) (ci := 6) (v := .ref h3) (ty := .object "NinePortraits$Studio") (C := RX6) (T := TX6) (N := 9) hx hb hts iX6 tyX6 tyX6_ok nmX6 hown hK hP hD hS 0 rfl rfl 2 (by decide) (hts _ qw318) (fun _ h9 => h9) rfl hin rfl (by decide +kernel) rfl rfl (Nat.le_of_ble_eq_true rfl) dX6_init_48 (fun H locs hP hD hS => ?_)
  have hP : va_P (dC, dI) vwCl [(h0, .inr (6, [.ref h1, .ref h2, .ref h3, .ref q1, .long 0, .int 0, .ref q2, .ref q3, .ref q4])), (q1, .inl (cJ, 10, .inr (.inl (fun _ => 0)))), (q2, .inl (cI, 10, .inl (fun _ => 0))), (q3, .inl (cI, 10, .inl (fun _ => 0))), (q4, .inl (cI, 45, .inl (fun _ => 0)))] H := hP
  have hD : va_D A [(h0, .inr (6, [.ref h1, .ref h2, .ref h3, .ref q1, .long 0, .int 0, .ref q2, .ref q3, .ref q4])), (q1, .inl (cJ, 10, .inr (.inl (fun _ => 0)))), (q2, .inl (cI, 10, .inl (fun _ => 0))), (q3, .inl (cI, 10, .inl (fun _ => 0))), (q4, .inl (cI, 45, .inl (fun _ => 0)))] := hD
  exact W.vret hx hb hr (fun t ht hW => ⟨⟨(), rfl, trivial, ⟨q1, q2, q3, q4, by rw [ht]; exact hP, hD⟩⟩, hS.F ht⟩) hS.2.2 dX6_init_51
set_option maxHeartbeats 4000000 in
set_option maxRecDepth 100000 in
theorem c_X3_init (l : Launch) (dC : Nat → ClassId) (dI : Nat → Nat → Nat) (cI cJ : ClassId) (h0 : Nat) (sz : Nat) : Met l yX3_init (.code yX3_init cX3_init 1 none :: wA) ({ frames := 1, cells := 0, slots := 0, locals := 20 }) (zP (dC, dI) [(cI, .int), (cJ, .long)] [.ref h0] sz []) (va_Qv (fun (_ : Unit) => True) (fun (_ : Unit) (_ : State) => True) (va_A [] sz)) 0 0 (va_A [] sz) := by
  refine Met.ofW (cc := cX3_init) (maxL := 1) (ret := none) (by decide) rfl ?_
  intro p e s m args below meth c s₁ B hml hv
  obtain ⟨rfl, hsz, hP, hK, hT⟩ := hv
  have hx := B.exec
  have hb := B.bytes
  have hr := B.returns
  have hts : ∀ w ∈ wA, w.before _ s = true := fun w h => atoms_spec (ws := .code yX3_init cX3_init 1 none :: wA) B.pre w (List.mem_cons_of_mem _ h)
  have hown : s.vm.findClass RX3 = some m.cls := findClass_of_methodNamed B.named
  have hlocks := B.notSynchronized
  have hin : meth.name = "<init>" := (name_of_methodNamed B.named B.method).1
  subst hsz
  have hD : va_D (va_A [] s.heap.size) [] := zD0
  generalize hAe : va_A [] s.heap.size = A at hD ⊢
  have hA : ∀ q : Nat, s.heap.size ≤ q → A q := fun q h => by rw [← hAe]; exact Or.inr h
  have hl := lv_entry ([.ref h0]) (n := 1) (Nat.le_of_ble_eq_true rfl)
  rw [lg_entry_eq]
  generalize (lg_sl ([.ref h0]) ++ List.replicate (1 - (lg_sl ([.ref h0])).length) Slot.unset).toArray = ls at hl ⊢
  have hl : lv_has ls 1 [(0, .ref h0)] := hl
  refine zstart (fun H hH => ?_)
  rw [← hH] at hP
  have hS : va_S A s.heap H [] := by rw [hH]; exact va_S.rf
  refine lv_aload_n hx hb dX3_init_0 rfl (lv_at hl 0 rfl) ?_
  refine W.objInit hx hb hown (hts _ qw351) (hts _ qw124) (hts _ qw125) rfl (by rw [hml]; exact hl.1) rfl dX3_init_1 (Nat.le_of_ble_eq_true rfl) (Nat.le_of_ble_eq_true rfl) ?_
  refine W.eq (g2 := F0 m 4 ls []) rfl ?_
  exact W.vret hx hb hr (fun t ht hW => ⟨⟨(), rfl, trivial, trivial⟩, hS.F ht⟩) hS.2.2 dX3_init_4
set_option maxHeartbeats 4000000 in
set_option maxRecDepth 100000 in
theorem c_X10_init (l : Launch) (dC : Nat → ClassId) (dI : Nat → Nat → Nat) (cI cJ cQ : ClassId) (h0 : Nat) (sz : Nat) : Met l yX10_init (.code yX10_init cX10_init 1 none :: wA) ({ frames := 2, cells := 36, slots := 1656, locals := 43 }) (zPE (dC, dI) [(cI, .int), (cJ, .long), (cQ, .object "NinePortraits$Law")] [.ref h0] sz [(h0, .inr (10, [.null, .null, .null, .null, .null, .null, .null, .null, .null, .null, .null, .null, .null, .int 0, .int 0, .int 0, .int 0]))]) (va_Qv (fun (_ : Unit) => True) (fun (_ : Unit) (t : State) => ∃ (q1 : Nat) (q3 : Nat) (q4 : Nat) (q6 : Nat) (q8 : Nat) (q9 : Nat) (q11 : Nat) (q12 : Nat) (q13 : Nat) (q14 : Nat) (q16 : Nat) (q17 : Nat) (q18 : Nat) (q19 : Nat) (q20 : Nat) (q22 : Nat) (q23 : Nat) (q24 : Nat) (q25 : Nat) (q27 : Nat) (q28 : Nat) (q29 : Nat) (q30 : Nat) (q32 : Nat) (q33 : Nat) (q35 : Nat) (q36 : Nat) (q37 : Nat) (q38 : Nat) (q39 : Nat) (q41 : Nat) (q42 : Nat) (q43 : Nat) (q44 : Nat) (q45 : Nat) (q47 : Nat), va_P (dC, dI) vwCl [(h0, .inr (10, [.ref q1, .ref q4, .ref q6, .ref q9, .ref q14, .ref q19, .ref q20, .ref q25, .ref q30, .ref q33, .ref q39, .ref q45, .ref q47, .int 0, .int (-1), .int 0, .int 0])), (q1, .inr (9, [.ref q3, .int 0, .int 0])), (q3, .inl (cI, 260, .inl (fun _ => 0))), (q4, .inr (2, [.null, .null, .int 0])), (q6, .inr (5, [.ref q8, .int 0, .null])), (q8, .inl (cI, 241, .inl (fun _ => 0))), (q9, .inr (1, [.ref q11, .ref q12, .ref q13, .int 0, .int 0])), (q11, .inl (cI, 3, .inl (fun _ => 0))), (q12, .inl (cI, 24, .inl (fun _ => 0))), (q13, .inl (cI, 20, .inl (fun _ => 0))), (q14, .inr (1, [.ref q16, .ref q17, .ref q18, .int 0, .int 0])), (q16, .inl (cI, 3, .inl (fun _ => 0))), (q17, .inl (cI, 24, .inl (fun _ => 0))), (q18, .inl (cI, 20, .inl (fun _ => 0))), (q19, .inl (cQ, 4, .inr (.inr (.inr (.inr (fun _ => none)))))), (q20, .inr (7, [.ref q22, .ref q23, .ref q24, .int 0, .int 0, .int 0, .int (-1), .int 0, .int 0])), (q22, .inl (cI, 6, .inl (fun _ => 0))), (q23, .inl (cI, 5, .inl (fun _ => 0))), (q24, .inl (cI, 80, .inl (fun _ => 0))), (q25, .inr (7, [.ref q27, .ref q28, .ref q29, .int 0, .int 0, .int 0, .int (-1), .int 0, .int 0])), (q27, .inl (cI, 6, .inl (fun _ => 0))), (q28, .inl (cI, 5, .inl (fun _ => 0))), (q29, .inl (cI, 80, .inl (fun _ => 0))), (q30, .inr (0, [.ref q32, .int 0, .int 0])), (q32, .inl (cI, 680, .inl (fun _ => 0))), (q33, .inr (8, [.ref q35, .ref q36, .ref q14, .ref q20, .ref q37, .ref q38, .null])), (q35, .inl (cI, 10, .inl (fun _ => 0))), (q36, .inl (cI, 10, .inl (fun _ => 0))), (q37, .inl (cI, 6, .inl (fun _ => 0))), (q38, .inl (cI, 32, .inl (fun _ => 0))), (q39, .inr (6, [.ref q14, .ref q20, .ref q33, .ref q41, .long 0, .int 0, .ref q42, .ref q43, .ref q44])), (q41, .inl (cJ, 10, .inr (.inl (fun _ => 0)))), (q42, .inl (cI, 10, .inl (fun _ => 0))), (q43, .inl (cI, 10, .inl (fun _ => 0))), (q44, .inl (cI, 45, .inl (fun _ => 0))), (q45, .inr (3, [.long 0])), (q47, .inl (cI, 5, .inl (fun _ => 0)))] t.heap ∧ va_D (va_A [(h0, .inr (10, [.null, .null, .null, .null, .null, .null, .null, .null, .null, .null, .null, .null, .null, .int 0, .int 0, .int 0, .int 0]))] sz) [(h0, .inr (10, [.ref q1, .ref q4, .ref q6, .ref q9, .ref q14, .ref q19, .ref q20, .ref q25, .ref q30, .ref q33, .ref q39, .ref q45, .ref q47, .int 0, .int (-1), .int 0, .int 0])), (q1, .inr (9, [.ref q3, .int 0, .int 0])), (q3, .inl (cI, 260, .inl (fun _ => 0))), (q4, .inr (2, [.null, .null, .int 0])), (q6, .inr (5, [.ref q8, .int 0, .null])), (q8, .inl (cI, 241, .inl (fun _ => 0))), (q9, .inr (1, [.ref q11, .ref q12, .ref q13, .int 0, .int 0])), (q11, .inl (cI, 3, .inl (fun _ => 0))), (q12, .inl (cI, 24, .inl (fun _ => 0))), (q13, .inl (cI, 20, .inl (fun _ => 0))), (q14, .inr (1, [.ref q16, .ref q17, .ref q18, .int 0, .int 0])), (q16, .inl (cI, 3, .inl (fun _ => 0))), (q17, .inl (cI, 24, .inl (fun _ => 0))), (q18, .inl (cI, 20, .inl (fun _ => 0))), (q19, .inl (cQ, 4, .inr (.inr (.inr (.inr (fun _ => none)))))), (q20, .inr (7, [.ref q22, .ref q23, .ref q24, .int 0, .int 0, .int 0, .int (-1), .int 0, .int 0])), (q22, .inl (cI, 6, .inl (fun _ => 0))), (q23, .inl (cI, 5, .inl (fun _ => 0))), (q24, .inl (cI, 80, .inl (fun _ => 0))), (q25, .inr (7, [.ref q27, .ref q28, .ref q29, .int 0, .int 0, .int 0, .int (-1), .int 0, .int 0])), (q27, .inl (cI, 6, .inl (fun _ => 0))), (q28, .inl (cI, 5, .inl (fun _ => 0))), (q29, .inl (cI, 80, .inl (fun _ => 0))), (q30, .inr (0, [.ref q32, .int 0, .int 0])), (q32, .inl (cI, 680, .inl (fun _ => 0))), (q33, .inr (8, [.ref q35, .ref q36, .ref q14, .ref q20, .ref q37, .ref q38, .null])), (q35, .inl (cI, 10, .inl (fun _ => 0))), (q36, .inl (cI, 10, .inl (fun _ => 0))), (q37, .inl (cI, 6, .inl (fun _ => 0))), (q38, .inl (cI, 32, .inl (fun _ => 0))), (q39, .inr (6, [.ref q14, .ref q20, .ref q33, .ref q41, .long 0, .int 0, .ref q42, .ref q43, .ref q44])), (q41, .inl (cJ, 10, .inr (.inl (fun _ => 0)))), (q42, .inl (cI, 10, .inl (fun _ => 0))), (q43, .inl (cI, 10, .inl (fun _ => 0))), (q44, .inl (cI, 45, .inl (fun _ => 0))), (q45, .inr (3, [.long 0])), (q47, .inl (cI, 5, .inl (fun _ => 0)))]) (va_A [(h0, .inr (10, [.null, .null, .null, .null, .null, .null, .null, .null, .null, .null, .null, .null, .null, .int 0, .int 0, .int 0, .int 0]))] sz)) 36 1656 (va_A [(h0, .inr (10, [.null, .null, .null, .null, .null, .null, .null, .null, .null, .null, .null, .null, .null, .int 0, .int 0, .int 0, .int 0]))] sz) := by
  refine Met.ofW (cc := cX10_init) (maxL := 1) (ret := none) (by decide) rfl ?_
  intro p e s m args below meth c s₁ B hml hv
  obtain ⟨⟨rfl, hsz, hP, hK3, hT⟩, hE⟩ := hv
  have hK : va_K (dC, dI) vwCl [(cI, .int), (cJ, .long)] s := hK3.sub [0, 1] rfl
  obtain ⟨hN_9, hN_18, hN_25, hN_32, hN_48, hN_58, hN_83, hAO⟩ := hE
  have hx := B.exec
  have hb := B.bytes
  have hr := B.returns
  have hts : ∀ w ∈ wA, w.before _ s = true := fun w h => atoms_spec (ws := .code yX10_init cX10_init 1 none :: wA) B.pre w (List.mem_cons_of_mem _ h)
  have hown : s.vm.findClass RX10 = some m.cls := findClass_of_methodNamed B.named
  have hlocks := B.notSynchronized
  have hin : meth.name = "<init>" := (name_of_methodNamed B.named B.method).1
  subst hsz
  have hD := hT.self (sz := s.heap.size)
  generalize hAe : va_A [(h0, .inr (10, [.null, .null, .null, .null, .null, .null, .null, .null, .null, .null, .null, .null, .null, .int 0, .int 0, .int 0, .int 0]))] s.heap.size = A at hD ⊢
  have hA : ∀ q : Nat, s.heap.size ≤ q → A q := fun q h => by rw [← hAe]; exact Or.inr h
  have hl := lv_entry ([.ref h0]) (n := 1) (Nat.le_of_ble_eq_true rfl)
  rw [lg_entry_eq]
  generalize (lg_sl ([.ref h0]) ++ List.replicate (1 - (lg_sl ([.ref h0])).length) Slot.unset).toArray = ls at hl ⊢
  have hl : lv_has ls 1 [(0, .ref h0)] := hl
  refine zstart (fun H hH => ?_)
  rw [← hH] at hP
  have hS : va_S A s.heap H [] := by rw [hH]; exact va_S.rf
  refine lv_aload_n hx hb dX10_init_0 rfl (lv_at hl 0 rfl) ?_
  refine W.objInit hx hb hown (hts _ qw123) (hts _ qw124) (hts _ qw125) rfl (by rw [hml]; exact hl.1) rfl dX10_init_1 (Nat.le_of_ble_eq_true rfl) (Nat.le_of_ble_eq_true rfl) ?_
  refine W.eq (g2 := F0 m 4 ls []) rfl ?_
  refine lv_aload_n hx hb dX10_init_4 rfl (lv_at hl 0 rfl) ?_
  refine va_new (ci := 9) (fs := [.null, .int 0, .int 0]) (C := RX9) (T := TX9) (N := 3) hx hb hts iX9 tyX9 tyX9_ok hown (hts _ qw126) (hts _ qw127) (hts _ qw99) hK hP hD hS hA rfl fsX9 (Nat.le_of_ble_eq_true rfl) (Nat.le_of_ble_eq_true rfl) dX10_init_5 (fun q1 H hP hD hS => ?_)
  have hP : va_P (dC, dI) vwCl [(h0, .inr (10, [.null, .null, .null, .null, .null, .null, .null, .null, .null, .null, .null, .null, .null, .int 0, .int 0, .int 0, .int 0])), (q1, .inr (9, [.null, .int 0, .int 0]))] H := hP
  have hD : va_D A [(h0, .inr (10, [.null, .null, .null, .null, .null, .null, .null, .null, .null, .null, .null, .null, .null, .int 0, .int 0, .int 0, .int 0])), (q1, .inr (9, [.null, .int 0, .int 0]))] := hD
  refine W.widen (k := 1) (n := 3) (Nat.le_of_ble_eq_true rfl) (Nat.le_of_ble_eq_true rfl) ?_
  refine lv_dup hx hb dX10_init_8 rfl ?_
  have hPc := hP.sub (ws' := [(q1, .inr (9, [.null, .int 0, .int 0]))]) [1] rfl
  have hDc := hD.sub (ws' := [(q1, .inr (9, [.null, .int 0, .int 0]))]) [1] (by decide) rfl
  have hFc := va_free (wc := [(q1, .inr (9, [.null, .int 0, .int 0]))]) hD hS hA [1] rfl
  refine va_callv (va_runIN (As := []) (rest := [.ref q1, .ref h0]) ⟨hx, hb, hml, hown, hts⟩ (c_X9_init l dC dI cI cJ q1 H.size) ⟨va_cnB 0 hts (zgI qw130) rfl rfl rfl (hN_9) (hts _ qw99) (hd_X9_init).2 ⟨Nat.le_of_ble_eq_true rfl, Nat.le_of_ble_eq_true rfl⟩, rfl, hts _ qw129⟩ (zPS hPc hK hDc) rfl rfl hl.1 rfl (lv_room (Nat.le_of_ble_eq_true rfl)) dX10_init_9 ⟨Nat.le_of_ble_eq_true rfl, Nat.le_of_ble_eq_true rfl⟩) hS (fun q _ h => hFc q h) hFc (fun u t H locs ht hvm hw hB hz1 hk1 hS => ?_)
  refine W.widen (k := 2) (n := 263) (Nat.le_of_ble_eq_true rfl) (Nat.le_of_ble_eq_true rfl) ?_
  obtain ⟨q3, hB⟩ := hB
  obtain ⟨hP1, hD1⟩ := hB
  rw [ht] at hP1
  obtain ⟨hP, hD⟩ := va_join (wr := [(h0, .inr (10, [.null, .null, .null, .null, .null, .null, .null, .null, .null, .null, .null, .null, .null, .int 0, .int 0, .int 0, .int 0]))]) (w1 := [(q1, .inr (9, [.ref q3, .int 0, .int 0])), (q3, .inl (cI, 260, .inl (fun _ => 0)))]) hP hD [1] [0] rfl rfl (by decide) (by decide) hk1 hFc hP1 hD1
  have hP : va_P (dC, dI) vwCl [(h0, .inr (10, [.null, .null, .null, .null, .null, .null, .null, .null, .null, .null, .null, .null, .null, .int 0, .int 0, .int 0, .int 0])), (q1, .inr (9, [.ref q3, .int 0, .int 0])), (q3, .inl (cI, 260, .inl (fun _ => 0)))] H := hP
  have hD : va_D A [(h0, .inr (10, [.null, .null, .null, .null, .null, .null, .null, .null, .null, .null, .null, .null, .null, .int 0, .int 0, .int 0, .int 0])), (q1, .inr (9, [.ref q3, .int 0, .int 0])), (q3, .inl (cI, 260, .inl (fun _ => 0)))] := hD
  refine va_putF (D := (dC, dI)) (ci := 10) (v := .ref q1) (ty := .object "NinePortraits$Tape") (C := RX10) (T := TX10) (N := 17) hx hb hts iX10 tyX10 tyX10_ok nmX10 hown hK hP hD hS 0 rfl rfl 0 (by decide) (hts _ qw356) (fun _ h9 => h9) rfl hin rfl (by decide +kernel) rfl rfl (Nat.le_of_ble_eq_true rfl) dX10_init_12 (fun H locs hP hD hS => ?_)
  have hP : va_P (dC, dI) vwCl [(h0, .inr (10, [.ref q1, .null, .null, .null, .null, .null, .null, .null, .null, .null, .null, .null, .null, .int 0, .int 0, .int 0, .int 0])), (q1, .inr (9, [.ref q3, .int 0, .int 0])), (q3, .inl (cI, 260, .inl (fun _ => 0)))] H := hP
  have hD : va_D A [(h0, .inr (10, [.ref q1, .null, .null, .null, .null, .null, .null, .null, .null, .null, .null, .null, .null, .int 0, .int 0, .int 0, .int 0])), (q1, .inr (9, [.ref q3, .int 0, .int 0])), (q3, .inl (cI, 260, .inl (fun _ => 0)))] := hD
  refine lv_aload_n hx hb dX10_init_15 rfl (lv_at hl 0 rfl) ?_
  refine va_new (ci := 2) (fs := [.null, .null, .int 0]) (C := RX2) (T := TX2) (N := 3) hx hb hts iX2 tyX2 tyX2_ok hown (hts _ qw148) (hts _ qw149) (hts _ qw100) hK hP hD hS hA rfl fsX2 (Nat.le_of_ble_eq_true rfl) (Nat.le_of_ble_eq_true rfl) dX10_init_16 (fun q4 H hP hD hS => ?_)
  have hP : va_P (dC, dI) vwCl [(h0, .inr (10, [.ref q1, .null, .null, .null, .null, .null, .null, .null, .null, .null, .null, .null, .null, .int 0, .int 0, .int 0, .int 0])), (q1, .inr (9, [.ref q3, .int 0, .int 0])), (q3, .inl (cI, 260, .inl (fun _ => 0))), (q4, .inr (2, [.null, .null, .int 0]))] H := hP
  have hD : va_D A [(h0, .inr (10, [.ref q1, .null, .null, .null, .null, .null, .null, .null, .null, .null, .null, .null, .null, .int 0, .int 0, .int 0, .int 0])), (q1, .inr (9, [.ref q3, .int 0, .int 0])), (q3, .inl (cI, 260, .inl (fun _ => 0))), (q4, .inr (2, [.null, .null, .int 0]))] := hD
  refine W.widen (k := 3) (n := 266) (Nat.le_of_ble_eq_true rfl) (Nat.le_of_ble_eq_true rfl) ?_
  refine lv_dup hx hb dX10_init_19 rfl ?_
  have hPc : va_P (dC, dI) vwCl [] H := zP0
  have hDc : va_D (fun _ => True) [] := zD0
  have hFc := zfr hS hA
  refine va_callv (va_runIN (As := []) (rest := [.ref q4, .ref h0]) ⟨hx, hb, hml, hown, hts⟩ (c_X2_init l dC dI cI cJ q4 H.size) ⟨va_cnB 0 hts (zgI qw152) rfl rfl rfl (hN_18) (hts _ qw100) (hd_X2_init).2 ⟨Nat.le_of_ble_eq_true rfl, Nat.le_of_ble_eq_true rfl⟩, rfl, hts _ qw151⟩ (zPS hPc hK hDc) rfl rfl hl.1 rfl (lv_room (Nat.le_of_ble_eq_true rfl)) dX10_init_20 ⟨Nat.le_of_ble_eq_true rfl, Nat.le_of_ble_eq_true rfl⟩) hS (fun q _ h => hFc q h) hFc (fun u t H locs ht hvm hw hB hz1 hk1 hS => ?_)
  have hP := zkeep hP hk1
  refine va_putF (D := (dC, dI)) (ci := 10) (v := .ref q4) (ty := .object "NinePortraits$CourtReader") (C := RX10) (T := TX10) (N := 17) hx hb hts iX10 tyX10 tyX10_ok nmX10 hown hK hP hD hS 0 rfl rfl 1 (by decide) (hts _ qw357) (fun _ h9 => h9) rfl hin rfl (by decide +kernel) rfl rfl (Nat.le_of_ble_eq_true rfl) dX10_init_23 (fun H locs hP hD hS => ?_)
  have hP : va_P (dC, dI) vwCl [(h0, .inr (10, [.ref q1, .ref q4, .null, .null, .null, .null, .null, .null, .null, .null, .null, .null, .null, .int 0, .int 0, .int 0, .int 0])), (q1, .inr (9, [.ref q3, .int 0, .int 0])), (q3, .inl (cI, 260, .inl (fun _ => 0))), (q4, .inr (2, [.null, .null, .int 0]))] H := hP
  have hD : va_D A [(h0, .inr (10, [.ref q1, .ref q4, .null, .null, .null, .null, .null, .null, .null, .null, .null, .null, .null, .int 0, .int 0, .int 0, .int 0])), (q1, .inr (9, [.ref q3, .int 0, .int 0])), (q3, .inl (cI, 260, .inl (fun _ => 0))), (q4, .inr (2, [.null, .null, .int 0]))] := hD
  refine lv_aload_n hx hb dX10_init_26 rfl (lv_at hl 0 rfl) ?_
  refine va_new (ci := 5) (fs := [.null, .int 0, .null]) (C := RX5) (T := TX5) (N := 3) hx hb hts iX5 tyX5 tyX5_ok hown (hts _ qw164) (hts _ qw165) (hts _ qw101) hK hP hD hS hA rfl fsX5 (Nat.le_of_ble_eq_true rfl) (Nat.le_of_ble_eq_true rfl) dX10_init_27 (fun q6 H hP hD hS => ?_)
  have hP : va_P (dC, dI) vwCl [(h0, .inr (10, [.ref q1, .ref q4, .null, .null, .null, .null, .null, .null, .null, .null, .null, .null, .null, .int 0, .int 0, .int 0, .int 0])), (q1, .inr (9, [.ref q3, .int 0, .int 0])), (q3, .inl (cI, 260, .inl (fun _ => 0))), (q4, .inr (2, [.null, .null, .int 0])), (q6, .inr (5, [.null, .int 0, .null]))] H := hP
  have hD : va_D A [(h0, .inr (10, [.ref q1, .ref q4, .null, .null, .null, .null, .null, .null, .null, .null, .null, .null, .null, .int 0, .int 0, .int 0, .int 0])), (q1, .inr (9, [.ref q3, .int 0, .int 0])), (q3, .inl (cI, 260, .inl (fun _ => 0))), (q4, .inr (2, [.null, .null, .int 0])), (q6, .inr (5, [.null, .int 0, .null]))] := hD
  refine W.widen (k := 4) (n := 269) (Nat.le_of_ble_eq_true rfl) (Nat.le_of_ble_eq_true rfl) ?_
  refine lv_dup hx hb dX10_init_30 rfl ?_
  have hPc := hP.sub (ws' := [(q6, .inr (5, [.null, .int 0, .null]))]) [4] rfl
  have hDc := hD.sub (ws' := [(q6, .inr (5, [.null, .int 0, .null]))]) [4] (by decide) rfl
  have hFc := va_free (wc := [(q6, .inr (5, [.null, .int 0, .null]))]) hD hS hA [4] rfl
  refine va_callv (va_runIN (As := []) (rest := [.ref q6, .ref h0]) ⟨hx, hb, hml, hown, hts⟩ (c_X5_init l dC dI cI cJ q6 H.size) ⟨va_cnB 0 hts (zgI qw168) rfl rfl rfl (hN_25) (hts _ qw101) (hd_X5_init).2 ⟨Nat.le_of_ble_eq_true rfl, Nat.le_of_ble_eq_true rfl⟩, rfl, hts _ qw167⟩ (zPS hPc hK hDc) rfl rfl hl.1 rfl (lv_room (Nat.le_of_ble_eq_true rfl)) dX10_init_31 ⟨Nat.le_of_ble_eq_true rfl, Nat.le_of_ble_eq_true rfl⟩) hS (fun q _ h => hFc q h) hFc (fun u t H locs ht hvm hw hB hz1 hk1 hS => ?_)
  refine W.widen (k := 5) (n := 510) (Nat.le_of_ble_eq_true rfl) (Nat.le_of_ble_eq_true rfl) ?_
  obtain ⟨q8, hB⟩ := hB
  obtain ⟨hP1, hD1⟩ := hB
  rw [ht] at hP1
  obtain ⟨hP, hD⟩ := va_join (wr := [(h0, .inr (10, [.ref q1, .ref q4, .null, .null, .null, .null, .null, .null, .null, .null, .null, .null, .null, .int 0, .int 0, .int 0, .int 0])), (q1, .inr (9, [.ref q3, .int 0, .int 0])), (q3, .inl (cI, 260, .inl (fun _ => 0))), (q4, .inr (2, [.null, .null, .int 0]))]) (w1 := [(q6, .inr (5, [.ref q8, .int 0, .null])), (q8, .inl (cI, 241, .inl (fun _ => 0)))]) hP hD [4] [0, 1, 2, 3] rfl rfl (by decide) (by decide) hk1 hFc hP1 hD1
  have hP : va_P (dC, dI) vwCl [(h0, .inr (10, [.ref q1, .ref q4, .null, .null, .null, .null, .null, .null, .null, .null, .null, .null, .null, .int 0, .int 0, .int 0, .int 0])), (q1, .inr (9, [.ref q3, .int 0, .int 0])), (q3, .inl (cI, 260, .inl (fun _ => 0))), (q4, .inr (2, [.null, .null, .int 0])), (q6, .inr (5, [.ref q8, .int 0, .null])), (q8, .inl (cI, 241, .inl (fun _ => 0)))] H := hP
  have hD : va_D A [(h0, .inr (10, [.ref q1, .ref q4, .null, .null, .null, .null, .null, .null, .null, .null, .null, .null, .null, .int 0, .int 0, .int 0, .int 0])), (q1, .inr (9, [.ref q3, .int 0, .int 0])), (q3, .inl (cI, 260, .inl (fun _ => 0))), (q4, .inr (2, [.null, .null, .int 0])), (q6, .inr (5, [.ref q8, .int 0, .null])), (q8, .inl (cI, 241, .inl (fun _ => 0)))] := hD
  refine va_putF (D := (dC, dI)) (ci := 10) (v := .ref q6) (ty := .object "NinePortraits$LawReader") (C := RX10) (T := TX10) (N := 17) hx hb hts iX10 tyX10 tyX10_ok nmX10 hown hK hP hD hS 0 rfl rfl 2 (by decide) (hts _ qw358) (fun _ h9 => h9) rfl hin rfl (by decide +kernel) rfl rfl (Nat.le_of_ble_eq_true rfl) dX10_init_34 (fun H locs hP hD hS => ?_)
  have hP : va_P (dC, dI) vwCl [(h0, .inr (10, [.ref q1, .ref q4, .ref q6, .null, .null, .null, .null, .null, .null, .null, .null, .null, .null, .int 0, .int 0, .int 0, .int 0])), (q1, .inr (9, [.ref q3, .int 0, .int 0])), (q3, .inl (cI, 260, .inl (fun _ => 0))), (q4, .inr (2, [.null, .null, .int 0])), (q6, .inr (5, [.ref q8, .int 0, .null])), (q8, .inl (cI, 241, .inl (fun _ => 0)))] H := hP
  have hD : va_D A [(h0, .inr (10, [.ref q1, .ref q4, .ref q6, .null, .null, .null, .null, .null, .null, .null, .null, .null, .null, .int 0, .int 0, .int 0, .int 0])), (q1, .inr (9, [.ref q3, .int 0, .int 0])), (q3, .inl (cI, 260, .inl (fun _ => 0))), (q4, .inr (2, [.null, .null, .int 0])), (q6, .inr (5, [.ref q8, .int 0, .null])), (q8, .inl (cI, 241, .inl (fun _ => 0)))] := hD
  refine lv_aload_n hx hb dX10_init_37 rfl (lv_at hl 0 rfl) ?_
  refine va_new (ci := 1) (fs := [.null, .null, .null, .int 0, .int 0]) (C := RX1) (T := TX1) (N := 5) hx hb hts iX1 tyX1 tyX1_ok hown (hts _ qw180) (hts _ qw181) (hts _ qw102) hK hP hD hS hA rfl fsX1 (Nat.le_of_ble_eq_true rfl) (Nat.le_of_ble_eq_true rfl) dX10_init_38 (fun q9 H hP hD hS => ?_)
  have hP : va_P (dC, dI) vwCl [(h0, .inr (10, [.ref q1, .ref q4, .ref q6, .null, .null, .null, .null, .null, .null, .null, .null, .null, .null, .int 0, .int 0, .int 0, .int 0])), (q1, .inr (9, [.ref q3, .int 0, .int 0])), (q3, .inl (cI, 260, .inl (fun _ => 0))), (q4, .inr (2, [.null, .null, .int 0])), (q6, .inr (5, [.ref q8, .int 0, .null])), (q8, .inl (cI, 241, .inl (fun _ => 0))), (q9, .inr (1, [.null, .null, .null, .int 0, .int 0]))] H := hP
  have hD : va_D A [(h0, .inr (10, [.ref q1, .ref q4, .ref q6, .null, .null, .null, .null, .null, .null, .null, .null, .null, .null, .int 0, .int 0, .int 0, .int 0])), (q1, .inr (9, [.ref q3, .int 0, .int 0])), (q3, .inl (cI, 260, .inl (fun _ => 0))), (q4, .inr (2, [.null, .null, .int 0])), (q6, .inr (5, [.ref q8, .int 0, .null])), (q8, .inl (cI, 241, .inl (fun _ => 0))), (q9, .inr (1, [.null, .null, .null, .int 0, .int 0]))] := hD
  refine W.widen (k := 6) (n := 515) (Nat.le_of_ble_eq_true rfl) (Nat.le_of_ble_eq_true rfl) ?_
  refine lv_dup hx hb dX10_init_41 rfl ?_
  have hPc := hP.sub (ws' := [(q9, .inr (1, [.null, .null, .null, .int 0, .int 0]))]) [6] rfl
  have hDc := hD.sub (ws' := [(q9, .inr (1, [.null, .null, .null, .int 0, .int 0]))]) [6] (by decide) rfl
  have hFc := va_free (wc := [(q9, .inr (1, [.null, .null, .null, .int 0, .int 0]))]) hD hS hA [6] rfl
  refine va_callv (va_runIN (As := []) (rest := [.ref q9, .ref h0]) ⟨hx, hb, hml, hown, hts⟩ (c_X1_init l dC dI cI cJ q9 H.size) ⟨va_cnB 0 hts (zgI qw184) rfl rfl rfl (hN_32) (hts _ qw102) (hd_X1_init).2 ⟨Nat.le_of_ble_eq_true rfl, Nat.le_of_ble_eq_true rfl⟩, rfl, hts _ qw183⟩ (zPS hPc hK hDc) rfl rfl hl.1 rfl (lv_room (Nat.le_of_ble_eq_true rfl)) dX10_init_42 ⟨Nat.le_of_ble_eq_true rfl, Nat.le_of_ble_eq_true rfl⟩) hS (fun q _ h => hFc q h) hFc (fun u t H locs ht hvm hw hB hz1 hk1 hS => ?_)
  refine W.widen (k := 9) (n := 562) (Nat.le_of_ble_eq_true rfl) (Nat.le_of_ble_eq_true rfl) ?_
  obtain ⟨q11, q12, q13, hB⟩ := hB
  obtain ⟨hP1, hD1⟩ := hB
  rw [ht] at hP1
  obtain ⟨hP, hD⟩ := va_join (wr := [(h0, .inr (10, [.ref q1, .ref q4, .ref q6, .null, .null, .null, .null, .null, .null, .null, .null, .null, .null, .int 0, .int 0, .int 0, .int 0])), (q1, .inr (9, [.ref q3, .int 0, .int 0])), (q3, .inl (cI, 260, .inl (fun _ => 0))), (q4, .inr (2, [.null, .null, .int 0])), (q6, .inr (5, [.ref q8, .int 0, .null])), (q8, .inl (cI, 241, .inl (fun _ => 0)))]) (w1 := [(q9, .inr (1, [.ref q11, .ref q12, .ref q13, .int 0, .int 0])), (q11, .inl (cI, 3, .inl (fun _ => 0))), (q12, .inl (cI, 24, .inl (fun _ => 0))), (q13, .inl (cI, 20, .inl (fun _ => 0)))]) hP hD [6] [0, 1, 2, 3, 4, 5] rfl rfl (by decide) (by decide) hk1 hFc hP1 hD1
  have hP : va_P (dC, dI) vwCl [(h0, .inr (10, [.ref q1, .ref q4, .ref q6, .null, .null, .null, .null, .null, .null, .null, .null, .null, .null, .int 0, .int 0, .int 0, .int 0])), (q1, .inr (9, [.ref q3, .int 0, .int 0])), (q3, .inl (cI, 260, .inl (fun _ => 0))), (q4, .inr (2, [.null, .null, .int 0])), (q6, .inr (5, [.ref q8, .int 0, .null])), (q8, .inl (cI, 241, .inl (fun _ => 0))), (q9, .inr (1, [.ref q11, .ref q12, .ref q13, .int 0, .int 0])), (q11, .inl (cI, 3, .inl (fun _ => 0))), (q12, .inl (cI, 24, .inl (fun _ => 0))), (q13, .inl (cI, 20, .inl (fun _ => 0)))] H := hP
  have hD : va_D A [(h0, .inr (10, [.ref q1, .ref q4, .ref q6, .null, .null, .null, .null, .null, .null, .null, .null, .null, .null, .int 0, .int 0, .int 0, .int 0])), (q1, .inr (9, [.ref q3, .int 0, .int 0])), (q3, .inl (cI, 260, .inl (fun _ => 0))), (q4, .inr (2, [.null, .null, .int 0])), (q6, .inr (5, [.ref q8, .int 0, .null])), (q8, .inl (cI, 241, .inl (fun _ => 0))), (q9, .inr (1, [.ref q11, .ref q12, .ref q13, .int 0, .int 0])), (q11, .inl (cI, 3, .inl (fun _ => 0))), (q12, .inl (cI, 24, .inl (fun _ => 0))), (q13, .inl (cI, 20, .inl (fun _ => 0)))] := hD
  refine va_putF (D := (dC, dI)) (ci := 10) (v := .ref q9) (ty := .object "NinePortraits$Court") (C := RX10) (T := TX10) (N := 17) hx hb hts iX10 tyX10 tyX10_ok nmX10 hown hK hP hD hS 0 rfl rfl 3 (by decide) (hts _ qw359) (fun _ h9 => h9) rfl hin rfl (by decide +kernel) rfl rfl (Nat.le_of_ble_eq_true rfl) dX10_init_45 (fun H locs hP hD hS => ?_)
  have hP : va_P (dC, dI) vwCl [(h0, .inr (10, [.ref q1, .ref q4, .ref q6, .ref q9, .null, .null, .null, .null, .null, .null, .null, .null, .null, .int 0, .int 0, .int 0, .int 0])), (q1, .inr (9, [.ref q3, .int 0, .int 0])), (q3, .inl (cI, 260, .inl (fun _ => 0))), (q4, .inr (2, [.null, .null, .int 0])), (q6, .inr (5, [.ref q8, .int 0, .null])), (q8, .inl (cI, 241, .inl (fun _ => 0))), (q9, .inr (1, [.ref q11, .ref q12, .ref q13, .int 0, .int 0])), (q11, .inl (cI, 3, .inl (fun _ => 0))), (q12, .inl (cI, 24, .inl (fun _ => 0))), (q13, .inl (cI, 20, .inl (fun _ => 0)))] H := hP
  have hD : va_D A [(h0, .inr (10, [.ref q1, .ref q4, .ref q6, .ref q9, .null, .null, .null, .null, .null, .null, .null, .null, .null, .int 0, .int 0, .int 0, .int 0])), (q1, .inr (9, [.ref q3, .int 0, .int 0])), (q3, .inl (cI, 260, .inl (fun _ => 0))), (q4, .inr (2, [.null, .null, .int 0])), (q6, .inr (5, [.ref q8, .int 0, .null])), (q8, .inl (cI, 241, .inl (fun _ => 0))), (q9, .inr (1, [.ref q11, .ref q12, .ref q13, .int 0, .int 0])), (q11, .inl (cI, 3, .inl (fun _ => 0))), (q12, .inl (cI, 24, .inl (fun _ => 0))), (q13, .inl (cI, 20, .inl (fun _ => 0)))] := hD
  refine lv_aload_n hx hb dX10_init_48 rfl (lv_at hl 0 rfl) ?_
  refine va_new (ci := 1) (fs := [.null, .null, .null, .int 0, .int 0]) (C := RX1) (T := TX1) (N := 5) hx hb hts iX1 tyX1 tyX1_ok hown (hts _ qw180) (hts _ qw181) (hts _ qw102) hK hP hD hS hA rfl fsX1 (Nat.le_of_ble_eq_true rfl) (Nat.le_of_ble_eq_true rfl) dX10_init_49 (fun q14 H hP hD hS => ?_)
  have hP : va_P (dC, dI) vwCl [(h0, .inr (10, [.ref q1, .ref q4, .ref q6, .ref q9, .null, .null, .null, .null, .null, .null, .null, .null, .null, .int 0, .int 0, .int 0, .int 0])), (q1, .inr (9, [.ref q3, .int 0, .int 0])), (q3, .inl (cI, 260, .inl (fun _ => 0))), (q4, .inr (2, [.null, .null, .int 0])), (q6, .inr (5, [.ref q8, .int 0, .null])), (q8, .inl (cI, 241, .inl (fun _ => 0))), (q9, .inr (1, [.ref q11, .ref q12, .ref q13, .int 0, .int 0])), (q11, .inl (cI, 3, .inl (fun _ => 0))), (q12, .inl (cI, 24, .inl (fun _ => 0))), (q13, .inl (cI, 20, .inl (fun _ => 0))), (q14, .inr (1, [.null, .null, .null, .int 0, .int 0]))] H := hP
  have hD : va_D A [(h0, .inr (10, [.ref q1, .ref q4, .ref q6, .ref q9, .null, .null, .null, .null, .null, .null, .null, .null, .null, .int 0, .int 0, .int 0, .int 0])), (q1, .inr (9, [.ref q3, .int 0, .int 0])), (q3, .inl (cI, 260, .inl (fun _ => 0))), (q4, .inr (2, [.null, .null, .int 0])), (q6, .inr (5, [.ref q8, .int 0, .null])), (q8, .inl (cI, 241, .inl (fun _ => 0))), (q9, .inr (1, [.ref q11, .ref q12, .ref q13, .int 0, .int 0])), (q11, .inl (cI, 3, .inl (fun _ => 0))), (q12, .inl (cI, 24, .inl (fun _ => 0))), (q13, .inl (cI, 20, .inl (fun _ => 0))), (q14, .inr (1, [.null, .null, .null, .int 0, .int 0]))] := hD
  refine W.widen (k := 10) (n := 567) (Nat.le_of_ble_eq_true rfl) (Nat.le_of_ble_eq_true rfl) ?_
  refine lv_dup hx hb dX10_init_52 rfl ?_
  have hPc := hP.sub (ws' := [(q14, .inr (1, [.null, .null, .null, .int 0, .int 0]))]) [10] rfl
  have hDc := hD.sub (ws' := [(q14, .inr (1, [.null, .null, .null, .int 0, .int 0]))]) [10] (by decide) rfl
  have hFc := va_free (wc := [(q14, .inr (1, [.null, .null, .null, .int 0, .int 0]))]) hD hS hA [10] rfl
  refine va_callv (va_runIN (As := []) (rest := [.ref q14, .ref h0]) ⟨hx, hb, hml, hown, hts⟩ (c_X1_init l dC dI cI cJ q14 H.size) ⟨va_cnB 0 hts (zgI qw184) rfl rfl rfl (hN_32) (hts _ qw102) (hd_X1_init).2 ⟨Nat.le_of_ble_eq_true rfl, Nat.le_of_ble_eq_true rfl⟩, rfl, hts _ qw183⟩ (zPS hPc hK hDc) rfl rfl hl.1 rfl (lv_room (Nat.le_of_ble_eq_true rfl)) dX10_init_53 ⟨Nat.le_of_ble_eq_true rfl, Nat.le_of_ble_eq_true rfl⟩) hS (fun q _ h => hFc q h) hFc (fun u t H locs ht hvm hw hB hz1 hk1 hS => ?_)
  refine W.widen (k := 13) (n := 614) (Nat.le_of_ble_eq_true rfl) (Nat.le_of_ble_eq_true rfl) ?_
  obtain ⟨q16, q17, q18, hB⟩ := hB
  obtain ⟨hP1, hD1⟩ := hB
  rw [ht] at hP1
  obtain ⟨hP, hD⟩ := va_join (wr := [(h0, .inr (10, [.ref q1, .ref q4, .ref q6, .ref q9, .null, .null, .null, .null, .null, .null, .null, .null, .null, .int 0, .int 0, .int 0, .int 0])), (q1, .inr (9, [.ref q3, .int 0, .int 0])), (q3, .inl (cI, 260, .inl (fun _ => 0))), (q4, .inr (2, [.null, .null, .int 0])), (q6, .inr (5, [.ref q8, .int 0, .null])), (q8, .inl (cI, 241, .inl (fun _ => 0))), (q9, .inr (1, [.ref q11, .ref q12, .ref q13, .int 0, .int 0])), (q11, .inl (cI, 3, .inl (fun _ => 0))), (q12, .inl (cI, 24, .inl (fun _ => 0))), (q13, .inl (cI, 20, .inl (fun _ => 0)))]) (w1 := [(q14, .inr (1, [.ref q16, .ref q17, .ref q18, .int 0, .int 0])), (q16, .inl (cI, 3, .inl (fun _ => 0))), (q17, .inl (cI, 24, .inl (fun _ => 0))), (q18, .inl (cI, 20, .inl (fun _ => 0)))]) hP hD [10] [0, 1, 2, 3, 4, 5, 6, 7, 8, 9] rfl rfl (by decide) (by decide) hk1 hFc hP1 hD1
  have hP : va_P (dC, dI) vwCl [(h0, .inr (10, [.ref q1, .ref q4, .ref q6, .ref q9, .null, .null, .null, .null, .null, .null, .null, .null, .null, .int 0, .int 0, .int 0, .int 0])), (q1, .inr (9, [.ref q3, .int 0, .int 0])), (q3, .inl (cI, 260, .inl (fun _ => 0))), (q4, .inr (2, [.null, .null, .int 0])), (q6, .inr (5, [.ref q8, .int 0, .null])), (q8, .inl (cI, 241, .inl (fun _ => 0))), (q9, .inr (1, [.ref q11, .ref q12, .ref q13, .int 0, .int 0])), (q11, .inl (cI, 3, .inl (fun _ => 0))), (q12, .inl (cI, 24, .inl (fun _ => 0))), (q13, .inl (cI, 20, .inl (fun _ => 0))), (q14, .inr (1, [.ref q16, .ref q17, .ref q18, .int 0, .int 0])), (q16, .inl (cI, 3, .inl (fun _ => 0))), (q17, .inl (cI, 24, .inl (fun _ => 0))), (q18, .inl (cI, 20, .inl (fun _ => 0)))] H := hP
  have hD : va_D A [(h0, .inr (10, [.ref q1, .ref q4, .ref q6, .ref q9, .null, .null, .null, .null, .null, .null, .null, .null, .null, .int 0, .int 0, .int 0, .int 0])), (q1, .inr (9, [.ref q3, .int 0, .int 0])), (q3, .inl (cI, 260, .inl (fun _ => 0))), (q4, .inr (2, [.null, .null, .int 0])), (q6, .inr (5, [.ref q8, .int 0, .null])), (q8, .inl (cI, 241, .inl (fun _ => 0))), (q9, .inr (1, [.ref q11, .ref q12, .ref q13, .int 0, .int 0])), (q11, .inl (cI, 3, .inl (fun _ => 0))), (q12, .inl (cI, 24, .inl (fun _ => 0))), (q13, .inl (cI, 20, .inl (fun _ => 0))), (q14, .inr (1, [.ref q16, .ref q17, .ref q18, .int 0, .int 0])), (q16, .inl (cI, 3, .inl (fun _ => 0))), (q17, .inl (cI, 24, .inl (fun _ => 0))), (q18, .inl (cI, 20, .inl (fun _ => 0)))] := hD
  refine va_putF (D := (dC, dI)) (ci := 10) (v := .ref q14) (ty := .object "NinePortraits$Court") (C := RX10) (T := TX10) (N := 17) hx hb hts iX10 tyX10 tyX10_ok nmX10 hown hK hP hD hS 0 rfl rfl 4 (by decide) (hts _ qw360) (fun _ h9 => h9) rfl hin rfl (by decide +kernel) rfl rfl (Nat.le_of_ble_eq_true rfl) dX10_init_56 (fun H locs hP hD hS => ?_)
  have hP : va_P (dC, dI) vwCl [(h0, .inr (10, [.ref q1, .ref q4, .ref q6, .ref q9, .ref q14, .null, .null, .null, .null, .null, .null, .null, .null, .int 0, .int 0, .int 0, .int 0])), (q1, .inr (9, [.ref q3, .int 0, .int 0])), (q3, .inl (cI, 260, .inl (fun _ => 0))), (q4, .inr (2, [.null, .null, .int 0])), (q6, .inr (5, [.ref q8, .int 0, .null])), (q8, .inl (cI, 241, .inl (fun _ => 0))), (q9, .inr (1, [.ref q11, .ref q12, .ref q13, .int 0, .int 0])), (q11, .inl (cI, 3, .inl (fun _ => 0))), (q12, .inl (cI, 24, .inl (fun _ => 0))), (q13, .inl (cI, 20, .inl (fun _ => 0))), (q14, .inr (1, [.ref q16, .ref q17, .ref q18, .int 0, .int 0])), (q16, .inl (cI, 3, .inl (fun _ => 0))), (q17, .inl (cI, 24, .inl (fun _ => 0))), (q18, .inl (cI, 20, .inl (fun _ => 0)))] H := hP
  have hD : va_D A [(h0, .inr (10, [.ref q1, .ref q4, .ref q6, .ref q9, .ref q14, .null, .null, .null, .null, .null, .null, .null, .null, .int 0, .int 0, .int 0, .int 0])), (q1, .inr (9, [.ref q3, .int 0, .int 0])), (q3, .inl (cI, 260, .inl (fun _ => 0))), (q4, .inr (2, [.null, .null, .int 0])), (q6, .inr (5, [.ref q8, .int 0, .null])), (q8, .inl (cI, 241, .inl (fun _ => 0))), (q9, .inr (1, [.ref q11, .ref q12, .ref q13, .int 0, .int 0])), (q11, .inl (cI, 3, .inl (fun _ => 0))), (q12, .inl (cI, 24, .inl (fun _ => 0))), (q13, .inl (cI, 20, .inl (fun _ => 0))), (q14, .inr (1, [.ref q16, .ref q17, .ref q18, .int 0, .int 0])), (q16, .inl (cI, 3, .inl (fun _ => 0))), (q17, .inl (cI, 24, .inl (fun _ => 0))), (q18, .inl (cI, 20, .inl (fun _ => 0)))] := hD
  refine lv_aload_n hx hb dX10_init_59 rfl (lv_at hl 0 rfl) ?_
  refine lv_iconst (v := 4) hx hb dX10_init_60 (by decide) ?_
  refine va_newq (N' := 4) hx hb hown (hts _ qw212) hAO hK3 hP hD hS hA (by decide) (by decide) (by decide) (Nat.le_of_ble_eq_true rfl) (Nat.le_of_ble_eq_true rfl) dX10_init_61 (fun q19 cA H hK2 hP hD hS => ?_)
  obtain rfl : cQ = cA := (zcA hK2 2 3 rfl rfl).symm
  have hP : va_P (dC, dI) vwCl [(h0, .inr (10, [.ref q1, .ref q4, .ref q6, .ref q9, .ref q14, .null, .null, .null, .null, .null, .null, .null, .null, .int 0, .int 0, .int 0, .int 0])), (q1, .inr (9, [.ref q3, .int 0, .int 0])), (q3, .inl (cI, 260, .inl (fun _ => 0))), (q4, .inr (2, [.null, .null, .int 0])), (q6, .inr (5, [.ref q8, .int 0, .null])), (q8, .inl (cI, 241, .inl (fun _ => 0))), (q9, .inr (1, [.ref q11, .ref q12, .ref q13, .int 0, .int 0])), (q11, .inl (cI, 3, .inl (fun _ => 0))), (q12, .inl (cI, 24, .inl (fun _ => 0))), (q13, .inl (cI, 20, .inl (fun _ => 0))), (q14, .inr (1, [.ref q16, .ref q17, .ref q18, .int 0, .int 0])), (q16, .inl (cI, 3, .inl (fun _ => 0))), (q17, .inl (cI, 24, .inl (fun _ => 0))), (q18, .inl (cI, 20, .inl (fun _ => 0))), (q19, .inl (cQ, 4, .inr (.inr (.inr (.inr (fun _ => none))))))] H := hP
  have hD : va_D A [(h0, .inr (10, [.ref q1, .ref q4, .ref q6, .ref q9, .ref q14, .null, .null, .null, .null, .null, .null, .null, .null, .int 0, .int 0, .int 0, .int 0])), (q1, .inr (9, [.ref q3, .int 0, .int 0])), (q3, .inl (cI, 260, .inl (fun _ => 0))), (q4, .inr (2, [.null, .null, .int 0])), (q6, .inr (5, [.ref q8, .int 0, .null])), (q8, .inl (cI, 241, .inl (fun _ => 0))), (q9, .inr (1, [.ref q11, .ref q12, .ref q13, .int 0, .int 0])), (q11, .inl (cI, 3, .inl (fun _ => 0))), (q12, .inl (cI, 24, .inl (fun _ => 0))), (q13, .inl (cI, 20, .inl (fun _ => 0))), (q14, .inr (1, [.ref q16, .ref q17, .ref q18, .int 0, .int 0])), (q16, .inl (cI, 3, .inl (fun _ => 0))), (q17, .inl (cI, 24, .inl (fun _ => 0))), (q18, .inl (cI, 20, .inl (fun _ => 0))), (q19, .inl (cQ, 4, .inr (.inr (.inr (.inr (fun _ => none))))))] := hD
  refine W.widen (k := 14) (n := 618) (Nat.le_of_ble_eq_true rfl) (Nat.le_of_ble_eq_true rfl) ?_
  refine va_putF (D := (dC, dI)) (ci := 10) (v := .ref q19) (ty := .array (.object "NinePortraits$Law")) (C := RX10) (T := TX10) (N := 17) hx hb hts iX10 tyX10 tyX10_ok nmX10 hown hK hP hD hS 0 rfl rfl 5 (by decide) (hts _ qw361) (fun _ h9 => h9) rfl hin rfl (by decide +kernel) rfl rfl (Nat.le_of_ble_eq_true rfl) dX10_init_64 (fun H locs hP hD hS => ?_)
  have hP : va_P (dC, dI) vwCl [(h0, .inr (10, [.ref q1, .ref q4, .ref q6, .ref q9, .ref q14, .ref q19, .null, .null, .null, .null, .null, .null, .null, .int 0, .int 0, .int 0, .int 0])), (q1, .inr (9, [.ref q3, .int 0, .int 0])), (q3, .inl (cI, 260, .inl (fun _ => 0))), (q4, .inr (2, [.null, .null, .int 0])), (q6, .inr (5, [.ref q8, .int 0, .null])), (q8, .inl (cI, 241, .inl (fun _ => 0))), (q9, .inr (1, [.ref q11, .ref q12, .ref q13, .int 0, .int 0])), (q11, .inl (cI, 3, .inl (fun _ => 0))), (q12, .inl (cI, 24, .inl (fun _ => 0))), (q13, .inl (cI, 20, .inl (fun _ => 0))), (q14, .inr (1, [.ref q16, .ref q17, .ref q18, .int 0, .int 0])), (q16, .inl (cI, 3, .inl (fun _ => 0))), (q17, .inl (cI, 24, .inl (fun _ => 0))), (q18, .inl (cI, 20, .inl (fun _ => 0))), (q19, .inl (cQ, 4, .inr (.inr (.inr (.inr (fun _ => none))))))] H := hP
  have hD : va_D A [(h0, .inr (10, [.ref q1, .ref q4, .ref q6, .ref q9, .ref q14, .ref q19, .null, .null, .null, .null, .null, .null, .null, .int 0, .int 0, .int 0, .int 0])), (q1, .inr (9, [.ref q3, .int 0, .int 0])), (q3, .inl (cI, 260, .inl (fun _ => 0))), (q4, .inr (2, [.null, .null, .int 0])), (q6, .inr (5, [.ref q8, .int 0, .null])), (q8, .inl (cI, 241, .inl (fun _ => 0))), (q9, .inr (1, [.ref q11, .ref q12, .ref q13, .int 0, .int 0])), (q11, .inl (cI, 3, .inl (fun _ => 0))), (q12, .inl (cI, 24, .inl (fun _ => 0))), (q13, .inl (cI, 20, .inl (fun _ => 0))), (q14, .inr (1, [.ref q16, .ref q17, .ref q18, .int 0, .int 0])), (q16, .inl (cI, 3, .inl (fun _ => 0))), (q17, .inl (cI, 24, .inl (fun _ => 0))), (q18, .inl (cI, 20, .inl (fun _ => 0))), (q19, .inl (cQ, 4, .inr (.inr (.inr (.inr (fun _ => none))))))] := hD
  refine lv_aload_n hx hb dX10_init_67 rfl (lv_at hl 0 rfl) ?_
  refine va_new (ci := 7) (fs := [.null, .null, .null, .int 0, .int 0, .int 0, .int 0, .int 0, .int 0]) (C := RX7) (T := TX7) (N := 9) hx hb hts iX7 tyX7 tyX7_ok hown (hts _ qw214) (hts _ qw215) (hts _ qw103) hK hP hD hS hA rfl fsX7 (Nat.le_of_ble_eq_true rfl) (Nat.le_of_ble_eq_true rfl) dX10_init_68 (fun q20 H hP hD hS => ?_)
  have hP : va_P (dC, dI) vwCl [(h0, .inr (10, [.ref q1, .ref q4, .ref q6, .ref q9, .ref q14, .ref q19, .null, .null, .null, .null, .null, .null, .null, .int 0, .int 0, .int 0, .int 0])), (q1, .inr (9, [.ref q3, .int 0, .int 0])), (q3, .inl (cI, 260, .inl (fun _ => 0))), (q4, .inr (2, [.null, .null, .int 0])), (q6, .inr (5, [.ref q8, .int 0, .null])), (q8, .inl (cI, 241, .inl (fun _ => 0))), (q9, .inr (1, [.ref q11, .ref q12, .ref q13, .int 0, .int 0])), (q11, .inl (cI, 3, .inl (fun _ => 0))), (q12, .inl (cI, 24, .inl (fun _ => 0))), (q13, .inl (cI, 20, .inl (fun _ => 0))), (q14, .inr (1, [.ref q16, .ref q17, .ref q18, .int 0, .int 0])), (q16, .inl (cI, 3, .inl (fun _ => 0))), (q17, .inl (cI, 24, .inl (fun _ => 0))), (q18, .inl (cI, 20, .inl (fun _ => 0))), (q19, .inl (cQ, 4, .inr (.inr (.inr (.inr (fun _ => none)))))), (q20, .inr (7, [.null, .null, .null, .int 0, .int 0, .int 0, .int 0, .int 0, .int 0]))] H := hP
  have hD : va_D A [(h0, .inr (10, [.ref q1, .ref q4, .ref q6, .ref q9, .ref q14, .ref q19, .null, .null, .null, .null, .null, .null, .null, .int 0, .int 0, .int 0, .int 0])), (q1, .inr (9, [.ref q3, .int 0, .int 0])), (q3, .inl (cI, 260, .inl (fun _ => 0))), (q4, .inr (2, [.null, .null, .int 0])), (q6, .inr (5, [.ref q8, .int 0, .null])), (q8, .inl (cI, 241, .inl (fun _ => 0))), (q9, .inr (1, [.ref q11, .ref q12, .ref q13, .int 0, .int 0])), (q11, .inl (cI, 3, .inl (fun _ => 0))), (q12, .inl (cI, 24, .inl (fun _ => 0))), (q13, .inl (cI, 20, .inl (fun _ => 0))), (q14, .inr (1, [.ref q16, .ref q17, .ref q18, .int 0, .int 0])), (q16, .inl (cI, 3, .inl (fun _ => 0))), (q17, .inl (cI, 24, .inl (fun _ => 0))), (q18, .inl (cI, 20, .inl (fun _ => 0))), (q19, .inl (cQ, 4, .inr (.inr (.inr (.inr (fun _ => none)))))), (q20, .inr (7, [.null, .null, .null, .int 0, .int 0, .int 0, .int 0, .int 0, .int 0]))] := hD
  refine W.widen (k := 15) (n := 627) (Nat.le_of_ble_eq_true rfl) (Nat.le_of_ble_eq_true rfl) ?_
  refine lv_dup hx hb dX10_init_71 rfl ?_
  have hPc := hP.sub (ws' := [(q20, .inr (7, [.null, .null, .null, .int 0, .int 0, .int 0, .int 0, .int 0, .int 0]))]) [15] rfl
  have hDc := hD.sub (ws' := [(q20, .inr (7, [.null, .null, .null, .int 0, .int 0, .int 0, .int 0, .int 0, .int 0]))]) [15] (by decide) rfl
  have hFc := va_free (wc := [(q20, .inr (7, [.null, .null, .null, .int 0, .int 0, .int 0, .int 0, .int 0, .int 0]))]) hD hS hA [15] rfl
  refine va_callv (va_runIN (As := []) (rest := [.ref q20, .ref h0]) ⟨hx, hb, hml, hown, hts⟩ (c_X7_init l dC dI cI cJ q20 H.size) ⟨va_cnB 0 hts (zgI qw218) rfl rfl rfl (hN_48) (hts _ qw103) (hd_X7_init).2 ⟨Nat.le_of_ble_eq_true rfl, Nat.le_of_ble_eq_true rfl⟩, rfl, hts _ qw217⟩ (zPS hPc hK hDc) rfl rfl hl.1 rfl (lv_room (Nat.le_of_ble_eq_true rfl)) dX10_init_72 ⟨Nat.le_of_ble_eq_true rfl, Nat.le_of_ble_eq_true rfl⟩) hS (fun q _ h => hFc q h) hFc (fun u t H locs ht hvm hw hB hz1 hk1 hS => ?_)
  refine W.widen (k := 18) (n := 718) (Nat.le_of_ble_eq_true rfl) (Nat.le_of_ble_eq_true rfl) ?_
  obtain ⟨q22, q23, q24, hB⟩ := hB
  obtain ⟨hP1, hD1⟩ := hB
  rw [ht] at hP1
  obtain ⟨hP, hD⟩ := va_join (wr := [(h0, .inr (10, [.ref q1, .ref q4, .ref q6, .ref q9, .ref q14, .ref q19, .null, .null, .null, .null, .null, .null, .null, .int 0, .int 0, .int 0, .int 0])), (q1, .inr (9, [.ref q3, .int 0, .int 0])), (q3, .inl (cI, 260, .inl (fun _ => 0))), (q4, .inr (2, [.null, .null, .int 0])), (q6, .inr (5, [.ref q8, .int 0, .null])), (q8, .inl (cI, 241, .inl (fun _ => 0))), (q9, .inr (1, [.ref q11, .ref q12, .ref q13, .int 0, .int 0])), (q11, .inl (cI, 3, .inl (fun _ => 0))), (q12, .inl (cI, 24, .inl (fun _ => 0))), (q13, .inl (cI, 20, .inl (fun _ => 0))), (q14, .inr (1, [.ref q16, .ref q17, .ref q18, .int 0, .int 0])), (q16, .inl (cI, 3, .inl (fun _ => 0))), (q17, .inl (cI, 24, .inl (fun _ => 0))), (q18, .inl (cI, 20, .inl (fun _ => 0))), (q19, .inl (cQ, 4, .inr (.inr (.inr (.inr (fun _ => none))))))]) (w1 := [(q20, .inr (7, [.ref q22, .ref q23, .ref q24, .int 0, .int 0, .int 0, .int (-1), .int 0, .int 0])), (q22, .inl (cI, 6, .inl (fun _ => 0))), (q23, .inl (cI, 5, .inl (fun _ => 0))), (q24, .inl (cI, 80, .inl (fun _ => 0)))]) hP hD [15] [0, 1, 2, 3, 4, 5, 6, 7, 8, 9, 10, 11, 12, 13, 14] rfl rfl (by decide) (by decide) hk1 hFc hP1 hD1
  have hP : va_P (dC, dI) vwCl [(h0, .inr (10, [.ref q1, .ref q4, .ref q6, .ref q9, .ref q14, .ref q19, .null, .null, .null, .null, .null, .null, .null, .int 0, .int 0, .int 0, .int 0])), (q1, .inr (9, [.ref q3, .int 0, .int 0])), (q3, .inl (cI, 260, .inl (fun _ => 0))), (q4, .inr (2, [.null, .null, .int 0])), (q6, .inr (5, [.ref q8, .int 0, .null])), (q8, .inl (cI, 241, .inl (fun _ => 0))), (q9, .inr (1, [.ref q11, .ref q12, .ref q13, .int 0, .int 0])), (q11, .inl (cI, 3, .inl (fun _ => 0))), (q12, .inl (cI, 24, .inl (fun _ => 0))), (q13, .inl (cI, 20, .inl (fun _ => 0))), (q14, .inr (1, [.ref q16, .ref q17, .ref q18, .int 0, .int 0])), (q16, .inl (cI, 3, .inl (fun _ => 0))), (q17, .inl (cI, 24, .inl (fun _ => 0))), (q18, .inl (cI, 20, .inl (fun _ => 0))), (q19, .inl (cQ, 4, .inr (.inr (.inr (.inr (fun _ => none)))))), (q20, .inr (7, [.ref q22, .ref q23, .ref q24, .int 0, .int 0, .int 0, .int (-1), .int 0, .int 0])), (q22, .inl (cI, 6, .inl (fun _ => 0))), (q23, .inl (cI, 5, .inl (fun _ => 0))), (q24, .inl (cI, 80, .inl (fun _ => 0)))] H := hP
  have hD : va_D A [(h0, .inr (10, [.ref q1, .ref q4, .ref q6, .ref q9, .ref q14, .ref q19, .null, .null, .null, .null, .null, .null, .null, .int 0, .int 0, .int 0, .int 0])), (q1, .inr (9, [.ref q3, .int 0, .int 0])), (q3, .inl (cI, 260, .inl (fun _ => 0))), (q4, .inr (2, [.null, .null, .int 0])), (q6, .inr (5, [.ref q8, .int 0, .null])), (q8, .inl (cI, 241, .inl (fun _ => 0))), (q9, .inr (1, [.ref q11, .ref q12, .ref q13, .int 0, .int 0])), (q11, .inl (cI, 3, .inl (fun _ => 0))), (q12, .inl (cI, 24, .inl (fun _ => 0))), (q13, .inl (cI, 20, .inl (fun _ => 0))), (q14, .inr (1, [.ref q16, .ref q17, .ref q18, .int 0, .int 0])), (q16, .inl (cI, 3, .inl (fun _ => 0))), (q17, .inl (cI, 24, .inl (fun _ => 0))), (q18, .inl (cI, 20, .inl (fun _ => 0))), (q19, .inl (cQ, 4, .inr (.inr (.inr (.inr (fun _ => none)))))), (q20, .inr (7, [.ref q22, .ref q23, .ref q24, .int 0, .int 0, .int 0, .int (-1), .int 0, .int 0])), (q22, .inl (cI, 6, .inl (fun _ => 0))), (q23, .inl (cI, 5, .inl (fun _ => 0))), (q24, .inl (cI, 80, .inl (fun _ => 0)))] := hD
  refine va_putF (D := (dC, dI)) (ci := 10) (v := .ref q20) (ty := .object "NinePortraits$State") (C := RX10) (T := TX10) (N := 17) hx hb hts iX10 tyX10 tyX10_ok nmX10 hown hK hP hD hS 0 rfl rfl 6 (by decide) (hts _ qw362) (fun _ h9 => h9) rfl hin rfl (by decide +kernel) rfl rfl (Nat.le_of_ble_eq_true rfl) dX10_init_75 (fun H locs hP hD hS => ?_)
  have hP : va_P (dC, dI) vwCl [(h0, .inr (10, [.ref q1, .ref q4, .ref q6, .ref q9, .ref q14, .ref q19, .ref q20, .null, .null, .null, .null, .null, .null, .int 0, .int 0, .int 0, .int 0])), (q1, .inr (9, [.ref q3, .int 0, .int 0])), (q3, .inl (cI, 260, .inl (fun _ => 0))), (q4, .inr (2, [.null, .null, .int 0])), (q6, .inr (5, [.ref q8, .int 0, .null])), (q8, .inl (cI, 241, .inl (fun _ => 0))), (q9, .inr (1, [.ref q11, .ref q12, .ref q13, .int 0, .int 0])), (q11, .inl (cI, 3, .inl (fun _ => 0))), (q12, .inl (cI, 24, .inl (fun _ => 0))), (q13, .inl (cI, 20, .inl (fun _ => 0))), (q14, .inr (1, [.ref q16, .ref q17, .ref q18, .int 0, .int 0])), (q16, .inl (cI, 3, .inl (fun _ => 0))), (q17, .inl (cI, 24, .inl (fun _ => 0))), (q18, .inl (cI, 20, .inl (fun _ => 0))), (q19, .inl (cQ, 4, .inr (.inr (.inr (.inr (fun _ => none)))))), (q20, .inr (7, [.ref q22, .ref q23, .ref q24, .int 0, .int 0, .int 0, .int (-1), .int 0, .int 0])), (q22, .inl (cI, 6, .inl (fun _ => 0))), (q23, .inl (cI, 5, .inl (fun _ => 0))), (q24, .inl (cI, 80, .inl (fun _ => 0)))] H := hP
  have hD : va_D A [(h0, .inr (10, [.ref q1, .ref q4, .ref q6, .ref q9, .ref q14, .ref q19, .ref q20, .null, .null, .null, .null, .null, .null, .int 0, .int 0, .int 0, .int 0])), (q1, .inr (9, [.ref q3, .int 0, .int 0])), (q3, .inl (cI, 260, .inl (fun _ => 0))), (q4, .inr (2, [.null, .null, .int 0])), (q6, .inr (5, [.ref q8, .int 0, .null])), (q8, .inl (cI, 241, .inl (fun _ => 0))), (q9, .inr (1, [.ref q11, .ref q12, .ref q13, .int 0, .int 0])), (q11, .inl (cI, 3, .inl (fun _ => 0))), (q12, .inl (cI, 24, .inl (fun _ => 0))), (q13, .inl (cI, 20, .inl (fun _ => 0))), (q14, .inr (1, [.ref q16, .ref q17, .ref q18, .int 0, .int 0])), (q16, .inl (cI, 3, .inl (fun _ => 0))), (q17, .inl (cI, 24, .inl (fun _ => 0))), (q18, .inl (cI, 20, .inl (fun _ => 0))), (q19, .inl (cQ, 4, .inr (.inr (.inr (.inr (fun _ => none)))))), (q20, .inr (7, [.ref q22, .ref q23, .ref q24, .int 0, .int 0, .int 0, .int (-1), .int 0, .int 0])), (q22, .inl (cI, 6, .inl (fun _ => 0))), (q23, .inl (cI, 5, .inl (fun _ => 0))), (q24, .inl (cI, 80, .inl (fun _ => 0)))] := hD
  refine lv_aload_n hx hb dX10_init_78 rfl (lv_at hl 0 rfl) ?_
  refine va_new (ci := 7) (fs := [.null, .null, .null, .int 0, .int 0, .int 0, .int 0, .int 0, .int 0]) (C := RX7) (T := TX7) (N := 9) hx hb hts iX7 tyX7 tyX7_ok hown (hts _ qw214) (hts _ qw215) (hts _ qw103) hK hP hD hS hA rfl fsX7 (Nat.le_of_ble_eq_true rfl) (Nat.le_of_ble_eq_true rfl) dX10_init_79 (fun q25 H hP hD hS => ?_)
  have hP : va_P (dC, dI) vwCl [(h0, .inr (10, [.ref q1, .ref q4, .ref q6, .ref q9, .ref q14, .ref q19, .ref q20, .null, .null, .null, .null, .null, .null, .int 0, .int 0, .int 0, .int 0])), (q1, .inr (9, [.ref q3, .int 0, .int 0])), (q3, .inl (cI, 260, .inl (fun _ => 0))), (q4, .inr (2, [.null, .null, .int 0])), (q6, .inr (5, [.ref q8, .int 0, .null])), (q8, .inl (cI, 241, .inl (fun _ => 0))), (q9, .inr (1, [.ref q11, .ref q12, .ref q13, .int 0, .int 0])), (q11, .inl (cI, 3, .inl (fun _ => 0))), (q12, .inl (cI, 24, .inl (fun _ => 0))), (q13, .inl (cI, 20, .inl (fun _ => 0))), (q14, .inr (1, [.ref q16, .ref q17, .ref q18, .int 0, .int 0])), (q16, .inl (cI, 3, .inl (fun _ => 0))), (q17, .inl (cI, 24, .inl (fun _ => 0))), (q18, .inl (cI, 20, .inl (fun _ => 0))), (q19, .inl (cQ, 4, .inr (.inr (.inr (.inr (fun _ => none)))))), (q20, .inr (7, [.ref q22, .ref q23, .ref q24, .int 0, .int 0, .int 0, .int (-1), .int 0, .int 0])), (q22, .inl (cI, 6, .inl (fun _ => 0))), (q23, .inl (cI, 5, .inl (fun _ => 0))), (q24, .inl (cI, 80, .inl (fun _ => 0))), (q25, .inr (7, [.null, .null, .null, .int 0, .int 0, .int 0, .int 0, .int 0, .int 0]))] H := hP
  have hD : va_D A [(h0, .inr (10, [.ref q1, .ref q4, .ref q6, .ref q9, .ref q14, .ref q19, .ref q20, .null, .null, .null, .null, .null, .null, .int 0, .int 0, .int 0, .int 0])), (q1, .inr (9, [.ref q3, .int 0, .int 0])), (q3, .inl (cI, 260, .inl (fun _ => 0))), (q4, .inr (2, [.null, .null, .int 0])), (q6, .inr (5, [.ref q8, .int 0, .null])), (q8, .inl (cI, 241, .inl (fun _ => 0))), (q9, .inr (1, [.ref q11, .ref q12, .ref q13, .int 0, .int 0])), (q11, .inl (cI, 3, .inl (fun _ => 0))), (q12, .inl (cI, 24, .inl (fun _ => 0))), (q13, .inl (cI, 20, .inl (fun _ => 0))), (q14, .inr (1, [.ref q16, .ref q17, .ref q18, .int 0, .int 0])), (q16, .inl (cI, 3, .inl (fun _ => 0))), (q17, .inl (cI, 24, .inl (fun _ => 0))), (q18, .inl (cI, 20, .inl (fun _ => 0))), (q19, .inl (cQ, 4, .inr (.inr (.inr (.inr (fun _ => none)))))), (q20, .inr (7, [.ref q22, .ref q23, .ref q24, .int 0, .int 0, .int 0, .int (-1), .int 0, .int 0])), (q22, .inl (cI, 6, .inl (fun _ => 0))), (q23, .inl (cI, 5, .inl (fun _ => 0))), (q24, .inl (cI, 80, .inl (fun _ => 0))), (q25, .inr (7, [.null, .null, .null, .int 0, .int 0, .int 0, .int 0, .int 0, .int 0]))] := hD
  refine W.widen (k := 19) (n := 727) (Nat.le_of_ble_eq_true rfl) (Nat.le_of_ble_eq_true rfl) ?_
  refine lv_dup hx hb dX10_init_82 rfl ?_
  have hPc := hP.sub (ws' := [(q25, .inr (7, [.null, .null, .null, .int 0, .int 0, .int 0, .int 0, .int 0, .int 0]))]) [19] rfl
  have hDc := hD.sub (ws' := [(q25, .inr (7, [.null, .null, .null, .int 0, .int 0, .int 0, .int 0, .int 0, .int 0]))]) [19] (by decide) rfl
  have hFc := va_free (wc := [(q25, .inr (7, [.null, .null, .null, .int 0, .int 0, .int 0, .int 0, .int 0, .int 0]))]) hD hS hA [19] rfl
  refine va_callv (va_runIN (As := []) (rest := [.ref q25, .ref h0]) ⟨hx, hb, hml, hown, hts⟩ (c_X7_init l dC dI cI cJ q25 H.size) ⟨va_cnB 0 hts (zgI qw218) rfl rfl rfl (hN_48) (hts _ qw103) (hd_X7_init).2 ⟨Nat.le_of_ble_eq_true rfl, Nat.le_of_ble_eq_true rfl⟩, rfl, hts _ qw217⟩ (zPS hPc hK hDc) rfl rfl hl.1 rfl (lv_room (Nat.le_of_ble_eq_true rfl)) dX10_init_83 ⟨Nat.le_of_ble_eq_true rfl, Nat.le_of_ble_eq_true rfl⟩) hS (fun q _ h => hFc q h) hFc (fun u t H locs ht hvm hw hB hz1 hk1 hS => ?_)
  refine W.widen (k := 22) (n := 818) (Nat.le_of_ble_eq_true rfl) (Nat.le_of_ble_eq_true rfl) ?_
  obtain ⟨q27, q28, q29, hB⟩ := hB
  obtain ⟨hP1, hD1⟩ := hB
  rw [ht] at hP1
  obtain ⟨hP, hD⟩ := va_join (wr := [(h0, .inr (10, [.ref q1, .ref q4, .ref q6, .ref q9, .ref q14, .ref q19, .ref q20, .null, .null, .null, .null, .null, .null, .int 0, .int 0, .int 0, .int 0])), (q1, .inr (9, [.ref q3, .int 0, .int 0])), (q3, .inl (cI, 260, .inl (fun _ => 0))), (q4, .inr (2, [.null, .null, .int 0])), (q6, .inr (5, [.ref q8, .int 0, .null])), (q8, .inl (cI, 241, .inl (fun _ => 0))), (q9, .inr (1, [.ref q11, .ref q12, .ref q13, .int 0, .int 0])), (q11, .inl (cI, 3, .inl (fun _ => 0))), (q12, .inl (cI, 24, .inl (fun _ => 0))), (q13, .inl (cI, 20, .inl (fun _ => 0))), (q14, .inr (1, [.ref q16, .ref q17, .ref q18, .int 0, .int 0])), (q16, .inl (cI, 3, .inl (fun _ => 0))), (q17, .inl (cI, 24, .inl (fun _ => 0))), (q18, .inl (cI, 20, .inl (fun _ => 0))), (q19, .inl (cQ, 4, .inr (.inr (.inr (.inr (fun _ => none)))))), (q20, .inr (7, [.ref q22, .ref q23, .ref q24, .int 0, .int 0, .int 0, .int (-1), .int 0, .int 0])), (q22, .inl (cI, 6, .inl (fun _ => 0))), (q23, .inl (cI, 5, .inl (fun _ => 0))), (q24, .inl (cI, 80, .inl (fun _ => 0)))]) (w1 := [(q25, .inr (7, [.ref q27, .ref q28, .ref q29, .int 0, .int 0, .int 0, .int (-1), .int 0, .int 0])), (q27, .inl (cI, 6, .inl (fun _ => 0))), (q28, .inl (cI, 5, .inl (fun _ => 0))), (q29, .inl (cI, 80, .inl (fun _ => 0)))]) hP hD [19] [0, 1, 2, 3, 4, 5, 6, 7, 8, 9, 10, 11, 12, 13, 14, 15, 16, 17, 18] rfl rfl (by decide) (by decide) hk1 hFc hP1 hD1
  have hP : va_P (dC, dI) vwCl [(h0, .inr (10, [.ref q1, .ref q4, .ref q6, .ref q9, .ref q14, .ref q19, .ref q20, .null, .null, .null, .null, .null, .null, .int 0, .int 0, .int 0, .int 0])), (q1, .inr (9, [.ref q3, .int 0, .int 0])), (q3, .inl (cI, 260, .inl (fun _ => 0))), (q4, .inr (2, [.null, .null, .int 0])), (q6, .inr (5, [.ref q8, .int 0, .null])), (q8, .inl (cI, 241, .inl (fun _ => 0))), (q9, .inr (1, [.ref q11, .ref q12, .ref q13, .int 0, .int 0])), (q11, .inl (cI, 3, .inl (fun _ => 0))), (q12, .inl (cI, 24, .inl (fun _ => 0))), (q13, .inl (cI, 20, .inl (fun _ => 0))), (q14, .inr (1, [.ref q16, .ref q17, .ref q18, .int 0, .int 0])), (q16, .inl (cI, 3, .inl (fun _ => 0))), (q17, .inl (cI, 24, .inl (fun _ => 0))), (q18, .inl (cI, 20, .inl (fun _ => 0))), (q19, .inl (cQ, 4, .inr (.inr (.inr (.inr (fun _ => none)))))), (q20, .inr (7, [.ref q22, .ref q23, .ref q24, .int 0, .int 0, .int 0, .int (-1), .int 0, .int 0])), (q22, .inl (cI, 6, .inl (fun _ => 0))), (q23, .inl (cI, 5, .inl (fun _ => 0))), (q24, .inl (cI, 80, .inl (fun _ => 0))), (q25, .inr (7, [.ref q27, .ref q28, .ref q29, .int 0, .int 0, .int 0, .int (-1), .int 0, .int 0])), (q27, .inl (cI, 6, .inl (fun _ => 0))), (q28, .inl (cI, 5, .inl (fun _ => 0))), (q29, .inl (cI, 80, .inl (fun _ => 0)))] H := hP
  have hD : va_D A [(h0, .inr (10, [.ref q1, .ref q4, .ref q6, .ref q9, .ref q14, .ref q19, .ref q20, .null, .null, .null, .null, .null, .null, .int 0, .int 0, .int 0, .int 0])), (q1, .inr (9, [.ref q3, .int 0, .int 0])), (q3, .inl (cI, 260, .inl (fun _ => 0))), (q4, .inr (2, [.null, .null, .int 0])), (q6, .inr (5, [.ref q8, .int 0, .null])), (q8, .inl (cI, 241, .inl (fun _ => 0))), (q9, .inr (1, [.ref q11, .ref q12, .ref q13, .int 0, .int 0])), (q11, .inl (cI, 3, .inl (fun _ => 0))), (q12, .inl (cI, 24, .inl (fun _ => 0))), (q13, .inl (cI, 20, .inl (fun _ => 0))), (q14, .inr (1, [.ref q16, .ref q17, .ref q18, .int 0, .int 0])), (q16, .inl (cI, 3, .inl (fun _ => 0))), (q17, .inl (cI, 24, .inl (fun _ => 0))), (q18, .inl (cI, 20, .inl (fun _ => 0))), (q19, .inl (cQ, 4, .inr (.inr (.inr (.inr (fun _ => none)))))), (q20, .inr (7, [.ref q22, .ref q23, .ref q24, .int 0, .int 0, .int 0, .int (-1), .int 0, .int 0])), (q22, .inl (cI, 6, .inl (fun _ => 0))), (q23, .inl (cI, 5, .inl (fun _ => 0))), (q24, .inl (cI, 80, .inl (fun _ => 0))), (q25, .inr (7, [.ref q27, .ref q28, .ref q29, .int 0, .int 0, .int 0, .int (-1), .int 0, .int 0])), (q27, .inl (cI, 6, .inl (fun _ => 0))), (q28, .inl (cI, 5, .inl (fun _ => 0))), (q29, .inl (cI, 80, .inl (fun _ => 0)))] := hD
  refine va_putF (D := (dC, dI)) (ci := 10) (v := .ref q25) (ty := .object "NinePortraits$State") (C := RX10) (T := TX10) (N := 17) hx hb hts iX10 tyX10 tyX10_ok nmX10 hown hK hP hD hS 0 rfl rfl 7 (by decide) (hts _ qw363) (fun _ h9 => h9) rfl hin rfl (by decide +kernel) rfl rfl (Nat.le_of_ble_eq_true rfl) dX10_init_86 (fun H locs hP hD hS => ?_)
  have hP : va_P (dC, dI) vwCl [(h0, .inr (10, [.ref q1, .ref q4, .ref q6, .ref q9, .ref q14, .ref q19, .ref q20, .ref q25, .null, .null, .null, .null, .null, .int 0, .int 0, .int 0, .int 0])), (q1, .inr (9, [.ref q3, .int 0, .int 0])), (q3, .inl (cI, 260, .inl (fun _ => 0))), (q4, .inr (2, [.null, .null, .int 0])), (q6, .inr (5, [.ref q8, .int 0, .null])), (q8, .inl (cI, 241, .inl (fun _ => 0))), (q9, .inr (1, [.ref q11, .ref q12, .ref q13, .int 0, .int 0])), (q11, .inl (cI, 3, .inl (fun _ => 0))), (q12, .inl (cI, 24, .inl (fun _ => 0))), (q13, .inl (cI, 20, .inl (fun _ => 0))), (q14, .inr (1, [.ref q16, .ref q17, .ref q18, .int 0, .int 0])), (q16, .inl (cI, 3, .inl (fun _ => 0))), (q17, .inl (cI, 24, .inl (fun _ => 0))), (q18, .inl (cI, 20, .inl (fun _ => 0))), (q19, .inl (cQ, 4, .inr (.inr (.inr (.inr (fun _ => none)))))), (q20, .inr (7, [.ref q22, .ref q23, .ref q24, .int 0, .int 0, .int 0, .int (-1), .int 0, .int 0])), (q22, .inl (cI, 6, .inl (fun _ => 0))), (q23, .inl (cI, 5, .inl (fun _ => 0))), (q24, .inl (cI, 80, .inl (fun _ => 0))), (q25, .inr (7, [.ref q27, .ref q28, .ref q29, .int 0, .int 0, .int 0, .int (-1), .int 0, .int 0])), (q27, .inl (cI, 6, .inl (fun _ => 0))), (q28, .inl (cI, 5, .inl (fun _ => 0))), (q29, .inl (cI, 80, .inl (fun _ => 0)))] H := hP
  have hD : va_D A [(h0, .inr (10, [.ref q1, .ref q4, .ref q6, .ref q9, .ref q14, .ref q19, .ref q20, .ref q25, .null, .null, .null, .null, .null, .int 0, .int 0, .int 0, .int 0])), (q1, .inr (9, [.ref q3, .int 0, .int 0])), (q3, .inl (cI, 260, .inl (fun _ => 0))), (q4, .inr (2, [.null, .null, .int 0])), (q6, .inr (5, [.ref q8, .int 0, .null])), (q8, .inl (cI, 241, .inl (fun _ => 0))), (q9, .inr (1, [.ref q11, .ref q12, .ref q13, .int 0, .int 0])), (q11, .inl (cI, 3, .inl (fun _ => 0))), (q12, .inl (cI, 24, .inl (fun _ => 0))), (q13, .inl (cI, 20, .inl (fun _ => 0))), (q14, .inr (1, [.ref q16, .ref q17, .ref q18, .int 0, .int 0])), (q16, .inl (cI, 3, .inl (fun _ => 0))), (q17, .inl (cI, 24, .inl (fun _ => 0))), (q18, .inl (cI, 20, .inl (fun _ => 0))), (q19, .inl (cQ, 4, .inr (.inr (.inr (.inr (fun _ => none)))))), (q20, .inr (7, [.ref q22, .ref q23, .ref q24, .int 0, .int 0, .int 0, .int (-1), .int 0, .int 0])), (q22, .inl (cI, 6, .inl (fun _ => 0))), (q23, .inl (cI, 5, .inl (fun _ => 0))), (q24, .inl (cI, 80, .inl (fun _ => 0))), (q25, .inr (7, [.ref q27, .ref q28, .ref q29, .int 0, .int 0, .int 0, .int (-1), .int 0, .int 0])), (q27, .inl (cI, 6, .inl (fun _ => 0))), (q28, .inl (cI, 5, .inl (fun _ => 0))), (q29, .inl (cI, 80, .inl (fun _ => 0)))] := hD
  refine lv_aload_n hx hb dX10_init_89 rfl (lv_at hl 0 rfl) ?_
  refine va_new (ci := 0) (fs := [.null, .int 0, .int 0]) (C := RX0) (T := TX0) (N := 3) hx hb hts iX0 tyX0 tyX0_ok hown (hts _ qw262) (hts _ qw263) (hts _ qw104) hK hP hD hS hA rfl fsX0 (Nat.le_of_ble_eq_true rfl) (Nat.le_of_ble_eq_true rfl) dX10_init_90 (fun q30 H hP hD hS => ?_)
  have hP : va_P (dC, dI) vwCl [(h0, .inr (10, [.ref q1, .ref q4, .ref q6, .ref q9, .ref q14, .ref q19, .ref q20, .ref q25, .null, .null, .null, .null, .null, .int 0, .int 0, .int 0, .int 0])), (q1, .inr (9, [.ref q3, .int 0, .int 0])), (q3, .inl (cI, 260, .inl (fun _ => 0))), (q4, .inr (2, [.null, .null, .int 0])), (q6, .inr (5, [.ref q8, .int 0, .null])), (q8, .inl (cI, 241, .inl (fun _ => 0))), (q9, .inr (1, [.ref q11, .ref q12, .ref q13, .int 0, .int 0])), (q11, .inl (cI, 3, .inl (fun _ => 0))), (q12, .inl (cI, 24, .inl (fun _ => 0))), (q13, .inl (cI, 20, .inl (fun _ => 0))), (q14, .inr (1, [.ref q16, .ref q17, .ref q18, .int 0, .int 0])), (q16, .inl (cI, 3, .inl (fun _ => 0))), (q17, .inl (cI, 24, .inl (fun _ => 0))), (q18, .inl (cI, 20, .inl (fun _ => 0))), (q19, .inl (cQ, 4, .inr (.inr (.inr (.inr (fun _ => none)))))), (q20, .inr (7, [.ref q22, .ref q23, .ref q24, .int 0, .int 0, .int 0, .int (-1), .int 0, .int 0])), (q22, .inl (cI, 6, .inl (fun _ => 0))), (q23, .inl (cI, 5, .inl (fun _ => 0))), (q24, .inl (cI, 80, .inl (fun _ => 0))), (q25, .inr (7, [.ref q27, .ref q28, .ref q29, .int 0, .int 0, .int 0, .int (-1), .int 0, .int 0])), (q27, .inl (cI, 6, .inl (fun _ => 0))), (q28, .inl (cI, 5, .inl (fun _ => 0))), (q29, .inl (cI, 80, .inl (fun _ => 0))), (q30, .inr (0, [.null, .int 0, .int 0]))] H := hP
  have hD : va_D A [(h0, .inr (10, [.ref q1, .ref q4, .ref q6, .ref q9, .ref q14, .ref q19, .ref q20, .ref q25, .null, .null, .null, .null, .null, .int 0, .int 0, .int 0, .int 0])), (q1, .inr (9, [.ref q3, .int 0, .int 0])), (q3, .inl (cI, 260, .inl (fun _ => 0))), (q4, .inr (2, [.null, .null, .int 0])), (q6, .inr (5, [.ref q8, .int 0, .null])), (q8, .inl (cI, 241, .inl (fun _ => 0))), (q9, .inr (1, [.ref q11, .ref q12, .ref q13, .int 0, .int 0])), (q11, .inl (cI, 3, .inl (fun _ => 0))), (q12, .inl (cI, 24, .inl (fun _ => 0))), (q13, .inl (cI, 20, .inl (fun _ => 0))), (q14, .inr (1, [.ref q16, .ref q17, .ref q18, .int 0, .int 0])), (q16, .inl (cI, 3, .inl (fun _ => 0))), (q17, .inl (cI, 24, .inl (fun _ => 0))), (q18, .inl (cI, 20, .inl (fun _ => 0))), (q19, .inl (cQ, 4, .inr (.inr (.inr (.inr (fun _ => none)))))), (q20, .inr (7, [.ref q22, .ref q23, .ref q24, .int 0, .int 0, .int 0, .int (-1), .int 0, .int 0])), (q22, .inl (cI, 6, .inl (fun _ => 0))), (q23, .inl (cI, 5, .inl (fun _ => 0))), (q24, .inl (cI, 80, .inl (fun _ => 0))), (q25, .inr (7, [.ref q27, .ref q28, .ref q29, .int 0, .int 0, .int 0, .int (-1), .int 0, .int 0])), (q27, .inl (cI, 6, .inl (fun _ => 0))), (q28, .inl (cI, 5, .inl (fun _ => 0))), (q29, .inl (cI, 80, .inl (fun _ => 0))), (q30, .inr (0, [.null, .int 0, .int 0]))] := hD
  refine W.widen (k := 23) (n := 821) (Nat.le_of_ble_eq_true rfl) (Nat.le_of_ble_eq_true rfl) ?_
  refine lv_dup hx hb dX10_init_93 rfl ?_
  have hPc := hP.sub (ws' := [(q30, .inr (0, [.null, .int 0, .int 0]))]) [23] rfl
  have hDc := hD.sub (ws' := [(q30, .inr (0, [.null, .int 0, .int 0]))]) [23] (by decide) rfl
  have hFc := va_free (wc := [(q30, .inr (0, [.null, .int 0, .int 0]))]) hD hS hA [23] rfl
  refine va_callv (va_runIN (As := []) (rest := [.ref q30, .ref h0]) ⟨hx, hb, hml, hown, hts⟩ (c_X0_init l dC dI cI cJ q30 H.size) ⟨va_cnB 0 hts (zgI qw266) rfl rfl rfl (hN_58) (hts _ qw104) (hd_X0_init).2 ⟨Nat.le_of_ble_eq_true rfl, Nat.le_of_ble_eq_true rfl⟩, rfl, hts _ qw265⟩ (zPS hPc hK hDc) rfl rfl hl.1 rfl (lv_room (Nat.le_of_ble_eq_true rfl)) dX10_init_94 ⟨Nat.le_of_ble_eq_true rfl, Nat.le_of_ble_eq_true rfl⟩) hS (fun q _ h => hFc q h) hFc (fun u t H locs ht hvm hw hB hz1 hk1 hS => ?_)
  refine W.widen (k := 24) (n := 1501) (Nat.le_of_ble_eq_true rfl) (Nat.le_of_ble_eq_true rfl) ?_
  obtain ⟨q32, hB⟩ := hB
  obtain ⟨hP1, hD1⟩ := hB
  rw [ht] at hP1
  obtain ⟨hP, hD⟩ := va_join (wr := [(h0, .inr (10, [.ref q1, .ref q4, .ref q6, .ref q9, .ref q14, .ref q19, .ref q20, .ref q25, .null, .null, .null, .null, .null, .int 0, .int 0, .int 0, .int 0])), (q1, .inr (9, [.ref q3, .int 0, .int 0])), (q3, .inl (cI, 260, .inl (fun _ => 0))), (q4, .inr (2, [.null, .null, .int 0])), (q6, .inr (5, [.ref q8, .int 0, .null])), (q8, .inl (cI, 241, .inl (fun _ => 0))), (q9, .inr (1, [.ref q11, .ref q12, .ref q13, .int 0, .int 0])), (q11, .inl (cI, 3, .inl (fun _ => 0))), (q12, .inl (cI, 24, .inl (fun _ => 0))), (q13, .inl (cI, 20, .inl (fun _ => 0))), (q14, .inr (1, [.ref q16, .ref q17, .ref q18, .int 0, .int 0])), (q16, .inl (cI, 3, .inl (fun _ => 0))), (q17, .inl (cI, 24, .inl (fun _ => 0))), (q18, .inl (cI, 20, .inl (fun _ => 0))), (q19, .inl (cQ, 4, .inr (.inr (.inr (.inr (fun _ => none)))))), (q20, .inr (7, [.ref q22, .ref q23, .ref q24, .int 0, .int 0, .int 0, .int (-1), .int 0, .int 0])), (q22, .inl (cI, 6, .inl (fun _ => 0))), (q23, .inl (cI, 5, .inl (fun _ => 0))), (q24, .inl (cI, 80, .inl (fun _ => 0))), (q25, .inr (7, [.ref q27, .ref q28, .ref q29, .int 0, .int 0, .int 0, .int (-1), .int 0, .int 0])), (q27, .inl (cI, 6, .inl (fun _ => 0))), (q28, .inl (cI, 5, .inl (fun _ => 0))), (q29, .inl (cI, 80, .inl (fun _ => 0)))]) (w1 := [(q30, .inr (0, [.ref q32, .int 0, .int 0])), (q32, .inl (cI, 680, .inl (fun _ => 0)))]) hP hD [23] [0, 1, 2, 3, 4, 5, 6, 7, 8, 9, 10, 11, 12, 13, 14, 15, 16, 17, 18, 19, 20, 21, 22] rfl rfl (by decide) (by decide) hk1 hFc hP1 hD1
  have hP : va_P (dC, dI) vwCl [(h0, .inr (10, [.ref q1, .ref q4, .ref q6, .ref q9, .ref q14, .ref q19, .ref q20, .ref q25, .null, .null, .null, .null, .null, .int 0, .int 0, .int 0, .int 0])), (q1, .inr (9, [.ref q3, .int 0, .int 0])), (q3, .inl (cI, 260, .inl (fun _ => 0))), (q4, .inr (2, [.null, .null, .int 0])), (q6, .inr (5, [.ref q8, .int 0, .null])), (q8, .inl (cI, 241, .inl (fun _ => 0))), (q9, .inr (1, [.ref q11, .ref q12, .ref q13, .int 0, .int 0])), (q11, .inl (cI, 3, .inl (fun _ => 0))), (q12, .inl (cI, 24, .inl (fun _ => 0))), (q13, .inl (cI, 20, .inl (fun _ => 0))), (q14, .inr (1, [.ref q16, .ref q17, .ref q18, .int 0, .int 0])), (q16, .inl (cI, 3, .inl (fun _ => 0))), (q17, .inl (cI, 24, .inl (fun _ => 0))), (q18, .inl (cI, 20, .inl (fun _ => 0))), (q19, .inl (cQ, 4, .inr (.inr (.inr (.inr (fun _ => none)))))), (q20, .inr (7, [.ref q22, .ref q23, .ref q24, .int 0, .int 0, .int 0, .int (-1), .int 0, .int 0])), (q22, .inl (cI, 6, .inl (fun _ => 0))), (q23, .inl (cI, 5, .inl (fun _ => 0))), (q24, .inl (cI, 80, .inl (fun _ => 0))), (q25, .inr (7, [.ref q27, .ref q28, .ref q29, .int 0, .int 0, .int 0, .int (-1), .int 0, .int 0])), (q27, .inl (cI, 6, .inl (fun _ => 0))), (q28, .inl (cI, 5, .inl (fun _ => 0))), (q29, .inl (cI, 80, .inl (fun _ => 0))), (q30, .inr (0, [.ref q32, .int 0, .int 0])), (q32, .inl (cI, 680, .inl (fun _ => 0)))] H := hP
  have hD : va_D A [(h0, .inr (10, [.ref q1, .ref q4, .ref q6, .ref q9, .ref q14, .ref q19, .ref q20, .ref q25, .null, .null, .null, .null, .null, .int 0, .int 0, .int 0, .int 0])), (q1, .inr (9, [.ref q3, .int 0, .int 0])), (q3, .inl (cI, 260, .inl (fun _ => 0))), (q4, .inr (2, [.null, .null, .int 0])), (q6, .inr (5, [.ref q8, .int 0, .null])), (q8, .inl (cI, 241, .inl (fun _ => 0))), (q9, .inr (1, [.ref q11, .ref q12, .ref q13, .int 0, .int 0])), (q11, .inl (cI, 3, .inl (fun _ => 0))), (q12, .inl (cI, 24, .inl (fun _ => 0))), (q13, .inl (cI, 20, .inl (fun _ => 0))), (q14, .inr (1, [.ref q16, .ref q17, .ref q18, .int 0, .int 0])), (q16, .inl (cI, 3, .inl (fun _ => 0))), (q17, .inl (cI, 24, .inl (fun _ => 0))), (q18, .inl (cI, 20, .inl (fun _ => 0))), (q19, .inl (cQ, 4, .inr (.inr (.inr (.inr (fun _ => none)))))), (q20, .inr (7, [.ref q22, .ref q23, .ref q24, .int 0, .int 0, .int 0, .int (-1), .int 0, .int 0])), (q22, .inl (cI, 6, .inl (fun _ => 0))), (q23, .inl (cI, 5, .inl (fun _ => 0))), (q24, .inl (cI, 80, .inl (fun _ => 0))), (q25, .inr (7, [.ref q27, .ref q28, .ref q29, .int 0, .int 0, .int 0, .int (-1), .int 0, .int 0])), (q27, .inl (cI, 6, .inl (fun _ => 0))), (q28, .inl (cI, 5, .inl (fun _ => 0))), (q29, .inl (cI, 80, .inl (fun _ => 0))), (q30, .inr (0, [.ref q32, .int 0, .int 0])), (q32, .inl (cI, 680, .inl (fun _ => 0)))] := hD
  refine va_putF (D := (dC, dI)) (ci := 10) (v := .ref q30) (ty := .object "NinePortraits$Acts") (C := RX10) (T := TX10) (N := 17) hx hb hts iX10 tyX10 tyX10_ok nmX10 hown hK hP hD hS 0 rfl rfl 8 (by decide) (hts _ qw364) (fun _ h9 => h9) rfl hin rfl (by decide +kernel) rfl rfl (Nat.le_of_ble_eq_true rfl) dX10_init_97 (fun H locs hP hD hS => ?_)
  have hP : va_P (dC, dI) vwCl [(h0, .inr (10, [.ref q1, .ref q4, .ref q6, .ref q9, .ref q14, .ref q19, .ref q20, .ref q25, .ref q30, .null, .null, .null, .null, .int 0, .int 0, .int 0, .int 0])), (q1, .inr (9, [.ref q3, .int 0, .int 0])), (q3, .inl (cI, 260, .inl (fun _ => 0))), (q4, .inr (2, [.null, .null, .int 0])), (q6, .inr (5, [.ref q8, .int 0, .null])), (q8, .inl (cI, 241, .inl (fun _ => 0))), (q9, .inr (1, [.ref q11, .ref q12, .ref q13, .int 0, .int 0])), (q11, .inl (cI, 3, .inl (fun _ => 0))), (q12, .inl (cI, 24, .inl (fun _ => 0))), (q13, .inl (cI, 20, .inl (fun _ => 0))), (q14, .inr (1, [.ref q16, .ref q17, .ref q18, .int 0, .int 0])), (q16, .inl (cI, 3, .inl (fun _ => 0))), (q17, .inl (cI, 24, .inl (fun _ => 0))), (q18, .inl (cI, 20, .inl (fun _ => 0))), (q19, .inl (cQ, 4, .inr (.inr (.inr (.inr (fun _ => none)))))), (q20, .inr (7, [.ref q22, .ref q23, .ref q24, .int 0, .int 0, .int 0, .int (-1), .int 0, .int 0])), (q22, .inl (cI, 6, .inl (fun _ => 0))), (q23, .inl (cI, 5, .inl (fun _ => 0))), (q24, .inl (cI, 80, .inl (fun _ => 0))), (q25, .inr (7, [.ref q27, .ref q28, .ref q29, .int 0, .int 0, .int 0, .int (-1), .int 0, .int 0])), (q27, .inl (cI, 6, .inl (fun _ => 0))), (q28, .inl (cI, 5, .inl (fun _ => 0))), (q29, .inl (cI, 80, .inl (fun _ => 0))), (q30, .inr (0, [.ref q32, .int 0, .int 0])), (q32, .inl (cI, 680, .inl (fun _ => 0)))] H := hP
  have hD : va_D A [(h0, .inr (10, [.ref q1, .ref q4, .ref q6, .ref q9, .ref q14, .ref q19, .ref q20, .ref q25, .ref q30, .null, .null, .null, .null, .int 0, .int 0, .int 0, .int 0])), (q1, .inr (9, [.ref q3, .int 0, .int 0])), (q3, .inl (cI, 260, .inl (fun _ => 0))), (q4, .inr (2, [.null, .null, .int 0])), (q6, .inr (5, [.ref q8, .int 0, .null])), (q8, .inl (cI, 241, .inl (fun _ => 0))), (q9, .inr (1, [.ref q11, .ref q12, .ref q13, .int 0, .int 0])), (q11, .inl (cI, 3, .inl (fun _ => 0))), (q12, .inl (cI, 24, .inl (fun _ => 0))), (q13, .inl (cI, 20, .inl (fun _ => 0))), (q14, .inr (1, [.ref q16, .ref q17, .ref q18, .int 0, .int 0])), (q16, .inl (cI, 3, .inl (fun _ => 0))), (q17, .inl (cI, 24, .inl (fun _ => 0))), (q18, .inl (cI, 20, .inl (fun _ => 0))), (q19, .inl (cQ, 4, .inr (.inr (.inr (.inr (fun _ => none)))))), (q20, .inr (7, [.ref q22, .ref q23, .ref q24, .int 0, .int 0, .int 0, .int (-1), .int 0, .int 0])), (q22, .inl (cI, 6, .inl (fun _ => 0))), (q23, .inl (cI, 5, .inl (fun _ => 0))), (q24, .inl (cI, 80, .inl (fun _ => 0))), (q25, .inr (7, [.ref q27, .ref q28, .ref q29, .int 0, .int 0, .int 0, .int (-1), .int 0, .int 0])), (q27, .inl (cI, 6, .inl (fun _ => 0))), (q28, .inl (cI, 5, .inl (fun _ => 0))), (q29, .inl (cI, 80, .inl (fun _ => 0))), (q30, .inr (0, [.ref q32, .int 0, .int 0])), (q32, .inl (cI, 680, .inl (fun _ => 0)))] := hD
  refine lv_aload_n hx hb dX10_init_100 rfl (lv_at hl 0 rfl) ?_
  refine va_new (ci := 8) (fs := [.null, .null, .null, .null, .null, .null, .null]) (C := RX8) (T := TX8) (N := 7) hx hb hts iX8 tyX8 tyX8_ok hown (hts _ qw279) (hts _ qw280) (hts _ qw105) hK hP hD hS hA rfl fsX8 (Nat.le_of_ble_eq_true rfl) (Nat.le_of_ble_eq_true rfl) dX10_init_101 (fun q33 H hP hD hS => ?_)
  have hP : va_P (dC, dI) vwCl [(h0, .inr (10, [.ref q1, .ref q4, .ref q6, .ref q9, .ref q14, .ref q19, .ref q20, .ref q25, .ref q30, .null, .null, .null, .null, .int 0, .int 0, .int 0, .int 0])), (q1, .inr (9, [.ref q3, .int 0, .int 0])), (q3, .inl (cI, 260, .inl (fun _ => 0))), (q4, .inr (2, [.null, .null, .int 0])), (q6, .inr (5, [.ref q8, .int 0, .null])), (q8, .inl (cI, 241, .inl (fun _ => 0))), (q9, .inr (1, [.ref q11, .ref q12, .ref q13, .int 0, .int 0])), (q11, .inl (cI, 3, .inl (fun _ => 0))), (q12, .inl (cI, 24, .inl (fun _ => 0))), (q13, .inl (cI, 20, .inl (fun _ => 0))), (q14, .inr (1, [.ref q16, .ref q17, .ref q18, .int 0, .int 0])), (q16, .inl (cI, 3, .inl (fun _ => 0))), (q17, .inl (cI, 24, .inl (fun _ => 0))), (q18, .inl (cI, 20, .inl (fun _ => 0))), (q19, .inl (cQ, 4, .inr (.inr (.inr (.inr (fun _ => none)))))), (q20, .inr (7, [.ref q22, .ref q23, .ref q24, .int 0, .int 0, .int 0, .int (-1), .int 0, .int 0])), (q22, .inl (cI, 6, .inl (fun _ => 0))), (q23, .inl (cI, 5, .inl (fun _ => 0))), (q24, .inl (cI, 80, .inl (fun _ => 0))), (q25, .inr (7, [.ref q27, .ref q28, .ref q29, .int 0, .int 0, .int 0, .int (-1), .int 0, .int 0])), (q27, .inl (cI, 6, .inl (fun _ => 0))), (q28, .inl (cI, 5, .inl (fun _ => 0))), (q29, .inl (cI, 80, .inl (fun _ => 0))), (q30, .inr (0, [.ref q32, .int 0, .int 0])), (q32, .inl (cI, 680, .inl (fun _ => 0))), (q33, .inr (8, [.null, .null, .null, .null, .null, .null, .null]))] H := hP
  have hD : va_D A [(h0, .inr (10, [.ref q1, .ref q4, .ref q6, .ref q9, .ref q14, .ref q19, .ref q20, .ref q25, .ref q30, .null, .null, .null, .null, .int 0, .int 0, .int 0, .int 0])), (q1, .inr (9, [.ref q3, .int 0, .int 0])), (q3, .inl (cI, 260, .inl (fun _ => 0))), (q4, .inr (2, [.null, .null, .int 0])), (q6, .inr (5, [.ref q8, .int 0, .null])), (q8, .inl (cI, 241, .inl (fun _ => 0))), (q9, .inr (1, [.ref q11, .ref q12, .ref q13, .int 0, .int 0])), (q11, .inl (cI, 3, .inl (fun _ => 0))), (q12, .inl (cI, 24, .inl (fun _ => 0))), (q13, .inl (cI, 20, .inl (fun _ => 0))), (q14, .inr (1, [.ref q16, .ref q17, .ref q18, .int 0, .int 0])), (q16, .inl (cI, 3, .inl (fun _ => 0))), (q17, .inl (cI, 24, .inl (fun _ => 0))), (q18, .inl (cI, 20, .inl (fun _ => 0))), (q19, .inl (cQ, 4, .inr (.inr (.inr (.inr (fun _ => none)))))), (q20, .inr (7, [.ref q22, .ref q23, .ref q24, .int 0, .int 0, .int 0, .int (-1), .int 0, .int 0])), (q22, .inl (cI, 6, .inl (fun _ => 0))), (q23, .inl (cI, 5, .inl (fun _ => 0))), (q24, .inl (cI, 80, .inl (fun _ => 0))), (q25, .inr (7, [.ref q27, .ref q28, .ref q29, .int 0, .int 0, .int 0, .int (-1), .int 0, .int 0])), (q27, .inl (cI, 6, .inl (fun _ => 0))), (q28, .inl (cI, 5, .inl (fun _ => 0))), (q29, .inl (cI, 80, .inl (fun _ => 0))), (q30, .inr (0, [.ref q32, .int 0, .int 0])), (q32, .inl (cI, 680, .inl (fun _ => 0))), (q33, .inr (8, [.null, .null, .null, .null, .null, .null, .null]))] := hD
  refine W.widen (k := 25) (n := 1508) (Nat.le_of_ble_eq_true rfl) (Nat.le_of_ble_eq_true rfl) ?_
  refine lv_dup hx hb dX10_init_104 rfl ?_
  refine lv_aload_n hx hb dX10_init_105 rfl (lv_at hl 0 rfl) ?_
  refine va_get (D := (dC, dI)) (ci := 10) (v := .ref q14) (C := RX10) (T := TX10) (N := 17) hx hb hts iX10 hown hK hP 0 rfl rfl 4 (by decide) (hts _ qw360) (fun _ h9 => h9) rfl dX10_init_106 ?_
  refine lv_aload_n hx hb dX10_init_109 rfl (lv_at hl 0 rfl) ?_
  refine va_get (D := (dC, dI)) (ci := 10) (v := .ref q20) (C := RX10) (T := TX10) (N := 17) hx hb hts iX10 hown hK hP 0 rfl rfl 6 (by decide) (hts _ qw362) (fun _ h9 => h9) rfl dX10_init_110 ?_
  have hPc := hP.sub (ws' := [(q33, .inr (8, [.null, .null, .null, .null, .null, .null, .null]))]) [25] rfl
  have hDc := hD.sub (ws' := [(q33, .inr (8, [.null, .null, .null, .null, .null, .null, .null]))]) [25] (by decide) rfl
  have hFc := va_free (wc := [(q33, .inr (8, [.null, .null, .null, .null, .null, .null, .null]))]) hD hS hA [25] rfl
  refine va_callv (va_runI (As := [.ref q14, .ref q20]) (rest := [.ref q33, .ref h0]) ⟨hx, hb, hml, hown, hts⟩ (c_X8_init l dC dI cI cJ q33 q14 q20 H.size) (cwI 2 hts (zgI qw283) rfl rfl rfl (hts _ qw105) (hts _ qw281) (hts _ qw282) rfl (hd_X8_init).2 ⟨Nat.le_of_ble_eq_true rfl, Nat.le_of_ble_eq_true rfl⟩) (zPS hPc hK hDc) rfl rfl hl.1 rfl (lv_room (Nat.le_of_ble_eq_true rfl)) dX10_init_113 ⟨Nat.le_of_ble_eq_true rfl, Nat.le_of_ble_eq_true rfl⟩) hS (fun q _ h => hFc q h) hFc (fun u t H locs ht hvm hw hB hz1 hk1 hS => ?_)
  refine W.widen (k := 29) (n := 1566) (Nat.le_of_ble_eq_true rfl) (Nat.le_of_ble_eq_true rfl) ?_
  obtain ⟨q35, q36, q37, q38, hB⟩ := hB
  obtain ⟨hP1, hD1⟩ := hB
  rw [ht] at hP1
  obtain ⟨hP, hD⟩ := va_join (wr := [(h0, .inr (10, [.ref q1, .ref q4, .ref q6, .ref q9, .ref q14, .ref q19, .ref q20, .ref q25, .ref q30, .null, .null, .null, .null, .int 0, .int 0, .int 0, .int 0])), (q1, .inr (9, [.ref q3, .int 0, .int 0])), (q3, .inl (cI, 260, .inl (fun _ => 0))), (q4, .inr (2, [.null, .null, .int 0])), (q6, .inr (5, [.ref q8, .int 0, .null])), (q8, .inl (cI, 241, .inl (fun _ => 0))), (q9, .inr (1, [.ref q11, .ref q12, .ref q13, .int 0, .int 0])), (q11, .inl (cI, 3, .inl (fun _ => 0))), (q12, .inl (cI, 24, .inl (fun _ => 0))), (q13, .inl (cI, 20, .inl (fun _ => 0))), (q14, .inr (1, [.ref q16, .ref q17, .ref q18, .int 0, .int 0])), (q16, .inl (cI, 3, .inl (fun _ => 0))), (q17, .inl (cI, 24, .inl (fun _ => 0))), (q18, .inl (cI, 20, .inl (fun _ => 0))), (q19, .inl (cQ, 4, .inr (.inr (.inr (.inr (fun _ => none)))))), (q20, .inr (7, [.ref q22, .ref q23, .ref q24, .int 0, .int 0, .int 0, .int (-1), .int 0, .int 0])), (q22, .inl (cI, 6, .inl (fun _ => 0))), (q23, .inl (cI, 5, .inl (fun _ => 0))), (q24, .inl (cI, 80, .inl (fun _ => 0))), (q25, .inr (7, [.ref q27, .ref q28, .ref q29, .int 0, .int 0, .int 0, .int (-1), .int 0, .int 0])), (q27, .inl (cI, 6, .inl (fun _ => 0))), (q28, .inl (cI, 5, .inl (fun _ => 0))), (q29, .inl (cI, 80, .inl (fun _ => 0))), (q30, .inr (0, [.ref q32, .int 0, .int 0])), (q32, .inl (cI, 680, .inl (fun _ => 0)))]) (w1 := [(q33, .inr (8, [.ref q35, .ref q36, .ref q14, .ref q20, .ref q37, .ref q38, .null])), (q35, .inl (cI, 10, .inl (fun _ => 0))), (q36, .inl (cI, 10, .inl (fun _ => 0))), (q37, .inl (cI, 6, .inl (fun _ => 0))), (q38, .inl (cI, 32, .inl (fun _ => 0)))]) hP hD [25] [0, 1, 2, 3, 4, 5, 6, 7, 8, 9, 10, 11, 12, 13, 14, 15, 16, 17, 18, 19, 20, 21, 22, 23, 24] rfl rfl (by decide) (by decide) hk1 hFc hP1 hD1
  have hP : va_P (dC, dI) vwCl [(h0, .inr (10, [.ref q1, .ref q4, .ref q6, .ref q9, .ref q14, .ref q19, .ref q20, .ref q25, .ref q30, .null, .null, .null, .null, .int 0, .int 0, .int 0, .int 0])), (q1, .inr (9, [.ref q3, .int 0, .int 0])), (q3, .inl (cI, 260, .inl (fun _ => 0))), (q4, .inr (2, [.null, .null, .int 0])), (q6, .inr (5, [.ref q8, .int 0, .null])), (q8, .inl (cI, 241, .inl (fun _ => 0))), (q9, .inr (1, [.ref q11, .ref q12, .ref q13, .int 0, .int 0])), (q11, .inl (cI, 3, .inl (fun _ => 0))), (q12, .inl (cI, 24, .inl (fun _ => 0))), (q13, .inl (cI, 20, .inl (fun _ => 0))), (q14, .inr (1, [.ref q16, .ref q17, .ref q18, .int 0, .int 0])), (q16, .inl (cI, 3, .inl (fun _ => 0))), (q17, .inl (cI, 24, .inl (fun _ => 0))), (q18, .inl (cI, 20, .inl (fun _ => 0))), (q19, .inl (cQ, 4, .inr (.inr (.inr (.inr (fun _ => none)))))), (q20, .inr (7, [.ref q22, .ref q23, .ref q24, .int 0, .int 0, .int 0, .int (-1), .int 0, .int 0])), (q22, .inl (cI, 6, .inl (fun _ => 0))), (q23, .inl (cI, 5, .inl (fun _ => 0))), (q24, .inl (cI, 80, .inl (fun _ => 0))), (q25, .inr (7, [.ref q27, .ref q28, .ref q29, .int 0, .int 0, .int 0, .int (-1), .int 0, .int 0])), (q27, .inl (cI, 6, .inl (fun _ => 0))), (q28, .inl (cI, 5, .inl (fun _ => 0))), (q29, .inl (cI, 80, .inl (fun _ => 0))), (q30, .inr (0, [.ref q32, .int 0, .int 0])), (q32, .inl (cI, 680, .inl (fun _ => 0))), (q33, .inr (8, [.ref q35, .ref q36, .ref q14, .ref q20, .ref q37, .ref q38, .null])), (q35, .inl (cI, 10, .inl (fun _ => 0))), (q36, .inl (cI, 10, .inl (fun _ => 0))), (q37, .inl (cI, 6, .inl (fun _ => 0))), (q38, .inl (cI, 32, .inl (fun _ => 0)))] H := hP
  have hD : va_D A [(h0, .inr (10, [.ref q1, .ref q4, .ref q6, .ref q9, .ref q14, .ref q19, .ref q20, .ref q25, .ref q30, .null, .null, .null, .null, .int 0, .int 0, .int 0, .int 0])), (q1, .inr (9, [.ref q3, .int 0, .int 0])), (q3, .inl (cI, 260, .inl (fun _ => 0))), (q4, .inr (2, [.null, .null, .int 0])), (q6, .inr (5, [.ref q8, .int 0, .null])), (q8, .inl (cI, 241, .inl (fun _ => 0))), (q9, .inr (1, [.ref q11, .ref q12, .ref q13, .int 0, .int 0])), (q11, .inl (cI, 3, .inl (fun _ => 0))), (q12, .inl (cI, 24, .inl (fun _ => 0))), (q13, .inl (cI, 20, .inl (fun _ => 0))), (q14, .inr (1, [.ref q16, .ref q17, .ref q18, .int 0, .int 0])), (q16, .inl (cI, 3, .inl (fun _ => 0))), (q17, .inl (cI, 24, .inl (fun _ => 0))), (q18, .inl (cI, 20, .inl (fun _ => 0))), (q19, .inl (cQ, 4, .inr (.inr (.inr (.inr (fun _ => none)))))), (q20, .inr (7, [.ref q22, .ref q23, .ref q24, .int 0, .int 0, .int 0, .int (-1), .int 0, .int 0])), (q22, .inl (cI, 6, .inl (fun _ => 0))), (q23, .inl (cI, 5, .inl (fun _ => 0))), (q24, .inl (cI, 80, .inl (fun _ => 0))), (q25, .inr (7, [.ref q27, .ref q28, .ref q29, .int 0, .int 0, .int 0, .int (-1), .int 0, .int 0])), (q27, .inl (cI, 6, .inl (fun _ => 0))), (q28, .inl (cI, 5, .inl (fun _ => 0))), (q29, .inl (cI, 80, .inl (fun _ => 0))), (q30, .inr (0, [.ref q32, .int 0, .int 0])), (q32, .inl (cI, 680, .inl (fun _ => 0))), (q33, .inr (8, [.ref q35, .ref q36, .ref q14, .ref q20, .ref q37, .ref q38, .null])), (q35, .inl (cI, 10, .inl (fun _ => 0))), (q36, .inl (cI, 10, .inl (fun _ => 0))), (q37, .inl (cI, 6, .inl (fun _ => 0))), (q38, .inl (cI, 32, .inl (fun _ => 0)))] := hD
  refine va_putF (D := (dC, dI)) (ci := 10) (v := .ref q33) (ty := .object "NinePortraits$Studio") (C := RX10) (T := TX10) (N := 17) hx hb hts iX10 tyX10 tyX10_ok nmX10 hown hK hP hD hS 0 rfl rfl 9 (by decide) (hts _ qw365) (fun _ h9 => h9) rfl hin rfl (by decide +kernel) rfl rfl (Nat.le_of_ble_eq_true rfl) dX10_init_116 (fun H locs hP hD hS => ?_)
  have hP : va_P (dC, dI) vwCl [(h0, .inr (10, [.ref q1, .ref q4, .ref q6, .ref q9, .ref q14, .ref q19, .ref q20, .ref q25, .ref q30, .ref q33, .null, .null, .null, .int 0, .int 0, .int 0, .int 0])), (q1, .inr (9, [.ref q3, .int 0, .int 0])), (q3, .inl (cI, 260, .inl (fun _ => 0))), (q4, .inr (2, [.null, .null, .int 0])), (q6, .inr (5, [.ref q8, .int 0, .null])), (q8, .inl (cI, 241, .inl (fun _ => 0))), (q9, .inr (1, [.ref q11, .ref q12, .ref q13, .int 0, .int 0])), (q11, .inl (cI, 3, .inl (fun _ => 0))), (q12, .inl (cI, 24, .inl (fun _ => 0))), (q13, .inl (cI, 20, .inl (fun _ => 0))), (q14, .inr (1, [.ref q16, .ref q17, .ref q18, .int 0, .int 0])), (q16, .inl (cI, 3, .inl (fun _ => 0))), (q17, .inl (cI, 24, .inl (fun _ => 0))), (q18, .inl (cI, 20, .inl (fun _ => 0))), (q19, .inl (cQ, 4, .inr (.inr (.inr (.inr (fun _ => none)))))), (q20, .inr (7, [.ref q22, .ref q23, .ref q24, .int 0, .int 0, .int 0, .int (-1), .int 0, .int 0])), (q22, .inl (cI, 6, .inl (fun _ => 0))), (q23, .inl (cI, 5, .inl (fun _ => 0))), (q24, .inl (cI, 80, .inl (fun _ => 0))), (q25, .inr (7, [.ref q27, .ref q28, .ref q29, .int 0, .int 0, .int 0, .int (-1), .int 0, .int 0])), (q27, .inl (cI, 6, .inl (fun _ => 0))), (q28, .inl (cI, 5, .inl (fun _ => 0))), (q29, .inl (cI, 80, .inl (fun _ => 0))), (q30, .inr (0, [.ref q32, .int 0, .int 0])), (q32, .inl (cI, 680, .inl (fun _ => 0))), (q33, .inr (8, [.ref q35, .ref q36, .ref q14, .ref q20, .ref q37, .ref q38, .null])), (q35, .inl (cI, 10, .inl (fun _ => 0))), (q36, .inl (cI, 10, .inl (fun _ => 0))), (q37, .inl (cI, 6, .inl (fun _ => 0))), (q38, .inl (cI, 32, .inl (fun _ => 0)))] H := hP
  have hD : va_D A [(h0, .inr (10, [.ref q1, .ref q4, .ref q6, .ref q9, .ref q14, .ref q19, .ref q20, .ref q25, .ref q30, .ref q33, .null, .null, .null, .int 0, .int 0, .int 0, .int 0])), (q1, .inr (9, [.ref q3, .int 0, .int 0])), (q3, .inl (cI, 260, .inl (fun _ => 0))), (q4, .inr (2, [.null, .null, .int 0])), (q6, .inr (5, [.ref q8, .int 0, .null])), (q8, .inl (cI, 241, .inl (fun _ => 0))), (q9, .inr (1, [.ref q11, .ref q12, .ref q13, .int 0, .int 0])), (q11, .inl (cI, 3, .inl (fun _ => 0))), (q12, .inl (cI, 24, .inl (fun _ => 0))), (q13, .inl (cI, 20, .inl (fun _ => 0))), (q14, .inr (1, [.ref q16, .ref q17, .ref q18, .int 0, .int 0])), (q16, .inl (cI, 3, .inl (fun _ => 0))), (q17, .inl (cI, 24, .inl (fun _ => 0))), (q18, .inl (cI, 20, .inl (fun _ => 0))), (q19, .inl (cQ, 4, .inr (.inr (.inr (.inr (fun _ => none)))))), (q20, .inr (7, [.ref q22, .ref q23, .ref q24, .int 0, .int 0, .int 0, .int (-1), .int 0, .int 0])), (q22, .inl (cI, 6, .inl (fun _ => 0))), (q23, .inl (cI, 5, .inl (fun _ => 0))), (q24, .inl (cI, 80, .inl (fun _ => 0))), (q25, .inr (7, [.ref q27, .ref q28, .ref q29, .int 0, .int 0, .int 0, .int (-1), .int 0, .int 0])), (q27, .inl (cI, 6, .inl (fun _ => 0))), (q28, .inl (cI, 5, .inl (fun _ => 0))), (q29, .inl (cI, 80, .inl (fun _ => 0))), (q30, .inr (0, [.ref q32, .int 0, .int 0])), (q32, .inl (cI, 680, .inl (fun _ => 0))), (q33, .inr (8, [.ref q35, .ref q36, .ref q14, .ref q20, .ref q37, .ref q38, .null])), (q35, .inl (cI, 10, .inl (fun _ => 0))), (q36, .inl (cI, 10, .inl (fun _ => 0))), (q37, .inl (cI, 6, .inl (fun _ => 0))), (q38, .inl (cI, 32, .inl (fun _ => 0)))] := hD
  refine lv_aload_n hx hb dX10_init_119 rfl (lv_at hl 0 rfl) ?_
  refine va_new (ci := 6) (fs := [.null, .null, .null, .null, .long 0, .int 0, .null, .null, .null]) (C := RX6) (T := TX6) (N := 9) hx hb hts iX6 tyX6 tyX6_ok hown (hts _ qw310) (hts _ qw311) (hts _ qw106) hK hP hD hS hA rfl fsX6 (Nat.le_of_ble_eq_true rfl) (Nat.le_of_ble_eq_true rfl) dX10_init_120 (fun q39 H hP hD hS => ?_)
  have hP : va_P (dC, dI) vwCl [(h0, .inr (10, [.ref q1, .ref q4, .ref q6, .ref q9, .ref q14, .ref q19, .ref q20, .ref q25, .ref q30, .ref q33, .null, .null, .null, .int 0, .int 0, .int 0, .int 0])), (q1, .inr (9, [.ref q3, .int 0, .int 0])), (q3, .inl (cI, 260, .inl (fun _ => 0))), (q4, .inr (2, [.null, .null, .int 0])), (q6, .inr (5, [.ref q8, .int 0, .null])), (q8, .inl (cI, 241, .inl (fun _ => 0))), (q9, .inr (1, [.ref q11, .ref q12, .ref q13, .int 0, .int 0])), (q11, .inl (cI, 3, .inl (fun _ => 0))), (q12, .inl (cI, 24, .inl (fun _ => 0))), (q13, .inl (cI, 20, .inl (fun _ => 0))), (q14, .inr (1, [.ref q16, .ref q17, .ref q18, .int 0, .int 0])), (q16, .inl (cI, 3, .inl (fun _ => 0))), (q17, .inl (cI, 24, .inl (fun _ => 0))), (q18, .inl (cI, 20, .inl (fun _ => 0))), (q19, .inl (cQ, 4, .inr (.inr (.inr (.inr (fun _ => none)))))), (q20, .inr (7, [.ref q22, .ref q23, .ref q24, .int 0, .int 0, .int 0, .int (-1), .int 0, .int 0])), (q22, .inl (cI, 6, .inl (fun _ => 0))), (q23, .inl (cI, 5, .inl (fun _ => 0))), (q24, .inl (cI, 80, .inl (fun _ => 0))), (q25, .inr (7, [.ref q27, .ref q28, .ref q29, .int 0, .int 0, .int 0, .int (-1), .int 0, .int 0])), (q27, .inl (cI, 6, .inl (fun _ => 0))), (q28, .inl (cI, 5, .inl (fun _ => 0))), (q29, .inl (cI, 80, .inl (fun _ => 0))), (q30, .inr (0, [.ref q32, .int 0, .int 0])), (q32, .inl (cI, 680, .inl (fun _ => 0))), (q33, .inr (8, [.ref q35, .ref q36, .ref q14, .ref q20, .ref q37, .ref q38, .null])), (q35, .inl (cI, 10, .inl (fun _ => 0))), (q36, .inl (cI, 10, .inl (fun _ => 0))), (q37, .inl (cI, 6, .inl (fun _ => 0))), (q38, .inl (cI, 32, .inl (fun _ => 0))), (q39, .inr (6, [.null, .null, .null, .null, .long 0, .int 0, .null, .null, .null]))] H := hP
  have hD : va_D A [(h0, .inr (10, [.ref q1, .ref q4, .ref q6, .ref q9, .ref q14, .ref q19, .ref q20, .ref q25, .ref q30, .ref q33, .null, .null, .null, .int 0, .int 0, .int 0, .int 0])), (q1, .inr (9, [.ref q3, .int 0, .int 0])), (q3, .inl (cI, 260, .inl (fun _ => 0))), (q4, .inr (2, [.null, .null, .int 0])), (q6, .inr (5, [.ref q8, .int 0, .null])), (q8, .inl (cI, 241, .inl (fun _ => 0))), (q9, .inr (1, [.ref q11, .ref q12, .ref q13, .int 0, .int 0])), (q11, .inl (cI, 3, .inl (fun _ => 0))), (q12, .inl (cI, 24, .inl (fun _ => 0))), (q13, .inl (cI, 20, .inl (fun _ => 0))), (q14, .inr (1, [.ref q16, .ref q17, .ref q18, .int 0, .int 0])), (q16, .inl (cI, 3, .inl (fun _ => 0))), (q17, .inl (cI, 24, .inl (fun _ => 0))), (q18, .inl (cI, 20, .inl (fun _ => 0))), (q19, .inl (cQ, 4, .inr (.inr (.inr (.inr (fun _ => none)))))), (q20, .inr (7, [.ref q22, .ref q23, .ref q24, .int 0, .int 0, .int 0, .int (-1), .int 0, .int 0])), (q22, .inl (cI, 6, .inl (fun _ => 0))), (q23, .inl (cI, 5, .inl (fun _ => 0))), (q24, .inl (cI, 80, .inl (fun _ => 0))), (q25, .inr (7, [.ref q27, .ref q28, .ref q29, .int 0, .int 0, .int 0, .int (-1), .int 0, .int 0])), (q27, .inl (cI, 6, .inl (fun _ => 0))), (q28, .inl (cI, 5, .inl (fun _ => 0))), (q29, .inl (cI, 80, .inl (fun _ => 0))), (q30, .inr (0, [.ref q32, .int 0, .int 0])), (q32, .inl (cI, 680, .inl (fun _ => 0))), (q33, .inr (8, [.ref q35, .ref q36, .ref q14, .ref q20, .ref q37, .ref q38, .null])), (q35, .inl (cI, 10, .inl (fun _ => 0))), (q36, .inl (cI, 10, .inl (fun _ => 0))), (q37, .inl (cI, 6, .inl (fun _ => 0))), (q38, .inl (cI, 32, .inl (fun _ => 0))), (q39, .inr (6, [.null, .null, .null, .null, .long 0, .int 0, .null, .null, .null]))] := hD
  refine W.widen (k := 30) (n := 1575) (Nat.le_of_ble_eq_true rfl) (Nat.le_of_ble_eq_true rfl) ?_
  refine lv_dup hx hb dX10_init_123 rfl ?_
  refine lv_aload_n hx hb dX10_init_124 rfl (lv_at hl 0 rfl) ?_
  refine va_get (D := (dC, dI)) (ci := 10) (v := .ref q14) (C := RX10) (T := TX10) (N := 17) hx hb hts iX10 hown hK hP 0 rfl rfl 4 (by decide) (hts _ qw360) (fun _ h9 => h9) rfl dX10_init_125 ?_
  refine lv_aload_n hx hb dX10_init_128 rfl (lv_at hl 0 rfl) ?_
  refine va_get (D := (dC, dI)) (ci := 10) (v := .ref q20) (C := RX10) (T := TX10) (N := 17) hx hb hts iX10 hown hK hP 0 rfl rfl 6 (by decide) (hts _ qw362) (fun _ h9 => h9) rfl dX10_init_129 ?_
  refine lv_aload_n hx hb dX10_init_132 rfl (lv_at hl 0 rfl) ?_
  refine va_get (D := (dC, dI)) (ci := 10) (v := .ref q33) (C := RX10) (T := TX10) (N := 17) hx hb hts iX10 hown hK hP 0 rfl rfl 9 (by decide) (hts _ qw365) (fun _ h9 => h9) rfl dX10_init_133 ?_
  have hPc := hP.sub (ws' := [(q39, .inr (6, [.null, .null, .null, .null, .long 0, .int 0, .null, .null, .null]))]) [30] rfl
  have hDc := hD.sub (ws' := [(q39, .inr (6, [.null, .null, .null, .null, .long 0, .int 0, .null, .null, .null]))]) [30] (by decide) rfl
  have hFc := va_free (wc := [(q39, .inr (6, [.null, .null, .null, .null, .long 0, .int 0, .null, .null, .null]))]) hD hS hA [30] rfl
  refine va_callv (va_runI (As := [.ref q14, .ref q20, .ref q33]) (rest := [.ref q39, .ref h0]) ⟨hx, hb, hml, hown, hts⟩ (c_X6_init l dC dI cI cJ q39 q14 q20 q33 H.size) (cwI 3 hts (zgI qw314) rfl rfl rfl (hts _ qw106) (hts _ qw312) (hts _ qw313) rfl (hd_X6_init).2 ⟨Nat.le_of_ble_eq_true rfl, Nat.le_of_ble_eq_true rfl⟩) (zPS hPc hK hDc) rfl rfl hl.1 rfl (lv_room (Nat.le_of_ble_eq_true rfl)) dX10_init_136 ⟨Nat.le_of_ble_eq_true rfl, Nat.le_of_ble_eq_true rfl⟩) hS (fun q _ h => hFc q h) hFc (fun u t H locs ht hvm hw hB hz1 hk1 hS => ?_)
  refine W.widen (k := 34) (n := 1650) (Nat.le_of_ble_eq_true rfl) (Nat.le_of_ble_eq_true rfl) ?_
  obtain ⟨q41, q42, q43, q44, hB⟩ := hB
  obtain ⟨hP1, hD1⟩ := hB
  rw [ht] at hP1
  obtain ⟨hP, hD⟩ := va_join (wr := [(h0, .inr (10, [.ref q1, .ref q4, .ref q6, .ref q9, .ref q14, .ref q19, .ref q20, .ref q25, .ref q30, .ref q33, .null, .null, .null, .int 0, .int 0, .int 0, .int 0])), (q1, .inr (9, [.ref q3, .int 0, .int 0])), (q3, .inl (cI, 260, .inl (fun _ => 0))), (q4, .inr (2, [.null, .null, .int 0])), (q6, .inr (5, [.ref q8, .int 0, .null])), (q8, .inl (cI, 241, .inl (fun _ => 0))), (q9, .inr (1, [.ref q11, .ref q12, .ref q13, .int 0, .int 0])), (q11, .inl (cI, 3, .inl (fun _ => 0))), (q12, .inl (cI, 24, .inl (fun _ => 0))), (q13, .inl (cI, 20, .inl (fun _ => 0))), (q14, .inr (1, [.ref q16, .ref q17, .ref q18, .int 0, .int 0])), (q16, .inl (cI, 3, .inl (fun _ => 0))), (q17, .inl (cI, 24, .inl (fun _ => 0))), (q18, .inl (cI, 20, .inl (fun _ => 0))), (q19, .inl (cQ, 4, .inr (.inr (.inr (.inr (fun _ => none)))))), (q20, .inr (7, [.ref q22, .ref q23, .ref q24, .int 0, .int 0, .int 0, .int (-1), .int 0, .int 0])), (q22, .inl (cI, 6, .inl (fun _ => 0))), (q23, .inl (cI, 5, .inl (fun _ => 0))), (q24, .inl (cI, 80, .inl (fun _ => 0))), (q25, .inr (7, [.ref q27, .ref q28, .ref q29, .int 0, .int 0, .int 0, .int (-1), .int 0, .int 0])), (q27, .inl (cI, 6, .inl (fun _ => 0))), (q28, .inl (cI, 5, .inl (fun _ => 0))), (q29, .inl (cI, 80, .inl (fun _ => 0))), (q30, .inr (0, [.ref q32, .int 0, .int 0])), (q32, .inl (cI, 680, .inl (fun _ => 0))), (q33, .inr (8, [.ref q35, .ref q36, .ref q14, .ref q20, .ref q37, .ref q38, .null])), (q35, .inl (cI, 10, .inl (fun _ => 0))), (q36, .inl (cI, 10, .inl (fun _ => 0))), (q37, .inl (cI, 6, .inl (fun _ => 0))), (q38, .inl (cI, 32, .inl (fun _ => 0)))]) (w1 := [(q39, .inr (6, [.ref q14, .ref q20, .ref q33, .ref q41, .long 0, .int 0, .ref q42, .ref q43, .ref q44])), (q41, .inl (cJ, 10, .inr (.inl (fun _ => 0)))), (q42, .inl (cI, 10, .inl (fun _ => 0))), (q43, .inl (cI, 10, .inl (fun _ => 0))), (q44, .inl (cI, 45, .inl (fun _ => 0)))]) hP hD [30] [0, 1, 2, 3, 4, 5, 6, 7, 8, 9, 10, 11, 12, 13, 14, 15, 16, 17, 18, 19, 20, 21, 22, 23, 24, 25, 26, 27, 28, 29] rfl rfl (by decide) (by decide) hk1 hFc hP1 hD1
  have hP : va_P (dC, dI) vwCl [(h0, .inr (10, [.ref q1, .ref q4, .ref q6, .ref q9, .ref q14, .ref q19, .ref q20, .ref q25, .ref q30, .ref q33, .null, .null, .null, .int 0, .int 0, .int 0, .int 0])), (q1, .inr (9, [.ref q3, .int 0, .int 0])), (q3, .inl (cI, 260, .inl (fun _ => 0))), (q4, .inr (2, [.null, .null, .int 0])), (q6, .inr (5, [.ref q8, .int 0, .null])), (q8, .inl (cI, 241, .inl (fun _ => 0))), (q9, .inr (1, [.ref q11, .ref q12, .ref q13, .int 0, .int 0])), (q11, .inl (cI, 3, .inl (fun _ => 0))), (q12, .inl (cI, 24, .inl (fun _ => 0))), (q13, .inl (cI, 20, .inl (fun _ => 0))), (q14, .inr (1, [.ref q16, .ref q17, .ref q18, .int 0, .int 0])), (q16, .inl (cI, 3, .inl (fun _ => 0))), (q17, .inl (cI, 24, .inl (fun _ => 0))), (q18, .inl (cI, 20, .inl (fun _ => 0))), (q19, .inl (cQ, 4, .inr (.inr (.inr (.inr (fun _ => none)))))), (q20, .inr (7, [.ref q22, .ref q23, .ref q24, .int 0, .int 0, .int 0, .int (-1), .int 0, .int 0])), (q22, .inl (cI, 6, .inl (fun _ => 0))), (q23, .inl (cI, 5, .inl (fun _ => 0))), (q24, .inl (cI, 80, .inl (fun _ => 0))), (q25, .inr (7, [.ref q27, .ref q28, .ref q29, .int 0, .int 0, .int 0, .int (-1), .int 0, .int 0])), (q27, .inl (cI, 6, .inl (fun _ => 0))), (q28, .inl (cI, 5, .inl (fun _ => 0))), (q29, .inl (cI, 80, .inl (fun _ => 0))), (q30, .inr (0, [.ref q32, .int 0, .int 0])), (q32, .inl (cI, 680, .inl (fun _ => 0))), (q33, .inr (8, [.ref q35, .ref q36, .ref q14, .ref q20, .ref q37, .ref q38, .null])), (q35, .inl (cI, 10, .inl (fun _ => 0))), (q36, .inl (cI, 10, .inl (fun _ => 0))), (q37, .inl (cI, 6, .inl (fun _ => 0))), (q38, .inl (cI, 32, .inl (fun _ => 0))), (q39, .inr (6, [.ref q14, .ref q20, .ref q33, .ref q41, .long 0, .int 0, .ref q42, .ref q43, .ref q44])), (q41, .inl (cJ, 10, .inr (.inl (fun _ => 0)))), (q42, .inl (cI, 10, .inl (fun _ => 0))), (q43, .inl (cI, 10, .inl (fun _ => 0))), (q44, .inl (cI, 45, .inl (fun _ => 0)))] H := hP
  have hD : va_D A [(h0, .inr (10, [.ref q1, .ref q4, .ref q6, .ref q9, .ref q14, .ref q19, .ref q20, .ref q25, .ref q30, .ref q33, .null, .null, .null, .int 0, .int 0, .int 0, .int 0])), (q1, .inr (9, [.ref q3, .int 0, .int 0])), (q3, .inl (cI, 260, .inl (fun _ => 0))), (q4, .inr (2, [.null, .null, .int 0])), (q6, .inr (5, [.ref q8, .int 0, .null])), (q8, .inl (cI, 241, .inl (fun _ => 0))), (q9, .inr (1, [.ref q11, .ref q12, .ref q13, .int 0, .int 0])), (q11, .inl (cI, 3, .inl (fun _ => 0))), (q12, .inl (cI, 24, .inl (fun _ => 0))), (q13, .inl (cI, 20, .inl (fun _ => 0))), (q14, .inr (1, [.ref q16, .ref q17, .ref q18, .int 0, .int 0])), (q16, .inl (cI, 3, .inl (fun _ => 0))), (q17, .inl (cI, 24, .inl (fun _ => 0))), (q18, .inl (cI, 20, .inl (fun _ => 0))), (q19, .inl (cQ, 4, .inr (.inr (.inr (.inr (fun _ => none)))))), (q20, .inr (7, [.ref q22, .ref q23, .ref q24, .int 0, .int 0, .int 0, .int (-1), .int 0, .int 0])), (q22, .inl (cI, 6, .inl (fun _ => 0))), (q23, .inl (cI, 5, .inl (fun _ => 0))), (q24, .inl (cI, 80, .inl (fun _ => 0))), (q25, .inr (7, [.ref q27, .ref q28, .ref q29, .int 0, .int 0, .int 0, .int (-1), .int 0, .int 0])), (q27, .inl (cI, 6, .inl (fun _ => 0))), (q28, .inl (cI, 5, .inl (fun _ => 0))), (q29, .inl (cI, 80, .inl (fun _ => 0))), (q30, .inr (0, [.ref q32, .int 0, .int 0])), (q32, .inl (cI, 680, .inl (fun _ => 0))), (q33, .inr (8, [.ref q35, .ref q36, .ref q14, .ref q20, .ref q37, .ref q38, .null])), (q35, .inl (cI, 10, .inl (fun _ => 0))), (q36, .inl (cI, 10, .inl (fun _ => 0))), (q37, .inl (cI, 6, .inl (fun _ => 0))), (q38, .inl (cI, 32, .inl (fun _ => 0))), (q39, .inr (6, [.ref q14, .ref q20, .ref q33, .ref q41, .long 0, .int 0, .ref q42, .ref q43, .ref q44])), (q41, .inl (cJ, 10, .inr (.inl (fun _ => 0)))), (q42, .inl (cI, 10, .inl (fun _ => 0))), (q43, .inl (cI, 10, .inl (fun _ => 0))), (q44, .inl (cI, 45, .inl (fun _ => 0)))] := hD
  refine va_putF (D := (dC, dI)) (ci := 10) (v := .ref q39) (ty := .object "NinePortraits$Mind") (C := RX10) (T := TX10) (N := 17) hx hb hts iX10 tyX10 tyX10_ok nmX10 hown hK hP hD hS 0 rfl rfl 10 (by decide) (hts _ qw366) (fun _ h9 => h9) rfl hin rfl (by decide +kernel) rfl rfl (Nat.le_of_ble_eq_true rfl) dX10_init_139 (fun H locs hP hD hS => ?_)
  have hP : va_P (dC, dI) vwCl [(h0, .inr (10, [.ref q1, .ref q4, .ref q6, .ref q9, .ref q14, .ref q19, .ref q20, .ref q25, .ref q30, .ref q33, .ref q39, .null, .null, .int 0, .int 0, .int 0, .int 0])), (q1, .inr (9, [.ref q3, .int 0, .int 0])), (q3, .inl (cI, 260, .inl (fun _ => 0))), (q4, .inr (2, [.null, .null, .int 0])), (q6, .inr (5, [.ref q8, .int 0, .null])), (q8, .inl (cI, 241, .inl (fun _ => 0))), (q9, .inr (1, [.ref q11, .ref q12, .ref q13, .int 0, .int 0])), (q11, .inl (cI, 3, .inl (fun _ => 0))), (q12, .inl (cI, 24, .inl (fun _ => 0))), (q13, .inl (cI, 20, .inl (fun _ => 0))), (q14, .inr (1, [.ref q16, .ref q17, .ref q18, .int 0, .int 0])), (q16, .inl (cI, 3, .inl (fun _ => 0))), (q17, .inl (cI, 24, .inl (fun _ => 0))), (q18, .inl (cI, 20, .inl (fun _ => 0))), (q19, .inl (cQ, 4, .inr (.inr (.inr (.inr (fun _ => none)))))), (q20, .inr (7, [.ref q22, .ref q23, .ref q24, .int 0, .int 0, .int 0, .int (-1), .int 0, .int 0])), (q22, .inl (cI, 6, .inl (fun _ => 0))), (q23, .inl (cI, 5, .inl (fun _ => 0))), (q24, .inl (cI, 80, .inl (fun _ => 0))), (q25, .inr (7, [.ref q27, .ref q28, .ref q29, .int 0, .int 0, .int 0, .int (-1), .int 0, .int 0])), (q27, .inl (cI, 6, .inl (fun _ => 0))), (q28, .inl (cI, 5, .inl (fun _ => 0))), (q29, .inl (cI, 80, .inl (fun _ => 0))), (q30, .inr (0, [.ref q32, .int 0, .int 0])), (q32, .inl (cI, 680, .inl (fun _ => 0))), (q33, .inr (8, [.ref q35, .ref q36, .ref q14, .ref q20, .ref q37, .ref q38, .null])), (q35, .inl (cI, 10, .inl (fun _ => 0))), (q36, .inl (cI, 10, .inl (fun _ => 0))), (q37, .inl (cI, 6, .inl (fun _ => 0))), (q38, .inl (cI, 32, .inl (fun _ => 0))), (q39, .inr (6, [.ref q14, .ref q20, .ref q33, .ref q41, .long 0, .int 0, .ref q42, .ref q43, .ref q44])), (q41, .inl (cJ, 10, .inr (.inl (fun _ => 0)))), (q42, .inl (cI, 10, .inl (fun _ => 0))), (q43, .inl (cI, 10, .inl (fun _ => 0))), (q44, .inl (cI, 45, .inl (fun _ => 0)))] H := hP
  have hD : va_D A [(h0, .inr (10, [.ref q1, .ref q4, .ref q6, .ref q9, .ref q14, .ref q19, .ref q20, .ref q25, .ref q30, .ref q33, .ref q39, .null, .null, .int 0, .int 0, .int 0, .int 0])), (q1, .inr (9, [.ref q3, .int 0, .int 0])), (q3, .inl (cI, 260, .inl (fun _ => 0))), (q4, .inr (2, [.null, .null, .int 0])), (q6, .inr (5, [.ref q8, .int 0, .null])), (q8, .inl (cI, 241, .inl (fun _ => 0))), (q9, .inr (1, [.ref q11, .ref q12, .ref q13, .int 0, .int 0])), (q11, .inl (cI, 3, .inl (fun _ => 0))), (q12, .inl (cI, 24, .inl (fun _ => 0))), (q13, .inl (cI, 20, .inl (fun _ => 0))), (q14, .inr (1, [.ref q16, .ref q17, .ref q18, .int 0, .int 0])), (q16, .inl (cI, 3, .inl (fun _ => 0))), (q17, .inl (cI, 24, .inl (fun _ => 0))), (q18, .inl (cI, 20, .inl (fun _ => 0))), (q19, .inl (cQ, 4, .inr (.inr (.inr (.inr (fun _ => none)))))), (q20, .inr (7, [.ref q22, .ref q23, .ref q24, .int 0, .int 0, .int 0, .int (-1), .int 0, .int 0])), (q22, .inl (cI, 6, .inl (fun _ => 0))), (q23, .inl (cI, 5, .inl (fun _ => 0))), (q24, .inl (cI, 80, .inl (fun _ => 0))), (q25, .inr (7, [.ref q27, .ref q28, .ref q29, .int 0, .int 0, .int 0, .int (-1), .int 0, .int 0])), (q27, .inl (cI, 6, .inl (fun _ => 0))), (q28, .inl (cI, 5, .inl (fun _ => 0))), (q29, .inl (cI, 80, .inl (fun _ => 0))), (q30, .inr (0, [.ref q32, .int 0, .int 0])), (q32, .inl (cI, 680, .inl (fun _ => 0))), (q33, .inr (8, [.ref q35, .ref q36, .ref q14, .ref q20, .ref q37, .ref q38, .null])), (q35, .inl (cI, 10, .inl (fun _ => 0))), (q36, .inl (cI, 10, .inl (fun _ => 0))), (q37, .inl (cI, 6, .inl (fun _ => 0))), (q38, .inl (cI, 32, .inl (fun _ => 0))), (q39, .inr (6, [.ref q14, .ref q20, .ref q33, .ref q41, .long 0, .int 0, .ref q42, .ref q43, .ref q44])), (q41, .inl (cJ, 10, .inr (.inl (fun _ => 0)))), (q42, .inl (cI, 10, .inl (fun _ => 0))), (q43, .inl (cI, 10, .inl (fun _ => 0))), (q44, .inl (cI, 45, .inl (fun _ => 0)))] := hD
  refine lv_aload_n hx hb dX10_init_142 rfl (lv_at hl 0 rfl) ?_
  refine va_new (ci := 3) (fs := [.long 0]) (C := RX3) (T := TX3) (N := 1) hx hb hts iX3 tyX3 tyX3_ok hown (hts _ qw346) (hts _ qw347) (hts _ qw107) hK hP hD hS hA rfl fsX3 (Nat.le_of_ble_eq_true rfl) (Nat.le_of_ble_eq_true rfl) dX10_init_143 (fun q45 H hP hD hS => ?_)
  have hP : va_P (dC, dI) vwCl [(h0, .inr (10, [.ref q1, .ref q4, .ref q6, .ref q9, .ref q14, .ref q19, .ref q20, .ref q25, .ref q30, .ref q33, .ref q39, .null, .null, .int 0, .int 0, .int 0, .int 0])), (q1, .inr (9, [.ref q3, .int 0, .int 0])), (q3, .inl (cI, 260, .inl (fun _ => 0))), (q4, .inr (2, [.null, .null, .int 0])), (q6, .inr (5, [.ref q8, .int 0, .null])), (q8, .inl (cI, 241, .inl (fun _ => 0))), (q9, .inr (1, [.ref q11, .ref q12, .ref q13, .int 0, .int 0])), (q11, .inl (cI, 3, .inl (fun _ => 0))), (q12, .inl (cI, 24, .inl (fun _ => 0))), (q13, .inl (cI, 20, .inl (fun _ => 0))), (q14, .inr (1, [.ref q16, .ref q17, .ref q18, .int 0, .int 0])), (q16, .inl (cI, 3, .inl (fun _ => 0))), (q17, .inl (cI, 24, .inl (fun _ => 0))), (q18, .inl (cI, 20, .inl (fun _ => 0))), (q19, .inl (cQ, 4, .inr (.inr (.inr (.inr (fun _ => none)))))), (q20, .inr (7, [.ref q22, .ref q23, .ref q24, .int 0, .int 0, .int 0, .int (-1), .int 0, .int 0])), (q22, .inl (cI, 6, .inl (fun _ => 0))), (q23, .inl (cI, 5, .inl (fun _ => 0))), (q24, .inl (cI, 80, .inl (fun _ => 0))), (q25, .inr (7, [.ref q27, .ref q28, .ref q29, .int 0, .int 0, .int 0, .int (-1), .int 0, .int 0])), (q27, .inl (cI, 6, .inl (fun _ => 0))), (q28, .inl (cI, 5, .inl (fun _ => 0))), (q29, .inl (cI, 80, .inl (fun _ => 0))), (q30, .inr (0, [.ref q32, .int 0, .int 0])), (q32, .inl (cI, 680, .inl (fun _ => 0))), (q33, .inr (8, [.ref q35, .ref q36, .ref q14, .ref q20, .ref q37, .ref q38, .null])), (q35, .inl (cI, 10, .inl (fun _ => 0))), (q36, .inl (cI, 10, .inl (fun _ => 0))), (q37, .inl (cI, 6, .inl (fun _ => 0))), (q38, .inl (cI, 32, .inl (fun _ => 0))), (q39, .inr (6, [.ref q14, .ref q20, .ref q33, .ref q41, .long 0, .int 0, .ref q42, .ref q43, .ref q44])), (q41, .inl (cJ, 10, .inr (.inl (fun _ => 0)))), (q42, .inl (cI, 10, .inl (fun _ => 0))), (q43, .inl (cI, 10, .inl (fun _ => 0))), (q44, .inl (cI, 45, .inl (fun _ => 0))), (q45, .inr (3, [.long 0]))] H := hP
  have hD : va_D A [(h0, .inr (10, [.ref q1, .ref q4, .ref q6, .ref q9, .ref q14, .ref q19, .ref q20, .ref q25, .ref q30, .ref q33, .ref q39, .null, .null, .int 0, .int 0, .int 0, .int 0])), (q1, .inr (9, [.ref q3, .int 0, .int 0])), (q3, .inl (cI, 260, .inl (fun _ => 0))), (q4, .inr (2, [.null, .null, .int 0])), (q6, .inr (5, [.ref q8, .int 0, .null])), (q8, .inl (cI, 241, .inl (fun _ => 0))), (q9, .inr (1, [.ref q11, .ref q12, .ref q13, .int 0, .int 0])), (q11, .inl (cI, 3, .inl (fun _ => 0))), (q12, .inl (cI, 24, .inl (fun _ => 0))), (q13, .inl (cI, 20, .inl (fun _ => 0))), (q14, .inr (1, [.ref q16, .ref q17, .ref q18, .int 0, .int 0])), (q16, .inl (cI, 3, .inl (fun _ => 0))), (q17, .inl (cI, 24, .inl (fun _ => 0))), (q18, .inl (cI, 20, .inl (fun _ => 0))), (q19, .inl (cQ, 4, .inr (.inr (.inr (.inr (fun _ => none)))))), (q20, .inr (7, [.ref q22, .ref q23, .ref q24, .int 0, .int 0, .int 0, .int (-1), .int 0, .int 0])), (q22, .inl (cI, 6, .inl (fun _ => 0))), (q23, .inl (cI, 5, .inl (fun _ => 0))), (q24, .inl (cI, 80, .inl (fun _ => 0))), (q25, .inr (7, [.ref q27, .ref q28, .ref q29, .int 0, .int 0, .int 0, .int (-1), .int 0, .int 0])), (q27, .inl (cI, 6, .inl (fun _ => 0))), (q28, .inl (cI, 5, .inl (fun _ => 0))), (q29, .inl (cI, 80, .inl (fun _ => 0))), (q30, .inr (0, [.ref q32, .int 0, .int 0])), (q32, .inl (cI, 680, .inl (fun _ => 0))), (q33, .inr (8, [.ref q35, .ref q36, .ref q14, .ref q20, .ref q37, .ref q38, .null])), (q35, .inl (cI, 10, .inl (fun _ => 0))), (q36, .inl (cI, 10, .inl (fun _ => 0))), (q37, .inl (cI, 6, .inl (fun _ => 0))), (q38, .inl (cI, 32, .inl (fun _ => 0))), (q39, .inr (6, [.ref q14, .ref q20, .ref q33, .ref q41, .long 0, .int 0, .ref q42, .ref q43, .ref q44])), (q41, .inl (cJ, 10, .inr (.inl (fun _ => 0)))), (q42, .inl (cI, 10, .inl (fun _ => 0))), (q43, .inl (cI, 10, .inl (fun _ => 0))), (q44, .inl (cI, 45, .inl (fun _ => 0))), (q45, .inr (3, [.long 0]))] := hD
  refine W.widen (k := 35) (n := 1651) (Nat.le_of_ble_eq_true rfl) (Nat.le_of_ble_eq_true rfl) ?_
  refine lv_dup hx hb dX10_init_146 rfl ?_
  have hPc : va_P (dC, dI) vwCl [] H := zP0
  have hDc : va_D (fun _ => True) [] := zD0
  have hFc := zfr hS hA
  refine va_callv (va_runIN (As := []) (rest := [.ref q45, .ref h0]) ⟨hx, hb, hml, hown, hts⟩ (c_X3_init l dC dI cI cJ q45 H.size) ⟨va_cnB 0 hts (zgI qw350) rfl rfl rfl (hN_83) (hts _ qw107) (hd_X3_init).2 ⟨Nat.le_of_ble_eq_true rfl, Nat.le_of_ble_eq_true rfl⟩, rfl, hts _ qw349⟩ (zPS hPc hK hDc) rfl rfl hl.1 rfl (lv_room (Nat.le_of_ble_eq_true rfl)) dX10_init_147 ⟨Nat.le_of_ble_eq_true rfl, Nat.le_of_ble_eq_true rfl⟩) hS (fun q _ h => hFc q h) hFc (fun u t H locs ht hvm hw hB hz1 hk1 hS => ?_)
  have hP := zkeep hP hk1
  refine va_putF (D := (dC, dI)) (ci := 10) (v := .ref q45) (ty := .object "NinePortraits$Draws") (C := RX10) (T := TX10) (N := 17) hx hb hts iX10 tyX10 tyX10_ok nmX10 hown hK hP hD hS 0 rfl rfl 11 (by decide) (hts _ qw367) (fun _ h9 => h9) rfl hin rfl (by decide +kernel) rfl rfl (Nat.le_of_ble_eq_true rfl) dX10_init_150 (fun H locs hP hD hS => ?_)
  have hP : va_P (dC, dI) vwCl [(h0, .inr (10, [.ref q1, .ref q4, .ref q6, .ref q9, .ref q14, .ref q19, .ref q20, .ref q25, .ref q30, .ref q33, .ref q39, .ref q45, .null, .int 0, .int 0, .int 0, .int 0])), (q1, .inr (9, [.ref q3, .int 0, .int 0])), (q3, .inl (cI, 260, .inl (fun _ => 0))), (q4, .inr (2, [.null, .null, .int 0])), (q6, .inr (5, [.ref q8, .int 0, .null])), (q8, .inl (cI, 241, .inl (fun _ => 0))), (q9, .inr (1, [.ref q11, .ref q12, .ref q13, .int 0, .int 0])), (q11, .inl (cI, 3, .inl (fun _ => 0))), (q12, .inl (cI, 24, .inl (fun _ => 0))), (q13, .inl (cI, 20, .inl (fun _ => 0))), (q14, .inr (1, [.ref q16, .ref q17, .ref q18, .int 0, .int 0])), (q16, .inl (cI, 3, .inl (fun _ => 0))), (q17, .inl (cI, 24, .inl (fun _ => 0))), (q18, .inl (cI, 20, .inl (fun _ => 0))), (q19, .inl (cQ, 4, .inr (.inr (.inr (.inr (fun _ => none)))))), (q20, .inr (7, [.ref q22, .ref q23, .ref q24, .int 0, .int 0, .int 0, .int (-1), .int 0, .int 0])), (q22, .inl (cI, 6, .inl (fun _ => 0))), (q23, .inl (cI, 5, .inl (fun _ => 0))), (q24, .inl (cI, 80, .inl (fun _ => 0))), (q25, .inr (7, [.ref q27, .ref q28, .ref q29, .int 0, .int 0, .int 0, .int (-1), .int 0, .int 0])), (q27, .inl (cI, 6, .inl (fun _ => 0))), (q28, .inl (cI, 5, .inl (fun _ => 0))), (q29, .inl (cI, 80, .inl (fun _ => 0))), (q30, .inr (0, [.ref q32, .int 0, .int 0])), (q32, .inl (cI, 680, .inl (fun _ => 0))), (q33, .inr (8, [.ref q35, .ref q36, .ref q14, .ref q20, .ref q37, .ref q38, .null])), (q35, .inl (cI, 10, .inl (fun _ => 0))), (q36, .inl (cI, 10, .inl (fun _ => 0))), (q37, .inl (cI, 6, .inl (fun _ => 0))), (q38, .inl (cI, 32, .inl (fun _ => 0))), (q39, .inr (6, [.ref q14, .ref q20, .ref q33, .ref q41, .long 0, .int 0, .ref q42, .ref q43, .ref q44])), (q41, .inl (cJ, 10, .inr (.inl (fun _ => 0)))), (q42, .inl (cI, 10, .inl (fun _ => 0))), (q43, .inl (cI, 10, .inl (fun _ => 0))), (q44, .inl (cI, 45, .inl (fun _ => 0))), (q45, .inr (3, [.long 0]))] H := hP
  have hD : va_D A [(h0, .inr (10, [.ref q1, .ref q4, .ref q6, .ref q9, .ref q14, .ref q19, .ref q20, .ref q25, .ref q30, .ref q33, .ref q39, .ref q45, .null, .int 0, .int 0, .int 0, .int 0])), (q1, .inr (9, [.ref q3, .int 0, .int 0])), (q3, .inl (cI, 260, .inl (fun _ => 0))), (q4, .inr (2, [.null, .null, .int 0])), (q6, .inr (5, [.ref q8, .int 0, .null])), (q8, .inl (cI, 241, .inl (fun _ => 0))), (q9, .inr (1, [.ref q11, .ref q12, .ref q13, .int 0, .int 0])), (q11, .inl (cI, 3, .inl (fun _ => 0))), (q12, .inl (cI, 24, .inl (fun _ => 0))), (q13, .inl (cI, 20, .inl (fun _ => 0))), (q14, .inr (1, [.ref q16, .ref q17, .ref q18, .int 0, .int 0])), (q16, .inl (cI, 3, .inl (fun _ => 0))), (q17, .inl (cI, 24, .inl (fun _ => 0))), (q18, .inl (cI, 20, .inl (fun _ => 0))), (q19, .inl (cQ, 4, .inr (.inr (.inr (.inr (fun _ => none)))))), (q20, .inr (7, [.ref q22, .ref q23, .ref q24, .int 0, .int 0, .int 0, .int (-1), .int 0, .int 0])), (q22, .inl (cI, 6, .inl (fun _ => 0))), (q23, .inl (cI, 5, .inl (fun _ => 0))), (q24, .inl (cI, 80, .inl (fun _ => 0))), (q25, .inr (7, [.ref q27, .ref q28, .ref q29, .int 0, .int 0, .int 0, .int (-1), .int 0, .int 0])), (q27, .inl (cI, 6, .inl (fun _ => 0))), (q28, .inl (cI, 5, .inl (fun _ => 0))), (q29, .inl (cI, 80, .inl (fun _ => 0))), (q30, .inr (0, [.ref q32, .int 0, .int 0])), (q32, .inl (cI, 680, .inl (fun _ => 0))), (q33, .inr (8, [.ref q35, .ref q36, .ref q14, .ref q20, .ref q37, .ref q38, .null])), (q35, .inl (cI, 10, .inl (fun _ => 0))), (q36, .inl (cI, 10, .inl (fun _ => 0))), (q37, .inl (cI, 6, .inl (fun _ => 0))), (q38, .inl (cI, 32, .inl (fun _ => 0))), (q39, .inr (6, [.ref q14, .ref q20, .ref q33, .ref q41, .long 0, .int 0, .ref q42, .ref q43, .ref q44])), (q41, .inl (cJ, 10, .inr (.inl (fun _ => 0)))), (q42, .inl (cI, 10, .inl (fun _ => 0))), (q43, .inl (cI, 10, .inl (fun _ => 0))), (q44, .inl (cI, 45, .inl (fun _ => 0))), (q45, .inr (3, [.long 0]))] := hD
  refine lv_aload_n hx hb dX10_init_153 rfl (lv_at hl 0 rfl) ?_
  refine lv_iconst (v := 5) hx hb dX10_init_154 (by decide) ?_
  refine va_newa (atype := .int) (ty := .int) (N' := 5) (a0 := (5, .inl (fun _ => 0))) hx hb (hts _ qw147) rfl hK hP hD hS hA (fun _ => rfl) (by decide) (by decide) (Nat.le_of_ble_eq_true rfl) (Nat.le_of_ble_eq_true rfl) (Nat.le_of_ble_eq_true rfl) dX10_init_155 (fun q47 cA H hK2 hP hD hS => ?_)
  obtain rfl : cI = cA := (zcA hK2 0 2 rfl rfl).symm
  have hP : va_P (dC, dI) vwCl [(h0, .inr (10, [.ref q1, .ref q4, .ref q6, .ref q9, .ref q14, .ref q19, .ref q20, .ref q25, .ref q30, .ref q33, .ref q39, .ref q45, .null, .int 0, .int 0, .int 0, .int 0])), (q1, .inr (9, [.ref q3, .int 0, .int 0])), (q3, .inl (cI, 260, .inl (fun _ => 0))), (q4, .inr (2, [.null, .null, .int 0])), (q6, .inr (5, [.ref q8, .int 0, .null])), (q8, .inl (cI, 241, .inl (fun _ => 0))), (q9, .inr (1, [.ref q11, .ref q12, .ref q13, .int 0, .int 0])), (q11, .inl (cI, 3, .inl (fun _ => 0))), (q12, .inl (cI, 24, .inl (fun _ => 0))), (q13, .inl (cI, 20, .inl (fun _ => 0))), (q14, .inr (1, [.ref q16, .ref q17, .ref q18, .int 0, .int 0])), (q16, .inl (cI, 3, .inl (fun _ => 0))), (q17, .inl (cI, 24, .inl (fun _ => 0))), (q18, .inl (cI, 20, .inl (fun _ => 0))), (q19, .inl (cQ, 4, .inr (.inr (.inr (.inr (fun _ => none)))))), (q20, .inr (7, [.ref q22, .ref q23, .ref q24, .int 0, .int 0, .int 0, .int (-1), .int 0, .int 0])), (q22, .inl (cI, 6, .inl (fun _ => 0))), (q23, .inl (cI, 5, .inl (fun _ => 0))), (q24, .inl (cI, 80, .inl (fun _ => 0))), (q25, .inr (7, [.ref q27, .ref q28, .ref q29, .int 0, .int 0, .int 0, .int (-1), .int 0, .int 0])), (q27, .inl (cI, 6, .inl (fun _ => 0))), (q28, .inl (cI, 5, .inl (fun _ => 0))), (q29, .inl (cI, 80, .inl (fun _ => 0))), (q30, .inr (0, [.ref q32, .int 0, .int 0])), (q32, .inl (cI, 680, .inl (fun _ => 0))), (q33, .inr (8, [.ref q35, .ref q36, .ref q14, .ref q20, .ref q37, .ref q38, .null])), (q35, .inl (cI, 10, .inl (fun _ => 0))), (q36, .inl (cI, 10, .inl (fun _ => 0))), (q37, .inl (cI, 6, .inl (fun _ => 0))), (q38, .inl (cI, 32, .inl (fun _ => 0))), (q39, .inr (6, [.ref q14, .ref q20, .ref q33, .ref q41, .long 0, .int 0, .ref q42, .ref q43, .ref q44])), (q41, .inl (cJ, 10, .inr (.inl (fun _ => 0)))), (q42, .inl (cI, 10, .inl (fun _ => 0))), (q43, .inl (cI, 10, .inl (fun _ => 0))), (q44, .inl (cI, 45, .inl (fun _ => 0))), (q45, .inr (3, [.long 0])), (q47, .inl (cI, 5, .inl (fun _ => 0)))] H := hP
  have hD : va_D A [(h0, .inr (10, [.ref q1, .ref q4, .ref q6, .ref q9, .ref q14, .ref q19, .ref q20, .ref q25, .ref q30, .ref q33, .ref q39, .ref q45, .null, .int 0, .int 0, .int 0, .int 0])), (q1, .inr (9, [.ref q3, .int 0, .int 0])), (q3, .inl (cI, 260, .inl (fun _ => 0))), (q4, .inr (2, [.null, .null, .int 0])), (q6, .inr (5, [.ref q8, .int 0, .null])), (q8, .inl (cI, 241, .inl (fun _ => 0))), (q9, .inr (1, [.ref q11, .ref q12, .ref q13, .int 0, .int 0])), (q11, .inl (cI, 3, .inl (fun _ => 0))), (q12, .inl (cI, 24, .inl (fun _ => 0))), (q13, .inl (cI, 20, .inl (fun _ => 0))), (q14, .inr (1, [.ref q16, .ref q17, .ref q18, .int 0, .int 0])), (q16, .inl (cI, 3, .inl (fun _ => 0))), (q17, .inl (cI, 24, .inl (fun _ => 0))), (q18, .inl (cI, 20, .inl (fun _ => 0))), (q19, .inl (cQ, 4, .inr (.inr (.inr (.inr (fun _ => none)))))), (q20, .inr (7, [.ref q22, .ref q23, .ref q24, .int 0, .int 0, .int 0, .int (-1), .int 0, .int 0])), (q22, .inl (cI, 6, .inl (fun _ => 0))), (q23, .inl (cI, 5, .inl (fun _ => 0))), (q24, .inl (cI, 80, .inl (fun _ => 0))), (q25, .inr (7, [.ref q27, .ref q28, .ref q29, .int 0, .int 0, .int 0, .int (-1), .int 0, .int 0])), (q27, .inl (cI, 6, .inl (fun _ => 0))), (q28, .inl (cI, 5, .inl (fun _ => 0))), (q29, .inl (cI, 80, .inl (fun _ => 0))), (q30, .inr (0, [.ref q32, .int 0, .int 0])), (q32, .inl (cI, 680, .inl (fun _ => 0))), (q33, .inr (8, [.ref q35, .ref q36, .ref q14, .ref q20, .ref q37, .ref q38, .null])), (q35, .inl (cI, 10, .inl (fun _ => 0))), (q36, .inl (cI, 10, .inl (fun _ => 0))), (q37, .inl (cI, 6, .inl (fun _ => 0))), (q38, .inl (cI, 32, .inl (fun _ => 0))), (q39, .inr (6, [.ref q14, .ref q20, .ref q33, .ref q41, .long 0, .int 0, .ref q42, .ref q43, .ref q44])), (q41, .inl (cJ, 10, .inr (.inl (fun _ => 0)))), (q42, .inl (cI, 10, .inl (fun _ => 0))), (q43, .inl (cI, 10, .inl (fun _ => 0))), (q44, .inl (cI, 45, .inl (fun _ => 0))), (q45, .inr (3, [.long 0])), (q47, .inl (cI, 5, .inl (fun _ => 0)))] := hD
  refine W.widen (k := 36) (n := 1656) (Nat.le_of_ble_eq_true rfl) (Nat.le_of_ble_eq_true rfl) ?_
  refine va_putF (D := (dC, dI)) (ci := 10) (v := .ref q47) (ty := .array .int) (C := RX10) (T := TX10) (N := 17) hx hb hts iX10 tyX10 tyX10_ok nmX10 hown hK hP hD hS 0 rfl rfl 12 (by decide) (hts _ qw368) (fun _ h9 => h9) rfl hin rfl (by decide +kernel) rfl rfl (Nat.le_of_ble_eq_true rfl) dX10_init_157 (fun H locs hP hD hS => ?_)
  have hP : va_P (dC, dI) vwCl [(h0, .inr (10, [.ref q1, .ref q4, .ref q6, .ref q9, .ref q14, .ref q19, .ref q20, .ref q25, .ref q30, .ref q33, .ref q39, .ref q45, .ref q47, .int 0, .int 0, .int 0, .int 0])), (q1, .inr (9, [.ref q3, .int 0, .int 0])), (q3, .inl (cI, 260, .inl (fun _ => 0))), (q4, .inr (2, [.null, .null, .int 0])), (q6, .inr (5, [.ref q8, .int 0, .null])), (q8, .inl (cI, 241, .inl (fun _ => 0))), (q9, .inr (1, [.ref q11, .ref q12, .ref q13, .int 0, .int 0])), (q11, .inl (cI, 3, .inl (fun _ => 0))), (q12, .inl (cI, 24, .inl (fun _ => 0))), (q13, .inl (cI, 20, .inl (fun _ => 0))), (q14, .inr (1, [.ref q16, .ref q17, .ref q18, .int 0, .int 0])), (q16, .inl (cI, 3, .inl (fun _ => 0))), (q17, .inl (cI, 24, .inl (fun _ => 0))), (q18, .inl (cI, 20, .inl (fun _ => 0))), (q19, .inl (cQ, 4, .inr (.inr (.inr (.inr (fun _ => none)))))), (q20, .inr (7, [.ref q22, .ref q23, .ref q24, .int 0, .int 0, .int 0, .int (-1), .int 0, .int 0])), (q22, .inl (cI, 6, .inl (fun _ => 0))), (q23, .inl (cI, 5, .inl (fun _ => 0))), (q24, .inl (cI, 80, .inl (fun _ => 0))), (q25, .inr (7, [.ref q27, .ref q28, .ref q29, .int 0, .int 0, .int 0, .int (-1), .int 0, .int 0])), (q27, .inl (cI, 6, .inl (fun _ => 0))), (q28, .inl (cI, 5, .inl (fun _ => 0))), (q29, .inl (cI, 80, .inl (fun _ => 0))), (q30, .inr (0, [.ref q32, .int 0, .int 0])), (q32, .inl (cI, 680, .inl (fun _ => 0))), (q33, .inr (8, [.ref q35, .ref q36, .ref q14, .ref q20, .ref q37, .ref q38, .null])), (q35, .inl (cI, 10, .inl (fun _ => 0))), (q36, .inl (cI, 10, .inl (fun _ => 0))), (q37, .inl (cI, 6, .inl (fun _ => 0))), (q38, .inl (cI, 32, .inl (fun _ => 0))), (q39, .inr (6, [.ref q14, .ref q20, .ref q33, .ref q41, .long 0, .int 0, .ref q42, .ref q43, .ref q44])), (q41, .inl (cJ, 10, .inr (.inl (fun _ => 0)))), (q42, .inl (cI, 10, .inl (fun _ => 0))), (q43, .inl (cI, 10, .inl (fun _ => 0))), (q44, .inl (cI, 45, .inl (fun _ => 0))), (q45, .inr (3, [.long 0])), (q47, .inl (cI, 5, .inl (fun _ => 0)))] H := hP
  have hD : va_D A [(h0, .inr (10, [.ref q1, .ref q4, .ref q6, .ref q9, .ref q14, .ref q19, .ref q20, .ref q25, .ref q30, .ref q33, .ref q39, .ref q45, .ref q47, .int 0, .int 0, .int 0, .int 0])), (q1, .inr (9, [.ref q3, .int 0, .int 0])), (q3, .inl (cI, 260, .inl (fun _ => 0))), (q4, .inr (2, [.null, .null, .int 0])), (q6, .inr (5, [.ref q8, .int 0, .null])), (q8, .inl (cI, 241, .inl (fun _ => 0))), (q9, .inr (1, [.ref q11, .ref q12, .ref q13, .int 0, .int 0])), (q11, .inl (cI, 3, .inl (fun _ => 0))), (q12, .inl (cI, 24, .inl (fun _ => 0))), (q13, .inl (cI, 20, .inl (fun _ => 0))), (q14, .inr (1, [.ref q16, .ref q17, .ref q18, .int 0, .int 0])), (q16, .inl (cI, 3, .inl (fun _ => 0))), (q17, .inl (cI, 24, .inl (fun _ => 0))), (q18, .inl (cI, 20, .inl (fun _ => 0))), (q19, .inl (cQ, 4, .inr (.inr (.inr (.inr (fun _ => none)))))), (q20, .inr (7, [.ref q22, .ref q23, .ref q24, .int 0, .int 0, .int 0, .int (-1), .int 0, .int 0])), (q22, .inl (cI, 6, .inl (fun _ => 0))), (q23, .inl (cI, 5, .inl (fun _ => 0))), (q24, .inl (cI, 80, .inl (fun _ => 0))), (q25, .inr (7, [.ref q27, .ref q28, .ref q29, .int 0, .int 0, .int 0, .int (-1), .int 0, .int 0])), (q27, .inl (cI, 6, .inl (fun _ => 0))), (q28, .inl (cI, 5, .inl (fun _ => 0))), (q29, .inl (cI, 80, .inl (fun _ => 0))), (q30, .inr (0, [.ref q32, .int 0, .int 0])), (q32, .inl (cI, 680, .inl (fun _ => 0))), (q33, .inr (8, [.ref q35, .ref q36, .ref q14, .ref q20, .ref q37, .ref q38, .null])), (q35, .inl (cI, 10, .inl (fun _ => 0))), (q36, .inl (cI, 10, .inl (fun _ => 0))), (q37, .inl (cI, 6, .inl (fun _ => 0))), (q38, .inl (cI, 32, .inl (fun _ => 0))), (q39, .inr (6, [.ref q14, .ref q20, .ref q33, .ref q41, .long 0, .int 0, .ref q42, .ref q43, .ref q44])), (q41, .inl (cJ, 10, .inr (.inl (fun _ => 0)))), (q42, .inl (cI, 10, .inl (fun _ => 0))), (q43, .inl (cI, 10, .inl (fun _ => 0))), (q44, .inl (cI, 45, .inl (fun _ => 0))), (q45, .inr (3, [.long 0])), (q47, .inl (cI, 5, .inl (fun _ => 0)))] := hD
  refine lv_aload_n hx hb dX10_init_160 rfl (lv_at hl 0 rfl) ?_
  refine lv_iconst (v := (-1)) hx hb dX10_init_161 (by decide) ?_
  refine va_put (D := (dC, dI)) (ci := 10) (v := .int (-1)) (ty := .int) (C := RX10) (T := TX10) (N := 17) hx hb hts iX10 tyX10 tyX10_ok nmX10 hown hK hP hD hS 0 rfl rfl 14 (by decide) (hts _ qw370) (fun _ h9 => h9) rfl (by decide +kernel) rfl rfl (Nat.le_of_ble_eq_true rfl) dX10_init_162 (fun H locs hP hD hS => ?_)
  have hP : va_P (dC, dI) vwCl [(h0, .inr (10, [.ref q1, .ref q4, .ref q6, .ref q9, .ref q14, .ref q19, .ref q20, .ref q25, .ref q30, .ref q33, .ref q39, .ref q45, .ref q47, .int 0, .int (-1), .int 0, .int 0])), (q1, .inr (9, [.ref q3, .int 0, .int 0])), (q3, .inl (cI, 260, .inl (fun _ => 0))), (q4, .inr (2, [.null, .null, .int 0])), (q6, .inr (5, [.ref q8, .int 0, .null])), (q8, .inl (cI, 241, .inl (fun _ => 0))), (q9, .inr (1, [.ref q11, .ref q12, .ref q13, .int 0, .int 0])), (q11, .inl (cI, 3, .inl (fun _ => 0))), (q12, .inl (cI, 24, .inl (fun _ => 0))), (q13, .inl (cI, 20, .inl (fun _ => 0))), (q14, .inr (1, [.ref q16, .ref q17, .ref q18, .int 0, .int 0])), (q16, .inl (cI, 3, .inl (fun _ => 0))), (q17, .inl (cI, 24, .inl (fun _ => 0))), (q18, .inl (cI, 20, .inl (fun _ => 0))), (q19, .inl (cQ, 4, .inr (.inr (.inr (.inr (fun _ => none)))))), (q20, .inr (7, [.ref q22, .ref q23, .ref q24, .int 0, .int 0, .int 0, .int (-1), .int 0, .int 0])), (q22, .inl (cI, 6, .inl (fun _ => 0))), (q23, .inl (cI, 5, .inl (fun _ => 0))), (q24, .inl (cI, 80, .inl (fun _ => 0))), (q25, .inr (7, [.ref q27, .ref q28, .ref q29, .int 0, .int 0, .int 0, .int (-1), .int 0, .int 0])), (q27, .inl (cI, 6, .inl (fun _ => 0))), (q28, .inl (cI, 5, .inl (fun _ => 0))), (q29, .inl (cI, 80, .inl (fun _ => 0))), (q30, .inr (0, [.ref q32, .int 0, .int 0])), (q32, .inl (cI, 680, .inl (fun _ => 0))), (q33, .inr (8, [.ref q35, .ref q36, .ref q14, .ref q20, .ref q37, .ref q38, .null])), (q35, .inl (cI, 10, .inl (fun _ => 0))), (q36, .inl (cI, 10, .inl (fun _ => 0))), (q37, .inl (cI, 6, .inl (fun _ => 0))), (q38, .inl (cI, 32, .inl (fun _ => 0))), (q39, .inr (6, [.ref q14, .ref q20, .ref q33, .ref q41, .long 0, .int 0, .ref q42, .ref q43, .ref q44])), (q41, .inl (cJ, 10, .inr (.inl (fun _ => 0)))), (q42, .inl (cI, 10, .inl (fun _ => 0))), (q43, .inl (cI, 10, .inl (fun _ => 0))), (q44, .inl (cI, 45, .inl (fun _ => 0))), (q45, .inr (3, [.long 0])), (q47, .inl (cI, 5, .inl (fun _ => 0)))] H := hP
  have hD : va_D A [(h0, .inr (10, [.ref q1, .ref q4, .ref q6, .ref q9, .ref q14, .ref q19, .ref q20, .ref q25, .ref q30, .ref q33, .ref q39, .ref q45, .ref q47, .int 0, .int (-1), .int 0, .int 0])), (q1, .inr (9, [.ref q3, .int 0, .int 0])), (q3, .inl (cI, 260, .inl (fun _ => 0))), (q4, .inr (2, [.null, .null, .int 0])), (q6, .inr (5, [.ref q8, .int 0, .null])), (q8, .inl (cI, 241, .inl (fun _ => 0))), (q9, .inr (1, [.ref q11, .ref q12, .ref q13, .int 0, .int 0])), (q11, .inl (cI, 3, .inl (fun _ => 0))), (q12, .inl (cI, 24, .inl (fun _ => 0))), (q13, .inl (cI, 20, .inl (fun _ => 0))), (q14, .inr (1, [.ref q16, .ref q17, .ref q18, .int 0, .int 0])), (q16, .inl (cI, 3, .inl (fun _ => 0))), (q17, .inl (cI, 24, .inl (fun _ => 0))), (q18, .inl (cI, 20, .inl (fun _ => 0))), (q19, .inl (cQ, 4, .inr (.inr (.inr (.inr (fun _ => none)))))), (q20, .inr (7, [.ref q22, .ref q23, .ref q24, .int 0, .int 0, .int 0, .int (-1), .int 0, .int 0])), (q22, .inl (cI, 6, .inl (fun _ => 0))), (q23, .inl (cI, 5, .inl (fun _ => 0))), (q24, .inl (cI, 80, .inl (fun _ => 0))), (q25, .inr (7, [.ref q27, .ref q28, .ref q29, .int 0, .int 0, .int 0, .int (-1), .int 0, .int 0])), (q27, .inl (cI, 6, .inl (fun _ => 0))), (q28, .inl (cI, 5, .inl (fun _ => 0))), (q29, .inl (cI, 80, .inl (fun _ => 0))), (q30, .inr (0, [.ref q32, .int 0, .int 0])), (q32, .inl (cI, 680, .inl (fun _ => 0))), (q33, .inr (8, [.ref q35, .ref q36, .ref q14, .ref q20, .ref q37, .ref q38, .null])), (q35, .inl (cI, 10, .inl (fun _ => 0))), (q36, .inl (cI, 10, .inl (fun _ => 0))), (q37, .inl (cI, 6, .inl (fun _ => 0))), (q38, .inl (cI, 32, .inl (fun _ => 0))), (q39, .inr (6, [.ref q14, .ref q20, .ref q33, .ref q41, .long 0, .int 0, .ref q42, .ref q43, .ref q44])), (q41, .inl (cJ, 10, .inr (.inl (fun _ => 0)))), (q42, .inl (cI, 10, .inl (fun _ => 0))), (q43, .inl (cI, 10, .inl (fun _ => 0))), (q44, .inl (cI, 45, .inl (fun _ => 0))), (q45, .inr (3, [.long 0])), (q47, .inl (cI, 5, .inl (fun _ => 0)))] := hD
  exact W.vret hx hb hr (fun t ht hW => ⟨⟨(), rfl, trivial, ⟨q1, q3, q4, q6, q8, q9, q11, q12, q13, q14, q16, q17, q18, q19, q20, q22, q23, q24, q25, q27, q28, q29, q30, q32, q33, q35, q36, q37, q38, q39, q41, q42, q43, q44, q45, q47, by rw [ht]; exact hP, hD⟩⟩, hS.F ht⟩) hS.2.2 dX10_init_165
set_option maxHeartbeats 4000000 in
set_option maxRecDepth 100000 in
theorem c_X11_init (l : Launch) (dC : Nat → ClassId) (dI : Nat → Nat → Nat) (cI cJ : ClassId) (h0 : Nat) (sz : Nat) : Met l yX11_init (.code yX11_init cX11_init 1 none :: wA) ({ frames := 1, cells := 23, slots := 11830, locals := 20 }) (zP (dC, dI) [(cI, .int), (cJ, .long)] [.ref h0] sz [(h0, .inr (11, [.int 0, .null, .int 0, .int 0, .int 0, .int 0, .null, .null, .null, .null, .null, .null, .null, .int 0, .int 0, .null, .null, .null, .null, .null, .int 0, .int 0, .null, .null, .null, .int 0, .int 0, .null, .null, .int 0, .int 0, .null, .int 0, .long 0, .null, .int 0, .int 0, .null, .null, .null, .int 0]))]) (va_Qv (fun (_ : Unit) => True) (fun (_ : Unit) (t : State) => ∃ (q1 : Nat) (q2 : Nat) (q3 : Nat) (q4 : Nat) (q5 : Nat) (q6 : Nat) (q7 : Nat) (q8 : Nat) (q9 : Nat) (q10 : Nat) (q11 : Nat) (q12 : Nat) (q13 : Nat) (q14 : Nat) (q15 : Nat) (q16 : Nat) (q17 : Nat) (q18 : Nat) (q19 : Nat) (q20 : Nat) (q21 : Nat) (q22 : Nat) (q23 : Nat), va_P (dC, dI) vwCl [(h0, .inr (11, [.int 0, .ref q1, .int 0, .int 0, .int 0, .int 0, .ref q2, .ref q3, .ref q4, .ref q5, .ref q6, .ref q7, .ref q8, .int 0, .int 0, .ref q9, .ref q10, .ref q11, .ref q12, .ref q13, .int 0, .int 0, .ref q14, .ref q15, .ref q16, .int 0, .int 0, .ref q17, .ref q18, .int (-1), .int 0, .ref q19, .int 0, .long 0, .ref q20, .int 0, .int 0, .ref q21, .ref q22, .ref q23, .int 0])), (q1, .inl (cI, 240, .inl (fun _ => 0))), (q2, .inl (cI, 2600, .inl (fun _ => 0))), (q3, .inl (cI, 2600, .inl (fun _ => 0))), (q4, .inl (cI, 5, .inl (fun _ => 0))), (q5, .inl (cI, 5, .inl (fun _ => 0))), (q6, .inl (cI, 700, .inl (fun _ => 0))), (q7, .inl (cI, 700, .inl (fun _ => 0))), (q8, .inl (cI, 700, .inl (fun _ => 0))), (q9, .inl (cI, 6, .inl (fun _ => 0))), (q10, .inl (cI, 80, .inl (fun _ => 0))), (q11, .inl (cI, 3, .inl (fun _ => 0))), (q12, .inl (cI, 24, .inl (fun _ => 0))), (q13, .inl (cI, 20, .inl (fun _ => 0))), (q14, .inl (cI, 3, .inl (fun _ => 0))), (q15, .inl (cI, 24, .inl (fun _ => 0))), (q16, .inl (cI, 20, .inl (fun _ => 0))), (q17, .inl (cI, 97, .inl (fun _ => 0))), (q18, .inl (cI, 5, .inl (fun _ => 0))), (q19, .inl (cI, 3880, .inl (fun _ => 0))), (q20, .inl (cI, 10, .inl (fun _ => 0))), (q21, .inl (cI, 6, .inl (fun _ => 0))), (q22, .inl (cI, 5, .inl (fun _ => 0))), (q23, .inl (cI, 97, .inl (fun _ => 0)))] t.heap ∧ va_D (va_A [(h0, .inr (11, [.int 0, .null, .int 0, .int 0, .int 0, .int 0, .null, .null, .null, .null, .null, .null, .null, .int 0, .int 0, .null, .null, .null, .null, .null, .int 0, .int 0, .null, .null, .null, .int 0, .int 0, .null, .null, .int 0, .int 0, .null, .int 0, .long 0, .null, .int 0, .int 0, .null, .null, .null, .int 0]))] sz) [(h0, .inr (11, [.int 0, .ref q1, .int 0, .int 0, .int 0, .int 0, .ref q2, .ref q3, .ref q4, .ref q5, .ref q6, .ref q7, .ref q8, .int 0, .int 0, .ref q9, .ref q10, .ref q11, .ref q12, .ref q13, .int 0, .int 0, .ref q14, .ref q15, .ref q16, .int 0, .int 0, .ref q17, .ref q18, .int (-1), .int 0, .ref q19, .int 0, .long 0, .ref q20, .int 0, .int 0, .ref q21, .ref q22, .ref q23, .int 0])), (q1, .inl (cI, 240, .inl (fun _ => 0))), (q2, .inl (cI, 2600, .inl (fun _ => 0))), (q3, .inl (cI, 2600, .inl (fun _ => 0))), (q4, .inl (cI, 5, .inl (fun _ => 0))), (q5, .inl (cI, 5, .inl (fun _ => 0))), (q6, .inl (cI, 700, .inl (fun _ => 0))), (q7, .inl (cI, 700, .inl (fun _ => 0))), (q8, .inl (cI, 700, .inl (fun _ => 0))), (q9, .inl (cI, 6, .inl (fun _ => 0))), (q10, .inl (cI, 80, .inl (fun _ => 0))), (q11, .inl (cI, 3, .inl (fun _ => 0))), (q12, .inl (cI, 24, .inl (fun _ => 0))), (q13, .inl (cI, 20, .inl (fun _ => 0))), (q14, .inl (cI, 3, .inl (fun _ => 0))), (q15, .inl (cI, 24, .inl (fun _ => 0))), (q16, .inl (cI, 20, .inl (fun _ => 0))), (q17, .inl (cI, 97, .inl (fun _ => 0))), (q18, .inl (cI, 5, .inl (fun _ => 0))), (q19, .inl (cI, 3880, .inl (fun _ => 0))), (q20, .inl (cI, 10, .inl (fun _ => 0))), (q21, .inl (cI, 6, .inl (fun _ => 0))), (q22, .inl (cI, 5, .inl (fun _ => 0))), (q23, .inl (cI, 97, .inl (fun _ => 0)))]) (va_A [(h0, .inr (11, [.int 0, .null, .int 0, .int 0, .int 0, .int 0, .null, .null, .null, .null, .null, .null, .null, .int 0, .int 0, .null, .null, .null, .null, .null, .int 0, .int 0, .null, .null, .null, .int 0, .int 0, .null, .null, .int 0, .int 0, .null, .int 0, .long 0, .null, .int 0, .int 0, .null, .null, .null, .int 0]))] sz)) 23 11830 (va_A [(h0, .inr (11, [.int 0, .null, .int 0, .int 0, .int 0, .int 0, .null, .null, .null, .null, .null, .null, .null, .int 0, .int 0, .null, .null, .null, .null, .null, .int 0, .int 0, .null, .null, .null, .int 0, .int 0, .null, .null, .int 0, .int 0, .null, .int 0, .long 0, .null, .int 0, .int 0, .null, .null, .null, .int 0]))] sz) := by
  refine Met.ofW (cc := cX11_init) (maxL := 1) (ret := none) (by decide) rfl ?_
  intro p e s m args below meth c s₁ B hml hv
  obtain ⟨rfl, hsz, hP, hK, hT⟩ := hv
  have hx := B.exec
  have hb := B.bytes
  have hr := B.returns
  have hts : ∀ w ∈ wA, w.before _ s = true := fun w h => atoms_spec (ws := .code yX11_init cX11_init 1 none :: wA) B.pre w (List.mem_cons_of_mem _ h)
  have hown : s.vm.findClass RX11 = some m.cls := findClass_of_methodNamed B.named
  have hlocks := B.notSynchronized
  have hin : meth.name = "<init>" := (name_of_methodNamed B.named B.method).1
  subst hsz
  have hD := hT.self (sz := s.heap.size)
  generalize hAe : va_A [(h0, .inr (11, [.int 0, .null, .int 0, .int 0, .int 0, .int 0, .null, .null, .null, .null, .null, .null, .null, .int 0, .int 0, .null, .null, .null, .null, .null, .int 0, .int 0, .null, .null, .null, .int 0, .int 0, .null, .null, .int 0, .int 0, .null, .int 0, .long 0, .null, .int 0, .int 0, .null, .null, .null, .int 0]))] s.heap.size = A at hD ⊢
  have hA : ∀ q : Nat, s.heap.size ≤ q → A q := fun q h => by rw [← hAe]; exact Or.inr h
  have hl := lv_entry ([.ref h0]) (n := 1) (Nat.le_of_ble_eq_true rfl)
  rw [lg_entry_eq]
  generalize (lg_sl ([.ref h0]) ++ List.replicate (1 - (lg_sl ([.ref h0])).length) Slot.unset).toArray = ls at hl ⊢
  have hl : lv_has ls 1 [(0, .ref h0)] := hl
  refine zstart (fun H hH => ?_)
  rw [← hH] at hP
  have hS : va_S A s.heap H [] := by rw [hH]; exact va_S.rf
  refine lv_aload_n hx hb dX11_init_0 rfl (lv_at hl 0 rfl) ?_
  refine W.objInit hx hb hown (hts _ qw1126) (hts _ qw124) (hts _ qw125) rfl (by rw [hml]; exact hl.1) rfl dX11_init_1 (Nat.le_of_ble_eq_true rfl) (Nat.le_of_ble_eq_true rfl) ?_
  refine W.eq (g2 := F0 m 4 ls []) rfl ?_
  refine lv_aload_n hx hb dX11_init_4 rfl (lv_at hl 0 rfl) ?_
  refine lv_sipush (v := 240) hx hb dX11_init_5 (by decide) ?_
  refine va_newa (atype := .int) (ty := .int) (N' := 240) (a0 := (240, .inl (fun _ => 0))) hx hb (hts _ qw147) rfl hK hP hD hS hA (fun _ => rfl) (by decide) (by decide) (Nat.le_of_ble_eq_true rfl) (Nat.le_of_ble_eq_true rfl) (Nat.le_of_ble_eq_true rfl) dX11_init_8 (fun q1 cA H hK2 hP hD hS => ?_)
  obtain rfl : cI = cA := (zcA hK2 0 2 rfl rfl).symm
  have hP : va_P (dC, dI) vwCl [(h0, .inr (11, [.int 0, .null, .int 0, .int 0, .int 0, .int 0, .null, .null, .null, .null, .null, .null, .null, .int 0, .int 0, .null, .null, .null, .null, .null, .int 0, .int 0, .null, .null, .null, .int 0, .int 0, .null, .null, .int 0, .int 0, .null, .int 0, .long 0, .null, .int 0, .int 0, .null, .null, .null, .int 0])), (q1, .inl (cI, 240, .inl (fun _ => 0)))] H := hP
  have hD : va_D A [(h0, .inr (11, [.int 0, .null, .int 0, .int 0, .int 0, .int 0, .null, .null, .null, .null, .null, .null, .null, .int 0, .int 0, .null, .null, .null, .null, .null, .int 0, .int 0, .null, .null, .null, .int 0, .int 0, .null, .null, .int 0, .int 0, .null, .int 0, .long 0, .null, .int 0, .int 0, .null, .null, .null, .int 0])), (q1, .inl (cI, 240, .inl (fun _ => 0)))] := hD
  refine W.widen (k := 1) (n := 240) (Nat.le_of_ble_eq_true rfl) (Nat.le_of_ble_eq_true rfl) ?_
  refine va_putF (D := (dC, dI)) (ci := 11) (v := .ref q1) (ty := .array .int) (C := RX11) (T := TX11) (N := 41) hx hb hts iX11 tyX11 tyX11_ok nmX11 hown hK hP hD hS 0 rfl rfl 1 (by decide) (hts _ qw1128) (fun _ h9 => h9) rfl hin rfl (by decide +kernel) rfl rfl (Nat.le_of_ble_eq_true rfl) dX11_init_10 (fun H locs hP hD hS => ?_)
  have hP : va_P (dC, dI) vwCl [(h0, .inr (11, [.int 0, .ref q1, .int 0, .int 0, .int 0, .int 0, .null, .null, .null, .null, .null, .null, .null, .int 0, .int 0, .null, .null, .null, .null, .null, .int 0, .int 0, .null, .null, .null, .int 0, .int 0, .null, .null, .int 0, .int 0, .null, .int 0, .long 0, .null, .int 0, .int 0, .null, .null, .null, .int 0])), (q1, .inl (cI, 240, .inl (fun _ => 0)))] H := hP
  have hD : va_D A [(h0, .inr (11, [.int 0, .ref q1, .int 0, .int 0, .int 0, .int 0, .null, .null, .null, .null, .null, .null, .null, .int 0, .int 0, .null, .null, .null, .null, .null, .int 0, .int 0, .null, .null, .null, .int 0, .int 0, .null, .null, .int 0, .int 0, .null, .int 0, .long 0, .null, .int 0, .int 0, .null, .null, .null, .int 0])), (q1, .inl (cI, 240, .inl (fun _ => 0)))] := hD
  refine lv_aload_n hx hb dX11_init_13 rfl (lv_at hl 0 rfl) ?_
  refine lv_sipush (v := 2600) hx hb dX11_init_14 (by decide) ?_
  refine va_newa (atype := .int) (ty := .int) (N' := 2600) (a0 := (2600, .inl (fun _ => 0))) hx hb (hts _ qw147) rfl hK hP hD hS hA (fun _ => rfl) (by decide) (by decide) (Nat.le_of_ble_eq_true rfl) (Nat.le_of_ble_eq_true rfl) (Nat.le_of_ble_eq_true rfl) dX11_init_17 (fun q2 cA H hK2 hP hD hS => ?_)
  obtain rfl : cI = cA := (zcA hK2 0 2 rfl rfl).symm
  have hP : va_P (dC, dI) vwCl [(h0, .inr (11, [.int 0, .ref q1, .int 0, .int 0, .int 0, .int 0, .null, .null, .null, .null, .null, .null, .null, .int 0, .int 0, .null, .null, .null, .null, .null, .int 0, .int 0, .null, .null, .null, .int 0, .int 0, .null, .null, .int 0, .int 0, .null, .int 0, .long 0, .null, .int 0, .int 0, .null, .null, .null, .int 0])), (q1, .inl (cI, 240, .inl (fun _ => 0))), (q2, .inl (cI, 2600, .inl (fun _ => 0)))] H := hP
  have hD : va_D A [(h0, .inr (11, [.int 0, .ref q1, .int 0, .int 0, .int 0, .int 0, .null, .null, .null, .null, .null, .null, .null, .int 0, .int 0, .null, .null, .null, .null, .null, .int 0, .int 0, .null, .null, .null, .int 0, .int 0, .null, .null, .int 0, .int 0, .null, .int 0, .long 0, .null, .int 0, .int 0, .null, .null, .null, .int 0])), (q1, .inl (cI, 240, .inl (fun _ => 0))), (q2, .inl (cI, 2600, .inl (fun _ => 0)))] := hD
  refine W.widen (k := 2) (n := 2840) (Nat.le_of_ble_eq_true rfl) (Nat.le_of_ble_eq_true rfl) ?_
  refine va_putF (D := (dC, dI)) (ci := 11) (v := .ref q2) (ty := .array .int) (C := RX11) (T := TX11) (N := 41) hx hb hts iX11 tyX11 tyX11_ok nmX11 hown hK hP hD hS 0 rfl rfl 6 (by decide) (hts _ qw1133) (fun _ h9 => h9) rfl hin rfl (by decide +kernel) rfl rfl (Nat.le_of_ble_eq_true rfl) dX11_init_19 (fun H locs hP hD hS => ?_)
  have hP : va_P (dC, dI) vwCl [(h0, .inr (11, [.int 0, .ref q1, .int 0, .int 0, .int 0, .int 0, .ref q2, .null, .null, .null, .null, .null, .null, .int 0, .int 0, .null, .null, .null, .null, .null, .int 0, .int 0, .null, .null, .null, .int 0, .int 0, .null, .null, .int 0, .int 0, .null, .int 0, .long 0, .null, .int 0, .int 0, .null, .null, .null, .int 0])), (q1, .inl (cI, 240, .inl (fun _ => 0))), (q2, .inl (cI, 2600, .inl (fun _ => 0)))] H := hP
  have hD : va_D A [(h0, .inr (11, [.int 0, .ref q1, .int 0, .int 0, .int 0, .int 0, .ref q2, .null, .null, .null, .null, .null, .null, .int 0, .int 0, .null, .null, .null, .null, .null, .int 0, .int 0, .null, .null, .null, .int 0, .int 0, .null, .null, .int 0, .int 0, .null, .int 0, .long 0, .null, .int 0, .int 0, .null, .null, .null, .int 0])), (q1, .inl (cI, 240, .inl (fun _ => 0))), (q2, .inl (cI, 2600, .inl (fun _ => 0)))] := hD
  refine lv_aload_n hx hb dX11_init_22 rfl (lv_at hl 0 rfl) ?_
  refine lv_sipush (v := 2600) hx hb dX11_init_23 (by decide) ?_
  refine va_newa (atype := .int) (ty := .int) (N' := 2600) (a0 := (2600, .inl (fun _ => 0))) hx hb (hts _ qw147) rfl hK hP hD hS hA (fun _ => rfl) (by decide) (by decide) (Nat.le_of_ble_eq_true rfl) (Nat.le_of_ble_eq_true rfl) (Nat.le_of_ble_eq_true rfl) dX11_init_26 (fun q3 cA H hK2 hP hD hS => ?_)
  obtain rfl : cI = cA := (zcA hK2 0 2 rfl rfl).symm
  have hP : va_P (dC, dI) vwCl [(h0, .inr (11, [.int 0, .ref q1, .int 0, .int 0, .int 0, .int 0, .ref q2, .null, .null, .null, .null, .null, .null, .int 0, .int 0, .null, .null, .null, .null, .null, .int 0, .int 0, .null, .null, .null, .int 0, .int 0, .null, .null, .int 0, .int 0, .null, .int 0, .long 0, .null, .int 0, .int 0, .null, .null, .null, .int 0])), (q1, .inl (cI, 240, .inl (fun _ => 0))), (q2, .inl (cI, 2600, .inl (fun _ => 0))), (q3, .inl (cI, 2600, .inl (fun _ => 0)))] H := hP
  have hD : va_D A [(h0, .inr (11, [.int 0, .ref q1, .int 0, .int 0, .int 0, .int 0, .ref q2, .null, .null, .null, .null, .null, .null, .int 0, .int 0, .null, .null, .null, .null, .null, .int 0, .int 0, .null, .null, .null, .int 0, .int 0, .null, .null, .int 0, .int 0, .null, .int 0, .long 0, .null, .int 0, .int 0, .null, .null, .null, .int 0])), (q1, .inl (cI, 240, .inl (fun _ => 0))), (q2, .inl (cI, 2600, .inl (fun _ => 0))), (q3, .inl (cI, 2600, .inl (fun _ => 0)))] := hD
  refine W.widen (k := 3) (n := 5440) (Nat.le_of_ble_eq_true rfl) (Nat.le_of_ble_eq_true rfl) ?_
  refine va_putF (D := (dC, dI)) (ci := 11) (v := .ref q3) (ty := .array .int) (C := RX11) (T := TX11) (N := 41) hx hb hts iX11 tyX11 tyX11_ok nmX11 hown hK hP hD hS 0 rfl rfl 7 (by decide) (hts _ qw1134) (fun _ h9 => h9) rfl hin rfl (by decide +kernel) rfl rfl (Nat.le_of_ble_eq_true rfl) dX11_init_28 (fun H locs hP hD hS => ?_)
  have hP : va_P (dC, dI) vwCl [(h0, .inr (11, [.int 0, .ref q1, .int 0, .int 0, .int 0, .int 0, .ref q2, .ref q3, .null, .null, .null, .null, .null, .int 0, .int 0, .null, .null, .null, .null, .null, .int 0, .int 0, .null, .null, .null, .int 0, .int 0, .null, .null, .int 0, .int 0, .null, .int 0, .long 0, .null, .int 0, .int 0, .null, .null, .null, .int 0])), (q1, .inl (cI, 240, .inl (fun _ => 0))), (q2, .inl (cI, 2600, .inl (fun _ => 0))), (q3, .inl (cI, 2600, .inl (fun _ => 0)))] H := hP
  have hD : va_D A [(h0, .inr (11, [.int 0, .ref q1, .int 0, .int 0, .int 0, .int 0, .ref q2, .ref q3, .null, .null, .null, .null, .null, .int 0, .int 0, .null, .null, .null, .null, .null, .int 0, .int 0, .null, .null, .null, .int 0, .int 0, .null, .null, .int 0, .int 0, .null, .int 0, .long 0, .null, .int 0, .int 0, .null, .null, .null, .int 0])), (q1, .inl (cI, 240, .inl (fun _ => 0))), (q2, .inl (cI, 2600, .inl (fun _ => 0))), (q3, .inl (cI, 2600, .inl (fun _ => 0)))] := hD
  refine lv_aload_n hx hb dX11_init_31 rfl (lv_at hl 0 rfl) ?_
  refine lv_iconst (v := 5) hx hb dX11_init_32 (by decide) ?_
  refine va_newa (atype := .int) (ty := .int) (N' := 5) (a0 := (5, .inl (fun _ => 0))) hx hb (hts _ qw147) rfl hK hP hD hS hA (fun _ => rfl) (by decide) (by decide) (Nat.le_of_ble_eq_true rfl) (Nat.le_of_ble_eq_true rfl) (Nat.le_of_ble_eq_true rfl) dX11_init_33 (fun q4 cA H hK2 hP hD hS => ?_)
  obtain rfl : cI = cA := (zcA hK2 0 2 rfl rfl).symm
  have hP : va_P (dC, dI) vwCl [(h0, .inr (11, [.int 0, .ref q1, .int 0, .int 0, .int 0, .int 0, .ref q2, .ref q3, .null, .null, .null, .null, .null, .int 0, .int 0, .null, .null, .null, .null, .null, .int 0, .int 0, .null, .null, .null, .int 0, .int 0, .null, .null, .int 0, .int 0, .null, .int 0, .long 0, .null, .int 0, .int 0, .null, .null, .null, .int 0])), (q1, .inl (cI, 240, .inl (fun _ => 0))), (q2, .inl (cI, 2600, .inl (fun _ => 0))), (q3, .inl (cI, 2600, .inl (fun _ => 0))), (q4, .inl (cI, 5, .inl (fun _ => 0)))] H := hP
  have hD : va_D A [(h0, .inr (11, [.int 0, .ref q1, .int 0, .int 0, .int 0, .int 0, .ref q2, .ref q3, .null, .null, .null, .null, .null, .int 0, .int 0, .null, .null, .null, .null, .null, .int 0, .int 0, .null, .null, .null, .int 0, .int 0, .null, .null, .int 0, .int 0, .null, .int 0, .long 0, .null, .int 0, .int 0, .null, .null, .null, .int 0])), (q1, .inl (cI, 240, .inl (fun _ => 0))), (q2, .inl (cI, 2600, .inl (fun _ => 0))), (q3, .inl (cI, 2600, .inl (fun _ => 0))), (q4, .inl (cI, 5, .inl (fun _ => 0)))] := hD
  refine W.widen (k := 4) (n := 5445) (Nat.le_of_ble_eq_true rfl) (Nat.le_of_ble_eq_true rfl) ?_
  refine va_putF (D := (dC, dI)) (ci := 11) (v := .ref q4) (ty := .array .int) (C := RX11) (T := TX11) (N := 41) hx hb hts iX11 tyX11 tyX11_ok nmX11 hown hK hP hD hS 0 rfl rfl 8 (by decide) (hts _ qw1135) (fun _ h9 => h9) rfl hin rfl (by decide +kernel) rfl rfl (Nat.le_of_ble_eq_true rfl) dX11_init_35 (fun H locs hP hD hS => ?_)
  have hP : va_P (dC, dI) vwCl [(h0, .inr (11, [.int 0, .ref q1, .int 0, .int 0, .int 0, .int 0, .ref q2, .ref q3, .ref q4, .null, .null, .null, .null, .int 0, .int 0, .null, .null, .null, .null, .null, .int 0, .int 0, .null, .null, .null, .int 0, .int 0, .null, .null, .int 0, .int 0, .null, .int 0, .long 0, .null, .int 0, .int 0, .null, .null, .null, .int 0])), (q1, .inl (cI, 240, .inl (fun _ => 0))), (q2, .inl (cI, 2600, .inl (fun _ => 0))), (q3, .inl (cI, 2600, .inl (fun _ => 0))), (q4, .inl (cI, 5, .inl (fun _ => 0)))] H := hP
  have hD : va_D A [(h0, .inr (11, [.int 0, .ref q1, .int 0, .int 0, .int 0, .int 0, .ref q2, .ref q3, .ref q4, .null, .null, .null, .null, .int 0, .int 0, .null, .null, .null, .null, .null, .int 0, .int 0, .null, .null, .null, .int 0, .int 0, .null, .null, .int 0, .int 0, .null, .int 0, .long 0, .null, .int 0, .int 0, .null, .null, .null, .int 0])), (q1, .inl (cI, 240, .inl (fun _ => 0))), (q2, .inl (cI, 2600, .inl (fun _ => 0))), (q3, .inl (cI, 2600, .inl (fun _ => 0))), (q4, .inl (cI, 5, .inl (fun _ => 0)))] := hD
  refine lv_aload_n hx hb dX11_init_38 rfl (lv_at hl 0 rfl) ?_
  refine lv_iconst (v := 5) hx hb dX11_init_39 (by decide) ?_
  refine va_newa (atype := .int) (ty := .int) (N' := 5) (a0 := (5, .inl (fun _ => 0))) hx hb (hts _ qw147) rfl hK hP hD hS hA (fun _ => rfl) (by decide) (by decide) (Nat.le_of_ble_eq_true rfl) (Nat.le_of_ble_eq_true rfl) (Nat.le_of_ble_eq_true rfl) dX11_init_40 (fun q5 cA H hK2 hP hD hS => ?_)
  obtain rfl : cI = cA := (zcA hK2 0 2 rfl rfl).symm
  have hP : va_P (dC, dI) vwCl [(h0, .inr (11, [.int 0, .ref q1, .int 0, .int 0, .int 0, .int 0, .ref q2, .ref q3, .ref q4, .null, .null, .null, .null, .int 0, .int 0, .null, .null, .null, .null, .null, .int 0, .int 0, .null, .null, .null, .int 0, .int 0, .null, .null, .int 0, .int 0, .null, .int 0, .long 0, .null, .int 0, .int 0, .null, .null, .null, .int 0])), (q1, .inl (cI, 240, .inl (fun _ => 0))), (q2, .inl (cI, 2600, .inl (fun _ => 0))), (q3, .inl (cI, 2600, .inl (fun _ => 0))), (q4, .inl (cI, 5, .inl (fun _ => 0))), (q5, .inl (cI, 5, .inl (fun _ => 0)))] H := hP
  have hD : va_D A [(h0, .inr (11, [.int 0, .ref q1, .int 0, .int 0, .int 0, .int 0, .ref q2, .ref q3, .ref q4, .null, .null, .null, .null, .int 0, .int 0, .null, .null, .null, .null, .null, .int 0, .int 0, .null, .null, .null, .int 0, .int 0, .null, .null, .int 0, .int 0, .null, .int 0, .long 0, .null, .int 0, .int 0, .null, .null, .null, .int 0])), (q1, .inl (cI, 240, .inl (fun _ => 0))), (q2, .inl (cI, 2600, .inl (fun _ => 0))), (q3, .inl (cI, 2600, .inl (fun _ => 0))), (q4, .inl (cI, 5, .inl (fun _ => 0))), (q5, .inl (cI, 5, .inl (fun _ => 0)))] := hD
  refine W.widen (k := 5) (n := 5450) (Nat.le_of_ble_eq_true rfl) (Nat.le_of_ble_eq_true rfl) ?_
  refine va_putF (D := (dC, dI)) (ci := 11) (v := .ref q5) (ty := .array .int) (C := RX11) (T := TX11) (N := 41) hx hb hts iX11 tyX11 tyX11_ok nmX11 hown hK hP hD hS 0 rfl rfl 9 (by decide) (hts _ qw1136) (fun _ h9 => h9) rfl hin rfl (by decide +kernel) rfl rfl (Nat.le_of_ble_eq_true rfl) dX11_init_42 (fun H locs hP hD hS => ?_)
  have hP : va_P (dC, dI) vwCl [(h0, .inr (11, [.int 0, .ref q1, .int 0, .int 0, .int 0, .int 0, .ref q2, .ref q3, .ref q4, .ref q5, .null, .null, .null, .int 0, .int 0, .null, .null, .null, .null, .null, .int 0, .int 0, .null, .null, .null, .int 0, .int 0, .null, .null, .int 0, .int 0, .null, .int 0, .long 0, .null, .int 0, .int 0, .null, .null, .null, .int 0])), (q1, .inl (cI, 240, .inl (fun _ => 0))), (q2, .inl (cI, 2600, .inl (fun _ => 0))), (q3, .inl (cI, 2600, .inl (fun _ => 0))), (q4, .inl (cI, 5, .inl (fun _ => 0))), (q5, .inl (cI, 5, .inl (fun _ => 0)))] H := hP
  have hD : va_D A [(h0, .inr (11, [.int 0, .ref q1, .int 0, .int 0, .int 0, .int 0, .ref q2, .ref q3, .ref q4, .ref q5, .null, .null, .null, .int 0, .int 0, .null, .null, .null, .null, .null, .int 0, .int 0, .null, .null, .null, .int 0, .int 0, .null, .null, .int 0, .int 0, .null, .int 0, .long 0, .null, .int 0, .int 0, .null, .null, .null, .int 0])), (q1, .inl (cI, 240, .inl (fun _ => 0))), (q2, .inl (cI, 2600, .inl (fun _ => 0))), (q3, .inl (cI, 2600, .inl (fun _ => 0))), (q4, .inl (cI, 5, .inl (fun _ => 0))), (q5, .inl (cI, 5, .inl (fun _ => 0)))] := hD
  refine lv_aload_n hx hb dX11_init_45 rfl (lv_at hl 0 rfl) ?_
  refine lv_sipush (v := 700) hx hb dX11_init_46 (by decide) ?_
  refine va_newa (atype := .int) (ty := .int) (N' := 700) (a0 := (700, .inl (fun _ => 0))) hx hb (hts _ qw147) rfl hK hP hD hS hA (fun _ => rfl) (by decide) (by decide) (Nat.le_of_ble_eq_true rfl) (Nat.le_of_ble_eq_true rfl) (Nat.le_of_ble_eq_true rfl) dX11_init_49 (fun q6 cA H hK2 hP hD hS => ?_)
  obtain rfl : cI = cA := (zcA hK2 0 2 rfl rfl).symm
  have hP : va_P (dC, dI) vwCl [(h0, .inr (11, [.int 0, .ref q1, .int 0, .int 0, .int 0, .int 0, .ref q2, .ref q3, .ref q4, .ref q5, .null, .null, .null, .int 0, .int 0, .null, .null, .null, .null, .null, .int 0, .int 0, .null, .null, .null, .int 0, .int 0, .null, .null, .int 0, .int 0, .null, .int 0, .long 0, .null, .int 0, .int 0, .null, .null, .null, .int 0])), (q1, .inl (cI, 240, .inl (fun _ => 0))), (q2, .inl (cI, 2600, .inl (fun _ => 0))), (q3, .inl (cI, 2600, .inl (fun _ => 0))), (q4, .inl (cI, 5, .inl (fun _ => 0))), (q5, .inl (cI, 5, .inl (fun _ => 0))), (q6, .inl (cI, 700, .inl (fun _ => 0)))] H := hP
  have hD : va_D A [(h0, .inr (11, [.int 0, .ref q1, .int 0, .int 0, .int 0, .int 0, .ref q2, .ref q3, .ref q4, .ref q5, .null, .null, .null, .int 0, .int 0, .null, .null, .null, .null, .null, .int 0, .int 0, .null, .null, .null, .int 0, .int 0, .null, .null, .int 0, .int 0, .null, .int 0, .long 0, .null, .int 0, .int 0, .null, .null, .null, .int 0])), (q1, .inl (cI, 240, .inl (fun _ => 0))), (q2, .inl (cI, 2600, .inl (fun _ => 0))), (q3, .inl (cI, 2600, .inl (fun _ => 0))), (q4, .inl (cI, 5, .inl (fun _ => 0))), (q5, .inl (cI, 5, .inl (fun _ => 0))), (q6, .inl (cI, 700, .inl (fun _ => 0)))] := hD
  refine W.widen (k := 6) (n := 6150) (Nat.le_of_ble_eq_true rfl) (Nat.le_of_ble_eq_true rfl) ?_
  refine va_putF (D := (dC, dI)) (ci := 11) (v := .ref q6) (ty := .array .int) (C := RX11) (T := TX11) (N := 41) hx hb hts iX11 tyX11 tyX11_ok nmX11 hown hK hP hD hS 0 rfl rfl 10 (by decide) (hts _ qw1137) (fun _ h9 => h9) rfl hin rfl (by decide +kernel) rfl rfl (Nat.le_of_ble_eq_true rfl) dX11_init_51 (fun H locs hP hD hS => ?_)
  have hP : va_P (dC, dI) vwCl [(h0, .inr (11, [.int 0, .ref q1, .int 0, .int 0, .int 0, .int 0, .ref q2, .ref q3, .ref q4, .ref q5, .ref q6, .null, .null, .int 0, .int 0, .null, .null, .null, .null, .null, .int 0, .int 0, .null, .null, .null, .int 0, .int 0, .null, .null, .int 0, .int 0, .null, .int 0, .long 0, .null, .int 0, .int 0, .null, .null, .null, .int 0])), (q1, .inl (cI, 240, .inl (fun _ => 0))), (q2, .inl (cI, 2600, .inl (fun _ => 0))), (q3, .inl (cI, 2600, .inl (fun _ => 0))), (q4, .inl (cI, 5, .inl (fun _ => 0))), (q5, .inl (cI, 5, .inl (fun _ => 0))), (q6, .inl (cI, 700, .inl (fun _ => 0)))] H := hP
  have hD : va_D A [(h0, .inr (11, [.int 0, .ref q1, .int 0, .int 0, .int 0, .int 0, .ref q2, .ref q3, .ref q4, .ref q5, .ref q6, .null, .null, .int 0, .int 0, .null, .null, .null, .null, .null, .int 0, .int 0, .null, .null, .null, .int 0, .int 0, .null, .null, .int 0, .int 0, .null, .int 0, .long 0, .null, .int 0, .int 0, .null, .null, .null, .int 0])), (q1, .inl (cI, 240, .inl (fun _ => 0))), (q2, .inl (cI, 2600, .inl (fun _ => 0))), (q3, .inl (cI, 2600, .inl (fun _ => 0))), (q4, .inl (cI, 5, .inl (fun _ => 0))), (q5, .inl (cI, 5, .inl (fun _ => 0))), (q6, .inl (cI, 700, .inl (fun _ => 0)))] := hD
  refine lv_aload_n hx hb dX11_init_54 rfl (lv_at hl 0 rfl) ?_
  refine lv_sipush (v := 700) hx hb dX11_init_55 (by decide) ?_
  refine va_newa (atype := .int) (ty := .int) (N' := 700) (a0 := (700, .inl (fun _ => 0))) hx hb (hts _ qw147) rfl hK hP hD hS hA (fun _ => rfl) (by decide) (by decide) (Nat.le_of_ble_eq_true rfl) (Nat.le_of_ble_eq_true rfl) (Nat.le_of_ble_eq_true rfl) dX11_init_58 (fun q7 cA H hK2 hP hD hS => ?_)
  obtain rfl : cI = cA := (zcA hK2 0 2 rfl rfl).symm
  have hP : va_P (dC, dI) vwCl [(h0, .inr (11, [.int 0, .ref q1, .int 0, .int 0, .int 0, .int 0, .ref q2, .ref q3, .ref q4, .ref q5, .ref q6, .null, .null, .int 0, .int 0, .null, .null, .null, .null, .null, .int 0, .int 0, .null, .null, .null, .int 0, .int 0, .null, .null, .int 0, .int 0, .null, .int 0, .long 0, .null, .int 0, .int 0, .null, .null, .null, .int 0])), (q1, .inl (cI, 240, .inl (fun _ => 0))), (q2, .inl (cI, 2600, .inl (fun _ => 0))), (q3, .inl (cI, 2600, .inl (fun _ => 0))), (q4, .inl (cI, 5, .inl (fun _ => 0))), (q5, .inl (cI, 5, .inl (fun _ => 0))), (q6, .inl (cI, 700, .inl (fun _ => 0))), (q7, .inl (cI, 700, .inl (fun _ => 0)))] H := hP
  have hD : va_D A [(h0, .inr (11, [.int 0, .ref q1, .int 0, .int 0, .int 0, .int 0, .ref q2, .ref q3, .ref q4, .ref q5, .ref q6, .null, .null, .int 0, .int 0, .null, .null, .null, .null, .null, .int 0, .int 0, .null, .null, .null, .int 0, .int 0, .null, .null, .int 0, .int 0, .null, .int 0, .long 0, .null, .int 0, .int 0, .null, .null, .null, .int 0])), (q1, .inl (cI, 240, .inl (fun _ => 0))), (q2, .inl (cI, 2600, .inl (fun _ => 0))), (q3, .inl (cI, 2600, .inl (fun _ => 0))), (q4, .inl (cI, 5, .inl (fun _ => 0))), (q5, .inl (cI, 5, .inl (fun _ => 0))), (q6, .inl (cI, 700, .inl (fun _ => 0))), (q7, .inl (cI, 700, .inl (fun _ => 0)))] := hD
  refine W.widen (k := 7) (n := 6850) (Nat.le_of_ble_eq_true rfl) (Nat.le_of_ble_eq_true rfl) ?_
  refine va_putF (D := (dC, dI)) (ci := 11) (v := .ref q7) (ty := .array .int) (C := RX11) (T := TX11) (N := 41) hx hb hts iX11 tyX11 tyX11_ok nmX11 hown hK hP hD hS 0 rfl rfl 11 (by decide) (hts _ qw1138) (fun _ h9 => h9) rfl hin rfl (by decide +kernel) rfl rfl (Nat.le_of_ble_eq_true rfl) dX11_init_60 (fun H locs hP hD hS => ?_)
  have hP : va_P (dC, dI) vwCl [(h0, .inr (11, [.int 0, .ref q1, .int 0, .int 0, .int 0, .int 0, .ref q2, .ref q3, .ref q4, .ref q5, .ref q6, .ref q7, .null, .int 0, .int 0, .null, .null, .null, .null, .null, .int 0, .int 0, .null, .null, .null, .int 0, .int 0, .null, .null, .int 0, .int 0, .null, .int 0, .long 0, .null, .int 0, .int 0, .null, .null, .null, .int 0])), (q1, .inl (cI, 240, .inl (fun _ => 0))), (q2, .inl (cI, 2600, .inl (fun _ => 0))), (q3, .inl (cI, 2600, .inl (fun _ => 0))), (q4, .inl (cI, 5, .inl (fun _ => 0))), (q5, .inl (cI, 5, .inl (fun _ => 0))), (q6, .inl (cI, 700, .inl (fun _ => 0))), (q7, .inl (cI, 700, .inl (fun _ => 0)))] H := hP
  have hD : va_D A [(h0, .inr (11, [.int 0, .ref q1, .int 0, .int 0, .int 0, .int 0, .ref q2, .ref q3, .ref q4, .ref q5, .ref q6, .ref q7, .null, .int 0, .int 0, .null, .null, .null, .null, .null, .int 0, .int 0, .null, .null, .null, .int 0, .int 0, .null, .null, .int 0, .int 0, .null, .int 0, .long 0, .null, .int 0, .int 0, .null, .null, .null, .int 0])), (q1, .inl (cI, 240, .inl (fun _ => 0))), (q2, .inl (cI, 2600, .inl (fun _ => 0))), (q3, .inl (cI, 2600, .inl (fun _ => 0))), (q4, .inl (cI, 5, .inl (fun _ => 0))), (q5, .inl (cI, 5, .inl (fun _ => 0))), (q6, .inl (cI, 700, .inl (fun _ => 0))), (q7, .inl (cI, 700, .inl (fun _ => 0)))] := hD
  refine lv_aload_n hx hb dX11_init_63 rfl (lv_at hl 0 rfl) ?_
  refine lv_sipush (v := 700) hx hb dX11_init_64 (by decide) ?_
  refine va_newa (atype := .int) (ty := .int) (N' := 700) (a0 := (700, .inl (fun _ => 0))) hx hb (hts _ qw147) rfl hK hP hD hS hA (fun _ => rfl) (by decide) (by decide) (Nat.le_of_ble_eq_true rfl) (Nat.le_of_ble_eq_true rfl) (Nat.le_of_ble_eq_true rfl) dX11_init_67 (fun q8 cA H hK2 hP hD hS => ?_)
  obtain rfl : cI = cA := (zcA hK2 0 2 rfl rfl).symm
  have hP : va_P (dC, dI) vwCl [(h0, .inr (11, [.int 0, .ref q1, .int 0, .int 0, .int 0, .int 0, .ref q2, .ref q3, .ref q4, .ref q5, .ref q6, .ref q7, .null, .int 0, .int 0, .null, .null, .null, .null, .null, .int 0, .int 0, .null, .null, .null, .int 0, .int 0, .null, .null, .int 0, .int 0, .null, .int 0, .long 0, .null, .int 0, .int 0, .null, .null, .null, .int 0])), (q1, .inl (cI, 240, .inl (fun _ => 0))), (q2, .inl (cI, 2600, .inl (fun _ => 0))), (q3, .inl (cI, 2600, .inl (fun _ => 0))), (q4, .inl (cI, 5, .inl (fun _ => 0))), (q5, .inl (cI, 5, .inl (fun _ => 0))), (q6, .inl (cI, 700, .inl (fun _ => 0))), (q7, .inl (cI, 700, .inl (fun _ => 0))), (q8, .inl (cI, 700, .inl (fun _ => 0)))] H := hP
  have hD : va_D A [(h0, .inr (11, [.int 0, .ref q1, .int 0, .int 0, .int 0, .int 0, .ref q2, .ref q3, .ref q4, .ref q5, .ref q6, .ref q7, .null, .int 0, .int 0, .null, .null, .null, .null, .null, .int 0, .int 0, .null, .null, .null, .int 0, .int 0, .null, .null, .int 0, .int 0, .null, .int 0, .long 0, .null, .int 0, .int 0, .null, .null, .null, .int 0])), (q1, .inl (cI, 240, .inl (fun _ => 0))), (q2, .inl (cI, 2600, .inl (fun _ => 0))), (q3, .inl (cI, 2600, .inl (fun _ => 0))), (q4, .inl (cI, 5, .inl (fun _ => 0))), (q5, .inl (cI, 5, .inl (fun _ => 0))), (q6, .inl (cI, 700, .inl (fun _ => 0))), (q7, .inl (cI, 700, .inl (fun _ => 0))), (q8, .inl (cI, 700, .inl (fun _ => 0)))] := hD
  refine W.widen (k := 8) (n := 7550) (Nat.le_of_ble_eq_true rfl) (Nat.le_of_ble_eq_true rfl) ?_
  refine va_putF (D := (dC, dI)) (ci := 11) (v := .ref q8) (ty := .array .int) (C := RX11) (T := TX11) (N := 41) hx hb hts iX11 tyX11 tyX11_ok nmX11 hown hK hP hD hS 0 rfl rfl 12 (by decide) (hts _ qw1139) (fun _ h9 => h9) rfl hin rfl (by decide +kernel) rfl rfl (Nat.le_of_ble_eq_true rfl) dX11_init_69 (fun H locs hP hD hS => ?_)
  have hP : va_P (dC, dI) vwCl [(h0, .inr (11, [.int 0, .ref q1, .int 0, .int 0, .int 0, .int 0, .ref q2, .ref q3, .ref q4, .ref q5, .ref q6, .ref q7, .ref q8, .int 0, .int 0, .null, .null, .null, .null, .null, .int 0, .int 0, .null, .null, .null, .int 0, .int 0, .null, .null, .int 0, .int 0, .null, .int 0, .long 0, .null, .int 0, .int 0, .null, .null, .null, .int 0])), (q1, .inl (cI, 240, .inl (fun _ => 0))), (q2, .inl (cI, 2600, .inl (fun _ => 0))), (q3, .inl (cI, 2600, .inl (fun _ => 0))), (q4, .inl (cI, 5, .inl (fun _ => 0))), (q5, .inl (cI, 5, .inl (fun _ => 0))), (q6, .inl (cI, 700, .inl (fun _ => 0))), (q7, .inl (cI, 700, .inl (fun _ => 0))), (q8, .inl (cI, 700, .inl (fun _ => 0)))] H := hP
  have hD : va_D A [(h0, .inr (11, [.int 0, .ref q1, .int 0, .int 0, .int 0, .int 0, .ref q2, .ref q3, .ref q4, .ref q5, .ref q6, .ref q7, .ref q8, .int 0, .int 0, .null, .null, .null, .null, .null, .int 0, .int 0, .null, .null, .null, .int 0, .int 0, .null, .null, .int 0, .int 0, .null, .int 0, .long 0, .null, .int 0, .int 0, .null, .null, .null, .int 0])), (q1, .inl (cI, 240, .inl (fun _ => 0))), (q2, .inl (cI, 2600, .inl (fun _ => 0))), (q3, .inl (cI, 2600, .inl (fun _ => 0))), (q4, .inl (cI, 5, .inl (fun _ => 0))), (q5, .inl (cI, 5, .inl (fun _ => 0))), (q6, .inl (cI, 700, .inl (fun _ => 0))), (q7, .inl (cI, 700, .inl (fun _ => 0))), (q8, .inl (cI, 700, .inl (fun _ => 0)))] := hD
  refine lv_aload_n hx hb dX11_init_72 rfl (lv_at hl 0 rfl) ?_
  refine lv_bipush (v := 6) hx hb dX11_init_73 (by decide) ?_
  refine va_newa (atype := .int) (ty := .int) (N' := 6) (a0 := (6, .inl (fun _ => 0))) hx hb (hts _ qw147) rfl hK hP hD hS hA (fun _ => rfl) (by decide) (by decide) (Nat.le_of_ble_eq_true rfl) (Nat.le_of_ble_eq_true rfl) (Nat.le_of_ble_eq_true rfl) dX11_init_75 (fun q9 cA H hK2 hP hD hS => ?_)
  obtain rfl : cI = cA := (zcA hK2 0 2 rfl rfl).symm
  have hP : va_P (dC, dI) vwCl [(h0, .inr (11, [.int 0, .ref q1, .int 0, .int 0, .int 0, .int 0, .ref q2, .ref q3, .ref q4, .ref q5, .ref q6, .ref q7, .ref q8, .int 0, .int 0, .null, .null, .null, .null, .null, .int 0, .int 0, .null, .null, .null, .int 0, .int 0, .null, .null, .int 0, .int 0, .null, .int 0, .long 0, .null, .int 0, .int 0, .null, .null, .null, .int 0])), (q1, .inl (cI, 240, .inl (fun _ => 0))), (q2, .inl (cI, 2600, .inl (fun _ => 0))), (q3, .inl (cI, 2600, .inl (fun _ => 0))), (q4, .inl (cI, 5, .inl (fun _ => 0))), (q5, .inl (cI, 5, .inl (fun _ => 0))), (q6, .inl (cI, 700, .inl (fun _ => 0))), (q7, .inl (cI, 700, .inl (fun _ => 0))), (q8, .inl (cI, 700, .inl (fun _ => 0))), (q9, .inl (cI, 6, .inl (fun _ => 0)))] H := hP
  have hD : va_D A [(h0, .inr (11, [.int 0, .ref q1, .int 0, .int 0, .int 0, .int 0, .ref q2, .ref q3, .ref q4, .ref q5, .ref q6, .ref q7, .ref q8, .int 0, .int 0, .null, .null, .null, .null, .null, .int 0, .int 0, .null, .null, .null, .int 0, .int 0, .null, .null, .int 0, .int 0, .null, .int 0, .long 0, .null, .int 0, .int 0, .null, .null, .null, .int 0])), (q1, .inl (cI, 240, .inl (fun _ => 0))), (q2, .inl (cI, 2600, .inl (fun _ => 0))), (q3, .inl (cI, 2600, .inl (fun _ => 0))), (q4, .inl (cI, 5, .inl (fun _ => 0))), (q5, .inl (cI, 5, .inl (fun _ => 0))), (q6, .inl (cI, 700, .inl (fun _ => 0))), (q7, .inl (cI, 700, .inl (fun _ => 0))), (q8, .inl (cI, 700, .inl (fun _ => 0))), (q9, .inl (cI, 6, .inl (fun _ => 0)))] := hD
  refine W.widen (k := 9) (n := 7556) (Nat.le_of_ble_eq_true rfl) (Nat.le_of_ble_eq_true rfl) ?_
  refine va_putF (D := (dC, dI)) (ci := 11) (v := .ref q9) (ty := .array .int) (C := RX11) (T := TX11) (N := 41) hx hb hts iX11 tyX11 tyX11_ok nmX11 hown hK hP hD hS 0 rfl rfl 15 (by decide) (hts _ qw1142) (fun _ h9 => h9) rfl hin rfl (by decide +kernel) rfl rfl (Nat.le_of_ble_eq_true rfl) dX11_init_77 (fun H locs hP hD hS => ?_)
  have hP : va_P (dC, dI) vwCl [(h0, .inr (11, [.int 0, .ref q1, .int 0, .int 0, .int 0, .int 0, .ref q2, .ref q3, .ref q4, .ref q5, .ref q6, .ref q7, .ref q8, .int 0, .int 0, .ref q9, .null, .null, .null, .null, .int 0, .int 0, .null, .null, .null, .int 0, .int 0, .null, .null, .int 0, .int 0, .null, .int 0, .long 0, .null, .int 0, .int 0, .null, .null, .null, .int 0])), (q1, .inl (cI, 240, .inl (fun _ => 0))), (q2, .inl (cI, 2600, .inl (fun _ => 0))), (q3, .inl (cI, 2600, .inl (fun _ => 0))), (q4, .inl (cI, 5, .inl (fun _ => 0))), (q5, .inl (cI, 5, .inl (fun _ => 0))), (q6, .inl (cI, 700, .inl (fun _ => 0))), (q7, .inl (cI, 700, .inl (fun _ => 0))), (q8, .inl (cI, 700, .inl (fun _ => 0))), (q9, .inl (cI, 6, .inl (fun _ => 0)))] H := hP
  have hD : va_D A [(h0, .inr (11, [.int 0, .ref q1, .int 0, .int 0, .int 0, .int 0, .ref q2, .ref q3, .ref q4, .ref q5, .ref q6, .ref q7, .ref q8, .int 0, .int 0, .ref q9, .null, .null, .null, .null, .int 0, .int 0, .null, .null, .null, .int 0, .int 0, .null, .null, .int 0, .int 0, .null, .int 0, .long 0, .null, .int 0, .int 0, .null, .null, .null, .int 0])), (q1, .inl (cI, 240, .inl (fun _ => 0))), (q2, .inl (cI, 2600, .inl (fun _ => 0))), (q3, .inl (cI, 2600, .inl (fun _ => 0))), (q4, .inl (cI, 5, .inl (fun _ => 0))), (q5, .inl (cI, 5, .inl (fun _ => 0))), (q6, .inl (cI, 700, .inl (fun _ => 0))), (q7, .inl (cI, 700, .inl (fun _ => 0))), (q8, .inl (cI, 700, .inl (fun _ => 0))), (q9, .inl (cI, 6, .inl (fun _ => 0)))] := hD
  refine lv_aload_n hx hb dX11_init_80 rfl (lv_at hl 0 rfl) ?_
  refine lv_bipush (v := 80) hx hb dX11_init_81 (by decide) ?_
  refine va_newa (atype := .int) (ty := .int) (N' := 80) (a0 := (80, .inl (fun _ => 0))) hx hb (hts _ qw147) rfl hK hP hD hS hA (fun _ => rfl) (by decide) (by decide) (Nat.le_of_ble_eq_true rfl) (Nat.le_of_ble_eq_true rfl) (Nat.le_of_ble_eq_true rfl) dX11_init_83 (fun q10 cA H hK2 hP hD hS => ?_)
  obtain rfl : cI = cA := (zcA hK2 0 2 rfl rfl).symm
  have hP : va_P (dC, dI) vwCl [(h0, .inr (11, [.int 0, .ref q1, .int 0, .int 0, .int 0, .int 0, .ref q2, .ref q3, .ref q4, .ref q5, .ref q6, .ref q7, .ref q8, .int 0, .int 0, .ref q9, .null, .null, .null, .null, .int 0, .int 0, .null, .null, .null, .int 0, .int 0, .null, .null, .int 0, .int 0, .null, .int 0, .long 0, .null, .int 0, .int 0, .null, .null, .null, .int 0])), (q1, .inl (cI, 240, .inl (fun _ => 0))), (q2, .inl (cI, 2600, .inl (fun _ => 0))), (q3, .inl (cI, 2600, .inl (fun _ => 0))), (q4, .inl (cI, 5, .inl (fun _ => 0))), (q5, .inl (cI, 5, .inl (fun _ => 0))), (q6, .inl (cI, 700, .inl (fun _ => 0))), (q7, .inl (cI, 700, .inl (fun _ => 0))), (q8, .inl (cI, 700, .inl (fun _ => 0))), (q9, .inl (cI, 6, .inl (fun _ => 0))), (q10, .inl (cI, 80, .inl (fun _ => 0)))] H := hP
  have hD : va_D A [(h0, .inr (11, [.int 0, .ref q1, .int 0, .int 0, .int 0, .int 0, .ref q2, .ref q3, .ref q4, .ref q5, .ref q6, .ref q7, .ref q8, .int 0, .int 0, .ref q9, .null, .null, .null, .null, .int 0, .int 0, .null, .null, .null, .int 0, .int 0, .null, .null, .int 0, .int 0, .null, .int 0, .long 0, .null, .int 0, .int 0, .null, .null, .null, .int 0])), (q1, .inl (cI, 240, .inl (fun _ => 0))), (q2, .inl (cI, 2600, .inl (fun _ => 0))), (q3, .inl (cI, 2600, .inl (fun _ => 0))), (q4, .inl (cI, 5, .inl (fun _ => 0))), (q5, .inl (cI, 5, .inl (fun _ => 0))), (q6, .inl (cI, 700, .inl (fun _ => 0))), (q7, .inl (cI, 700, .inl (fun _ => 0))), (q8, .inl (cI, 700, .inl (fun _ => 0))), (q9, .inl (cI, 6, .inl (fun _ => 0))), (q10, .inl (cI, 80, .inl (fun _ => 0)))] := hD
  refine W.widen (k := 10) (n := 7636) (Nat.le_of_ble_eq_true rfl) (Nat.le_of_ble_eq_true rfl) ?_
  refine va_putF (D := (dC, dI)) (ci := 11) (v := .ref q10) (ty := .array .int) (C := RX11) (T := TX11) (N := 41) hx hb hts iX11 tyX11 tyX11_ok nmX11 hown hK hP hD hS 0 rfl rfl 16 (by decide) (hts _ qw1143) (fun _ h9 => h9) rfl hin rfl (by decide +kernel) rfl rfl (Nat.le_of_ble_eq_true rfl) dX11_init_85 (fun H locs hP hD hS => ?_)
  have hP : va_P (dC, dI) vwCl [(h0, .inr (11, [.int 0, .ref q1, .int 0, .int 0, .int 0, .int 0, .ref q2, .ref q3, .ref q4, .ref q5, .ref q6, .ref q7, .ref q8, .int 0, .int 0, .ref q9, .ref q10, .null, .null, .null, .int 0, .int 0, .null, .null, .null, .int 0, .int 0, .null, .null, .int 0, .int 0, .null, .int 0, .long 0, .null, .int 0, .int 0, .null, .null, .null, .int 0])), (q1, .inl (cI, 240, .inl (fun _ => 0))), (q2, .inl (cI, 2600, .inl (fun _ => 0))), (q3, .inl (cI, 2600, .inl (fun _ => 0))), (q4, .inl (cI, 5, .inl (fun _ => 0))), (q5, .inl (cI, 5, .inl (fun _ => 0))), (q6, .inl (cI, 700, .inl (fun _ => 0))), (q7, .inl (cI, 700, .inl (fun _ => 0))), (q8, .inl (cI, 700, .inl (fun _ => 0))), (q9, .inl (cI, 6, .inl (fun _ => 0))), (q10, .inl (cI, 80, .inl (fun _ => 0)))] H := hP
  have hD : va_D A [(h0, .inr (11, [.int 0, .ref q1, .int 0, .int 0, .int 0, .int 0, .ref q2, .ref q3, .ref q4, .ref q5, .ref q6, .ref q7, .ref q8, .int 0, .int 0, .ref q9, .ref q10, .null, .null, .null, .int 0, .int 0, .null, .null, .null, .int 0, .int 0, .null, .null, .int 0, .int 0, .null, .int 0, .long 0, .null, .int 0, .int 0, .null, .null, .null, .int 0])), (q1, .inl (cI, 240, .inl (fun _ => 0))), (q2, .inl (cI, 2600, .inl (fun _ => 0))), (q3, .inl (cI, 2600, .inl (fun _ => 0))), (q4, .inl (cI, 5, .inl (fun _ => 0))), (q5, .inl (cI, 5, .inl (fun _ => 0))), (q6, .inl (cI, 700, .inl (fun _ => 0))), (q7, .inl (cI, 700, .inl (fun _ => 0))), (q8, .inl (cI, 700, .inl (fun _ => 0))), (q9, .inl (cI, 6, .inl (fun _ => 0))), (q10, .inl (cI, 80, .inl (fun _ => 0)))] := hD
  refine lv_aload_n hx hb dX11_init_88 rfl (lv_at hl 0 rfl) ?_
  refine lv_iconst (v := 3) hx hb dX11_init_89 (by decide) ?_
  refine va_newa (atype := .int) (ty := .int) (N' := 3) (a0 := (3, .inl (fun _ => 0))) hx hb (hts _ qw147) rfl hK hP hD hS hA (fun _ => rfl) (by decide) (by decide) (Nat.le_of_ble_eq_true rfl) (Nat.le_of_ble_eq_true rfl) (Nat.le_of_ble_eq_true rfl) dX11_init_90 (fun q11 cA H hK2 hP hD hS => ?_)
  obtain rfl : cI = cA := (zcA hK2 0 2 rfl rfl).symm
  have hP : va_P (dC, dI) vwCl [(h0, .inr (11, [.int 0, .ref q1, .int 0, .int 0, .int 0, .int 0, .ref q2, .ref q3, .ref q4, .ref q5, .ref q6, .ref q7, .ref q8, .int 0, .int 0, .ref q9, .ref q10, .null, .null, .null, .int 0, .int 0, .null, .null, .null, .int 0, .int 0, .null, .null, .int 0, .int 0, .null, .int 0, .long 0, .null, .int 0, .int 0, .null, .null, .null, .int 0])), (q1, .inl (cI, 240, .inl (fun _ => 0))), (q2, .inl (cI, 2600, .inl (fun _ => 0))), (q3, .inl (cI, 2600, .inl (fun _ => 0))), (q4, .inl (cI, 5, .inl (fun _ => 0))), (q5, .inl (cI, 5, .inl (fun _ => 0))), (q6, .inl (cI, 700, .inl (fun _ => 0))), (q7, .inl (cI, 700, .inl (fun _ => 0))), (q8, .inl (cI, 700, .inl (fun _ => 0))), (q9, .inl (cI, 6, .inl (fun _ => 0))), (q10, .inl (cI, 80, .inl (fun _ => 0))), (q11, .inl (cI, 3, .inl (fun _ => 0)))] H := hP
  have hD : va_D A [(h0, .inr (11, [.int 0, .ref q1, .int 0, .int 0, .int 0, .int 0, .ref q2, .ref q3, .ref q4, .ref q5, .ref q6, .ref q7, .ref q8, .int 0, .int 0, .ref q9, .ref q10, .null, .null, .null, .int 0, .int 0, .null, .null, .null, .int 0, .int 0, .null, .null, .int 0, .int 0, .null, .int 0, .long 0, .null, .int 0, .int 0, .null, .null, .null, .int 0])), (q1, .inl (cI, 240, .inl (fun _ => 0))), (q2, .inl (cI, 2600, .inl (fun _ => 0))), (q3, .inl (cI, 2600, .inl (fun _ => 0))), (q4, .inl (cI, 5, .inl (fun _ => 0))), (q5, .inl (cI, 5, .inl (fun _ => 0))), (q6, .inl (cI, 700, .inl (fun _ => 0))), (q7, .inl (cI, 700, .inl (fun _ => 0))), (q8, .inl (cI, 700, .inl (fun _ => 0))), (q9, .inl (cI, 6, .inl (fun _ => 0))), (q10, .inl (cI, 80, .inl (fun _ => 0))), (q11, .inl (cI, 3, .inl (fun _ => 0)))] := hD
  refine W.widen (k := 11) (n := 7639) (Nat.le_of_ble_eq_true rfl) (Nat.le_of_ble_eq_true rfl) ?_
  refine va_putF (D := (dC, dI)) (ci := 11) (v := .ref q11) (ty := .array .int) (C := RX11) (T := TX11) (N := 41) hx hb hts iX11 tyX11 tyX11_ok nmX11 hown hK hP hD hS 0 rfl rfl 17 (by decide) (hts _ qw1144) (fun _ h9 => h9) rfl hin rfl (by decide +kernel) rfl rfl (Nat.le_of_ble_eq_true rfl) dX11_init_92 (fun H locs hP hD hS => ?_)
  have hP : va_P (dC, dI) vwCl [(h0, .inr (11, [.int 0, .ref q1, .int 0, .int 0, .int 0, .int 0, .ref q2, .ref q3, .ref q4, .ref q5, .ref q6, .ref q7, .ref q8, .int 0, .int 0, .ref q9, .ref q10, .ref q11, .null, .null, .int 0, .int 0, .null, .null, .null, .int 0, .int 0, .null, .null, .int 0, .int 0, .null, .int 0, .long 0, .null, .int 0, .int 0, .null, .null, .null, .int 0])), (q1, .inl (cI, 240, .inl (fun _ => 0))), (q2, .inl (cI, 2600, .inl (fun _ => 0))), (q3, .inl (cI, 2600, .inl (fun _ => 0))), (q4, .inl (cI, 5, .inl (fun _ => 0))), (q5, .inl (cI, 5, .inl (fun _ => 0))), (q6, .inl (cI, 700, .inl (fun _ => 0))), (q7, .inl (cI, 700, .inl (fun _ => 0))), (q8, .inl (cI, 700, .inl (fun _ => 0))), (q9, .inl (cI, 6, .inl (fun _ => 0))), (q10, .inl (cI, 80, .inl (fun _ => 0))), (q11, .inl (cI, 3, .inl (fun _ => 0)))] H := hP
  have hD : va_D A [(h0, .inr (11, [.int 0, .ref q1, .int 0, .int 0, .int 0, .int 0, .ref q2, .ref q3, .ref q4, .ref q5, .ref q6, .ref q7, .ref q8, .int 0, .int 0, .ref q9, .ref q10, .ref q11, .null, .null, .int 0, .int 0, .null, .null, .null, .int 0, .int 0, .null, .null, .int 0, .int 0, .null, .int 0, .long 0, .null, .int 0, .int 0, .null, .null, .null, .int 0])), (q1, .inl (cI, 240, .inl (fun _ => 0))), (q2, .inl (cI, 2600, .inl (fun _ => 0))), (q3, .inl (cI, 2600, .inl (fun _ => 0))), (q4, .inl (cI, 5, .inl (fun _ => 0))), (q5, .inl (cI, 5, .inl (fun _ => 0))), (q6, .inl (cI, 700, .inl (fun _ => 0))), (q7, .inl (cI, 700, .inl (fun _ => 0))), (q8, .inl (cI, 700, .inl (fun _ => 0))), (q9, .inl (cI, 6, .inl (fun _ => 0))), (q10, .inl (cI, 80, .inl (fun _ => 0))), (q11, .inl (cI, 3, .inl (fun _ => 0)))] := hD
  refine lv_aload_n hx hb dX11_init_95 rfl (lv_at hl 0 rfl) ?_
  refine lv_bipush (v := 24) hx hb dX11_init_96 (by decide) ?_
  refine va_newa (atype := .int) (ty := .int) (N' := 24) (a0 := (24, .inl (fun _ => 0))) hx hb (hts _ qw147) rfl hK hP hD hS hA (fun _ => rfl) (by decide) (by decide) (Nat.le_of_ble_eq_true rfl) (Nat.le_of_ble_eq_true rfl) (Nat.le_of_ble_eq_true rfl) dX11_init_98 (fun q12 cA H hK2 hP hD hS => ?_)
  obtain rfl : cI = cA := (zcA hK2 0 2 rfl rfl).symm
  have hP : va_P (dC, dI) vwCl [(h0, .inr (11, [.int 0, .ref q1, .int 0, .int 0, .int 0, .int 0, .ref q2, .ref q3, .ref q4, .ref q5, .ref q6, .ref q7, .ref q8, .int 0, .int 0, .ref q9, .ref q10, .ref q11, .null, .null, .int 0, .int 0, .null, .null, .null, .int 0, .int 0, .null, .null, .int 0, .int 0, .null, .int 0, .long 0, .null, .int 0, .int 0, .null, .null, .null, .int 0])), (q1, .inl (cI, 240, .inl (fun _ => 0))), (q2, .inl (cI, 2600, .inl (fun _ => 0))), (q3, .inl (cI, 2600, .inl (fun _ => 0))), (q4, .inl (cI, 5, .inl (fun _ => 0))), (q5, .inl (cI, 5, .inl (fun _ => 0))), (q6, .inl (cI, 700, .inl (fun _ => 0))), (q7, .inl (cI, 700, .inl (fun _ => 0))), (q8, .inl (cI, 700, .inl (fun _ => 0))), (q9, .inl (cI, 6, .inl (fun _ => 0))), (q10, .inl (cI, 80, .inl (fun _ => 0))), (q11, .inl (cI, 3, .inl (fun _ => 0))), (q12, .inl (cI, 24, .inl (fun _ => 0)))] H := hP
  have hD : va_D A [(h0, .inr (11, [.int 0, .ref q1, .int 0, .int 0, .int 0, .int 0, .ref q2, .ref q3, .ref q4, .ref q5, .ref q6, .ref q7, .ref q8, .int 0, .int 0, .ref q9, .ref q10, .ref q11, .null, .null, .int 0, .int 0, .null, .null, .null, .int 0, .int 0, .null, .null, .int 0, .int 0, .null, .int 0, .long 0, .null, .int 0, .int 0, .null, .null, .null, .int 0])), (q1, .inl (cI, 240, .inl (fun _ => 0))), (q2, .inl (cI, 2600, .inl (fun _ => 0))), (q3, .inl (cI, 2600, .inl (fun _ => 0))), (q4, .inl (cI, 5, .inl (fun _ => 0))), (q5, .inl (cI, 5, .inl (fun _ => 0))), (q6, .inl (cI, 700, .inl (fun _ => 0))), (q7, .inl (cI, 700, .inl (fun _ => 0))), (q8, .inl (cI, 700, .inl (fun _ => 0))), (q9, .inl (cI, 6, .inl (fun _ => 0))), (q10, .inl (cI, 80, .inl (fun _ => 0))), (q11, .inl (cI, 3, .inl (fun _ => 0))), (q12, .inl (cI, 24, .inl (fun _ => 0)))] := hD
  refine W.widen (k := 12) (n := 7663) (Nat.le_of_ble_eq_true rfl) (Nat.le_of_ble_eq_true rfl) ?_
  refine va_putF (D := (dC, dI)) (ci := 11) (v := .ref q12) (ty := .array .int) (C := RX11) (T := TX11) (N := 41) hx hb hts iX11 tyX11 tyX11_ok nmX11 hown hK hP hD hS 0 rfl rfl 18 (by decide) (hts _ qw1145) (fun _ h9 => h9) rfl hin rfl (by decide +kernel) rfl rfl (Nat.le_of_ble_eq_true rfl) dX11_init_100 (fun H locs hP hD hS => ?_)
  have hP : va_P (dC, dI) vwCl [(h0, .inr (11, [.int 0, .ref q1, .int 0, .int 0, .int 0, .int 0, .ref q2, .ref q3, .ref q4, .ref q5, .ref q6, .ref q7, .ref q8, .int 0, .int 0, .ref q9, .ref q10, .ref q11, .ref q12, .null, .int 0, .int 0, .null, .null, .null, .int 0, .int 0, .null, .null, .int 0, .int 0, .null, .int 0, .long 0, .null, .int 0, .int 0, .null, .null, .null, .int 0])), (q1, .inl (cI, 240, .inl (fun _ => 0))), (q2, .inl (cI, 2600, .inl (fun _ => 0))), (q3, .inl (cI, 2600, .inl (fun _ => 0))), (q4, .inl (cI, 5, .inl (fun _ => 0))), (q5, .inl (cI, 5, .inl (fun _ => 0))), (q6, .inl (cI, 700, .inl (fun _ => 0))), (q7, .inl (cI, 700, .inl (fun _ => 0))), (q8, .inl (cI, 700, .inl (fun _ => 0))), (q9, .inl (cI, 6, .inl (fun _ => 0))), (q10, .inl (cI, 80, .inl (fun _ => 0))), (q11, .inl (cI, 3, .inl (fun _ => 0))), (q12, .inl (cI, 24, .inl (fun _ => 0)))] H := hP
  have hD : va_D A [(h0, .inr (11, [.int 0, .ref q1, .int 0, .int 0, .int 0, .int 0, .ref q2, .ref q3, .ref q4, .ref q5, .ref q6, .ref q7, .ref q8, .int 0, .int 0, .ref q9, .ref q10, .ref q11, .ref q12, .null, .int 0, .int 0, .null, .null, .null, .int 0, .int 0, .null, .null, .int 0, .int 0, .null, .int 0, .long 0, .null, .int 0, .int 0, .null, .null, .null, .int 0])), (q1, .inl (cI, 240, .inl (fun _ => 0))), (q2, .inl (cI, 2600, .inl (fun _ => 0))), (q3, .inl (cI, 2600, .inl (fun _ => 0))), (q4, .inl (cI, 5, .inl (fun _ => 0))), (q5, .inl (cI, 5, .inl (fun _ => 0))), (q6, .inl (cI, 700, .inl (fun _ => 0))), (q7, .inl (cI, 700, .inl (fun _ => 0))), (q8, .inl (cI, 700, .inl (fun _ => 0))), (q9, .inl (cI, 6, .inl (fun _ => 0))), (q10, .inl (cI, 80, .inl (fun _ => 0))), (q11, .inl (cI, 3, .inl (fun _ => 0))), (q12, .inl (cI, 24, .inl (fun _ => 0)))] := hD
  refine lv_aload_n hx hb dX11_init_103 rfl (lv_at hl 0 rfl) ?_
  refine lv_bipush (v := 20) hx hb dX11_init_104 (by decide) ?_
  refine va_newa (atype := .int) (ty := .int) (N' := 20) (a0 := (20, .inl (fun _ => 0))) hx hb (hts _ qw147) rfl hK hP hD hS hA (fun _ => rfl) (by decide) (by decide) (Nat.le_of_ble_eq_true rfl) (Nat.le_of_ble_eq_true rfl) (Nat.le_of_ble_eq_true rfl) dX11_init_106 (fun q13 cA H hK2 hP hD hS => ?_)
  obtain rfl : cI = cA := (zcA hK2 0 2 rfl rfl).symm
  have hP : va_P (dC, dI) vwCl [(h0, .inr (11, [.int 0, .ref q1, .int 0, .int 0, .int 0, .int 0, .ref q2, .ref q3, .ref q4, .ref q5, .ref q6, .ref q7, .ref q8, .int 0, .int 0, .ref q9, .ref q10, .ref q11, .ref q12, .null, .int 0, .int 0, .null, .null, .null, .int 0, .int 0, .null, .null, .int 0, .int 0, .null, .int 0, .long 0, .null, .int 0, .int 0, .null, .null, .null, .int 0])), (q1, .inl (cI, 240, .inl (fun _ => 0))), (q2, .inl (cI, 2600, .inl (fun _ => 0))), (q3, .inl (cI, 2600, .inl (fun _ => 0))), (q4, .inl (cI, 5, .inl (fun _ => 0))), (q5, .inl (cI, 5, .inl (fun _ => 0))), (q6, .inl (cI, 700, .inl (fun _ => 0))), (q7, .inl (cI, 700, .inl (fun _ => 0))), (q8, .inl (cI, 700, .inl (fun _ => 0))), (q9, .inl (cI, 6, .inl (fun _ => 0))), (q10, .inl (cI, 80, .inl (fun _ => 0))), (q11, .inl (cI, 3, .inl (fun _ => 0))), (q12, .inl (cI, 24, .inl (fun _ => 0))), (q13, .inl (cI, 20, .inl (fun _ => 0)))] H := hP
  have hD : va_D A [(h0, .inr (11, [.int 0, .ref q1, .int 0, .int 0, .int 0, .int 0, .ref q2, .ref q3, .ref q4, .ref q5, .ref q6, .ref q7, .ref q8, .int 0, .int 0, .ref q9, .ref q10, .ref q11, .ref q12, .null, .int 0, .int 0, .null, .null, .null, .int 0, .int 0, .null, .null, .int 0, .int 0, .null, .int 0, .long 0, .null, .int 0, .int 0, .null, .null, .null, .int 0])), (q1, .inl (cI, 240, .inl (fun _ => 0))), (q2, .inl (cI, 2600, .inl (fun _ => 0))), (q3, .inl (cI, 2600, .inl (fun _ => 0))), (q4, .inl (cI, 5, .inl (fun _ => 0))), (q5, .inl (cI, 5, .inl (fun _ => 0))), (q6, .inl (cI, 700, .inl (fun _ => 0))), (q7, .inl (cI, 700, .inl (fun _ => 0))), (q8, .inl (cI, 700, .inl (fun _ => 0))), (q9, .inl (cI, 6, .inl (fun _ => 0))), (q10, .inl (cI, 80, .inl (fun _ => 0))), (q11, .inl (cI, 3, .inl (fun _ => 0))), (q12, .inl (cI, 24, .inl (fun _ => 0))), (q13, .inl (cI, 20, .inl (fun _ => 0)))] := hD
  refine W.widen (k := 13) (n := 7683) (Nat.le_of_ble_eq_true rfl) (Nat.le_of_ble_eq_true rfl) ?_
  refine va_putF (D := (dC, dI)) (ci := 11) (v := .ref q13) (ty := .array .int) (C := RX11) (T := TX11) (N := 41) hx hb hts iX11 tyX11 tyX11_ok nmX11 hown hK hP hD hS 0 rfl rfl 19 (by decide) (hts _ qw1146) (fun _ h9 => h9) rfl hin rfl (by decide +kernel) rfl rfl (Nat.le_of_ble_eq_true rfl) dX11_init_108 (fun H locs hP hD hS => ?_)
  have hP : va_P (dC, dI) vwCl [(h0, .inr (11, [.int 0, .ref q1, .int 0, .int 0, .int 0, .int 0, .ref q2, .ref q3, .ref q4, .ref q5, .ref q6, .ref q7, .ref q8, .int 0, .int 0, .ref q9, .ref q10, .ref q11, .ref q12, .ref q13, .int 0, .int 0, .null, .null, .null, .int 0, .int 0, .null, .null, .int 0, .int 0, .null, .int 0, .long 0, .null, .int 0, .int 0, .null, .null, .null, .int 0])), (q1, .inl (cI, 240, .inl (fun _ => 0))), (q2, .inl (cI, 2600, .inl (fun _ => 0))), (q3, .inl (cI, 2600, .inl (fun _ => 0))), (q4, .inl (cI, 5, .inl (fun _ => 0))), (q5, .inl (cI, 5, .inl (fun _ => 0))), (q6, .inl (cI, 700, .inl (fun _ => 0))), (q7, .inl (cI, 700, .inl (fun _ => 0))), (q8, .inl (cI, 700, .inl (fun _ => 0))), (q9, .inl (cI, 6, .inl (fun _ => 0))), (q10, .inl (cI, 80, .inl (fun _ => 0))), (q11, .inl (cI, 3, .inl (fun _ => 0))), (q12, .inl (cI, 24, .inl (fun _ => 0))), (q13, .inl (cI, 20, .inl (fun _ => 0)))] H := hP
  have hD : va_D A [(h0, .inr (11, [.int 0, .ref q1, .int 0, .int 0, .int 0, .int 0, .ref q2, .ref q3, .ref q4, .ref q5, .ref q6, .ref q7, .ref q8, .int 0, .int 0, .ref q9, .ref q10, .ref q11, .ref q12, .ref q13, .int 0, .int 0, .null, .null, .null, .int 0, .int 0, .null, .null, .int 0, .int 0, .null, .int 0, .long 0, .null, .int 0, .int 0, .null, .null, .null, .int 0])), (q1, .inl (cI, 240, .inl (fun _ => 0))), (q2, .inl (cI, 2600, .inl (fun _ => 0))), (q3, .inl (cI, 2600, .inl (fun _ => 0))), (q4, .inl (cI, 5, .inl (fun _ => 0))), (q5, .inl (cI, 5, .inl (fun _ => 0))), (q6, .inl (cI, 700, .inl (fun _ => 0))), (q7, .inl (cI, 700, .inl (fun _ => 0))), (q8, .inl (cI, 700, .inl (fun _ => 0))), (q9, .inl (cI, 6, .inl (fun _ => 0))), (q10, .inl (cI, 80, .inl (fun _ => 0))), (q11, .inl (cI, 3, .inl (fun _ => 0))), (q12, .inl (cI, 24, .inl (fun _ => 0))), (q13, .inl (cI, 20, .inl (fun _ => 0)))] := hD
  refine lv_aload_n hx hb dX11_init_111 rfl (lv_at hl 0 rfl) ?_
  refine lv_iconst (v := 3) hx hb dX11_init_112 (by decide) ?_
  refine va_newa (atype := .int) (ty := .int) (N' := 3) (a0 := (3, .inl (fun _ => 0))) hx hb (hts _ qw147) rfl hK hP hD hS hA (fun _ => rfl) (by decide) (by decide) (Nat.le_of_ble_eq_true rfl) (Nat.le_of_ble_eq_true rfl) (Nat.le_of_ble_eq_true rfl) dX11_init_113 (fun q14 cA H hK2 hP hD hS => ?_)
  obtain rfl : cI = cA := (zcA hK2 0 2 rfl rfl).symm
  have hP : va_P (dC, dI) vwCl [(h0, .inr (11, [.int 0, .ref q1, .int 0, .int 0, .int 0, .int 0, .ref q2, .ref q3, .ref q4, .ref q5, .ref q6, .ref q7, .ref q8, .int 0, .int 0, .ref q9, .ref q10, .ref q11, .ref q12, .ref q13, .int 0, .int 0, .null, .null, .null, .int 0, .int 0, .null, .null, .int 0, .int 0, .null, .int 0, .long 0, .null, .int 0, .int 0, .null, .null, .null, .int 0])), (q1, .inl (cI, 240, .inl (fun _ => 0))), (q2, .inl (cI, 2600, .inl (fun _ => 0))), (q3, .inl (cI, 2600, .inl (fun _ => 0))), (q4, .inl (cI, 5, .inl (fun _ => 0))), (q5, .inl (cI, 5, .inl (fun _ => 0))), (q6, .inl (cI, 700, .inl (fun _ => 0))), (q7, .inl (cI, 700, .inl (fun _ => 0))), (q8, .inl (cI, 700, .inl (fun _ => 0))), (q9, .inl (cI, 6, .inl (fun _ => 0))), (q10, .inl (cI, 80, .inl (fun _ => 0))), (q11, .inl (cI, 3, .inl (fun _ => 0))), (q12, .inl (cI, 24, .inl (fun _ => 0))), (q13, .inl (cI, 20, .inl (fun _ => 0))), (q14, .inl (cI, 3, .inl (fun _ => 0)))] H := hP
  have hD : va_D A [(h0, .inr (11, [.int 0, .ref q1, .int 0, .int 0, .int 0, .int 0, .ref q2, .ref q3, .ref q4, .ref q5, .ref q6, .ref q7, .ref q8, .int 0, .int 0, .ref q9, .ref q10, .ref q11, .ref q12, .ref q13, .int 0, .int 0, .null, .null, .null, .int 0, .int 0, .null, .null, .int 0, .int 0, .null, .int 0, .long 0, .null, .int 0, .int 0, .null, .null, .null, .int 0])), (q1, .inl (cI, 240, .inl (fun _ => 0))), (q2, .inl (cI, 2600, .inl (fun _ => 0))), (q3, .inl (cI, 2600, .inl (fun _ => 0))), (q4, .inl (cI, 5, .inl (fun _ => 0))), (q5, .inl (cI, 5, .inl (fun _ => 0))), (q6, .inl (cI, 700, .inl (fun _ => 0))), (q7, .inl (cI, 700, .inl (fun _ => 0))), (q8, .inl (cI, 700, .inl (fun _ => 0))), (q9, .inl (cI, 6, .inl (fun _ => 0))), (q10, .inl (cI, 80, .inl (fun _ => 0))), (q11, .inl (cI, 3, .inl (fun _ => 0))), (q12, .inl (cI, 24, .inl (fun _ => 0))), (q13, .inl (cI, 20, .inl (fun _ => 0))), (q14, .inl (cI, 3, .inl (fun _ => 0)))] := hD
  refine W.widen (k := 14) (n := 7686) (Nat.le_of_ble_eq_true rfl) (Nat.le_of_ble_eq_true rfl) ?_
  refine va_putF (D := (dC, dI)) (ci := 11) (v := .ref q14) (ty := .array .int) (C := RX11) (T := TX11) (N := 41) hx hb hts iX11 tyX11 tyX11_ok nmX11 hown hK hP hD hS 0 rfl rfl 22 (by decide) (hts _ qw1149) (fun _ h9 => h9) rfl hin rfl (by decide +kernel) rfl rfl (Nat.le_of_ble_eq_true rfl) dX11_init_115 (fun H locs hP hD hS => ?_)
  have hP : va_P (dC, dI) vwCl [(h0, .inr (11, [.int 0, .ref q1, .int 0, .int 0, .int 0, .int 0, .ref q2, .ref q3, .ref q4, .ref q5, .ref q6, .ref q7, .ref q8, .int 0, .int 0, .ref q9, .ref q10, .ref q11, .ref q12, .ref q13, .int 0, .int 0, .ref q14, .null, .null, .int 0, .int 0, .null, .null, .int 0, .int 0, .null, .int 0, .long 0, .null, .int 0, .int 0, .null, .null, .null, .int 0])), (q1, .inl (cI, 240, .inl (fun _ => 0))), (q2, .inl (cI, 2600, .inl (fun _ => 0))), (q3, .inl (cI, 2600, .inl (fun _ => 0))), (q4, .inl (cI, 5, .inl (fun _ => 0))), (q5, .inl (cI, 5, .inl (fun _ => 0))), (q6, .inl (cI, 700, .inl (fun _ => 0))), (q7, .inl (cI, 700, .inl (fun _ => 0))), (q8, .inl (cI, 700, .inl (fun _ => 0))), (q9, .inl (cI, 6, .inl (fun _ => 0))), (q10, .inl (cI, 80, .inl (fun _ => 0))), (q11, .inl (cI, 3, .inl (fun _ => 0))), (q12, .inl (cI, 24, .inl (fun _ => 0))), (q13, .inl (cI, 20, .inl (fun _ => 0))), (q14, .inl (cI, 3, .inl (fun _ => 0)))] H := hP
  have hD : va_D A [(h0, .inr (11, [.int 0, .ref q1, .int 0, .int 0, .int 0, .int 0, .ref q2, .ref q3, .ref q4, .ref q5, .ref q6, .ref q7, .ref q8, .int 0, .int 0, .ref q9, .ref q10, .ref q11, .ref q12, .ref q13, .int 0, .int 0, .ref q14, .null, .null, .int 0, .int 0, .null, .null, .int 0, .int 0, .null, .int 0, .long 0, .null, .int 0, .int 0, .null, .null, .null, .int 0])), (q1, .inl (cI, 240, .inl (fun _ => 0))), (q2, .inl (cI, 2600, .inl (fun _ => 0))), (q3, .inl (cI, 2600, .inl (fun _ => 0))), (q4, .inl (cI, 5, .inl (fun _ => 0))), (q5, .inl (cI, 5, .inl (fun _ => 0))), (q6, .inl (cI, 700, .inl (fun _ => 0))), (q7, .inl (cI, 700, .inl (fun _ => 0))), (q8, .inl (cI, 700, .inl (fun _ => 0))), (q9, .inl (cI, 6, .inl (fun _ => 0))), (q10, .inl (cI, 80, .inl (fun _ => 0))), (q11, .inl (cI, 3, .inl (fun _ => 0))), (q12, .inl (cI, 24, .inl (fun _ => 0))), (q13, .inl (cI, 20, .inl (fun _ => 0))), (q14, .inl (cI, 3, .inl (fun _ => 0)))] := hD
  refine lv_aload_n hx hb dX11_init_118 rfl (lv_at hl 0 rfl) ?_
  refine lv_bipush (v := 24) hx hb dX11_init_119 (by decide) ?_
  refine va_newa (atype := .int) (ty := .int) (N' := 24) (a0 := (24, .inl (fun _ => 0))) hx hb (hts _ qw147) rfl hK hP hD hS hA (fun _ => rfl) (by decide) (by decide) (Nat.le_of_ble_eq_true rfl) (Nat.le_of_ble_eq_true rfl) (Nat.le_of_ble_eq_true rfl) dX11_init_121 (fun q15 cA H hK2 hP hD hS => ?_)
  obtain rfl : cI = cA := (zcA hK2 0 2 rfl rfl).symm
  have hP : va_P (dC, dI) vwCl [(h0, .inr (11, [.int 0, .ref q1, .int 0, .int 0, .int 0, .int 0, .ref q2, .ref q3, .ref q4, .ref q5, .ref q6, .ref q7, .ref q8, .int 0, .int 0, .ref q9, .ref q10, .ref q11, .ref q12, .ref q13, .int 0, .int 0, .ref q14, .null, .null, .int 0, .int 0, .null, .null, .int 0, .int 0, .null, .int 0, .long 0, .null, .int 0, .int 0, .null, .null, .null, .int 0])), (q1, .inl (cI, 240, .inl (fun _ => 0))), (q2, .inl (cI, 2600, .inl (fun _ => 0))), (q3, .inl (cI, 2600, .inl (fun _ => 0))), (q4, .inl (cI, 5, .inl (fun _ => 0))), (q5, .inl (cI, 5, .inl (fun _ => 0))), (q6, .inl (cI, 700, .inl (fun _ => 0))), (q7, .inl (cI, 700, .inl (fun _ => 0))), (q8, .inl (cI, 700, .inl (fun _ => 0))), (q9, .inl (cI, 6, .inl (fun _ => 0))), (q10, .inl (cI, 80, .inl (fun _ => 0))), (q11, .inl (cI, 3, .inl (fun _ => 0))), (q12, .inl (cI, 24, .inl (fun _ => 0))), (q13, .inl (cI, 20, .inl (fun _ => 0))), (q14, .inl (cI, 3, .inl (fun _ => 0))), (q15, .inl (cI, 24, .inl (fun _ => 0)))] H := hP
  have hD : va_D A [(h0, .inr (11, [.int 0, .ref q1, .int 0, .int 0, .int 0, .int 0, .ref q2, .ref q3, .ref q4, .ref q5, .ref q6, .ref q7, .ref q8, .int 0, .int 0, .ref q9, .ref q10, .ref q11, .ref q12, .ref q13, .int 0, .int 0, .ref q14, .null, .null, .int 0, .int 0, .null, .null, .int 0, .int 0, .null, .int 0, .long 0, .null, .int 0, .int 0, .null, .null, .null, .int 0])), (q1, .inl (cI, 240, .inl (fun _ => 0))), (q2, .inl (cI, 2600, .inl (fun _ => 0))), (q3, .inl (cI, 2600, .inl (fun _ => 0))), (q4, .inl (cI, 5, .inl (fun _ => 0))), (q5, .inl (cI, 5, .inl (fun _ => 0))), (q6, .inl (cI, 700, .inl (fun _ => 0))), (q7, .inl (cI, 700, .inl (fun _ => 0))), (q8, .inl (cI, 700, .inl (fun _ => 0))), (q9, .inl (cI, 6, .inl (fun _ => 0))), (q10, .inl (cI, 80, .inl (fun _ => 0))), (q11, .inl (cI, 3, .inl (fun _ => 0))), (q12, .inl (cI, 24, .inl (fun _ => 0))), (q13, .inl (cI, 20, .inl (fun _ => 0))), (q14, .inl (cI, 3, .inl (fun _ => 0))), (q15, .inl (cI, 24, .inl (fun _ => 0)))] := hD
  refine W.widen (k := 15) (n := 7710) (Nat.le_of_ble_eq_true rfl) (Nat.le_of_ble_eq_true rfl) ?_
  refine va_putF (D := (dC, dI)) (ci := 11) (v := .ref q15) (ty := .array .int) (C := RX11) (T := TX11) (N := 41) hx hb hts iX11 tyX11 tyX11_ok nmX11 hown hK hP hD hS 0 rfl rfl 23 (by decide) (hts _ qw1150) (fun _ h9 => h9) rfl hin rfl (by decide +kernel) rfl rfl (Nat.le_of_ble_eq_true rfl) dX11_init_123 (fun H locs hP hD hS => ?_)
  have hP : va_P (dC, dI) vwCl [(h0, .inr (11, [.int 0, .ref q1, .int 0, .int 0, .int 0, .int 0, .ref q2, .ref q3, .ref q4, .ref q5, .ref q6, .ref q7, .ref q8, .int 0, .int 0, .ref q9, .ref q10, .ref q11, .ref q12, .ref q13, .int 0, .int 0, .ref q14, .ref q15, .null, .int 0, .int 0, .null, .null, .int 0, .int 0, .null, .int 0, .long 0, .null, .int 0, .int 0, .null, .null, .null, .int 0])), (q1, .inl (cI, 240, .inl (fun _ => 0))), (q2, .inl (cI, 2600, .inl (fun _ => 0))), (q3, .inl (cI, 2600, .inl (fun _ => 0))), (q4, .inl (cI, 5, .inl (fun _ => 0))), (q5, .inl (cI, 5, .inl (fun _ => 0))), (q6, .inl (cI, 700, .inl (fun _ => 0))), (q7, .inl (cI, 700, .inl (fun _ => 0))), (q8, .inl (cI, 700, .inl (fun _ => 0))), (q9, .inl (cI, 6, .inl (fun _ => 0))), (q10, .inl (cI, 80, .inl (fun _ => 0))), (q11, .inl (cI, 3, .inl (fun _ => 0))), (q12, .inl (cI, 24, .inl (fun _ => 0))), (q13, .inl (cI, 20, .inl (fun _ => 0))), (q14, .inl (cI, 3, .inl (fun _ => 0))), (q15, .inl (cI, 24, .inl (fun _ => 0)))] H := hP
  have hD : va_D A [(h0, .inr (11, [.int 0, .ref q1, .int 0, .int 0, .int 0, .int 0, .ref q2, .ref q3, .ref q4, .ref q5, .ref q6, .ref q7, .ref q8, .int 0, .int 0, .ref q9, .ref q10, .ref q11, .ref q12, .ref q13, .int 0, .int 0, .ref q14, .ref q15, .null, .int 0, .int 0, .null, .null, .int 0, .int 0, .null, .int 0, .long 0, .null, .int 0, .int 0, .null, .null, .null, .int 0])), (q1, .inl (cI, 240, .inl (fun _ => 0))), (q2, .inl (cI, 2600, .inl (fun _ => 0))), (q3, .inl (cI, 2600, .inl (fun _ => 0))), (q4, .inl (cI, 5, .inl (fun _ => 0))), (q5, .inl (cI, 5, .inl (fun _ => 0))), (q6, .inl (cI, 700, .inl (fun _ => 0))), (q7, .inl (cI, 700, .inl (fun _ => 0))), (q8, .inl (cI, 700, .inl (fun _ => 0))), (q9, .inl (cI, 6, .inl (fun _ => 0))), (q10, .inl (cI, 80, .inl (fun _ => 0))), (q11, .inl (cI, 3, .inl (fun _ => 0))), (q12, .inl (cI, 24, .inl (fun _ => 0))), (q13, .inl (cI, 20, .inl (fun _ => 0))), (q14, .inl (cI, 3, .inl (fun _ => 0))), (q15, .inl (cI, 24, .inl (fun _ => 0)))] := hD
  refine lv_aload_n hx hb dX11_init_126 rfl (lv_at hl 0 rfl) ?_
  refine lv_bipush (v := 20) hx hb dX11_init_127 (by decide) ?_
  refine va_newa (atype := .int) (ty := .int) (N' := 20) (a0 := (20, .inl (fun _ => 0))) hx hb (hts _ qw147) rfl hK hP hD hS hA (fun _ => rfl) (by decide) (by decide) (Nat.le_of_ble_eq_true rfl) (Nat.le_of_ble_eq_true rfl) (Nat.le_of_ble_eq_true rfl) dX11_init_129 (fun q16 cA H hK2 hP hD hS => ?_)
  obtain rfl : cI = cA := (zcA hK2 0 2 rfl rfl).symm
  have hP : va_P (dC, dI) vwCl [(h0, .inr (11, [.int 0, .ref q1, .int 0, .int 0, .int 0, .int 0, .ref q2, .ref q3, .ref q4, .ref q5, .ref q6, .ref q7, .ref q8, .int 0, .int 0, .ref q9, .ref q10, .ref q11, .ref q12, .ref q13, .int 0, .int 0, .ref q14, .ref q15, .null, .int 0, .int 0, .null, .null, .int 0, .int 0, .null, .int 0, .long 0, .null, .int 0, .int 0, .null, .null, .null, .int 0])), (q1, .inl (cI, 240, .inl (fun _ => 0))), (q2, .inl (cI, 2600, .inl (fun _ => 0))), (q3, .inl (cI, 2600, .inl (fun _ => 0))), (q4, .inl (cI, 5, .inl (fun _ => 0))), (q5, .inl (cI, 5, .inl (fun _ => 0))), (q6, .inl (cI, 700, .inl (fun _ => 0))), (q7, .inl (cI, 700, .inl (fun _ => 0))), (q8, .inl (cI, 700, .inl (fun _ => 0))), (q9, .inl (cI, 6, .inl (fun _ => 0))), (q10, .inl (cI, 80, .inl (fun _ => 0))), (q11, .inl (cI, 3, .inl (fun _ => 0))), (q12, .inl (cI, 24, .inl (fun _ => 0))), (q13, .inl (cI, 20, .inl (fun _ => 0))), (q14, .inl (cI, 3, .inl (fun _ => 0))), (q15, .inl (cI, 24, .inl (fun _ => 0))), (q16, .inl (cI, 20, .inl (fun _ => 0)))] H := hP
  have hD : va_D A [(h0, .inr (11, [.int 0, .ref q1, .int 0, .int 0, .int 0, .int 0, .ref q2, .ref q3, .ref q4, .ref q5, .ref q6, .ref q7, .ref q8, .int 0, .int 0, .ref q9, .ref q10, .ref q11, .ref q12, .ref q13, .int 0, .int 0, .ref q14, .ref q15, .null, .int 0, .int 0, .null, .null, .int 0, .int 0, .null, .int 0, .long 0, .null, .int 0, .int 0, .null, .null, .null, .int 0])), (q1, .inl (cI, 240, .inl (fun _ => 0))), (q2, .inl (cI, 2600, .inl (fun _ => 0))), (q3, .inl (cI, 2600, .inl (fun _ => 0))), (q4, .inl (cI, 5, .inl (fun _ => 0))), (q5, .inl (cI, 5, .inl (fun _ => 0))), (q6, .inl (cI, 700, .inl (fun _ => 0))), (q7, .inl (cI, 700, .inl (fun _ => 0))), (q8, .inl (cI, 700, .inl (fun _ => 0))), (q9, .inl (cI, 6, .inl (fun _ => 0))), (q10, .inl (cI, 80, .inl (fun _ => 0))), (q11, .inl (cI, 3, .inl (fun _ => 0))), (q12, .inl (cI, 24, .inl (fun _ => 0))), (q13, .inl (cI, 20, .inl (fun _ => 0))), (q14, .inl (cI, 3, .inl (fun _ => 0))), (q15, .inl (cI, 24, .inl (fun _ => 0))), (q16, .inl (cI, 20, .inl (fun _ => 0)))] := hD
  refine W.widen (k := 16) (n := 7730) (Nat.le_of_ble_eq_true rfl) (Nat.le_of_ble_eq_true rfl) ?_
  refine va_putF (D := (dC, dI)) (ci := 11) (v := .ref q16) (ty := .array .int) (C := RX11) (T := TX11) (N := 41) hx hb hts iX11 tyX11 tyX11_ok nmX11 hown hK hP hD hS 0 rfl rfl 24 (by decide) (hts _ qw1151) (fun _ h9 => h9) rfl hin rfl (by decide +kernel) rfl rfl (Nat.le_of_ble_eq_true rfl) dX11_init_131 (fun H locs hP hD hS => ?_)
  have hP : va_P (dC, dI) vwCl [(h0, .inr (11, [.int 0, .ref q1, .int 0, .int 0, .int 0, .int 0, .ref q2, .ref q3, .ref q4, .ref q5, .ref q6, .ref q7, .ref q8, .int 0, .int 0, .ref q9, .ref q10, .ref q11, .ref q12, .ref q13, .int 0, .int 0, .ref q14, .ref q15, .ref q16, .int 0, .int 0, .null, .null, .int 0, .int 0, .null, .int 0, .long 0, .null, .int 0, .int 0, .null, .null, .null, .int 0])), (q1, .inl (cI, 240, .inl (fun _ => 0))), (q2, .inl (cI, 2600, .inl (fun _ => 0))), (q3, .inl (cI, 2600, .inl (fun _ => 0))), (q4, .inl (cI, 5, .inl (fun _ => 0))), (q5, .inl (cI, 5, .inl (fun _ => 0))), (q6, .inl (cI, 700, .inl (fun _ => 0))), (q7, .inl (cI, 700, .inl (fun _ => 0))), (q8, .inl (cI, 700, .inl (fun _ => 0))), (q9, .inl (cI, 6, .inl (fun _ => 0))), (q10, .inl (cI, 80, .inl (fun _ => 0))), (q11, .inl (cI, 3, .inl (fun _ => 0))), (q12, .inl (cI, 24, .inl (fun _ => 0))), (q13, .inl (cI, 20, .inl (fun _ => 0))), (q14, .inl (cI, 3, .inl (fun _ => 0))), (q15, .inl (cI, 24, .inl (fun _ => 0))), (q16, .inl (cI, 20, .inl (fun _ => 0)))] H := hP
  have hD : va_D A [(h0, .inr (11, [.int 0, .ref q1, .int 0, .int 0, .int 0, .int 0, .ref q2, .ref q3, .ref q4, .ref q5, .ref q6, .ref q7, .ref q8, .int 0, .int 0, .ref q9, .ref q10, .ref q11, .ref q12, .ref q13, .int 0, .int 0, .ref q14, .ref q15, .ref q16, .int 0, .int 0, .null, .null, .int 0, .int 0, .null, .int 0, .long 0, .null, .int 0, .int 0, .null, .null, .null, .int 0])), (q1, .inl (cI, 240, .inl (fun _ => 0))), (q2, .inl (cI, 2600, .inl (fun _ => 0))), (q3, .inl (cI, 2600, .inl (fun _ => 0))), (q4, .inl (cI, 5, .inl (fun _ => 0))), (q5, .inl (cI, 5, .inl (fun _ => 0))), (q6, .inl (cI, 700, .inl (fun _ => 0))), (q7, .inl (cI, 700, .inl (fun _ => 0))), (q8, .inl (cI, 700, .inl (fun _ => 0))), (q9, .inl (cI, 6, .inl (fun _ => 0))), (q10, .inl (cI, 80, .inl (fun _ => 0))), (q11, .inl (cI, 3, .inl (fun _ => 0))), (q12, .inl (cI, 24, .inl (fun _ => 0))), (q13, .inl (cI, 20, .inl (fun _ => 0))), (q14, .inl (cI, 3, .inl (fun _ => 0))), (q15, .inl (cI, 24, .inl (fun _ => 0))), (q16, .inl (cI, 20, .inl (fun _ => 0)))] := hD
  refine lv_aload_n hx hb dX11_init_134 rfl (lv_at hl 0 rfl) ?_
  refine lv_bipush (v := 97) hx hb dX11_init_135 (by decide) ?_
  refine va_newa (atype := .int) (ty := .int) (N' := 97) (a0 := (97, .inl (fun _ => 0))) hx hb (hts _ qw147) rfl hK hP hD hS hA (fun _ => rfl) (by decide) (by decide) (Nat.le_of_ble_eq_true rfl) (Nat.le_of_ble_eq_true rfl) (Nat.le_of_ble_eq_true rfl) dX11_init_137 (fun q17 cA H hK2 hP hD hS => ?_)
  obtain rfl : cI = cA := (zcA hK2 0 2 rfl rfl).symm
  have hP : va_P (dC, dI) vwCl [(h0, .inr (11, [.int 0, .ref q1, .int 0, .int 0, .int 0, .int 0, .ref q2, .ref q3, .ref q4, .ref q5, .ref q6, .ref q7, .ref q8, .int 0, .int 0, .ref q9, .ref q10, .ref q11, .ref q12, .ref q13, .int 0, .int 0, .ref q14, .ref q15, .ref q16, .int 0, .int 0, .null, .null, .int 0, .int 0, .null, .int 0, .long 0, .null, .int 0, .int 0, .null, .null, .null, .int 0])), (q1, .inl (cI, 240, .inl (fun _ => 0))), (q2, .inl (cI, 2600, .inl (fun _ => 0))), (q3, .inl (cI, 2600, .inl (fun _ => 0))), (q4, .inl (cI, 5, .inl (fun _ => 0))), (q5, .inl (cI, 5, .inl (fun _ => 0))), (q6, .inl (cI, 700, .inl (fun _ => 0))), (q7, .inl (cI, 700, .inl (fun _ => 0))), (q8, .inl (cI, 700, .inl (fun _ => 0))), (q9, .inl (cI, 6, .inl (fun _ => 0))), (q10, .inl (cI, 80, .inl (fun _ => 0))), (q11, .inl (cI, 3, .inl (fun _ => 0))), (q12, .inl (cI, 24, .inl (fun _ => 0))), (q13, .inl (cI, 20, .inl (fun _ => 0))), (q14, .inl (cI, 3, .inl (fun _ => 0))), (q15, .inl (cI, 24, .inl (fun _ => 0))), (q16, .inl (cI, 20, .inl (fun _ => 0))), (q17, .inl (cI, 97, .inl (fun _ => 0)))] H := hP
  have hD : va_D A [(h0, .inr (11, [.int 0, .ref q1, .int 0, .int 0, .int 0, .int 0, .ref q2, .ref q3, .ref q4, .ref q5, .ref q6, .ref q7, .ref q8, .int 0, .int 0, .ref q9, .ref q10, .ref q11, .ref q12, .ref q13, .int 0, .int 0, .ref q14, .ref q15, .ref q16, .int 0, .int 0, .null, .null, .int 0, .int 0, .null, .int 0, .long 0, .null, .int 0, .int 0, .null, .null, .null, .int 0])), (q1, .inl (cI, 240, .inl (fun _ => 0))), (q2, .inl (cI, 2600, .inl (fun _ => 0))), (q3, .inl (cI, 2600, .inl (fun _ => 0))), (q4, .inl (cI, 5, .inl (fun _ => 0))), (q5, .inl (cI, 5, .inl (fun _ => 0))), (q6, .inl (cI, 700, .inl (fun _ => 0))), (q7, .inl (cI, 700, .inl (fun _ => 0))), (q8, .inl (cI, 700, .inl (fun _ => 0))), (q9, .inl (cI, 6, .inl (fun _ => 0))), (q10, .inl (cI, 80, .inl (fun _ => 0))), (q11, .inl (cI, 3, .inl (fun _ => 0))), (q12, .inl (cI, 24, .inl (fun _ => 0))), (q13, .inl (cI, 20, .inl (fun _ => 0))), (q14, .inl (cI, 3, .inl (fun _ => 0))), (q15, .inl (cI, 24, .inl (fun _ => 0))), (q16, .inl (cI, 20, .inl (fun _ => 0))), (q17, .inl (cI, 97, .inl (fun _ => 0)))] := hD
  refine W.widen (k := 17) (n := 7827) (Nat.le_of_ble_eq_true rfl) (Nat.le_of_ble_eq_true rfl) ?_
  refine va_putF (D := (dC, dI)) (ci := 11) (v := .ref q17) (ty := .array .int) (C := RX11) (T := TX11) (N := 41) hx hb hts iX11 tyX11 tyX11_ok nmX11 hown hK hP hD hS 0 rfl rfl 27 (by decide) (hts _ qw1154) (fun _ h9 => h9) rfl hin rfl (by decide +kernel) rfl rfl (Nat.le_of_ble_eq_true rfl) dX11_init_139 (fun H locs hP hD hS => ?_)
  have hP : va_P (dC, dI) vwCl [(h0, .inr (11, [.int 0, .ref q1, .int 0, .int 0, .int 0, .int 0, .ref q2, .ref q3, .ref q4, .ref q5, .ref q6, .ref q7, .ref q8, .int 0, .int 0, .ref q9, .ref q10, .ref q11, .ref q12, .ref q13, .int 0, .int 0, .ref q14, .ref q15, .ref q16, .int 0, .int 0, .ref q17, .null, .int 0, .int 0, .null, .int 0, .long 0, .null, .int 0, .int 0, .null, .null, .null, .int 0])), (q1, .inl (cI, 240, .inl (fun _ => 0))), (q2, .inl (cI, 2600, .inl (fun _ => 0))), (q3, .inl (cI, 2600, .inl (fun _ => 0))), (q4, .inl (cI, 5, .inl (fun _ => 0))), (q5, .inl (cI, 5, .inl (fun _ => 0))), (q6, .inl (cI, 700, .inl (fun _ => 0))), (q7, .inl (cI, 700, .inl (fun _ => 0))), (q8, .inl (cI, 700, .inl (fun _ => 0))), (q9, .inl (cI, 6, .inl (fun _ => 0))), (q10, .inl (cI, 80, .inl (fun _ => 0))), (q11, .inl (cI, 3, .inl (fun _ => 0))), (q12, .inl (cI, 24, .inl (fun _ => 0))), (q13, .inl (cI, 20, .inl (fun _ => 0))), (q14, .inl (cI, 3, .inl (fun _ => 0))), (q15, .inl (cI, 24, .inl (fun _ => 0))), (q16, .inl (cI, 20, .inl (fun _ => 0))), (q17, .inl (cI, 97, .inl (fun _ => 0)))] H := hP
  have hD : va_D A [(h0, .inr (11, [.int 0, .ref q1, .int 0, .int 0, .int 0, .int 0, .ref q2, .ref q3, .ref q4, .ref q5, .ref q6, .ref q7, .ref q8, .int 0, .int 0, .ref q9, .ref q10, .ref q11, .ref q12, .ref q13, .int 0, .int 0, .ref q14, .ref q15, .ref q16, .int 0, .int 0, .ref q17, .null, .int 0, .int 0, .null, .int 0, .long 0, .null, .int 0, .int 0, .null, .null, .null, .int 0])), (q1, .inl (cI, 240, .inl (fun _ => 0))), (q2, .inl (cI, 2600, .inl (fun _ => 0))), (q3, .inl (cI, 2600, .inl (fun _ => 0))), (q4, .inl (cI, 5, .inl (fun _ => 0))), (q5, .inl (cI, 5, .inl (fun _ => 0))), (q6, .inl (cI, 700, .inl (fun _ => 0))), (q7, .inl (cI, 700, .inl (fun _ => 0))), (q8, .inl (cI, 700, .inl (fun _ => 0))), (q9, .inl (cI, 6, .inl (fun _ => 0))), (q10, .inl (cI, 80, .inl (fun _ => 0))), (q11, .inl (cI, 3, .inl (fun _ => 0))), (q12, .inl (cI, 24, .inl (fun _ => 0))), (q13, .inl (cI, 20, .inl (fun _ => 0))), (q14, .inl (cI, 3, .inl (fun _ => 0))), (q15, .inl (cI, 24, .inl (fun _ => 0))), (q16, .inl (cI, 20, .inl (fun _ => 0))), (q17, .inl (cI, 97, .inl (fun _ => 0)))] := hD
  refine lv_aload_n hx hb dX11_init_142 rfl (lv_at hl 0 rfl) ?_
  refine lv_iconst (v := 5) hx hb dX11_init_143 (by decide) ?_
  refine va_newa (atype := .int) (ty := .int) (N' := 5) (a0 := (5, .inl (fun _ => 0))) hx hb (hts _ qw147) rfl hK hP hD hS hA (fun _ => rfl) (by decide) (by decide) (Nat.le_of_ble_eq_true rfl) (Nat.le_of_ble_eq_true rfl) (Nat.le_of_ble_eq_true rfl) dX11_init_144 (fun q18 cA H hK2 hP hD hS => ?_)
  obtain rfl : cI = cA := (zcA hK2 0 2 rfl rfl).symm
  have hP : va_P (dC, dI) vwCl [(h0, .inr (11, [.int 0, .ref q1, .int 0, .int 0, .int 0, .int 0, .ref q2, .ref q3, .ref q4, .ref q5, .ref q6, .ref q7, .ref q8, .int 0, .int 0, .ref q9, .ref q10, .ref q11, .ref q12, .ref q13, .int 0, .int 0, .ref q14, .ref q15, .ref q16, .int 0, .int 0, .ref q17, .null, .int 0, .int 0, .null, .int 0, .long 0, .null, .int 0, .int 0, .null, .null, .null, .int 0])), (q1, .inl (cI, 240, .inl (fun _ => 0))), (q2, .inl (cI, 2600, .inl (fun _ => 0))), (q3, .inl (cI, 2600, .inl (fun _ => 0))), (q4, .inl (cI, 5, .inl (fun _ => 0))), (q5, .inl (cI, 5, .inl (fun _ => 0))), (q6, .inl (cI, 700, .inl (fun _ => 0))), (q7, .inl (cI, 700, .inl (fun _ => 0))), (q8, .inl (cI, 700, .inl (fun _ => 0))), (q9, .inl (cI, 6, .inl (fun _ => 0))), (q10, .inl (cI, 80, .inl (fun _ => 0))), (q11, .inl (cI, 3, .inl (fun _ => 0))), (q12, .inl (cI, 24, .inl (fun _ => 0))), (q13, .inl (cI, 20, .inl (fun _ => 0))), (q14, .inl (cI, 3, .inl (fun _ => 0))), (q15, .inl (cI, 24, .inl (fun _ => 0))), (q16, .inl (cI, 20, .inl (fun _ => 0))), (q17, .inl (cI, 97, .inl (fun _ => 0))), (q18, .inl (cI, 5, .inl (fun _ => 0)))] H := hP
  have hD : va_D A [(h0, .inr (11, [.int 0, .ref q1, .int 0, .int 0, .int 0, .int 0, .ref q2, .ref q3, .ref q4, .ref q5, .ref q6, .ref q7, .ref q8, .int 0, .int 0, .ref q9, .ref q10, .ref q11, .ref q12, .ref q13, .int 0, .int 0, .ref q14, .ref q15, .ref q16, .int 0, .int 0, .ref q17, .null, .int 0, .int 0, .null, .int 0, .long 0, .null, .int 0, .int 0, .null, .null, .null, .int 0])), (q1, .inl (cI, 240, .inl (fun _ => 0))), (q2, .inl (cI, 2600, .inl (fun _ => 0))), (q3, .inl (cI, 2600, .inl (fun _ => 0))), (q4, .inl (cI, 5, .inl (fun _ => 0))), (q5, .inl (cI, 5, .inl (fun _ => 0))), (q6, .inl (cI, 700, .inl (fun _ => 0))), (q7, .inl (cI, 700, .inl (fun _ => 0))), (q8, .inl (cI, 700, .inl (fun _ => 0))), (q9, .inl (cI, 6, .inl (fun _ => 0))), (q10, .inl (cI, 80, .inl (fun _ => 0))), (q11, .inl (cI, 3, .inl (fun _ => 0))), (q12, .inl (cI, 24, .inl (fun _ => 0))), (q13, .inl (cI, 20, .inl (fun _ => 0))), (q14, .inl (cI, 3, .inl (fun _ => 0))), (q15, .inl (cI, 24, .inl (fun _ => 0))), (q16, .inl (cI, 20, .inl (fun _ => 0))), (q17, .inl (cI, 97, .inl (fun _ => 0))), (q18, .inl (cI, 5, .inl (fun _ => 0)))] := hD
  refine W.widen (k := 18) (n := 7832) (Nat.le_of_ble_eq_true rfl) (Nat.le_of_ble_eq_true rfl) ?_
  refine va_putF (D := (dC, dI)) (ci := 11) (v := .ref q18) (ty := .array .int) (C := RX11) (T := TX11) (N := 41) hx hb hts iX11 tyX11 tyX11_ok nmX11 hown hK hP hD hS 0 rfl rfl 28 (by decide) (hts _ qw1155) (fun _ h9 => h9) rfl hin rfl (by decide +kernel) rfl rfl (Nat.le_of_ble_eq_true rfl) dX11_init_146 (fun H locs hP hD hS => ?_)
  have hP : va_P (dC, dI) vwCl [(h0, .inr (11, [.int 0, .ref q1, .int 0, .int 0, .int 0, .int 0, .ref q2, .ref q3, .ref q4, .ref q5, .ref q6, .ref q7, .ref q8, .int 0, .int 0, .ref q9, .ref q10, .ref q11, .ref q12, .ref q13, .int 0, .int 0, .ref q14, .ref q15, .ref q16, .int 0, .int 0, .ref q17, .ref q18, .int 0, .int 0, .null, .int 0, .long 0, .null, .int 0, .int 0, .null, .null, .null, .int 0])), (q1, .inl (cI, 240, .inl (fun _ => 0))), (q2, .inl (cI, 2600, .inl (fun _ => 0))), (q3, .inl (cI, 2600, .inl (fun _ => 0))), (q4, .inl (cI, 5, .inl (fun _ => 0))), (q5, .inl (cI, 5, .inl (fun _ => 0))), (q6, .inl (cI, 700, .inl (fun _ => 0))), (q7, .inl (cI, 700, .inl (fun _ => 0))), (q8, .inl (cI, 700, .inl (fun _ => 0))), (q9, .inl (cI, 6, .inl (fun _ => 0))), (q10, .inl (cI, 80, .inl (fun _ => 0))), (q11, .inl (cI, 3, .inl (fun _ => 0))), (q12, .inl (cI, 24, .inl (fun _ => 0))), (q13, .inl (cI, 20, .inl (fun _ => 0))), (q14, .inl (cI, 3, .inl (fun _ => 0))), (q15, .inl (cI, 24, .inl (fun _ => 0))), (q16, .inl (cI, 20, .inl (fun _ => 0))), (q17, .inl (cI, 97, .inl (fun _ => 0))), (q18, .inl (cI, 5, .inl (fun _ => 0)))] H := hP
  have hD : va_D A [(h0, .inr (11, [.int 0, .ref q1, .int 0, .int 0, .int 0, .int 0, .ref q2, .ref q3, .ref q4, .ref q5, .ref q6, .ref q7, .ref q8, .int 0, .int 0, .ref q9, .ref q10, .ref q11, .ref q12, .ref q13, .int 0, .int 0, .ref q14, .ref q15, .ref q16, .int 0, .int 0, .ref q17, .ref q18, .int 0, .int 0, .null, .int 0, .long 0, .null, .int 0, .int 0, .null, .null, .null, .int 0])), (q1, .inl (cI, 240, .inl (fun _ => 0))), (q2, .inl (cI, 2600, .inl (fun _ => 0))), (q3, .inl (cI, 2600, .inl (fun _ => 0))), (q4, .inl (cI, 5, .inl (fun _ => 0))), (q5, .inl (cI, 5, .inl (fun _ => 0))), (q6, .inl (cI, 700, .inl (fun _ => 0))), (q7, .inl (cI, 700, .inl (fun _ => 0))), (q8, .inl (cI, 700, .inl (fun _ => 0))), (q9, .inl (cI, 6, .inl (fun _ => 0))), (q10, .inl (cI, 80, .inl (fun _ => 0))), (q11, .inl (cI, 3, .inl (fun _ => 0))), (q12, .inl (cI, 24, .inl (fun _ => 0))), (q13, .inl (cI, 20, .inl (fun _ => 0))), (q14, .inl (cI, 3, .inl (fun _ => 0))), (q15, .inl (cI, 24, .inl (fun _ => 0))), (q16, .inl (cI, 20, .inl (fun _ => 0))), (q17, .inl (cI, 97, .inl (fun _ => 0))), (q18, .inl (cI, 5, .inl (fun _ => 0)))] := hD
  refine lv_aload_n hx hb dX11_init_149 rfl (lv_at hl 0 rfl) ?_
  refine lv_iconst (v := (-1)) hx hb dX11_init_150 (by decide) ?_
  refine va_put (D := (dC, dI)) (ci := 11) (v := .int (-1)) (ty := .int) (C := RX11) (T := TX11) (N := 41) hx hb hts iX11 tyX11 tyX11_ok nmX11 hown hK hP hD hS 0 rfl rfl 29 (by decide) (hts _ qw1156) (fun _ h9 => h9) rfl (by decide +kernel) rfl rfl (Nat.le_of_ble_eq_true rfl) dX11_init_151 (fun H locs hP hD hS => ?_)
  have hP : va_P (dC, dI) vwCl [(h0, .inr (11, [.int 0, .ref q1, .int 0, .int 0, .int 0, .int 0, .ref q2, .ref q3, .ref q4, .ref q5, .ref q6, .ref q7, .ref q8, .int 0, .int 0, .ref q9, .ref q10, .ref q11, .ref q12, .ref q13, .int 0, .int 0, .ref q14, .ref q15, .ref q16, .int 0, .int 0, .ref q17, .ref q18, .int (-1), .int 0, .null, .int 0, .long 0, .null, .int 0, .int 0, .null, .null, .null, .int 0])), (q1, .inl (cI, 240, .inl (fun _ => 0))), (q2, .inl (cI, 2600, .inl (fun _ => 0))), (q3, .inl (cI, 2600, .inl (fun _ => 0))), (q4, .inl (cI, 5, .inl (fun _ => 0))), (q5, .inl (cI, 5, .inl (fun _ => 0))), (q6, .inl (cI, 700, .inl (fun _ => 0))), (q7, .inl (cI, 700, .inl (fun _ => 0))), (q8, .inl (cI, 700, .inl (fun _ => 0))), (q9, .inl (cI, 6, .inl (fun _ => 0))), (q10, .inl (cI, 80, .inl (fun _ => 0))), (q11, .inl (cI, 3, .inl (fun _ => 0))), (q12, .inl (cI, 24, .inl (fun _ => 0))), (q13, .inl (cI, 20, .inl (fun _ => 0))), (q14, .inl (cI, 3, .inl (fun _ => 0))), (q15, .inl (cI, 24, .inl (fun _ => 0))), (q16, .inl (cI, 20, .inl (fun _ => 0))), (q17, .inl (cI, 97, .inl (fun _ => 0))), (q18, .inl (cI, 5, .inl (fun _ => 0)))] H := hP
  have hD : va_D A [(h0, .inr (11, [.int 0, .ref q1, .int 0, .int 0, .int 0, .int 0, .ref q2, .ref q3, .ref q4, .ref q5, .ref q6, .ref q7, .ref q8, .int 0, .int 0, .ref q9, .ref q10, .ref q11, .ref q12, .ref q13, .int 0, .int 0, .ref q14, .ref q15, .ref q16, .int 0, .int 0, .ref q17, .ref q18, .int (-1), .int 0, .null, .int 0, .long 0, .null, .int 0, .int 0, .null, .null, .null, .int 0])), (q1, .inl (cI, 240, .inl (fun _ => 0))), (q2, .inl (cI, 2600, .inl (fun _ => 0))), (q3, .inl (cI, 2600, .inl (fun _ => 0))), (q4, .inl (cI, 5, .inl (fun _ => 0))), (q5, .inl (cI, 5, .inl (fun _ => 0))), (q6, .inl (cI, 700, .inl (fun _ => 0))), (q7, .inl (cI, 700, .inl (fun _ => 0))), (q8, .inl (cI, 700, .inl (fun _ => 0))), (q9, .inl (cI, 6, .inl (fun _ => 0))), (q10, .inl (cI, 80, .inl (fun _ => 0))), (q11, .inl (cI, 3, .inl (fun _ => 0))), (q12, .inl (cI, 24, .inl (fun _ => 0))), (q13, .inl (cI, 20, .inl (fun _ => 0))), (q14, .inl (cI, 3, .inl (fun _ => 0))), (q15, .inl (cI, 24, .inl (fun _ => 0))), (q16, .inl (cI, 20, .inl (fun _ => 0))), (q17, .inl (cI, 97, .inl (fun _ => 0))), (q18, .inl (cI, 5, .inl (fun _ => 0)))] := hD
  refine lv_aload_n hx hb dX11_init_154 rfl (lv_at hl 0 rfl) ?_
  refine lv_sipush (v := 3880) hx hb dX11_init_155 (by decide) ?_
  refine va_newa (atype := .int) (ty := .int) (N' := 3880) (a0 := (3880, .inl (fun _ => 0))) hx hb (hts _ qw147) rfl hK hP hD hS hA (fun _ => rfl) (by decide) (by decide) (Nat.le_of_ble_eq_true rfl) (Nat.le_of_ble_eq_true rfl) (Nat.le_of_ble_eq_true rfl) dX11_init_158 (fun q19 cA H hK2 hP hD hS => ?_)
  obtain rfl : cI = cA := (zcA hK2 0 2 rfl rfl).symm
  have hP : va_P (dC, dI) vwCl [(h0, .inr (11, [.int 0, .ref q1, .int 0, .int 0, .int 0, .int 0, .ref q2, .ref q3, .ref q4, .ref q5, .ref q6, .ref q7, .ref q8, .int 0, .int 0, .ref q9, .ref q10, .ref q11, .ref q12, .ref q13, .int 0, .int 0, .ref q14, .ref q15, .ref q16, .int 0, .int 0, .ref q17, .ref q18, .int (-1), .int 0, .null, .int 0, .long 0, .null, .int 0, .int 0, .null, .null, .null, .int 0])), (q1, .inl (cI, 240, .inl (fun _ => 0))), (q2, .inl (cI, 2600, .inl (fun _ => 0))), (q3, .inl (cI, 2600, .inl (fun _ => 0))), (q4, .inl (cI, 5, .inl (fun _ => 0))), (q5, .inl (cI, 5, .inl (fun _ => 0))), (q6, .inl (cI, 700, .inl (fun _ => 0))), (q7, .inl (cI, 700, .inl (fun _ => 0))), (q8, .inl (cI, 700, .inl (fun _ => 0))), (q9, .inl (cI, 6, .inl (fun _ => 0))), (q10, .inl (cI, 80, .inl (fun _ => 0))), (q11, .inl (cI, 3, .inl (fun _ => 0))), (q12, .inl (cI, 24, .inl (fun _ => 0))), (q13, .inl (cI, 20, .inl (fun _ => 0))), (q14, .inl (cI, 3, .inl (fun _ => 0))), (q15, .inl (cI, 24, .inl (fun _ => 0))), (q16, .inl (cI, 20, .inl (fun _ => 0))), (q17, .inl (cI, 97, .inl (fun _ => 0))), (q18, .inl (cI, 5, .inl (fun _ => 0))), (q19, .inl (cI, 3880, .inl (fun _ => 0)))] H := hP
  have hD : va_D A [(h0, .inr (11, [.int 0, .ref q1, .int 0, .int 0, .int 0, .int 0, .ref q2, .ref q3, .ref q4, .ref q5, .ref q6, .ref q7, .ref q8, .int 0, .int 0, .ref q9, .ref q10, .ref q11, .ref q12, .ref q13, .int 0, .int 0, .ref q14, .ref q15, .ref q16, .int 0, .int 0, .ref q17, .ref q18, .int (-1), .int 0, .null, .int 0, .long 0, .null, .int 0, .int 0, .null, .null, .null, .int 0])), (q1, .inl (cI, 240, .inl (fun _ => 0))), (q2, .inl (cI, 2600, .inl (fun _ => 0))), (q3, .inl (cI, 2600, .inl (fun _ => 0))), (q4, .inl (cI, 5, .inl (fun _ => 0))), (q5, .inl (cI, 5, .inl (fun _ => 0))), (q6, .inl (cI, 700, .inl (fun _ => 0))), (q7, .inl (cI, 700, .inl (fun _ => 0))), (q8, .inl (cI, 700, .inl (fun _ => 0))), (q9, .inl (cI, 6, .inl (fun _ => 0))), (q10, .inl (cI, 80, .inl (fun _ => 0))), (q11, .inl (cI, 3, .inl (fun _ => 0))), (q12, .inl (cI, 24, .inl (fun _ => 0))), (q13, .inl (cI, 20, .inl (fun _ => 0))), (q14, .inl (cI, 3, .inl (fun _ => 0))), (q15, .inl (cI, 24, .inl (fun _ => 0))), (q16, .inl (cI, 20, .inl (fun _ => 0))), (q17, .inl (cI, 97, .inl (fun _ => 0))), (q18, .inl (cI, 5, .inl (fun _ => 0))), (q19, .inl (cI, 3880, .inl (fun _ => 0)))] := hD
  refine W.widen (k := 19) (n := 11712) (Nat.le_of_ble_eq_true rfl) (Nat.le_of_ble_eq_true rfl) ?_
  refine va_putF (D := (dC, dI)) (ci := 11) (v := .ref q19) (ty := .array .int) (C := RX11) (T := TX11) (N := 41) hx hb hts iX11 tyX11 tyX11_ok nmX11 hown hK hP hD hS 0 rfl rfl 31 (by decide) (hts _ qw1158) (fun _ h9 => h9) rfl hin rfl (by decide +kernel) rfl rfl (Nat.le_of_ble_eq_true rfl) dX11_init_160 (fun H locs hP hD hS => ?_)
  have hP : va_P (dC, dI) vwCl [(h0, .inr (11, [.int 0, .ref q1, .int 0, .int 0, .int 0, .int 0, .ref q2, .ref q3, .ref q4, .ref q5, .ref q6, .ref q7, .ref q8, .int 0, .int 0, .ref q9, .ref q10, .ref q11, .ref q12, .ref q13, .int 0, .int 0, .ref q14, .ref q15, .ref q16, .int 0, .int 0, .ref q17, .ref q18, .int (-1), .int 0, .ref q19, .int 0, .long 0, .null, .int 0, .int 0, .null, .null, .null, .int 0])), (q1, .inl (cI, 240, .inl (fun _ => 0))), (q2, .inl (cI, 2600, .inl (fun _ => 0))), (q3, .inl (cI, 2600, .inl (fun _ => 0))), (q4, .inl (cI, 5, .inl (fun _ => 0))), (q5, .inl (cI, 5, .inl (fun _ => 0))), (q6, .inl (cI, 700, .inl (fun _ => 0))), (q7, .inl (cI, 700, .inl (fun _ => 0))), (q8, .inl (cI, 700, .inl (fun _ => 0))), (q9, .inl (cI, 6, .inl (fun _ => 0))), (q10, .inl (cI, 80, .inl (fun _ => 0))), (q11, .inl (cI, 3, .inl (fun _ => 0))), (q12, .inl (cI, 24, .inl (fun _ => 0))), (q13, .inl (cI, 20, .inl (fun _ => 0))), (q14, .inl (cI, 3, .inl (fun _ => 0))), (q15, .inl (cI, 24, .inl (fun _ => 0))), (q16, .inl (cI, 20, .inl (fun _ => 0))), (q17, .inl (cI, 97, .inl (fun _ => 0))), (q18, .inl (cI, 5, .inl (fun _ => 0))), (q19, .inl (cI, 3880, .inl (fun _ => 0)))] H := hP
  have hD : va_D A [(h0, .inr (11, [.int 0, .ref q1, .int 0, .int 0, .int 0, .int 0, .ref q2, .ref q3, .ref q4, .ref q5, .ref q6, .ref q7, .ref q8, .int 0, .int 0, .ref q9, .ref q10, .ref q11, .ref q12, .ref q13, .int 0, .int 0, .ref q14, .ref q15, .ref q16, .int 0, .int 0, .ref q17, .ref q18, .int (-1), .int 0, .ref q19, .int 0, .long 0, .null, .int 0, .int 0, .null, .null, .null, .int 0])), (q1, .inl (cI, 240, .inl (fun _ => 0))), (q2, .inl (cI, 2600, .inl (fun _ => 0))), (q3, .inl (cI, 2600, .inl (fun _ => 0))), (q4, .inl (cI, 5, .inl (fun _ => 0))), (q5, .inl (cI, 5, .inl (fun _ => 0))), (q6, .inl (cI, 700, .inl (fun _ => 0))), (q7, .inl (cI, 700, .inl (fun _ => 0))), (q8, .inl (cI, 700, .inl (fun _ => 0))), (q9, .inl (cI, 6, .inl (fun _ => 0))), (q10, .inl (cI, 80, .inl (fun _ => 0))), (q11, .inl (cI, 3, .inl (fun _ => 0))), (q12, .inl (cI, 24, .inl (fun _ => 0))), (q13, .inl (cI, 20, .inl (fun _ => 0))), (q14, .inl (cI, 3, .inl (fun _ => 0))), (q15, .inl (cI, 24, .inl (fun _ => 0))), (q16, .inl (cI, 20, .inl (fun _ => 0))), (q17, .inl (cI, 97, .inl (fun _ => 0))), (q18, .inl (cI, 5, .inl (fun _ => 0))), (q19, .inl (cI, 3880, .inl (fun _ => 0)))] := hD
  refine lv_aload_n hx hb dX11_init_163 rfl (lv_at hl 0 rfl) ?_
  refine lv_bipush (v := 10) hx hb dX11_init_164 (by decide) ?_
  refine va_newa (atype := .int) (ty := .int) (N' := 10) (a0 := (10, .inl (fun _ => 0))) hx hb (hts _ qw147) rfl hK hP hD hS hA (fun _ => rfl) (by decide) (by decide) (Nat.le_of_ble_eq_true rfl) (Nat.le_of_ble_eq_true rfl) (Nat.le_of_ble_eq_true rfl) dX11_init_166 (fun q20 cA H hK2 hP hD hS => ?_)
  obtain rfl : cI = cA := (zcA hK2 0 2 rfl rfl).symm
  have hP : va_P (dC, dI) vwCl [(h0, .inr (11, [.int 0, .ref q1, .int 0, .int 0, .int 0, .int 0, .ref q2, .ref q3, .ref q4, .ref q5, .ref q6, .ref q7, .ref q8, .int 0, .int 0, .ref q9, .ref q10, .ref q11, .ref q12, .ref q13, .int 0, .int 0, .ref q14, .ref q15, .ref q16, .int 0, .int 0, .ref q17, .ref q18, .int (-1), .int 0, .ref q19, .int 0, .long 0, .null, .int 0, .int 0, .null, .null, .null, .int 0])), (q1, .inl (cI, 240, .inl (fun _ => 0))), (q2, .inl (cI, 2600, .inl (fun _ => 0))), (q3, .inl (cI, 2600, .inl (fun _ => 0))), (q4, .inl (cI, 5, .inl (fun _ => 0))), (q5, .inl (cI, 5, .inl (fun _ => 0))), (q6, .inl (cI, 700, .inl (fun _ => 0))), (q7, .inl (cI, 700, .inl (fun _ => 0))), (q8, .inl (cI, 700, .inl (fun _ => 0))), (q9, .inl (cI, 6, .inl (fun _ => 0))), (q10, .inl (cI, 80, .inl (fun _ => 0))), (q11, .inl (cI, 3, .inl (fun _ => 0))), (q12, .inl (cI, 24, .inl (fun _ => 0))), (q13, .inl (cI, 20, .inl (fun _ => 0))), (q14, .inl (cI, 3, .inl (fun _ => 0))), (q15, .inl (cI, 24, .inl (fun _ => 0))), (q16, .inl (cI, 20, .inl (fun _ => 0))), (q17, .inl (cI, 97, .inl (fun _ => 0))), (q18, .inl (cI, 5, .inl (fun _ => 0))), (q19, .inl (cI, 3880, .inl (fun _ => 0))), (q20, .inl (cI, 10, .inl (fun _ => 0)))] H := hP
  have hD : va_D A [(h0, .inr (11, [.int 0, .ref q1, .int 0, .int 0, .int 0, .int 0, .ref q2, .ref q3, .ref q4, .ref q5, .ref q6, .ref q7, .ref q8, .int 0, .int 0, .ref q9, .ref q10, .ref q11, .ref q12, .ref q13, .int 0, .int 0, .ref q14, .ref q15, .ref q16, .int 0, .int 0, .ref q17, .ref q18, .int (-1), .int 0, .ref q19, .int 0, .long 0, .null, .int 0, .int 0, .null, .null, .null, .int 0])), (q1, .inl (cI, 240, .inl (fun _ => 0))), (q2, .inl (cI, 2600, .inl (fun _ => 0))), (q3, .inl (cI, 2600, .inl (fun _ => 0))), (q4, .inl (cI, 5, .inl (fun _ => 0))), (q5, .inl (cI, 5, .inl (fun _ => 0))), (q6, .inl (cI, 700, .inl (fun _ => 0))), (q7, .inl (cI, 700, .inl (fun _ => 0))), (q8, .inl (cI, 700, .inl (fun _ => 0))), (q9, .inl (cI, 6, .inl (fun _ => 0))), (q10, .inl (cI, 80, .inl (fun _ => 0))), (q11, .inl (cI, 3, .inl (fun _ => 0))), (q12, .inl (cI, 24, .inl (fun _ => 0))), (q13, .inl (cI, 20, .inl (fun _ => 0))), (q14, .inl (cI, 3, .inl (fun _ => 0))), (q15, .inl (cI, 24, .inl (fun _ => 0))), (q16, .inl (cI, 20, .inl (fun _ => 0))), (q17, .inl (cI, 97, .inl (fun _ => 0))), (q18, .inl (cI, 5, .inl (fun _ => 0))), (q19, .inl (cI, 3880, .inl (fun _ => 0))), (q20, .inl (cI, 10, .inl (fun _ => 0)))] := hD
  refine W.widen (k := 20) (n := 11722) (Nat.le_of_ble_eq_true rfl) (Nat.le_of_ble_eq_true rfl) ?_
  refine va_putF (D := (dC, dI)) (ci := 11) (v := .ref q20) (ty := .array .int) (C := RX11) (T := TX11) (N := 41) hx hb hts iX11 tyX11 tyX11_ok nmX11 hown hK hP hD hS 0 rfl rfl 34 (by decide) (hts _ qw1161) (fun _ h9 => h9) rfl hin rfl (by decide +kernel) rfl rfl (Nat.le_of_ble_eq_true rfl) dX11_init_168 (fun H locs hP hD hS => ?_)
  have hP : va_P (dC, dI) vwCl [(h0, .inr (11, [.int 0, .ref q1, .int 0, .int 0, .int 0, .int 0, .ref q2, .ref q3, .ref q4, .ref q5, .ref q6, .ref q7, .ref q8, .int 0, .int 0, .ref q9, .ref q10, .ref q11, .ref q12, .ref q13, .int 0, .int 0, .ref q14, .ref q15, .ref q16, .int 0, .int 0, .ref q17, .ref q18, .int (-1), .int 0, .ref q19, .int 0, .long 0, .ref q20, .int 0, .int 0, .null, .null, .null, .int 0])), (q1, .inl (cI, 240, .inl (fun _ => 0))), (q2, .inl (cI, 2600, .inl (fun _ => 0))), (q3, .inl (cI, 2600, .inl (fun _ => 0))), (q4, .inl (cI, 5, .inl (fun _ => 0))), (q5, .inl (cI, 5, .inl (fun _ => 0))), (q6, .inl (cI, 700, .inl (fun _ => 0))), (q7, .inl (cI, 700, .inl (fun _ => 0))), (q8, .inl (cI, 700, .inl (fun _ => 0))), (q9, .inl (cI, 6, .inl (fun _ => 0))), (q10, .inl (cI, 80, .inl (fun _ => 0))), (q11, .inl (cI, 3, .inl (fun _ => 0))), (q12, .inl (cI, 24, .inl (fun _ => 0))), (q13, .inl (cI, 20, .inl (fun _ => 0))), (q14, .inl (cI, 3, .inl (fun _ => 0))), (q15, .inl (cI, 24, .inl (fun _ => 0))), (q16, .inl (cI, 20, .inl (fun _ => 0))), (q17, .inl (cI, 97, .inl (fun _ => 0))), (q18, .inl (cI, 5, .inl (fun _ => 0))), (q19, .inl (cI, 3880, .inl (fun _ => 0))), (q20, .inl (cI, 10, .inl (fun _ => 0)))] H := hP
  have hD : va_D A [(h0, .inr (11, [.int 0, .ref q1, .int 0, .int 0, .int 0, .int 0, .ref q2, .ref q3, .ref q4, .ref q5, .ref q6, .ref q7, .ref q8, .int 0, .int 0, .ref q9, .ref q10, .ref q11, .ref q12, .ref q13, .int 0, .int 0, .ref q14, .ref q15, .ref q16, .int 0, .int 0, .ref q17, .ref q18, .int (-1), .int 0, .ref q19, .int 0, .long 0, .ref q20, .int 0, .int 0, .null, .null, .null, .int 0])), (q1, .inl (cI, 240, .inl (fun _ => 0))), (q2, .inl (cI, 2600, .inl (fun _ => 0))), (q3, .inl (cI, 2600, .inl (fun _ => 0))), (q4, .inl (cI, 5, .inl (fun _ => 0))), (q5, .inl (cI, 5, .inl (fun _ => 0))), (q6, .inl (cI, 700, .inl (fun _ => 0))), (q7, .inl (cI, 700, .inl (fun _ => 0))), (q8, .inl (cI, 700, .inl (fun _ => 0))), (q9, .inl (cI, 6, .inl (fun _ => 0))), (q10, .inl (cI, 80, .inl (fun _ => 0))), (q11, .inl (cI, 3, .inl (fun _ => 0))), (q12, .inl (cI, 24, .inl (fun _ => 0))), (q13, .inl (cI, 20, .inl (fun _ => 0))), (q14, .inl (cI, 3, .inl (fun _ => 0))), (q15, .inl (cI, 24, .inl (fun _ => 0))), (q16, .inl (cI, 20, .inl (fun _ => 0))), (q17, .inl (cI, 97, .inl (fun _ => 0))), (q18, .inl (cI, 5, .inl (fun _ => 0))), (q19, .inl (cI, 3880, .inl (fun _ => 0))), (q20, .inl (cI, 10, .inl (fun _ => 0)))] := hD
  refine lv_aload_n hx hb dX11_init_171 rfl (lv_at hl 0 rfl) ?_
  refine lv_bipush (v := 6) hx hb dX11_init_172 (by decide) ?_
  refine va_newa (atype := .int) (ty := .int) (N' := 6) (a0 := (6, .inl (fun _ => 0))) hx hb (hts _ qw147) rfl hK hP hD hS hA (fun _ => rfl) (by decide) (by decide) (Nat.le_of_ble_eq_true rfl) (Nat.le_of_ble_eq_true rfl) (Nat.le_of_ble_eq_true rfl) dX11_init_174 (fun q21 cA H hK2 hP hD hS => ?_)
  obtain rfl : cI = cA := (zcA hK2 0 2 rfl rfl).symm
  have hP : va_P (dC, dI) vwCl [(h0, .inr (11, [.int 0, .ref q1, .int 0, .int 0, .int 0, .int 0, .ref q2, .ref q3, .ref q4, .ref q5, .ref q6, .ref q7, .ref q8, .int 0, .int 0, .ref q9, .ref q10, .ref q11, .ref q12, .ref q13, .int 0, .int 0, .ref q14, .ref q15, .ref q16, .int 0, .int 0, .ref q17, .ref q18, .int (-1), .int 0, .ref q19, .int 0, .long 0, .ref q20, .int 0, .int 0, .null, .null, .null, .int 0])), (q1, .inl (cI, 240, .inl (fun _ => 0))), (q2, .inl (cI, 2600, .inl (fun _ => 0))), (q3, .inl (cI, 2600, .inl (fun _ => 0))), (q4, .inl (cI, 5, .inl (fun _ => 0))), (q5, .inl (cI, 5, .inl (fun _ => 0))), (q6, .inl (cI, 700, .inl (fun _ => 0))), (q7, .inl (cI, 700, .inl (fun _ => 0))), (q8, .inl (cI, 700, .inl (fun _ => 0))), (q9, .inl (cI, 6, .inl (fun _ => 0))), (q10, .inl (cI, 80, .inl (fun _ => 0))), (q11, .inl (cI, 3, .inl (fun _ => 0))), (q12, .inl (cI, 24, .inl (fun _ => 0))), (q13, .inl (cI, 20, .inl (fun _ => 0))), (q14, .inl (cI, 3, .inl (fun _ => 0))), (q15, .inl (cI, 24, .inl (fun _ => 0))), (q16, .inl (cI, 20, .inl (fun _ => 0))), (q17, .inl (cI, 97, .inl (fun _ => 0))), (q18, .inl (cI, 5, .inl (fun _ => 0))), (q19, .inl (cI, 3880, .inl (fun _ => 0))), (q20, .inl (cI, 10, .inl (fun _ => 0))), (q21, .inl (cI, 6, .inl (fun _ => 0)))] H := hP
  have hD : va_D A [(h0, .inr (11, [.int 0, .ref q1, .int 0, .int 0, .int 0, .int 0, .ref q2, .ref q3, .ref q4, .ref q5, .ref q6, .ref q7, .ref q8, .int 0, .int 0, .ref q9, .ref q10, .ref q11, .ref q12, .ref q13, .int 0, .int 0, .ref q14, .ref q15, .ref q16, .int 0, .int 0, .ref q17, .ref q18, .int (-1), .int 0, .ref q19, .int 0, .long 0, .ref q20, .int 0, .int 0, .null, .null, .null, .int 0])), (q1, .inl (cI, 240, .inl (fun _ => 0))), (q2, .inl (cI, 2600, .inl (fun _ => 0))), (q3, .inl (cI, 2600, .inl (fun _ => 0))), (q4, .inl (cI, 5, .inl (fun _ => 0))), (q5, .inl (cI, 5, .inl (fun _ => 0))), (q6, .inl (cI, 700, .inl (fun _ => 0))), (q7, .inl (cI, 700, .inl (fun _ => 0))), (q8, .inl (cI, 700, .inl (fun _ => 0))), (q9, .inl (cI, 6, .inl (fun _ => 0))), (q10, .inl (cI, 80, .inl (fun _ => 0))), (q11, .inl (cI, 3, .inl (fun _ => 0))), (q12, .inl (cI, 24, .inl (fun _ => 0))), (q13, .inl (cI, 20, .inl (fun _ => 0))), (q14, .inl (cI, 3, .inl (fun _ => 0))), (q15, .inl (cI, 24, .inl (fun _ => 0))), (q16, .inl (cI, 20, .inl (fun _ => 0))), (q17, .inl (cI, 97, .inl (fun _ => 0))), (q18, .inl (cI, 5, .inl (fun _ => 0))), (q19, .inl (cI, 3880, .inl (fun _ => 0))), (q20, .inl (cI, 10, .inl (fun _ => 0))), (q21, .inl (cI, 6, .inl (fun _ => 0)))] := hD
  refine W.widen (k := 21) (n := 11728) (Nat.le_of_ble_eq_true rfl) (Nat.le_of_ble_eq_true rfl) ?_
  refine va_putF (D := (dC, dI)) (ci := 11) (v := .ref q21) (ty := .array .int) (C := RX11) (T := TX11) (N := 41) hx hb hts iX11 tyX11 tyX11_ok nmX11 hown hK hP hD hS 0 rfl rfl 37 (by decide) (hts _ qw1164) (fun _ h9 => h9) rfl hin rfl (by decide +kernel) rfl rfl (Nat.le_of_ble_eq_true rfl) dX11_init_176 (fun H locs hP hD hS => ?_)
  have hP : va_P (dC, dI) vwCl [(h0, .inr (11, [.int 0, .ref q1, .int 0, .int 0, .int 0, .int 0, .ref q2, .ref q3, .ref q4, .ref q5, .ref q6, .ref q7, .ref q8, .int 0, .int 0, .ref q9, .ref q10, .ref q11, .ref q12, .ref q13, .int 0, .int 0, .ref q14, .ref q15, .ref q16, .int 0, .int 0, .ref q17, .ref q18, .int (-1), .int 0, .ref q19, .int 0, .long 0, .ref q20, .int 0, .int 0, .ref q21, .null, .null, .int 0])), (q1, .inl (cI, 240, .inl (fun _ => 0))), (q2, .inl (cI, 2600, .inl (fun _ => 0))), (q3, .inl (cI, 2600, .inl (fun _ => 0))), (q4, .inl (cI, 5, .inl (fun _ => 0))), (q5, .inl (cI, 5, .inl (fun _ => 0))), (q6, .inl (cI, 700, .inl (fun _ => 0))), (q7, .inl (cI, 700, .inl (fun _ => 0))), (q8, .inl (cI, 700, .inl (fun _ => 0))), (q9, .inl (cI, 6, .inl (fun _ => 0))), (q10, .inl (cI, 80, .inl (fun _ => 0))), (q11, .inl (cI, 3, .inl (fun _ => 0))), (q12, .inl (cI, 24, .inl (fun _ => 0))), (q13, .inl (cI, 20, .inl (fun _ => 0))), (q14, .inl (cI, 3, .inl (fun _ => 0))), (q15, .inl (cI, 24, .inl (fun _ => 0))), (q16, .inl (cI, 20, .inl (fun _ => 0))), (q17, .inl (cI, 97, .inl (fun _ => 0))), (q18, .inl (cI, 5, .inl (fun _ => 0))), (q19, .inl (cI, 3880, .inl (fun _ => 0))), (q20, .inl (cI, 10, .inl (fun _ => 0))), (q21, .inl (cI, 6, .inl (fun _ => 0)))] H := hP
  have hD : va_D A [(h0, .inr (11, [.int 0, .ref q1, .int 0, .int 0, .int 0, .int 0, .ref q2, .ref q3, .ref q4, .ref q5, .ref q6, .ref q7, .ref q8, .int 0, .int 0, .ref q9, .ref q10, .ref q11, .ref q12, .ref q13, .int 0, .int 0, .ref q14, .ref q15, .ref q16, .int 0, .int 0, .ref q17, .ref q18, .int (-1), .int 0, .ref q19, .int 0, .long 0, .ref q20, .int 0, .int 0, .ref q21, .null, .null, .int 0])), (q1, .inl (cI, 240, .inl (fun _ => 0))), (q2, .inl (cI, 2600, .inl (fun _ => 0))), (q3, .inl (cI, 2600, .inl (fun _ => 0))), (q4, .inl (cI, 5, .inl (fun _ => 0))), (q5, .inl (cI, 5, .inl (fun _ => 0))), (q6, .inl (cI, 700, .inl (fun _ => 0))), (q7, .inl (cI, 700, .inl (fun _ => 0))), (q8, .inl (cI, 700, .inl (fun _ => 0))), (q9, .inl (cI, 6, .inl (fun _ => 0))), (q10, .inl (cI, 80, .inl (fun _ => 0))), (q11, .inl (cI, 3, .inl (fun _ => 0))), (q12, .inl (cI, 24, .inl (fun _ => 0))), (q13, .inl (cI, 20, .inl (fun _ => 0))), (q14, .inl (cI, 3, .inl (fun _ => 0))), (q15, .inl (cI, 24, .inl (fun _ => 0))), (q16, .inl (cI, 20, .inl (fun _ => 0))), (q17, .inl (cI, 97, .inl (fun _ => 0))), (q18, .inl (cI, 5, .inl (fun _ => 0))), (q19, .inl (cI, 3880, .inl (fun _ => 0))), (q20, .inl (cI, 10, .inl (fun _ => 0))), (q21, .inl (cI, 6, .inl (fun _ => 0)))] := hD
  refine lv_aload_n hx hb dX11_init_179 rfl (lv_at hl 0 rfl) ?_
  refine lv_iconst (v := 5) hx hb dX11_init_180 (by decide) ?_
  refine va_newa (atype := .int) (ty := .int) (N' := 5) (a0 := (5, .inl (fun _ => 0))) hx hb (hts _ qw147) rfl hK hP hD hS hA (fun _ => rfl) (by decide) (by decide) (Nat.le_of_ble_eq_true rfl) (Nat.le_of_ble_eq_true rfl) (Nat.le_of_ble_eq_true rfl) dX11_init_181 (fun q22 cA H hK2 hP hD hS => ?_)
  obtain rfl : cI = cA := (zcA hK2 0 2 rfl rfl).symm
  have hP : va_P (dC, dI) vwCl [(h0, .inr (11, [.int 0, .ref q1, .int 0, .int 0, .int 0, .int 0, .ref q2, .ref q3, .ref q4, .ref q5, .ref q6, .ref q7, .ref q8, .int 0, .int 0, .ref q9, .ref q10, .ref q11, .ref q12, .ref q13, .int 0, .int 0, .ref q14, .ref q15, .ref q16, .int 0, .int 0, .ref q17, .ref q18, .int (-1), .int 0, .ref q19, .int 0, .long 0, .ref q20, .int 0, .int 0, .ref q21, .null, .null, .int 0])), (q1, .inl (cI, 240, .inl (fun _ => 0))), (q2, .inl (cI, 2600, .inl (fun _ => 0))), (q3, .inl (cI, 2600, .inl (fun _ => 0))), (q4, .inl (cI, 5, .inl (fun _ => 0))), (q5, .inl (cI, 5, .inl (fun _ => 0))), (q6, .inl (cI, 700, .inl (fun _ => 0))), (q7, .inl (cI, 700, .inl (fun _ => 0))), (q8, .inl (cI, 700, .inl (fun _ => 0))), (q9, .inl (cI, 6, .inl (fun _ => 0))), (q10, .inl (cI, 80, .inl (fun _ => 0))), (q11, .inl (cI, 3, .inl (fun _ => 0))), (q12, .inl (cI, 24, .inl (fun _ => 0))), (q13, .inl (cI, 20, .inl (fun _ => 0))), (q14, .inl (cI, 3, .inl (fun _ => 0))), (q15, .inl (cI, 24, .inl (fun _ => 0))), (q16, .inl (cI, 20, .inl (fun _ => 0))), (q17, .inl (cI, 97, .inl (fun _ => 0))), (q18, .inl (cI, 5, .inl (fun _ => 0))), (q19, .inl (cI, 3880, .inl (fun _ => 0))), (q20, .inl (cI, 10, .inl (fun _ => 0))), (q21, .inl (cI, 6, .inl (fun _ => 0))), (q22, .inl (cI, 5, .inl (fun _ => 0)))] H := hP
  have hD : va_D A [(h0, .inr (11, [.int 0, .ref q1, .int 0, .int 0, .int 0, .int 0, .ref q2, .ref q3, .ref q4, .ref q5, .ref q6, .ref q7, .ref q8, .int 0, .int 0, .ref q9, .ref q10, .ref q11, .ref q12, .ref q13, .int 0, .int 0, .ref q14, .ref q15, .ref q16, .int 0, .int 0, .ref q17, .ref q18, .int (-1), .int 0, .ref q19, .int 0, .long 0, .ref q20, .int 0, .int 0, .ref q21, .null, .null, .int 0])), (q1, .inl (cI, 240, .inl (fun _ => 0))), (q2, .inl (cI, 2600, .inl (fun _ => 0))), (q3, .inl (cI, 2600, .inl (fun _ => 0))), (q4, .inl (cI, 5, .inl (fun _ => 0))), (q5, .inl (cI, 5, .inl (fun _ => 0))), (q6, .inl (cI, 700, .inl (fun _ => 0))), (q7, .inl (cI, 700, .inl (fun _ => 0))), (q8, .inl (cI, 700, .inl (fun _ => 0))), (q9, .inl (cI, 6, .inl (fun _ => 0))), (q10, .inl (cI, 80, .inl (fun _ => 0))), (q11, .inl (cI, 3, .inl (fun _ => 0))), (q12, .inl (cI, 24, .inl (fun _ => 0))), (q13, .inl (cI, 20, .inl (fun _ => 0))), (q14, .inl (cI, 3, .inl (fun _ => 0))), (q15, .inl (cI, 24, .inl (fun _ => 0))), (q16, .inl (cI, 20, .inl (fun _ => 0))), (q17, .inl (cI, 97, .inl (fun _ => 0))), (q18, .inl (cI, 5, .inl (fun _ => 0))), (q19, .inl (cI, 3880, .inl (fun _ => 0))), (q20, .inl (cI, 10, .inl (fun _ => 0))), (q21, .inl (cI, 6, .inl (fun _ => 0))), (q22, .inl (cI, 5, .inl (fun _ => 0)))] := hD
  refine W.widen (k := 22) (n := 11733) (Nat.le_of_ble_eq_true rfl) (Nat.le_of_ble_eq_true rfl) ?_
  refine va_putF (D := (dC, dI)) (ci := 11) (v := .ref q22) (ty := .array .int) (C := RX11) (T := TX11) (N := 41) hx hb hts iX11 tyX11 tyX11_ok nmX11 hown hK hP hD hS 0 rfl rfl 38 (by decide) (hts _ qw1165) (fun _ h9 => h9) rfl hin rfl (by decide +kernel) rfl rfl (Nat.le_of_ble_eq_true rfl) dX11_init_183 (fun H locs hP hD hS => ?_)
  have hP : va_P (dC, dI) vwCl [(h0, .inr (11, [.int 0, .ref q1, .int 0, .int 0, .int 0, .int 0, .ref q2, .ref q3, .ref q4, .ref q5, .ref q6, .ref q7, .ref q8, .int 0, .int 0, .ref q9, .ref q10, .ref q11, .ref q12, .ref q13, .int 0, .int 0, .ref q14, .ref q15, .ref q16, .int 0, .int 0, .ref q17, .ref q18, .int (-1), .int 0, .ref q19, .int 0, .long 0, .ref q20, .int 0, .int 0, .ref q21, .ref q22, .null, .int 0])), (q1, .inl (cI, 240, .inl (fun _ => 0))), (q2, .inl (cI, 2600, .inl (fun _ => 0))), (q3, .inl (cI, 2600, .inl (fun _ => 0))), (q4, .inl (cI, 5, .inl (fun _ => 0))), (q5, .inl (cI, 5, .inl (fun _ => 0))), (q6, .inl (cI, 700, .inl (fun _ => 0))), (q7, .inl (cI, 700, .inl (fun _ => 0))), (q8, .inl (cI, 700, .inl (fun _ => 0))), (q9, .inl (cI, 6, .inl (fun _ => 0))), (q10, .inl (cI, 80, .inl (fun _ => 0))), (q11, .inl (cI, 3, .inl (fun _ => 0))), (q12, .inl (cI, 24, .inl (fun _ => 0))), (q13, .inl (cI, 20, .inl (fun _ => 0))), (q14, .inl (cI, 3, .inl (fun _ => 0))), (q15, .inl (cI, 24, .inl (fun _ => 0))), (q16, .inl (cI, 20, .inl (fun _ => 0))), (q17, .inl (cI, 97, .inl (fun _ => 0))), (q18, .inl (cI, 5, .inl (fun _ => 0))), (q19, .inl (cI, 3880, .inl (fun _ => 0))), (q20, .inl (cI, 10, .inl (fun _ => 0))), (q21, .inl (cI, 6, .inl (fun _ => 0))), (q22, .inl (cI, 5, .inl (fun _ => 0)))] H := hP
  have hD : va_D A [(h0, .inr (11, [.int 0, .ref q1, .int 0, .int 0, .int 0, .int 0, .ref q2, .ref q3, .ref q4, .ref q5, .ref q6, .ref q7, .ref q8, .int 0, .int 0, .ref q9, .ref q10, .ref q11, .ref q12, .ref q13, .int 0, .int 0, .ref q14, .ref q15, .ref q16, .int 0, .int 0, .ref q17, .ref q18, .int (-1), .int 0, .ref q19, .int 0, .long 0, .ref q20, .int 0, .int 0, .ref q21, .ref q22, .null, .int 0])), (q1, .inl (cI, 240, .inl (fun _ => 0))), (q2, .inl (cI, 2600, .inl (fun _ => 0))), (q3, .inl (cI, 2600, .inl (fun _ => 0))), (q4, .inl (cI, 5, .inl (fun _ => 0))), (q5, .inl (cI, 5, .inl (fun _ => 0))), (q6, .inl (cI, 700, .inl (fun _ => 0))), (q7, .inl (cI, 700, .inl (fun _ => 0))), (q8, .inl (cI, 700, .inl (fun _ => 0))), (q9, .inl (cI, 6, .inl (fun _ => 0))), (q10, .inl (cI, 80, .inl (fun _ => 0))), (q11, .inl (cI, 3, .inl (fun _ => 0))), (q12, .inl (cI, 24, .inl (fun _ => 0))), (q13, .inl (cI, 20, .inl (fun _ => 0))), (q14, .inl (cI, 3, .inl (fun _ => 0))), (q15, .inl (cI, 24, .inl (fun _ => 0))), (q16, .inl (cI, 20, .inl (fun _ => 0))), (q17, .inl (cI, 97, .inl (fun _ => 0))), (q18, .inl (cI, 5, .inl (fun _ => 0))), (q19, .inl (cI, 3880, .inl (fun _ => 0))), (q20, .inl (cI, 10, .inl (fun _ => 0))), (q21, .inl (cI, 6, .inl (fun _ => 0))), (q22, .inl (cI, 5, .inl (fun _ => 0)))] := hD
  refine lv_aload_n hx hb dX11_init_186 rfl (lv_at hl 0 rfl) ?_
  refine lv_bipush (v := 97) hx hb dX11_init_187 (by decide) ?_
  refine va_newa (atype := .int) (ty := .int) (N' := 97) (a0 := (97, .inl (fun _ => 0))) hx hb (hts _ qw147) rfl hK hP hD hS hA (fun _ => rfl) (by decide) (by decide) (Nat.le_of_ble_eq_true rfl) (Nat.le_of_ble_eq_true rfl) (Nat.le_of_ble_eq_true rfl) dX11_init_189 (fun q23 cA H hK2 hP hD hS => ?_)
  obtain rfl : cI = cA := (zcA hK2 0 2 rfl rfl).symm
  have hP : va_P (dC, dI) vwCl [(h0, .inr (11, [.int 0, .ref q1, .int 0, .int 0, .int 0, .int 0, .ref q2, .ref q3, .ref q4, .ref q5, .ref q6, .ref q7, .ref q8, .int 0, .int 0, .ref q9, .ref q10, .ref q11, .ref q12, .ref q13, .int 0, .int 0, .ref q14, .ref q15, .ref q16, .int 0, .int 0, .ref q17, .ref q18, .int (-1), .int 0, .ref q19, .int 0, .long 0, .ref q20, .int 0, .int 0, .ref q21, .ref q22, .null, .int 0])), (q1, .inl (cI, 240, .inl (fun _ => 0))), (q2, .inl (cI, 2600, .inl (fun _ => 0))), (q3, .inl (cI, 2600, .inl (fun _ => 0))), (q4, .inl (cI, 5, .inl (fun _ => 0))), (q5, .inl (cI, 5, .inl (fun _ => 0))), (q6, .inl (cI, 700, .inl (fun _ => 0))), (q7, .inl (cI, 700, .inl (fun _ => 0))), (q8, .inl (cI, 700, .inl (fun _ => 0))), (q9, .inl (cI, 6, .inl (fun _ => 0))), (q10, .inl (cI, 80, .inl (fun _ => 0))), (q11, .inl (cI, 3, .inl (fun _ => 0))), (q12, .inl (cI, 24, .inl (fun _ => 0))), (q13, .inl (cI, 20, .inl (fun _ => 0))), (q14, .inl (cI, 3, .inl (fun _ => 0))), (q15, .inl (cI, 24, .inl (fun _ => 0))), (q16, .inl (cI, 20, .inl (fun _ => 0))), (q17, .inl (cI, 97, .inl (fun _ => 0))), (q18, .inl (cI, 5, .inl (fun _ => 0))), (q19, .inl (cI, 3880, .inl (fun _ => 0))), (q20, .inl (cI, 10, .inl (fun _ => 0))), (q21, .inl (cI, 6, .inl (fun _ => 0))), (q22, .inl (cI, 5, .inl (fun _ => 0))), (q23, .inl (cI, 97, .inl (fun _ => 0)))] H := hP
  have hD : va_D A [(h0, .inr (11, [.int 0, .ref q1, .int 0, .int 0, .int 0, .int 0, .ref q2, .ref q3, .ref q4, .ref q5, .ref q6, .ref q7, .ref q8, .int 0, .int 0, .ref q9, .ref q10, .ref q11, .ref q12, .ref q13, .int 0, .int 0, .ref q14, .ref q15, .ref q16, .int 0, .int 0, .ref q17, .ref q18, .int (-1), .int 0, .ref q19, .int 0, .long 0, .ref q20, .int 0, .int 0, .ref q21, .ref q22, .null, .int 0])), (q1, .inl (cI, 240, .inl (fun _ => 0))), (q2, .inl (cI, 2600, .inl (fun _ => 0))), (q3, .inl (cI, 2600, .inl (fun _ => 0))), (q4, .inl (cI, 5, .inl (fun _ => 0))), (q5, .inl (cI, 5, .inl (fun _ => 0))), (q6, .inl (cI, 700, .inl (fun _ => 0))), (q7, .inl (cI, 700, .inl (fun _ => 0))), (q8, .inl (cI, 700, .inl (fun _ => 0))), (q9, .inl (cI, 6, .inl (fun _ => 0))), (q10, .inl (cI, 80, .inl (fun _ => 0))), (q11, .inl (cI, 3, .inl (fun _ => 0))), (q12, .inl (cI, 24, .inl (fun _ => 0))), (q13, .inl (cI, 20, .inl (fun _ => 0))), (q14, .inl (cI, 3, .inl (fun _ => 0))), (q15, .inl (cI, 24, .inl (fun _ => 0))), (q16, .inl (cI, 20, .inl (fun _ => 0))), (q17, .inl (cI, 97, .inl (fun _ => 0))), (q18, .inl (cI, 5, .inl (fun _ => 0))), (q19, .inl (cI, 3880, .inl (fun _ => 0))), (q20, .inl (cI, 10, .inl (fun _ => 0))), (q21, .inl (cI, 6, .inl (fun _ => 0))), (q22, .inl (cI, 5, .inl (fun _ => 0))), (q23, .inl (cI, 97, .inl (fun _ => 0)))] := hD
  refine W.widen (k := 23) (n := 11830) (Nat.le_of_ble_eq_true rfl) (Nat.le_of_ble_eq_true rfl) ?_
  refine va_putF (D := (dC, dI)) (ci := 11) (v := .ref q23) (ty := .array .int) (C := RX11) (T := TX11) (N := 41) hx hb hts iX11 tyX11 tyX11_ok nmX11 hown hK hP hD hS 0 rfl rfl 39 (by decide) (hts _ qw1166) (fun _ h9 => h9) rfl hin rfl (by decide +kernel) rfl rfl (Nat.le_of_ble_eq_true rfl) dX11_init_191 (fun H locs hP hD hS => ?_)
  have hP : va_P (dC, dI) vwCl [(h0, .inr (11, [.int 0, .ref q1, .int 0, .int 0, .int 0, .int 0, .ref q2, .ref q3, .ref q4, .ref q5, .ref q6, .ref q7, .ref q8, .int 0, .int 0, .ref q9, .ref q10, .ref q11, .ref q12, .ref q13, .int 0, .int 0, .ref q14, .ref q15, .ref q16, .int 0, .int 0, .ref q17, .ref q18, .int (-1), .int 0, .ref q19, .int 0, .long 0, .ref q20, .int 0, .int 0, .ref q21, .ref q22, .ref q23, .int 0])), (q1, .inl (cI, 240, .inl (fun _ => 0))), (q2, .inl (cI, 2600, .inl (fun _ => 0))), (q3, .inl (cI, 2600, .inl (fun _ => 0))), (q4, .inl (cI, 5, .inl (fun _ => 0))), (q5, .inl (cI, 5, .inl (fun _ => 0))), (q6, .inl (cI, 700, .inl (fun _ => 0))), (q7, .inl (cI, 700, .inl (fun _ => 0))), (q8, .inl (cI, 700, .inl (fun _ => 0))), (q9, .inl (cI, 6, .inl (fun _ => 0))), (q10, .inl (cI, 80, .inl (fun _ => 0))), (q11, .inl (cI, 3, .inl (fun _ => 0))), (q12, .inl (cI, 24, .inl (fun _ => 0))), (q13, .inl (cI, 20, .inl (fun _ => 0))), (q14, .inl (cI, 3, .inl (fun _ => 0))), (q15, .inl (cI, 24, .inl (fun _ => 0))), (q16, .inl (cI, 20, .inl (fun _ => 0))), (q17, .inl (cI, 97, .inl (fun _ => 0))), (q18, .inl (cI, 5, .inl (fun _ => 0))), (q19, .inl (cI, 3880, .inl (fun _ => 0))), (q20, .inl (cI, 10, .inl (fun _ => 0))), (q21, .inl (cI, 6, .inl (fun _ => 0))), (q22, .inl (cI, 5, .inl (fun _ => 0))), (q23, .inl (cI, 97, .inl (fun _ => 0)))] H := hP
  have hD : va_D A [(h0, .inr (11, [.int 0, .ref q1, .int 0, .int 0, .int 0, .int 0, .ref q2, .ref q3, .ref q4, .ref q5, .ref q6, .ref q7, .ref q8, .int 0, .int 0, .ref q9, .ref q10, .ref q11, .ref q12, .ref q13, .int 0, .int 0, .ref q14, .ref q15, .ref q16, .int 0, .int 0, .ref q17, .ref q18, .int (-1), .int 0, .ref q19, .int 0, .long 0, .ref q20, .int 0, .int 0, .ref q21, .ref q22, .ref q23, .int 0])), (q1, .inl (cI, 240, .inl (fun _ => 0))), (q2, .inl (cI, 2600, .inl (fun _ => 0))), (q3, .inl (cI, 2600, .inl (fun _ => 0))), (q4, .inl (cI, 5, .inl (fun _ => 0))), (q5, .inl (cI, 5, .inl (fun _ => 0))), (q6, .inl (cI, 700, .inl (fun _ => 0))), (q7, .inl (cI, 700, .inl (fun _ => 0))), (q8, .inl (cI, 700, .inl (fun _ => 0))), (q9, .inl (cI, 6, .inl (fun _ => 0))), (q10, .inl (cI, 80, .inl (fun _ => 0))), (q11, .inl (cI, 3, .inl (fun _ => 0))), (q12, .inl (cI, 24, .inl (fun _ => 0))), (q13, .inl (cI, 20, .inl (fun _ => 0))), (q14, .inl (cI, 3, .inl (fun _ => 0))), (q15, .inl (cI, 24, .inl (fun _ => 0))), (q16, .inl (cI, 20, .inl (fun _ => 0))), (q17, .inl (cI, 97, .inl (fun _ => 0))), (q18, .inl (cI, 5, .inl (fun _ => 0))), (q19, .inl (cI, 3880, .inl (fun _ => 0))), (q20, .inl (cI, 10, .inl (fun _ => 0))), (q21, .inl (cI, 6, .inl (fun _ => 0))), (q22, .inl (cI, 5, .inl (fun _ => 0))), (q23, .inl (cI, 97, .inl (fun _ => 0)))] := hD
  exact W.vret hx hb hr (fun t ht hW => ⟨⟨(), rfl, trivial, ⟨q1, q2, q3, q4, q5, q6, q7, q8, q9, q10, q11, q12, q13, q14, q15, q16, q17, q18, q19, q20, q21, q22, q23, by rw [ht]; exact hP, hD⟩⟩, hS.F ht⟩) hS.2.2 dX11_init_194
