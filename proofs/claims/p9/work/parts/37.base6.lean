abbrev cX4_init : ByteArray := prog_6_method_1_code
def yX4_init : MethodName := ⟨RX4, "<init>", "([I)V"⟩
abbrev cX5_made : ByteArray := prog_7_method_3_code
def yX5_made : MethodName := ⟨RX5, "made", "()LNinePortraits$Law;"⟩
abbrev cX10_text : ByteArray := prog_1_method_5_code
def yX10_text : MethodName := ⟨RX10, "text", "(I)I"⟩
abbrev cX10_takeLaw : ByteArray := prog_1_method_7_code
def yX10_takeLaw : MethodName := ⟨RX10, "takeLaw", "()I"⟩
abbrev cX10_bride : ByteArray := prog_1_method_9_code
def yX10_bride : MethodName := ⟨RX10, "bride", "(II)I"⟩
abbrev cX10_law : ByteArray := prog_1_method_11_code
def yX10_law : MethodName := ⟨RX10, "law", "(I)Z"⟩
abbrev cJ7_copyOf_59c91 : ByteArray := prog_22_method_123_code
def yJ7_copyOf_59c91 : MethodName := ⟨RJ7, "copyOf", "([II)[I"⟩
abbrev cL_bride : ByteArray := method_3_code
def yL_bride : MethodName := ⟨RL, "bride", "(LNinePortraits;II[J)I"⟩
theorem dX4_init_0 : decode cX4_init 0 = .ok (.aload_n 0, 1) := by decide +kernel
theorem dX4_init_1 : decode cX4_init 1 = .ok (.invokespecial 1, 3) := by decide +kernel
theorem dX4_init_4 : decode cX4_init 4 = .ok (.aload_n 0, 1) := by decide +kernel
theorem dX4_init_5 : decode cX4_init 5 = .ok (.aload_n 1, 1) := by decide +kernel
theorem dX4_init_6 : decode cX4_init 6 = .ok (.putfield 7, 3) := by decide +kernel
theorem dX4_init_9 : decode cX4_init 9 = .ok (.return_, 1) := by decide +kernel
theorem dX5_made_0 : decode cX5_made 0 = .ok (.new 43, 3) := by decide +kernel
theorem dX5_made_3 : decode cX5_made 3 = .ok (.dup, 1) := by decide +kernel
theorem dX5_made_4 : decode cX5_made 4 = .ok (.aload_n 0, 1) := by decide +kernel
theorem dX5_made_5 : decode cX5_made 5 = .ok (.getfield 9, 3) := by decide +kernel
theorem dX5_made_8 : decode cX5_made 8 = .ok (.aload_n 0, 1) := by decide +kernel
theorem dX5_made_9 : decode cX5_made 9 = .ok (.getfield 25, 3) := by decide +kernel
theorem dX5_made_12 : decode cX5_made 12 = .ok (.invokestatic 45, 3) := by decide +kernel
theorem dX5_made_15 : decode cX5_made 15 = .ok (.invokespecial 51, 3) := by decide +kernel
theorem dX5_made_18 : decode cX5_made 18 = .ok (.areturn, 1) := by decide +kernel
theorem dX10_text_0 : decode cX10_text 0 = .ok (.iload_n 1, 1) := by decide +kernel
theorem dX10_text_1 : decode cX10_text 1 = .ok (.ifCond .ne 27, 3) := by decide +kernel
theorem dX10_text_4 : decode cX10_text 4 = .ok (.aload_n 0, 1) := by decide +kernel
theorem dX10_text_5 : decode cX10_text 5 = .ok (.getfield 19, 3) := by decide +kernel
theorem dX10_text_8 : decode cX10_text 8 = .ok (.aload_n 0, 1) := by decide +kernel
theorem dX10_text_9 : decode cX10_text 9 = .ok (.getfield 10, 3) := by decide +kernel
theorem dX10_text_12 : decode cX10_text 12 = .ok (.aload_n 0, 1) := by decide +kernel
theorem dX10_text_13 : decode cX10_text 13 = .ok (.getfield 33, 3) := by decide +kernel
theorem dX10_text_16 : decode cX10_text 16 = .ok (.invokevirtual 103, 3) := by decide +kernel
theorem dX10_text_19 : decode cX10_text 19 = .ok (.iconst (-1), 1) := by decide +kernel
theorem dX10_text_20 : decode cX10_text 20 = .ok (.if_icmp .ne 8, 3) := by decide +kernel
theorem dX10_text_23 : decode cX10_text 23 = .ok (.aload_n 0, 1) := by decide +kernel
theorem dX10_text_24 : decode cX10_text 24 = .ok (.invokevirtual 110, 3) := by decide +kernel
theorem dX10_text_27 : decode cX10_text 27 = .ok (.ireturn, 1) := by decide +kernel
theorem dX10_text_28 : decode cX10_text 28 = .ok (.iload_n 1, 1) := by decide +kernel
theorem dX10_text_29 : decode cX10_text 29 = .ok (.iconst 1, 1) := by decide +kernel
theorem dX10_text_30 : decode cX10_text 30 = .ok (.if_icmp .ne 31, 3) := by decide +kernel
theorem dX10_text_33 : decode cX10_text 33 = .ok (.aload_n 0, 1) := by decide +kernel
theorem dX10_text_34 : decode cX10_text 34 = .ok (.getfield 114, 3) := by decide +kernel
theorem dX10_text_37 : decode cX10_text 37 = .ok (.iconst 4, 1) := by decide +kernel
theorem dX10_text_38 : decode cX10_text 38 = .ok (.if_icmp .ge 23, 3) := by decide +kernel
theorem dX10_text_41 : decode cX10_text 41 = .ok (.aload_n 0, 1) := by decide +kernel
theorem dX10_text_42 : decode cX10_text 42 = .ok (.getfield 26, 3) := by decide +kernel
theorem dX10_text_45 : decode cX10_text 45 = .ok (.aload_n 0, 1) := by decide +kernel
theorem dX10_text_46 : decode cX10_text 46 = .ok (.getfield 10, 3) := by decide +kernel
theorem dX10_text_49 : decode cX10_text 49 = .ok (.invokevirtual 107, 3) := by decide +kernel
theorem dX10_text_52 : decode cX10_text 52 = .ok (.iconst (-1), 1) := by decide +kernel
theorem dX10_text_53 : decode cX10_text 53 = .ok (.if_icmp .ne 8, 3) := by decide +kernel
theorem dX10_text_56 : decode cX10_text 56 = .ok (.aload_n 0, 1) := by decide +kernel
theorem dX10_text_57 : decode cX10_text 57 = .ok (.invokevirtual 117, 3) := by decide +kernel
theorem dX10_text_60 : decode cX10_text 60 = .ok (.ireturn, 1) := by decide +kernel
theorem dX10_text_61 : decode cX10_text 61 = .ok (.iconst (-1), 1) := by decide +kernel
theorem dX10_text_62 : decode cX10_text 62 = .ok (.ireturn, 1) := by decide +kernel
theorem dX10_takeLaw_0 : decode cX10_takeLaw 0 = .ok (.aload_n 0, 1) := by decide +kernel
theorem dX10_takeLaw_1 : decode cX10_takeLaw 1 = .ok (.getfield 10, 3) := by decide +kernel
theorem dX10_takeLaw_4 : decode cX10_takeLaw 4 = .ok (.iconst 0, 1) := by decide +kernel
theorem dX10_takeLaw_5 : decode cX10_takeLaw 5 = .ok (.putfield 96, 3) := by decide +kernel
theorem dX10_takeLaw_8 : decode cX10_takeLaw 8 = .ok (.aload_n 0, 1) := by decide +kernel
theorem dX10_takeLaw_9 : decode cX10_takeLaw 9 = .ok (.getfield 42, 3) := by decide +kernel
theorem dX10_takeLaw_12 : decode cX10_takeLaw 12 = .ok (.aload_n 0, 1) := by decide +kernel
theorem dX10_takeLaw_13 : decode cX10_takeLaw 13 = .ok (.getfield 114, 3) := by decide +kernel
theorem dX10_takeLaw_16 : decode cX10_takeLaw 16 = .ok (.aload_n 0, 1) := by decide +kernel
theorem dX10_takeLaw_17 : decode cX10_takeLaw 17 = .ok (.getfield 26, 3) := by decide +kernel
theorem dX10_takeLaw_20 : decode cX10_takeLaw 20 = .ok (.invokevirtual 137, 3) := by decide +kernel
theorem dX10_takeLaw_23 : decode cX10_takeLaw 23 = .ok (.aastore, 1) := by decide +kernel
theorem dX10_takeLaw_24 : decode cX10_takeLaw 24 = .ok (.aload_n 0, 1) := by decide +kernel
theorem dX10_takeLaw_25 : decode cX10_takeLaw 25 = .ok (.dup, 1) := by decide +kernel
theorem dX10_takeLaw_26 : decode cX10_takeLaw 26 = .ok (.getfield 114, 3) := by decide +kernel
theorem dX10_takeLaw_29 : decode cX10_takeLaw 29 = .ok (.iconst 1, 1) := by decide +kernel
theorem dX10_takeLaw_30 : decode cX10_takeLaw 30 = .ok (.iadd, 1) := by decide +kernel
theorem dX10_takeLaw_31 : decode cX10_takeLaw 31 = .ok (.putfield 114, 3) := by decide +kernel
theorem dX10_takeLaw_34 : decode cX10_takeLaw 34 = .ok (.aload_n 0, 1) := by decide +kernel
theorem dX10_takeLaw_35 : decode cX10_takeLaw 35 = .ok (.getfield 114, 3) := by decide +kernel
theorem dX10_takeLaw_38 : decode cX10_takeLaw 38 = .ok (.iconst 1, 1) := by decide +kernel
theorem dX10_takeLaw_39 : decode cX10_takeLaw 39 = .ok (.isub, 1) := by decide +kernel
theorem dX10_takeLaw_40 : decode cX10_takeLaw 40 = .ok (.ireturn, 1) := by decide +kernel
theorem dX10_bride_0 : decode cX10_bride 0 = .ok (.aload_n 0, 1) := by decide +kernel
theorem dX10_bride_1 : decode cX10_bride 1 = .ok (.iload_n 1, 1) := by decide +kernel
theorem dX10_bride_2 : decode cX10_bride 2 = .ok (.invokevirtual 154, 3) := by decide +kernel
theorem dX10_bride_5 : decode cX10_bride 5 = .ok (.ifCond .eq 12, 3) := by decide +kernel
theorem dX10_bride_8 : decode cX10_bride 8 = .ok (.iload_n 2, 1) := by decide +kernel
theorem dX10_bride_9 : decode cX10_bride 9 = .ok (.ifCond .lt 8, 3) := by decide +kernel
theorem dX10_bride_12 : decode cX10_bride 12 = .ok (.iload_n 2, 1) := by decide +kernel
theorem dX10_bride_13 : decode cX10_bride 13 = .ok (.iconst 5, 1) := by decide +kernel
theorem dX10_bride_14 : decode cX10_bride 14 = .ok (.if_icmp .le 11, 3) := by decide +kernel
theorem dX10_bride_17 : decode cX10_bride 17 = .ok (.new 158, 3) := by decide +kernel
theorem dX10_bride_20 : decode cX10_bride 20 = .ok (.dup, 1) := by decide +kernel
theorem dX10_bride_21 : decode cX10_bride 21 = .ok (.invokespecial 160, 3) := by decide +kernel
theorem dX10_bride_24 : decode cX10_bride 24 = .ok (.athrow, 1) := by decide +kernel
theorem dX10_bride_25 : decode cX10_bride 25 = .ok (.iload_n 2, 1) := by decide +kernel
theorem dX10_bride_26 : decode cX10_bride 26 = .ok (.tableswitch 83 0 4 #[34, 43, 52, 61, 71], 34) := by decide +kernel
theorem dX10_bride_60 : decode cX10_bride 60 = .ok (.aload_n 0, 1) := by decide +kernel
theorem dX10_bride_61 : decode cX10_bride 61 = .ok (.getfield 37, 3) := by decide +kernel
theorem dX10_bride_64 : decode cX10_bride 64 = .ok (.iload_n 1, 1) := by decide +kernel
theorem dX10_bride_65 : decode cX10_bride 65 = .ok (.invokevirtual 161, 3) := by decide +kernel
theorem dX10_bride_68 : decode cX10_bride 68 = .ok (.ireturn, 1) := by decide +kernel
theorem dX10_bride_69 : decode cX10_bride 69 = .ok (.aload_n 0, 1) := by decide +kernel
theorem dX10_bride_70 : decode cX10_bride 70 = .ok (.getfield 37, 3) := by decide +kernel
theorem dX10_bride_73 : decode cX10_bride 73 = .ok (.iload_n 1, 1) := by decide +kernel
theorem dX10_bride_74 : decode cX10_bride 74 = .ok (.invokevirtual 165, 3) := by decide +kernel
theorem dX10_bride_77 : decode cX10_bride 77 = .ok (.ireturn, 1) := by decide +kernel
theorem dX10_bride_78 : decode cX10_bride 78 = .ok (.aload_n 0, 1) := by decide +kernel
theorem dX10_bride_79 : decode cX10_bride 79 = .ok (.getfield 37, 3) := by decide +kernel
theorem dX10_bride_82 : decode cX10_bride 82 = .ok (.iload_n 1, 1) := by decide +kernel
theorem dX10_bride_83 : decode cX10_bride 83 = .ok (.invokevirtual 168, 3) := by decide +kernel
theorem dX10_bride_86 : decode cX10_bride 86 = .ok (.ireturn, 1) := by decide +kernel
theorem dX10_bride_87 : decode cX10_bride 87 = .ok (.aload_n 0, 1) := by decide +kernel
theorem dX10_bride_88 : decode cX10_bride 88 = .ok (.getfield 49, 3) := by decide +kernel
theorem dX10_bride_91 : decode cX10_bride 91 = .ok (.getfield 171, 3) := by decide +kernel
theorem dX10_bride_94 : decode cX10_bride 94 = .ok (.iload_n 1, 1) := by decide +kernel
theorem dX10_bride_95 : decode cX10_bride 95 = .ok (.iaload, 1) := by decide +kernel
theorem dX10_bride_96 : decode cX10_bride 96 = .ok (.ireturn, 1) := by decide +kernel
theorem dX10_bride_97 : decode cX10_bride 97 = .ok (.aload_n 0, 1) := by decide +kernel
theorem dX10_bride_98 : decode cX10_bride 98 = .ok (.getfield 49, 3) := by decide +kernel
theorem dX10_bride_101 : decode cX10_bride 101 = .ok (.getfield 174, 3) := by decide +kernel
theorem dX10_bride_104 : decode cX10_bride 104 = .ok (.iload_n 1, 1) := by decide +kernel
theorem dX10_bride_105 : decode cX10_bride 105 = .ok (.invokestatic 177, 3) := by decide +kernel
theorem dX10_bride_108 : decode cX10_bride 108 = .ok (.ireturn, 1) := by decide +kernel
theorem dX10_bride_109 : decode cX10_bride 109 = .ok (.aload_n 0, 1) := by decide +kernel
theorem dX10_bride_110 : decode cX10_bride 110 = .ok (.getfield 49, 3) := by decide +kernel
theorem dX10_bride_113 : decode cX10_bride 113 = .ok (.getfield 181, 3) := by decide +kernel
theorem dX10_bride_116 : decode cX10_bride 116 = .ok (.iload_n 1, 1) := by decide +kernel
theorem dX10_bride_117 : decode cX10_bride 117 = .ok (.invokestatic 177, 3) := by decide +kernel
theorem dX10_bride_120 : decode cX10_bride 120 = .ok (.ireturn, 1) := by decide +kernel
theorem dX10_law_0 : decode cX10_law 0 = .ok (.iload_n 1, 1) := by decide +kernel
theorem dX10_law_1 : decode cX10_law 1 = .ok (.iconst (-1), 1) := by decide +kernel
theorem dX10_law_2 : decode cX10_law 2 = .ok (.if_icmp .lt 11, 3) := by decide +kernel
theorem dX10_law_5 : decode cX10_law 5 = .ok (.iload_n 1, 1) := by decide +kernel
theorem dX10_law_6 : decode cX10_law 6 = .ok (.aload_n 0, 1) := by decide +kernel
theorem dX10_law_7 : decode cX10_law 7 = .ok (.getfield 114, 3) := by decide +kernel
theorem dX10_law_10 : decode cX10_law 10 = .ok (.if_icmp .lt 5, 3) := by decide +kernel
theorem dX10_law_13 : decode cX10_law 13 = .ok (.iconst 0, 1) := by decide +kernel
theorem dX10_law_14 : decode cX10_law 14 = .ok (.ireturn, 1) := by decide +kernel
theorem dX10_law_15 : decode cX10_law 15 = .ok (.aload_n 0, 1) := by decide +kernel
theorem dX10_law_16 : decode cX10_law 16 = .ok (.iload_n 1, 1) := by decide +kernel
theorem dX10_law_17 : decode cX10_law 17 = .ok (.putfield 92, 3) := by decide +kernel
theorem dX10_law_20 : decode cX10_law 20 = .ok (.aload_n 0, 1) := by decide +kernel
theorem dX10_law_21 : decode cX10_law 21 = .ok (.getfield 68, 3) := by decide +kernel
theorem dX10_law_24 : decode cX10_law 24 = .ok (.iload_n 1, 1) := by decide +kernel
theorem dX10_law_25 : decode cX10_law 25 = .ok (.iconst (-1), 1) := by decide +kernel
theorem dX10_law_26 : decode cX10_law 26 = .ok (.if_icmp .ne 7, 3) := by decide +kernel
theorem dX10_law_29 : decode cX10_law 29 = .ok (.aconst_null, 1) := by decide +kernel
theorem dX10_law_30 : decode cX10_law 30 = .ok (.goto 9, 3) := by decide +kernel
theorem dX10_law_33 : decode cX10_law 33 = .ok (.aload_n 0, 1) := by decide +kernel
theorem dX10_law_34 : decode cX10_law 34 = .ok (.getfield 42, 3) := by decide +kernel
theorem dX10_law_37 : decode cX10_law 37 = .ok (.iload_n 1, 1) := by decide +kernel
theorem dX10_law_38 : decode cX10_law 38 = .ok (.aaload, 1) := by decide +kernel
theorem dX10_law_39 : decode cX10_law 39 = .ok (.putfield 199, 3) := by decide +kernel
theorem dX10_law_42 : decode cX10_law 42 = .ok (.iconst 1, 1) := by decide +kernel
theorem dX10_law_43 : decode cX10_law 43 = .ok (.ireturn, 1) := by decide +kernel
theorem dJ7_copyOf_59c91_0 : decode cJ7_copyOf_59c91 0 = .ok (.iload_n 1, 1) := by decide +kernel
theorem dJ7_copyOf_59c91_1 : decode cJ7_copyOf_59c91 1 = .ok (.aload_n 0, 1) := by decide +kernel
theorem dJ7_copyOf_59c91_2 : decode cJ7_copyOf_59c91 2 = .ok (.arraylength, 1) := by decide +kernel
theorem dJ7_copyOf_59c91_3 : decode cJ7_copyOf_59c91 3 = .ok (.if_icmp .ne 11, 3) := by decide +kernel
theorem dJ7_copyOf_59c91_6 : decode cJ7_copyOf_59c91 6 = .ok (.aload_n 0, 1) := by decide +kernel
theorem dJ7_copyOf_59c91_7 : decode cJ7_copyOf_59c91 7 = .ok (.invokevirtual 316, 3) := by decide +kernel
theorem dJ7_copyOf_59c91_10 : decode cJ7_copyOf_59c91 10 = .ok (.checkcast 317, 3) := by decide +kernel
theorem dJ7_copyOf_59c91_13 : decode cJ7_copyOf_59c91 13 = .ok (.areturn, 1) := by decide +kernel
theorem dJ7_copyOf_59c91_14 : decode cJ7_copyOf_59c91 14 = .ok (.iload_n 1, 1) := by decide +kernel
theorem dJ7_copyOf_59c91_15 : decode cJ7_copyOf_59c91 15 = .ok (.newarray .int, 2) := by decide +kernel
theorem dJ7_copyOf_59c91_17 : decode cJ7_copyOf_59c91 17 = .ok (.astore_n 2, 1) := by decide +kernel
theorem dJ7_copyOf_59c91_18 : decode cJ7_copyOf_59c91 18 = .ok (.aload_n 0, 1) := by decide +kernel
theorem dJ7_copyOf_59c91_19 : decode cJ7_copyOf_59c91 19 = .ok (.iconst 0, 1) := by decide +kernel
theorem dJ7_copyOf_59c91_20 : decode cJ7_copyOf_59c91 20 = .ok (.aload_n 2, 1) := by decide +kernel
theorem dJ7_copyOf_59c91_21 : decode cJ7_copyOf_59c91 21 = .ok (.iconst 0, 1) := by decide +kernel
theorem dJ7_copyOf_59c91_22 : decode cJ7_copyOf_59c91 22 = .ok (.aload_n 0, 1) := by decide +kernel
theorem dJ7_copyOf_59c91_23 : decode cJ7_copyOf_59c91 23 = .ok (.arraylength, 1) := by decide +kernel
theorem dJ7_copyOf_59c91_24 : decode cJ7_copyOf_59c91 24 = .ok (.iload_n 1, 1) := by decide +kernel
theorem dJ7_copyOf_59c91_25 : decode cJ7_copyOf_59c91 25 = .ok (.invokestatic 304, 3) := by decide +kernel
theorem dJ7_copyOf_59c91_28 : decode cJ7_copyOf_59c91 28 = .ok (.invokestatic 150, 3) := by decide +kernel
theorem dJ7_copyOf_59c91_31 : decode cJ7_copyOf_59c91 31 = .ok (.aload_n 2, 1) := by decide +kernel
theorem dJ7_copyOf_59c91_32 : decode cJ7_copyOf_59c91 32 = .ok (.areturn, 1) := by decide +kernel
theorem dL_bride_0 : decode cL_bride 0 = .ok (.aload_n 3, 1) := by decide +kernel
theorem dL_bride_1 : decode cL_bride 1 = .ok (.iconst 0, 1) := by decide +kernel
theorem dL_bride_2 : decode cL_bride 2 = .ok (.aload_n 0, 1) := by decide +kernel
theorem dL_bride_3 : decode cL_bride 3 = .ok (.iload_n 1, 1) := by decide +kernel
theorem dL_bride_4 : decode cL_bride 4 = .ok (.iload_n 2, 1) := by decide +kernel
theorem dL_bride_5 : decode cL_bride 5 = .ok (.invokevirtual 7, 3) := by decide +kernel
theorem dL_bride_8 : decode cL_bride 8 = .ok (.i2l, 1) := by decide +kernel
theorem dL_bride_9 : decode cL_bride 9 = .ok (.lastore, 1) := by decide +kernel
theorem dL_bride_10 : decode cL_bride 10 = .ok (.goto 7, 3) := by decide +kernel
theorem dL_bride_13 : decode cL_bride 13 = .ok (.astore 4, 2) := by decide +kernel
theorem dL_bride_15 : decode cL_bride 15 = .ok (.iconst 1, 1) := by decide +kernel
theorem dL_bride_16 : decode cL_bride 16 = .ok (.ireturn, 1) := by decide +kernel
theorem dL_bride_17 : decode cL_bride 17 = .ok (.iconst 0, 1) := by decide +kernel
theorem dL_bride_18 : decode cL_bride 18 = .ok (.ireturn, 1) := by decide +kernel
set_option maxRecDepth 20000 in
theorem qw8 : Cond.selects RX10 yX10_takeCourt yX10_takeCourt ∈ wA := zw 8 (by decide +kernel) (by decide +kernel)
set_option maxRecDepth 20000 in
theorem qw9 : Cond.selects RX10 yX10_takeLaw yX10_takeLaw ∈ wA := zw 9 (by decide +kernel) (by decide +kernel)
set_option maxRecDepth 20000 in
theorem qw116 : Cond.initialized "java/util/NoSuchElementException" ∈ wA := List.mem_filter.mpr ⟨zt1 (List.mem_of_getElem? (i := 19) rfl), (by decide +kernel)⟩
set_option maxRecDepth 20000 in
theorem qw124 : Cond.instanceMethod objectInit ∈ wA := List.mem_filter.mpr ⟨zt1 (List.mem_of_getElem? (i := 27) rfl), (by decide +kernel)⟩
set_option maxRecDepth 20000 in
theorem qw125 : Cond.code objectInit ⟨#[0xb1]⟩ 1 none ∈ wA := List.mem_filter.mpr ⟨zt1 (List.mem_of_getElem? (i := 28) rfl), (by decide +kernel)⟩
set_option maxRecDepth 20000 in
theorem qw147 : Cond.arrayClass .int ∈ wA := List.mem_filter.mpr ⟨zt1 (List.mem_of_getElem? (i := 50) rfl), (by decide +kernel)⟩
set_option maxRecDepth 20000 in
theorem qw294 : Cond.fieldLink RX10 199 "NinePortraits$Studio" "law" "LNinePortraits$Law;" ∈ wA := List.mem_filter.mpr ⟨zt1 (List.mem_of_getElem? (i := 197) rfl), (by decide +kernel)⟩
set_option maxRecDepth 20000 in
theorem qw361 : Cond.fieldLink RX10 42 "NinePortraits" "laws" "[LNinePortraits$Law;" ∈ wA := List.mem_filter.mpr ⟨zt2 (List.mem_of_getElem? (i := 24) rfl), (by decide +kernel)⟩
set_option maxRecDepth 20000 in
theorem qw519 : Cond.methodLink RX10 110 yX10_takeCourt ∈ wA := List.mem_filter.mpr ⟨zt2 (List.mem_of_getElem? (i := 182) rfl), (by decide +kernel)⟩
set_option maxRecDepth 20000 in
theorem qw521 : Cond.instanceMethod yX10_takeCourt ∈ wA := List.mem_filter.mpr ⟨zt2 (List.mem_of_getElem? (i := 184) rfl), (by decide +kernel)⟩
set_option maxRecDepth 20000 in
theorem qw522 : Cond.code yX10_takeCourt cX10_takeCourt 1 (some .int) ∈ wA := List.mem_filter.mpr ⟨zt2 (List.mem_of_getElem? (i := 185) rfl), (by decide +kernel)⟩
set_option maxRecDepth 20000 in
theorem qw548 : Cond.methodLink RX10 117 yX10_takeLaw ∈ wA := List.mem_filter.mpr ⟨zt2 (List.mem_of_getElem? (i := 211) rfl), (by decide +kernel)⟩
set_option maxRecDepth 20000 in
theorem qw550 : Cond.instanceMethod yX10_takeLaw ∈ wA := List.mem_filter.mpr ⟨zt2 (List.mem_of_getElem? (i := 213) rfl), (by decide +kernel)⟩
set_option maxRecDepth 20000 in
theorem qw551 : Cond.code yX10_takeLaw cX10_takeLaw 1 (some .int) ∈ wA := List.mem_filter.mpr ⟨zt2 (List.mem_of_getElem? (i := 214) rfl), (by decide +kernel)⟩
set_option maxRecDepth 20000 in
theorem qw552 : Cond.methodLink RX10 137 yX5_made ∈ wA := List.mem_filter.mpr ⟨zt2 (List.mem_of_getElem? (i := 215) rfl), (by decide +kernel)⟩
set_option maxRecDepth 20000 in
theorem qw553 : Cond.instanceMethod yX5_made ∈ wA := List.mem_filter.mpr ⟨zt2 (List.mem_of_getElem? (i := 216) rfl), (by decide +kernel)⟩
set_option maxRecDepth 20000 in
theorem qw554 : Cond.selects RX5 yX5_made yX5_made ∈ wA := List.mem_filter.mpr ⟨zt2 (List.mem_of_getElem? (i := 217) rfl), (by decide +kernel)⟩
set_option maxRecDepth 20000 in
theorem qw555 : Cond.code yX5_made cX5_made 1 (some (.object "NinePortraits$Law")) ∈ wA := List.mem_filter.mpr ⟨zt2 (List.mem_of_getElem? (i := 218) rfl), (by decide +kernel)⟩
set_option maxRecDepth 20000 in
theorem qw556 : Cond.classLink RX5 43 RX4 ∈ wA := List.mem_filter.mpr ⟨zt2 (List.mem_of_getElem? (i := 219) rfl), (by decide +kernel)⟩
set_option maxRecDepth 20000 in
theorem qw557 : Cond.instantiable RX4 1 ∈ wA := List.mem_filter.mpr ⟨zt2 (List.mem_of_getElem? (i := 220) rfl), (by decide +kernel)⟩
set_option maxRecDepth 20000 in
theorem qw558 : Cond.methodLink RX5 45 yJ7_copyOf_59c91 ∈ wA := List.mem_filter.mpr ⟨zt2 (List.mem_of_getElem? (i := 221) rfl), (by decide +kernel)⟩
set_option maxRecDepth 20000 in
theorem qw559 : Cond.static yJ7_copyOf_59c91 ∈ wA := List.mem_filter.mpr ⟨zt2 (List.mem_of_getElem? (i := 222) rfl), (by decide +kernel)⟩
set_option maxRecDepth 20000 in
theorem qw560 : Cond.code yJ7_copyOf_59c91 cJ7_copyOf_59c91 3 (some (.array .int)) ∈ wA := List.mem_filter.mpr ⟨zt2 (List.mem_of_getElem? (i := 223) rfl), (by decide +kernel)⟩
set_option maxRecDepth 20000 in
theorem qw568 : Cond.methodLink RJ7 304 Lib.Math.min.name ∈ wA := List.mem_filter.mpr ⟨zt2 (List.mem_of_getElem? (i := 231) rfl), (by decide +kernel)⟩
set_option maxRecDepth 20000 in
theorem qw571 : Cond.methodLink RJ7 150 arraycopyName ∈ wA := List.mem_filter.mpr ⟨zt2 (List.mem_of_getElem? (i := 234) rfl), (by decide +kernel)⟩
set_option maxRecDepth 20000 in
theorem qw572 : Cond.methodLink RX5 51 yX4_init ∈ wA := List.mem_filter.mpr ⟨zt2 (List.mem_of_getElem? (i := 235) rfl), (by decide +kernel)⟩
set_option maxRecDepth 20000 in
theorem qw573 : Cond.instanceMethod yX4_init ∈ wA := List.mem_filter.mpr ⟨zt2 (List.mem_of_getElem? (i := 236) rfl), (by decide +kernel)⟩
set_option maxRecDepth 20000 in
theorem qw574 : Cond.code yX4_init cX4_init 2 none ∈ wA := List.mem_filter.mpr ⟨zt2 (List.mem_of_getElem? (i := 237) rfl), (by decide +kernel)⟩
set_option maxRecDepth 20000 in
theorem qw575 : Cond.methodLink RX4 1 objectInit ∈ wA := List.mem_filter.mpr ⟨zt2 (List.mem_of_getElem? (i := 238) rfl), (by decide +kernel)⟩
set_option maxRecDepth 20000 in
theorem qw1054 : Cond.classLink RL 13 "java/util/NoSuchElementException" ∈ wA := List.mem_filter.mpr ⟨zt4 (List.mem_of_getElem? (i := 237) rfl), (by decide +kernel)⟩
set_option maxRecDepth 20000 in
theorem qw1055 : Cond.methodLink RL 7 yX10_bride ∈ wA := List.mem_filter.mpr ⟨zt4 (List.mem_of_getElem? (i := 238) rfl), (by decide +kernel)⟩
set_option maxRecDepth 20000 in
theorem qw1056 : Cond.instanceMethod yX10_bride ∈ wA := List.mem_filter.mpr ⟨zt4 (List.mem_of_getElem? (i := 239) rfl), (by decide +kernel)⟩
set_option maxRecDepth 20000 in
theorem qw1057 : Cond.selects RX10 yX10_bride yX10_bride ∈ wA := List.mem_filter.mpr ⟨zt5 (List.mem_of_getElem? (i := 0) rfl), (by decide +kernel)⟩
set_option maxRecDepth 20000 in
theorem qw1058 : Cond.code yX10_bride cX10_bride 3 (some .int) ∈ wA := List.mem_filter.mpr ⟨zt5 (List.mem_of_getElem? (i := 1) rfl), (by decide +kernel)⟩
set_option maxRecDepth 20000 in
theorem qw1059 : Cond.classLink RX10 158 "java/util/NoSuchElementException" ∈ wA := List.mem_filter.mpr ⟨zt5 (List.mem_of_getElem? (i := 2) rfl), (by decide +kernel)⟩
set_option maxRecDepth 20000 in
theorem qw1120 : Cond.methodLink RX10 168 yX1_wartsOf ∈ wA := List.mem_filter.mpr ⟨zt5 (List.mem_of_getElem? (i := 63) rfl), (by decide +kernel)⟩
theorem hd_J7_copyOf_59c91 : yJ7_copyOf_59c91.cls = RJ7 ∧ yJ7_copyOf_59c91.cls ≠ "java/lang/invoke/MethodHandle" ∧ yJ7_copyOf_59c91.cls ≠ "java/lang/invoke/VarHandle" ∧ (parseMethodDescriptor yJ7_copyOf_59c91.desc).map (fun d => d.parameters.length) = some 2 := by decide +kernel
theorem hd_X10_bride : yX10_bride.cls = RX10 ∧ yX10_bride.cls ≠ "java/lang/invoke/MethodHandle" ∧ yX10_bride.cls ≠ "java/lang/invoke/VarHandle" ∧ (parseMethodDescriptor yX10_bride.desc).map (fun d => d.parameters.length) = some 2 := by decide +kernel
theorem hd_X10_takeCourt : yX10_takeCourt.cls = RX10 ∧ yX10_takeCourt.cls ≠ "java/lang/invoke/MethodHandle" ∧ yX10_takeCourt.cls ≠ "java/lang/invoke/VarHandle" ∧ (parseMethodDescriptor yX10_takeCourt.desc).map (fun d => d.parameters.length) = some 0 := by decide +kernel
theorem hd_X10_takeLaw : yX10_takeLaw.cls = RX10 ∧ yX10_takeLaw.cls ≠ "java/lang/invoke/MethodHandle" ∧ yX10_takeLaw.cls ≠ "java/lang/invoke/VarHandle" ∧ (parseMethodDescriptor yX10_takeLaw.desc).map (fun d => d.parameters.length) = some 0 := by decide +kernel
theorem hd_X4_init : yX4_init.cls = RX4 ∧ yX4_init.cls ≠ "java/lang/invoke/MethodHandle" ∧ yX4_init.cls ≠ "java/lang/invoke/VarHandle" ∧ (parseMethodDescriptor yX4_init.desc).map (fun d => d.parameters.length) = some 1 := by decide +kernel
theorem hd_X5_made : yX5_made.cls = RX5 ∧ yX5_made.cls ≠ "java/lang/invoke/MethodHandle" ∧ yX5_made.cls ≠ "java/lang/invoke/VarHandle" ∧ (parseMethodDescriptor yX5_made.desc).map (fun d => d.parameters.length) = some 0 := by decide +kernel
def zLa (o old : Value) (lc : Int32) (g : Nat → Option Nat) : Prop := o = old ∨ o = .null ∨ ∃ (j a : Nat), (j : Int) < lc.toInt ∧ g j = some a ∧ o = .ref a
theorem zrf {r : Option Nat} {a : Nat} (h : va_rf r = .ref a) : r = some a := by
  cases r with
  | none => simp [va_rf] at h
  | some b => simp [va_rf] at h; rw [h]
def zCa (U : State) : Prop := va_Nw (.castable "[I" "java/lang/Cloneable") U
theorem zCa_call {s : State} {H : Heap} (h : zCa s) : ∀ U : State, U.heap = H → s.WarmedH U.vm → zCa U := fun U _ hW => va_Nw.warmC hW h
def zPY (D : va_G) (ts : List (ClassId × FieldType)) (av : List Value) (sz : Nat) (ws : va_W) : Array Value → State → Prop := fun v U => zP D ts av sz ws v U ∧ zCa U
theorem zPYb {D : va_G} {ts : List (ClassId × FieldType)} {av : List Value} {sz : Nat} {ws : va_W} : FrameBlind (zPY D ts av sz ws) := fun a U g mk q => ⟨zPb a U g mk q.1, (show va_Nw (.castable "[I" "java/lang/Cloneable") U from q.2).same (u := U) rfl rfl⟩
theorem zPYS {D : va_G} {ts : List (ClassId × FieldType)} {As : List Value} {ws : va_W} {s : State} {H : Heap} {A : Nat → Prop} (hP : va_P D vwCl ws H) (hK : va_K D vwCl ts s) (hD : va_D A ws) (hC : ∀ U : State, U.heap = H → s.WarmedH U.vm → zCa U) : PreS s H (zPY D ts As H.size ws) As := ⟨zPYb, fun U hU hW => ⟨(zPS hP hK hD).2 U hU hW, hC U hU hW⟩⟩
theorem zPYV {D : va_G} {ts : List (ClassId × FieldType)} {As : List Value} {ws : va_W} {s : State} {H : Heap} {A : Nat → Prop} {C : String} {b : Addr} (hP : va_P D vwCl ws H) (hK : va_K D vwCl ts s) (hD : va_D A ws) (hr : ∃ cell : Cell, H[b]? = some cell ∧ cell.vm.isStatics = false ∧ s.vm.findClass C = some cell.cls) (hC : ∀ U : State, U.heap = H → s.WarmedH U.vm → zCa U) : PreV s H C b (zPY D ts (.ref b :: As) H.size ws) As := ⟨zPYb, hr, fun U hU hW => ⟨(zPV hP hK hD hr).2.2 U hU hW, hC U hU hW⟩⟩
def zPZ (D : va_G) (ts : List (ClassId × FieldType)) (av : List Value) (sz : Nat) (ws : va_W) (A : Nat → Prop) : Array Value → State → Prop := fun v U => zPW D ts av sz ws A v U ∧ zCa U
theorem zPZb {D : va_G} {ts : List (ClassId × FieldType)} {av : List Value} {sz : Nat} {ws : va_W} {A : Nat → Prop} : FrameBlind (zPZ D ts av sz ws A) := fun a U g mk q => ⟨zPWb a U g mk q.1, (show va_Nw (.castable "[I" "java/lang/Cloneable") U from q.2).same (u := U) rfl rfl⟩
theorem zPZV {D : va_G} {ts : List (ClassId × FieldType)} {As : List Value} {ws : va_W} {s : State} {H : Heap} {A B : Nat → Prop} {C : String} {b : Addr} (hP : va_P D vwCl ws H) (hK : va_K D vwCl ts s) (hD : va_D A ws) (hr : ∃ cell : Cell, H[b]? = some cell ∧ cell.vm.isStatics = false ∧ s.vm.findClass C = some cell.cls) (hV : ∀ U : State, U.heap = H → s.WarmedH U.vm → zV B U) (hC : ∀ U : State, U.heap = H → s.WarmedH U.vm → zCa U) : PreV s H C b (zPZ D ts (.ref b :: As) H.size ws B) As := ⟨zPZb, hr, fun U hU hW => ⟨(zPWV hP hK hD hr hV).2.2 U hU hW, hC U hU hW⟩⟩
theorem zcpyI {f g : Nat → Int32} {n p : Int32} (e : g = va_cpy f (fun _ => 0) (0 : Int32).toNatClampNeg (0 : Int32).toNatClampNeg n.toNatClampNeg) (h : p.toInt ≤ n.toInt) : ∀ i : Nat, (i : Int) < p.toInt → g i = f i := by
  intro i hi
  have nn : n.toNatClampNeg = n.toInt.toNat := rfl
  rw [show (0 : Int32).toNatClampNeg = 0 by decide, nn] at e
  rw [e, pk_cpy_in (by omega) (by omega), show 0 + (i - 0) = i by omega]
theorem zTok_cp {f u : Nat → Int32} {lk : Nat} {tk : List (Int × Int)} {p : Int32} (h : zTok f lk tk) (e : ∀ i : Nat, (i : Int) < p.toInt → u i = f i) (hp : (lk : Int) ≤ p.toInt) : zTok u lk tk := by
  refine ⟨h.1, fun i t ht => ?_⟩
  have hl : i < tk.length := by
    by_cases q : i < tk.length
    · exact q
    · rw [List.getElem?_eq_none (by omega)] at ht
      exact absurd ht (by simp)
  have h1 := h.1
  rw [e i (by omega)]
  exact h.2 i t ht
theorem zSt_cpy {f g : Nat → Int32} {n : Nat} (h : zSt f) (e : g = va_cpy f (fun _ => 0) (0 : Int32).toNatClampNeg (0 : Int32).toNatClampNeg n) : zSt g := by
  intro j hj
  have z0 : (0 : Int32).toNatClampNeg = 0 := by decide
  rw [e, z0] at hj ⊢
  by_cases q : 0 ≤ j ∧ j < 0 + n
  · simp only [va_cpy, if_pos q] at hj ⊢
    exact h _ hj
  · simp only [va_cpy, if_neg q] at hj
    exact absurd hj (by decide)
set_option maxRecDepth 20000 in
theorem qz1 : Cond.methodLink RJ7 316 ⟨"[I", "clone", "()Ljava/lang/Object;"⟩ ∈ wA := (List.mem_filter.mpr ⟨zt2 (List.mem_of_getElem? (i := 224) (by decide +kernel)), (by decide +kernel)⟩)
set_option maxRecDepth 20000 in
theorem qz2 : Cond.sameMethod "[I" "java/lang/Object" "clone" "()Ljava/lang/Object;" ∈ wA := (List.mem_filter.mpr ⟨zt2 (List.mem_of_getElem? (i := 225) (by decide +kernel)), (by decide +kernel)⟩)
set_option maxRecDepth 20000 in
theorem qz3 : Cond.native ⟨"java/lang/Object", "clone", "()Ljava/lang/Object;"⟩ ∈ wA := (List.mem_filter.mpr ⟨zt2 (List.mem_of_getElem? (i := 226) (by decide +kernel)), (by decide +kernel)⟩)
set_option maxRecDepth 20000 in
theorem qz4 : Cond.instanceMethod ⟨"java/lang/Object", "clone", "()Ljava/lang/Object;"⟩ ∈ wA := (List.mem_filter.mpr ⟨zt2 (List.mem_of_getElem? (i := 227) (by decide +kernel)), (by decide +kernel)⟩)
set_option maxRecDepth 20000 in
theorem qz5 : Cond.selects "[I" ⟨"[I", "clone", "()Ljava/lang/Object;"⟩ ⟨"java/lang/Object", "clone", "()Ljava/lang/Object;"⟩ ∈ wA := (List.mem_filter.mpr ⟨zt2 (List.mem_of_getElem? (i := 228) (by decide +kernel)), (by decide +kernel)⟩)
set_option maxRecDepth 20000 in
theorem qz6 : Cond.classLink RJ7 317 "[I" ∈ wA := (List.mem_filter.mpr ⟨zt2 (List.mem_of_getElem? (i := 230) (by decide +kernel)), (by decide +kernel)⟩)
def zT1 (cI : ClassId) (lc lc' : Int32) (fq fq' : Nat → Option Nat) (pl : va_W) (t : (Int → Int) × Int) : Prop := (pl = [] ∧ lc' = lc ∧ fq' = fq) ∨ (lc.toInt ≤ 3 ∧ lc'.toInt = lc.toInt + 1 ∧ ∃ (a b n : Nat) (f : Nat → Int32), pl = [(a, .inr (4, [.ref b])), (b, .inl (cI, n, .inl f))] ∧ fq' = va_up fq lc.toNatClampNeg (some a) ∧ n ≤ 241 ∧ zSt f ∧ zLwC f n t)
