abbrev cX11_put : ByteArray := prog_13_method_12_code
def yX11_put : MethodName := ⟨RX11, "put", "(II)V"⟩
abbrev cX11_opens : ByteArray := prog_13_method_14_code
def yX11_opens : MethodName := ⟨RX11, "opens", "()V"⟩
abbrev cX11_closes : ByteArray := prog_13_method_15_code
def yX11_closes : MethodName := ⟨RX11, "closes", "(I)V"⟩
abbrev cX11_plainNumber : ByteArray := prog_13_method_16_code
def yX11_plainNumber : MethodName := ⟨RX11, "plainNumber", "()I"⟩
abbrev cX11_atom : ByteArray := prog_13_method_17_code
def yX11_atom : MethodName := ⟨RX11, "atom", "()V"⟩
abbrev cX11_term : ByteArray := prog_13_method_18_code
def yX11_term : MethodName := ⟨RX11, "term", "()V"⟩
abbrev cX11_sum : ByteArray := prog_13_method_19_code
def yX11_sum : MethodName := ⟨RX11, "sum", "()V"⟩
abbrev cX11_compare : ByteArray := prog_13_method_21_code
def yX11_compare : MethodName := ⟨RX11, "compare", "()V"⟩
abbrev cX11_unit : ByteArray := prog_13_method_22_code
def yX11_unit : MethodName := ⟨RX11, "unit", "()V"⟩
abbrev cX11_goOnAnd : ByteArray := prog_13_method_23_code
def yX11_goOnAnd : MethodName := ⟨RX11, "goOnAnd", "()V"⟩
abbrev cX11_goOnOr : ByteArray := prog_13_method_24_code
def yX11_goOnOr : MethodName := ⟨RX11, "goOnOr", "()V"⟩
abbrev cX11_condition : ByteArray := prog_13_method_25_code
def yX11_condition : MethodName := ⟨RX11, "condition", "()V"⟩
abbrev cX11_clause : ByteArray := prog_13_method_26_code
def yX11_clause : MethodName := ⟨RX11, "clause", "()V"⟩
abbrev cX11_open : ByteArray := prog_13_method_27_code
def yX11_open : MethodName := ⟨RX11, "open", "(I)V"⟩
abbrev cX11_atEnd : ByteArray := prog_13_method_28_code
def yX11_atEnd : MethodName := ⟨RX11, "atEnd", "()I"⟩
abbrev cX11_readLaw : ByteArray := prog_13_method_29_code
def yX11_readLaw : MethodName := ⟨RX11, "readLaw", "(I)I"⟩
theorem dX11_put_0 : decode cX11_put 0 = .ok (.aload_n 0, 1) := by decide +kernel
theorem dX11_put_1 : decode cX11_put 1 = .ok (.getfield 13, 3) := by decide +kernel
theorem dX11_put_4 : decode cX11_put 4 = .ok (.sipush 520, 3) := by decide +kernel
theorem dX11_put_7 : decode cX11_put 7 = .ok (.aload_n 0, 1) := by decide +kernel
theorem dX11_put_8 : decode cX11_put 8 = .ok (.getfield 103, 3) := by decide +kernel
theorem dX11_put_11 : decode cX11_put 11 = .ok (.imul, 1) := by decide +kernel
theorem dX11_put_12 : decode cX11_put 12 = .ok (.aload_n 0, 1) := by decide +kernel
theorem dX11_put_13 : decode cX11_put 13 = .ok (.getfield 19, 3) := by decide +kernel
theorem dX11_put_16 : decode cX11_put 16 = .ok (.aload_n 0, 1) := by decide +kernel
theorem dX11_put_17 : decode cX11_put 17 = .ok (.getfield 103, 3) := by decide +kernel
theorem dX11_put_20 : decode cX11_put 20 = .ok (.iaload, 1) := by decide +kernel
theorem dX11_put_21 : decode cX11_put 21 = .ok (.iadd, 1) := by decide +kernel
theorem dX11_put_22 : decode cX11_put 22 = .ok (.iload_n 1, 1) := by decide +kernel
theorem dX11_put_23 : decode cX11_put 23 = .ok (.iastore, 1) := by decide +kernel
theorem dX11_put_24 : decode cX11_put 24 = .ok (.aload_n 0, 1) := by decide +kernel
theorem dX11_put_25 : decode cX11_put 25 = .ok (.getfield 16, 3) := by decide +kernel
theorem dX11_put_28 : decode cX11_put 28 = .ok (.sipush 520, 3) := by decide +kernel
theorem dX11_put_31 : decode cX11_put 31 = .ok (.aload_n 0, 1) := by decide +kernel
theorem dX11_put_32 : decode cX11_put 32 = .ok (.getfield 103, 3) := by decide +kernel
theorem dX11_put_35 : decode cX11_put 35 = .ok (.imul, 1) := by decide +kernel
theorem dX11_put_36 : decode cX11_put 36 = .ok (.aload_n 0, 1) := by decide +kernel
theorem dX11_put_37 : decode cX11_put 37 = .ok (.getfield 19, 3) := by decide +kernel
theorem dX11_put_40 : decode cX11_put 40 = .ok (.aload_n 0, 1) := by decide +kernel
theorem dX11_put_41 : decode cX11_put 41 = .ok (.getfield 103, 3) := by decide +kernel
theorem dX11_put_44 : decode cX11_put 44 = .ok (.iaload, 1) := by decide +kernel
theorem dX11_put_45 : decode cX11_put 45 = .ok (.iadd, 1) := by decide +kernel
theorem dX11_put_46 : decode cX11_put 46 = .ok (.iload_n 2, 1) := by decide +kernel
theorem dX11_put_47 : decode cX11_put 47 = .ok (.iastore, 1) := by decide +kernel
theorem dX11_put_48 : decode cX11_put 48 = .ok (.aload_n 0, 1) := by decide +kernel
theorem dX11_put_49 : decode cX11_put 49 = .ok (.getfield 19, 3) := by decide +kernel
theorem dX11_put_52 : decode cX11_put 52 = .ok (.aload_n 0, 1) := by decide +kernel
theorem dX11_put_53 : decode cX11_put 53 = .ok (.getfield 103, 3) := by decide +kernel
theorem dX11_put_56 : decode cX11_put 56 = .ok (.dup2, 1) := by decide +kernel
theorem dX11_put_57 : decode cX11_put 57 = .ok (.iaload, 1) := by decide +kernel
theorem dX11_put_58 : decode cX11_put 58 = .ok (.iconst 1, 1) := by decide +kernel
theorem dX11_put_59 : decode cX11_put 59 = .ok (.iadd, 1) := by decide +kernel
theorem dX11_put_60 : decode cX11_put 60 = .ok (.iastore, 1) := by decide +kernel
theorem dX11_put_61 : decode cX11_put 61 = .ok (.return_, 1) := by decide +kernel
theorem dX11_opens_0 : decode cX11_opens 0 = .ok (.aload_n 0, 1) := by decide +kernel
theorem dX11_opens_1 : decode cX11_opens 1 = .ok (.getfield 106, 3) := by decide +kernel
theorem dX11_opens_4 : decode cX11_opens 4 = .ok (.bipush 6, 2) := by decide +kernel
theorem dX11_opens_6 : decode cX11_opens 6 = .ok (.if_icmp .ne 7, 3) := by decide +kernel
theorem dX11_opens_9 : decode cX11_opens 9 = .ok (.aload_n 0, 1) := by decide +kernel
theorem dX11_opens_10 : decode cX11_opens 10 = .ok (.invokevirtual 109, 3) := by decide +kernel
theorem dX11_opens_13 : decode cX11_opens 13 = .ok (.aload_n 0, 1) := by decide +kernel
theorem dX11_opens_14 : decode cX11_opens 14 = .ok (.dup, 1) := by decide +kernel
theorem dX11_opens_15 : decode cX11_opens 15 = .ok (.getfield 106, 3) := by decide +kernel
theorem dX11_opens_18 : decode cX11_opens 18 = .ok (.iconst 1, 1) := by decide +kernel
theorem dX11_opens_19 : decode cX11_opens 19 = .ok (.iadd, 1) := by decide +kernel
theorem dX11_opens_20 : decode cX11_opens 20 = .ok (.putfield 106, 3) := by decide +kernel
theorem dX11_opens_23 : decode cX11_opens 23 = .ok (.aload_n 0, 1) := by decide +kernel
theorem dX11_opens_24 : decode cX11_opens 24 = .ok (.dup, 1) := by decide +kernel
theorem dX11_opens_25 : decode cX11_opens 25 = .ok (.getfield 93, 3) := by decide +kernel
theorem dX11_opens_28 : decode cX11_opens 28 = .ok (.iconst 1, 1) := by decide +kernel
theorem dX11_opens_29 : decode cX11_opens 29 = .ok (.iadd, 1) := by decide +kernel
theorem dX11_opens_30 : decode cX11_opens 30 = .ok (.putfield 93, 3) := by decide +kernel
theorem dX11_opens_33 : decode cX11_opens 33 = .ok (.return_, 1) := by decide +kernel
theorem dX11_closes_0 : decode cX11_closes 0 = .ok (.aload_n 0, 1) := by decide +kernel
theorem dX11_closes_1 : decode cX11_closes 1 = .ok (.getfield 100, 3) := by decide +kernel
theorem dX11_closes_4 : decode cX11_closes 4 = .ok (.iconst (-1), 1) := by decide +kernel
theorem dX11_closes_5 : decode cX11_closes 5 = .ok (.if_icmp .ne 15, 3) := by decide +kernel
theorem dX11_closes_8 : decode cX11_closes 8 = .ok (.aload_n 0, 1) := by decide +kernel
theorem dX11_closes_9 : decode cX11_closes 9 = .ok (.invokevirtual 112, 3) := by decide +kernel
theorem dX11_closes_12 : decode cX11_closes 12 = .ok (.iload_n 1, 1) := by decide +kernel
theorem dX11_closes_13 : decode cX11_closes 13 = .ok (.if_icmp .eq 7, 3) := by decide +kernel
theorem dX11_closes_16 : decode cX11_closes 16 = .ok (.aload_n 0, 1) := by decide +kernel
theorem dX11_closes_17 : decode cX11_closes 17 = .ok (.invokevirtual 109, 3) := by decide +kernel
theorem dX11_closes_20 : decode cX11_closes 20 = .ok (.aload_n 0, 1) := by decide +kernel
theorem dX11_closes_21 : decode cX11_closes 21 = .ok (.dup, 1) := by decide +kernel
theorem dX11_closes_22 : decode cX11_closes 22 = .ok (.getfield 93, 3) := by decide +kernel
theorem dX11_closes_25 : decode cX11_closes 25 = .ok (.iconst 1, 1) := by decide +kernel
theorem dX11_closes_26 : decode cX11_closes 26 = .ok (.iadd, 1) := by decide +kernel
theorem dX11_closes_27 : decode cX11_closes 27 = .ok (.putfield 93, 3) := by decide +kernel
theorem dX11_closes_30 : decode cX11_closes 30 = .ok (.aload_n 0, 1) := by decide +kernel
theorem dX11_closes_31 : decode cX11_closes 31 = .ok (.dup, 1) := by decide +kernel
theorem dX11_closes_32 : decode cX11_closes 32 = .ok (.getfield 106, 3) := by decide +kernel
theorem dX11_closes_35 : decode cX11_closes 35 = .ok (.iconst 1, 1) := by decide +kernel
theorem dX11_closes_36 : decode cX11_closes 36 = .ok (.isub, 1) := by decide +kernel
theorem dX11_closes_37 : decode cX11_closes 37 = .ok (.putfield 106, 3) := by decide +kernel
theorem dX11_closes_40 : decode cX11_closes 40 = .ok (.return_, 1) := by decide +kernel
theorem dX11_plainNumber_0 : decode cX11_plainNumber 0 = .ok (.iconst 0, 1) := by decide +kernel
theorem dX11_plainNumber_1 : decode cX11_plainNumber 1 = .ok (.istore_n 1, 1) := by decide +kernel
theorem dX11_plainNumber_2 : decode cX11_plainNumber 2 = .ok (.iconst 0, 1) := by decide +kernel
theorem dX11_plainNumber_3 : decode cX11_plainNumber 3 = .ok (.istore_n 2, 1) := by decide +kernel
theorem dX11_plainNumber_4 : decode cX11_plainNumber 4 = .ok (.iload_n 2, 1) := by decide +kernel
theorem dX11_plainNumber_5 : decode cX11_plainNumber 5 = .ok (.iconst 4, 1) := by decide +kernel
theorem dX11_plainNumber_6 : decode cX11_plainNumber 6 = .ok (.if_icmp .ge 42, 3) := by decide +kernel
theorem dX11_plainNumber_9 : decode cX11_plainNumber 9 = .ok (.aload_n 0, 1) := by decide +kernel
theorem dX11_plainNumber_10 : decode cX11_plainNumber 10 = .ok (.invokevirtual 96, 3) := by decide +kernel
theorem dX11_plainNumber_13 : decode cX11_plainNumber 13 = .ok (.invokestatic 115, 3) := by decide +kernel
theorem dX11_plainNumber_16 : decode cX11_plainNumber 16 = .ok (.ifCond .eq 32, 3) := by decide +kernel
theorem dX11_plainNumber_19 : decode cX11_plainNumber 19 = .ok (.bipush 10, 2) := by decide +kernel
theorem dX11_plainNumber_21 : decode cX11_plainNumber 21 = .ok (.iload_n 1, 1) := by decide +kernel
theorem dX11_plainNumber_22 : decode cX11_plainNumber 22 = .ok (.imul, 1) := by decide +kernel
theorem dX11_plainNumber_23 : decode cX11_plainNumber 23 = .ok (.aload_n 0, 1) := by decide +kernel
theorem dX11_plainNumber_24 : decode cX11_plainNumber 24 = .ok (.invokevirtual 96, 3) := by decide +kernel
theorem dX11_plainNumber_27 : decode cX11_plainNumber 27 = .ok (.iadd, 1) := by decide +kernel
theorem dX11_plainNumber_28 : decode cX11_plainNumber 28 = .ok (.bipush 48, 2) := by decide +kernel
theorem dX11_plainNumber_30 : decode cX11_plainNumber 30 = .ok (.isub, 1) := by decide +kernel
theorem dX11_plainNumber_31 : decode cX11_plainNumber 31 = .ok (.istore_n 1, 1) := by decide +kernel
theorem dX11_plainNumber_32 : decode cX11_plainNumber 32 = .ok (.aload_n 0, 1) := by decide +kernel
theorem dX11_plainNumber_33 : decode cX11_plainNumber 33 = .ok (.dup, 1) := by decide +kernel
theorem dX11_plainNumber_34 : decode cX11_plainNumber 34 = .ok (.getfield 93, 3) := by decide +kernel
theorem dX11_plainNumber_37 : decode cX11_plainNumber 37 = .ok (.iconst 1, 1) := by decide +kernel
theorem dX11_plainNumber_38 : decode cX11_plainNumber 38 = .ok (.iadd, 1) := by decide +kernel
theorem dX11_plainNumber_39 : decode cX11_plainNumber 39 = .ok (.putfield 93, 3) := by decide +kernel
theorem dX11_plainNumber_42 : decode cX11_plainNumber 42 = .ok (.iinc 2 1, 3) := by decide +kernel
theorem dX11_plainNumber_45 : decode cX11_plainNumber 45 = .ok (.goto (-41), 3) := by decide +kernel
theorem dX11_plainNumber_48 : decode cX11_plainNumber 48 = .ok (.aload_n 0, 1) := by decide +kernel
theorem dX11_plainNumber_49 : decode cX11_plainNumber 49 = .ok (.invokevirtual 96, 3) := by decide +kernel
theorem dX11_plainNumber_52 : decode cX11_plainNumber 52 = .ok (.invokestatic 115, 3) := by decide +kernel
theorem dX11_plainNumber_55 : decode cX11_plainNumber 55 = .ok (.ifCond .eq 7, 3) := by decide +kernel
theorem dX11_plainNumber_58 : decode cX11_plainNumber 58 = .ok (.aload_n 0, 1) := by decide +kernel
theorem dX11_plainNumber_59 : decode cX11_plainNumber 59 = .ok (.invokevirtual 109, 3) := by decide +kernel
theorem dX11_plainNumber_62 : decode cX11_plainNumber 62 = .ok (.iload_n 1, 1) := by decide +kernel
theorem dX11_plainNumber_63 : decode cX11_plainNumber 63 = .ok (.ireturn, 1) := by decide +kernel
theorem dX11_atom_0 : decode cX11_atom 0 = .ok (.aload_n 0, 1) := by decide +kernel
theorem dX11_atom_1 : decode cX11_atom 1 = .ok (.invokevirtual 112, 3) := by decide +kernel
theorem dX11_atom_4 : decode cX11_atom 4 = .ok (.istore_n 1, 1) := by decide +kernel
theorem dX11_atom_5 : decode cX11_atom 5 = .ok (.iload_n 1, 1) := by decide +kernel
theorem dX11_atom_6 : decode cX11_atom 6 = .ok (.invokestatic 115, 3) := by decide +kernel
theorem dX11_atom_9 : decode cX11_atom 9 = .ok (.ifCond .eq 15, 3) := by decide +kernel
theorem dX11_atom_12 : decode cX11_atom 12 = .ok (.aload_n 0, 1) := by decide +kernel
theorem dX11_atom_13 : decode cX11_atom 13 = .ok (.iconst 0, 1) := by decide +kernel
theorem dX11_atom_14 : decode cX11_atom 14 = .ok (.aload_n 0, 1) := by decide +kernel
theorem dX11_atom_15 : decode cX11_atom 15 = .ok (.invokevirtual 119, 3) := by decide +kernel
theorem dX11_atom_18 : decode cX11_atom 18 = .ok (.invokevirtual 122, 3) := by decide +kernel
theorem dX11_atom_21 : decode cX11_atom 21 = .ok (.goto 68, 3) := by decide +kernel
theorem dX11_atom_24 : decode cX11_atom 24 = .ok (.iload_n 1, 1) := by decide +kernel
theorem dX11_atom_25 : decode cX11_atom 25 = .ok (.invokestatic 126, 3) := by decide +kernel
theorem dX11_atom_28 : decode cX11_atom 28 = .ok (.iconst (-1), 1) := by decide +kernel
theorem dX11_atom_29 : decode cX11_atom 29 = .ok (.if_icmp .eq 25, 3) := by decide +kernel
theorem dX11_atom_32 : decode cX11_atom 32 = .ok (.aload_n 0, 1) := by decide +kernel
theorem dX11_atom_33 : decode cX11_atom 33 = .ok (.dup, 1) := by decide +kernel
theorem dX11_atom_34 : decode cX11_atom 34 = .ok (.getfield 93, 3) := by decide +kernel
theorem dX11_atom_37 : decode cX11_atom 37 = .ok (.iconst 1, 1) := by decide +kernel
theorem dX11_atom_38 : decode cX11_atom 38 = .ok (.iadd, 1) := by decide +kernel
theorem dX11_atom_39 : decode cX11_atom 39 = .ok (.putfield 93, 3) := by decide +kernel
theorem dX11_atom_42 : decode cX11_atom 42 = .ok (.aload_n 0, 1) := by decide +kernel
theorem dX11_atom_43 : decode cX11_atom 43 = .ok (.iconst 1, 1) := by decide +kernel
theorem dX11_atom_44 : decode cX11_atom 44 = .ok (.iload_n 1, 1) := by decide +kernel
theorem dX11_atom_45 : decode cX11_atom 45 = .ok (.invokestatic 126, 3) := by decide +kernel
theorem dX11_atom_48 : decode cX11_atom 48 = .ok (.invokevirtual 122, 3) := by decide +kernel
theorem dX11_atom_51 : decode cX11_atom 51 = .ok (.goto 38, 3) := by decide +kernel
theorem dX11_atom_54 : decode cX11_atom 54 = .ok (.iload_n 1, 1) := by decide +kernel
theorem dX11_atom_55 : decode cX11_atom 55 = .ok (.bipush 91, 2) := by decide +kernel
theorem dX11_atom_57 : decode cX11_atom 57 = .ok (.if_icmp .ne 28, 3) := by decide +kernel
theorem dX11_atom_60 : decode cX11_atom 60 = .ok (.aload_n 0, 1) := by decide +kernel
theorem dX11_atom_61 : decode cX11_atom 61 = .ok (.invokevirtual 130, 3) := by decide +kernel
theorem dX11_atom_64 : decode cX11_atom 64 = .ok (.aload_n 0, 1) := by decide +kernel
theorem dX11_atom_65 : decode cX11_atom 65 = .ok (.getfield 100, 3) := by decide +kernel
theorem dX11_atom_68 : decode cX11_atom 68 = .ok (.iconst (-1), 1) := by decide +kernel
theorem dX11_atom_69 : decode cX11_atom 69 = .ok (.if_icmp .ne 20, 3) := by decide +kernel
theorem dX11_atom_72 : decode cX11_atom 72 = .ok (.aload_n 0, 1) := by decide +kernel
theorem dX11_atom_73 : decode cX11_atom 73 = .ok (.invokevirtual 133, 3) := by decide +kernel
theorem dX11_atom_76 : decode cX11_atom 76 = .ok (.aload_n 0, 1) := by decide +kernel
theorem dX11_atom_77 : decode cX11_atom 77 = .ok (.bipush 93, 2) := by decide +kernel
theorem dX11_atom_79 : decode cX11_atom 79 = .ok (.invokevirtual 136, 3) := by decide +kernel
theorem dX11_atom_82 : decode cX11_atom 82 = .ok (.goto 7, 3) := by decide +kernel
theorem dX11_atom_85 : decode cX11_atom 85 = .ok (.aload_n 0, 1) := by decide +kernel
theorem dX11_atom_86 : decode cX11_atom 86 = .ok (.invokevirtual 109, 3) := by decide +kernel
theorem dX11_atom_89 : decode cX11_atom 89 = .ok (.return_, 1) := by decide +kernel
theorem dX11_term_0 : decode cX11_term 0 = .ok (.aload_n 0, 1) := by decide +kernel
theorem dX11_term_1 : decode cX11_term 1 = .ok (.invokevirtual 140, 3) := by decide +kernel
theorem dX11_term_4 : decode cX11_term 4 = .ok (.aload_n 0, 1) := by decide +kernel
theorem dX11_term_5 : decode cX11_term 5 = .ok (.getfield 100, 3) := by decide +kernel
theorem dX11_term_8 : decode cX11_term 8 = .ok (.iconst (-1), 1) := by decide +kernel
theorem dX11_term_9 : decode cX11_term 9 = .ok (.if_icmp .ne 10, 3) := by decide +kernel
theorem dX11_term_12 : decode cX11_term 12 = .ok (.aload_n 0, 1) := by decide +kernel
theorem dX11_term_13 : decode cX11_term 13 = .ok (.invokevirtual 112, 3) := by decide +kernel
theorem dX11_term_16 : decode cX11_term 16 = .ok (.goto 4, 3) := by decide +kernel
theorem dX11_term_19 : decode cX11_term 19 = .ok (.iconst (-1), 1) := by decide +kernel
theorem dX11_term_20 : decode cX11_term 20 = .ok (.istore_n 1, 1) := by decide +kernel
theorem dX11_term_21 : decode cX11_term 21 = .ok (.iload_n 1, 1) := by decide +kernel
theorem dX11_term_22 : decode cX11_term 22 = .ok (.bipush 42, 2) := by decide +kernel
theorem dX11_term_24 : decode cX11_term 24 = .ok (.if_icmp .eq 9, 3) := by decide +kernel
theorem dX11_term_27 : decode cX11_term 27 = .ok (.iload_n 1, 1) := by decide +kernel
theorem dX11_term_28 : decode cX11_term 28 = .ok (.bipush 47, 2) := by decide +kernel
theorem dX11_term_30 : decode cX11_term 30 = .ok (.if_icmp .ne 53, 3) := by decide +kernel
theorem dX11_term_33 : decode cX11_term 33 = .ok (.aload_n 0, 1) := by decide +kernel
theorem dX11_term_34 : decode cX11_term 34 = .ok (.dup, 1) := by decide +kernel
theorem dX11_term_35 : decode cX11_term 35 = .ok (.getfield 93, 3) := by decide +kernel
theorem dX11_term_38 : decode cX11_term 38 = .ok (.iconst 1, 1) := by decide +kernel
theorem dX11_term_39 : decode cX11_term 39 = .ok (.iadd, 1) := by decide +kernel
theorem dX11_term_40 : decode cX11_term 40 = .ok (.putfield 93, 3) := by decide +kernel
theorem dX11_term_43 : decode cX11_term 43 = .ok (.aload_n 0, 1) := by decide +kernel
theorem dX11_term_44 : decode cX11_term 44 = .ok (.invokevirtual 140, 3) := by decide +kernel
theorem dX11_term_47 : decode cX11_term 47 = .ok (.aload_n 0, 1) := by decide +kernel
theorem dX11_term_48 : decode cX11_term 48 = .ok (.iload_n 1, 1) := by decide +kernel
theorem dX11_term_49 : decode cX11_term 49 = .ok (.bipush 42, 2) := by decide +kernel
theorem dX11_term_51 : decode cX11_term 51 = .ok (.if_icmp .ne 7, 3) := by decide +kernel
theorem dX11_term_54 : decode cX11_term 54 = .ok (.iconst 4, 1) := by decide +kernel
theorem dX11_term_55 : decode cX11_term 55 = .ok (.goto 4, 3) := by decide +kernel
theorem dX11_term_58 : decode cX11_term 58 = .ok (.iconst 5, 1) := by decide +kernel
theorem dX11_term_59 : decode cX11_term 59 = .ok (.iconst 0, 1) := by decide +kernel
theorem dX11_term_60 : decode cX11_term 60 = .ok (.invokevirtual 122, 3) := by decide +kernel
theorem dX11_term_63 : decode cX11_term 63 = .ok (.aload_n 0, 1) := by decide +kernel
theorem dX11_term_64 : decode cX11_term 64 = .ok (.getfield 100, 3) := by decide +kernel
theorem dX11_term_67 : decode cX11_term 67 = .ok (.iconst (-1), 1) := by decide +kernel
theorem dX11_term_68 : decode cX11_term 68 = .ok (.if_icmp .ne 10, 3) := by decide +kernel
theorem dX11_term_71 : decode cX11_term 71 = .ok (.aload_n 0, 1) := by decide +kernel
theorem dX11_term_72 : decode cX11_term 72 = .ok (.invokevirtual 112, 3) := by decide +kernel
theorem dX11_term_75 : decode cX11_term 75 = .ok (.goto 4, 3) := by decide +kernel
theorem dX11_term_78 : decode cX11_term 78 = .ok (.iconst (-1), 1) := by decide +kernel
theorem dX11_term_79 : decode cX11_term 79 = .ok (.istore_n 1, 1) := by decide +kernel
theorem dX11_term_80 : decode cX11_term 80 = .ok (.goto (-59), 3) := by decide +kernel
theorem dX11_term_83 : decode cX11_term 83 = .ok (.return_, 1) := by decide +kernel
theorem dX11_sum_0 : decode cX11_sum 0 = .ok (.aload_n 0, 1) := by decide +kernel
theorem dX11_sum_1 : decode cX11_sum 1 = .ok (.invokevirtual 143, 3) := by decide +kernel
theorem dX11_sum_4 : decode cX11_sum 4 = .ok (.aload_n 0, 1) := by decide +kernel
theorem dX11_sum_5 : decode cX11_sum 5 = .ok (.getfield 100, 3) := by decide +kernel
theorem dX11_sum_8 : decode cX11_sum 8 = .ok (.iconst (-1), 1) := by decide +kernel
theorem dX11_sum_9 : decode cX11_sum 9 = .ok (.if_icmp .ne 10, 3) := by decide +kernel
theorem dX11_sum_12 : decode cX11_sum 12 = .ok (.aload_n 0, 1) := by decide +kernel
theorem dX11_sum_13 : decode cX11_sum 13 = .ok (.invokevirtual 112, 3) := by decide +kernel
theorem dX11_sum_16 : decode cX11_sum 16 = .ok (.goto 4, 3) := by decide +kernel
theorem dX11_sum_19 : decode cX11_sum 19 = .ok (.iconst (-1), 1) := by decide +kernel
theorem dX11_sum_20 : decode cX11_sum 20 = .ok (.istore_n 1, 1) := by decide +kernel
theorem dX11_sum_21 : decode cX11_sum 21 = .ok (.iload_n 1, 1) := by decide +kernel
theorem dX11_sum_22 : decode cX11_sum 22 = .ok (.bipush 43, 2) := by decide +kernel
theorem dX11_sum_24 : decode cX11_sum 24 = .ok (.if_icmp .eq 9, 3) := by decide +kernel
theorem dX11_sum_27 : decode cX11_sum 27 = .ok (.iload_n 1, 1) := by decide +kernel
theorem dX11_sum_28 : decode cX11_sum 28 = .ok (.bipush 45, 2) := by decide +kernel
theorem dX11_sum_30 : decode cX11_sum 30 = .ok (.if_icmp .ne 53, 3) := by decide +kernel
theorem dX11_sum_33 : decode cX11_sum 33 = .ok (.aload_n 0, 1) := by decide +kernel
theorem dX11_sum_34 : decode cX11_sum 34 = .ok (.dup, 1) := by decide +kernel
theorem dX11_sum_35 : decode cX11_sum 35 = .ok (.getfield 93, 3) := by decide +kernel
theorem dX11_sum_38 : decode cX11_sum 38 = .ok (.iconst 1, 1) := by decide +kernel
theorem dX11_sum_39 : decode cX11_sum 39 = .ok (.iadd, 1) := by decide +kernel
theorem dX11_sum_40 : decode cX11_sum 40 = .ok (.putfield 93, 3) := by decide +kernel
theorem dX11_sum_43 : decode cX11_sum 43 = .ok (.aload_n 0, 1) := by decide +kernel
theorem dX11_sum_44 : decode cX11_sum 44 = .ok (.invokevirtual 143, 3) := by decide +kernel
theorem dX11_sum_47 : decode cX11_sum 47 = .ok (.aload_n 0, 1) := by decide +kernel
theorem dX11_sum_48 : decode cX11_sum 48 = .ok (.iload_n 1, 1) := by decide +kernel
theorem dX11_sum_49 : decode cX11_sum 49 = .ok (.bipush 43, 2) := by decide +kernel
theorem dX11_sum_51 : decode cX11_sum 51 = .ok (.if_icmp .ne 7, 3) := by decide +kernel
theorem dX11_sum_54 : decode cX11_sum 54 = .ok (.iconst 2, 1) := by decide +kernel
theorem dX11_sum_55 : decode cX11_sum 55 = .ok (.goto 4, 3) := by decide +kernel
theorem dX11_sum_58 : decode cX11_sum 58 = .ok (.iconst 3, 1) := by decide +kernel
theorem dX11_sum_59 : decode cX11_sum 59 = .ok (.iconst 0, 1) := by decide +kernel
theorem dX11_sum_60 : decode cX11_sum 60 = .ok (.invokevirtual 122, 3) := by decide +kernel
theorem dX11_sum_63 : decode cX11_sum 63 = .ok (.aload_n 0, 1) := by decide +kernel
theorem dX11_sum_64 : decode cX11_sum 64 = .ok (.getfield 100, 3) := by decide +kernel
theorem dX11_sum_67 : decode cX11_sum 67 = .ok (.iconst (-1), 1) := by decide +kernel
theorem dX11_sum_68 : decode cX11_sum 68 = .ok (.if_icmp .ne 10, 3) := by decide +kernel
theorem dX11_sum_71 : decode cX11_sum 71 = .ok (.aload_n 0, 1) := by decide +kernel
theorem dX11_sum_72 : decode cX11_sum 72 = .ok (.invokevirtual 112, 3) := by decide +kernel
theorem dX11_sum_75 : decode cX11_sum 75 = .ok (.goto 4, 3) := by decide +kernel
theorem dX11_sum_78 : decode cX11_sum 78 = .ok (.iconst (-1), 1) := by decide +kernel
theorem dX11_sum_79 : decode cX11_sum 79 = .ok (.istore_n 1, 1) := by decide +kernel
theorem dX11_sum_80 : decode cX11_sum 80 = .ok (.goto (-59), 3) := by decide +kernel
theorem dX11_sum_83 : decode cX11_sum 83 = .ok (.return_, 1) := by decide +kernel
theorem dX11_compare_0 : decode cX11_compare 0 = .ok (.aload_n 0, 1) := by decide +kernel
theorem dX11_compare_1 : decode cX11_compare 1 = .ok (.getfield 100, 3) := by decide +kernel
theorem dX11_compare_4 : decode cX11_compare 4 = .ok (.iconst (-1), 1) := by decide +kernel
theorem dX11_compare_5 : decode cX11_compare 5 = .ok (.if_icmp .ne 10, 3) := by decide +kernel
theorem dX11_compare_8 : decode cX11_compare 8 = .ok (.aload_n 0, 1) := by decide +kernel
theorem dX11_compare_9 : decode cX11_compare 9 = .ok (.invokevirtual 112, 3) := by decide +kernel
theorem dX11_compare_12 : decode cX11_compare 12 = .ok (.goto 4, 3) := by decide +kernel
theorem dX11_compare_16 : decode cX11_compare 16 = .ok (.istore_n 1, 1) := by decide +kernel
theorem dX11_compare_17 : decode cX11_compare 17 = .ok (.iload_n 1, 1) := by decide +kernel
theorem dX11_compare_18 : decode cX11_compare 18 = .ok (.invokestatic 146, 3) := by decide +kernel
theorem dX11_compare_21 : decode cX11_compare 21 = .ok (.ifCond .ne 8, 3) := by decide +kernel
theorem dX11_compare_24 : decode cX11_compare 24 = .ok (.aload_n 0, 1) := by decide +kernel
theorem dX11_compare_25 : decode cX11_compare 25 = .ok (.invokevirtual 109, 3) := by decide +kernel
theorem dX11_compare_28 : decode cX11_compare 28 = .ok (.return_, 1) := by decide +kernel
theorem dX11_compare_29 : decode cX11_compare 29 = .ok (.aload_n 0, 1) := by decide +kernel
theorem dX11_compare_30 : decode cX11_compare 30 = .ok (.dup, 1) := by decide +kernel
theorem dX11_compare_31 : decode cX11_compare 31 = .ok (.getfield 93, 3) := by decide +kernel
theorem dX11_compare_34 : decode cX11_compare 34 = .ok (.iconst 1, 1) := by decide +kernel
theorem dX11_compare_35 : decode cX11_compare 35 = .ok (.iadd, 1) := by decide +kernel
theorem dX11_compare_36 : decode cX11_compare 36 = .ok (.putfield 93, 3) := by decide +kernel
theorem dX11_compare_39 : decode cX11_compare 39 = .ok (.aload_n 0, 1) := by decide +kernel
theorem dX11_compare_40 : decode cX11_compare 40 = .ok (.invokevirtual 133, 3) := by decide +kernel
theorem dX11_compare_43 : decode cX11_compare 43 = .ok (.aload_n 0, 1) := by decide +kernel
theorem dX11_compare_44 : decode cX11_compare 44 = .ok (.iload_n 1, 1) := by decide +kernel
theorem dX11_compare_45 : decode cX11_compare 45 = .ok (.bipush 61, 2) := by decide +kernel
theorem dX11_compare_47 : decode cX11_compare 47 = .ok (.if_icmp .ne 8, 3) := by decide +kernel
theorem dX11_compare_50 : decode cX11_compare 50 = .ok (.bipush 6, 2) := by decide +kernel
theorem dX11_compare_52 : decode cX11_compare 52 = .ok (.goto 16, 3) := by decide +kernel
theorem dX11_compare_55 : decode cX11_compare 55 = .ok (.iload_n 1, 1) := by decide +kernel
theorem dX11_compare_56 : decode cX11_compare 56 = .ok (.bipush 60, 2) := by decide +kernel
theorem dX11_compare_58 : decode cX11_compare 58 = .ok (.if_icmp .ne 8, 3) := by decide +kernel
theorem dX11_compare_61 : decode cX11_compare 61 = .ok (.bipush 7, 2) := by decide +kernel
theorem dX11_compare_63 : decode cX11_compare 63 = .ok (.goto 5, 3) := by decide +kernel
theorem dX11_compare_66 : decode cX11_compare 66 = .ok (.bipush 8, 2) := by decide +kernel
theorem dX11_compare_68 : decode cX11_compare 68 = .ok (.iconst 0, 1) := by decide +kernel
theorem dX11_compare_69 : decode cX11_compare 69 = .ok (.invokevirtual 122, 3) := by decide +kernel
theorem dX11_compare_72 : decode cX11_compare 72 = .ok (.return_, 1) := by decide +kernel
theorem dX11_unit_0 : decode cX11_unit 0 = .ok (.aload_n 0, 1) := by decide +kernel
theorem dX11_unit_1 : decode cX11_unit 1 = .ok (.invokevirtual 112, 3) := by decide +kernel
theorem dX11_unit_4 : decode cX11_unit 4 = .ok (.istore_n 1, 1) := by decide +kernel
theorem dX11_unit_5 : decode cX11_unit 5 = .ok (.iload_n 1, 1) := by decide +kernel
theorem dX11_unit_6 : decode cX11_unit 6 = .ok (.bipush 33, 2) := by decide +kernel
theorem dX11_unit_8 : decode cX11_unit 8 = .ok (.if_icmp .ne 39, 3) := by decide +kernel
theorem dX11_unit_11 : decode cX11_unit 11 = .ok (.aload_n 0, 1) := by decide +kernel
theorem dX11_unit_12 : decode cX11_unit 12 = .ok (.invokevirtual 130, 3) := by decide +kernel
theorem dX11_unit_15 : decode cX11_unit 15 = .ok (.aload_n 0, 1) := by decide +kernel
theorem dX11_unit_16 : decode cX11_unit 16 = .ok (.getfield 100, 3) := by decide +kernel
theorem dX11_unit_19 : decode cX11_unit 19 = .ok (.iconst (-1), 1) := by decide +kernel
theorem dX11_unit_20 : decode cX11_unit 20 = .ok (.if_icmp .ne 74, 3) := by decide +kernel
theorem dX11_unit_23 : decode cX11_unit 23 = .ok (.aload_n 0, 1) := by decide +kernel
theorem dX11_unit_24 : decode cX11_unit 24 = .ok (.invokevirtual 149, 3) := by decide +kernel
theorem dX11_unit_27 : decode cX11_unit 27 = .ok (.aload_n 0, 1) := by decide +kernel
theorem dX11_unit_28 : decode cX11_unit 28 = .ok (.bipush 9, 2) := by decide +kernel
theorem dX11_unit_30 : decode cX11_unit 30 = .ok (.iconst 0, 1) := by decide +kernel
theorem dX11_unit_31 : decode cX11_unit 31 = .ok (.invokevirtual 122, 3) := by decide +kernel
theorem dX11_unit_34 : decode cX11_unit 34 = .ok (.aload_n 0, 1) := by decide +kernel
theorem dX11_unit_35 : decode cX11_unit 35 = .ok (.dup, 1) := by decide +kernel
theorem dX11_unit_36 : decode cX11_unit 36 = .ok (.getfield 106, 3) := by decide +kernel
theorem dX11_unit_39 : decode cX11_unit 39 = .ok (.iconst 1, 1) := by decide +kernel
theorem dX11_unit_40 : decode cX11_unit 40 = .ok (.isub, 1) := by decide +kernel
theorem dX11_unit_41 : decode cX11_unit 41 = .ok (.putfield 106, 3) := by decide +kernel
theorem dX11_unit_44 : decode cX11_unit 44 = .ok (.goto 50, 3) := by decide +kernel
theorem dX11_unit_47 : decode cX11_unit 47 = .ok (.iload_n 1, 1) := by decide +kernel
theorem dX11_unit_48 : decode cX11_unit 48 = .ok (.bipush 40, 2) := by decide +kernel
theorem dX11_unit_50 : decode cX11_unit 50 = .ok (.if_icmp .ne 28, 3) := by decide +kernel
theorem dX11_unit_53 : decode cX11_unit 53 = .ok (.aload_n 0, 1) := by decide +kernel
theorem dX11_unit_54 : decode cX11_unit 54 = .ok (.invokevirtual 130, 3) := by decide +kernel
theorem dX11_unit_57 : decode cX11_unit 57 = .ok (.aload_n 0, 1) := by decide +kernel
theorem dX11_unit_58 : decode cX11_unit 58 = .ok (.getfield 100, 3) := by decide +kernel
theorem dX11_unit_61 : decode cX11_unit 61 = .ok (.iconst (-1), 1) := by decide +kernel
theorem dX11_unit_62 : decode cX11_unit 62 = .ok (.if_icmp .ne 32, 3) := by decide +kernel
theorem dX11_unit_65 : decode cX11_unit 65 = .ok (.aload_n 0, 1) := by decide +kernel
theorem dX11_unit_66 : decode cX11_unit 66 = .ok (.invokevirtual 152, 3) := by decide +kernel
theorem dX11_unit_69 : decode cX11_unit 69 = .ok (.aload_n 0, 1) := by decide +kernel
theorem dX11_unit_70 : decode cX11_unit 70 = .ok (.bipush 41, 2) := by decide +kernel
theorem dX11_unit_72 : decode cX11_unit 72 = .ok (.invokevirtual 136, 3) := by decide +kernel
theorem dX11_unit_75 : decode cX11_unit 75 = .ok (.goto 19, 3) := by decide +kernel
theorem dX11_unit_78 : decode cX11_unit 78 = .ok (.aload_n 0, 1) := by decide +kernel
theorem dX11_unit_79 : decode cX11_unit 79 = .ok (.invokevirtual 133, 3) := by decide +kernel
theorem dX11_unit_82 : decode cX11_unit 82 = .ok (.aload_n 0, 1) := by decide +kernel
theorem dX11_unit_83 : decode cX11_unit 83 = .ok (.getfield 100, 3) := by decide +kernel
theorem dX11_unit_86 : decode cX11_unit 86 = .ok (.iconst (-1), 1) := by decide +kernel
theorem dX11_unit_87 : decode cX11_unit 87 = .ok (.if_icmp .ne 7, 3) := by decide +kernel
theorem dX11_unit_90 : decode cX11_unit 90 = .ok (.aload_n 0, 1) := by decide +kernel
theorem dX11_unit_91 : decode cX11_unit 91 = .ok (.invokevirtual 155, 3) := by decide +kernel
theorem dX11_unit_94 : decode cX11_unit 94 = .ok (.return_, 1) := by decide +kernel
theorem dX11_goOnAnd_0 : decode cX11_goOnAnd 0 = .ok (.aload_n 0, 1) := by decide +kernel
theorem dX11_goOnAnd_1 : decode cX11_goOnAnd 1 = .ok (.getfield 100, 3) := by decide +kernel
theorem dX11_goOnAnd_4 : decode cX11_goOnAnd 4 = .ok (.iconst (-1), 1) := by decide +kernel
theorem dX11_goOnAnd_5 : decode cX11_goOnAnd 5 = .ok (.if_icmp .ne 36, 3) := by decide +kernel
theorem dX11_goOnAnd_8 : decode cX11_goOnAnd 8 = .ok (.aload_n 0, 1) := by decide +kernel
theorem dX11_goOnAnd_9 : decode cX11_goOnAnd 9 = .ok (.invokevirtual 112, 3) := by decide +kernel
theorem dX11_goOnAnd_12 : decode cX11_goOnAnd 12 = .ok (.bipush 38, 2) := by decide +kernel
theorem dX11_goOnAnd_14 : decode cX11_goOnAnd 14 = .ok (.if_icmp .ne 27, 3) := by decide +kernel
theorem dX11_goOnAnd_17 : decode cX11_goOnAnd 17 = .ok (.aload_n 0, 1) := by decide +kernel
theorem dX11_goOnAnd_18 : decode cX11_goOnAnd 18 = .ok (.dup, 1) := by decide +kernel
theorem dX11_goOnAnd_19 : decode cX11_goOnAnd 19 = .ok (.getfield 93, 3) := by decide +kernel
theorem dX11_goOnAnd_22 : decode cX11_goOnAnd 22 = .ok (.iconst 1, 1) := by decide +kernel
theorem dX11_goOnAnd_23 : decode cX11_goOnAnd 23 = .ok (.iadd, 1) := by decide +kernel
theorem dX11_goOnAnd_24 : decode cX11_goOnAnd 24 = .ok (.putfield 93, 3) := by decide +kernel
theorem dX11_goOnAnd_27 : decode cX11_goOnAnd 27 = .ok (.aload_n 0, 1) := by decide +kernel
theorem dX11_goOnAnd_28 : decode cX11_goOnAnd 28 = .ok (.invokevirtual 149, 3) := by decide +kernel
theorem dX11_goOnAnd_31 : decode cX11_goOnAnd 31 = .ok (.aload_n 0, 1) := by decide +kernel
theorem dX11_goOnAnd_32 : decode cX11_goOnAnd 32 = .ok (.bipush 10, 2) := by decide +kernel
theorem dX11_goOnAnd_34 : decode cX11_goOnAnd 34 = .ok (.iconst 0, 1) := by decide +kernel
theorem dX11_goOnAnd_35 : decode cX11_goOnAnd 35 = .ok (.invokevirtual 122, 3) := by decide +kernel
theorem dX11_goOnAnd_38 : decode cX11_goOnAnd 38 = .ok (.goto (-38), 3) := by decide +kernel
theorem dX11_goOnAnd_41 : decode cX11_goOnAnd 41 = .ok (.return_, 1) := by decide +kernel
theorem dX11_goOnOr_0 : decode cX11_goOnOr 0 = .ok (.aload_n 0, 1) := by decide +kernel
theorem dX11_goOnOr_1 : decode cX11_goOnOr 1 = .ok (.getfield 100, 3) := by decide +kernel
theorem dX11_goOnOr_4 : decode cX11_goOnOr 4 = .ok (.iconst (-1), 1) := by decide +kernel
theorem dX11_goOnOr_5 : decode cX11_goOnOr 5 = .ok (.if_icmp .ne 40, 3) := by decide +kernel
theorem dX11_goOnOr_8 : decode cX11_goOnOr 8 = .ok (.aload_n 0, 1) := by decide +kernel
theorem dX11_goOnOr_9 : decode cX11_goOnOr 9 = .ok (.invokevirtual 112, 3) := by decide +kernel
theorem dX11_goOnOr_12 : decode cX11_goOnOr 12 = .ok (.bipush 124, 2) := by decide +kernel
theorem dX11_goOnOr_14 : decode cX11_goOnOr 14 = .ok (.if_icmp .ne 31, 3) := by decide +kernel
theorem dX11_goOnOr_17 : decode cX11_goOnOr 17 = .ok (.aload_n 0, 1) := by decide +kernel
theorem dX11_goOnOr_18 : decode cX11_goOnOr 18 = .ok (.dup, 1) := by decide +kernel
theorem dX11_goOnOr_19 : decode cX11_goOnOr 19 = .ok (.getfield 93, 3) := by decide +kernel
theorem dX11_goOnOr_22 : decode cX11_goOnOr 22 = .ok (.iconst 1, 1) := by decide +kernel
theorem dX11_goOnOr_23 : decode cX11_goOnOr 23 = .ok (.iadd, 1) := by decide +kernel
theorem dX11_goOnOr_24 : decode cX11_goOnOr 24 = .ok (.putfield 93, 3) := by decide +kernel
theorem dX11_goOnOr_27 : decode cX11_goOnOr 27 = .ok (.aload_n 0, 1) := by decide +kernel
theorem dX11_goOnOr_28 : decode cX11_goOnOr 28 = .ok (.invokevirtual 149, 3) := by decide +kernel
theorem dX11_goOnOr_31 : decode cX11_goOnOr 31 = .ok (.aload_n 0, 1) := by decide +kernel
theorem dX11_goOnOr_32 : decode cX11_goOnOr 32 = .ok (.invokevirtual 158, 3) := by decide +kernel
theorem dX11_goOnOr_35 : decode cX11_goOnOr 35 = .ok (.aload_n 0, 1) := by decide +kernel
theorem dX11_goOnOr_36 : decode cX11_goOnOr 36 = .ok (.bipush 11, 2) := by decide +kernel
theorem dX11_goOnOr_38 : decode cX11_goOnOr 38 = .ok (.iconst 0, 1) := by decide +kernel
theorem dX11_goOnOr_39 : decode cX11_goOnOr 39 = .ok (.invokevirtual 122, 3) := by decide +kernel
theorem dX11_goOnOr_42 : decode cX11_goOnOr 42 = .ok (.goto (-42), 3) := by decide +kernel
theorem dX11_goOnOr_45 : decode cX11_goOnOr 45 = .ok (.return_, 1) := by decide +kernel
theorem dX11_condition_0 : decode cX11_condition 0 = .ok (.aload_n 0, 1) := by decide +kernel
theorem dX11_condition_1 : decode cX11_condition 1 = .ok (.invokevirtual 149, 3) := by decide +kernel
theorem dX11_condition_4 : decode cX11_condition 4 = .ok (.aload_n 0, 1) := by decide +kernel
theorem dX11_condition_5 : decode cX11_condition 5 = .ok (.invokevirtual 158, 3) := by decide +kernel
theorem dX11_condition_8 : decode cX11_condition 8 = .ok (.aload_n 0, 1) := by decide +kernel
theorem dX11_condition_9 : decode cX11_condition 9 = .ok (.invokevirtual 161, 3) := by decide +kernel
theorem dX11_condition_12 : decode cX11_condition 12 = .ok (.return_, 1) := by decide +kernel
theorem dX11_clause_0 : decode cX11_clause 0 = .ok (.sipush 140, 3) := by decide +kernel
theorem dX11_clause_3 : decode cX11_clause 3 = .ok (.aload_n 0, 1) := by decide +kernel
theorem dX11_clause_4 : decode cX11_clause 4 = .ok (.getfield 103, 3) := by decide +kernel
theorem dX11_clause_7 : decode cX11_clause 7 = .ok (.imul, 1) := by decide +kernel
theorem dX11_clause_8 : decode cX11_clause 8 = .ok (.aload_n 0, 1) := by decide +kernel
theorem dX11_clause_9 : decode cX11_clause 9 = .ok (.getfield 22, 3) := by decide +kernel
theorem dX11_clause_12 : decode cX11_clause 12 = .ok (.aload_n 0, 1) := by decide +kernel
theorem dX11_clause_13 : decode cX11_clause 13 = .ok (.getfield 103, 3) := by decide +kernel
theorem dX11_clause_16 : decode cX11_clause 16 = .ok (.iaload, 1) := by decide +kernel
theorem dX11_clause_17 : decode cX11_clause 17 = .ok (.iadd, 1) := by decide +kernel
theorem dX11_clause_18 : decode cX11_clause 18 = .ok (.istore_n 1, 1) := by decide +kernel
theorem dX11_clause_19 : decode cX11_clause 19 = .ok (.aload_n 0, 1) := by decide +kernel
theorem dX11_clause_20 : decode cX11_clause 20 = .ok (.getfield 100, 3) := by decide +kernel
theorem dX11_clause_23 : decode cX11_clause 23 = .ok (.iconst (-1), 1) := by decide +kernel
theorem dX11_clause_24 : decode cX11_clause 24 = .ok (.if_icmp .ne 16, 3) := by decide +kernel
theorem dX11_clause_27 : decode cX11_clause 27 = .ok (.aload_n 0, 1) := by decide +kernel
theorem dX11_clause_28 : decode cX11_clause 28 = .ok (.invokevirtual 112, 3) := by decide +kernel
theorem dX11_clause_31 : decode cX11_clause 31 = .ok (.bipush 121, 2) := by decide +kernel
theorem dX11_clause_33 : decode cX11_clause 33 = .ok (.if_icmp .eq 7, 3) := by decide +kernel
theorem dX11_clause_36 : decode cX11_clause 36 = .ok (.aload_n 0, 1) := by decide +kernel
theorem dX11_clause_37 : decode cX11_clause 37 = .ok (.invokevirtual 109, 3) := by decide +kernel
theorem dX11_clause_40 : decode cX11_clause 40 = .ok (.aload_n 0, 1) := by decide +kernel
theorem dX11_clause_41 : decode cX11_clause 41 = .ok (.dup, 1) := by decide +kernel
theorem dX11_clause_42 : decode cX11_clause 42 = .ok (.getfield 93, 3) := by decide +kernel
theorem dX11_clause_45 : decode cX11_clause 45 = .ok (.iconst 1, 1) := by decide +kernel
theorem dX11_clause_46 : decode cX11_clause 46 = .ok (.iadd, 1) := by decide +kernel
theorem dX11_clause_47 : decode cX11_clause 47 = .ok (.putfield 93, 3) := by decide +kernel
theorem dX11_clause_50 : decode cX11_clause 50 = .ok (.aload_n 0, 1) := by decide +kernel
theorem dX11_clause_51 : decode cX11_clause 51 = .ok (.getfield 100, 3) := by decide +kernel
theorem dX11_clause_54 : decode cX11_clause 54 = .ok (.iconst (-1), 1) := by decide +kernel
theorem dX11_clause_55 : decode cX11_clause 55 = .ok (.if_icmp .ne 16, 3) := by decide +kernel
theorem dX11_clause_58 : decode cX11_clause 58 = .ok (.aload_n 0, 1) := by decide +kernel
theorem dX11_clause_59 : decode cX11_clause 59 = .ok (.invokevirtual 112, 3) := by decide +kernel
theorem dX11_clause_62 : decode cX11_clause 62 = .ok (.bipush 58, 2) := by decide +kernel
theorem dX11_clause_64 : decode cX11_clause 64 = .ok (.if_icmp .eq 7, 3) := by decide +kernel
theorem dX11_clause_67 : decode cX11_clause 67 = .ok (.aload_n 0, 1) := by decide +kernel
theorem dX11_clause_68 : decode cX11_clause 68 = .ok (.invokevirtual 109, 3) := by decide +kernel
theorem dX11_clause_71 : decode cX11_clause 71 = .ok (.aload_n 0, 1) := by decide +kernel
theorem dX11_clause_72 : decode cX11_clause 72 = .ok (.dup, 1) := by decide +kernel
theorem dX11_clause_73 : decode cX11_clause 73 = .ok (.getfield 93, 3) := by decide +kernel
theorem dX11_clause_76 : decode cX11_clause 76 = .ok (.iconst 1, 1) := by decide +kernel
theorem dX11_clause_77 : decode cX11_clause 77 = .ok (.iadd, 1) := by decide +kernel
theorem dX11_clause_78 : decode cX11_clause 78 = .ok (.putfield 93, 3) := by decide +kernel
theorem dX11_clause_81 : decode cX11_clause 81 = .ok (.aload_n 0, 1) := by decide +kernel
theorem dX11_clause_82 : decode cX11_clause 82 = .ok (.getfield 100, 3) := by decide +kernel
theorem dX11_clause_85 : decode cX11_clause 85 = .ok (.iconst (-1), 1) := by decide +kernel
theorem dX11_clause_86 : decode cX11_clause 86 = .ok (.if_icmp .eq 4, 3) := by decide +kernel
theorem dX11_clause_89 : decode cX11_clause 89 = .ok (.return_, 1) := by decide +kernel
theorem dX11_clause_90 : decode cX11_clause 90 = .ok (.aload_n 0, 1) := by decide +kernel
theorem dX11_clause_91 : decode cX11_clause 91 = .ok (.getfield 25, 3) := by decide +kernel
theorem dX11_clause_94 : decode cX11_clause 94 = .ok (.iload_n 1, 1) := by decide +kernel
theorem dX11_clause_95 : decode cX11_clause 95 = .ok (.aload_n 0, 1) := by decide +kernel
theorem dX11_clause_96 : decode cX11_clause 96 = .ok (.getfield 19, 3) := by decide +kernel
theorem dX11_clause_99 : decode cX11_clause 99 = .ok (.aload_n 0, 1) := by decide +kernel
theorem dX11_clause_100 : decode cX11_clause 100 = .ok (.getfield 103, 3) := by decide +kernel
theorem dX11_clause_103 : decode cX11_clause 103 = .ok (.iaload, 1) := by decide +kernel
theorem dX11_clause_104 : decode cX11_clause 104 = .ok (.iastore, 1) := by decide +kernel
theorem dX11_clause_105 : decode cX11_clause 105 = .ok (.aload_n 0, 1) := by decide +kernel
theorem dX11_clause_106 : decode cX11_clause 106 = .ok (.invokevirtual 112, 3) := by decide +kernel
theorem dX11_clause_109 : decode cX11_clause 109 = .ok (.bipush 33, 2) := by decide +kernel
theorem dX11_clause_111 : decode cX11_clause 111 = .ok (.if_icmp .eq 12, 3) := by decide +kernel
theorem dX11_clause_114 : decode cX11_clause 114 = .ok (.aload_n 0, 1) := by decide +kernel
theorem dX11_clause_115 : decode cX11_clause 115 = .ok (.invokevirtual 112, 3) := by decide +kernel
theorem dX11_clause_118 : decode cX11_clause 118 = .ok (.bipush 40, 2) := by decide +kernel
theorem dX11_clause_120 : decode cX11_clause 120 = .ok (.if_icmp .ne 7, 3) := by decide +kernel
theorem dX11_clause_123 : decode cX11_clause 123 = .ok (.iconst 1, 1) := by decide +kernel
theorem dX11_clause_124 : decode cX11_clause 124 = .ok (.goto 4, 3) := by decide +kernel
theorem dX11_clause_127 : decode cX11_clause 127 = .ok (.iconst 0, 1) := by decide +kernel
theorem dX11_clause_128 : decode cX11_clause 128 = .ok (.istore_n 2, 1) := by decide +kernel
theorem dX11_clause_129 : decode cX11_clause 129 = .ok (.iload_n 2, 1) := by decide +kernel
theorem dX11_clause_130 : decode cX11_clause 130 = .ok (.ifCond .eq 10, 3) := by decide +kernel
theorem dX11_clause_133 : decode cX11_clause 133 = .ok (.aload_n 0, 1) := by decide +kernel
theorem dX11_clause_134 : decode cX11_clause 134 = .ok (.invokevirtual 152, 3) := by decide +kernel
theorem dX11_clause_137 : decode cX11_clause 137 = .ok (.goto 47, 3) := by decide +kernel
theorem dX11_clause_140 : decode cX11_clause 140 = .ok (.aload_n 0, 1) := by decide +kernel
theorem dX11_clause_141 : decode cX11_clause 141 = .ok (.invokevirtual 133, 3) := by decide +kernel
theorem dX11_clause_144 : decode cX11_clause 144 = .ok (.aload_n 0, 1) := by decide +kernel
theorem dX11_clause_145 : decode cX11_clause 145 = .ok (.getfield 100, 3) := by decide +kernel
theorem dX11_clause_148 : decode cX11_clause 148 = .ok (.iconst (-1), 1) := by decide +kernel
theorem dX11_clause_149 : decode cX11_clause 149 = .ok (.if_icmp .ne 17, 3) := by decide +kernel
theorem dX11_clause_152 : decode cX11_clause 152 = .ok (.aload_n 0, 1) := by decide +kernel
theorem dX11_clause_153 : decode cX11_clause 153 = .ok (.invokevirtual 112, 3) := by decide +kernel
theorem dX11_clause_156 : decode cX11_clause 156 = .ok (.invokestatic 146, 3) := by decide +kernel
theorem dX11_clause_159 : decode cX11_clause 159 = .ok (.ifCond .eq 7, 3) := by decide +kernel
theorem dX11_clause_162 : decode cX11_clause 162 = .ok (.iconst 1, 1) := by decide +kernel
theorem dX11_clause_163 : decode cX11_clause 163 = .ok (.goto 4, 3) := by decide +kernel
theorem dX11_clause_166 : decode cX11_clause 166 = .ok (.iconst 0, 1) := by decide +kernel
theorem dX11_clause_167 : decode cX11_clause 167 = .ok (.istore_n 2, 1) := by decide +kernel
theorem dX11_clause_168 : decode cX11_clause 168 = .ok (.iload_n 2, 1) := by decide +kernel
theorem dX11_clause_169 : decode cX11_clause 169 = .ok (.ifCond .eq 15, 3) := by decide +kernel
theorem dX11_clause_172 : decode cX11_clause 172 = .ok (.aload_n 0, 1) := by decide +kernel
theorem dX11_clause_173 : decode cX11_clause 173 = .ok (.invokevirtual 155, 3) := by decide +kernel
theorem dX11_clause_176 : decode cX11_clause 176 = .ok (.aload_n 0, 1) := by decide +kernel
theorem dX11_clause_177 : decode cX11_clause 177 = .ok (.invokevirtual 158, 3) := by decide +kernel
theorem dX11_clause_180 : decode cX11_clause 180 = .ok (.aload_n 0, 1) := by decide +kernel
theorem dX11_clause_181 : decode cX11_clause 181 = .ok (.invokevirtual 161, 3) := by decide +kernel
theorem dX11_clause_184 : decode cX11_clause 184 = .ok (.aload_n 0, 1) := by decide +kernel
theorem dX11_clause_185 : decode cX11_clause 185 = .ok (.getfield 28, 3) := by decide +kernel
theorem dX11_clause_188 : decode cX11_clause 188 = .ok (.iload_n 1, 1) := by decide +kernel
theorem dX11_clause_189 : decode cX11_clause 189 = .ok (.aload_n 0, 1) := by decide +kernel
theorem dX11_clause_190 : decode cX11_clause 190 = .ok (.getfield 25, 3) := by decide +kernel
theorem dX11_clause_193 : decode cX11_clause 193 = .ok (.iload_n 1, 1) := by decide +kernel
theorem dX11_clause_194 : decode cX11_clause 194 = .ok (.iaload, 1) := by decide +kernel
theorem dX11_clause_195 : decode cX11_clause 195 = .ok (.iastore, 1) := by decide +kernel
theorem dX11_clause_196 : decode cX11_clause 196 = .ok (.iload_n 2, 1) := by decide +kernel
theorem dX11_clause_197 : decode cX11_clause 197 = .ok (.ifCond .eq 54, 3) := by decide +kernel
theorem dX11_clause_200 : decode cX11_clause 200 = .ok (.aload_n 0, 1) := by decide +kernel
theorem dX11_clause_201 : decode cX11_clause 201 = .ok (.getfield 100, 3) := by decide +kernel
theorem dX11_clause_204 : decode cX11_clause 204 = .ok (.iconst (-1), 1) := by decide +kernel
theorem dX11_clause_205 : decode cX11_clause 205 = .ok (.if_icmp .ne 46, 3) := by decide +kernel
theorem dX11_clause_208 : decode cX11_clause 208 = .ok (.aload_n 0, 1) := by decide +kernel
theorem dX11_clause_209 : decode cX11_clause 209 = .ok (.invokevirtual 112, 3) := by decide +kernel
theorem dX11_clause_212 : decode cX11_clause 212 = .ok (.bipush 63, 2) := by decide +kernel
theorem dX11_clause_214 : decode cX11_clause 214 = .ok (.if_icmp .eq 8, 3) := by decide +kernel
theorem dX11_clause_217 : decode cX11_clause 217 = .ok (.aload_n 0, 1) := by decide +kernel
theorem dX11_clause_218 : decode cX11_clause 218 = .ok (.invokevirtual 109, 3) := by decide +kernel
theorem dX11_clause_221 : decode cX11_clause 221 = .ok (.return_, 1) := by decide +kernel
theorem dX11_clause_222 : decode cX11_clause 222 = .ok (.aload_n 0, 1) := by decide +kernel
theorem dX11_clause_223 : decode cX11_clause 223 = .ok (.dup, 1) := by decide +kernel
theorem dX11_clause_224 : decode cX11_clause 224 = .ok (.getfield 93, 3) := by decide +kernel
theorem dX11_clause_227 : decode cX11_clause 227 = .ok (.iconst 1, 1) := by decide +kernel
theorem dX11_clause_228 : decode cX11_clause 228 = .ok (.iadd, 1) := by decide +kernel
theorem dX11_clause_229 : decode cX11_clause 229 = .ok (.putfield 93, 3) := by decide +kernel
theorem dX11_clause_232 : decode cX11_clause 232 = .ok (.aload_n 0, 1) := by decide +kernel
theorem dX11_clause_233 : decode cX11_clause 233 = .ok (.getfield 28, 3) := by decide +kernel
theorem dX11_clause_236 : decode cX11_clause 236 = .ok (.iload_n 1, 1) := by decide +kernel
theorem dX11_clause_237 : decode cX11_clause 237 = .ok (.aload_n 0, 1) := by decide +kernel
theorem dX11_clause_238 : decode cX11_clause 238 = .ok (.getfield 19, 3) := by decide +kernel
theorem dX11_clause_241 : decode cX11_clause 241 = .ok (.aload_n 0, 1) := by decide +kernel
theorem dX11_clause_242 : decode cX11_clause 242 = .ok (.getfield 103, 3) := by decide +kernel
theorem dX11_clause_245 : decode cX11_clause 245 = .ok (.iaload, 1) := by decide +kernel
theorem dX11_clause_246 : decode cX11_clause 246 = .ok (.iastore, 1) := by decide +kernel
theorem dX11_clause_247 : decode cX11_clause 247 = .ok (.aload_n 0, 1) := by decide +kernel
theorem dX11_clause_248 : decode cX11_clause 248 = .ok (.invokevirtual 133, 3) := by decide +kernel
theorem dX11_clause_251 : decode cX11_clause 251 = .ok (.aload_n 0, 1) := by decide +kernel
theorem dX11_clause_252 : decode cX11_clause 252 = .ok (.getfield 31, 3) := by decide +kernel
theorem dX11_clause_255 : decode cX11_clause 255 = .ok (.iload_n 1, 1) := by decide +kernel
theorem dX11_clause_256 : decode cX11_clause 256 = .ok (.aload_n 0, 1) := by decide +kernel
theorem dX11_clause_257 : decode cX11_clause 257 = .ok (.getfield 19, 3) := by decide +kernel
theorem dX11_clause_260 : decode cX11_clause 260 = .ok (.aload_n 0, 1) := by decide +kernel
theorem dX11_clause_261 : decode cX11_clause 261 = .ok (.getfield 103, 3) := by decide +kernel
theorem dX11_clause_264 : decode cX11_clause 264 = .ok (.iaload, 1) := by decide +kernel
theorem dX11_clause_265 : decode cX11_clause 265 = .ok (.iastore, 1) := by decide +kernel
theorem dX11_clause_266 : decode cX11_clause 266 = .ok (.aload_n 0, 1) := by decide +kernel
theorem dX11_clause_267 : decode cX11_clause 267 = .ok (.getfield 22, 3) := by decide +kernel
theorem dX11_clause_270 : decode cX11_clause 270 = .ok (.aload_n 0, 1) := by decide +kernel
theorem dX11_clause_271 : decode cX11_clause 271 = .ok (.getfield 103, 3) := by decide +kernel
theorem dX11_clause_274 : decode cX11_clause 274 = .ok (.dup2, 1) := by decide +kernel
theorem dX11_clause_275 : decode cX11_clause 275 = .ok (.iaload, 1) := by decide +kernel
theorem dX11_clause_276 : decode cX11_clause 276 = .ok (.iconst 1, 1) := by decide +kernel
theorem dX11_clause_277 : decode cX11_clause 277 = .ok (.iadd, 1) := by decide +kernel
theorem dX11_clause_278 : decode cX11_clause 278 = .ok (.iastore, 1) := by decide +kernel
theorem dX11_clause_279 : decode cX11_clause 279 = .ok (.return_, 1) := by decide +kernel
theorem dX11_open_0 : decode cX11_open 0 = .ok (.aload_n 0, 1) := by decide +kernel
theorem dX11_open_1 : decode cX11_open 1 = .ok (.iload_n 1, 1) := by decide +kernel
theorem dX11_open_2 : decode cX11_open 2 = .ok (.putfield 103, 3) := by decide +kernel
theorem dX11_open_5 : decode cX11_open 5 = .ok (.aload_n 0, 1) := by decide +kernel
theorem dX11_open_6 : decode cX11_open 6 = .ok (.iconst 0, 1) := by decide +kernel
theorem dX11_open_7 : decode cX11_open 7 = .ok (.putfield 93, 3) := by decide +kernel
theorem dX11_open_10 : decode cX11_open 10 = .ok (.aload_n 0, 1) := by decide +kernel
theorem dX11_open_11 : decode cX11_open 11 = .ok (.iconst (-1), 1) := by decide +kernel
theorem dX11_open_12 : decode cX11_open 12 = .ok (.putfield 100, 3) := by decide +kernel
theorem dX11_open_15 : decode cX11_open 15 = .ok (.aload_n 0, 1) := by decide +kernel
theorem dX11_open_16 : decode cX11_open 16 = .ok (.iconst 0, 1) := by decide +kernel
theorem dX11_open_17 : decode cX11_open 17 = .ok (.putfield 106, 3) := by decide +kernel
theorem dX11_open_20 : decode cX11_open 20 = .ok (.aload_n 0, 1) := by decide +kernel
theorem dX11_open_21 : decode cX11_open 21 = .ok (.getfield 19, 3) := by decide +kernel
theorem dX11_open_24 : decode cX11_open 24 = .ok (.iload_n 1, 1) := by decide +kernel
theorem dX11_open_25 : decode cX11_open 25 = .ok (.iconst 0, 1) := by decide +kernel
theorem dX11_open_26 : decode cX11_open 26 = .ok (.iastore, 1) := by decide +kernel
theorem dX11_open_27 : decode cX11_open 27 = .ok (.aload_n 0, 1) := by decide +kernel
theorem dX11_open_28 : decode cX11_open 28 = .ok (.getfield 22, 3) := by decide +kernel
theorem dX11_open_31 : decode cX11_open 31 = .ok (.iload_n 1, 1) := by decide +kernel
theorem dX11_open_32 : decode cX11_open 32 = .ok (.iconst 0, 1) := by decide +kernel
theorem dX11_open_33 : decode cX11_open 33 = .ok (.iastore, 1) := by decide +kernel
theorem dX11_open_34 : decode cX11_open 34 = .ok (.return_, 1) := by decide +kernel
theorem dX11_atEnd_0 : decode cX11_atEnd 0 = .ok (.aload_n 0, 1) := by decide +kernel
theorem dX11_atEnd_1 : decode cX11_atEnd 1 = .ok (.getfield 100, 3) := by decide +kernel
theorem dX11_atEnd_4 : decode cX11_atEnd 4 = .ok (.iconst (-1), 1) := by decide +kernel
theorem dX11_atEnd_5 : decode cX11_atEnd 5 = .ok (.if_icmp .ne 15, 3) := by decide +kernel
theorem dX11_atEnd_8 : decode cX11_atEnd 8 = .ok (.aload_n 0, 1) := by decide +kernel
theorem dX11_atEnd_9 : decode cX11_atEnd 9 = .ok (.invokevirtual 112, 3) := by decide +kernel
theorem dX11_atEnd_12 : decode cX11_atEnd 12 = .ok (.iconst (-1), 1) := by decide +kernel
theorem dX11_atEnd_13 : decode cX11_atEnd 13 = .ok (.if_icmp .eq 7, 3) := by decide +kernel
theorem dX11_atEnd_16 : decode cX11_atEnd 16 = .ok (.aload_n 0, 1) := by decide +kernel
theorem dX11_atEnd_17 : decode cX11_atEnd 17 = .ok (.invokevirtual 109, 3) := by decide +kernel
theorem dX11_atEnd_20 : decode cX11_atEnd 20 = .ok (.aload_n 0, 1) := by decide +kernel
theorem dX11_atEnd_21 : decode cX11_atEnd 21 = .ok (.getfield 100, 3) := by decide +kernel
theorem dX11_atEnd_24 : decode cX11_atEnd 24 = .ok (.ireturn, 1) := by decide +kernel
theorem dX11_readLaw_0 : decode cX11_readLaw 0 = .ok (.aload_n 0, 1) := by decide +kernel
theorem dX11_readLaw_1 : decode cX11_readLaw 1 = .ok (.iload_n 1, 1) := by decide +kernel
theorem dX11_readLaw_2 : decode cX11_readLaw 2 = .ok (.invokevirtual 164, 3) := by decide +kernel
theorem dX11_readLaw_5 : decode cX11_readLaw 5 = .ok (.aload_n 0, 1) := by decide +kernel
theorem dX11_readLaw_6 : decode cX11_readLaw 6 = .ok (.invokevirtual 167, 3) := by decide +kernel
theorem dX11_readLaw_9 : decode cX11_readLaw 9 = .ok (.aload_n 0, 1) := by decide +kernel
theorem dX11_readLaw_10 : decode cX11_readLaw 10 = .ok (.getfield 100, 3) := by decide +kernel
theorem dX11_readLaw_13 : decode cX11_readLaw 13 = .ok (.iconst (-1), 1) := by decide +kernel
theorem dX11_readLaw_14 : decode cX11_readLaw 14 = .ok (.if_icmp .ne 29, 3) := by decide +kernel
theorem dX11_readLaw_17 : decode cX11_readLaw 17 = .ok (.aload_n 0, 1) := by decide +kernel
theorem dX11_readLaw_18 : decode cX11_readLaw 18 = .ok (.invokevirtual 112, 3) := by decide +kernel
theorem dX11_readLaw_21 : decode cX11_readLaw 21 = .ok (.bipush 59, 2) := by decide +kernel
theorem dX11_readLaw_23 : decode cX11_readLaw 23 = .ok (.if_icmp .ne 20, 3) := by decide +kernel
theorem dX11_readLaw_26 : decode cX11_readLaw 26 = .ok (.aload_n 0, 1) := by decide +kernel
theorem dX11_readLaw_27 : decode cX11_readLaw 27 = .ok (.dup, 1) := by decide +kernel
theorem dX11_readLaw_28 : decode cX11_readLaw 28 = .ok (.getfield 93, 3) := by decide +kernel
theorem dX11_readLaw_31 : decode cX11_readLaw 31 = .ok (.iconst 1, 1) := by decide +kernel
theorem dX11_readLaw_32 : decode cX11_readLaw 32 = .ok (.iadd, 1) := by decide +kernel
theorem dX11_readLaw_33 : decode cX11_readLaw 33 = .ok (.putfield 93, 3) := by decide +kernel
theorem dX11_readLaw_36 : decode cX11_readLaw 36 = .ok (.aload_n 0, 1) := by decide +kernel
theorem dX11_readLaw_37 : decode cX11_readLaw 37 = .ok (.invokevirtual 167, 3) := by decide +kernel
theorem dX11_readLaw_40 : decode cX11_readLaw 40 = .ok (.goto (-31), 3) := by decide +kernel
theorem dX11_readLaw_43 : decode cX11_readLaw 43 = .ok (.aload_n 0, 1) := by decide +kernel
theorem dX11_readLaw_44 : decode cX11_readLaw 44 = .ok (.invokevirtual 170, 3) := by decide +kernel
theorem dX11_readLaw_47 : decode cX11_readLaw 47 = .ok (.ireturn, 1) := by decide +kernel
set_option maxRecDepth 20000 in
theorem qw32 : Cond.selects RX11 yX11_look yX11_look ∈ wA := zw 32 (by decide +kernel) (by decide +kernel)
set_option maxRecDepth 20000 in
theorem qw36 : Cond.selects RX11 yX11_bad yX11_bad ∈ wA := zw 36 (by decide +kernel) (by decide +kernel)
set_option maxRecDepth 20000 in
theorem qw38 : Cond.selects RX11 yX11_open yX11_open ∈ wA := zw 38 (by decide +kernel) (by decide +kernel)
set_option maxRecDepth 20000 in
theorem qw39 : Cond.selects RX11 yX11_clause yX11_clause ∈ wA := zw 39 (by decide +kernel) (by decide +kernel)
set_option maxRecDepth 20000 in
theorem qw40 : Cond.selects RX11 yX11_condition yX11_condition ∈ wA := zw 40 (by decide +kernel) (by decide +kernel)
set_option maxRecDepth 20000 in
theorem qw41 : Cond.selects RX11 yX11_unit yX11_unit ∈ wA := zw 41 (by decide +kernel) (by decide +kernel)
set_option maxRecDepth 20000 in
theorem qw42 : Cond.selects RX11 yX11_opens yX11_opens ∈ wA := zw 42 (by decide +kernel) (by decide +kernel)
set_option maxRecDepth 20000 in
theorem qw43 : Cond.selects RX11 yX11_put yX11_put ∈ wA := zw 43 (by decide +kernel) (by decide +kernel)
set_option maxRecDepth 20000 in
theorem qw44 : Cond.selects RX11 yX11_closes yX11_closes ∈ wA := zw 44 (by decide +kernel) (by decide +kernel)
set_option maxRecDepth 20000 in
theorem qw45 : Cond.selects RX11 yX11_sum yX11_sum ∈ wA := zw 45 (by decide +kernel) (by decide +kernel)
set_option maxRecDepth 20000 in
theorem qw46 : Cond.selects RX11 yX11_term yX11_term ∈ wA := zw 46 (by decide +kernel) (by decide +kernel)
set_option maxRecDepth 20000 in
theorem qw47 : Cond.selects RX11 yX11_atom yX11_atom ∈ wA := zw 47 (by decide +kernel) (by decide +kernel)
set_option maxRecDepth 20000 in
theorem qw48 : Cond.selects RX11 yX11_plainNumber yX11_plainNumber ∈ wA := zw 48 (by decide +kernel) (by decide +kernel)
set_option maxRecDepth 20000 in
theorem qw49 : Cond.selects RX11 yX11_compare yX11_compare ∈ wA := zw 49 (by decide +kernel) (by decide +kernel)
set_option maxRecDepth 20000 in
theorem qw50 : Cond.selects RX11 yX11_goOnAnd yX11_goOnAnd ∈ wA := zw 50 (by decide +kernel) (by decide +kernel)
set_option maxRecDepth 20000 in
theorem qw51 : Cond.selects RX11 yX11_goOnOr yX11_goOnOr ∈ wA := zw 51 (by decide +kernel) (by decide +kernel)
set_option maxRecDepth 20000 in
theorem qw52 : Cond.selects RX11 yX11_atEnd yX11_atEnd ∈ wA := zw 52 (by decide +kernel) (by decide +kernel)
set_option maxRecDepth 20000 in
theorem qw1132 : Cond.fieldLink RX11 106 "NinePortraitsModel" "deep" "I" ∈ wA := List.mem_filter.mpr ⟨zt5 (List.mem_of_getElem? (i := 75) rfl), (by decide +kernel)⟩
set_option maxRecDepth 20000 in
theorem qw1135 : Cond.fieldLink RX11 19 "NinePortraitsModel" "codes" "[I" ∈ wA := List.mem_filter.mpr ⟨zt5 (List.mem_of_getElem? (i := 78) rfl), (by decide +kernel)⟩
set_option maxRecDepth 20000 in
theorem qw1141 : Cond.fieldLink RX11 103 "NinePortraitsModel" "text" "I" ∈ wA := List.mem_filter.mpr ⟨zt5 (List.mem_of_getElem? (i := 84) rfl), (by decide +kernel)⟩
set_option maxRecDepth 20000 in
theorem qw1273 : Cond.methodLink RX11 112 yX11_look ∈ wA := List.mem_filter.mpr ⟨zt5 (List.mem_of_getElem? (i := 216) rfl), (by decide +kernel)⟩
set_option maxRecDepth 20000 in
theorem qw1275 : Cond.instanceMethod yX11_look ∈ wA := List.mem_filter.mpr ⟨zt5 (List.mem_of_getElem? (i := 218) rfl), (by decide +kernel)⟩
set_option maxRecDepth 20000 in
theorem qw1276 : Cond.code yX11_look cX11_look 1 (some .int) ∈ wA := List.mem_filter.mpr ⟨zt5 (List.mem_of_getElem? (i := 219) rfl), (by decide +kernel)⟩
set_option maxRecDepth 20000 in
theorem qw1298 : Cond.methodLink RX11 115 yX11_isDigit ∈ wA := List.mem_filter.mpr ⟨zt6 (List.mem_of_getElem? (i := 1) rfl), (by decide +kernel)⟩
set_option maxRecDepth 20000 in
theorem qw1299 : Cond.static yX11_isDigit ∈ wA := List.mem_filter.mpr ⟨zt6 (List.mem_of_getElem? (i := 2) rfl), (by decide +kernel)⟩
set_option maxRecDepth 20000 in
theorem qw1300 : Cond.code yX11_isDigit cX11_isDigit 1 (some .boolean) ∈ wA := List.mem_filter.mpr ⟨zt6 (List.mem_of_getElem? (i := 3) rfl), (by decide +kernel)⟩
set_option maxRecDepth 20000 in
theorem qw1301 : Cond.methodLink RX11 109 yX11_bad ∈ wA := List.mem_filter.mpr ⟨zt6 (List.mem_of_getElem? (i := 4) rfl), (by decide +kernel)⟩
set_option maxRecDepth 20000 in
theorem qw1303 : Cond.instanceMethod yX11_bad ∈ wA := List.mem_filter.mpr ⟨zt6 (List.mem_of_getElem? (i := 6) rfl), (by decide +kernel)⟩
set_option maxRecDepth 20000 in
theorem qw1304 : Cond.code yX11_bad cX11_bad 1 none ∈ wA := List.mem_filter.mpr ⟨zt6 (List.mem_of_getElem? (i := 7) rfl), (by decide +kernel)⟩
set_option maxRecDepth 20000 in
theorem qw1312 : Cond.methodLink RX11 164 yX11_open ∈ wA := List.mem_filter.mpr ⟨zt6 (List.mem_of_getElem? (i := 15) rfl), (by decide +kernel)⟩
set_option maxRecDepth 20000 in
theorem qw1314 : Cond.instanceMethod yX11_open ∈ wA := List.mem_filter.mpr ⟨zt6 (List.mem_of_getElem? (i := 17) rfl), (by decide +kernel)⟩
set_option maxRecDepth 20000 in
theorem qw1315 : Cond.code yX11_open cX11_open 2 none ∈ wA := List.mem_filter.mpr ⟨zt6 (List.mem_of_getElem? (i := 18) rfl), (by decide +kernel)⟩
set_option maxRecDepth 20000 in
theorem qw1316 : Cond.methodLink RX11 167 yX11_clause ∈ wA := List.mem_filter.mpr ⟨zt6 (List.mem_of_getElem? (i := 19) rfl), (by decide +kernel)⟩
set_option maxRecDepth 20000 in
theorem qw1318 : Cond.instanceMethod yX11_clause ∈ wA := List.mem_filter.mpr ⟨zt6 (List.mem_of_getElem? (i := 21) rfl), (by decide +kernel)⟩
set_option maxRecDepth 20000 in
theorem qw1319 : Cond.code yX11_clause cX11_clause 3 none ∈ wA := List.mem_filter.mpr ⟨zt6 (List.mem_of_getElem? (i := 22) rfl), (by decide +kernel)⟩
set_option maxRecDepth 20000 in
theorem qw1320 : Cond.methodLink RX11 152 yX11_condition ∈ wA := List.mem_filter.mpr ⟨zt6 (List.mem_of_getElem? (i := 23) rfl), (by decide +kernel)⟩
set_option maxRecDepth 20000 in
theorem qw1322 : Cond.instanceMethod yX11_condition ∈ wA := List.mem_filter.mpr ⟨zt6 (List.mem_of_getElem? (i := 25) rfl), (by decide +kernel)⟩
set_option maxRecDepth 20000 in
theorem qw1323 : Cond.code yX11_condition cX11_condition 1 none ∈ wA := List.mem_filter.mpr ⟨zt6 (List.mem_of_getElem? (i := 26) rfl), (by decide +kernel)⟩
set_option maxRecDepth 20000 in
theorem qw1324 : Cond.methodLink RX11 149 yX11_unit ∈ wA := List.mem_filter.mpr ⟨zt6 (List.mem_of_getElem? (i := 27) rfl), (by decide +kernel)⟩
set_option maxRecDepth 20000 in
theorem qw1326 : Cond.instanceMethod yX11_unit ∈ wA := List.mem_filter.mpr ⟨zt6 (List.mem_of_getElem? (i := 29) rfl), (by decide +kernel)⟩
set_option maxRecDepth 20000 in
theorem qw1327 : Cond.code yX11_unit cX11_unit 2 none ∈ wA := List.mem_filter.mpr ⟨zt6 (List.mem_of_getElem? (i := 30) rfl), (by decide +kernel)⟩
set_option maxRecDepth 20000 in
theorem qw1328 : Cond.methodLink RX11 130 yX11_opens ∈ wA := List.mem_filter.mpr ⟨zt6 (List.mem_of_getElem? (i := 31) rfl), (by decide +kernel)⟩
set_option maxRecDepth 20000 in
theorem qw1330 : Cond.instanceMethod yX11_opens ∈ wA := List.mem_filter.mpr ⟨zt6 (List.mem_of_getElem? (i := 33) rfl), (by decide +kernel)⟩
set_option maxRecDepth 20000 in
theorem qw1331 : Cond.code yX11_opens cX11_opens 1 none ∈ wA := List.mem_filter.mpr ⟨zt6 (List.mem_of_getElem? (i := 34) rfl), (by decide +kernel)⟩
set_option maxRecDepth 20000 in
theorem qw1332 : Cond.methodLink RX11 122 yX11_put ∈ wA := List.mem_filter.mpr ⟨zt6 (List.mem_of_getElem? (i := 35) rfl), (by decide +kernel)⟩
set_option maxRecDepth 20000 in
theorem qw1334 : Cond.instanceMethod yX11_put ∈ wA := List.mem_filter.mpr ⟨zt6 (List.mem_of_getElem? (i := 37) rfl), (by decide +kernel)⟩
set_option maxRecDepth 20000 in
theorem qw1335 : Cond.code yX11_put cX11_put 3 none ∈ wA := List.mem_filter.mpr ⟨zt6 (List.mem_of_getElem? (i := 38) rfl), (by decide +kernel)⟩
set_option maxRecDepth 20000 in
theorem qw1336 : Cond.methodLink RX11 136 yX11_closes ∈ wA := List.mem_filter.mpr ⟨zt6 (List.mem_of_getElem? (i := 39) rfl), (by decide +kernel)⟩
set_option maxRecDepth 20000 in
theorem qw1338 : Cond.instanceMethod yX11_closes ∈ wA := List.mem_filter.mpr ⟨zt6 (List.mem_of_getElem? (i := 41) rfl), (by decide +kernel)⟩
set_option maxRecDepth 20000 in
theorem qw1339 : Cond.code yX11_closes cX11_closes 2 none ∈ wA := List.mem_filter.mpr ⟨zt6 (List.mem_of_getElem? (i := 42) rfl), (by decide +kernel)⟩
set_option maxRecDepth 20000 in
theorem qw1340 : Cond.methodLink RX11 133 yX11_sum ∈ wA := List.mem_filter.mpr ⟨zt6 (List.mem_of_getElem? (i := 43) rfl), (by decide +kernel)⟩
set_option maxRecDepth 20000 in
theorem qw1342 : Cond.instanceMethod yX11_sum ∈ wA := List.mem_filter.mpr ⟨zt6 (List.mem_of_getElem? (i := 45) rfl), (by decide +kernel)⟩
set_option maxRecDepth 20000 in
theorem qw1343 : Cond.code yX11_sum cX11_sum 2 none ∈ wA := List.mem_filter.mpr ⟨zt6 (List.mem_of_getElem? (i := 46) rfl), (by decide +kernel)⟩
set_option maxRecDepth 20000 in
theorem qw1344 : Cond.methodLink RX11 143 yX11_term ∈ wA := List.mem_filter.mpr ⟨zt6 (List.mem_of_getElem? (i := 47) rfl), (by decide +kernel)⟩
set_option maxRecDepth 20000 in
theorem qw1346 : Cond.instanceMethod yX11_term ∈ wA := List.mem_filter.mpr ⟨zt6 (List.mem_of_getElem? (i := 49) rfl), (by decide +kernel)⟩
set_option maxRecDepth 20000 in
theorem qw1347 : Cond.code yX11_term cX11_term 2 none ∈ wA := List.mem_filter.mpr ⟨zt6 (List.mem_of_getElem? (i := 50) rfl), (by decide +kernel)⟩
set_option maxRecDepth 20000 in
theorem qw1348 : Cond.methodLink RX11 140 yX11_atom ∈ wA := List.mem_filter.mpr ⟨zt6 (List.mem_of_getElem? (i := 51) rfl), (by decide +kernel)⟩
set_option maxRecDepth 20000 in
theorem qw1350 : Cond.instanceMethod yX11_atom ∈ wA := List.mem_filter.mpr ⟨zt6 (List.mem_of_getElem? (i := 53) rfl), (by decide +kernel)⟩
set_option maxRecDepth 20000 in
theorem qw1351 : Cond.code yX11_atom cX11_atom 2 none ∈ wA := List.mem_filter.mpr ⟨zt6 (List.mem_of_getElem? (i := 54) rfl), (by decide +kernel)⟩
set_option maxRecDepth 20000 in
theorem qw1352 : Cond.methodLink RX11 119 yX11_plainNumber ∈ wA := List.mem_filter.mpr ⟨zt6 (List.mem_of_getElem? (i := 55) rfl), (by decide +kernel)⟩
set_option maxRecDepth 20000 in
theorem qw1354 : Cond.instanceMethod yX11_plainNumber ∈ wA := List.mem_filter.mpr ⟨zt6 (List.mem_of_getElem? (i := 57) rfl), (by decide +kernel)⟩
set_option maxRecDepth 20000 in
theorem qw1355 : Cond.code yX11_plainNumber cX11_plainNumber 3 (some .int) ∈ wA := List.mem_filter.mpr ⟨zt6 (List.mem_of_getElem? (i := 58) rfl), (by decide +kernel)⟩
set_option maxRecDepth 20000 in
theorem qw1356 : Cond.methodLink RX11 126 yX11_letterOf ∈ wA := List.mem_filter.mpr ⟨zt6 (List.mem_of_getElem? (i := 59) rfl), (by decide +kernel)⟩
set_option maxRecDepth 20000 in
theorem qw1357 : Cond.static yX11_letterOf ∈ wA := List.mem_filter.mpr ⟨zt6 (List.mem_of_getElem? (i := 60) rfl), (by decide +kernel)⟩
set_option maxRecDepth 20000 in
theorem qw1358 : Cond.code yX11_letterOf cX11_letterOf 1 (some .int) ∈ wA := List.mem_filter.mpr ⟨zt6 (List.mem_of_getElem? (i := 61) rfl), (by decide +kernel)⟩
set_option maxRecDepth 20000 in
theorem qw1359 : Cond.methodLink RX11 155 yX11_compare ∈ wA := List.mem_filter.mpr ⟨zt6 (List.mem_of_getElem? (i := 62) rfl), (by decide +kernel)⟩
set_option maxRecDepth 20000 in
theorem qw1361 : Cond.instanceMethod yX11_compare ∈ wA := List.mem_filter.mpr ⟨zt6 (List.mem_of_getElem? (i := 64) rfl), (by decide +kernel)⟩
set_option maxRecDepth 20000 in
theorem qw1362 : Cond.code yX11_compare cX11_compare 2 none ∈ wA := List.mem_filter.mpr ⟨zt6 (List.mem_of_getElem? (i := 65) rfl), (by decide +kernel)⟩
set_option maxRecDepth 20000 in
theorem qw1363 : Cond.methodLink RX11 146 yX11_isSign ∈ wA := List.mem_filter.mpr ⟨zt6 (List.mem_of_getElem? (i := 66) rfl), (by decide +kernel)⟩
set_option maxRecDepth 20000 in
theorem qw1364 : Cond.static yX11_isSign ∈ wA := List.mem_filter.mpr ⟨zt6 (List.mem_of_getElem? (i := 67) rfl), (by decide +kernel)⟩
set_option maxRecDepth 20000 in
theorem qw1365 : Cond.code yX11_isSign cX11_isSign 1 (some .boolean) ∈ wA := List.mem_filter.mpr ⟨zt6 (List.mem_of_getElem? (i := 68) rfl), (by decide +kernel)⟩
set_option maxRecDepth 20000 in
theorem qw1366 : Cond.methodLink RX11 158 yX11_goOnAnd ∈ wA := List.mem_filter.mpr ⟨zt6 (List.mem_of_getElem? (i := 69) rfl), (by decide +kernel)⟩
set_option maxRecDepth 20000 in
theorem qw1368 : Cond.instanceMethod yX11_goOnAnd ∈ wA := List.mem_filter.mpr ⟨zt6 (List.mem_of_getElem? (i := 71) rfl), (by decide +kernel)⟩
set_option maxRecDepth 20000 in
theorem qw1369 : Cond.code yX11_goOnAnd cX11_goOnAnd 1 none ∈ wA := List.mem_filter.mpr ⟨zt6 (List.mem_of_getElem? (i := 72) rfl), (by decide +kernel)⟩
set_option maxRecDepth 20000 in
theorem qw1370 : Cond.methodLink RX11 161 yX11_goOnOr ∈ wA := List.mem_filter.mpr ⟨zt6 (List.mem_of_getElem? (i := 73) rfl), (by decide +kernel)⟩
set_option maxRecDepth 20000 in
theorem qw1372 : Cond.instanceMethod yX11_goOnOr ∈ wA := List.mem_filter.mpr ⟨zt6 (List.mem_of_getElem? (i := 75) rfl), (by decide +kernel)⟩
set_option maxRecDepth 20000 in
theorem qw1373 : Cond.code yX11_goOnOr cX11_goOnOr 1 none ∈ wA := List.mem_filter.mpr ⟨zt6 (List.mem_of_getElem? (i := 76) rfl), (by decide +kernel)⟩
set_option maxRecDepth 20000 in
theorem qw1374 : Cond.methodLink RX11 170 yX11_atEnd ∈ wA := List.mem_filter.mpr ⟨zt6 (List.mem_of_getElem? (i := 77) rfl), (by decide +kernel)⟩
set_option maxRecDepth 20000 in
theorem qw1376 : Cond.instanceMethod yX11_atEnd ∈ wA := List.mem_filter.mpr ⟨zt6 (List.mem_of_getElem? (i := 79) rfl), (by decide +kernel)⟩
set_option maxRecDepth 20000 in
theorem qw1377 : Cond.code yX11_atEnd cX11_atEnd 1 (some .int) ∈ wA := List.mem_filter.mpr ⟨zt6 (List.mem_of_getElem? (i := 80) rfl), (by decide +kernel)⟩
theorem hd_X11_atEnd : yX11_atEnd.cls = RX11 ∧ yX11_atEnd.cls ≠ "java/lang/invoke/MethodHandle" ∧ yX11_atEnd.cls ≠ "java/lang/invoke/VarHandle" ∧ (parseMethodDescriptor yX11_atEnd.desc).map (fun d => d.parameters.length) = some 0 := by decide +kernel
theorem hd_X11_atom : yX11_atom.cls = RX11 ∧ yX11_atom.cls ≠ "java/lang/invoke/MethodHandle" ∧ yX11_atom.cls ≠ "java/lang/invoke/VarHandle" ∧ (parseMethodDescriptor yX11_atom.desc).map (fun d => d.parameters.length) = some 0 := by decide +kernel
theorem hd_X11_bad : yX11_bad.cls = RX11 ∧ yX11_bad.cls ≠ "java/lang/invoke/MethodHandle" ∧ yX11_bad.cls ≠ "java/lang/invoke/VarHandle" ∧ (parseMethodDescriptor yX11_bad.desc).map (fun d => d.parameters.length) = some 0 := by decide +kernel
theorem hd_X11_clause : yX11_clause.cls = RX11 ∧ yX11_clause.cls ≠ "java/lang/invoke/MethodHandle" ∧ yX11_clause.cls ≠ "java/lang/invoke/VarHandle" ∧ (parseMethodDescriptor yX11_clause.desc).map (fun d => d.parameters.length) = some 0 := by decide +kernel
theorem hd_X11_closes : yX11_closes.cls = RX11 ∧ yX11_closes.cls ≠ "java/lang/invoke/MethodHandle" ∧ yX11_closes.cls ≠ "java/lang/invoke/VarHandle" ∧ (parseMethodDescriptor yX11_closes.desc).map (fun d => d.parameters.length) = some 1 := by decide +kernel
theorem hd_X11_compare : yX11_compare.cls = RX11 ∧ yX11_compare.cls ≠ "java/lang/invoke/MethodHandle" ∧ yX11_compare.cls ≠ "java/lang/invoke/VarHandle" ∧ (parseMethodDescriptor yX11_compare.desc).map (fun d => d.parameters.length) = some 0 := by decide +kernel
theorem hd_X11_condition : yX11_condition.cls = RX11 ∧ yX11_condition.cls ≠ "java/lang/invoke/MethodHandle" ∧ yX11_condition.cls ≠ "java/lang/invoke/VarHandle" ∧ (parseMethodDescriptor yX11_condition.desc).map (fun d => d.parameters.length) = some 0 := by decide +kernel
theorem hd_X11_goOnAnd : yX11_goOnAnd.cls = RX11 ∧ yX11_goOnAnd.cls ≠ "java/lang/invoke/MethodHandle" ∧ yX11_goOnAnd.cls ≠ "java/lang/invoke/VarHandle" ∧ (parseMethodDescriptor yX11_goOnAnd.desc).map (fun d => d.parameters.length) = some 0 := by decide +kernel
theorem hd_X11_goOnOr : yX11_goOnOr.cls = RX11 ∧ yX11_goOnOr.cls ≠ "java/lang/invoke/MethodHandle" ∧ yX11_goOnOr.cls ≠ "java/lang/invoke/VarHandle" ∧ (parseMethodDescriptor yX11_goOnOr.desc).map (fun d => d.parameters.length) = some 0 := by decide +kernel
theorem hd_X11_isDigit : yX11_isDigit.cls = RX11 ∧ yX11_isDigit.cls ≠ "java/lang/invoke/MethodHandle" ∧ yX11_isDigit.cls ≠ "java/lang/invoke/VarHandle" ∧ (parseMethodDescriptor yX11_isDigit.desc).map (fun d => d.parameters.length) = some 1 := by decide +kernel
theorem hd_X11_isSign : yX11_isSign.cls = RX11 ∧ yX11_isSign.cls ≠ "java/lang/invoke/MethodHandle" ∧ yX11_isSign.cls ≠ "java/lang/invoke/VarHandle" ∧ (parseMethodDescriptor yX11_isSign.desc).map (fun d => d.parameters.length) = some 1 := by decide +kernel
theorem hd_X11_letterOf : yX11_letterOf.cls = RX11 ∧ yX11_letterOf.cls ≠ "java/lang/invoke/MethodHandle" ∧ yX11_letterOf.cls ≠ "java/lang/invoke/VarHandle" ∧ (parseMethodDescriptor yX11_letterOf.desc).map (fun d => d.parameters.length) = some 1 := by decide +kernel
theorem hd_X11_look : yX11_look.cls = RX11 ∧ yX11_look.cls ≠ "java/lang/invoke/MethodHandle" ∧ yX11_look.cls ≠ "java/lang/invoke/VarHandle" ∧ (parseMethodDescriptor yX11_look.desc).map (fun d => d.parameters.length) = some 0 := by decide +kernel
theorem hd_X11_open : yX11_open.cls = RX11 ∧ yX11_open.cls ≠ "java/lang/invoke/MethodHandle" ∧ yX11_open.cls ≠ "java/lang/invoke/VarHandle" ∧ (parseMethodDescriptor yX11_open.desc).map (fun d => d.parameters.length) = some 1 := by decide +kernel
theorem hd_X11_opens : yX11_opens.cls = RX11 ∧ yX11_opens.cls ≠ "java/lang/invoke/MethodHandle" ∧ yX11_opens.cls ≠ "java/lang/invoke/VarHandle" ∧ (parseMethodDescriptor yX11_opens.desc).map (fun d => d.parameters.length) = some 0 := by decide +kernel
theorem hd_X11_plainNumber : yX11_plainNumber.cls = RX11 ∧ yX11_plainNumber.cls ≠ "java/lang/invoke/MethodHandle" ∧ yX11_plainNumber.cls ≠ "java/lang/invoke/VarHandle" ∧ (parseMethodDescriptor yX11_plainNumber.desc).map (fun d => d.parameters.length) = some 0 := by decide +kernel
theorem hd_X11_put : yX11_put.cls = RX11 ∧ yX11_put.cls ≠ "java/lang/invoke/MethodHandle" ∧ yX11_put.cls ≠ "java/lang/invoke/VarHandle" ∧ (parseMethodDescriptor yX11_put.desc).map (fun d => d.parameters.length) = some 2 := by decide +kernel
theorem hd_X11_sum : yX11_sum.cls = RX11 ∧ yX11_sum.cls ≠ "java/lang/invoke/MethodHandle" ∧ yX11_sum.cls ≠ "java/lang/invoke/VarHandle" ∧ (parseMethodDescriptor yX11_sum.desc).map (fun d => d.parameters.length) = some 0 := by decide +kernel
theorem hd_X11_term : yX11_term.cls = RX11 ∧ yX11_term.cls ≠ "java/lang/invoke/MethodHandle" ∧ yX11_term.cls ≠ "java/lang/invoke/VarHandle" ∧ (parseMethodDescriptor yX11_term.desc).map (fun d => d.parameters.length) = some 0 := by decide +kernel
theorem hd_X11_unit : yX11_unit.cls = RX11 ∧ yX11_unit.cls ≠ "java/lang/invoke/MethodHandle" ∧ yX11_unit.cls ≠ "java/lang/invoke/VarHandle" ∧ (parseMethodDescriptor yX11_unit.desc).map (fun d => d.parameters.length) = some 0 := by decide +kernel
theorem zHt_cong {f g : Nat → Int32} : ∀ (n i h : Nat), (∀ j : Nat, i ≤ j → j < i + n → f j = g j) → zHt f i n h = zHt g i n h := by
  intro n
  induction n with
  | zero => intro i h _; rfl
  | succ n ih =>
    intro i h hq
    have e : f i = g i := hq i (Nat.le_refl i) (by omega)
    unfold zHt
    rw [e]
    cases zStep (g i) h with
    | none => rfl
    | some h' => exact ih (i + 1) h' (fun j a b => hq j (by omega) (by omega))
theorem zHt_app {f : Nat → Int32} {b c : Nat} : ∀ (n i a : Nat), zHt f i n a = some b → zStep (f (i + n)) b = some c → zHt f i (n + 1) a = some c := by
  intro n
  induction n with
  | zero =>
    intro i a h1 h2
    have : a = b := Option.some.inj h1
    subst this
    unfold zHt
    rw [show i = i + 0 from rfl, h2]
    rfl
  | succ n ih =>
    intro i a h1 h2
    unfold zHt at h1 ⊢
    cases hs : zStep (f i) a with
    | none => rw [hs] at h1; cases h1
    | some a' =>
      rw [hs] at h1
      exact ih (i + 1) a' h1 (by rw [show i + 1 + n = i + (n + 1) by omega]; exact h2)
/-- a law's text while it is read: what stood stays, letters are letters, the code is not too long, and runs -/
def zPar (wr ta : Int32) (fC fV fD : Nat → Int32) (tx : Int32) (gC gV : Nat → Int32) (fz k st h : Nat) : Prop :=
  (∀ j : Nat, j < fz → fC j = gC j ∧ fV j = gV j) ∧ (∀ j : Nat, (fC j).toInt = 1 → 0 ≤ (fV j).toInt ∧ (fV j).toInt ≤ 5) ∧ (0 ≤ tx.toInt ∧ tx.toInt ≤ 4 ∧ 0 ≤ ta.toInt ∧ 0 ≤ (fD tx.toInt.toNat).toInt ∧ (fD tx.toInt.toNat).toInt + k ≤ 2 * ta.toInt + 2 ∧ (fz : Int) ≤ 520 * tx.toInt + (fD tx.toInt.toNat).toInt) ∧ (wr.toInt = -1 → (st : Int) ≤ (fD tx.toInt.toNat).toInt ∧ zHt fC (520 * tx.toInt.toNat + st) ((fD tx.toInt.toNat).toInt.toNat - st) 0 = some h)
theorem zPar_mono {wr ta wr' ta' : Int32} {fC fV fD : Nat → Int32} {tx : Int32} {gC gV : Nat → Int32} {fz k st h k' h' : Nat} (hp : zPar wr ta fC fV fD tx gC gV fz k st h) (h1 : wr'.toInt = -1 → wr.toInt = -1) (h2 : ta.toInt ≤ ta'.toInt) (h3 : (k' : Int) + 2 * ta.toInt ≤ (k : Int) + 2 * ta'.toInt) (h4 : h' = h) : zPar wr' ta' fC fV fD tx gC gV fz k' st h' := by
  obtain ⟨a, b, c, d⟩ := hp
  subst h4
  exact ⟨a, b, by omega, fun q => d (h1 q)⟩
theorem zPar_bad {wr ta wr' ta' : Int32} {fC fV fD : Nat → Int32} {tx : Int32} {gC gV : Nat → Int32} {fz k st h k' h' : Nat} (hp : zPar wr ta fC fV fD tx gC gV fz k st h) (h1 : ¬ wr'.toInt = -1) (h2 : ta.toInt ≤ ta'.toInt) (h3 : (k' : Int) + 2 * ta.toInt ≤ (k : Int) + 2 * ta'.toInt) : zPar wr' ta' fC fV fD tx gC gV fz k' st h' := by
  obtain ⟨a, b, c, d⟩ := hp
  exact ⟨a, b, by omega, fun q => absurd q h1⟩
theorem zPar_d {wr ta : Int32} {fC fV fD : Nat → Int32} {tx : Int32} {gC gV : Nat → Int32} {fz k st h : Nat} {v i : Int32} (hp : zPar wr ta fC fV fD tx gC gV fz (k + 1) st h) (e : v = fD i.toNatClampNeg) (hi : i = tx) (hta : ta.toInt ≤ 258) : v.toInt = (fD tx.toInt.toNat).toInt ∧ 0 ≤ v.toInt ∧ v.toInt ≤ 518 := by
  subst hi
  have c := hp.2.2.1
  have q : v.toInt = (fD i.toInt.toNat).toInt := by rw [e]; rfl
  omega
theorem zPar_put {wr ta : Int32} {fC fV fD fC' fV' fD' : Nat → Int32} {tx : Int32} {gC gV : Nat → Int32} {fz k st h h' : Nat} {i1 i2 x c v : Int32} (hp : zPar wr ta fC fV fD tx gC gV fz (k + 1) st h) (e1 : fC' = upd fC i1.toNatClampNeg c) (e2 : fV' = upd fV i2.toNatClampNeg v) (e3 : fD' = upd fD tx.toNatClampNeg x) (h1 : i1.toInt = 520 * tx.toInt + (fD tx.toInt.toNat).toInt) (h2 : i2.toInt = 520 * tx.toInt + (fD tx.toInt.toNat).toInt) (hx : x.toInt = (fD tx.toInt.toNat).toInt + 1) (hl : c.toInt = 1 → 0 ≤ v.toInt ∧ v.toInt ≤ 5) (hs : zStep c h = some h') : zPar wr ta fC' fV' fD' tx gC gV fz k st h' := by
  obtain ⟨a, b, cc, d⟩ := hp
  have n1 : i1.toNatClampNeg = 520 * tx.toInt.toNat + (fD tx.toInt.toNat).toInt.toNat := by show i1.toInt.toNat = _; omega
  have n2 : i2.toNatClampNeg = 520 * tx.toInt.toNat + (fD tx.toInt.toNat).toInt.toNat := by show i2.toInt.toNat = _; omega
  have hd : fD' tx.toInt.toNat = x := by rw [e3]; exact pk_us
  have hc : ∀ j : Nat, ¬ j = 520 * tx.toInt.toNat + (fD tx.toInt.toNat).toInt.toNat → fC' j = fC j ∧ fV' j = fV j := by
    intro j hj
    rw [e1, e2, n1, n2]
    exact ⟨pk_un hj, pk_un hj⟩
  have hc1 : fC' (520 * tx.toInt.toNat + (fD tx.toInt.toNat).toInt.toNat) = c := by rw [e1, n1]; exact pk_us
  have hv1 : fV' (520 * tx.toInt.toNat + (fD tx.toInt.toNat).toInt.toNat) = v := by rw [e2, n2]; exact pk_us
  refine ⟨?_, ?_, ?_, ?_⟩
  · intro j hj
    have := hc j (by omega)
    rw [this.1, this.2]
    exact a j hj
  · intro j hj
    by_cases q : j = 520 * tx.toInt.toNat + (fD tx.toInt.toNat).toInt.toNat
    · rw [q] at hj ⊢
      rw [hc1] at hj
      rw [hv1]
      exact hl hj
    · have := hc j q
      rw [this.1] at hj
      rw [this.2]
      exact b j hj
  · rw [hd]
    omega
  · intro q
    obtain ⟨d1, d2⟩ := d q
    rw [hd]
    refine ⟨by omega, ?_⟩
    rw [show x.toInt.toNat - st = ((fD tx.toInt.toNat).toInt.toNat - st) + 1 by omega]
    refine zHt_app _ _ _ ?_ ?_ (b := h)
    · rw [← d2]
      exact zHt_cong _ _ _ (fun j j1 j2 => (hc j (by omega)).1)
    · rw [show 520 * tx.toInt.toNat + st + ((fD tx.toInt.toNat).toInt.toNat - st) = 520 * tx.toInt.toNat + (fD tx.toInt.toNat).toInt.toNat by omega, hc1]
      exact hs
theorem zStep_y {c : Int32} {h : Nat} (hc : c.toInt = 0 ∨ c.toInt = 1) (hh : h + 1 ≤ 80) : zStep c h = some (h + 1) := by
  unfold zStep
  rw [if_pos hc, if_pos (by omega)]
theorem zStep_n {c : Int32} {h : Nat} (hc : c.toInt = 9) : zStep c (h + 1) = some (h + 1) := by
  unfold zStep
  rw [if_neg (by omega), if_pos hc, if_pos (by omega)]
theorem zStep_o {c : Int32} {h : Nat} (hc : 2 ≤ c.toInt) (hc2 : ¬ c.toInt = 9) : zStep c (h + 1 + 1) = some (h + 1) := by
  unfold zStep
  rw [if_neg (by omega), if_neg hc2, if_pos (by omega)]
  rfl
theorem zPar_new {wr ta : Int32} {fC fV fD : Nat → Int32} {tx : Int32} {gC gV : Nat → Int32} {fz k st h : Nat} (hp : zPar wr ta fC fV fD tx gC gV fz k st h) : zPar wr ta fC fV fD tx fC fV (520 * tx.toInt.toNat + (fD tx.toInt.toNat).toInt.toNat) k (fD tx.toInt.toNat).toInt.toNat 0 := by
  obtain ⟨a, b, c, d⟩ := hp
  refine ⟨fun _ _ => ⟨rfl, rfl⟩, b, by omega, fun _ => ⟨by omega, ?_⟩⟩
  rw [Nat.sub_self]
  rfl
/-- a law's text at the end of a clause -/
def zRd (wr ta : Int32) (fC fV fD fK fT fS fU : Nat → Int32) (tx : Int32) (gC gV gK gT gS gU : Nat → Int32) (n0 : Nat) : Prop :=
  ((∀ j : Nat, j < 520 * n0 → fC j = gC j ∧ fV j = gV j) ∧ (∀ j : Nat, j < n0 → fK j = gK j) ∧ (∀ j : Nat, j < 140 * n0 → fT j = gT j ∧ fS j = gS j ∧ fU j = gU j)) ∧ (∀ j : Nat, (fC j).toInt = 1 → 0 ≤ (fV j).toInt ∧ (fV j).toInt ≤ 5) ∧ ((n0 : Int) ≤ tx.toInt ∧ tx.toInt ≤ 4 ∧ 0 ≤ ta.toInt ∧ 0 ≤ (fD tx.toInt.toNat).toInt ∧ (fD tx.toInt.toNat).toInt ≤ 2 * ta.toInt + 2 ∧ 0 ≤ (fK tx.toInt.toNat).toInt ∧ 2 * (fK tx.toInt.toNat).toInt ≤ ta.toInt) ∧ (wr.toInt = -1 → ∀ c : Nat, (c : Int) < (fK tx.toInt.toNat).toInt → zCl tx.toInt (fT (140 * tx.toInt.toNat + c)).toInt (fS (140 * tx.toInt.toNat + c)).toInt (fU (140 * tx.toInt.toNat + c)).toInt fC fV ∧ (fU (140 * tx.toInt.toNat + c)).toInt ≤ (fD tx.toInt.toNat).toInt)
theorem zRd_mono {wr ta wr' ta' : Int32} {fC fV fD fK fT fS fU : Nat → Int32} {tx : Int32} {gC gV gK gT gS gU : Nat → Int32} {n0 : Nat} (h : zRd wr ta fC fV fD fK fT fS fU tx gC gV gK gT gS gU n0) (h1 : wr'.toInt = -1 → wr.toInt = -1) (h2 : ta.toInt ≤ ta'.toInt) : zRd wr' ta' fC fV fD fK fT fS fU tx gC gV gK gT gS gU n0 := by
  obtain ⟨a, b, c, d⟩ := h
  exact ⟨a, b, by omega, fun q => d (h1 q)⟩
theorem zRd_par {wr ta : Int32} {fC fV fD fK fT fS fU : Nat → Int32} {tx : Int32} {gC gV gK gT gS gU : Nat → Int32} {n0 : Nat} {wr' ta' : Int32} {k : Nat} (h : zRd wr ta fC fV fD fK fT fS fU tx gC gV gK gT gS gU n0) (h2 : ta.toInt ≤ ta'.toInt) (h3 : (k : Int) + 2 * ta.toInt ≤ 2 * ta'.toInt) : zPar wr' ta' fC fV fD tx fC fV (520 * tx.toInt.toNat + (fD tx.toInt.toNat).toInt.toNat) k (fD tx.toInt.toNat).toInt.toNat 0 := by
  obtain ⟨a, b, c, d⟩ := h
  refine ⟨fun _ _ => ⟨rfl, rfl⟩, b, by omega, fun _ => ⟨by omega, ?_⟩⟩
  rw [Nat.sub_self]
  rfl
theorem zOk_cong {fC fV gC gV : Nat → Int32} {i j : Int} (h : zOk fC fV i j) (h0 : 0 ≤ i) (hq : ∀ k : Nat, (k : Int) < j → gC k = fC k ∧ gV k = fV k) : zOk gC gV i j := by
  obtain ⟨⟨a, b, c⟩, d⟩ := h
  refine ⟨⟨a, b, ?_⟩, ?_⟩
  · rw [← c]
    exact zHt_cong _ _ _ (fun k k1 k2 => (hq k (by omega)).1)
  · intro k k1 k2 k3
    rw [(hq k k2).1] at k3
    rw [(hq k k2).2]
    exact d k k1 k2 k3
theorem zCl_cong {n t s u : Int} {fC fV gC gV : Nat → Int32} (h : zCl n t s u fC fV) (hn : 0 ≤ n) (hq : ∀ k : Nat, (k : Int) < 520 * n + u → gC k = fC k ∧ gV k = fV k) : zCl n t s u gC gV := by
  obtain ⟨a, b, c⟩ := h
  refine ⟨a, ?_, zOk_cong c (by omega) hq⟩
  rcases b with b | b
  · exact Or.inl b
  · exact Or.inr (zOk_cong b (by omega) (fun k hk => hq k (by omega)))
theorem zOk_par {wr ta : Int32} {fC fV fD : Nat → Int32} {tx : Int32} {gC gV : Nat → Int32} {fz k st h : Nat} (hp : zPar wr ta fC fV fD tx gC gV fz k st h) (hw : wr.toInt = -1) (hh : h = 1) : zOk fC fV (520 * tx.toInt + (st : Int)) (520 * tx.toInt + (fD tx.toInt.toNat).toInt) := by
  obtain ⟨a, b, c, d⟩ := hp
  obtain ⟨d1, d2⟩ := d hw
  subst hh
  refine ⟨⟨by omega, by omega, ?_⟩, fun j _ _ q => b j q⟩
  have e1 : (520 * tx.toInt + (st : Int)).toNat = 520 * tx.toInt.toNat + st := by omega
  have e2 : (520 * tx.toInt + (fD tx.toInt.toNat).toInt - (520 * tx.toInt + (st : Int))).toNat = (fD tx.toInt.toNat).toInt.toNat - st := by omega
  rw [e1, e2]
  exact d2
theorem zU {f g : Nat → Int32} {i x : Int32} (e : g = upd f i.toNatClampNeg x) : (∀ j : Nat, ¬ j = i.toInt.toNat → g j = f j) ∧ g i.toInt.toNat = x := by
  rw [e]
  exact ⟨fun j hj => pk_un hj, pk_us⟩
theorem zRd_new {wr ta wr' ta' : Int32} {fC fV fD fK fT fS fU fC' fV' fD' fK' fT' fS' fU' : Nat → Int32} {tx i : Int32} {gC gV gK gT gS gU : Nat → Int32} {n0 : Nat} (h : zRd wr ta fC fV fD fK fT fS fU tx gC gV gK gT gS gU n0) (hw : wr'.toInt = -1 → wr.toInt = -1) (hta : ta.toInt + 2 ≤ ta'.toInt)
    (hf : ∀ j : Nat, j < 520 * tx.toInt.toNat + (fD tx.toInt.toNat).toInt.toNat → fC' j = fC j ∧ fV' j = fV j) (hl : ∀ j : Nat, (fC' j).toInt = 1 → 0 ≤ (fV' j).toInt ∧ (fV' j).toInt ≤ 5) (hd : (fD tx.toInt.toNat).toInt ≤ (fD' tx.toInt.toNat).toInt) (hd2 : (fD' tx.toInt.toNat).toInt ≤ 2 * ta'.toInt + 2)
    (hi : i.toInt = 140 * tx.toInt + (fK tx.toInt.toNat).toInt) (hT : ∀ j : Nat, ¬ j = i.toInt.toNat → fT' j = fT j) (hS : ∀ j : Nat, ¬ j = i.toInt.toNat → fS' j = fS j) (hU : ∀ j : Nat, ¬ j = i.toInt.toNat → fU' j = fU j) (hK : ∀ j : Nat, ¬ j = tx.toInt.toNat → fK' j = fK j)
    (hx : (fK' tx.toInt.toNat).toInt = (fK tx.toInt.toNat).toInt + 1 ∨ ((fK' tx.toInt.toNat).toInt = (fK tx.toInt.toNat).toInt ∧ ¬ wr'.toInt = -1))
    (hcl : wr'.toInt = -1 → zCl tx.toInt (fT' i.toInt.toNat).toInt (fS' i.toInt.toNat).toInt (fU' i.toInt.toNat).toInt fC' fV' ∧ (fU' i.toInt.toNat).toInt ≤ (fD' tx.toInt.toNat).toInt) : zRd wr' ta' fC' fV' fD' fK' fT' fS' fU' tx gC gV gK gT gS gU n0 := by
  obtain ⟨⟨a1, a2, a3⟩, b, c, d⟩ := h
  refine ⟨⟨?_, ?_, ?_⟩, hl, by omega, ?_⟩
  · intro j hj
    have := hf j (by omega)
    rw [this.1, this.2]
    exact a1 j hj
  · intro j hj
    rw [hK j (by omega)]
    exact a2 j hj
  · intro j hj
    rw [hT j (by omega), hS j (by omega), hU j (by omega)]
    exact a3 j hj
  · intro q j hj
    by_cases e : 140 * tx.toInt.toNat + j = i.toInt.toNat
    · rw [e]
      exact hcl q
    · rw [hT _ e, hS _ e, hU _ e]
      obtain ⟨z1, z2⟩ := d (hw q) j (by omega)
      refine ⟨zCl_cong z1 (by omega) (fun k hk => hf k (by omega)), by omega⟩
/-- one sum, or a condition alone -/
theorem zRd_A {wr ta wr' ta' : Int32} {fC fV fD fK fT fS fU fC' fV' fD' fK' fT' fS' fU' : Nat → Int32} {tx i t s u x : Int32} {gC gV gK gT gS gU : Nat → Int32} {n0 k h : Nat} (hr : zRd wr ta fC fV fD fK fT fS fU tx gC gV gK gT gS gU n0) (hp : zPar wr' ta' fC' fV' fD' tx fC fV (520 * tx.toInt.toNat + (fD tx.toInt.toNat).toInt.toNat) k (fD tx.toInt.toNat).toInt.toNat h) (hw : wr'.toInt = -1 → wr.toInt = -1) (hta : ta.toInt + 2 ≤ ta'.toInt) (hh : wr'.toInt = -1 → h = 1)
    (eT : fT' = upd fT i.toNatClampNeg t) (eS : fS' = upd fS i.toNatClampNeg s) (eU : fU' = upd fU i.toNatClampNeg u) (eK : fK' = upd fK tx.toNatClampNeg x) (hi : i.toInt = 140 * tx.toInt + (fK tx.toInt.toNat).toInt) (ht : t.toInt = (fD tx.toInt.toNat).toInt) (hs : s.toInt = t.toInt) (hu : u.toInt = (fD' tx.toInt.toNat).toInt) (hx : x.toInt = (fK tx.toInt.toNat).toInt + 1) (h9 : ta'.toInt ≤ 258) : zRd wr' ta' fC' fV' fD' fK' fT' fS' fU' tx gC gV gK gT gS gU n0 := by
  have c := hp.2.2.1
  have c0 := hr.2.2.1
  refine zRd_new hr hw hta hp.1 hp.2.1 (by omega) (by omega) hi (zU eT).1 (zU eS).1 (zU eU).1 (zU eK).1 (Or.inl (by rw [(zU eK).2]; exact hx)) (fun q => ?_)
  rw [(zU eT).2, (zU eS).2, (zU eU).2, hs, hu, ht]
  have ho := zOk_par hp q (hh q)
  have e : (((fD tx.toInt.toNat).toInt.toNat : Nat) : Int) = (fD tx.toInt.toNat).toInt := by omega
  rw [e] at ho
  exact ⟨⟨by omega, Or.inl rfl, ho⟩, Int.le_refl _⟩
/-- a condition, and its sum -/
theorem zRd_C {wr ta wr1 ta1 wr' ta' : Int32} {fC fV fD fK fT fS fU fC1 fV1 fD1 fC' fV' fD' fK' fT' fS1 fS' fU' : Nat → Int32} {tx i t s1 s u x : Int32} {gC gV gK gT gS gU : Nat → Int32} {n0 k k1 h h1 : Nat} (hr : zRd wr ta fC fV fD fK fT fS fU tx gC gV gK gT gS gU n0) (hp1 : zPar wr1 ta1 fC1 fV1 fD1 tx fC fV (520 * tx.toInt.toNat + (fD tx.toInt.toNat).toInt.toNat) k1 (fD tx.toInt.toNat).toInt.toNat h1) (hp : zPar wr' ta' fC' fV' fD' tx fC1 fV1 (520 * tx.toInt.toNat + (fD1 tx.toInt.toNat).toInt.toNat) k (fD1 tx.toInt.toNat).toInt.toNat h) (hw : wr'.toInt = -1 → wr.toInt = -1) (hw1 : wr'.toInt = -1 → wr1.toInt = -1) (hta : ta.toInt + 2 ≤ ta'.toInt) (hh1 : h1 = 1) (hh : wr'.toInt = -1 → h = 1)
    (eT : fT' = upd fT i.toNatClampNeg t) (eS1 : fS1 = upd fS i.toNatClampNeg s1) (eS : fS' = upd fS1 i.toNatClampNeg s) (eU : fU' = upd fU i.toNatClampNeg u) (eK : fK' = upd fK tx.toNatClampNeg x) (hi : i.toInt = 140 * tx.toInt + (fK tx.toInt.toNat).toInt) (ht : t.toInt = (fD tx.toInt.toNat).toInt) (hs : s.toInt = (fD1 tx.toInt.toNat).toInt) (hu : u.toInt = (fD' tx.toInt.toNat).toInt) (hx : x.toInt = (fK tx.toInt.toNat).toInt + 1) (h9 : ta'.toInt ≤ 258) : zRd wr' ta' fC' fV' fD' fK' fT' fS' fU' tx gC gV gK gT gS gU n0 := by
  have c := hp.2.2.1
  have c1 := hp1.2.2.1
  have c0 := hr.2.2.1
  refine zRd_new hr hw hta ?_ hp.2.1 (by omega) (by omega) hi (zU eT).1 ?_ (zU eU).1 (zU eK).1 (Or.inl (by rw [(zU eK).2]; exact hx)) (fun q => ?_)
  · intro j hj
    have a := hp1.1 j hj
    have b := hp.1 j (by omega)
    rw [b.1, b.2]
    exact a
  · intro j hj
    rw [(zU eS).1 j hj]
    exact (zU eS1).1 j hj
  · rw [(zU eT).2, (zU eS).2, (zU eU).2, hs, hu, ht]
    have ho := zOk_par hp q (hh q)
    have ho1 := zOk_par hp1 (hw1 q) hh1
    have e : (((fD tx.toInt.toNat).toInt.toNat : Nat) : Int) = (fD tx.toInt.toNat).toInt := by omega
    have e1 : (((fD1 tx.toInt.toNat).toInt.toNat : Nat) : Int) = (fD1 tx.toInt.toNat).toInt := by omega
    rw [e1] at ho
    rw [e] at ho1
    exact ⟨⟨by omega, Or.inr (zOk_cong ho1 (by omega) (fun k hk => hp.1 k (by omega))), ho⟩, Int.le_refl _⟩
/-- a condition without its sum: a fault -/
theorem zRd_B {wr ta wr' ta' : Int32} {fC fV fD fK fT fS fU fC' fV' fD' fT' fS' : Nat → Int32} {tx i t s : Int32} {gC gV gK gT gS gU : Nat → Int32} {n0 k h st : Nat} (hr : zRd wr ta fC fV fD fK fT fS fU tx gC gV gK gT gS gU n0) (hp : zPar wr' ta' fC' fV' fD' tx fC fV (520 * tx.toInt.toNat + (fD tx.toInt.toNat).toInt.toNat) k st h) (hw : ¬ wr'.toInt = -1) (hta : ta.toInt + 2 ≤ ta'.toInt)
    (eT : fT' = upd fT i.toNatClampNeg t) (eS : fS' = upd fS i.toNatClampNeg s) (hi : i.toInt = 140 * tx.toInt + (fK tx.toInt.toNat).toInt) : zRd wr' ta' fC' fV' fD' fK fT' fS' fU tx gC gV gK gT gS gU n0 := by
  have c := hp.2.2.1
  have c0 := hr.2.2.1
  exact zRd_new hr (fun q => absurd q hw) hta hp.1 hp.2.1 (by omega) (by omega) hi (zU eT).1 (zU eS).1 (fun _ _ => rfl) (fun _ _ => rfl) (Or.inr ⟨rfl, hw⟩) (fun q => absurd q hw)
theorem zRd_0 {ta : Int32} {fC fV fD fK fT fS fU fD' fK' : Nat → Int32} {tx : Int32} {n0 : Nat} (hl : ∀ j : Nat, (fC j).toInt = 1 → 0 ≤ (fV j).toInt ∧ (fV j).toInt ≤ 5) (e1 : fD' = upd fD tx.toNatClampNeg 0) (e2 : fK' = upd fK tx.toNatClampNeg 0) (hta : ta.toInt = 0) (h0 : (n0 : Int) ≤ tx.toInt) (h4 : tx.toInt ≤ 4) : zRd (-1) ta fC fV fD' fK' fT fS fU tx fC fV fK fT fS fU n0 := by
  have z : (0 : Int32).toInt = 0 := by decide
  have d0 : (fD' tx.toInt.toNat).toInt = 0 := by rw [(zU e1).2]; exact z
  have k0 : (fK' tx.toInt.toNat).toInt = 0 := by rw [(zU e2).2]; exact z
  refine ⟨⟨fun _ _ => ⟨rfl, rfl⟩, fun j hj => (zU e2).1 j (by omega), fun _ _ => ⟨rfl, rfl, rfl⟩⟩, hl, by omega, fun _ c hc => ?_⟩
  omega
/-- the laws of before stay laws -/
theorem zRd_old {wr ta : Int32} {fC fV fD fK fT fS fU : Nat → Int32} {tx : Int32} {gC gV gK gT gS gU : Nat → Int32} {n0 n : Nat} (h : zRd wr ta fC fV fD fK fT fS fU tx gC gV gK gT gS gU n0) (hn : n < n0) (ho : zLw n gC gV gK gT gS gU) : zLw n fC fV fK fT fS fU := by
  obtain ⟨⟨a1, a2, a3⟩, b, c, d⟩ := h
  refine ⟨by rw [a2 n hn]; exact ho.1, fun j hj => ?_⟩
  rw [a2 n hn] at hj
  have hj2 := ho.1
  have q := a3 (140 * n + j) (by omega)
  rw [q.1, q.2.1, q.2.2]
  have z := ho.2 j hj
  have z0 := z.1
  exact zCl_cong z (by omega) (fun k hk => a1 k (by omega))
theorem zRd_law {wr ta : Int32} {fC fV fD fK fT fS fU : Nat → Int32} {tx : Int32} {gC gV gK gT gS gU : Nat → Int32} {n0 : Nat} (h : zRd wr ta fC fV fD fK fT fS fU tx gC gV gK gT gS gU n0) (hw : wr.toInt = -1) (hta : ta.toInt ≤ 258) : zLw tx.toInt.toNat fC fV fK fT fS fU := by
  obtain ⟨a, b, c, d⟩ := h
  refine ⟨by omega, fun j hj => ?_⟩
  have e : ((tx.toInt.toNat : Nat) : Int) = tx.toInt := by omega
  rw [e]
  exact (d hw j hj).1
