abbrev cX11_number : ByteArray := prog_13_method_34_code
def yX11_number : MethodName := ⟨RX11, "number", "(II)I"⟩
abbrev cX11_itemOf : ByteArray := prog_13_method_35_code
def yX11_itemOf : MethodName := ⟨RX11, "itemOf", "(II)I"⟩
abbrev cX11_highest : ByteArray := prog_13_method_36_code
def yX11_highest : MethodName := ⟨RX11, "highest", "(II)I"⟩
abbrev cX11_usual : ByteArray := prog_13_method_37_code
def yX11_usual : MethodName := ⟨RX11, "usual", "(II)I"⟩
abbrev cX11_items : ByteArray := prog_13_method_38_code
def yX11_items : MethodName := ⟨RX11, "items", "(I[III)V"⟩
abbrev cX11_readCourt : ByteArray := prog_13_method_39_code
def yX11_readCourt : MethodName := ⟨RX11, "readCourt", "()I"⟩
abbrev cX11_fault : ByteArray := prog_13_method_40_code
def yX11_fault : MethodName := ⟨RX11, "fault", "(I)I"⟩
abbrev cX11_takeCourt : ByteArray := prog_13_method_41_code
def yX11_takeCourt : MethodName := ⟨RX11, "takeCourt", "()I"⟩
abbrev cX11_text : ByteArray := prog_13_method_42_code
def yX11_text : MethodName := ⟨RX11, "text", "(I)I"⟩
theorem dX11_number_0 : decode cX11_number 0 = .ok (.aload_n 0, 1) := by decide +kernel
theorem dX11_number_1 : decode cX11_number 1 = .ok (.invokevirtual 112, 3) := by decide +kernel
theorem dX11_number_4 : decode cX11_number 4 = .ok (.invokestatic 115, 3) := by decide +kernel
theorem dX11_number_7 : decode cX11_number 7 = .ok (.ifCond .ne 9, 3) := by decide +kernel
theorem dX11_number_10 : decode cX11_number 10 = .ok (.aload_n 0, 1) := by decide +kernel
theorem dX11_number_11 : decode cX11_number 11 = .ok (.invokevirtual 109, 3) := by decide +kernel
theorem dX11_number_14 : decode cX11_number 14 = .ok (.iload_n 1, 1) := by decide +kernel
theorem dX11_number_15 : decode cX11_number 15 = .ok (.ireturn, 1) := by decide +kernel
theorem dX11_number_16 : decode cX11_number 16 = .ok (.aload_n 0, 1) := by decide +kernel
theorem dX11_number_17 : decode cX11_number 17 = .ok (.invokevirtual 96, 3) := by decide +kernel
theorem dX11_number_20 : decode cX11_number 20 = .ok (.bipush 48, 2) := by decide +kernel
theorem dX11_number_22 : decode cX11_number 22 = .ok (.isub, 1) := by decide +kernel
theorem dX11_number_23 : decode cX11_number 23 = .ok (.istore_n 3, 1) := by decide +kernel
theorem dX11_number_24 : decode cX11_number 24 = .ok (.aload_n 0, 1) := by decide +kernel
theorem dX11_number_25 : decode cX11_number 25 = .ok (.dup, 1) := by decide +kernel
theorem dX11_number_26 : decode cX11_number 26 = .ok (.getfield 93, 3) := by decide +kernel
theorem dX11_number_29 : decode cX11_number 29 = .ok (.iconst 1, 1) := by decide +kernel
theorem dX11_number_30 : decode cX11_number 30 = .ok (.iadd, 1) := by decide +kernel
theorem dX11_number_31 : decode cX11_number 31 = .ok (.putfield 93, 3) := by decide +kernel
theorem dX11_number_34 : decode cX11_number 34 = .ok (.aload_n 0, 1) := by decide +kernel
theorem dX11_number_35 : decode cX11_number 35 = .ok (.invokevirtual 96, 3) := by decide +kernel
theorem dX11_number_38 : decode cX11_number 38 = .ok (.invokestatic 115, 3) := by decide +kernel
theorem dX11_number_41 : decode cX11_number 41 = .ok (.ifCond .eq 26, 3) := by decide +kernel
theorem dX11_number_44 : decode cX11_number 44 = .ok (.bipush 10, 2) := by decide +kernel
theorem dX11_number_46 : decode cX11_number 46 = .ok (.iload_n 3, 1) := by decide +kernel
theorem dX11_number_47 : decode cX11_number 47 = .ok (.imul, 1) := by decide +kernel
theorem dX11_number_48 : decode cX11_number 48 = .ok (.aload_n 0, 1) := by decide +kernel
theorem dX11_number_49 : decode cX11_number 49 = .ok (.invokevirtual 96, 3) := by decide +kernel
theorem dX11_number_52 : decode cX11_number 52 = .ok (.iadd, 1) := by decide +kernel
theorem dX11_number_53 : decode cX11_number 53 = .ok (.bipush 48, 2) := by decide +kernel
theorem dX11_number_55 : decode cX11_number 55 = .ok (.isub, 1) := by decide +kernel
theorem dX11_number_56 : decode cX11_number 56 = .ok (.istore_n 3, 1) := by decide +kernel
theorem dX11_number_57 : decode cX11_number 57 = .ok (.aload_n 0, 1) := by decide +kernel
theorem dX11_number_58 : decode cX11_number 58 = .ok (.dup, 1) := by decide +kernel
theorem dX11_number_59 : decode cX11_number 59 = .ok (.getfield 93, 3) := by decide +kernel
theorem dX11_number_62 : decode cX11_number 62 = .ok (.iconst 1, 1) := by decide +kernel
theorem dX11_number_63 : decode cX11_number 63 = .ok (.iadd, 1) := by decide +kernel
theorem dX11_number_64 : decode cX11_number 64 = .ok (.putfield 93, 3) := by decide +kernel
theorem dX11_number_67 : decode cX11_number 67 = .ok (.aload_n 0, 1) := by decide +kernel
theorem dX11_number_68 : decode cX11_number 68 = .ok (.invokevirtual 96, 3) := by decide +kernel
theorem dX11_number_71 : decode cX11_number 71 = .ok (.invokestatic 115, 3) := by decide +kernel
theorem dX11_number_74 : decode cX11_number 74 = .ok (.ifCond .eq 10, 3) := by decide +kernel
theorem dX11_number_77 : decode cX11_number 77 = .ok (.aload_n 0, 1) := by decide +kernel
theorem dX11_number_78 : decode cX11_number 78 = .ok (.invokevirtual 109, 3) := by decide +kernel
theorem dX11_number_81 : decode cX11_number 81 = .ok (.goto 26, 3) := by decide +kernel
theorem dX11_number_84 : decode cX11_number 84 = .ok (.iload_n 3, 1) := by decide +kernel
theorem dX11_number_85 : decode cX11_number 85 = .ok (.iload_n 1, 1) := by decide +kernel
theorem dX11_number_86 : decode cX11_number 86 = .ok (.iload_n 2, 1) := by decide +kernel
theorem dX11_number_87 : decode cX11_number 87 = .ok (.invokestatic 198, 3) := by decide +kernel
theorem dX11_number_90 : decode cX11_number 90 = .ok (.ifCond .ne 17, 3) := by decide +kernel
theorem dX11_number_93 : decode cX11_number 93 = .ok (.aload_n 0, 1) := by decide +kernel
theorem dX11_number_94 : decode cX11_number 94 = .ok (.dup, 1) := by decide +kernel
theorem dX11_number_95 : decode cX11_number 95 = .ok (.getfield 93, 3) := by decide +kernel
theorem dX11_number_98 : decode cX11_number 98 = .ok (.iconst 1, 1) := by decide +kernel
theorem dX11_number_99 : decode cX11_number 99 = .ok (.isub, 1) := by decide +kernel
theorem dX11_number_100 : decode cX11_number 100 = .ok (.putfield 93, 3) := by decide +kernel
theorem dX11_number_103 : decode cX11_number 103 = .ok (.aload_n 0, 1) := by decide +kernel
theorem dX11_number_104 : decode cX11_number 104 = .ok (.invokevirtual 109, 3) := by decide +kernel
theorem dX11_number_107 : decode cX11_number 107 = .ok (.iload_n 3, 1) := by decide +kernel
theorem dX11_number_108 : decode cX11_number 108 = .ok (.ireturn, 1) := by decide +kernel
theorem dX11_itemOf_0 : decode cX11_itemOf 0 = .ok (.iload_n 0, 1) := by decide +kernel
theorem dX11_itemOf_1 : decode cX11_itemOf 1 = .ok (.lookupswitch 101 #[(98, 59), (115, 27)], 27) := by decide +kernel
theorem dX11_itemOf_28 : decode cX11_itemOf 28 = .ok (.iload_n 1, 1) := by decide +kernel
theorem dX11_itemOf_29 : decode cX11_itemOf 29 = .ok (.bipush 112, 2) := by decide +kernel
theorem dX11_itemOf_31 : decode cX11_itemOf 31 = .ok (.if_icmp .ne 7, 3) := by decide +kernel
theorem dX11_itemOf_34 : decode cX11_itemOf 34 = .ok (.iconst 0, 1) := by decide +kernel
theorem dX11_itemOf_35 : decode cX11_itemOf 35 = .ok (.goto 24, 3) := by decide +kernel
theorem dX11_itemOf_38 : decode cX11_itemOf 38 = .ok (.iload_n 1, 1) := by decide +kernel
theorem dX11_itemOf_39 : decode cX11_itemOf 39 = .ok (.bipush 102, 2) := by decide +kernel
theorem dX11_itemOf_41 : decode cX11_itemOf 41 = .ok (.if_icmp .ne 7, 3) := by decide +kernel
theorem dX11_itemOf_44 : decode cX11_itemOf 44 = .ok (.iconst 1, 1) := by decide +kernel
theorem dX11_itemOf_45 : decode cX11_itemOf 45 = .ok (.goto 14, 3) := by decide +kernel
theorem dX11_itemOf_48 : decode cX11_itemOf 48 = .ok (.iload_n 1, 1) := by decide +kernel
theorem dX11_itemOf_49 : decode cX11_itemOf 49 = .ok (.bipush 100, 2) := by decide +kernel
theorem dX11_itemOf_51 : decode cX11_itemOf 51 = .ok (.if_icmp .ne 7, 3) := by decide +kernel
theorem dX11_itemOf_54 : decode cX11_itemOf 54 = .ok (.iconst 2, 1) := by decide +kernel
theorem dX11_itemOf_55 : decode cX11_itemOf 55 = .ok (.goto 4, 3) := by decide +kernel
theorem dX11_itemOf_58 : decode cX11_itemOf 58 = .ok (.iconst (-1), 1) := by decide +kernel
theorem dX11_itemOf_59 : decode cX11_itemOf 59 = .ok (.ireturn, 1) := by decide +kernel
theorem dX11_itemOf_60 : decode cX11_itemOf 60 = .ok (.iload_n 1, 1) := by decide +kernel
theorem dX11_itemOf_61 : decode cX11_itemOf 61 = .ok (.bipush 102, 2) := by decide +kernel
theorem dX11_itemOf_63 : decode cX11_itemOf 63 = .ok (.if_icmp .ne 7, 3) := by decide +kernel
theorem dX11_itemOf_66 : decode cX11_itemOf 66 = .ok (.iconst 0, 1) := by decide +kernel
theorem dX11_itemOf_67 : decode cX11_itemOf 67 = .ok (.goto 34, 3) := by decide +kernel
theorem dX11_itemOf_70 : decode cX11_itemOf 70 = .ok (.iload_n 1, 1) := by decide +kernel
theorem dX11_itemOf_71 : decode cX11_itemOf 71 = .ok (.bipush 100, 2) := by decide +kernel
theorem dX11_itemOf_73 : decode cX11_itemOf 73 = .ok (.if_icmp .ne 7, 3) := by decide +kernel
theorem dX11_itemOf_76 : decode cX11_itemOf 76 = .ok (.iconst 1, 1) := by decide +kernel
theorem dX11_itemOf_77 : decode cX11_itemOf 77 = .ok (.goto 24, 3) := by decide +kernel
theorem dX11_itemOf_80 : decode cX11_itemOf 80 = .ok (.iload_n 1, 1) := by decide +kernel
theorem dX11_itemOf_81 : decode cX11_itemOf 81 = .ok (.bipush 119, 2) := by decide +kernel
theorem dX11_itemOf_83 : decode cX11_itemOf 83 = .ok (.if_icmp .ne 7, 3) := by decide +kernel
theorem dX11_itemOf_86 : decode cX11_itemOf 86 = .ok (.iconst 2, 1) := by decide +kernel
theorem dX11_itemOf_87 : decode cX11_itemOf 87 = .ok (.goto 14, 3) := by decide +kernel
theorem dX11_itemOf_90 : decode cX11_itemOf 90 = .ok (.iload_n 1, 1) := by decide +kernel
theorem dX11_itemOf_91 : decode cX11_itemOf 91 = .ok (.bipush 121, 2) := by decide +kernel
theorem dX11_itemOf_93 : decode cX11_itemOf 93 = .ok (.if_icmp .ne 7, 3) := by decide +kernel
theorem dX11_itemOf_96 : decode cX11_itemOf 96 = .ok (.iconst 3, 1) := by decide +kernel
theorem dX11_itemOf_97 : decode cX11_itemOf 97 = .ok (.goto 4, 3) := by decide +kernel
theorem dX11_itemOf_100 : decode cX11_itemOf 100 = .ok (.iconst (-1), 1) := by decide +kernel
theorem dX11_itemOf_101 : decode cX11_itemOf 101 = .ok (.ireturn, 1) := by decide +kernel
theorem dX11_itemOf_102 : decode cX11_itemOf 102 = .ok (.iload_n 1, 1) := by decide +kernel
theorem dX11_itemOf_103 : decode cX11_itemOf 103 = .ok (.bipush 115, 2) := by decide +kernel
theorem dX11_itemOf_105 : decode cX11_itemOf 105 = .ok (.if_icmp .ne 7, 3) := by decide +kernel
theorem dX11_itemOf_108 : decode cX11_itemOf 108 = .ok (.iconst 0, 1) := by decide +kernel
theorem dX11_itemOf_109 : decode cX11_itemOf 109 = .ok (.goto 34, 3) := by decide +kernel
theorem dX11_itemOf_112 : decode cX11_itemOf 112 = .ok (.iload_n 1, 1) := by decide +kernel
theorem dX11_itemOf_113 : decode cX11_itemOf 113 = .ok (.bipush 102, 2) := by decide +kernel
theorem dX11_itemOf_115 : decode cX11_itemOf 115 = .ok (.if_icmp .ne 7, 3) := by decide +kernel
theorem dX11_itemOf_118 : decode cX11_itemOf 118 = .ok (.iconst 1, 1) := by decide +kernel
theorem dX11_itemOf_119 : decode cX11_itemOf 119 = .ok (.goto 24, 3) := by decide +kernel
theorem dX11_itemOf_122 : decode cX11_itemOf 122 = .ok (.iload_n 1, 1) := by decide +kernel
theorem dX11_itemOf_123 : decode cX11_itemOf 123 = .ok (.bipush 97, 2) := by decide +kernel
theorem dX11_itemOf_125 : decode cX11_itemOf 125 = .ok (.if_icmp .ne 7, 3) := by decide +kernel
theorem dX11_itemOf_128 : decode cX11_itemOf 128 = .ok (.iconst 2, 1) := by decide +kernel
theorem dX11_itemOf_129 : decode cX11_itemOf 129 = .ok (.goto 14, 3) := by decide +kernel
theorem dX11_itemOf_132 : decode cX11_itemOf 132 = .ok (.iload_n 1, 1) := by decide +kernel
theorem dX11_itemOf_133 : decode cX11_itemOf 133 = .ok (.bipush 107, 2) := by decide +kernel
theorem dX11_itemOf_135 : decode cX11_itemOf 135 = .ok (.if_icmp .ne 7, 3) := by decide +kernel
theorem dX11_itemOf_138 : decode cX11_itemOf 138 = .ok (.iconst 3, 1) := by decide +kernel
theorem dX11_itemOf_139 : decode cX11_itemOf 139 = .ok (.goto 4, 3) := by decide +kernel
theorem dX11_itemOf_142 : decode cX11_itemOf 142 = .ok (.iconst (-1), 1) := by decide +kernel
theorem dX11_itemOf_143 : decode cX11_itemOf 143 = .ok (.ireturn, 1) := by decide +kernel
theorem dX11_highest_0 : decode cX11_highest 0 = .ok (.iload_n 0, 1) := by decide +kernel
theorem dX11_highest_1 : decode cX11_highest 1 = .ok (.lookupswitch 52 #[(98, 39), (115, 27)], 27) := by decide +kernel
theorem dX11_highest_28 : decode cX11_highest 28 = .ok (.iload_n 1, 1) := by decide +kernel
theorem dX11_highest_29 : decode cX11_highest 29 = .ok (.ifCond .ne 8, 3) := by decide +kernel
theorem dX11_highest_32 : decode cX11_highest 32 = .ok (.bipush 99, 2) := by decide +kernel
theorem dX11_highest_34 : decode cX11_highest 34 = .ok (.goto 5, 3) := by decide +kernel
theorem dX11_highest_37 : decode cX11_highest 37 = .ok (.bipush 9, 2) := by decide +kernel
theorem dX11_highest_39 : decode cX11_highest 39 = .ok (.ireturn, 1) := by decide +kernel
theorem dX11_highest_40 : decode cX11_highest 40 = .ok (.iload_n 1, 1) := by decide +kernel
theorem dX11_highest_41 : decode cX11_highest 41 = .ok (.iconst 1, 1) := by decide +kernel
theorem dX11_highest_42 : decode cX11_highest 42 = .ok (.if_icmp .ne 8, 3) := by decide +kernel
theorem dX11_highest_45 : decode cX11_highest 45 = .ok (.bipush 99, 2) := by decide +kernel
theorem dX11_highest_47 : decode cX11_highest 47 = .ok (.goto 5, 3) := by decide +kernel
theorem dX11_highest_50 : decode cX11_highest 50 = .ok (.bipush 9, 2) := by decide +kernel
theorem dX11_highest_52 : decode cX11_highest 52 = .ok (.ireturn, 1) := by decide +kernel
theorem dX11_highest_53 : decode cX11_highest 53 = .ok (.iload_n 1, 1) := by decide +kernel
theorem dX11_highest_54 : decode cX11_highest 54 = .ok (.iconst 1, 1) := by decide +kernel
theorem dX11_highest_55 : decode cX11_highest 55 = .ok (.if_icmp .ne 8, 3) := by decide +kernel
theorem dX11_highest_58 : decode cX11_highest 58 = .ok (.bipush 30, 2) := by decide +kernel
theorem dX11_highest_60 : decode cX11_highest 60 = .ok (.goto 14, 3) := by decide +kernel
theorem dX11_highest_63 : decode cX11_highest 63 = .ok (.iload_n 1, 1) := by decide +kernel
theorem dX11_highest_64 : decode cX11_highest 64 = .ok (.iconst 3, 1) := by decide +kernel
theorem dX11_highest_65 : decode cX11_highest 65 = .ok (.if_icmp .ne 7, 3) := by decide +kernel
theorem dX11_highest_68 : decode cX11_highest 68 = .ok (.iconst 3, 1) := by decide +kernel
theorem dX11_highest_69 : decode cX11_highest 69 = .ok (.goto 5, 3) := by decide +kernel
theorem dX11_highest_72 : decode cX11_highest 72 = .ok (.bipush 9, 2) := by decide +kernel
theorem dX11_highest_74 : decode cX11_highest 74 = .ok (.ireturn, 1) := by decide +kernel
theorem dX11_usual_0 : decode cX11_usual 0 = .ok (.iload_n 0, 1) := by decide +kernel
theorem dX11_usual_1 : decode cX11_usual 1 = .ok (.lookupswitch 76 #[(98, 47), (115, 27)], 27) := by decide +kernel
theorem dX11_usual_28 : decode cX11_usual 28 = .ok (.iload_n 1, 1) := by decide +kernel
theorem dX11_usual_29 : decode cX11_usual 29 = .ok (.ifCond .ne 8, 3) := by decide +kernel
theorem dX11_usual_32 : decode cX11_usual 32 = .ok (.bipush 40, 2) := by decide +kernel
theorem dX11_usual_34 : decode cX11_usual 34 = .ok (.goto 13, 3) := by decide +kernel
theorem dX11_usual_37 : decode cX11_usual 37 = .ok (.iload_n 1, 1) := by decide +kernel
theorem dX11_usual_38 : decode cX11_usual 38 = .ok (.iconst 1, 1) := by decide +kernel
theorem dX11_usual_39 : decode cX11_usual 39 = .ok (.if_icmp .ne 7, 3) := by decide +kernel
theorem dX11_usual_42 : decode cX11_usual 42 = .ok (.iconst 5, 1) := by decide +kernel
theorem dX11_usual_43 : decode cX11_usual 43 = .ok (.goto 4, 3) := by decide +kernel
theorem dX11_usual_46 : decode cX11_usual 46 = .ok (.iconst 3, 1) := by decide +kernel
theorem dX11_usual_47 : decode cX11_usual 47 = .ok (.ireturn, 1) := by decide +kernel
theorem dX11_usual_48 : decode cX11_usual 48 = .ok (.iload_n 1, 1) := by decide +kernel
theorem dX11_usual_49 : decode cX11_usual 49 = .ok (.ifCond .ne 7, 3) := by decide +kernel
theorem dX11_usual_52 : decode cX11_usual 52 = .ok (.iconst 5, 1) := by decide +kernel
theorem dX11_usual_53 : decode cX11_usual 53 = .ok (.goto 23, 3) := by decide +kernel
theorem dX11_usual_56 : decode cX11_usual 56 = .ok (.iload_n 1, 1) := by decide +kernel
theorem dX11_usual_57 : decode cX11_usual 57 = .ok (.iconst 1, 1) := by decide +kernel
theorem dX11_usual_58 : decode cX11_usual 58 = .ok (.if_icmp .ne 8, 3) := by decide +kernel
theorem dX11_usual_61 : decode cX11_usual 61 = .ok (.bipush 20, 2) := by decide +kernel
theorem dX11_usual_63 : decode cX11_usual 63 = .ok (.goto 13, 3) := by decide +kernel
theorem dX11_usual_66 : decode cX11_usual 66 = .ok (.iload_n 1, 1) := by decide +kernel
theorem dX11_usual_67 : decode cX11_usual 67 = .ok (.iconst 2, 1) := by decide +kernel
theorem dX11_usual_68 : decode cX11_usual 68 = .ok (.if_icmp .ne 7, 3) := by decide +kernel
theorem dX11_usual_71 : decode cX11_usual 71 = .ok (.iconst 1, 1) := by decide +kernel
theorem dX11_usual_72 : decode cX11_usual 72 = .ok (.goto 4, 3) := by decide +kernel
theorem dX11_usual_75 : decode cX11_usual 75 = .ok (.iconst 2, 1) := by decide +kernel
theorem dX11_usual_76 : decode cX11_usual 76 = .ok (.ireturn, 1) := by decide +kernel
theorem dX11_usual_77 : decode cX11_usual 77 = .ok (.iload_n 1, 1) := by decide +kernel
theorem dX11_usual_78 : decode cX11_usual 78 = .ok (.iconst 2, 1) := by decide +kernel
theorem dX11_usual_79 : decode cX11_usual 79 = .ok (.if_icmp .ne 7, 3) := by decide +kernel
theorem dX11_usual_82 : decode cX11_usual 82 = .ok (.iconst 3, 1) := by decide +kernel
theorem dX11_usual_83 : decode cX11_usual 83 = .ok (.goto 13, 3) := by decide +kernel
theorem dX11_usual_86 : decode cX11_usual 86 = .ok (.iload_n 1, 1) := by decide +kernel
theorem dX11_usual_87 : decode cX11_usual 87 = .ok (.iconst 3, 1) := by decide +kernel
theorem dX11_usual_88 : decode cX11_usual 88 = .ok (.if_icmp .ne 7, 3) := by decide +kernel
theorem dX11_usual_91 : decode cX11_usual 91 = .ok (.iconst 0, 1) := by decide +kernel
theorem dX11_usual_92 : decode cX11_usual 92 = .ok (.goto 4, 3) := by decide +kernel
theorem dX11_usual_95 : decode cX11_usual 95 = .ok (.iconst 5, 1) := by decide +kernel
theorem dX11_usual_96 : decode cX11_usual 96 = .ok (.ireturn, 1) := by decide +kernel
theorem dX11_items_0 : decode cX11_items 0 = .ok (.iconst 0, 1) := by decide +kernel
theorem dX11_items_1 : decode cX11_items 1 = .ok (.istore 5, 2) := by decide +kernel
theorem dX11_items_3 : decode cX11_items 3 = .ok (.iload 5, 2) := by decide +kernel
theorem dX11_items_5 : decode cX11_items 5 = .ok (.iload 4, 2) := by decide +kernel
theorem dX11_items_7 : decode cX11_items 7 = .ok (.if_icmp .ge 21, 3) := by decide +kernel
theorem dX11_items_10 : decode cX11_items 10 = .ok (.aload_n 2, 1) := by decide +kernel
theorem dX11_items_11 : decode cX11_items 11 = .ok (.iload_n 3, 1) := by decide +kernel
theorem dX11_items_12 : decode cX11_items 12 = .ok (.iload 5, 2) := by decide +kernel
theorem dX11_items_14 : decode cX11_items 14 = .ok (.iadd, 1) := by decide +kernel
theorem dX11_items_15 : decode cX11_items 15 = .ok (.iload_n 1, 1) := by decide +kernel
theorem dX11_items_16 : decode cX11_items 16 = .ok (.iload 5, 2) := by decide +kernel
theorem dX11_items_18 : decode cX11_items 18 = .ok (.invokestatic 202, 3) := by decide +kernel
theorem dX11_items_21 : decode cX11_items 21 = .ok (.iastore, 1) := by decide +kernel
theorem dX11_items_22 : decode cX11_items 22 = .ok (.iinc 5 1, 3) := by decide +kernel
theorem dX11_items_25 : decode cX11_items 25 = .ok (.goto (-22), 3) := by decide +kernel
theorem dX11_items_28 : decode cX11_items 28 = .ok (.iconst 0, 1) := by decide +kernel
theorem dX11_items_29 : decode cX11_items 29 = .ok (.istore 5, 2) := by decide +kernel
theorem dX11_items_31 : decode cX11_items 31 = .ok (.iload_n 1, 1) := by decide +kernel
theorem dX11_items_32 : decode cX11_items 32 = .ok (.aload_n 0, 1) := by decide +kernel
theorem dX11_items_33 : decode cX11_items 33 = .ok (.invokevirtual 112, 3) := by decide +kernel
theorem dX11_items_36 : decode cX11_items 36 = .ok (.invokestatic 206, 3) := by decide +kernel
theorem dX11_items_39 : decode cX11_items 39 = .ok (.istore 6, 2) := by decide +kernel
theorem dX11_items_41 : decode cX11_items 41 = .ok (.aload_n 0, 1) := by decide +kernel
theorem dX11_items_42 : decode cX11_items 42 = .ok (.getfield 100, 3) := by decide +kernel
theorem dX11_items_45 : decode cX11_items 45 = .ok (.iconst (-1), 1) := by decide +kernel
theorem dX11_items_46 : decode cX11_items 46 = .ok (.if_icmp .ne 80, 3) := by decide +kernel
theorem dX11_items_49 : decode cX11_items 49 = .ok (.iload 6, 2) := by decide +kernel
theorem dX11_items_51 : decode cX11_items 51 = .ok (.iconst (-1), 1) := by decide +kernel
theorem dX11_items_52 : decode cX11_items 52 = .ok (.if_icmp .eq 74, 3) := by decide +kernel
theorem dX11_items_55 : decode cX11_items 55 = .ok (.iload 5, 2) := by decide +kernel
theorem dX11_items_57 : decode cX11_items 57 = .ok (.iload 6, 2) := by decide +kernel
theorem dX11_items_59 : decode cX11_items 59 = .ok (.invokestatic 209, 3) := by decide +kernel
theorem dX11_items_62 : decode cX11_items 62 = .ok (.ifCond .ne 64, 3) := by decide +kernel
theorem dX11_items_65 : decode cX11_items 65 = .ok (.iload 5, 2) := by decide +kernel
theorem dX11_items_67 : decode cX11_items 67 = .ok (.iconst 1, 1) := by decide +kernel
theorem dX11_items_68 : decode cX11_items 68 = .ok (.iload 6, 2) := by decide +kernel
theorem dX11_items_70 : decode cX11_items 70 = .ok (.ishl, 1) := by decide +kernel
theorem dX11_items_71 : decode cX11_items 71 = .ok (.ior, 1) := by decide +kernel
theorem dX11_items_72 : decode cX11_items 72 = .ok (.istore 5, 2) := by decide +kernel
theorem dX11_items_74 : decode cX11_items 74 = .ok (.aload_n 0, 1) := by decide +kernel
theorem dX11_items_75 : decode cX11_items 75 = .ok (.dup, 1) := by decide +kernel
theorem dX11_items_76 : decode cX11_items 76 = .ok (.getfield 93, 3) := by decide +kernel
theorem dX11_items_79 : decode cX11_items 79 = .ok (.iconst 1, 1) := by decide +kernel
theorem dX11_items_80 : decode cX11_items 80 = .ok (.iadd, 1) := by decide +kernel
theorem dX11_items_81 : decode cX11_items 81 = .ok (.putfield 93, 3) := by decide +kernel
theorem dX11_items_84 : decode cX11_items 84 = .ok (.aload_n 2, 1) := by decide +kernel
theorem dX11_items_85 : decode cX11_items 85 = .ok (.iload_n 3, 1) := by decide +kernel
theorem dX11_items_86 : decode cX11_items 86 = .ok (.iload 6, 2) := by decide +kernel
theorem dX11_items_88 : decode cX11_items 88 = .ok (.iadd, 1) := by decide +kernel
theorem dX11_items_89 : decode cX11_items 89 = .ok (.aload_n 0, 1) := by decide +kernel
theorem dX11_items_90 : decode cX11_items 90 = .ok (.iconst 0, 1) := by decide +kernel
theorem dX11_items_91 : decode cX11_items 91 = .ok (.iload_n 1, 1) := by decide +kernel
theorem dX11_items_92 : decode cX11_items 92 = .ok (.iload 6, 2) := by decide +kernel
theorem dX11_items_94 : decode cX11_items 94 = .ok (.invokestatic 213, 3) := by decide +kernel
theorem dX11_items_97 : decode cX11_items 97 = .ok (.invokevirtual 216, 3) := by decide +kernel
theorem dX11_items_100 : decode cX11_items 100 = .ok (.iastore, 1) := by decide +kernel
theorem dX11_items_101 : decode cX11_items 101 = .ok (.aload_n 0, 1) := by decide +kernel
theorem dX11_items_102 : decode cX11_items 102 = .ok (.getfield 100, 3) := by decide +kernel
theorem dX11_items_105 : decode cX11_items 105 = .ok (.iconst (-1), 1) := by decide +kernel
theorem dX11_items_106 : decode cX11_items 106 = .ok (.if_icmp .ne 14, 3) := by decide +kernel
theorem dX11_items_109 : decode cX11_items 109 = .ok (.iload_n 1, 1) := by decide +kernel
theorem dX11_items_110 : decode cX11_items 110 = .ok (.aload_n 0, 1) := by decide +kernel
theorem dX11_items_111 : decode cX11_items 111 = .ok (.invokevirtual 112, 3) := by decide +kernel
theorem dX11_items_114 : decode cX11_items 114 = .ok (.invokestatic 206, 3) := by decide +kernel
theorem dX11_items_117 : decode cX11_items 117 = .ok (.goto 4, 3) := by decide +kernel
theorem dX11_items_120 : decode cX11_items 120 = .ok (.iconst (-1), 1) := by decide +kernel
theorem dX11_items_121 : decode cX11_items 121 = .ok (.istore 6, 2) := by decide +kernel
theorem dX11_items_123 : decode cX11_items 123 = .ok (.goto (-82), 3) := by decide +kernel
theorem dX11_items_126 : decode cX11_items 126 = .ok (.return_, 1) := by decide +kernel
theorem dX11_readCourt_0 : decode cX11_readCourt 0 = .ok (.aload_n 0, 1) := by decide +kernel
theorem dX11_readCourt_1 : decode cX11_readCourt 1 = .ok (.iconst 0, 1) := by decide +kernel
theorem dX11_readCourt_2 : decode cX11_readCourt 2 = .ok (.putfield 93, 3) := by decide +kernel
theorem dX11_readCourt_5 : decode cX11_readCourt 5 = .ok (.aload_n 0, 1) := by decide +kernel
theorem dX11_readCourt_6 : decode cX11_readCourt 6 = .ok (.iconst (-1), 1) := by decide +kernel
theorem dX11_readCourt_7 : decode cX11_readCourt 7 = .ok (.putfield 100, 3) := by decide +kernel
theorem dX11_readCourt_10 : decode cX11_readCourt 10 = .ok (.aload_n 0, 1) := by decide +kernel
theorem dX11_readCourt_11 : decode cX11_readCourt 11 = .ok (.iconst 0, 1) := by decide +kernel
theorem dX11_readCourt_12 : decode cX11_readCourt 12 = .ok (.putfield 219, 3) := by decide +kernel
theorem dX11_readCourt_15 : decode cX11_readCourt 15 = .ok (.aload_n 0, 1) := by decide +kernel
theorem dX11_readCourt_16 : decode cX11_readCourt 16 = .ok (.iconst 0, 1) := by decide +kernel
theorem dX11_readCourt_17 : decode cX11_readCourt 17 = .ok (.putfield 222, 3) := by decide +kernel
theorem dX11_readCourt_20 : decode cX11_readCourt 20 = .ok (.iconst 0, 1) := by decide +kernel
theorem dX11_readCourt_21 : decode cX11_readCourt 21 = .ok (.istore_n 1, 1) := by decide +kernel
theorem dX11_readCourt_22 : decode cX11_readCourt 22 = .ok (.iconst 0, 1) := by decide +kernel
theorem dX11_readCourt_23 : decode cX11_readCourt 23 = .ok (.istore_n 2, 1) := by decide +kernel
theorem dX11_readCourt_24 : decode cX11_readCourt 24 = .ok (.iload_n 2, 1) := by decide +kernel
theorem dX11_readCourt_25 : decode cX11_readCourt 25 = .ok (.iconst 3, 1) := by decide +kernel
theorem dX11_readCourt_26 : decode cX11_readCourt 26 = .ok (.if_icmp .ge 21, 3) := by decide +kernel
theorem dX11_readCourt_29 : decode cX11_readCourt 29 = .ok (.aload_n 0, 1) := by decide +kernel
theorem dX11_readCourt_30 : decode cX11_readCourt 30 = .ok (.getfield 40, 3) := by decide +kernel
theorem dX11_readCourt_33 : decode cX11_readCourt 33 = .ok (.iload_n 2, 1) := by decide +kernel
theorem dX11_readCourt_34 : decode cX11_readCourt 34 = .ok (.bipush 115, 2) := by decide +kernel
theorem dX11_readCourt_36 : decode cX11_readCourt 36 = .ok (.iload_n 2, 1) := by decide +kernel
theorem dX11_readCourt_37 : decode cX11_readCourt 37 = .ok (.invokestatic 202, 3) := by decide +kernel
theorem dX11_readCourt_40 : decode cX11_readCourt 40 = .ok (.iastore, 1) := by decide +kernel
theorem dX11_readCourt_41 : decode cX11_readCourt 41 = .ok (.iinc 2 1, 3) := by decide +kernel
theorem dX11_readCourt_44 : decode cX11_readCourt 44 = .ok (.goto (-20), 3) := by decide +kernel
theorem dX11_readCourt_47 : decode cX11_readCourt 47 = .ok (.iconst 1, 1) := by decide +kernel
theorem dX11_readCourt_48 : decode cX11_readCourt 48 = .ok (.istore_n 2, 1) := by decide +kernel
theorem dX11_readCourt_49 : decode cX11_readCourt 49 = .ok (.iload_n 2, 1) := by decide +kernel
theorem dX11_readCourt_50 : decode cX11_readCourt 50 = .ok (.ifCond .eq 207, 3) := by decide +kernel
theorem dX11_readCourt_53 : decode cX11_readCourt 53 = .ok (.aload_n 0, 1) := by decide +kernel
theorem dX11_readCourt_54 : decode cX11_readCourt 54 = .ok (.getfield 100, 3) := by decide +kernel
theorem dX11_readCourt_57 : decode cX11_readCourt 57 = .ok (.iconst (-1), 1) := by decide +kernel
theorem dX11_readCourt_58 : decode cX11_readCourt 58 = .ok (.if_icmp .ne 199, 3) := by decide +kernel
theorem dX11_readCourt_61 : decode cX11_readCourt 61 = .ok (.aload_n 0, 1) := by decide +kernel
theorem dX11_readCourt_62 : decode cX11_readCourt 62 = .ok (.invokevirtual 112, 3) := by decide +kernel
theorem dX11_readCourt_65 : decode cX11_readCourt 65 = .ok (.istore_n 3, 1) := by decide +kernel
theorem dX11_readCourt_66 : decode cX11_readCourt 66 = .ok (.iload_n 3, 1) := by decide +kernel
theorem dX11_readCourt_67 : decode cX11_readCourt 67 = .ok (.bipush 115, 2) := by decide +kernel
theorem dX11_readCourt_69 : decode cX11_readCourt 69 = .ok (.if_icmp .ne 33, 3) := by decide +kernel
theorem dX11_readCourt_72 : decode cX11_readCourt 72 = .ok (.iload_n 1, 1) := by decide +kernel
theorem dX11_readCourt_73 : decode cX11_readCourt 73 = .ok (.ifCond .ne 29, 3) := by decide +kernel
theorem dX11_readCourt_76 : decode cX11_readCourt 76 = .ok (.iconst 1, 1) := by decide +kernel
theorem dX11_readCourt_77 : decode cX11_readCourt 77 = .ok (.istore_n 1, 1) := by decide +kernel
theorem dX11_readCourt_78 : decode cX11_readCourt 78 = .ok (.aload_n 0, 1) := by decide +kernel
theorem dX11_readCourt_79 : decode cX11_readCourt 79 = .ok (.dup, 1) := by decide +kernel
theorem dX11_readCourt_80 : decode cX11_readCourt 80 = .ok (.getfield 93, 3) := by decide +kernel
theorem dX11_readCourt_83 : decode cX11_readCourt 83 = .ok (.iconst 1, 1) := by decide +kernel
theorem dX11_readCourt_84 : decode cX11_readCourt 84 = .ok (.iadd, 1) := by decide +kernel
theorem dX11_readCourt_85 : decode cX11_readCourt 85 = .ok (.putfield 93, 3) := by decide +kernel
theorem dX11_readCourt_88 : decode cX11_readCourt 88 = .ok (.aload_n 0, 1) := by decide +kernel
theorem dX11_readCourt_89 : decode cX11_readCourt 89 = .ok (.iload_n 3, 1) := by decide +kernel
theorem dX11_readCourt_90 : decode cX11_readCourt 90 = .ok (.aload_n 0, 1) := by decide +kernel
theorem dX11_readCourt_91 : decode cX11_readCourt 91 = .ok (.getfield 40, 3) := by decide +kernel
theorem dX11_readCourt_94 : decode cX11_readCourt 94 = .ok (.iconst 0, 1) := by decide +kernel
theorem dX11_readCourt_95 : decode cX11_readCourt 95 = .ok (.iconst 3, 1) := by decide +kernel
theorem dX11_readCourt_96 : decode cX11_readCourt 96 = .ok (.invokevirtual 225, 3) := by decide +kernel
theorem dX11_readCourt_99 : decode cX11_readCourt 99 = .ok (.goto 114, 3) := by decide +kernel
theorem dX11_readCourt_102 : decode cX11_readCourt 102 = .ok (.iload_n 3, 1) := by decide +kernel
theorem dX11_readCourt_103 : decode cX11_readCourt 103 = .ok (.bipush 98, 2) := by decide +kernel
theorem dX11_readCourt_105 : decode cX11_readCourt 105 = .ok (.if_icmp .ne 51, 3) := by decide +kernel
theorem dX11_readCourt_108 : decode cX11_readCourt 108 = .ok (.aload_n 0, 1) := by decide +kernel
theorem dX11_readCourt_109 : decode cX11_readCourt 109 = .ok (.getfield 219, 3) := by decide +kernel
theorem dX11_readCourt_112 : decode cX11_readCourt 112 = .ok (.bipush 6, 2) := by decide +kernel
theorem dX11_readCourt_114 : decode cX11_readCourt 114 = .ok (.if_icmp .ge 42, 3) := by decide +kernel
theorem dX11_readCourt_117 : decode cX11_readCourt 117 = .ok (.aload_n 0, 1) := by decide +kernel
theorem dX11_readCourt_118 : decode cX11_readCourt 118 = .ok (.dup, 1) := by decide +kernel
theorem dX11_readCourt_119 : decode cX11_readCourt 119 = .ok (.getfield 93, 3) := by decide +kernel
theorem dX11_readCourt_122 : decode cX11_readCourt 122 = .ok (.iconst 1, 1) := by decide +kernel
theorem dX11_readCourt_123 : decode cX11_readCourt 123 = .ok (.iadd, 1) := by decide +kernel
theorem dX11_readCourt_124 : decode cX11_readCourt 124 = .ok (.putfield 93, 3) := by decide +kernel
theorem dX11_readCourt_127 : decode cX11_readCourt 127 = .ok (.aload_n 0, 1) := by decide +kernel
theorem dX11_readCourt_128 : decode cX11_readCourt 128 = .ok (.iload_n 3, 1) := by decide +kernel
theorem dX11_readCourt_129 : decode cX11_readCourt 129 = .ok (.aload_n 0, 1) := by decide +kernel
theorem dX11_readCourt_130 : decode cX11_readCourt 130 = .ok (.getfield 43, 3) := by decide +kernel
theorem dX11_readCourt_133 : decode cX11_readCourt 133 = .ok (.iconst 4, 1) := by decide +kernel
theorem dX11_readCourt_134 : decode cX11_readCourt 134 = .ok (.aload_n 0, 1) := by decide +kernel
theorem dX11_readCourt_135 : decode cX11_readCourt 135 = .ok (.getfield 219, 3) := by decide +kernel
theorem dX11_readCourt_138 : decode cX11_readCourt 138 = .ok (.imul, 1) := by decide +kernel
theorem dX11_readCourt_139 : decode cX11_readCourt 139 = .ok (.iconst 4, 1) := by decide +kernel
theorem dX11_readCourt_140 : decode cX11_readCourt 140 = .ok (.invokevirtual 225, 3) := by decide +kernel
theorem dX11_readCourt_143 : decode cX11_readCourt 143 = .ok (.aload_n 0, 1) := by decide +kernel
theorem dX11_readCourt_144 : decode cX11_readCourt 144 = .ok (.dup, 1) := by decide +kernel
theorem dX11_readCourt_145 : decode cX11_readCourt 145 = .ok (.getfield 219, 3) := by decide +kernel
theorem dX11_readCourt_148 : decode cX11_readCourt 148 = .ok (.iconst 1, 1) := by decide +kernel
theorem dX11_readCourt_149 : decode cX11_readCourt 149 = .ok (.iadd, 1) := by decide +kernel
theorem dX11_readCourt_150 : decode cX11_readCourt 150 = .ok (.putfield 219, 3) := by decide +kernel
theorem dX11_readCourt_153 : decode cX11_readCourt 153 = .ok (.goto 60, 3) := by decide +kernel
theorem dX11_readCourt_156 : decode cX11_readCourt 156 = .ok (.iload_n 3, 1) := by decide +kernel
theorem dX11_readCourt_157 : decode cX11_readCourt 157 = .ok (.bipush 112, 2) := by decide +kernel
theorem dX11_readCourt_159 : decode cX11_readCourt 159 = .ok (.if_icmp .ne 50, 3) := by decide +kernel
theorem dX11_readCourt_162 : decode cX11_readCourt 162 = .ok (.aload_n 0, 1) := by decide +kernel
theorem dX11_readCourt_163 : decode cX11_readCourt 163 = .ok (.getfield 222, 3) := by decide +kernel
theorem dX11_readCourt_166 : decode cX11_readCourt 166 = .ok (.iconst 5, 1) := by decide +kernel
theorem dX11_readCourt_167 : decode cX11_readCourt 167 = .ok (.if_icmp .ge 42, 3) := by decide +kernel
theorem dX11_readCourt_170 : decode cX11_readCourt 170 = .ok (.aload_n 0, 1) := by decide +kernel
theorem dX11_readCourt_171 : decode cX11_readCourt 171 = .ok (.dup, 1) := by decide +kernel
theorem dX11_readCourt_172 : decode cX11_readCourt 172 = .ok (.getfield 93, 3) := by decide +kernel
theorem dX11_readCourt_175 : decode cX11_readCourt 175 = .ok (.iconst 1, 1) := by decide +kernel
theorem dX11_readCourt_176 : decode cX11_readCourt 176 = .ok (.iadd, 1) := by decide +kernel
theorem dX11_readCourt_177 : decode cX11_readCourt 177 = .ok (.putfield 93, 3) := by decide +kernel
theorem dX11_readCourt_180 : decode cX11_readCourt 180 = .ok (.aload_n 0, 1) := by decide +kernel
theorem dX11_readCourt_181 : decode cX11_readCourt 181 = .ok (.iload_n 3, 1) := by decide +kernel
theorem dX11_readCourt_182 : decode cX11_readCourt 182 = .ok (.aload_n 0, 1) := by decide +kernel
theorem dX11_readCourt_183 : decode cX11_readCourt 183 = .ok (.getfield 46, 3) := by decide +kernel
theorem dX11_readCourt_186 : decode cX11_readCourt 186 = .ok (.iconst 4, 1) := by decide +kernel
theorem dX11_readCourt_187 : decode cX11_readCourt 187 = .ok (.aload_n 0, 1) := by decide +kernel
theorem dX11_readCourt_188 : decode cX11_readCourt 188 = .ok (.getfield 222, 3) := by decide +kernel
theorem dX11_readCourt_191 : decode cX11_readCourt 191 = .ok (.imul, 1) := by decide +kernel
theorem dX11_readCourt_192 : decode cX11_readCourt 192 = .ok (.iconst 4, 1) := by decide +kernel
theorem dX11_readCourt_193 : decode cX11_readCourt 193 = .ok (.invokevirtual 225, 3) := by decide +kernel
theorem dX11_readCourt_196 : decode cX11_readCourt 196 = .ok (.aload_n 0, 1) := by decide +kernel
theorem dX11_readCourt_197 : decode cX11_readCourt 197 = .ok (.dup, 1) := by decide +kernel
theorem dX11_readCourt_198 : decode cX11_readCourt 198 = .ok (.getfield 222, 3) := by decide +kernel
theorem dX11_readCourt_201 : decode cX11_readCourt 201 = .ok (.iconst 1, 1) := by decide +kernel
theorem dX11_readCourt_202 : decode cX11_readCourt 202 = .ok (.iadd, 1) := by decide +kernel
theorem dX11_readCourt_203 : decode cX11_readCourt 203 = .ok (.putfield 222, 3) := by decide +kernel
theorem dX11_readCourt_206 : decode cX11_readCourt 206 = .ok (.goto 7, 3) := by decide +kernel
theorem dX11_readCourt_209 : decode cX11_readCourt 209 = .ok (.aload_n 0, 1) := by decide +kernel
theorem dX11_readCourt_210 : decode cX11_readCourt 210 = .ok (.invokevirtual 109, 3) := by decide +kernel
theorem dX11_readCourt_213 : decode cX11_readCourt 213 = .ok (.aload_n 0, 1) := by decide +kernel
theorem dX11_readCourt_214 : decode cX11_readCourt 214 = .ok (.getfield 100, 3) := by decide +kernel
theorem dX11_readCourt_217 : decode cX11_readCourt 217 = .ok (.iconst (-1), 1) := by decide +kernel
theorem dX11_readCourt_218 : decode cX11_readCourt 218 = .ok (.if_icmp .ne 16, 3) := by decide +kernel
theorem dX11_readCourt_221 : decode cX11_readCourt 221 = .ok (.aload_n 0, 1) := by decide +kernel
theorem dX11_readCourt_222 : decode cX11_readCourt 222 = .ok (.invokevirtual 112, 3) := by decide +kernel
theorem dX11_readCourt_225 : decode cX11_readCourt 225 = .ok (.bipush 59, 2) := by decide +kernel
theorem dX11_readCourt_227 : decode cX11_readCourt 227 = .ok (.if_icmp .ne 7, 3) := by decide +kernel
theorem dX11_readCourt_230 : decode cX11_readCourt 230 = .ok (.iconst 1, 1) := by decide +kernel
theorem dX11_readCourt_231 : decode cX11_readCourt 231 = .ok (.goto 4, 3) := by decide +kernel
theorem dX11_readCourt_234 : decode cX11_readCourt 234 = .ok (.iconst 0, 1) := by decide +kernel
theorem dX11_readCourt_235 : decode cX11_readCourt 235 = .ok (.istore_n 2, 1) := by decide +kernel
theorem dX11_readCourt_236 : decode cX11_readCourt 236 = .ok (.aload_n 0, 1) := by decide +kernel
theorem dX11_readCourt_237 : decode cX11_readCourt 237 = .ok (.dup, 1) := by decide +kernel
theorem dX11_readCourt_238 : decode cX11_readCourt 238 = .ok (.getfield 93, 3) := by decide +kernel
theorem dX11_readCourt_241 : decode cX11_readCourt 241 = .ok (.iload_n 2, 1) := by decide +kernel
theorem dX11_readCourt_242 : decode cX11_readCourt 242 = .ok (.ifCond .eq 7, 3) := by decide +kernel
theorem dX11_readCourt_245 : decode cX11_readCourt 245 = .ok (.iconst 1, 1) := by decide +kernel
theorem dX11_readCourt_246 : decode cX11_readCourt 246 = .ok (.goto 4, 3) := by decide +kernel
theorem dX11_readCourt_249 : decode cX11_readCourt 249 = .ok (.iconst 0, 1) := by decide +kernel
theorem dX11_readCourt_250 : decode cX11_readCourt 250 = .ok (.iadd, 1) := by decide +kernel
theorem dX11_readCourt_251 : decode cX11_readCourt 251 = .ok (.putfield 93, 3) := by decide +kernel
theorem dX11_readCourt_254 : decode cX11_readCourt 254 = .ok (.goto (-205), 3) := by decide +kernel
theorem dX11_readCourt_257 : decode cX11_readCourt 257 = .ok (.aload_n 0, 1) := by decide +kernel
theorem dX11_readCourt_258 : decode cX11_readCourt 258 = .ok (.getfield 100, 3) := by decide +kernel
theorem dX11_readCourt_261 : decode cX11_readCourt 261 = .ok (.iconst (-1), 1) := by decide +kernel
theorem dX11_readCourt_262 : decode cX11_readCourt 262 = .ok (.if_icmp .ne 29, 3) := by decide +kernel
theorem dX11_readCourt_265 : decode cX11_readCourt 265 = .ok (.aload_n 0, 1) := by decide +kernel
theorem dX11_readCourt_266 : decode cX11_readCourt 266 = .ok (.invokevirtual 112, 3) := by decide +kernel
theorem dX11_readCourt_269 : decode cX11_readCourt 269 = .ok (.iconst (-1), 1) := by decide +kernel
theorem dX11_readCourt_270 : decode cX11_readCourt 270 = .ok (.if_icmp .ne 17, 3) := by decide +kernel
theorem dX11_readCourt_273 : decode cX11_readCourt 273 = .ok (.aload_n 0, 1) := by decide +kernel
theorem dX11_readCourt_274 : decode cX11_readCourt 274 = .ok (.getfield 219, 3) := by decide +kernel
theorem dX11_readCourt_277 : decode cX11_readCourt 277 = .ok (.ifCond .eq 10, 3) := by decide +kernel
theorem dX11_readCourt_280 : decode cX11_readCourt 280 = .ok (.aload_n 0, 1) := by decide +kernel
theorem dX11_readCourt_281 : decode cX11_readCourt 281 = .ok (.getfield 222, 3) := by decide +kernel
theorem dX11_readCourt_284 : decode cX11_readCourt 284 = .ok (.ifCond .ne 7, 3) := by decide +kernel
theorem dX11_readCourt_287 : decode cX11_readCourt 287 = .ok (.aload_n 0, 1) := by decide +kernel
theorem dX11_readCourt_288 : decode cX11_readCourt 288 = .ok (.invokevirtual 109, 3) := by decide +kernel
theorem dX11_readCourt_291 : decode cX11_readCourt 291 = .ok (.aload_n 0, 1) := by decide +kernel
theorem dX11_readCourt_292 : decode cX11_readCourt 292 = .ok (.getfield 100, 3) := by decide +kernel
theorem dX11_readCourt_295 : decode cX11_readCourt 295 = .ok (.ireturn, 1) := by decide +kernel
theorem dX11_fault_0 : decode cX11_fault 0 = .ok (.iload_n 1, 1) := by decide +kernel
theorem dX11_fault_1 : decode cX11_fault 1 = .ok (.ifCond .ne 10, 3) := by decide +kernel
theorem dX11_fault_4 : decode cX11_fault 4 = .ok (.aload_n 0, 1) := by decide +kernel
theorem dX11_fault_5 : decode cX11_fault 5 = .ok (.invokevirtual 229, 3) := by decide +kernel
theorem dX11_fault_8 : decode cX11_fault 8 = .ok (.goto 18, 3) := by decide +kernel
theorem dX11_fault_11 : decode cX11_fault 11 = .ok (.iload_n 1, 1) := by decide +kernel
theorem dX11_fault_12 : decode cX11_fault 12 = .ok (.iconst 1, 1) := by decide +kernel
theorem dX11_fault_13 : decode cX11_fault 13 = .ok (.if_icmp .ne 11, 3) := by decide +kernel
theorem dX11_fault_16 : decode cX11_fault 16 = .ok (.aload_n 0, 1) := by decide +kernel
theorem dX11_fault_17 : decode cX11_fault 17 = .ok (.iconst 4, 1) := by decide +kernel
theorem dX11_fault_18 : decode cX11_fault 18 = .ok (.invokevirtual 232, 3) := by decide +kernel
theorem dX11_fault_21 : decode cX11_fault 21 = .ok (.goto 5, 3) := by decide +kernel
theorem dX11_fault_24 : decode cX11_fault 24 = .ok (.bipush (-2), 2) := by decide +kernel
theorem dX11_fault_26 : decode cX11_fault 26 = .ok (.ireturn, 1) := by decide +kernel
theorem dX11_takeCourt_0 : decode cX11_takeCourt 0 = .ok (.aload_n 0, 1) := by decide +kernel
theorem dX11_takeCourt_1 : decode cX11_takeCourt 1 = .ok (.aload_n 0, 1) := by decide +kernel
theorem dX11_takeCourt_2 : decode cX11_takeCourt 2 = .ok (.getfield 219, 3) := by decide +kernel
theorem dX11_takeCourt_5 : decode cX11_takeCourt 5 = .ok (.putfield 235, 3) := by decide +kernel
theorem dX11_takeCourt_8 : decode cX11_takeCourt 8 = .ok (.aload_n 0, 1) := by decide +kernel
theorem dX11_takeCourt_9 : decode cX11_takeCourt 9 = .ok (.aload_n 0, 1) := by decide +kernel
theorem dX11_takeCourt_10 : decode cX11_takeCourt 10 = .ok (.getfield 222, 3) := by decide +kernel
theorem dX11_takeCourt_13 : decode cX11_takeCourt 13 = .ok (.putfield 238, 3) := by decide +kernel
theorem dX11_takeCourt_16 : decode cX11_takeCourt 16 = .ok (.iconst 0, 1) := by decide +kernel
theorem dX11_takeCourt_17 : decode cX11_takeCourt 17 = .ok (.istore_n 1, 1) := by decide +kernel
theorem dX11_takeCourt_18 : decode cX11_takeCourt 18 = .ok (.iload_n 1, 1) := by decide +kernel
theorem dX11_takeCourt_19 : decode cX11_takeCourt 19 = .ok (.iconst 3, 1) := by decide +kernel
theorem dX11_takeCourt_20 : decode cX11_takeCourt 20 = .ok (.if_icmp .ge 21, 3) := by decide +kernel
theorem dX11_takeCourt_23 : decode cX11_takeCourt 23 = .ok (.aload_n 0, 1) := by decide +kernel
theorem dX11_takeCourt_24 : decode cX11_takeCourt 24 = .ok (.getfield 49, 3) := by decide +kernel
theorem dX11_takeCourt_27 : decode cX11_takeCourt 27 = .ok (.iload_n 1, 1) := by decide +kernel
theorem dX11_takeCourt_28 : decode cX11_takeCourt 28 = .ok (.aload_n 0, 1) := by decide +kernel
theorem dX11_takeCourt_29 : decode cX11_takeCourt 29 = .ok (.getfield 40, 3) := by decide +kernel
theorem dX11_takeCourt_32 : decode cX11_takeCourt 32 = .ok (.iload_n 1, 1) := by decide +kernel
theorem dX11_takeCourt_33 : decode cX11_takeCourt 33 = .ok (.iaload, 1) := by decide +kernel
theorem dX11_takeCourt_34 : decode cX11_takeCourt 34 = .ok (.iastore, 1) := by decide +kernel
theorem dX11_takeCourt_35 : decode cX11_takeCourt 35 = .ok (.iinc 1 1, 3) := by decide +kernel
theorem dX11_takeCourt_38 : decode cX11_takeCourt 38 = .ok (.goto (-20), 3) := by decide +kernel
theorem dX11_takeCourt_41 : decode cX11_takeCourt 41 = .ok (.iconst 0, 1) := by decide +kernel
theorem dX11_takeCourt_42 : decode cX11_takeCourt 42 = .ok (.istore_n 1, 1) := by decide +kernel
theorem dX11_takeCourt_43 : decode cX11_takeCourt 43 = .ok (.iload_n 1, 1) := by decide +kernel
theorem dX11_takeCourt_44 : decode cX11_takeCourt 44 = .ok (.bipush 24, 2) := by decide +kernel
theorem dX11_takeCourt_46 : decode cX11_takeCourt 46 = .ok (.if_icmp .ge 21, 3) := by decide +kernel
theorem dX11_takeCourt_49 : decode cX11_takeCourt 49 = .ok (.aload_n 0, 1) := by decide +kernel
theorem dX11_takeCourt_50 : decode cX11_takeCourt 50 = .ok (.getfield 52, 3) := by decide +kernel
theorem dX11_takeCourt_53 : decode cX11_takeCourt 53 = .ok (.iload_n 1, 1) := by decide +kernel
theorem dX11_takeCourt_54 : decode cX11_takeCourt 54 = .ok (.aload_n 0, 1) := by decide +kernel
theorem dX11_takeCourt_55 : decode cX11_takeCourt 55 = .ok (.getfield 43, 3) := by decide +kernel
theorem dX11_takeCourt_58 : decode cX11_takeCourt 58 = .ok (.iload_n 1, 1) := by decide +kernel
theorem dX11_takeCourt_59 : decode cX11_takeCourt 59 = .ok (.iaload, 1) := by decide +kernel
theorem dX11_takeCourt_60 : decode cX11_takeCourt 60 = .ok (.iastore, 1) := by decide +kernel
theorem dX11_takeCourt_61 : decode cX11_takeCourt 61 = .ok (.iinc 1 1, 3) := by decide +kernel
theorem dX11_takeCourt_64 : decode cX11_takeCourt 64 = .ok (.goto (-21), 3) := by decide +kernel
theorem dX11_takeCourt_67 : decode cX11_takeCourt 67 = .ok (.iconst 0, 1) := by decide +kernel
theorem dX11_takeCourt_68 : decode cX11_takeCourt 68 = .ok (.istore_n 1, 1) := by decide +kernel
theorem dX11_takeCourt_69 : decode cX11_takeCourt 69 = .ok (.iload_n 1, 1) := by decide +kernel
theorem dX11_takeCourt_70 : decode cX11_takeCourt 70 = .ok (.bipush 20, 2) := by decide +kernel
theorem dX11_takeCourt_72 : decode cX11_takeCourt 72 = .ok (.if_icmp .ge 21, 3) := by decide +kernel
theorem dX11_takeCourt_75 : decode cX11_takeCourt 75 = .ok (.aload_n 0, 1) := by decide +kernel
theorem dX11_takeCourt_76 : decode cX11_takeCourt 76 = .ok (.getfield 55, 3) := by decide +kernel
theorem dX11_takeCourt_79 : decode cX11_takeCourt 79 = .ok (.iload_n 1, 1) := by decide +kernel
theorem dX11_takeCourt_80 : decode cX11_takeCourt 80 = .ok (.aload_n 0, 1) := by decide +kernel
theorem dX11_takeCourt_81 : decode cX11_takeCourt 81 = .ok (.getfield 46, 3) := by decide +kernel
theorem dX11_takeCourt_84 : decode cX11_takeCourt 84 = .ok (.iload_n 1, 1) := by decide +kernel
theorem dX11_takeCourt_85 : decode cX11_takeCourt 85 = .ok (.iaload, 1) := by decide +kernel
theorem dX11_takeCourt_86 : decode cX11_takeCourt 86 = .ok (.iastore, 1) := by decide +kernel
theorem dX11_takeCourt_87 : decode cX11_takeCourt 87 = .ok (.iinc 1 1, 3) := by decide +kernel
theorem dX11_takeCourt_90 : decode cX11_takeCourt 90 = .ok (.goto (-21), 3) := by decide +kernel
theorem dX11_takeCourt_93 : decode cX11_takeCourt 93 = .ok (.iconst 0, 1) := by decide +kernel
theorem dX11_takeCourt_94 : decode cX11_takeCourt 94 = .ok (.istore_n 1, 1) := by decide +kernel
theorem dX11_takeCourt_95 : decode cX11_takeCourt 95 = .ok (.iload_n 1, 1) := by decide +kernel
theorem dX11_takeCourt_96 : decode cX11_takeCourt 96 = .ok (.bipush 97, 2) := by decide +kernel
theorem dX11_takeCourt_98 : decode cX11_takeCourt 98 = .ok (.if_icmp .ge 16, 3) := by decide +kernel
theorem dX11_takeCourt_101 : decode cX11_takeCourt 101 = .ok (.aload_n 0, 1) := by decide +kernel
theorem dX11_takeCourt_102 : decode cX11_takeCourt 102 = .ok (.getfield 58, 3) := by decide +kernel
theorem dX11_takeCourt_105 : decode cX11_takeCourt 105 = .ok (.iload_n 1, 1) := by decide +kernel
theorem dX11_takeCourt_106 : decode cX11_takeCourt 106 = .ok (.iconst 0, 1) := by decide +kernel
theorem dX11_takeCourt_107 : decode cX11_takeCourt 107 = .ok (.iastore, 1) := by decide +kernel
theorem dX11_takeCourt_108 : decode cX11_takeCourt 108 = .ok (.iinc 1 1, 3) := by decide +kernel
theorem dX11_takeCourt_111 : decode cX11_takeCourt 111 = .ok (.goto (-16), 3) := by decide +kernel
theorem dX11_takeCourt_114 : decode cX11_takeCourt 114 = .ok (.iconst 0, 1) := by decide +kernel
theorem dX11_takeCourt_115 : decode cX11_takeCourt 115 = .ok (.istore_n 1, 1) := by decide +kernel
theorem dX11_takeCourt_116 : decode cX11_takeCourt 116 = .ok (.iload_n 1, 1) := by decide +kernel
theorem dX11_takeCourt_117 : decode cX11_takeCourt 117 = .ok (.aload_n 0, 1) := by decide +kernel
theorem dX11_takeCourt_118 : decode cX11_takeCourt 118 = .ok (.getfield 235, 3) := by decide +kernel
theorem dX11_takeCourt_121 : decode cX11_takeCourt 121 = .ok (.if_icmp .ge 23, 3) := by decide +kernel
theorem dX11_takeCourt_124 : decode cX11_takeCourt 124 = .ok (.aload_n 0, 1) := by decide +kernel
theorem dX11_takeCourt_125 : decode cX11_takeCourt 125 = .ok (.getfield 58, 3) := by decide +kernel
theorem dX11_takeCourt_128 : decode cX11_takeCourt 128 = .ok (.iconst 0, 1) := by decide +kernel
theorem dX11_takeCourt_129 : decode cX11_takeCourt 129 = .ok (.iload_n 1, 1) := by decide +kernel
theorem dX11_takeCourt_130 : decode cX11_takeCourt 130 = .ok (.iadd, 1) := by decide +kernel
theorem dX11_takeCourt_131 : decode cX11_takeCourt 131 = .ok (.aload_n 0, 1) := by decide +kernel
theorem dX11_takeCourt_132 : decode cX11_takeCourt 132 = .ok (.iload_n 1, 1) := by decide +kernel
theorem dX11_takeCourt_133 : decode cX11_takeCourt 133 = .ok (.iconst 3, 1) := by decide +kernel
theorem dX11_takeCourt_134 : decode cX11_takeCourt 134 = .ok (.invokevirtual 241, 3) := by decide +kernel
theorem dX11_takeCourt_137 : decode cX11_takeCourt 137 = .ok (.iastore, 1) := by decide +kernel
theorem dX11_takeCourt_138 : decode cX11_takeCourt 138 = .ok (.iinc 1 1, 3) := by decide +kernel
theorem dX11_takeCourt_141 : decode cX11_takeCourt 141 = .ok (.goto (-25), 3) := by decide +kernel
theorem dX11_takeCourt_144 : decode cX11_takeCourt 144 = .ok (.iconst 0, 1) := by decide +kernel
theorem dX11_takeCourt_145 : decode cX11_takeCourt 145 = .ok (.istore_n 1, 1) := by decide +kernel
theorem dX11_takeCourt_146 : decode cX11_takeCourt 146 = .ok (.iload_n 1, 1) := by decide +kernel
theorem dX11_takeCourt_147 : decode cX11_takeCourt 147 = .ok (.aload_n 0, 1) := by decide +kernel
theorem dX11_takeCourt_148 : decode cX11_takeCourt 148 = .ok (.getfield 238, 3) := by decide +kernel
theorem dX11_takeCourt_151 : decode cX11_takeCourt 151 = .ok (.if_icmp .ge 24, 3) := by decide +kernel
theorem dX11_takeCourt_154 : decode cX11_takeCourt 154 = .ok (.aload_n 0, 1) := by decide +kernel
theorem dX11_takeCourt_155 : decode cX11_takeCourt 155 = .ok (.getfield 58, 3) := by decide +kernel
theorem dX11_takeCourt_158 : decode cX11_takeCourt 158 = .ok (.bipush 6, 2) := by decide +kernel
theorem dX11_takeCourt_160 : decode cX11_takeCourt 160 = .ok (.iload_n 1, 1) := by decide +kernel
theorem dX11_takeCourt_161 : decode cX11_takeCourt 161 = .ok (.iadd, 1) := by decide +kernel
theorem dX11_takeCourt_162 : decode cX11_takeCourt 162 = .ok (.aload_n 0, 1) := by decide +kernel
theorem dX11_takeCourt_163 : decode cX11_takeCourt 163 = .ok (.iload_n 1, 1) := by decide +kernel
theorem dX11_takeCourt_164 : decode cX11_takeCourt 164 = .ok (.iconst 2, 1) := by decide +kernel
theorem dX11_takeCourt_165 : decode cX11_takeCourt 165 = .ok (.invokevirtual 244, 3) := by decide +kernel
theorem dX11_takeCourt_168 : decode cX11_takeCourt 168 = .ok (.iastore, 1) := by decide +kernel
theorem dX11_takeCourt_169 : decode cX11_takeCourt 169 = .ok (.iinc 1 1, 3) := by decide +kernel
theorem dX11_takeCourt_172 : decode cX11_takeCourt 172 = .ok (.goto (-26), 3) := by decide +kernel
theorem dX11_takeCourt_175 : decode cX11_takeCourt 175 = .ok (.aload_n 0, 1) := by decide +kernel
theorem dX11_takeCourt_176 : decode cX11_takeCourt 176 = .ok (.getfield 58, 3) := by decide +kernel
theorem dX11_takeCourt_179 : decode cX11_takeCourt 179 = .ok (.bipush 14, 2) := by decide +kernel
theorem dX11_takeCourt_181 : decode cX11_takeCourt 181 = .ok (.aload_n 0, 1) := by decide +kernel
theorem dX11_takeCourt_182 : decode cX11_takeCourt 182 = .ok (.getfield 49, 3) := by decide +kernel
theorem dX11_takeCourt_185 : decode cX11_takeCourt 185 = .ok (.iconst 0, 1) := by decide +kernel
theorem dX11_takeCourt_186 : decode cX11_takeCourt 186 = .ok (.iaload, 1) := by decide +kernel
theorem dX11_takeCourt_187 : decode cX11_takeCourt 187 = .ok (.iastore, 1) := by decide +kernel
theorem dX11_takeCourt_188 : decode cX11_takeCourt 188 = .ok (.aload_n 0, 1) := by decide +kernel
theorem dX11_takeCourt_189 : decode cX11_takeCourt 189 = .ok (.iconst 0, 1) := by decide +kernel
theorem dX11_takeCourt_190 : decode cX11_takeCourt 190 = .ok (.putfield 247, 3) := by decide +kernel
theorem dX11_takeCourt_193 : decode cX11_takeCourt 193 = .ok (.aload_n 0, 1) := by decide +kernel
theorem dX11_takeCourt_194 : decode cX11_takeCourt 194 = .ok (.iconst 0, 1) := by decide +kernel
theorem dX11_takeCourt_195 : decode cX11_takeCourt 195 = .ok (.putfield 250, 3) := by decide +kernel
theorem dX11_takeCourt_198 : decode cX11_takeCourt 198 = .ok (.aload_n 0, 1) := by decide +kernel
theorem dX11_takeCourt_199 : decode cX11_takeCourt 199 = .ok (.getfield 235, 3) := by decide +kernel
theorem dX11_takeCourt_202 : decode cX11_takeCourt 202 = .ok (.ireturn, 1) := by decide +kernel
theorem dX11_text_0 : decode cX11_text 0 = .ok (.iload_n 1, 1) := by decide +kernel
theorem dX11_text_1 : decode cX11_text 1 = .ok (.ifCond .ne 21, 3) := by decide +kernel
theorem dX11_text_4 : decode cX11_text 4 = .ok (.aload_n 0, 1) := by decide +kernel
theorem dX11_text_5 : decode cX11_text 5 = .ok (.invokevirtual 229, 3) := by decide +kernel
theorem dX11_text_8 : decode cX11_text 8 = .ok (.iconst (-1), 1) := by decide +kernel
theorem dX11_text_9 : decode cX11_text 9 = .ok (.if_icmp .ne 13, 3) := by decide +kernel
theorem dX11_text_12 : decode cX11_text 12 = .ok (.aload_n 0, 1) := by decide +kernel
theorem dX11_text_13 : decode cX11_text 13 = .ok (.iconst 0, 1) := by decide +kernel
theorem dX11_text_14 : decode cX11_text 14 = .ok (.putfield 90, 3) := by decide +kernel
theorem dX11_text_17 : decode cX11_text 17 = .ok (.aload_n 0, 1) := by decide +kernel
theorem dX11_text_18 : decode cX11_text 18 = .ok (.invokevirtual 254, 3) := by decide +kernel
theorem dX11_text_21 : decode cX11_text 21 = .ok (.ireturn, 1) := by decide +kernel
theorem dX11_text_22 : decode cX11_text 22 = .ok (.iload_n 1, 1) := by decide +kernel
theorem dX11_text_23 : decode cX11_text 23 = .ok (.iconst 1, 1) := by decide +kernel
theorem dX11_text_24 : decode cX11_text 24 = .ok (.if_icmp .ne 45, 3) := by decide +kernel
theorem dX11_text_27 : decode cX11_text 27 = .ok (.aload_n 0, 1) := by decide +kernel
theorem dX11_text_28 : decode cX11_text 28 = .ok (.getfield 257, 3) := by decide +kernel
theorem dX11_text_31 : decode cX11_text 31 = .ok (.iconst 4, 1) := by decide +kernel
theorem dX11_text_32 : decode cX11_text 32 = .ok (.if_icmp .ge 37, 3) := by decide +kernel
theorem dX11_text_35 : decode cX11_text 35 = .ok (.aload_n 0, 1) := by decide +kernel
theorem dX11_text_36 : decode cX11_text 36 = .ok (.aload_n 0, 1) := by decide +kernel
theorem dX11_text_37 : decode cX11_text 37 = .ok (.getfield 257, 3) := by decide +kernel
theorem dX11_text_40 : decode cX11_text 40 = .ok (.invokevirtual 232, 3) := by decide +kernel
theorem dX11_text_43 : decode cX11_text 43 = .ok (.iconst (-1), 1) := by decide +kernel
theorem dX11_text_44 : decode cX11_text 44 = .ok (.if_icmp .ne 25, 3) := by decide +kernel
theorem dX11_text_47 : decode cX11_text 47 = .ok (.aload_n 0, 1) := by decide +kernel
theorem dX11_text_48 : decode cX11_text 48 = .ok (.iconst 0, 1) := by decide +kernel
theorem dX11_text_49 : decode cX11_text 49 = .ok (.putfield 90, 3) := by decide +kernel
theorem dX11_text_52 : decode cX11_text 52 = .ok (.aload_n 0, 1) := by decide +kernel
theorem dX11_text_53 : decode cX11_text 53 = .ok (.dup, 1) := by decide +kernel
theorem dX11_text_54 : decode cX11_text 54 = .ok (.getfield 257, 3) := by decide +kernel
theorem dX11_text_57 : decode cX11_text 57 = .ok (.iconst 1, 1) := by decide +kernel
theorem dX11_text_58 : decode cX11_text 58 = .ok (.iadd, 1) := by decide +kernel
theorem dX11_text_59 : decode cX11_text 59 = .ok (.putfield 257, 3) := by decide +kernel
theorem dX11_text_62 : decode cX11_text 62 = .ok (.aload_n 0, 1) := by decide +kernel
theorem dX11_text_63 : decode cX11_text 63 = .ok (.getfield 257, 3) := by decide +kernel
theorem dX11_text_66 : decode cX11_text 66 = .ok (.iconst 1, 1) := by decide +kernel
theorem dX11_text_67 : decode cX11_text 67 = .ok (.isub, 1) := by decide +kernel
theorem dX11_text_68 : decode cX11_text 68 = .ok (.ireturn, 1) := by decide +kernel
theorem dX11_text_69 : decode cX11_text 69 = .ok (.iconst (-1), 1) := by decide +kernel
theorem dX11_text_70 : decode cX11_text 70 = .ok (.ireturn, 1) := by decide +kernel
set_option maxRecDepth 20000 in
theorem qw31 : Cond.selects RX11 yX11_readCourt yX11_readCourt ∈ wA := zw 31 (by decide +kernel) (by decide +kernel)
set_option maxRecDepth 20000 in
theorem qw34 : Cond.selects RX11 yX11_items yX11_items ∈ wA := zw 34 (by decide +kernel) (by decide +kernel)
set_option maxRecDepth 20000 in
theorem qw35 : Cond.selects RX11 yX11_number yX11_number ∈ wA := zw 35 (by decide +kernel) (by decide +kernel)
set_option maxRecDepth 20000 in
theorem qw37 : Cond.selects RX11 yX11_readLaw yX11_readLaw ∈ wA := zw 37 (by decide +kernel) (by decide +kernel)
set_option maxRecDepth 20000 in
theorem qw53 : Cond.selects RX11 yX11_takeCourt yX11_takeCourt ∈ wA := zw 53 (by decide +kernel) (by decide +kernel)
set_option maxRecDepth 20000 in
theorem qw1144 : Cond.fieldLink RX11 40 "NinePortraitsModel" "readRule" "[I" ∈ wA := List.mem_filter.mpr ⟨zt5 (List.mem_of_getElem? (i := 87) rfl), (by decide +kernel)⟩
set_option maxRecDepth 20000 in
theorem qw1145 : Cond.fieldLink RX11 43 "NinePortraitsModel" "readBride" "[I" ∈ wA := List.mem_filter.mpr ⟨zt5 (List.mem_of_getElem? (i := 88) rfl), (by decide +kernel)⟩
set_option maxRecDepth 20000 in
theorem qw1146 : Cond.fieldLink RX11 46 "NinePortraitsModel" "readPainter" "[I" ∈ wA := List.mem_filter.mpr ⟨zt5 (List.mem_of_getElem? (i := 89) rfl), (by decide +kernel)⟩
set_option maxRecDepth 20000 in
theorem qw1147 : Cond.fieldLink RX11 219 "NinePortraitsModel" "readBrides" "I" ∈ wA := List.mem_filter.mpr ⟨zt5 (List.mem_of_getElem? (i := 90) rfl), (by decide +kernel)⟩
set_option maxRecDepth 20000 in
theorem qw1148 : Cond.fieldLink RX11 222 "NinePortraitsModel" "readPainters" "I" ∈ wA := List.mem_filter.mpr ⟨zt5 (List.mem_of_getElem? (i := 91) rfl), (by decide +kernel)⟩
set_option maxRecDepth 20000 in
theorem qw1266 : Cond.methodLink RX11 229 yX11_readCourt ∈ wA := List.mem_filter.mpr ⟨zt5 (List.mem_of_getElem? (i := 209) rfl), (by decide +kernel)⟩
set_option maxRecDepth 20000 in
theorem qw1268 : Cond.instanceMethod yX11_readCourt ∈ wA := List.mem_filter.mpr ⟨zt5 (List.mem_of_getElem? (i := 211) rfl), (by decide +kernel)⟩
set_option maxRecDepth 20000 in
theorem qw1269 : Cond.code yX11_readCourt cX11_readCourt 4 (some .int) ∈ wA := List.mem_filter.mpr ⟨zt5 (List.mem_of_getElem? (i := 212) rfl), (by decide +kernel)⟩
set_option maxRecDepth 20000 in
theorem qw1270 : Cond.methodLink RX11 202 yX11_usual ∈ wA := List.mem_filter.mpr ⟨zt5 (List.mem_of_getElem? (i := 213) rfl), (by decide +kernel)⟩
set_option maxRecDepth 20000 in
theorem qw1271 : Cond.static yX11_usual ∈ wA := List.mem_filter.mpr ⟨zt5 (List.mem_of_getElem? (i := 214) rfl), (by decide +kernel)⟩
set_option maxRecDepth 20000 in
theorem qw1272 : Cond.code yX11_usual cX11_usual 2 (some .int) ∈ wA := List.mem_filter.mpr ⟨zt5 (List.mem_of_getElem? (i := 215) rfl), (by decide +kernel)⟩
set_option maxRecDepth 20000 in
theorem qw1281 : Cond.methodLink RX11 225 yX11_items ∈ wA := List.mem_filter.mpr ⟨zt5 (List.mem_of_getElem? (i := 224) rfl), (by decide +kernel)⟩
set_option maxRecDepth 20000 in
theorem qw1283 : Cond.instanceMethod yX11_items ∈ wA := List.mem_filter.mpr ⟨zt5 (List.mem_of_getElem? (i := 226) rfl), (by decide +kernel)⟩
set_option maxRecDepth 20000 in
theorem qw1284 : Cond.code yX11_items cX11_items 7 none ∈ wA := List.mem_filter.mpr ⟨zt5 (List.mem_of_getElem? (i := 227) rfl), (by decide +kernel)⟩
set_option maxRecDepth 20000 in
theorem qw1285 : Cond.methodLink RX11 206 yX11_itemOf ∈ wA := List.mem_filter.mpr ⟨zt5 (List.mem_of_getElem? (i := 228) rfl), (by decide +kernel)⟩
set_option maxRecDepth 20000 in
theorem qw1286 : Cond.static yX11_itemOf ∈ wA := List.mem_filter.mpr ⟨zt5 (List.mem_of_getElem? (i := 229) rfl), (by decide +kernel)⟩
set_option maxRecDepth 20000 in
theorem qw1287 : Cond.code yX11_itemOf cX11_itemOf 2 (some .int) ∈ wA := List.mem_filter.mpr ⟨zt5 (List.mem_of_getElem? (i := 230) rfl), (by decide +kernel)⟩
set_option maxRecDepth 20000 in
theorem qw1291 : Cond.methodLink RX11 213 yX11_highest ∈ wA := List.mem_filter.mpr ⟨zt5 (List.mem_of_getElem? (i := 234) rfl), (by decide +kernel)⟩
set_option maxRecDepth 20000 in
theorem qw1292 : Cond.static yX11_highest ∈ wA := List.mem_filter.mpr ⟨zt5 (List.mem_of_getElem? (i := 235) rfl), (by decide +kernel)⟩
set_option maxRecDepth 20000 in
theorem qw1293 : Cond.code yX11_highest cX11_highest 2 (some .int) ∈ wA := List.mem_filter.mpr ⟨zt5 (List.mem_of_getElem? (i := 236) rfl), (by decide +kernel)⟩
set_option maxRecDepth 20000 in
theorem qw1294 : Cond.methodLink RX11 216 yX11_number ∈ wA := List.mem_filter.mpr ⟨zt5 (List.mem_of_getElem? (i := 237) rfl), (by decide +kernel)⟩
set_option maxRecDepth 20000 in
theorem qw1296 : Cond.instanceMethod yX11_number ∈ wA := List.mem_filter.mpr ⟨zt5 (List.mem_of_getElem? (i := 239) rfl), (by decide +kernel)⟩
set_option maxRecDepth 20000 in
theorem qw1297 : Cond.code yX11_number cX11_number 4 (some .int) ∈ wA := List.mem_filter.mpr ⟨zt6 (List.mem_of_getElem? (i := 0) rfl), (by decide +kernel)⟩
set_option maxRecDepth 20000 in
theorem qw1308 : Cond.methodLink RX11 232 yX11_readLaw ∈ wA := List.mem_filter.mpr ⟨zt6 (List.mem_of_getElem? (i := 11) rfl), (by decide +kernel)⟩
set_option maxRecDepth 20000 in
theorem qw1310 : Cond.instanceMethod yX11_readLaw ∈ wA := List.mem_filter.mpr ⟨zt6 (List.mem_of_getElem? (i := 13) rfl), (by decide +kernel)⟩
set_option maxRecDepth 20000 in
theorem qw1311 : Cond.code yX11_readLaw cX11_readLaw 2 (some .int) ∈ wA := List.mem_filter.mpr ⟨zt6 (List.mem_of_getElem? (i := 14) rfl), (by decide +kernel)⟩
set_option maxRecDepth 20000 in
theorem qw1382 : Cond.methodLink RX11 254 yX11_takeCourt ∈ wA := List.mem_filter.mpr ⟨zt6 (List.mem_of_getElem? (i := 85) rfl), (by decide +kernel)⟩
set_option maxRecDepth 20000 in
theorem qw1384 : Cond.instanceMethod yX11_takeCourt ∈ wA := List.mem_filter.mpr ⟨zt6 (List.mem_of_getElem? (i := 87) rfl), (by decide +kernel)⟩
set_option maxRecDepth 20000 in
theorem qw1385 : Cond.code yX11_takeCourt cX11_takeCourt 2 (some .int) ∈ wA := List.mem_filter.mpr ⟨zt6 (List.mem_of_getElem? (i := 88) rfl), (by decide +kernel)⟩
theorem hd_X11_highest : yX11_highest.cls = RX11 ∧ yX11_highest.cls ≠ "java/lang/invoke/MethodHandle" ∧ yX11_highest.cls ≠ "java/lang/invoke/VarHandle" ∧ (parseMethodDescriptor yX11_highest.desc).map (fun d => d.parameters.length) = some 2 := by decide +kernel
theorem hd_X11_itemOf : yX11_itemOf.cls = RX11 ∧ yX11_itemOf.cls ≠ "java/lang/invoke/MethodHandle" ∧ yX11_itemOf.cls ≠ "java/lang/invoke/VarHandle" ∧ (parseMethodDescriptor yX11_itemOf.desc).map (fun d => d.parameters.length) = some 2 := by decide +kernel
theorem hd_X11_items : yX11_items.cls = RX11 ∧ yX11_items.cls ≠ "java/lang/invoke/MethodHandle" ∧ yX11_items.cls ≠ "java/lang/invoke/VarHandle" ∧ (parseMethodDescriptor yX11_items.desc).map (fun d => d.parameters.length) = some 4 := by decide +kernel
theorem hd_X11_number : yX11_number.cls = RX11 ∧ yX11_number.cls ≠ "java/lang/invoke/MethodHandle" ∧ yX11_number.cls ≠ "java/lang/invoke/VarHandle" ∧ (parseMethodDescriptor yX11_number.desc).map (fun d => d.parameters.length) = some 2 := by decide +kernel
theorem hd_X11_readCourt : yX11_readCourt.cls = RX11 ∧ yX11_readCourt.cls ≠ "java/lang/invoke/MethodHandle" ∧ yX11_readCourt.cls ≠ "java/lang/invoke/VarHandle" ∧ (parseMethodDescriptor yX11_readCourt.desc).map (fun d => d.parameters.length) = some 0 := by decide +kernel
theorem hd_X11_readLaw : yX11_readLaw.cls = RX11 ∧ yX11_readLaw.cls ≠ "java/lang/invoke/MethodHandle" ∧ yX11_readLaw.cls ≠ "java/lang/invoke/VarHandle" ∧ (parseMethodDescriptor yX11_readLaw.desc).map (fun d => d.parameters.length) = some 1 := by decide +kernel
theorem hd_X11_takeCourt : yX11_takeCourt.cls = RX11 ∧ yX11_takeCourt.cls ≠ "java/lang/invoke/MethodHandle" ∧ yX11_takeCourt.cls ≠ "java/lang/invoke/VarHandle" ∧ (parseMethodDescriptor yX11_takeCourt.desc).map (fun d => d.parameters.length) = some 0 := by decide +kernel
theorem hd_X11_usual : yX11_usual.cls = RX11 ∧ yX11_usual.cls ≠ "java/lang/invoke/MethodHandle" ∧ yX11_usual.cls ≠ "java/lang/invoke/VarHandle" ∧ (parseMethodDescriptor yX11_usual.desc).map (fun d => d.parameters.length) = some 2 := by decide +kernel
/-- the items of a clause of a court: what lies outside stays, the first is a face or a skill -/
def zIt (f g : Nat → Int32) (a : Int) (ok : Prop) : Prop := (∀ j : Nat, ((j : Int) < a ∨ a + 4 ≤ (j : Int)) → g j = f j) ∧ (ok → 0 ≤ (g a.toNat).toInt ∧ (g a.toNat).toInt ≤ 9)
theorem zIt_0 {f : Nat → Int32} {a : Int} {ok : Prop} (h : ¬ ok) : zIt f f a ok := ⟨fun _ _ => rfl, fun q => absurd q h⟩
theorem zIt_m {f g : Nat → Int32} {a : Int} {ok ok' : Prop} (h : zIt f g a ok) (ho : ok' → ok) : zIt f g a ok' := ⟨h.1, fun q => h.2 (ho q)⟩
theorem zIt_s {f g g' : Nat → Int32} {a : Int} {ok ok' : Prop} {i x : Int32} (k : Int) (h : zIt f g a ok) (e : g' = upd g i.toNatClampNeg x) (hi : i.toInt = a + k) (ha : 0 ≤ a) (h0 : 0 ≤ k) (h3 : k ≤ 3) (hx : k = 0 → ok' → 0 ≤ x.toInt ∧ x.toInt ≤ 9) (ho : ok' → ok ∨ k = 0) : zIt f g' a ok' := by
  obtain ⟨u1, u2⟩ := zU e
  refine ⟨fun j hj => by rw [u1 j (by omega)]; exact h.1 j hj, fun q => ?_⟩
  by_cases hk : k = 0
  · have n : a.toNat = i.toInt.toNat := by omega
    rw [n, u2]
    exact hx hk q
  · rw [u1 a.toNat (by omega)]
    exact h.2 ((ho q).resolve_right hk)
def zRc (wr qb qp : Int32) (f g : Nat → Int32) : Prop := wr.toInt = -1 → zBr qb f ∧ zBr qp g
theorem zRc_0 {wr : Int32} {f g : Nat → Int32} : zRc wr 0 0 f g := fun _ => ⟨fun i hi => by rw [show (0 : Int32).toInt = 0 from by decide] at hi; omega, fun i hi => by rw [show (0 : Int32).toInt = 0 from by decide] at hi; omega⟩
theorem zRc_m {wr wr' qb qp : Int32} {f g : Nat → Int32} (h : zRc wr qb qp f g) (hw : wr'.toInt = -1 → wr.toInt = -1) : zRc wr' qb qp f g := fun q => h (hw q)
theorem zBr_it {q q' : Int32} {f g : Nat → Int32} {a : Int} {ok : Prop} (h : zBr q f) (hi : zIt f g a ok) (ha : a = 4 * q.toInt) (ho : ok) (h0 : 0 ≤ q.toInt) (hq : q'.toInt = q.toInt + 1) : zBr q' g := by
  intro i hl
  by_cases hk : (i : Int) = q.toInt
  · have n : 4 * i = a.toNat := by omega
    rw [n]
    exact hi.2 ho
  · rw [hi.1 (4 * i) (by omega)]
    exact h i (by omega)
theorem zRc_b {wr wr' qb qb' qp : Int32} {f f' g : Nat → Int32} {a : Int} {ok : Prop} (h : zRc wr qb qp f g) (hi : zIt f f' a ok) (hw : wr'.toInt = -1 → wr.toInt = -1) (ho : wr'.toInt = -1 → ok) (ha : a = 4 * qb.toInt) (h0 : 0 ≤ qb.toInt) (hq : qb'.toInt = qb.toInt + 1) : zRc wr' qb' qp f' g := fun q => ⟨zBr_it (h (hw q)).1 hi ha (ho q) h0 hq, (h (hw q)).2⟩
theorem zRc_p {wr wr' qb qp qp' : Int32} {f g g' : Nat → Int32} {a : Int} {ok : Prop} (h : zRc wr qb qp f g) (hi : zIt g g' a ok) (hw : wr'.toInt = -1 → wr.toInt = -1) (ho : wr'.toInt = -1 → ok) (ha : a = 4 * qp.toInt) (h0 : 0 ≤ qp.toInt) (hq : qp'.toInt = qp.toInt + 1) : zRc wr' qb qp' f g' := fun q => ⟨(h (hw q)).1, zBr_it (h (hw q)).2 hi ha (ho q) h0 hq⟩
theorem zBr_eq {n k : Int32} {f g : Nat → Int32} (h : zBr n f) (q : zEq g f 0 k) (hn : 4 * n.toInt ≤ k.toInt) : zBr n g := by
  intro i hi
  rw [q (4 * i) (by omega), show 0 + 4 * i = 4 * i by omega]
  exact h i hi
def zZr (f : Nat → Int32) (k : Int32) : Prop := ∀ j : Nat, (j : Int) < k.toInt → f j = 0
theorem zZr_0 {f : Nat → Int32} : zZr f 0 := fun j hj => by rw [show (0 : Int32).toInt = 0 from by decide] at hj; omega
theorem zZr_s {f g : Nat → Int32} {k k' i : Int32} (h : zZr f k) (e : g = upd f i.toNatClampNeg 0) (hi : i.toInt = k.toInt) (hk : k'.toInt = k.toInt + 1) (h0 : 0 ≤ k.toInt) : zZr g k' := by
  obtain ⟨u1, u2⟩ := zU e
  intro j hj
  by_cases q : j = i.toInt.toNat
  · rw [q]
    exact u2
  · rw [u1 j q]
    exact h j (by omega)
theorem zNw_z {np : Int32} {f : Nat → Int32} (h13 : f 13 = 0) (h16 : f 16 = 0) : zNw np f := by
  have z : (0 : Int32).toInt = 0 := by decide
  refine ⟨by rw [h13, z]; omega, by rw [h16, z]; omega, fun i hi => ?_⟩
  rw [h16, z] at hi
  omega
theorem zNw_zr {np : Int32} {f : Nat → Int32} {k : Int32} (h : zZr f k) (hk : 97 ≤ k.toInt) : zNw np f := zNw_z (h 13 (by omega)) (h 16 (by omega))
theorem zKp_00 {np : Int32} {f : Nat → Int32} : zKp np 0 f := fun r hr => by rw [show (0 : Int32).toInt = 0 from by decide] at hr; omega
theorem zIm_00 {np : Int32} {f : Nat → Int32} : zIm np 0 f := Or.inl (by decide)
/-- all laws that were read -/
def zAl (lw : Int32) (fC fV fK fT fS fU : Nat → Int32) : Prop := (∀ j : Nat, (fC j).toInt = 1 → 0 ≤ (fV j).toInt ∧ (fV j).toInt ≤ 5) ∧ ∀ n : Nat, (n : Int) < lw.toInt → zLw n fC fV fK fT fS fU
theorem zAl_rd {wr ta lw : Int32} {fC fV fD fK fT fS fU : Nat → Int32} {tx : Int32} {gC gV gK gT gS gU : Nat → Int32} {n0 : Nat} (h : zRd wr ta fC fV fD fK fT fS fU tx gC gV gK gT gS gU n0) (a : zAl lw gC gV gK gT gS gU) (hn : lw.toInt ≤ (n0 : Int)) : zAl lw fC fV fK fT fS fU := ⟨h.2.1, fun n hl => zRd_old h (by omega) (a.2 n hl)⟩
theorem zAl_new {wr ta lw lw' : Int32} {fC fV fD fK fT fS fU : Nat → Int32} {tx : Int32} {gC gV gK gT gS gU : Nat → Int32} {n0 : Nat} (h : zRd wr ta fC fV fD fK fT fS fU tx gC gV gK gT gS gU n0) (a : zAl lw gC gV gK gT gS gU) (hn : lw.toInt ≤ (n0 : Int)) (htx : tx.toInt = lw.toInt) (hw : wr.toInt = -1) (hta : ta.toInt ≤ 258) (hl : lw'.toInt = lw.toInt + 1) (h0 : 0 ≤ lw.toInt) : zAl lw' fC fV fK fT fS fU := ⟨h.2.1, fun n hq => by
  by_cases q : (n : Int) = lw.toInt
  · have e : n = tx.toInt.toNat := by omega
    rw [e]
    exact zRd_law h hw hta
  · exact zRd_old h (by omega) (a.2 n (by omega))⟩
theorem zAl_ls {lw ho : Int32} {fC fV fK fT fS fU : Nat → Int32} (a : zAl lw fC fV fK fT fS fU) (h1 : -1 ≤ ho.toInt) (h2 : ho.toInt < lw.toInt) (h4 : lw.toInt ≤ 4) : zLs ho fC fV fK fT fS fU := ⟨by omega, fun q => a.2 _ (by omega)⟩
theorem zKp_c {np ac hi np' ac' hi' : Int32} {f : Nat → Int32} (h : zKp np ac f) (q : (np'.toInt = np.toInt ∧ ac'.toInt = ac.toInt ∧ hi'.toInt = hi.toInt) ∨ (ac'.toInt = 0 ∧ hi'.toInt = 0)) : zKp np' ac' f := by
  rcases q with ⟨h1, h2, -⟩ | ⟨h1, -⟩
  · rw [Int32.toInt_inj.mp h1, Int32.toInt_inj.mp h2]
    exact h
  · intro r hr
    omega
theorem zIm_c {np ac hi np' ac' hi' : Int32} {f : Nat → Int32} (h : zIm np hi f) (q : (np'.toInt = np.toInt ∧ ac'.toInt = ac.toInt ∧ hi'.toInt = hi.toInt) ∨ (ac'.toInt = 0 ∧ hi'.toInt = 0)) : zIm np' hi' f := by
  rcases q with ⟨h1, -, h2⟩ | ⟨-, h2⟩
  · rw [Int32.toInt_inj.mp h1, Int32.toInt_inj.mp h2]
    exact h
  · exact Or.inl h2
