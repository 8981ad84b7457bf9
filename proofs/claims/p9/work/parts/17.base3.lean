abbrev cX11_in : ByteArray := prog_13_method_1_code
def yX11_in : MethodName := ⟨RX11, "in", "(III)Z"⟩
abbrev cX11_has : ByteArray := prog_13_method_2_code
def yX11_has : MethodName := ⟨RX11, "has", "(II)Z"⟩
abbrev cX11_byteOf : ByteArray := prog_13_method_5_code
def yX11_byteOf : MethodName := ⟨RX11, "byteOf", "(IIIIII)I"⟩
abbrev cX11_feed : ByteArray := prog_13_method_6_code
def yX11_feed : MethodName := ⟨RX11, "feed", "(IIIII)I"⟩
abbrev cX11_end : ByteArray := prog_13_method_7_code
def yX11_end : MethodName := ⟨RX11, "end", "(I)Z"⟩
abbrev cX11_here : ByteArray := prog_13_method_8_code
def yX11_here : MethodName := ⟨RX11, "here", "()I"⟩
abbrev cX11_look : ByteArray := prog_13_method_9_code
def yX11_look : MethodName := ⟨RX11, "look", "()I"⟩
abbrev cX11_bad : ByteArray := prog_13_method_10_code
def yX11_bad : MethodName := ⟨RX11, "bad", "()V"⟩
abbrev cX11_isDigit : ByteArray := prog_13_method_11_code
def yX11_isDigit : MethodName := ⟨RX11, "isDigit", "(I)Z"⟩
abbrev cX11_letterOf : ByteArray := prog_13_method_13_code
def yX11_letterOf : MethodName := ⟨RX11, "letterOf", "(I)I"⟩
abbrev cX11_isSign : ByteArray := prog_13_method_20_code
def yX11_isSign : MethodName := ⟨RX11, "isSign", "(I)Z"⟩
abbrev cX11_bounded : ByteArray := prog_13_method_30_code
def yX11_bounded : MethodName := ⟨RX11, "bounded", "(J)I"⟩
abbrev cX11_worked : ByteArray := prog_13_method_31_code
def yX11_worked : MethodName := ⟨RX11, "worked", "(IJJ)I"⟩
abbrev cX11_workOut : ByteArray := prog_13_method_32_code
def yX11_workOut : MethodName := ⟨RX11, "workOut", "(III)I"⟩
abbrev cX11_worthOf : ByteArray := prog_13_method_33_code
def yX11_worthOf : MethodName := ⟨RX11, "worthOf", "(I)I"⟩
abbrev cX11_of : ByteArray := prog_13_method_43_code
def yX11_of : MethodName := ⟨RX11, "of", "(II)I"⟩
abbrev cX11_by : ByteArray := prog_13_method_44_code
def yX11_by : MethodName := ⟨RX11, "by", "(II)I"⟩
abbrev cX11_shot : ByteArray := prog_13_method_45_code
def yX11_shot : MethodName := ⟨RX11, "shot", "(II)I"⟩
abbrev cX11_isBride : ByteArray := prog_13_method_46_code
def yX11_isBride : MethodName := ⟨RX11, "isBride", "(I)Z"⟩
abbrev cX11_isPainter : ByteArray := prog_13_method_47_code
def yX11_isPainter : MethodName := ⟨RX11, "isPainter", "(I)Z"⟩
abbrev cX11_areBoth : ByteArray := prog_13_method_48_code
def yX11_areBoth : MethodName := ⟨RX11, "areBoth", "(II)Z"⟩
abbrev cX11_isFace : ByteArray := prog_13_method_49_code
def yX11_isFace : MethodName := ⟨RX11, "isFace", "(I)Z"⟩
abbrev cX11_flatteryBy : ByteArray := prog_13_method_50_code
def yX11_flatteryBy : MethodName := ⟨RX11, "flatteryBy", "(II)I"⟩
abbrev cX11_looksBy : ByteArray := prog_13_method_51_code
def yX11_looksBy : MethodName := ⟨RX11, "looksBy", "(IIII)I"⟩
abbrev cX11_latestOf : ByteArray := prog_13_method_52_code
def yX11_latestOf : MethodName := ⟨RX11, "latestOf", "(I)I"⟩
abbrev cX11_shownOf : ByteArray := prog_13_method_53_code
def yX11_shownOf : MethodName := ⟨RX11, "shownOf", "(III)I"⟩
abbrev cX11_rule : ByteArray := prog_13_method_54_code
def yX11_rule : MethodName := ⟨RX11, "rule", "(I)I"⟩
abbrev cX11_bride : ByteArray := prog_13_method_55_code
def yX11_bride : MethodName := ⟨RX11, "bride", "(II)I"⟩
abbrev cX11_painter : ByteArray := prog_13_method_56_code
def yX11_painter : MethodName := ⟨RX11, "painter", "(II)I"⟩
abbrev cX11_law : ByteArray := prog_13_method_57_code
def yX11_law : MethodName := ⟨RX11, "law", "(I)Z"⟩
abbrev cX11_flattery : ByteArray := prog_13_method_58_code
def yX11_flattery : MethodName := ⟨RX11, "flattery", "(II)I"⟩
abbrev cX11_shown : ByteArray := prog_13_method_59_code
def yX11_shown : MethodName := ⟨RX11, "shown", "(III)I"⟩
abbrev cX11_keep : ByteArray := prog_13_method_60_code
def yX11_keep : MethodName := ⟨RX11, "keep", "()V"⟩
abbrev cX11_isRefused : ByteArray := prog_13_method_61_code
def yX11_isRefused : MethodName := ⟨RX11, "isRefused", "(I)Z"⟩
abbrev cX11_paintNow : ByteArray := prog_13_method_62_code
def yX11_paintNow : MethodName := ⟨RX11, "paintNow", "(II)I"⟩
abbrev cX11_paint : ByteArray := prog_13_method_63_code
def yX11_paint : MethodName := ⟨RX11, "paint", "(II)I"⟩
abbrev cX11_pay : ByteArray := prog_13_method_64_code
def yX11_pay : MethodName := ⟨RX11, "pay", "(II)I"⟩
abbrev cX11_threaten : ByteArray := prog_13_method_65_code
def yX11_threaten : MethodName := ⟨RX11, "threaten", "(I)I"⟩
abbrev cX11_isTold : ByteArray := prog_13_method_66_code
def yX11_isTold : MethodName := ⟨RX11, "isTold", "(III)Z"⟩
abbrev cX11_letter : ByteArray := prog_13_method_67_code
def yX11_letter : MethodName := ⟨RX11, "letter", "(I)I"⟩
abbrev cX11_shoe : ByteArray := prog_13_method_68_code
def yX11_shoe : MethodName := ⟨RX11, "shoe", "(I)I"⟩
abbrev cX11_wed : ByteArray := prog_13_method_69_code
def yX11_wed : MethodName := ⟨RX11, "wed", "(I)I"⟩
abbrev cX11_seenOf : ByteArray := prog_13_method_70_code
def yX11_seenOf : MethodName := ⟨RX11, "seenOf", "(I)I"⟩
abbrev cX11_lookedOf : ByteArray := prog_13_method_71_code
def yX11_lookedOf : MethodName := ⟨RX11, "lookedOf", "(I)I"⟩
abbrev cX11_annul : ByteArray := prog_13_method_72_code
def yX11_annul : MethodName := ⟨RX11, "annul", "()I"⟩
abbrev cX11_passMonth : ByteArray := prog_13_method_73_code
def yX11_passMonth : MethodName := ⟨RX11, "passMonth", "()V"⟩
abbrev cX11_areMonths : ByteArray := prog_13_method_74_code
def yX11_areMonths : MethodName := ⟨RX11, "areMonths", "(I)Z"⟩
abbrev cX11_months : ByteArray := prog_13_method_75_code
def yX11_months : MethodName := ⟨RX11, "months", "(I)I"⟩
abbrev cX11_bribes : ByteArray := prog_13_method_76_code
def yX11_bribes : MethodName := ⟨RX11, "bribes", "(I)Z"⟩
abbrev cX11_draw : ByteArray := prog_13_method_77_code
def yX11_draw : MethodName := ⟨RX11, "draw", "(I)I"⟩
abbrev cX11_drawMonth : ByteArray := prog_13_method_78_code
def yX11_drawMonth : MethodName := ⟨RX11, "drawMonth", "()V"⟩
abbrev cX11_decades : ByteArray := prog_13_method_79_code
def yX11_decades : MethodName := ⟨RX11, "decades", "(IJ)I"⟩
abbrev cX11_status : ByteArray := prog_13_method_80_code
def yX11_status : MethodName := ⟨RX11, "status", "(I)I"⟩
abbrev cX11_undo : ByteArray := prog_13_method_81_code
def yX11_undo : MethodName := ⟨RX11, "undo", "()I"⟩
abbrev cX11_portrait : ByteArray := prog_13_method_82_code
def yX11_portrait : MethodName := ⟨RX11, "portrait", "(II)I"⟩
abbrev cX11_fitsFace : ByteArray := prog_13_method_83_code
def yX11_fitsFace : MethodName := ⟨RX11, "fitsFace", "(II)Z"⟩
abbrev cX11_fitsOf : ByteArray := prog_13_method_84_code
def yX11_fitsOf : MethodName := ⟨RX11, "fitsOf", "(I)I"⟩
abbrev cX11_fits : ByteArray := prog_13_method_85_code
def yX11_fits : MethodName := ⟨RX11, "fits", "(I)I"⟩
abbrev cX11_weightOf : ByteArray := prog_13_method_86_code
def yX11_weightOf : MethodName := ⟨RX11, "weightOf", "(II)J"⟩
abbrev cX11_layBeliefs : ByteArray := prog_13_method_87_code
def yX11_layBeliefs : MethodName := ⟨RX11, "layBeliefs", "(I)V"⟩
abbrev cX11_belief : ByteArray := prog_13_method_88_code
def yX11_belief : MethodName := ⟨RX11, "belief", "(II)I"⟩
abbrev cX11_likelyOf : ByteArray := prog_13_method_89_code
def yX11_likelyOf : MethodName := ⟨RX11, "likelyOf", "(I)I"⟩
abbrev cX11_likely : ByteArray := prog_13_method_90_code
def yX11_likely : MethodName := ⟨RX11, "likely", "(II)I"⟩
abbrev cX11_sure : ByteArray := prog_13_method_91_code
def yX11_sure : MethodName := ⟨RX11, "sure", "(II)I"⟩
abbrev cX11_alike : ByteArray := prog_13_method_92_code
def yX11_alike : MethodName := ⟨RX11, "alike", "(II)I"⟩
abbrev cX11_next : ByteArray := prog_13_method_93_code
def yX11_next : MethodName := ⟨RX11, "next", "(I)I"⟩
abbrev cX11_areTold : ByteArray := prog_13_method_94_code
def yX11_areTold : MethodName := ⟨RX11, "areTold", "(IIII)Z"⟩
abbrev cX11_isApart : ByteArray := prog_13_method_95_code
def yX11_isApart : MethodName := ⟨RX11, "isApart", "(II)Z"⟩
abbrev cX11_areReal : ByteArray := prog_13_method_96_code
def yX11_areReal : MethodName := ⟨RX11, "areReal", "(I)Z"⟩
abbrev cX11_apart : ByteArray := prog_13_method_97_code
def yX11_apart : MethodName := ⟨RX11, "apart", "(I)I"⟩
abbrev cX11_worthBy : ByteArray := prog_13_method_98_code
def yX11_worthBy : MethodName := ⟨RX11, "worthBy", "(II)I"⟩
abbrev cX11_worth : ByteArray := prog_13_method_99_code
def yX11_worth : MethodName := ⟨RX11, "worth", "(II)I"⟩
abbrev cX11_worthAs : ByteArray := prog_13_method_100_code
def yX11_worthAs : MethodName := ⟨RX11, "worthAs", "(II)I"⟩
abbrev cX11_chosen : ByteArray := prog_13_method_101_code
def yX11_chosen : MethodName := ⟨RX11, "chosen", "(I)I"⟩
abbrev cX11_chooses : ByteArray := prog_13_method_102_code
def yX11_chooses : MethodName := ⟨RX11, "chooses", "(I)I"⟩
abbrev cX11_gameOf : ByteArray := prog_13_method_103_code
def yX11_gameOf : MethodName := ⟨RX11, "gameOf", "(IIIII)I"⟩
abbrev cX11_areTwo : ByteArray := prog_13_method_104_code
def yX11_areTwo : MethodName := ⟨RX11, "areTwo", "(III)Z"⟩
abbrev cX11_game : ByteArray := prog_13_method_105_code
def yX11_game : MethodName := ⟨RX11, "game", "(IIIIII)I"⟩
abbrev cX11_isRest : ByteArray := prog_13_method_106_code
def yX11_isRest : MethodName := ⟨RX11, "isRest", "(IIIII)Z"⟩
abbrev cX11_rests : ByteArray := prog_13_method_107_code
def yX11_rests : MethodName := ⟨RX11, "rests", "(IIII)I"⟩
abbrev cX11_truth : ByteArray := prog_13_method_108_code
def yX11_truth : MethodName := ⟨RX11, "truth", "(II)I"⟩
abbrev cX11_trySends : ByteArray := prog_13_method_109_code
def yX11_trySends : MethodName := ⟨RX11, "trySends", "(IIIII)V"⟩
abbrev cX11_cheapest : ByteArray := prog_13_method_110_code
def yX11_cheapest : MethodName := ⟨RX11, "cheapest", "(II)I"⟩
abbrev cX11_looks : ByteArray := prog_13_method_111_code
def yX11_looks : MethodName := ⟨RX11, "looks", "(I)I"⟩
abbrev cX11_whose : ByteArray := prog_13_method_112_code
def yX11_whose : MethodName := ⟨RX11, "whose", "(II)I"⟩
abbrev cX11_heads : ByteArray := prog_13_method_113_code
def yX11_heads : MethodName := ⟨RX11, "heads", "(III)I"⟩
abbrev cX11_asksNext : ByteArray := prog_13_method_114_code
def yX11_asksNext : MethodName := ⟨RX11, "asksNext", "(I)I"⟩
abbrev cX11_isBetter : ByteArray := prog_13_method_115_code
def yX11_isBetter : MethodName := ⟨RX11, "isBetter", "(II)Z"⟩
abbrev cX11_layMatch : ByteArray := prog_13_method_116_code
def yX11_layMatch : MethodName := ⟨RX11, "layMatch", "()V"⟩
abbrev cX11_matched : ByteArray := prog_13_method_117_code
def yX11_matched : MethodName := ⟨RX11, "matched", "(I)I"⟩
abbrev cX11_lies : ByteArray := prog_13_method_118_code
def yX11_lies : MethodName := ⟨RX11, "lies", "()I"⟩
abbrev cX11_mostOf : ByteArray := prog_13_method_119_code
def yX11_mostOf : MethodName := ⟨RX11, "mostOf", "(I)I"⟩
abbrev cX11_most : ByteArray := prog_13_method_120_code
def yX11_most : MethodName := ⟨RX11, "most", "(I)I"⟩
abbrev cX11_seen : ByteArray := prog_13_method_121_code
def yX11_seen : MethodName := ⟨RX11, "seen", "(I)I"⟩
abbrev cX11_saves : ByteArray := prog_13_method_122_code
def yX11_saves : MethodName := ⟨RX11, "saves", "(I)I"⟩
abbrev cX11_rivals : ByteArray := prog_13_method_123_code
def yX11_rivals : MethodName := ⟨RX11, "rivals", "(I)I"⟩
abbrev cX11_affords : ByteArray := prog_13_method_124_code
def yX11_affords : MethodName := ⟨RX11, "affords", "(I)I"⟩
abbrev cX11_told : ByteArray := prog_13_method_125_code
def yX11_told : MethodName := ⟨RX11, "told", "(I)I"⟩
abbrev cX11_image : ByteArray := prog_13_method_126_code
def yX11_image : MethodName := ⟨RX11, "image", "()I"⟩
abbrev cX11_back : ByteArray := prog_13_method_127_code
def yX11_back : MethodName := ⟨RX11, "back", "()I"⟩
abbrev cX11_count : ByteArray := prog_13_method_128_code
def yX11_count : MethodName := ⟨RX11, "count", "(I)I"⟩
abbrev cJ9_max_f86c9 : ByteArray := prog_18_method_66_code
def yJ9_max_f86c9 : MethodName := ⟨RJ9, "max", "(JJ)J"⟩
abbrev cJ9_min_f86c9 : ByteArray := prog_18_method_70_code
def yJ9_min_f86c9 : MethodName := ⟨RJ9, "min", "(JJ)J"⟩
theorem dX11_in_0 : decode cX11_in 0 = .ok (.iload_n 0, 1) := by decide +kernel
theorem dX11_in_1 : decode cX11_in 1 = .ok (.iload_n 1, 1) := by decide +kernel
theorem dX11_in_2 : decode cX11_in 2 = .ok (.if_icmp .lt 12, 3) := by decide +kernel
theorem dX11_in_5 : decode cX11_in 5 = .ok (.iload_n 0, 1) := by decide +kernel
theorem dX11_in_6 : decode cX11_in 6 = .ok (.iload_n 2, 1) := by decide +kernel
theorem dX11_in_7 : decode cX11_in 7 = .ok (.if_icmp .gt 7, 3) := by decide +kernel
theorem dX11_in_10 : decode cX11_in 10 = .ok (.iconst 1, 1) := by decide +kernel
theorem dX11_in_11 : decode cX11_in 11 = .ok (.goto 4, 3) := by decide +kernel
theorem dX11_in_14 : decode cX11_in 14 = .ok (.iconst 0, 1) := by decide +kernel
theorem dX11_in_15 : decode cX11_in 15 = .ok (.ireturn, 1) := by decide +kernel
theorem dX11_has_0 : decode cX11_has 0 = .ok (.iload_n 0, 1) := by decide +kernel
theorem dX11_has_1 : decode cX11_has 1 = .ok (.iload_n 1, 1) := by decide +kernel
theorem dX11_has_2 : decode cX11_has 2 = .ok (.ishr, 1) := by decide +kernel
theorem dX11_has_3 : decode cX11_has 3 = .ok (.iconst 1, 1) := by decide +kernel
theorem dX11_has_4 : decode cX11_has 4 = .ok (.iand, 1) := by decide +kernel
theorem dX11_has_5 : decode cX11_has 5 = .ok (.iconst 1, 1) := by decide +kernel
theorem dX11_has_6 : decode cX11_has 6 = .ok (.if_icmp .ne 7, 3) := by decide +kernel
theorem dX11_has_9 : decode cX11_has 9 = .ok (.iconst 1, 1) := by decide +kernel
theorem dX11_has_10 : decode cX11_has 10 = .ok (.goto 4, 3) := by decide +kernel
theorem dX11_has_13 : decode cX11_has 13 = .ok (.iconst 0, 1) := by decide +kernel
theorem dX11_has_14 : decode cX11_has 14 = .ok (.ireturn, 1) := by decide +kernel
theorem dX11_byteOf_0 : decode cX11_byteOf 0 = .ok (.iload 5, 2) := by decide +kernel
theorem dX11_byteOf_2 : decode cX11_byteOf 2 = .ok (.iconst 4, 1) := by decide +kernel
theorem dX11_byteOf_3 : decode cX11_byteOf 3 = .ok (.if_icmp .ge 7, 3) := by decide +kernel
theorem dX11_byteOf_6 : decode cX11_byteOf 6 = .ok (.iload_n 0, 1) := by decide +kernel
theorem dX11_byteOf_7 : decode cX11_byteOf 7 = .ok (.goto 38, 3) := by decide +kernel
theorem dX11_byteOf_10 : decode cX11_byteOf 10 = .ok (.iload 5, 2) := by decide +kernel
theorem dX11_byteOf_12 : decode cX11_byteOf 12 = .ok (.bipush 8, 2) := by decide +kernel
theorem dX11_byteOf_14 : decode cX11_byteOf 14 = .ok (.if_icmp .ge 7, 3) := by decide +kernel
theorem dX11_byteOf_17 : decode cX11_byteOf 17 = .ok (.iload_n 1, 1) := by decide +kernel
theorem dX11_byteOf_18 : decode cX11_byteOf 18 = .ok (.goto 27, 3) := by decide +kernel
theorem dX11_byteOf_21 : decode cX11_byteOf 21 = .ok (.iload 5, 2) := by decide +kernel
theorem dX11_byteOf_23 : decode cX11_byteOf 23 = .ok (.bipush 12, 2) := by decide +kernel
theorem dX11_byteOf_25 : decode cX11_byteOf 25 = .ok (.if_icmp .ge 7, 3) := by decide +kernel
theorem dX11_byteOf_28 : decode cX11_byteOf 28 = .ok (.iload_n 2, 1) := by decide +kernel
theorem dX11_byteOf_29 : decode cX11_byteOf 29 = .ok (.goto 16, 3) := by decide +kernel
theorem dX11_byteOf_32 : decode cX11_byteOf 32 = .ok (.iload 5, 2) := by decide +kernel
theorem dX11_byteOf_34 : decode cX11_byteOf 34 = .ok (.bipush 16, 2) := by decide +kernel
theorem dX11_byteOf_36 : decode cX11_byteOf 36 = .ok (.if_icmp .ge 7, 3) := by decide +kernel
theorem dX11_byteOf_39 : decode cX11_byteOf 39 = .ok (.iload_n 3, 1) := by decide +kernel
theorem dX11_byteOf_40 : decode cX11_byteOf 40 = .ok (.goto 5, 3) := by decide +kernel
theorem dX11_byteOf_43 : decode cX11_byteOf 43 = .ok (.iload 4, 2) := by decide +kernel
theorem dX11_byteOf_45 : decode cX11_byteOf 45 = .ok (.istore 6, 2) := by decide +kernel
theorem dX11_byteOf_47 : decode cX11_byteOf 47 = .ok (.iload 6, 2) := by decide +kernel
theorem dX11_byteOf_49 : decode cX11_byteOf 49 = .ok (.bipush 24, 2) := by decide +kernel
theorem dX11_byteOf_51 : decode cX11_byteOf 51 = .ok (.bipush 8, 2) := by decide +kernel
theorem dX11_byteOf_53 : decode cX11_byteOf 53 = .ok (.iload 5, 2) := by decide +kernel
theorem dX11_byteOf_55 : decode cX11_byteOf 55 = .ok (.iconst 4, 1) := by decide +kernel
theorem dX11_byteOf_56 : decode cX11_byteOf 56 = .ok (.irem, 1) := by decide +kernel
theorem dX11_byteOf_57 : decode cX11_byteOf 57 = .ok (.imul, 1) := by decide +kernel
theorem dX11_byteOf_58 : decode cX11_byteOf 58 = .ok (.isub, 1) := by decide +kernel
theorem dX11_byteOf_59 : decode cX11_byteOf 59 = .ok (.ishr, 1) := by decide +kernel
theorem dX11_byteOf_60 : decode cX11_byteOf 60 = .ok (.sipush 255, 3) := by decide +kernel
theorem dX11_byteOf_63 : decode cX11_byteOf 63 = .ok (.iand, 1) := by decide +kernel
theorem dX11_byteOf_64 : decode cX11_byteOf 64 = .ok (.ireturn, 1) := by decide +kernel
theorem dX11_feed_0 : decode cX11_feed 0 = .ok (.iconst 0, 1) := by decide +kernel
theorem dX11_feed_1 : decode cX11_feed 1 = .ok (.istore 6, 2) := by decide +kernel
theorem dX11_feed_3 : decode cX11_feed 3 = .ok (.iconst 0, 1) := by decide +kernel
theorem dX11_feed_4 : decode cX11_feed 4 = .ok (.istore 7, 2) := by decide +kernel
theorem dX11_feed_6 : decode cX11_feed 6 = .ok (.iload 7, 2) := by decide +kernel
theorem dX11_feed_8 : decode cX11_feed 8 = .ok (.bipush 20, 2) := by decide +kernel
theorem dX11_feed_10 : decode cX11_feed 10 = .ok (.if_icmp .ge 34, 3) := by decide +kernel
theorem dX11_feed_13 : decode cX11_feed 13 = .ok (.iload 6, 2) := by decide +kernel
theorem dX11_feed_15 : decode cX11_feed 15 = .ok (.iload_n 1, 1) := by decide +kernel
theorem dX11_feed_16 : decode cX11_feed 16 = .ok (.iload_n 2, 1) := by decide +kernel
theorem dX11_feed_17 : decode cX11_feed 17 = .ok (.iload_n 3, 1) := by decide +kernel
theorem dX11_feed_18 : decode cX11_feed 18 = .ok (.iload 4, 2) := by decide +kernel
theorem dX11_feed_20 : decode cX11_feed 20 = .ok (.iload 5, 2) := by decide +kernel
theorem dX11_feed_22 : decode cX11_feed 22 = .ok (.iload 7, 2) := by decide +kernel
theorem dX11_feed_24 : decode cX11_feed 24 = .ok (.invokestatic 86, 3) := by decide +kernel
theorem dX11_feed_27 : decode cX11_feed 27 = .ok (.ifCond .eq 7, 3) := by decide +kernel
theorem dX11_feed_30 : decode cX11_feed 30 = .ok (.iconst 1, 1) := by decide +kernel
theorem dX11_feed_31 : decode cX11_feed 31 = .ok (.goto 4, 3) := by decide +kernel
theorem dX11_feed_34 : decode cX11_feed 34 = .ok (.iconst 0, 1) := by decide +kernel
theorem dX11_feed_35 : decode cX11_feed 35 = .ok (.iadd, 1) := by decide +kernel
theorem dX11_feed_36 : decode cX11_feed 36 = .ok (.istore 6, 2) := by decide +kernel
theorem dX11_feed_38 : decode cX11_feed 38 = .ok (.iinc 7 1, 3) := by decide +kernel
theorem dX11_feed_41 : decode cX11_feed 41 = .ok (.goto (-35), 3) := by decide +kernel
theorem dX11_feed_44 : decode cX11_feed 44 = .ok (.aload_n 0, 1) := by decide +kernel
theorem dX11_feed_45 : decode cX11_feed 45 = .ok (.getfield 90, 3) := by decide +kernel
theorem dX11_feed_48 : decode cX11_feed 48 = .ok (.iload 6, 2) := by decide +kernel
theorem dX11_feed_50 : decode cX11_feed 50 = .ok (.iadd, 1) := by decide +kernel
theorem dX11_feed_51 : decode cX11_feed 51 = .ok (.sipush 240, 3) := by decide +kernel
theorem dX11_feed_54 : decode cX11_feed 54 = .ok (.if_icmp .le 5, 3) := by decide +kernel
theorem dX11_feed_57 : decode cX11_feed 57 = .ok (.iconst (-1), 1) := by decide +kernel
theorem dX11_feed_58 : decode cX11_feed 58 = .ok (.ireturn, 1) := by decide +kernel
theorem dX11_feed_59 : decode cX11_feed 59 = .ok (.iconst 0, 1) := by decide +kernel
theorem dX11_feed_60 : decode cX11_feed 60 = .ok (.istore 7, 2) := by decide +kernel
theorem dX11_feed_62 : decode cX11_feed 62 = .ok (.iload 7, 2) := by decide +kernel
theorem dX11_feed_64 : decode cX11_feed 64 = .ok (.bipush 20, 2) := by decide +kernel
theorem dX11_feed_66 : decode cX11_feed 66 = .ok (.if_icmp .ge 49, 3) := by decide +kernel
theorem dX11_feed_69 : decode cX11_feed 69 = .ok (.iload_n 1, 1) := by decide +kernel
theorem dX11_feed_70 : decode cX11_feed 70 = .ok (.iload_n 2, 1) := by decide +kernel
theorem dX11_feed_71 : decode cX11_feed 71 = .ok (.iload_n 3, 1) := by decide +kernel
theorem dX11_feed_72 : decode cX11_feed 72 = .ok (.iload 4, 2) := by decide +kernel
theorem dX11_feed_74 : decode cX11_feed 74 = .ok (.iload 5, 2) := by decide +kernel
theorem dX11_feed_76 : decode cX11_feed 76 = .ok (.iload 7, 2) := by decide +kernel
theorem dX11_feed_78 : decode cX11_feed 78 = .ok (.invokestatic 86, 3) := by decide +kernel
theorem dX11_feed_81 : decode cX11_feed 81 = .ok (.istore 8, 2) := by decide +kernel
theorem dX11_feed_83 : decode cX11_feed 83 = .ok (.iload 8, 2) := by decide +kernel
theorem dX11_feed_85 : decode cX11_feed 85 = .ok (.ifCond .eq 24, 3) := by decide +kernel
theorem dX11_feed_88 : decode cX11_feed 88 = .ok (.aload_n 0, 1) := by decide +kernel
theorem dX11_feed_89 : decode cX11_feed 89 = .ok (.getfield 9, 3) := by decide +kernel
theorem dX11_feed_92 : decode cX11_feed 92 = .ok (.aload_n 0, 1) := by decide +kernel
theorem dX11_feed_93 : decode cX11_feed 93 = .ok (.getfield 90, 3) := by decide +kernel
theorem dX11_feed_96 : decode cX11_feed 96 = .ok (.iload 8, 2) := by decide +kernel
theorem dX11_feed_98 : decode cX11_feed 98 = .ok (.iastore, 1) := by decide +kernel
theorem dX11_feed_99 : decode cX11_feed 99 = .ok (.aload_n 0, 1) := by decide +kernel
theorem dX11_feed_100 : decode cX11_feed 100 = .ok (.dup, 1) := by decide +kernel
theorem dX11_feed_101 : decode cX11_feed 101 = .ok (.getfield 90, 3) := by decide +kernel
theorem dX11_feed_104 : decode cX11_feed 104 = .ok (.iconst 1, 1) := by decide +kernel
theorem dX11_feed_105 : decode cX11_feed 105 = .ok (.iadd, 1) := by decide +kernel
theorem dX11_feed_106 : decode cX11_feed 106 = .ok (.putfield 90, 3) := by decide +kernel
theorem dX11_feed_109 : decode cX11_feed 109 = .ok (.iinc 7 1, 3) := by decide +kernel
theorem dX11_feed_112 : decode cX11_feed 112 = .ok (.goto (-50), 3) := by decide +kernel
theorem dX11_feed_115 : decode cX11_feed 115 = .ok (.aload_n 0, 1) := by decide +kernel
theorem dX11_feed_116 : decode cX11_feed 116 = .ok (.getfield 90, 3) := by decide +kernel
theorem dX11_feed_119 : decode cX11_feed 119 = .ok (.ireturn, 1) := by decide +kernel
theorem dX11_end_0 : decode cX11_end 0 = .ok (.iload_n 1, 1) := by decide +kernel
theorem dX11_end_1 : decode cX11_end 1 = .ok (.ifCond .lt 11, 3) := by decide +kernel
theorem dX11_end_4 : decode cX11_end 4 = .ok (.iload_n 1, 1) := by decide +kernel
theorem dX11_end_5 : decode cX11_end 5 = .ok (.aload_n 0, 1) := by decide +kernel
theorem dX11_end_6 : decode cX11_end 6 = .ok (.getfield 90, 3) := by decide +kernel
theorem dX11_end_9 : decode cX11_end 9 = .ok (.if_icmp .le 5, 3) := by decide +kernel
theorem dX11_end_12 : decode cX11_end 12 = .ok (.iconst 0, 1) := by decide +kernel
theorem dX11_end_13 : decode cX11_end 13 = .ok (.ireturn, 1) := by decide +kernel
theorem dX11_end_14 : decode cX11_end 14 = .ok (.aload_n 0, 1) := by decide +kernel
theorem dX11_end_15 : decode cX11_end 15 = .ok (.iload_n 1, 1) := by decide +kernel
theorem dX11_end_16 : decode cX11_end 16 = .ok (.putfield 90, 3) := by decide +kernel
theorem dX11_end_19 : decode cX11_end 19 = .ok (.iconst 1, 1) := by decide +kernel
theorem dX11_end_20 : decode cX11_end 20 = .ok (.ireturn, 1) := by decide +kernel
theorem dX11_here_0 : decode cX11_here 0 = .ok (.aload_n 0, 1) := by decide +kernel
theorem dX11_here_1 : decode cX11_here 1 = .ok (.getfield 93, 3) := by decide +kernel
theorem dX11_here_4 : decode cX11_here 4 = .ok (.aload_n 0, 1) := by decide +kernel
theorem dX11_here_5 : decode cX11_here 5 = .ok (.getfield 90, 3) := by decide +kernel
theorem dX11_here_8 : decode cX11_here 8 = .ok (.if_icmp .ge 15, 3) := by decide +kernel
theorem dX11_here_11 : decode cX11_here 11 = .ok (.aload_n 0, 1) := by decide +kernel
theorem dX11_here_12 : decode cX11_here 12 = .ok (.getfield 9, 3) := by decide +kernel
theorem dX11_here_15 : decode cX11_here 15 = .ok (.aload_n 0, 1) := by decide +kernel
theorem dX11_here_16 : decode cX11_here 16 = .ok (.getfield 93, 3) := by decide +kernel
theorem dX11_here_19 : decode cX11_here 19 = .ok (.iaload, 1) := by decide +kernel
theorem dX11_here_20 : decode cX11_here 20 = .ok (.goto 4, 3) := by decide +kernel
theorem dX11_here_23 : decode cX11_here 23 = .ok (.iconst (-1), 1) := by decide +kernel
theorem dX11_here_24 : decode cX11_here 24 = .ok (.ireturn, 1) := by decide +kernel
theorem dX11_look_0 : decode cX11_look 0 = .ok (.aload_n 0, 1) := by decide +kernel
theorem dX11_look_1 : decode cX11_look 1 = .ok (.invokevirtual 96, 3) := by decide +kernel
theorem dX11_look_4 : decode cX11_look 4 = .ok (.bipush 32, 2) := by decide +kernel
theorem dX11_look_6 : decode cX11_look 6 = .ok (.if_icmp .ne 16, 3) := by decide +kernel
theorem dX11_look_9 : decode cX11_look 9 = .ok (.aload_n 0, 1) := by decide +kernel
theorem dX11_look_10 : decode cX11_look 10 = .ok (.dup, 1) := by decide +kernel
theorem dX11_look_11 : decode cX11_look 11 = .ok (.getfield 93, 3) := by decide +kernel
theorem dX11_look_14 : decode cX11_look 14 = .ok (.iconst 1, 1) := by decide +kernel
theorem dX11_look_15 : decode cX11_look 15 = .ok (.iadd, 1) := by decide +kernel
theorem dX11_look_16 : decode cX11_look 16 = .ok (.putfield 93, 3) := by decide +kernel
theorem dX11_look_19 : decode cX11_look 19 = .ok (.goto (-19), 3) := by decide +kernel
theorem dX11_look_22 : decode cX11_look 22 = .ok (.aload_n 0, 1) := by decide +kernel
theorem dX11_look_23 : decode cX11_look 23 = .ok (.invokevirtual 96, 3) := by decide +kernel
theorem dX11_look_26 : decode cX11_look 26 = .ok (.ireturn, 1) := by decide +kernel
theorem dX11_bad_0 : decode cX11_bad 0 = .ok (.aload_n 0, 1) := by decide +kernel
theorem dX11_bad_1 : decode cX11_bad 1 = .ok (.aload_n 0, 1) := by decide +kernel
theorem dX11_bad_2 : decode cX11_bad 2 = .ok (.getfield 100, 3) := by decide +kernel
theorem dX11_bad_5 : decode cX11_bad 5 = .ok (.iconst (-1), 1) := by decide +kernel
theorem dX11_bad_6 : decode cX11_bad 6 = .ok (.if_icmp .ne 10, 3) := by decide +kernel
theorem dX11_bad_9 : decode cX11_bad 9 = .ok (.aload_n 0, 1) := by decide +kernel
theorem dX11_bad_10 : decode cX11_bad 10 = .ok (.getfield 93, 3) := by decide +kernel
theorem dX11_bad_13 : decode cX11_bad 13 = .ok (.goto 7, 3) := by decide +kernel
theorem dX11_bad_16 : decode cX11_bad 16 = .ok (.aload_n 0, 1) := by decide +kernel
theorem dX11_bad_17 : decode cX11_bad 17 = .ok (.getfield 100, 3) := by decide +kernel
theorem dX11_bad_20 : decode cX11_bad 20 = .ok (.putfield 100, 3) := by decide +kernel
theorem dX11_bad_23 : decode cX11_bad 23 = .ok (.return_, 1) := by decide +kernel
theorem dX11_isDigit_0 : decode cX11_isDigit 0 = .ok (.iload_n 0, 1) := by decide +kernel
theorem dX11_isDigit_1 : decode cX11_isDigit 1 = .ok (.bipush 48, 2) := by decide +kernel
theorem dX11_isDigit_3 : decode cX11_isDigit 3 = .ok (.if_icmp .lt 13, 3) := by decide +kernel
theorem dX11_isDigit_6 : decode cX11_isDigit 6 = .ok (.iload_n 0, 1) := by decide +kernel
theorem dX11_isDigit_7 : decode cX11_isDigit 7 = .ok (.bipush 57, 2) := by decide +kernel
theorem dX11_isDigit_9 : decode cX11_isDigit 9 = .ok (.if_icmp .gt 7, 3) := by decide +kernel
theorem dX11_isDigit_12 : decode cX11_isDigit 12 = .ok (.iconst 1, 1) := by decide +kernel
theorem dX11_isDigit_13 : decode cX11_isDigit 13 = .ok (.goto 4, 3) := by decide +kernel
theorem dX11_isDigit_16 : decode cX11_isDigit 16 = .ok (.iconst 0, 1) := by decide +kernel
theorem dX11_isDigit_17 : decode cX11_isDigit 17 = .ok (.ireturn, 1) := by decide +kernel
theorem dX11_letterOf_0 : decode cX11_letterOf 0 = .ok (.iload_n 0, 1) := by decide +kernel
theorem dX11_letterOf_1 : decode cX11_letterOf 1 = .ok (.bipush 102, 2) := by decide +kernel
theorem dX11_letterOf_3 : decode cX11_letterOf 3 = .ok (.if_icmp .ne 7, 3) := by decide +kernel
theorem dX11_letterOf_6 : decode cX11_letterOf 6 = .ok (.iconst 0, 1) := by decide +kernel
theorem dX11_letterOf_7 : decode cX11_letterOf 7 = .ok (.goto 54, 3) := by decide +kernel
theorem dX11_letterOf_10 : decode cX11_letterOf 10 = .ok (.iload_n 0, 1) := by decide +kernel
theorem dX11_letterOf_11 : decode cX11_letterOf 11 = .ok (.bipush 119, 2) := by decide +kernel
theorem dX11_letterOf_13 : decode cX11_letterOf 13 = .ok (.if_icmp .ne 7, 3) := by decide +kernel
theorem dX11_letterOf_16 : decode cX11_letterOf 16 = .ok (.iconst 1, 1) := by decide +kernel
theorem dX11_letterOf_17 : decode cX11_letterOf 17 = .ok (.goto 44, 3) := by decide +kernel
theorem dX11_letterOf_20 : decode cX11_letterOf 20 = .ok (.iload_n 0, 1) := by decide +kernel
theorem dX11_letterOf_21 : decode cX11_letterOf 21 = .ok (.bipush 121, 2) := by decide +kernel
theorem dX11_letterOf_23 : decode cX11_letterOf 23 = .ok (.if_icmp .ne 7, 3) := by decide +kernel
theorem dX11_letterOf_26 : decode cX11_letterOf 26 = .ok (.iconst 2, 1) := by decide +kernel
theorem dX11_letterOf_27 : decode cX11_letterOf 27 = .ok (.goto 34, 3) := by decide +kernel
theorem dX11_letterOf_30 : decode cX11_letterOf 30 = .ok (.iload_n 0, 1) := by decide +kernel
theorem dX11_letterOf_31 : decode cX11_letterOf 31 = .ok (.bipush 115, 2) := by decide +kernel
theorem dX11_letterOf_33 : decode cX11_letterOf 33 = .ok (.if_icmp .ne 7, 3) := by decide +kernel
theorem dX11_letterOf_36 : decode cX11_letterOf 36 = .ok (.iconst 3, 1) := by decide +kernel
theorem dX11_letterOf_37 : decode cX11_letterOf 37 = .ok (.goto 24, 3) := by decide +kernel
theorem dX11_letterOf_40 : decode cX11_letterOf 40 = .ok (.iload_n 0, 1) := by decide +kernel
theorem dX11_letterOf_41 : decode cX11_letterOf 41 = .ok (.bipush 97, 2) := by decide +kernel
theorem dX11_letterOf_43 : decode cX11_letterOf 43 = .ok (.if_icmp .ne 7, 3) := by decide +kernel
theorem dX11_letterOf_46 : decode cX11_letterOf 46 = .ok (.iconst 4, 1) := by decide +kernel
theorem dX11_letterOf_47 : decode cX11_letterOf 47 = .ok (.goto 14, 3) := by decide +kernel
theorem dX11_letterOf_50 : decode cX11_letterOf 50 = .ok (.iload_n 0, 1) := by decide +kernel
theorem dX11_letterOf_51 : decode cX11_letterOf 51 = .ok (.bipush 109, 2) := by decide +kernel
theorem dX11_letterOf_53 : decode cX11_letterOf 53 = .ok (.if_icmp .ne 7, 3) := by decide +kernel
theorem dX11_letterOf_56 : decode cX11_letterOf 56 = .ok (.iconst 5, 1) := by decide +kernel
theorem dX11_letterOf_57 : decode cX11_letterOf 57 = .ok (.goto 4, 3) := by decide +kernel
theorem dX11_letterOf_60 : decode cX11_letterOf 60 = .ok (.iconst (-1), 1) := by decide +kernel
theorem dX11_letterOf_61 : decode cX11_letterOf 61 = .ok (.ireturn, 1) := by decide +kernel
theorem dX11_isSign_0 : decode cX11_isSign 0 = .ok (.iload_n 0, 1) := by decide +kernel
theorem dX11_isSign_1 : decode cX11_isSign 1 = .ok (.bipush 61, 2) := by decide +kernel
theorem dX11_isSign_3 : decode cX11_isSign 3 = .ok (.if_icmp .eq 15, 3) := by decide +kernel
theorem dX11_isSign_6 : decode cX11_isSign 6 = .ok (.iload_n 0, 1) := by decide +kernel
theorem dX11_isSign_7 : decode cX11_isSign 7 = .ok (.bipush 60, 2) := by decide +kernel
theorem dX11_isSign_9 : decode cX11_isSign 9 = .ok (.if_icmp .eq 9, 3) := by decide +kernel
theorem dX11_isSign_12 : decode cX11_isSign 12 = .ok (.iload_n 0, 1) := by decide +kernel
theorem dX11_isSign_13 : decode cX11_isSign 13 = .ok (.bipush 62, 2) := by decide +kernel
theorem dX11_isSign_15 : decode cX11_isSign 15 = .ok (.if_icmp .ne 7, 3) := by decide +kernel
theorem dX11_isSign_18 : decode cX11_isSign 18 = .ok (.iconst 1, 1) := by decide +kernel
theorem dX11_isSign_19 : decode cX11_isSign 19 = .ok (.goto 4, 3) := by decide +kernel
theorem dX11_isSign_22 : decode cX11_isSign 22 = .ok (.iconst 0, 1) := by decide +kernel
theorem dX11_isSign_23 : decode cX11_isSign 23 = .ok (.ireturn, 1) := by decide +kernel
theorem dX11_bounded_0 : decode cX11_bounded 0 = .ok (.ldc2_w 173, 3) := by decide +kernel
theorem dX11_bounded_3 : decode cX11_bounded 3 = .ok (.ldc2_w 175, 3) := by decide +kernel
theorem dX11_bounded_6 : decode cX11_bounded 6 = .ok (.lload_n 0, 1) := by decide +kernel
theorem dX11_bounded_7 : decode cX11_bounded 7 = .ok (.invokestatic 177, 3) := by decide +kernel
theorem dX11_bounded_10 : decode cX11_bounded 10 = .ok (.invokestatic 183, 3) := by decide +kernel
theorem dX11_bounded_13 : decode cX11_bounded 13 = .ok (.l2i, 1) := by decide +kernel
theorem dX11_bounded_14 : decode cX11_bounded 14 = .ok (.ireturn, 1) := by decide +kernel
theorem dX11_worked_0 : decode cX11_worked 0 = .ok (.iload_n 0, 1) := by decide +kernel
theorem dX11_worked_1 : decode cX11_worked 1 = .ok (.tableswitch 143 2 10 #[51, 58, 65, 72, 89, 101, 113, 143, 125], 51) := by decide +kernel
theorem dX11_worked_52 : decode cX11_worked 52 = .ok (.lload_n 1, 1) := by decide +kernel
theorem dX11_worked_53 : decode cX11_worked 53 = .ok (.lload_n 3, 1) := by decide +kernel
theorem dX11_worked_54 : decode cX11_worked 54 = .ok (.ladd, 1) := by decide +kernel
theorem dX11_worked_55 : decode cX11_worked 55 = .ok (.invokestatic 186, 3) := by decide +kernel
theorem dX11_worked_58 : decode cX11_worked 58 = .ok (.ireturn, 1) := by decide +kernel
theorem dX11_worked_59 : decode cX11_worked 59 = .ok (.lload_n 1, 1) := by decide +kernel
theorem dX11_worked_60 : decode cX11_worked 60 = .ok (.lload_n 3, 1) := by decide +kernel
theorem dX11_worked_61 : decode cX11_worked 61 = .ok (.lsub, 1) := by decide +kernel
theorem dX11_worked_62 : decode cX11_worked 62 = .ok (.invokestatic 186, 3) := by decide +kernel
theorem dX11_worked_65 : decode cX11_worked 65 = .ok (.ireturn, 1) := by decide +kernel
theorem dX11_worked_66 : decode cX11_worked 66 = .ok (.lload_n 1, 1) := by decide +kernel
theorem dX11_worked_67 : decode cX11_worked 67 = .ok (.lload_n 3, 1) := by decide +kernel
theorem dX11_worked_68 : decode cX11_worked 68 = .ok (.lmul, 1) := by decide +kernel
theorem dX11_worked_69 : decode cX11_worked 69 = .ok (.invokestatic 186, 3) := by decide +kernel
theorem dX11_worked_72 : decode cX11_worked 72 = .ok (.ireturn, 1) := by decide +kernel
theorem dX11_worked_73 : decode cX11_worked 73 = .ok (.lload_n 3, 1) := by decide +kernel
theorem dX11_worked_74 : decode cX11_worked 74 = .ok (.lconst 0, 1) := by decide +kernel
theorem dX11_worked_75 : decode cX11_worked 75 = .ok (.lcmp, 1) := by decide +kernel
theorem dX11_worked_76 : decode cX11_worked 76 = .ok (.ifCond .ne 7, 3) := by decide +kernel
theorem dX11_worked_79 : decode cX11_worked 79 = .ok (.iconst 0, 1) := by decide +kernel
theorem dX11_worked_80 : decode cX11_worked 80 = .ok (.goto 9, 3) := by decide +kernel
theorem dX11_worked_83 : decode cX11_worked 83 = .ok (.lload_n 1, 1) := by decide +kernel
theorem dX11_worked_84 : decode cX11_worked 84 = .ok (.lload_n 3, 1) := by decide +kernel
theorem dX11_worked_85 : decode cX11_worked 85 = .ok (.ldiv, 1) := by decide +kernel
theorem dX11_worked_86 : decode cX11_worked 86 = .ok (.invokestatic 186, 3) := by decide +kernel
theorem dX11_worked_89 : decode cX11_worked 89 = .ok (.ireturn, 1) := by decide +kernel
theorem dX11_worked_90 : decode cX11_worked 90 = .ok (.lload_n 1, 1) := by decide +kernel
theorem dX11_worked_91 : decode cX11_worked 91 = .ok (.lload_n 3, 1) := by decide +kernel
theorem dX11_worked_92 : decode cX11_worked 92 = .ok (.lcmp, 1) := by decide +kernel
theorem dX11_worked_93 : decode cX11_worked 93 = .ok (.ifCond .ne 7, 3) := by decide +kernel
theorem dX11_worked_96 : decode cX11_worked 96 = .ok (.iconst 1, 1) := by decide +kernel
theorem dX11_worked_97 : decode cX11_worked 97 = .ok (.goto 4, 3) := by decide +kernel
theorem dX11_worked_100 : decode cX11_worked 100 = .ok (.iconst 0, 1) := by decide +kernel
theorem dX11_worked_101 : decode cX11_worked 101 = .ok (.ireturn, 1) := by decide +kernel
theorem dX11_worked_102 : decode cX11_worked 102 = .ok (.lload_n 1, 1) := by decide +kernel
theorem dX11_worked_103 : decode cX11_worked 103 = .ok (.lload_n 3, 1) := by decide +kernel
theorem dX11_worked_104 : decode cX11_worked 104 = .ok (.lcmp, 1) := by decide +kernel
theorem dX11_worked_105 : decode cX11_worked 105 = .ok (.ifCond .ge 7, 3) := by decide +kernel
theorem dX11_worked_108 : decode cX11_worked 108 = .ok (.iconst 1, 1) := by decide +kernel
theorem dX11_worked_109 : decode cX11_worked 109 = .ok (.goto 4, 3) := by decide +kernel
theorem dX11_worked_112 : decode cX11_worked 112 = .ok (.iconst 0, 1) := by decide +kernel
theorem dX11_worked_113 : decode cX11_worked 113 = .ok (.ireturn, 1) := by decide +kernel
theorem dX11_worked_114 : decode cX11_worked 114 = .ok (.lload_n 1, 1) := by decide +kernel
theorem dX11_worked_115 : decode cX11_worked 115 = .ok (.lload_n 3, 1) := by decide +kernel
theorem dX11_worked_116 : decode cX11_worked 116 = .ok (.lcmp, 1) := by decide +kernel
theorem dX11_worked_117 : decode cX11_worked 117 = .ok (.ifCond .le 7, 3) := by decide +kernel
theorem dX11_worked_120 : decode cX11_worked 120 = .ok (.iconst 1, 1) := by decide +kernel
theorem dX11_worked_121 : decode cX11_worked 121 = .ok (.goto 4, 3) := by decide +kernel
theorem dX11_worked_124 : decode cX11_worked 124 = .ok (.iconst 0, 1) := by decide +kernel
theorem dX11_worked_125 : decode cX11_worked 125 = .ok (.ireturn, 1) := by decide +kernel
theorem dX11_worked_126 : decode cX11_worked 126 = .ok (.lload_n 1, 1) := by decide +kernel
theorem dX11_worked_127 : decode cX11_worked 127 = .ok (.lconst 0, 1) := by decide +kernel
theorem dX11_worked_128 : decode cX11_worked 128 = .ok (.lcmp, 1) := by decide +kernel
theorem dX11_worked_129 : decode cX11_worked 129 = .ok (.ifCond .eq 13, 3) := by decide +kernel
theorem dX11_worked_132 : decode cX11_worked 132 = .ok (.lload_n 3, 1) := by decide +kernel
theorem dX11_worked_133 : decode cX11_worked 133 = .ok (.lconst 0, 1) := by decide +kernel
theorem dX11_worked_134 : decode cX11_worked 134 = .ok (.lcmp, 1) := by decide +kernel
theorem dX11_worked_135 : decode cX11_worked 135 = .ok (.ifCond .eq 7, 3) := by decide +kernel
theorem dX11_worked_138 : decode cX11_worked 138 = .ok (.iconst 1, 1) := by decide +kernel
theorem dX11_worked_139 : decode cX11_worked 139 = .ok (.goto 4, 3) := by decide +kernel
theorem dX11_worked_142 : decode cX11_worked 142 = .ok (.iconst 0, 1) := by decide +kernel
theorem dX11_worked_143 : decode cX11_worked 143 = .ok (.ireturn, 1) := by decide +kernel
theorem dX11_worked_144 : decode cX11_worked 144 = .ok (.lload_n 1, 1) := by decide +kernel
theorem dX11_worked_145 : decode cX11_worked 145 = .ok (.lconst 0, 1) := by decide +kernel
theorem dX11_worked_146 : decode cX11_worked 146 = .ok (.lcmp, 1) := by decide +kernel
theorem dX11_worked_147 : decode cX11_worked 147 = .ok (.ifCond .ne 9, 3) := by decide +kernel
theorem dX11_worked_150 : decode cX11_worked 150 = .ok (.lload_n 3, 1) := by decide +kernel
theorem dX11_worked_151 : decode cX11_worked 151 = .ok (.lconst 0, 1) := by decide +kernel
theorem dX11_worked_152 : decode cX11_worked 152 = .ok (.lcmp, 1) := by decide +kernel
theorem dX11_worked_153 : decode cX11_worked 153 = .ok (.ifCond .eq 7, 3) := by decide +kernel
theorem dX11_worked_156 : decode cX11_worked 156 = .ok (.iconst 1, 1) := by decide +kernel
theorem dX11_worked_157 : decode cX11_worked 157 = .ok (.goto 4, 3) := by decide +kernel
theorem dX11_worked_160 : decode cX11_worked 160 = .ok (.iconst 0, 1) := by decide +kernel
theorem dX11_worked_161 : decode cX11_worked 161 = .ok (.ireturn, 1) := by decide +kernel
theorem dX11_workOut_0 : decode cX11_workOut 0 = .ok (.iconst 0, 1) := by decide +kernel
theorem dX11_workOut_1 : decode cX11_workOut 1 = .ok (.istore 4, 2) := by decide +kernel
theorem dX11_workOut_3 : decode cX11_workOut 3 = .ok (.sipush 520, 3) := by decide +kernel
theorem dX11_workOut_6 : decode cX11_workOut 6 = .ok (.iload_n 1, 1) := by decide +kernel
theorem dX11_workOut_7 : decode cX11_workOut 7 = .ok (.imul, 1) := by decide +kernel
theorem dX11_workOut_8 : decode cX11_workOut 8 = .ok (.iload_n 2, 1) := by decide +kernel
theorem dX11_workOut_9 : decode cX11_workOut 9 = .ok (.iadd, 1) := by decide +kernel
theorem dX11_workOut_10 : decode cX11_workOut 10 = .ok (.istore 5, 2) := by decide +kernel
theorem dX11_workOut_12 : decode cX11_workOut 12 = .ok (.iload 5, 2) := by decide +kernel
theorem dX11_workOut_14 : decode cX11_workOut 14 = .ok (.sipush 520, 3) := by decide +kernel
theorem dX11_workOut_17 : decode cX11_workOut 17 = .ok (.iload_n 1, 1) := by decide +kernel
theorem dX11_workOut_18 : decode cX11_workOut 18 = .ok (.imul, 1) := by decide +kernel
theorem dX11_workOut_19 : decode cX11_workOut 19 = .ok (.iload_n 3, 1) := by decide +kernel
theorem dX11_workOut_20 : decode cX11_workOut 20 = .ok (.iadd, 1) := by decide +kernel
theorem dX11_workOut_21 : decode cX11_workOut 21 = .ok (.if_icmp .ge 150, 3) := by decide +kernel
theorem dX11_workOut_24 : decode cX11_workOut 24 = .ok (.aload_n 0, 1) := by decide +kernel
theorem dX11_workOut_25 : decode cX11_workOut 25 = .ok (.getfield 13, 3) := by decide +kernel
theorem dX11_workOut_28 : decode cX11_workOut 28 = .ok (.iload 5, 2) := by decide +kernel
theorem dX11_workOut_30 : decode cX11_workOut 30 = .ok (.iaload, 1) := by decide +kernel
theorem dX11_workOut_31 : decode cX11_workOut 31 = .ok (.ifCond .eq 14, 3) := by decide +kernel
theorem dX11_workOut_34 : decode cX11_workOut 34 = .ok (.aload_n 0, 1) := by decide +kernel
theorem dX11_workOut_35 : decode cX11_workOut 35 = .ok (.getfield 13, 3) := by decide +kernel
theorem dX11_workOut_38 : decode cX11_workOut 38 = .ok (.iload 5, 2) := by decide +kernel
theorem dX11_workOut_40 : decode cX11_workOut 40 = .ok (.iaload, 1) := by decide +kernel
theorem dX11_workOut_41 : decode cX11_workOut 41 = .ok (.iconst 1, 1) := by decide +kernel
theorem dX11_workOut_42 : decode cX11_workOut 42 = .ok (.if_icmp .ne 48, 3) := by decide +kernel
theorem dX11_workOut_45 : decode cX11_workOut 45 = .ok (.aload_n 0, 1) := by decide +kernel
theorem dX11_workOut_46 : decode cX11_workOut 46 = .ok (.getfield 37, 3) := by decide +kernel
theorem dX11_workOut_49 : decode cX11_workOut 49 = .ok (.iload 4, 2) := by decide +kernel
theorem dX11_workOut_51 : decode cX11_workOut 51 = .ok (.aload_n 0, 1) := by decide +kernel
theorem dX11_workOut_52 : decode cX11_workOut 52 = .ok (.getfield 13, 3) := by decide +kernel
theorem dX11_workOut_55 : decode cX11_workOut 55 = .ok (.iload 5, 2) := by decide +kernel
theorem dX11_workOut_57 : decode cX11_workOut 57 = .ok (.iaload, 1) := by decide +kernel
theorem dX11_workOut_58 : decode cX11_workOut 58 = .ok (.ifCond .ne 13, 3) := by decide +kernel
theorem dX11_workOut_61 : decode cX11_workOut 61 = .ok (.aload_n 0, 1) := by decide +kernel
theorem dX11_workOut_62 : decode cX11_workOut 62 = .ok (.getfield 16, 3) := by decide +kernel
theorem dX11_workOut_65 : decode cX11_workOut 65 = .ok (.iload 5, 2) := by decide +kernel
theorem dX11_workOut_67 : decode cX11_workOut 67 = .ok (.iaload, 1) := by decide +kernel
theorem dX11_workOut_68 : decode cX11_workOut 68 = .ok (.goto 15, 3) := by decide +kernel
theorem dX11_workOut_71 : decode cX11_workOut 71 = .ok (.aload_n 0, 1) := by decide +kernel
theorem dX11_workOut_72 : decode cX11_workOut 72 = .ok (.getfield 34, 3) := by decide +kernel
theorem dX11_workOut_75 : decode cX11_workOut 75 = .ok (.aload_n 0, 1) := by decide +kernel
theorem dX11_workOut_76 : decode cX11_workOut 76 = .ok (.getfield 16, 3) := by decide +kernel
theorem dX11_workOut_79 : decode cX11_workOut 79 = .ok (.iload 5, 2) := by decide +kernel
theorem dX11_workOut_81 : decode cX11_workOut 81 = .ok (.iaload, 1) := by decide +kernel
theorem dX11_workOut_82 : decode cX11_workOut 82 = .ok (.iaload, 1) := by decide +kernel
theorem dX11_workOut_83 : decode cX11_workOut 83 = .ok (.iastore, 1) := by decide +kernel
theorem dX11_workOut_84 : decode cX11_workOut 84 = .ok (.iinc 4 1, 3) := by decide +kernel
theorem dX11_workOut_87 : decode cX11_workOut 87 = .ok (.goto 78, 3) := by decide +kernel
theorem dX11_workOut_90 : decode cX11_workOut 90 = .ok (.aload_n 0, 1) := by decide +kernel
theorem dX11_workOut_91 : decode cX11_workOut 91 = .ok (.getfield 13, 3) := by decide +kernel
theorem dX11_workOut_94 : decode cX11_workOut 94 = .ok (.iload 5, 2) := by decide +kernel
theorem dX11_workOut_96 : decode cX11_workOut 96 = .ok (.iaload, 1) := by decide +kernel
theorem dX11_workOut_97 : decode cX11_workOut 97 = .ok (.bipush 9, 2) := by decide +kernel
theorem dX11_workOut_99 : decode cX11_workOut 99 = .ok (.if_icmp .ne 26, 3) := by decide +kernel
theorem dX11_workOut_102 : decode cX11_workOut 102 = .ok (.aload_n 0, 1) := by decide +kernel
theorem dX11_workOut_103 : decode cX11_workOut 103 = .ok (.getfield 37, 3) := by decide +kernel
theorem dX11_workOut_106 : decode cX11_workOut 106 = .ok (.iload 4, 2) := by decide +kernel
theorem dX11_workOut_108 : decode cX11_workOut 108 = .ok (.iconst 1, 1) := by decide +kernel
theorem dX11_workOut_109 : decode cX11_workOut 109 = .ok (.isub, 1) := by decide +kernel
theorem dX11_workOut_110 : decode cX11_workOut 110 = .ok (.iconst 1, 1) := by decide +kernel
theorem dX11_workOut_111 : decode cX11_workOut 111 = .ok (.aload_n 0, 1) := by decide +kernel
theorem dX11_workOut_112 : decode cX11_workOut 112 = .ok (.getfield 37, 3) := by decide +kernel
theorem dX11_workOut_115 : decode cX11_workOut 115 = .ok (.iload 4, 2) := by decide +kernel
theorem dX11_workOut_117 : decode cX11_workOut 117 = .ok (.iconst 1, 1) := by decide +kernel
theorem dX11_workOut_118 : decode cX11_workOut 118 = .ok (.isub, 1) := by decide +kernel
theorem dX11_workOut_119 : decode cX11_workOut 119 = .ok (.iaload, 1) := by decide +kernel
theorem dX11_workOut_120 : decode cX11_workOut 120 = .ok (.isub, 1) := by decide +kernel
theorem dX11_workOut_121 : decode cX11_workOut 121 = .ok (.iastore, 1) := by decide +kernel
theorem dX11_workOut_122 : decode cX11_workOut 122 = .ok (.goto 43, 3) := by decide +kernel
theorem dX11_workOut_125 : decode cX11_workOut 125 = .ok (.iinc 4 (-1), 3) := by decide +kernel
theorem dX11_workOut_128 : decode cX11_workOut 128 = .ok (.aload_n 0, 1) := by decide +kernel
theorem dX11_workOut_129 : decode cX11_workOut 129 = .ok (.getfield 37, 3) := by decide +kernel
theorem dX11_workOut_132 : decode cX11_workOut 132 = .ok (.iload 4, 2) := by decide +kernel
theorem dX11_workOut_134 : decode cX11_workOut 134 = .ok (.iconst 1, 1) := by decide +kernel
theorem dX11_workOut_135 : decode cX11_workOut 135 = .ok (.isub, 1) := by decide +kernel
theorem dX11_workOut_136 : decode cX11_workOut 136 = .ok (.aload_n 0, 1) := by decide +kernel
theorem dX11_workOut_137 : decode cX11_workOut 137 = .ok (.getfield 13, 3) := by decide +kernel
theorem dX11_workOut_140 : decode cX11_workOut 140 = .ok (.iload 5, 2) := by decide +kernel
theorem dX11_workOut_142 : decode cX11_workOut 142 = .ok (.iaload, 1) := by decide +kernel
theorem dX11_workOut_143 : decode cX11_workOut 143 = .ok (.aload_n 0, 1) := by decide +kernel
theorem dX11_workOut_144 : decode cX11_workOut 144 = .ok (.getfield 37, 3) := by decide +kernel
theorem dX11_workOut_147 : decode cX11_workOut 147 = .ok (.iload 4, 2) := by decide +kernel
theorem dX11_workOut_149 : decode cX11_workOut 149 = .ok (.iconst 1, 1) := by decide +kernel
theorem dX11_workOut_150 : decode cX11_workOut 150 = .ok (.isub, 1) := by decide +kernel
theorem dX11_workOut_151 : decode cX11_workOut 151 = .ok (.iaload, 1) := by decide +kernel
theorem dX11_workOut_152 : decode cX11_workOut 152 = .ok (.i2l, 1) := by decide +kernel
theorem dX11_workOut_153 : decode cX11_workOut 153 = .ok (.aload_n 0, 1) := by decide +kernel
theorem dX11_workOut_154 : decode cX11_workOut 154 = .ok (.getfield 37, 3) := by decide +kernel
theorem dX11_workOut_157 : decode cX11_workOut 157 = .ok (.iload 4, 2) := by decide +kernel
theorem dX11_workOut_159 : decode cX11_workOut 159 = .ok (.iaload, 1) := by decide +kernel
theorem dX11_workOut_160 : decode cX11_workOut 160 = .ok (.i2l, 1) := by decide +kernel
theorem dX11_workOut_161 : decode cX11_workOut 161 = .ok (.invokestatic 190, 3) := by decide +kernel
theorem dX11_workOut_164 : decode cX11_workOut 164 = .ok (.iastore, 1) := by decide +kernel
theorem dX11_workOut_165 : decode cX11_workOut 165 = .ok (.iinc 5 1, 3) := by decide +kernel
theorem dX11_workOut_168 : decode cX11_workOut 168 = .ok (.goto (-156), 3) := by decide +kernel
theorem dX11_workOut_171 : decode cX11_workOut 171 = .ok (.aload_n 0, 1) := by decide +kernel
theorem dX11_workOut_172 : decode cX11_workOut 172 = .ok (.getfield 37, 3) := by decide +kernel
theorem dX11_workOut_175 : decode cX11_workOut 175 = .ok (.iconst 0, 1) := by decide +kernel
theorem dX11_workOut_176 : decode cX11_workOut 176 = .ok (.iaload, 1) := by decide +kernel
theorem dX11_workOut_177 : decode cX11_workOut 177 = .ok (.ireturn, 1) := by decide +kernel
theorem dX11_worthOf_0 : decode cX11_worthOf 0 = .ok (.sipush 140, 3) := by decide +kernel
theorem dX11_worthOf_3 : decode cX11_worthOf 3 = .ok (.iload_n 1, 1) := by decide +kernel
theorem dX11_worthOf_4 : decode cX11_worthOf 4 = .ok (.imul, 1) := by decide +kernel
theorem dX11_worthOf_5 : decode cX11_worthOf 5 = .ok (.istore_n 2, 1) := by decide +kernel
theorem dX11_worthOf_6 : decode cX11_worthOf 6 = .ok (.iload_n 2, 1) := by decide +kernel
theorem dX11_worthOf_7 : decode cX11_worthOf 7 = .ok (.sipush 140, 3) := by decide +kernel
theorem dX11_worthOf_10 : decode cX11_worthOf 10 = .ok (.iload_n 1, 1) := by decide +kernel
theorem dX11_worthOf_11 : decode cX11_worthOf 11 = .ok (.imul, 1) := by decide +kernel
theorem dX11_worthOf_12 : decode cX11_worthOf 12 = .ok (.aload_n 0, 1) := by decide +kernel
theorem dX11_worthOf_13 : decode cX11_worthOf 13 = .ok (.getfield 22, 3) := by decide +kernel
theorem dX11_worthOf_16 : decode cX11_worthOf 16 = .ok (.iload_n 1, 1) := by decide +kernel
theorem dX11_worthOf_17 : decode cX11_worthOf 17 = .ok (.iaload, 1) := by decide +kernel
theorem dX11_worthOf_18 : decode cX11_worthOf 18 = .ok (.iadd, 1) := by decide +kernel
theorem dX11_worthOf_19 : decode cX11_worthOf 19 = .ok (.if_icmp .ge 62, 3) := by decide +kernel
theorem dX11_worthOf_22 : decode cX11_worthOf 22 = .ok (.aload_n 0, 1) := by decide +kernel
theorem dX11_worthOf_23 : decode cX11_worthOf 23 = .ok (.getfield 25, 3) := by decide +kernel
theorem dX11_worthOf_26 : decode cX11_worthOf 26 = .ok (.iload_n 2, 1) := by decide +kernel
theorem dX11_worthOf_27 : decode cX11_worthOf 27 = .ok (.iaload, 1) := by decide +kernel
theorem dX11_worthOf_28 : decode cX11_worthOf 28 = .ok (.aload_n 0, 1) := by decide +kernel
theorem dX11_worthOf_29 : decode cX11_worthOf 29 = .ok (.getfield 28, 3) := by decide +kernel
theorem dX11_worthOf_32 : decode cX11_worthOf 32 = .ok (.iload_n 2, 1) := by decide +kernel
theorem dX11_worthOf_33 : decode cX11_worthOf 33 = .ok (.iaload, 1) := by decide +kernel
theorem dX11_worthOf_34 : decode cX11_worthOf 34 = .ok (.if_icmp .eq 23, 3) := by decide +kernel
theorem dX11_worthOf_37 : decode cX11_worthOf 37 = .ok (.aload_n 0, 1) := by decide +kernel
theorem dX11_worthOf_38 : decode cX11_worthOf 38 = .ok (.iload_n 1, 1) := by decide +kernel
theorem dX11_worthOf_39 : decode cX11_worthOf 39 = .ok (.aload_n 0, 1) := by decide +kernel
theorem dX11_worthOf_40 : decode cX11_worthOf 40 = .ok (.getfield 25, 3) := by decide +kernel
theorem dX11_worthOf_43 : decode cX11_worthOf 43 = .ok (.iload_n 2, 1) := by decide +kernel
theorem dX11_worthOf_44 : decode cX11_worthOf 44 = .ok (.iaload, 1) := by decide +kernel
theorem dX11_worthOf_45 : decode cX11_worthOf 45 = .ok (.aload_n 0, 1) := by decide +kernel
theorem dX11_worthOf_46 : decode cX11_worthOf 46 = .ok (.getfield 28, 3) := by decide +kernel
theorem dX11_worthOf_49 : decode cX11_worthOf 49 = .ok (.iload_n 2, 1) := by decide +kernel
theorem dX11_worthOf_50 : decode cX11_worthOf 50 = .ok (.iaload, 1) := by decide +kernel
theorem dX11_worthOf_51 : decode cX11_worthOf 51 = .ok (.invokevirtual 194, 3) := by decide +kernel
theorem dX11_worthOf_54 : decode cX11_worthOf 54 = .ok (.ifCond .eq 21, 3) := by decide +kernel
theorem dX11_worthOf_57 : decode cX11_worthOf 57 = .ok (.aload_n 0, 1) := by decide +kernel
theorem dX11_worthOf_58 : decode cX11_worthOf 58 = .ok (.iload_n 1, 1) := by decide +kernel
theorem dX11_worthOf_59 : decode cX11_worthOf 59 = .ok (.aload_n 0, 1) := by decide +kernel
theorem dX11_worthOf_60 : decode cX11_worthOf 60 = .ok (.getfield 28, 3) := by decide +kernel
theorem dX11_worthOf_63 : decode cX11_worthOf 63 = .ok (.iload_n 2, 1) := by decide +kernel
theorem dX11_worthOf_64 : decode cX11_worthOf 64 = .ok (.iaload, 1) := by decide +kernel
theorem dX11_worthOf_65 : decode cX11_worthOf 65 = .ok (.aload_n 0, 1) := by decide +kernel
theorem dX11_worthOf_66 : decode cX11_worthOf 66 = .ok (.getfield 31, 3) := by decide +kernel
theorem dX11_worthOf_69 : decode cX11_worthOf 69 = .ok (.iload_n 2, 1) := by decide +kernel
theorem dX11_worthOf_70 : decode cX11_worthOf 70 = .ok (.iaload, 1) := by decide +kernel
theorem dX11_worthOf_71 : decode cX11_worthOf 71 = .ok (.invokevirtual 194, 3) := by decide +kernel
theorem dX11_worthOf_74 : decode cX11_worthOf 74 = .ok (.ireturn, 1) := by decide +kernel
theorem dX11_worthOf_75 : decode cX11_worthOf 75 = .ok (.iinc 2 1, 3) := by decide +kernel
theorem dX11_worthOf_78 : decode cX11_worthOf 78 = .ok (.goto (-72), 3) := by decide +kernel
theorem dX11_worthOf_81 : decode cX11_worthOf 81 = .ok (.iconst 0, 1) := by decide +kernel
theorem dX11_worthOf_82 : decode cX11_worthOf 82 = .ok (.ireturn, 1) := by decide +kernel
theorem dX11_of_0 : decode cX11_of 0 = .ok (.aload_n 0, 1) := by decide +kernel
theorem dX11_of_1 : decode cX11_of 1 = .ok (.getfield 52, 3) := by decide +kernel
theorem dX11_of_4 : decode cX11_of 4 = .ok (.iconst 4, 1) := by decide +kernel
theorem dX11_of_5 : decode cX11_of 5 = .ok (.iload_n 1, 1) := by decide +kernel
theorem dX11_of_6 : decode cX11_of 6 = .ok (.imul, 1) := by decide +kernel
theorem dX11_of_7 : decode cX11_of 7 = .ok (.iload_n 2, 1) := by decide +kernel
theorem dX11_of_8 : decode cX11_of 8 = .ok (.iadd, 1) := by decide +kernel
theorem dX11_of_9 : decode cX11_of 9 = .ok (.iaload, 1) := by decide +kernel
theorem dX11_of_10 : decode cX11_of 10 = .ok (.ireturn, 1) := by decide +kernel
theorem dX11_by_0 : decode cX11_by 0 = .ok (.aload_n 0, 1) := by decide +kernel
theorem dX11_by_1 : decode cX11_by 1 = .ok (.getfield 55, 3) := by decide +kernel
theorem dX11_by_4 : decode cX11_by 4 = .ok (.iconst 4, 1) := by decide +kernel
theorem dX11_by_5 : decode cX11_by 5 = .ok (.iload_n 1, 1) := by decide +kernel
theorem dX11_by_6 : decode cX11_by 6 = .ok (.imul, 1) := by decide +kernel
theorem dX11_by_7 : decode cX11_by 7 = .ok (.iload_n 2, 1) := by decide +kernel
theorem dX11_by_8 : decode cX11_by 8 = .ok (.iadd, 1) := by decide +kernel
theorem dX11_by_9 : decode cX11_by 9 = .ok (.iaload, 1) := by decide +kernel
theorem dX11_by_10 : decode cX11_by 10 = .ok (.ireturn, 1) := by decide +kernel
theorem dX11_shot_0 : decode cX11_shot 0 = .ok (.aload_n 0, 1) := by decide +kernel
theorem dX11_shot_1 : decode cX11_shot 1 = .ok (.getfield 58, 3) := by decide +kernel
theorem dX11_shot_4 : decode cX11_shot 4 = .ok (.bipush 17, 2) := by decide +kernel
theorem dX11_shot_6 : decode cX11_shot 6 = .ok (.iconst 4, 1) := by decide +kernel
theorem dX11_shot_7 : decode cX11_shot 7 = .ok (.iload_n 1, 1) := by decide +kernel
theorem dX11_shot_8 : decode cX11_shot 8 = .ok (.imul, 1) := by decide +kernel
theorem dX11_shot_9 : decode cX11_shot 9 = .ok (.iadd, 1) := by decide +kernel
theorem dX11_shot_10 : decode cX11_shot 10 = .ok (.iload_n 2, 1) := by decide +kernel
theorem dX11_shot_11 : decode cX11_shot 11 = .ok (.iadd, 1) := by decide +kernel
theorem dX11_shot_12 : decode cX11_shot 12 = .ok (.iaload, 1) := by decide +kernel
theorem dX11_shot_13 : decode cX11_shot 13 = .ok (.ireturn, 1) := by decide +kernel
theorem dX11_isBride_0 : decode cX11_isBride 0 = .ok (.iload_n 1, 1) := by decide +kernel
theorem dX11_isBride_1 : decode cX11_isBride 1 = .ok (.iconst 0, 1) := by decide +kernel
theorem dX11_isBride_2 : decode cX11_isBride 2 = .ok (.aload_n 0, 1) := by decide +kernel
theorem dX11_isBride_3 : decode cX11_isBride 3 = .ok (.getfield 235, 3) := by decide +kernel
theorem dX11_isBride_6 : decode cX11_isBride 6 = .ok (.iconst 1, 1) := by decide +kernel
theorem dX11_isBride_7 : decode cX11_isBride 7 = .ok (.isub, 1) := by decide +kernel
theorem dX11_isBride_8 : decode cX11_isBride 8 = .ok (.invokestatic 198, 3) := by decide +kernel
theorem dX11_isBride_11 : decode cX11_isBride 11 = .ok (.ireturn, 1) := by decide +kernel
theorem dX11_isPainter_0 : decode cX11_isPainter 0 = .ok (.iload_n 1, 1) := by decide +kernel
theorem dX11_isPainter_1 : decode cX11_isPainter 1 = .ok (.iconst 0, 1) := by decide +kernel
theorem dX11_isPainter_2 : decode cX11_isPainter 2 = .ok (.aload_n 0, 1) := by decide +kernel
theorem dX11_isPainter_3 : decode cX11_isPainter 3 = .ok (.getfield 238, 3) := by decide +kernel
theorem dX11_isPainter_6 : decode cX11_isPainter 6 = .ok (.iconst 1, 1) := by decide +kernel
theorem dX11_isPainter_7 : decode cX11_isPainter 7 = .ok (.isub, 1) := by decide +kernel
theorem dX11_isPainter_8 : decode cX11_isPainter 8 = .ok (.invokestatic 198, 3) := by decide +kernel
theorem dX11_isPainter_11 : decode cX11_isPainter 11 = .ok (.ireturn, 1) := by decide +kernel
theorem dX11_areBoth_0 : decode cX11_areBoth 0 = .ok (.aload_n 0, 1) := by decide +kernel
theorem dX11_areBoth_1 : decode cX11_areBoth 1 = .ok (.iload_n 1, 1) := by decide +kernel
theorem dX11_areBoth_2 : decode cX11_areBoth 2 = .ok (.invokevirtual 260, 3) := by decide +kernel
theorem dX11_areBoth_5 : decode cX11_areBoth 5 = .ok (.ifCond .eq 15, 3) := by decide +kernel
theorem dX11_areBoth_8 : decode cX11_areBoth 8 = .ok (.aload_n 0, 1) := by decide +kernel
theorem dX11_areBoth_9 : decode cX11_areBoth 9 = .ok (.iload_n 2, 1) := by decide +kernel
theorem dX11_areBoth_10 : decode cX11_areBoth 10 = .ok (.invokevirtual 263, 3) := by decide +kernel
theorem dX11_areBoth_13 : decode cX11_areBoth 13 = .ok (.ifCond .eq 7, 3) := by decide +kernel
theorem dX11_areBoth_16 : decode cX11_areBoth 16 = .ok (.iconst 1, 1) := by decide +kernel
theorem dX11_areBoth_17 : decode cX11_areBoth 17 = .ok (.goto 4, 3) := by decide +kernel
theorem dX11_areBoth_20 : decode cX11_areBoth 20 = .ok (.iconst 0, 1) := by decide +kernel
theorem dX11_areBoth_21 : decode cX11_areBoth 21 = .ok (.ireturn, 1) := by decide +kernel
theorem dX11_isFace_0 : decode cX11_isFace 0 = .ok (.iload_n 0, 1) := by decide +kernel
theorem dX11_isFace_1 : decode cX11_isFace 1 = .ok (.iconst 0, 1) := by decide +kernel
theorem dX11_isFace_2 : decode cX11_isFace 2 = .ok (.bipush 9, 2) := by decide +kernel
theorem dX11_isFace_4 : decode cX11_isFace 4 = .ok (.invokestatic 198, 3) := by decide +kernel
theorem dX11_isFace_7 : decode cX11_isFace 7 = .ok (.ireturn, 1) := by decide +kernel
theorem dX11_flatteryBy_0 : decode cX11_flatteryBy 0 = .ok (.iconst 0, 1) := by decide +kernel
theorem dX11_flatteryBy_1 : decode cX11_flatteryBy 1 = .ok (.iload_n 2, 1) := by decide +kernel
theorem dX11_flatteryBy_2 : decode cX11_flatteryBy 2 = .ok (.aload_n 0, 1) := by decide +kernel
theorem dX11_flatteryBy_3 : decode cX11_flatteryBy 3 = .ok (.getfield 58, 3) := by decide +kernel
theorem dX11_flatteryBy_6 : decode cX11_flatteryBy 6 = .ok (.bipush 6, 2) := by decide +kernel
theorem dX11_flatteryBy_8 : decode cX11_flatteryBy 8 = .ok (.iload_n 1, 1) := by decide +kernel
theorem dX11_flatteryBy_9 : decode cX11_flatteryBy 9 = .ok (.iadd, 1) := by decide +kernel
theorem dX11_flatteryBy_10 : decode cX11_flatteryBy 10 = .ok (.iaload, 1) := by decide +kernel
theorem dX11_flatteryBy_11 : decode cX11_flatteryBy 11 = .ok (.iconst 3, 1) := by decide +kernel
theorem dX11_flatteryBy_12 : decode cX11_flatteryBy 12 = .ok (.idiv, 1) := by decide +kernel
theorem dX11_flatteryBy_13 : decode cX11_flatteryBy 13 = .ok (.isub, 1) := by decide +kernel
theorem dX11_flatteryBy_14 : decode cX11_flatteryBy 14 = .ok (.invokestatic 266, 3) := by decide +kernel
theorem dX11_flatteryBy_17 : decode cX11_flatteryBy 17 = .ok (.ireturn, 1) := by decide +kernel
theorem dX11_looksBy_0 : decode cX11_looksBy 0 = .ok (.iload_n 3, 1) := by decide +kernel
theorem dX11_looksBy_1 : decode cX11_looksBy 1 = .ok (.aload_n 0, 1) := by decide +kernel
theorem dX11_looksBy_2 : decode cX11_looksBy 2 = .ok (.iload_n 1, 1) := by decide +kernel
theorem dX11_looksBy_3 : decode cX11_looksBy 3 = .ok (.iload 4, 2) := by decide +kernel
theorem dX11_looksBy_5 : decode cX11_looksBy 5 = .ok (.invokevirtual 268, 3) := by decide +kernel
theorem dX11_looksBy_8 : decode cX11_looksBy 8 = .ok (.iadd, 1) := by decide +kernel
theorem dX11_looksBy_9 : decode cX11_looksBy 9 = .ok (.aload_n 0, 1) := by decide +kernel
theorem dX11_looksBy_10 : decode cX11_looksBy 10 = .ok (.iload_n 2, 1) := by decide +kernel
theorem dX11_looksBy_11 : decode cX11_looksBy 11 = .ok (.iconst 2, 1) := by decide +kernel
theorem dX11_looksBy_12 : decode cX11_looksBy 12 = .ok (.invokevirtual 241, 3) := by decide +kernel
theorem dX11_looksBy_15 : decode cX11_looksBy 15 = .ok (.iconst 2, 1) := by decide +kernel
theorem dX11_looksBy_16 : decode cX11_looksBy 16 = .ok (.idiv, 1) := by decide +kernel
theorem dX11_looksBy_17 : decode cX11_looksBy 17 = .ok (.isub, 1) := by decide +kernel
theorem dX11_looksBy_18 : decode cX11_looksBy 18 = .ok (.istore 5, 2) := by decide +kernel
theorem dX11_looksBy_20 : decode cX11_looksBy 20 = .ok (.aload_n 0, 1) := by decide +kernel
theorem dX11_looksBy_21 : decode cX11_looksBy 21 = .ok (.getfield 64, 3) := by decide +kernel
theorem dX11_looksBy_24 : decode cX11_looksBy 24 = .ok (.iconst (-1), 1) := by decide +kernel
theorem dX11_looksBy_25 : decode cX11_looksBy 25 = .ok (.if_icmp .eq 80, 3) := by decide +kernel
theorem dX11_looksBy_28 : decode cX11_looksBy 28 = .ok (.aload_n 0, 1) := by decide +kernel
theorem dX11_looksBy_29 : decode cX11_looksBy 29 = .ok (.getfield 34, 3) := by decide +kernel
theorem dX11_looksBy_32 : decode cX11_looksBy 32 = .ok (.iconst 0, 1) := by decide +kernel
theorem dX11_looksBy_33 : decode cX11_looksBy 33 = .ok (.iload_n 3, 1) := by decide +kernel
theorem dX11_looksBy_34 : decode cX11_looksBy 34 = .ok (.iastore, 1) := by decide +kernel
theorem dX11_looksBy_35 : decode cX11_looksBy 35 = .ok (.aload_n 0, 1) := by decide +kernel
theorem dX11_looksBy_36 : decode cX11_looksBy 36 = .ok (.getfield 34, 3) := by decide +kernel
theorem dX11_looksBy_39 : decode cX11_looksBy 39 = .ok (.iconst 1, 1) := by decide +kernel
theorem dX11_looksBy_40 : decode cX11_looksBy 40 = .ok (.aload_n 0, 1) := by decide +kernel
theorem dX11_looksBy_41 : decode cX11_looksBy 41 = .ok (.iload_n 2, 1) := by decide +kernel
theorem dX11_looksBy_42 : decode cX11_looksBy 42 = .ok (.iconst 2, 1) := by decide +kernel
theorem dX11_looksBy_43 : decode cX11_looksBy 43 = .ok (.invokevirtual 241, 3) := by decide +kernel
theorem dX11_looksBy_46 : decode cX11_looksBy 46 = .ok (.iastore, 1) := by decide +kernel
theorem dX11_looksBy_47 : decode cX11_looksBy 47 = .ok (.aload_n 0, 1) := by decide +kernel
theorem dX11_looksBy_48 : decode cX11_looksBy 48 = .ok (.getfield 34, 3) := by decide +kernel
theorem dX11_looksBy_51 : decode cX11_looksBy 51 = .ok (.iconst 2, 1) := by decide +kernel
theorem dX11_looksBy_52 : decode cX11_looksBy 52 = .ok (.iload 4, 2) := by decide +kernel
theorem dX11_looksBy_54 : decode cX11_looksBy 54 = .ok (.iastore, 1) := by decide +kernel
theorem dX11_looksBy_55 : decode cX11_looksBy 55 = .ok (.aload_n 0, 1) := by decide +kernel
theorem dX11_looksBy_56 : decode cX11_looksBy 56 = .ok (.getfield 34, 3) := by decide +kernel
theorem dX11_looksBy_59 : decode cX11_looksBy 59 = .ok (.iconst 3, 1) := by decide +kernel
theorem dX11_looksBy_60 : decode cX11_looksBy 60 = .ok (.aload_n 0, 1) := by decide +kernel
theorem dX11_looksBy_61 : decode cX11_looksBy 61 = .ok (.iload_n 1, 1) := by decide +kernel
theorem dX11_looksBy_62 : decode cX11_looksBy 62 = .ok (.iconst 0, 1) := by decide +kernel
theorem dX11_looksBy_63 : decode cX11_looksBy 63 = .ok (.invokevirtual 244, 3) := by decide +kernel
theorem dX11_looksBy_66 : decode cX11_looksBy 66 = .ok (.iastore, 1) := by decide +kernel
theorem dX11_looksBy_67 : decode cX11_looksBy 67 = .ok (.aload_n 0, 1) := by decide +kernel
theorem dX11_looksBy_68 : decode cX11_looksBy 68 = .ok (.getfield 34, 3) := by decide +kernel
theorem dX11_looksBy_71 : decode cX11_looksBy 71 = .ok (.iconst 4, 1) := by decide +kernel
theorem dX11_looksBy_72 : decode cX11_looksBy 72 = .ok (.aload_n 0, 1) := by decide +kernel
theorem dX11_looksBy_73 : decode cX11_looksBy 73 = .ok (.getfield 58, 3) := by decide +kernel
theorem dX11_looksBy_76 : decode cX11_looksBy 76 = .ok (.bipush 6, 2) := by decide +kernel
theorem dX11_looksBy_78 : decode cX11_looksBy 78 = .ok (.iload_n 1, 1) := by decide +kernel
theorem dX11_looksBy_79 : decode cX11_looksBy 79 = .ok (.iadd, 1) := by decide +kernel
theorem dX11_looksBy_80 : decode cX11_looksBy 80 = .ok (.iaload, 1) := by decide +kernel
theorem dX11_looksBy_81 : decode cX11_looksBy 81 = .ok (.iastore, 1) := by decide +kernel
theorem dX11_looksBy_82 : decode cX11_looksBy 82 = .ok (.aload_n 0, 1) := by decide +kernel
theorem dX11_looksBy_83 : decode cX11_looksBy 83 = .ok (.getfield 34, 3) := by decide +kernel
theorem dX11_looksBy_86 : decode cX11_looksBy 86 = .ok (.iconst 5, 1) := by decide +kernel
theorem dX11_looksBy_87 : decode cX11_looksBy 87 = .ok (.aload_n 0, 1) := by decide +kernel
theorem dX11_looksBy_88 : decode cX11_looksBy 88 = .ok (.getfield 58, 3) := by decide +kernel
theorem dX11_looksBy_91 : decode cX11_looksBy 91 = .ok (.bipush 15, 2) := by decide +kernel
theorem dX11_looksBy_93 : decode cX11_looksBy 93 = .ok (.iaload, 1) := by decide +kernel
theorem dX11_looksBy_94 : decode cX11_looksBy 94 = .ok (.iastore, 1) := by decide +kernel
theorem dX11_looksBy_95 : decode cX11_looksBy 95 = .ok (.aload_n 0, 1) := by decide +kernel
theorem dX11_looksBy_96 : decode cX11_looksBy 96 = .ok (.aload_n 0, 1) := by decide +kernel
theorem dX11_looksBy_97 : decode cX11_looksBy 97 = .ok (.getfield 64, 3) := by decide +kernel
theorem dX11_looksBy_100 : decode cX11_looksBy 100 = .ok (.invokevirtual 271, 3) := by decide +kernel
theorem dX11_looksBy_103 : decode cX11_looksBy 103 = .ok (.istore 5, 2) := by decide +kernel
theorem dX11_looksBy_105 : decode cX11_looksBy 105 = .ok (.iconst 0, 1) := by decide +kernel
theorem dX11_looksBy_106 : decode cX11_looksBy 106 = .ok (.bipush 9, 2) := by decide +kernel
theorem dX11_looksBy_108 : decode cX11_looksBy 108 = .ok (.iload 5, 2) := by decide +kernel
theorem dX11_looksBy_110 : decode cX11_looksBy 110 = .ok (.invokestatic 274, 3) := by decide +kernel
theorem dX11_looksBy_113 : decode cX11_looksBy 113 = .ok (.invokestatic 266, 3) := by decide +kernel
theorem dX11_looksBy_116 : decode cX11_looksBy 116 = .ok (.ireturn, 1) := by decide +kernel
theorem dX11_latestOf_0 : decode cX11_latestOf 0 = .ok (.aload_n 0, 1) := by decide +kernel
theorem dX11_latestOf_1 : decode cX11_latestOf 1 = .ok (.getfield 58, 3) := by decide +kernel
theorem dX11_latestOf_4 : decode cX11_latestOf 4 = .ok (.bipush 16, 2) := by decide +kernel
theorem dX11_latestOf_6 : decode cX11_latestOf 6 = .ok (.iaload, 1) := by decide +kernel
theorem dX11_latestOf_7 : decode cX11_latestOf 7 = .ok (.iconst 1, 1) := by decide +kernel
theorem dX11_latestOf_8 : decode cX11_latestOf 8 = .ok (.isub, 1) := by decide +kernel
theorem dX11_latestOf_9 : decode cX11_latestOf 9 = .ok (.istore_n 2, 1) := by decide +kernel
theorem dX11_latestOf_10 : decode cX11_latestOf 10 = .ok (.iload_n 2, 1) := by decide +kernel
theorem dX11_latestOf_11 : decode cX11_latestOf 11 = .ok (.ifCond .lt 26, 3) := by decide +kernel
theorem dX11_latestOf_14 : decode cX11_latestOf 14 = .ok (.aload_n 0, 1) := by decide +kernel
theorem dX11_latestOf_15 : decode cX11_latestOf 15 = .ok (.iload_n 2, 1) := by decide +kernel
theorem dX11_latestOf_16 : decode cX11_latestOf 16 = .ok (.iconst 1, 1) := by decide +kernel
theorem dX11_latestOf_17 : decode cX11_latestOf 17 = .ok (.invokevirtual 276, 3) := by decide +kernel
theorem dX11_latestOf_20 : decode cX11_latestOf 20 = .ok (.iload_n 1, 1) := by decide +kernel
theorem dX11_latestOf_21 : decode cX11_latestOf 21 = .ok (.if_icmp .ne 10, 3) := by decide +kernel
theorem dX11_latestOf_24 : decode cX11_latestOf 24 = .ok (.aload_n 0, 1) := by decide +kernel
theorem dX11_latestOf_25 : decode cX11_latestOf 25 = .ok (.iload_n 2, 1) := by decide +kernel
theorem dX11_latestOf_26 : decode cX11_latestOf 26 = .ok (.iconst 2, 1) := by decide +kernel
theorem dX11_latestOf_27 : decode cX11_latestOf 27 = .ok (.invokevirtual 276, 3) := by decide +kernel
theorem dX11_latestOf_30 : decode cX11_latestOf 30 = .ok (.ireturn, 1) := by decide +kernel
theorem dX11_latestOf_31 : decode cX11_latestOf 31 = .ok (.iinc 2 (-1), 3) := by decide +kernel
theorem dX11_latestOf_34 : decode cX11_latestOf 34 = .ok (.goto (-24), 3) := by decide +kernel
theorem dX11_latestOf_37 : decode cX11_latestOf 37 = .ok (.iconst (-1), 1) := by decide +kernel
theorem dX11_latestOf_38 : decode cX11_latestOf 38 = .ok (.ireturn, 1) := by decide +kernel
theorem dX11_shownOf_0 : decode cX11_shownOf 0 = .ok (.aload_n 0, 1) := by decide +kernel
theorem dX11_shownOf_1 : decode cX11_shownOf 1 = .ok (.iload_n 1, 1) := by decide +kernel
theorem dX11_shownOf_2 : decode cX11_shownOf 2 = .ok (.iload_n 2, 1) := by decide +kernel
theorem dX11_shownOf_3 : decode cX11_shownOf 3 = .ok (.iload_n 3, 1) := by decide +kernel
theorem dX11_shownOf_4 : decode cX11_shownOf 4 = .ok (.aload_n 0, 1) := by decide +kernel
theorem dX11_shownOf_5 : decode cX11_shownOf 5 = .ok (.getfield 58, 3) := by decide +kernel
theorem dX11_shownOf_8 : decode cX11_shownOf 8 = .ok (.iconst 0, 1) := by decide +kernel
theorem dX11_shownOf_9 : decode cX11_shownOf 9 = .ok (.iload_n 2, 1) := by decide +kernel
theorem dX11_shownOf_10 : decode cX11_shownOf 10 = .ok (.iadd, 1) := by decide +kernel
theorem dX11_shownOf_11 : decode cX11_shownOf 11 = .ok (.iaload, 1) := by decide +kernel
theorem dX11_shownOf_12 : decode cX11_shownOf 12 = .ok (.invokevirtual 279, 3) := by decide +kernel
theorem dX11_shownOf_15 : decode cX11_shownOf 15 = .ok (.istore 4, 2) := by decide +kernel
theorem dX11_shownOf_17 : decode cX11_shownOf 17 = .ok (.aload_n 0, 1) := by decide +kernel
theorem dX11_shownOf_18 : decode cX11_shownOf 18 = .ok (.iload_n 1, 1) := by decide +kernel
theorem dX11_shownOf_19 : decode cX11_shownOf 19 = .ok (.iconst 3, 1) := by decide +kernel
theorem dX11_shownOf_20 : decode cX11_shownOf 20 = .ok (.invokevirtual 244, 3) := by decide +kernel
theorem dX11_shownOf_23 : decode cX11_shownOf 23 = .ok (.tableswitch 62 1 3 #[25, 33, 42], 25) := by decide +kernel
theorem dX11_shownOf_48 : decode cX11_shownOf 48 = .ok (.iload 4, 2) := by decide +kernel
theorem dX11_shownOf_50 : decode cX11_shownOf 50 = .ok (.bipush 7, 2) := by decide +kernel
theorem dX11_shownOf_52 : decode cX11_shownOf 52 = .ok (.iadd, 1) := by decide +kernel
theorem dX11_shownOf_53 : decode cX11_shownOf 53 = .ok (.iconst 2, 1) := by decide +kernel
theorem dX11_shownOf_54 : decode cX11_shownOf 54 = .ok (.idiv, 1) := by decide +kernel
theorem dX11_shownOf_55 : decode cX11_shownOf 55 = .ok (.ireturn, 1) := by decide +kernel
theorem dX11_shownOf_56 : decode cX11_shownOf 56 = .ok (.iconst 0, 1) := by decide +kernel
theorem dX11_shownOf_57 : decode cX11_shownOf 57 = .ok (.iload 4, 2) := by decide +kernel
theorem dX11_shownOf_59 : decode cX11_shownOf 59 = .ok (.iconst 2, 1) := by decide +kernel
theorem dX11_shownOf_60 : decode cX11_shownOf 60 = .ok (.isub, 1) := by decide +kernel
theorem dX11_shownOf_61 : decode cX11_shownOf 61 = .ok (.invokestatic 266, 3) := by decide +kernel
theorem dX11_shownOf_64 : decode cX11_shownOf 64 = .ok (.ireturn, 1) := by decide +kernel
theorem dX11_shownOf_65 : decode cX11_shownOf 65 = .ok (.aload_n 0, 1) := by decide +kernel
theorem dX11_shownOf_66 : decode cX11_shownOf 66 = .ok (.iload_n 1, 1) := by decide +kernel
theorem dX11_shownOf_67 : decode cX11_shownOf 67 = .ok (.invokevirtual 283, 3) := by decide +kernel
theorem dX11_shownOf_70 : decode cX11_shownOf 70 = .ok (.iconst (-1), 1) := by decide +kernel
theorem dX11_shownOf_71 : decode cX11_shownOf 71 = .ok (.if_icmp .ne 8, 3) := by decide +kernel
theorem dX11_shownOf_74 : decode cX11_shownOf 74 = .ok (.iload 4, 2) := by decide +kernel
theorem dX11_shownOf_76 : decode cX11_shownOf 76 = .ok (.goto 8, 3) := by decide +kernel
theorem dX11_shownOf_79 : decode cX11_shownOf 79 = .ok (.aload_n 0, 1) := by decide +kernel
theorem dX11_shownOf_80 : decode cX11_shownOf 80 = .ok (.iload_n 1, 1) := by decide +kernel
theorem dX11_shownOf_81 : decode cX11_shownOf 81 = .ok (.invokevirtual 283, 3) := by decide +kernel
theorem dX11_shownOf_84 : decode cX11_shownOf 84 = .ok (.ireturn, 1) := by decide +kernel
theorem dX11_shownOf_85 : decode cX11_shownOf 85 = .ok (.iload 4, 2) := by decide +kernel
theorem dX11_shownOf_87 : decode cX11_shownOf 87 = .ok (.ireturn, 1) := by decide +kernel
theorem dX11_rule_0 : decode cX11_rule 0 = .ok (.aload_n 0, 1) := by decide +kernel
theorem dX11_rule_1 : decode cX11_rule 1 = .ok (.getfield 235, 3) := by decide +kernel
theorem dX11_rule_4 : decode cX11_rule 4 = .ok (.ifCond .eq 12, 3) := by decide +kernel
theorem dX11_rule_7 : decode cX11_rule 7 = .ok (.iload_n 1, 1) := by decide +kernel
theorem dX11_rule_8 : decode cX11_rule 8 = .ok (.iconst 0, 1) := by decide +kernel
theorem dX11_rule_9 : decode cX11_rule 9 = .ok (.iconst 2, 1) := by decide +kernel
theorem dX11_rule_10 : decode cX11_rule 10 = .ok (.invokestatic 198, 3) := by decide +kernel
theorem dX11_rule_13 : decode cX11_rule 13 = .ok (.ifCond .ne 7, 3) := by decide +kernel
theorem dX11_rule_16 : decode cX11_rule 16 = .ok (.iconst (-1), 1) := by decide +kernel
theorem dX11_rule_17 : decode cX11_rule 17 = .ok (.goto 23, 3) := by decide +kernel
theorem dX11_rule_20 : decode cX11_rule 20 = .ok (.iload_n 1, 1) := by decide +kernel
theorem dX11_rule_21 : decode cX11_rule 21 = .ok (.ifCond .ne 13, 3) := by decide +kernel
theorem dX11_rule_24 : decode cX11_rule 24 = .ok (.aload_n 0, 1) := by decide +kernel
theorem dX11_rule_25 : decode cX11_rule 25 = .ok (.getfield 58, 3) := by decide +kernel
theorem dX11_rule_28 : decode cX11_rule 28 = .ok (.bipush 14, 2) := by decide +kernel
theorem dX11_rule_30 : decode cX11_rule 30 = .ok (.iaload, 1) := by decide +kernel
theorem dX11_rule_31 : decode cX11_rule 31 = .ok (.goto 9, 3) := by decide +kernel
theorem dX11_rule_34 : decode cX11_rule 34 = .ok (.aload_n 0, 1) := by decide +kernel
theorem dX11_rule_35 : decode cX11_rule 35 = .ok (.getfield 49, 3) := by decide +kernel
theorem dX11_rule_38 : decode cX11_rule 38 = .ok (.iload_n 1, 1) := by decide +kernel
theorem dX11_rule_39 : decode cX11_rule 39 = .ok (.iaload, 1) := by decide +kernel
theorem dX11_rule_40 : decode cX11_rule 40 = .ok (.ireturn, 1) := by decide +kernel
theorem dX11_bride_0 : decode cX11_bride 0 = .ok (.aload_n 0, 1) := by decide +kernel
theorem dX11_bride_1 : decode cX11_bride 1 = .ok (.aload_n 0, 1) := by decide +kernel
theorem dX11_bride_2 : decode cX11_bride 2 = .ok (.iload_n 1, 1) := by decide +kernel
theorem dX11_bride_3 : decode cX11_bride 3 = .ok (.invokevirtual 263, 3) := by decide +kernel
theorem dX11_bride_6 : decode cX11_bride 6 = .ok (.ifCond .eq 16, 3) := by decide +kernel
theorem dX11_bride_9 : decode cX11_bride 9 = .ok (.iload_n 2, 1) := by decide +kernel
theorem dX11_bride_10 : decode cX11_bride 10 = .ok (.iconst 0, 1) := by decide +kernel
theorem dX11_bride_11 : decode cX11_bride 11 = .ok (.iconst 5, 1) := by decide +kernel
theorem dX11_bride_12 : decode cX11_bride 12 = .ok (.invokestatic 198, 3) := by decide +kernel
theorem dX11_bride_15 : decode cX11_bride 15 = .ok (.ifCond .eq 7, 3) := by decide +kernel
theorem dX11_bride_18 : decode cX11_bride 18 = .ok (.iconst 0, 1) := by decide +kernel
theorem dX11_bride_19 : decode cX11_bride 19 = .ok (.goto 4, 3) := by decide +kernel
theorem dX11_bride_22 : decode cX11_bride 22 = .ok (.iconst 1, 1) := by decide +kernel
theorem dX11_bride_23 : decode cX11_bride 23 = .ok (.putfield 83, 3) := by decide +kernel
theorem dX11_bride_26 : decode cX11_bride 26 = .ok (.aload_n 0, 1) := by decide +kernel
theorem dX11_bride_27 : decode cX11_bride 27 = .ok (.getfield 83, 3) := by decide +kernel
theorem dX11_bride_30 : decode cX11_bride 30 = .ok (.iconst 1, 1) := by decide +kernel
theorem dX11_bride_31 : decode cX11_bride 31 = .ok (.if_icmp .ne 5, 3) := by decide +kernel
theorem dX11_bride_34 : decode cX11_bride 34 = .ok (.iconst 0, 1) := by decide +kernel
theorem dX11_bride_35 : decode cX11_bride 35 = .ok (.ireturn, 1) := by decide +kernel
theorem dX11_bride_36 : decode cX11_bride 36 = .ok (.iload_n 2, 1) := by decide +kernel
theorem dX11_bride_37 : decode cX11_bride 37 = .ok (.iconst 3, 1) := by decide +kernel
theorem dX11_bride_38 : decode cX11_bride 38 = .ok (.if_icmp .ne 14, 3) := by decide +kernel
theorem dX11_bride_41 : decode cX11_bride 41 = .ok (.aload_n 0, 1) := by decide +kernel
theorem dX11_bride_42 : decode cX11_bride 42 = .ok (.getfield 58, 3) := by decide +kernel
theorem dX11_bride_45 : decode cX11_bride 45 = .ok (.iconst 0, 1) := by decide +kernel
theorem dX11_bride_46 : decode cX11_bride 46 = .ok (.iload_n 1, 1) := by decide +kernel
theorem dX11_bride_47 : decode cX11_bride 47 = .ok (.iadd, 1) := by decide +kernel
theorem dX11_bride_48 : decode cX11_bride 48 = .ok (.iaload, 1) := by decide +kernel
theorem dX11_bride_49 : decode cX11_bride 49 = .ok (.goto 47, 3) := by decide +kernel
theorem dX11_bride_52 : decode cX11_bride 52 = .ok (.iload_n 2, 1) := by decide +kernel
theorem dX11_bride_53 : decode cX11_bride 53 = .ok (.iconst 4, 1) := by decide +kernel
theorem dX11_bride_54 : decode cX11_bride 54 = .ok (.if_icmp .ne 17, 3) := by decide +kernel
theorem dX11_bride_57 : decode cX11_bride 57 = .ok (.aload_n 0, 1) := by decide +kernel
theorem dX11_bride_58 : decode cX11_bride 58 = .ok (.getfield 58, 3) := by decide +kernel
theorem dX11_bride_61 : decode cX11_bride 61 = .ok (.bipush 11, 2) := by decide +kernel
theorem dX11_bride_63 : decode cX11_bride 63 = .ok (.iaload, 1) := by decide +kernel
theorem dX11_bride_64 : decode cX11_bride 64 = .ok (.iload_n 1, 1) := by decide +kernel
theorem dX11_bride_65 : decode cX11_bride 65 = .ok (.ishr, 1) := by decide +kernel
theorem dX11_bride_66 : decode cX11_bride 66 = .ok (.iconst 1, 1) := by decide +kernel
theorem dX11_bride_67 : decode cX11_bride 67 = .ok (.iand, 1) := by decide +kernel
theorem dX11_bride_68 : decode cX11_bride 68 = .ok (.goto 28, 3) := by decide +kernel
theorem dX11_bride_71 : decode cX11_bride 71 = .ok (.iload_n 2, 1) := by decide +kernel
theorem dX11_bride_72 : decode cX11_bride 72 = .ok (.iconst 5, 1) := by decide +kernel
theorem dX11_bride_73 : decode cX11_bride 73 = .ok (.if_icmp .ne 17, 3) := by decide +kernel
theorem dX11_bride_76 : decode cX11_bride 76 = .ok (.aload_n 0, 1) := by decide +kernel
theorem dX11_bride_77 : decode cX11_bride 77 = .ok (.getfield 58, 3) := by decide +kernel
theorem dX11_bride_80 : decode cX11_bride 80 = .ok (.bipush 12, 2) := by decide +kernel
theorem dX11_bride_82 : decode cX11_bride 82 = .ok (.iaload, 1) := by decide +kernel
theorem dX11_bride_83 : decode cX11_bride 83 = .ok (.iload_n 1, 1) := by decide +kernel
theorem dX11_bride_84 : decode cX11_bride 84 = .ok (.ishr, 1) := by decide +kernel
theorem dX11_bride_85 : decode cX11_bride 85 = .ok (.iconst 1, 1) := by decide +kernel
theorem dX11_bride_86 : decode cX11_bride 86 = .ok (.iand, 1) := by decide +kernel
theorem dX11_bride_87 : decode cX11_bride 87 = .ok (.goto 9, 3) := by decide +kernel
theorem dX11_bride_90 : decode cX11_bride 90 = .ok (.aload_n 0, 1) := by decide +kernel
theorem dX11_bride_91 : decode cX11_bride 91 = .ok (.iload_n 1, 1) := by decide +kernel
theorem dX11_bride_92 : decode cX11_bride 92 = .ok (.iload_n 2, 1) := by decide +kernel
theorem dX11_bride_93 : decode cX11_bride 93 = .ok (.invokevirtual 241, 3) := by decide +kernel
theorem dX11_bride_96 : decode cX11_bride 96 = .ok (.ireturn, 1) := by decide +kernel
theorem dX11_painter_0 : decode cX11_painter 0 = .ok (.aload_n 0, 1) := by decide +kernel
theorem dX11_painter_1 : decode cX11_painter 1 = .ok (.iload_n 1, 1) := by decide +kernel
theorem dX11_painter_2 : decode cX11_painter 2 = .ok (.invokevirtual 260, 3) := by decide +kernel
theorem dX11_painter_5 : decode cX11_painter 5 = .ok (.ifCond .eq 12, 3) := by decide +kernel
theorem dX11_painter_8 : decode cX11_painter 8 = .ok (.iload_n 2, 1) := by decide +kernel
theorem dX11_painter_9 : decode cX11_painter 9 = .ok (.iconst 0, 1) := by decide +kernel
theorem dX11_painter_10 : decode cX11_painter 10 = .ok (.iconst 3, 1) := by decide +kernel
theorem dX11_painter_11 : decode cX11_painter 11 = .ok (.invokestatic 198, 3) := by decide +kernel
theorem dX11_painter_14 : decode cX11_painter 14 = .ok (.ifCond .ne 7, 3) := by decide +kernel
theorem dX11_painter_17 : decode cX11_painter 17 = .ok (.iconst (-1), 1) := by decide +kernel
theorem dX11_painter_18 : decode cX11_painter 18 = .ok (.goto 26, 3) := by decide +kernel
theorem dX11_painter_21 : decode cX11_painter 21 = .ok (.iload_n 2, 1) := by decide +kernel
theorem dX11_painter_22 : decode cX11_painter 22 = .ok (.iconst 2, 1) := by decide +kernel
theorem dX11_painter_23 : decode cX11_painter 23 = .ok (.if_icmp .ne 15, 3) := by decide +kernel
theorem dX11_painter_26 : decode cX11_painter 26 = .ok (.aload_n 0, 1) := by decide +kernel
theorem dX11_painter_27 : decode cX11_painter 27 = .ok (.getfield 58, 3) := by decide +kernel
theorem dX11_painter_30 : decode cX11_painter 30 = .ok (.bipush 6, 2) := by decide +kernel
theorem dX11_painter_32 : decode cX11_painter 32 = .ok (.iload_n 1, 1) := by decide +kernel
theorem dX11_painter_33 : decode cX11_painter 33 = .ok (.iadd, 1) := by decide +kernel
theorem dX11_painter_34 : decode cX11_painter 34 = .ok (.iaload, 1) := by decide +kernel
theorem dX11_painter_35 : decode cX11_painter 35 = .ok (.goto 9, 3) := by decide +kernel
theorem dX11_painter_38 : decode cX11_painter 38 = .ok (.aload_n 0, 1) := by decide +kernel
theorem dX11_painter_39 : decode cX11_painter 39 = .ok (.iload_n 1, 1) := by decide +kernel
theorem dX11_painter_40 : decode cX11_painter 40 = .ok (.iload_n 2, 1) := by decide +kernel
theorem dX11_painter_41 : decode cX11_painter 41 = .ok (.invokevirtual 244, 3) := by decide +kernel
theorem dX11_painter_44 : decode cX11_painter 44 = .ok (.ireturn, 1) := by decide +kernel
theorem dX11_law_0 : decode cX11_law 0 = .ok (.iload_n 1, 1) := by decide +kernel
theorem dX11_law_1 : decode cX11_law 1 = .ok (.iconst (-1), 1) := by decide +kernel
theorem dX11_law_2 : decode cX11_law 2 = .ok (.aload_n 0, 1) := by decide +kernel
theorem dX11_law_3 : decode cX11_law 3 = .ok (.getfield 257, 3) := by decide +kernel
theorem dX11_law_6 : decode cX11_law 6 = .ok (.iconst 1, 1) := by decide +kernel
theorem dX11_law_7 : decode cX11_law 7 = .ok (.isub, 1) := by decide +kernel
theorem dX11_law_8 : decode cX11_law 8 = .ok (.invokestatic 198, 3) := by decide +kernel
theorem dX11_law_11 : decode cX11_law 11 = .ok (.ifCond .ne 5, 3) := by decide +kernel
theorem dX11_law_14 : decode cX11_law 14 = .ok (.iconst 0, 1) := by decide +kernel
theorem dX11_law_15 : decode cX11_law 15 = .ok (.ireturn, 1) := by decide +kernel
theorem dX11_law_16 : decode cX11_law 16 = .ok (.aload_n 0, 1) := by decide +kernel
theorem dX11_law_17 : decode cX11_law 17 = .ok (.iload_n 1, 1) := by decide +kernel
theorem dX11_law_18 : decode cX11_law 18 = .ok (.putfield 64, 3) := by decide +kernel
theorem dX11_law_21 : decode cX11_law 21 = .ok (.iconst 1, 1) := by decide +kernel
theorem dX11_law_22 : decode cX11_law 22 = .ok (.ireturn, 1) := by decide +kernel
theorem dX11_flattery_0 : decode cX11_flattery 0 = .ok (.aload_n 0, 1) := by decide +kernel
theorem dX11_flattery_1 : decode cX11_flattery 1 = .ok (.iload_n 1, 1) := by decide +kernel
theorem dX11_flattery_2 : decode cX11_flattery 2 = .ok (.iload_n 2, 1) := by decide +kernel
theorem dX11_flattery_3 : decode cX11_flattery 3 = .ok (.invokevirtual 286, 3) := by decide +kernel
theorem dX11_flattery_6 : decode cX11_flattery 6 = .ok (.ifCond .eq 19, 3) := by decide +kernel
theorem dX11_flattery_9 : decode cX11_flattery 9 = .ok (.aload_n 0, 1) := by decide +kernel
theorem dX11_flattery_10 : decode cX11_flattery 10 = .ok (.iload_n 1, 1) := by decide +kernel
theorem dX11_flattery_11 : decode cX11_flattery 11 = .ok (.aload_n 0, 1) := by decide +kernel
theorem dX11_flattery_12 : decode cX11_flattery 12 = .ok (.getfield 58, 3) := by decide +kernel
theorem dX11_flattery_15 : decode cX11_flattery 15 = .ok (.iconst 0, 1) := by decide +kernel
theorem dX11_flattery_16 : decode cX11_flattery 16 = .ok (.iload_n 2, 1) := by decide +kernel
theorem dX11_flattery_17 : decode cX11_flattery 17 = .ok (.iadd, 1) := by decide +kernel
theorem dX11_flattery_18 : decode cX11_flattery 18 = .ok (.iaload, 1) := by decide +kernel
theorem dX11_flattery_19 : decode cX11_flattery 19 = .ok (.invokevirtual 268, 3) := by decide +kernel
theorem dX11_flattery_22 : decode cX11_flattery 22 = .ok (.goto 4, 3) := by decide +kernel
theorem dX11_flattery_25 : decode cX11_flattery 25 = .ok (.iconst (-1), 1) := by decide +kernel
theorem dX11_flattery_26 : decode cX11_flattery 26 = .ok (.ireturn, 1) := by decide +kernel
theorem dX11_shown_0 : decode cX11_shown 0 = .ok (.aload_n 0, 1) := by decide +kernel
theorem dX11_shown_1 : decode cX11_shown 1 = .ok (.iload_n 1, 1) := by decide +kernel
theorem dX11_shown_2 : decode cX11_shown 2 = .ok (.iload_n 2, 1) := by decide +kernel
theorem dX11_shown_3 : decode cX11_shown 3 = .ok (.invokevirtual 286, 3) := by decide +kernel
theorem dX11_shown_6 : decode cX11_shown 6 = .ok (.ifCond .eq 20, 3) := by decide +kernel
theorem dX11_shown_9 : decode cX11_shown 9 = .ok (.iload_n 3, 1) := by decide +kernel
theorem dX11_shown_10 : decode cX11_shown 10 = .ok (.invokestatic 289, 3) := by decide +kernel
theorem dX11_shown_13 : decode cX11_shown 13 = .ok (.ifCond .eq 13, 3) := by decide +kernel
theorem dX11_shown_16 : decode cX11_shown 16 = .ok (.aload_n 0, 1) := by decide +kernel
theorem dX11_shown_17 : decode cX11_shown 17 = .ok (.iload_n 1, 1) := by decide +kernel
theorem dX11_shown_18 : decode cX11_shown 18 = .ok (.iload_n 2, 1) := by decide +kernel
theorem dX11_shown_19 : decode cX11_shown 19 = .ok (.iload_n 3, 1) := by decide +kernel
theorem dX11_shown_20 : decode cX11_shown 20 = .ok (.invokevirtual 292, 3) := by decide +kernel
theorem dX11_shown_23 : decode cX11_shown 23 = .ok (.goto 4, 3) := by decide +kernel
theorem dX11_shown_26 : decode cX11_shown 26 = .ok (.iconst (-1), 1) := by decide +kernel
theorem dX11_shown_27 : decode cX11_shown 27 = .ok (.ireturn, 1) := by decide +kernel
theorem dX11_keep_0 : decode cX11_keep 0 = .ok (.aload_n 0, 1) := by decide +kernel
theorem dX11_keep_1 : decode cX11_keep 1 = .ok (.getfield 247, 3) := by decide +kernel
theorem dX11_keep_4 : decode cX11_keep 4 = .ok (.bipush 40, 2) := by decide +kernel
theorem dX11_keep_6 : decode cX11_keep 6 = .ok (.if_icmp .ne 44, 3) := by decide +kernel
theorem dX11_keep_9 : decode cX11_keep 9 = .ok (.bipush 97, 2) := by decide +kernel
theorem dX11_keep_11 : decode cX11_keep 11 = .ok (.istore_n 1, 1) := by decide +kernel
theorem dX11_keep_12 : decode cX11_keep 12 = .ok (.iload_n 1, 1) := by decide +kernel
theorem dX11_keep_13 : decode cX11_keep 13 = .ok (.sipush 3880, 3) := by decide +kernel
theorem dX11_keep_16 : decode cX11_keep 16 = .ok (.if_icmp .ge 24, 3) := by decide +kernel
theorem dX11_keep_19 : decode cX11_keep 19 = .ok (.aload_n 0, 1) := by decide +kernel
theorem dX11_keep_20 : decode cX11_keep 20 = .ok (.getfield 68, 3) := by decide +kernel
theorem dX11_keep_23 : decode cX11_keep 23 = .ok (.iload_n 1, 1) := by decide +kernel
theorem dX11_keep_24 : decode cX11_keep 24 = .ok (.bipush 97, 2) := by decide +kernel
theorem dX11_keep_26 : decode cX11_keep 26 = .ok (.isub, 1) := by decide +kernel
theorem dX11_keep_27 : decode cX11_keep 27 = .ok (.aload_n 0, 1) := by decide +kernel
theorem dX11_keep_28 : decode cX11_keep 28 = .ok (.getfield 68, 3) := by decide +kernel
theorem dX11_keep_31 : decode cX11_keep 31 = .ok (.iload_n 1, 1) := by decide +kernel
theorem dX11_keep_32 : decode cX11_keep 32 = .ok (.iaload, 1) := by decide +kernel
theorem dX11_keep_33 : decode cX11_keep 33 = .ok (.iastore, 1) := by decide +kernel
theorem dX11_keep_34 : decode cX11_keep 34 = .ok (.iinc 1 1, 3) := by decide +kernel
theorem dX11_keep_37 : decode cX11_keep 37 = .ok (.goto (-25), 3) := by decide +kernel
theorem dX11_keep_40 : decode cX11_keep 40 = .ok (.aload_n 0, 1) := by decide +kernel
theorem dX11_keep_41 : decode cX11_keep 41 = .ok (.dup, 1) := by decide +kernel
theorem dX11_keep_42 : decode cX11_keep 42 = .ok (.getfield 247, 3) := by decide +kernel
theorem dX11_keep_45 : decode cX11_keep 45 = .ok (.iconst 1, 1) := by decide +kernel
theorem dX11_keep_46 : decode cX11_keep 46 = .ok (.isub, 1) := by decide +kernel
theorem dX11_keep_47 : decode cX11_keep 47 = .ok (.putfield 247, 3) := by decide +kernel
theorem dX11_keep_50 : decode cX11_keep 50 = .ok (.iconst 0, 1) := by decide +kernel
theorem dX11_keep_51 : decode cX11_keep 51 = .ok (.istore_n 1, 1) := by decide +kernel
theorem dX11_keep_52 : decode cX11_keep 52 = .ok (.iload_n 1, 1) := by decide +kernel
theorem dX11_keep_53 : decode cX11_keep 53 = .ok (.bipush 97, 2) := by decide +kernel
theorem dX11_keep_55 : decode cX11_keep 55 = .ok (.if_icmp .ge 29, 3) := by decide +kernel
theorem dX11_keep_58 : decode cX11_keep 58 = .ok (.aload_n 0, 1) := by decide +kernel
theorem dX11_keep_59 : decode cX11_keep 59 = .ok (.getfield 68, 3) := by decide +kernel
theorem dX11_keep_62 : decode cX11_keep 62 = .ok (.bipush 97, 2) := by decide +kernel
theorem dX11_keep_64 : decode cX11_keep 64 = .ok (.aload_n 0, 1) := by decide +kernel
theorem dX11_keep_65 : decode cX11_keep 65 = .ok (.getfield 247, 3) := by decide +kernel
theorem dX11_keep_68 : decode cX11_keep 68 = .ok (.imul, 1) := by decide +kernel
theorem dX11_keep_69 : decode cX11_keep 69 = .ok (.iload_n 1, 1) := by decide +kernel
theorem dX11_keep_70 : decode cX11_keep 70 = .ok (.iadd, 1) := by decide +kernel
theorem dX11_keep_71 : decode cX11_keep 71 = .ok (.aload_n 0, 1) := by decide +kernel
theorem dX11_keep_72 : decode cX11_keep 72 = .ok (.getfield 58, 3) := by decide +kernel
theorem dX11_keep_75 : decode cX11_keep 75 = .ok (.iload_n 1, 1) := by decide +kernel
theorem dX11_keep_76 : decode cX11_keep 76 = .ok (.iaload, 1) := by decide +kernel
theorem dX11_keep_77 : decode cX11_keep 77 = .ok (.iastore, 1) := by decide +kernel
theorem dX11_keep_78 : decode cX11_keep 78 = .ok (.iinc 1 1, 3) := by decide +kernel
theorem dX11_keep_81 : decode cX11_keep 81 = .ok (.goto (-29), 3) := by decide +kernel
theorem dX11_keep_84 : decode cX11_keep 84 = .ok (.aload_n 0, 1) := by decide +kernel
theorem dX11_keep_85 : decode cX11_keep 85 = .ok (.dup, 1) := by decide +kernel
theorem dX11_keep_86 : decode cX11_keep 86 = .ok (.getfield 247, 3) := by decide +kernel
theorem dX11_keep_89 : decode cX11_keep 89 = .ok (.iconst 1, 1) := by decide +kernel
theorem dX11_keep_90 : decode cX11_keep 90 = .ok (.iadd, 1) := by decide +kernel
theorem dX11_keep_91 : decode cX11_keep 91 = .ok (.putfield 247, 3) := by decide +kernel
theorem dX11_keep_94 : decode cX11_keep 94 = .ok (.return_, 1) := by decide +kernel
theorem dX11_isRefused_0 : decode cX11_isRefused 0 = .ok (.iload_n 1, 1) := by decide +kernel
theorem dX11_isRefused_1 : decode cX11_isRefused 1 = .ok (.iconst (-1), 1) := by decide +kernel
theorem dX11_isRefused_2 : decode cX11_isRefused 2 = .ok (.if_icmp .eq 13, 3) := by decide +kernel
theorem dX11_isRefused_5 : decode cX11_isRefused 5 = .ok (.aload_n 0, 1) := by decide +kernel
theorem dX11_isRefused_6 : decode cX11_isRefused 6 = .ok (.getfield 61, 3) := by decide +kernel
theorem dX11_isRefused_9 : decode cX11_isRefused 9 = .ok (.iload_n 1, 1) := by decide +kernel
theorem dX11_isRefused_10 : decode cX11_isRefused 10 = .ok (.dup2, 1) := by decide +kernel
theorem dX11_isRefused_11 : decode cX11_isRefused 11 = .ok (.iaload, 1) := by decide +kernel
theorem dX11_isRefused_12 : decode cX11_isRefused 12 = .ok (.iconst 1, 1) := by decide +kernel
theorem dX11_isRefused_13 : decode cX11_isRefused 13 = .ok (.iadd, 1) := by decide +kernel
theorem dX11_isRefused_14 : decode cX11_isRefused 14 = .ok (.iastore, 1) := by decide +kernel
theorem dX11_isRefused_15 : decode cX11_isRefused 15 = .ok (.iload_n 1, 1) := by decide +kernel
theorem dX11_isRefused_16 : decode cX11_isRefused 16 = .ok (.iconst (-1), 1) := by decide +kernel
theorem dX11_isRefused_17 : decode cX11_isRefused 17 = .ok (.if_icmp .eq 7, 3) := by decide +kernel
theorem dX11_isRefused_20 : decode cX11_isRefused 20 = .ok (.iconst 1, 1) := by decide +kernel
theorem dX11_isRefused_21 : decode cX11_isRefused 21 = .ok (.goto 4, 3) := by decide +kernel
theorem dX11_isRefused_24 : decode cX11_isRefused 24 = .ok (.iconst 0, 1) := by decide +kernel
theorem dX11_isRefused_25 : decode cX11_isRefused 25 = .ok (.ireturn, 1) := by decide +kernel
theorem dX11_paintNow_0 : decode cX11_paintNow 0 = .ok (.aload_n 0, 1) := by decide +kernel
theorem dX11_paintNow_1 : decode cX11_paintNow 1 = .ok (.iload_n 1, 1) := by decide +kernel
theorem dX11_paintNow_2 : decode cX11_paintNow 2 = .ok (.iload_n 2, 1) := by decide +kernel
theorem dX11_paintNow_3 : decode cX11_paintNow 3 = .ok (.aload_n 0, 1) := by decide +kernel
theorem dX11_paintNow_4 : decode cX11_paintNow 4 = .ok (.iload_n 2, 1) := by decide +kernel
theorem dX11_paintNow_5 : decode cX11_paintNow 5 = .ok (.iconst 0, 1) := by decide +kernel
theorem dX11_paintNow_6 : decode cX11_paintNow 6 = .ok (.invokevirtual 241, 3) := by decide +kernel
theorem dX11_paintNow_9 : decode cX11_paintNow 9 = .ok (.invokevirtual 292, 3) := by decide +kernel
theorem dX11_paintNow_12 : decode cX11_paintNow 12 = .ok (.istore_n 3, 1) := by decide +kernel
theorem dX11_paintNow_13 : decode cX11_paintNow 13 = .ok (.bipush 17, 2) := by decide +kernel
theorem dX11_paintNow_15 : decode cX11_paintNow 15 = .ok (.iconst 4, 1) := by decide +kernel
theorem dX11_paintNow_16 : decode cX11_paintNow 16 = .ok (.aload_n 0, 1) := by decide +kernel
theorem dX11_paintNow_17 : decode cX11_paintNow 17 = .ok (.getfield 58, 3) := by decide +kernel
theorem dX11_paintNow_20 : decode cX11_paintNow 20 = .ok (.bipush 16, 2) := by decide +kernel
theorem dX11_paintNow_22 : decode cX11_paintNow 22 = .ok (.iaload, 1) := by decide +kernel
theorem dX11_paintNow_23 : decode cX11_paintNow 23 = .ok (.imul, 1) := by decide +kernel
theorem dX11_paintNow_24 : decode cX11_paintNow 24 = .ok (.iadd, 1) := by decide +kernel
theorem dX11_paintNow_25 : decode cX11_paintNow 25 = .ok (.istore 4, 2) := by decide +kernel
theorem dX11_paintNow_27 : decode cX11_paintNow 27 = .ok (.aload_n 0, 1) := by decide +kernel
theorem dX11_paintNow_28 : decode cX11_paintNow 28 = .ok (.getfield 58, 3) := by decide +kernel
theorem dX11_paintNow_31 : decode cX11_paintNow 31 = .ok (.iload 4, 2) := by decide +kernel
theorem dX11_paintNow_33 : decode cX11_paintNow 33 = .ok (.iload_n 2, 1) := by decide +kernel
theorem dX11_paintNow_34 : decode cX11_paintNow 34 = .ok (.iastore, 1) := by decide +kernel
theorem dX11_paintNow_35 : decode cX11_paintNow 35 = .ok (.aload_n 0, 1) := by decide +kernel
theorem dX11_paintNow_36 : decode cX11_paintNow 36 = .ok (.getfield 58, 3) := by decide +kernel
theorem dX11_paintNow_39 : decode cX11_paintNow 39 = .ok (.iload 4, 2) := by decide +kernel
theorem dX11_paintNow_41 : decode cX11_paintNow 41 = .ok (.iconst 1, 1) := by decide +kernel
theorem dX11_paintNow_42 : decode cX11_paintNow 42 = .ok (.iadd, 1) := by decide +kernel
theorem dX11_paintNow_43 : decode cX11_paintNow 43 = .ok (.iload_n 1, 1) := by decide +kernel
theorem dX11_paintNow_44 : decode cX11_paintNow 44 = .ok (.iastore, 1) := by decide +kernel
theorem dX11_paintNow_45 : decode cX11_paintNow 45 = .ok (.aload_n 0, 1) := by decide +kernel
theorem dX11_paintNow_46 : decode cX11_paintNow 46 = .ok (.getfield 58, 3) := by decide +kernel
theorem dX11_paintNow_49 : decode cX11_paintNow 49 = .ok (.iload 4, 2) := by decide +kernel
theorem dX11_paintNow_51 : decode cX11_paintNow 51 = .ok (.iconst 2, 1) := by decide +kernel
theorem dX11_paintNow_52 : decode cX11_paintNow 52 = .ok (.iadd, 1) := by decide +kernel
theorem dX11_paintNow_53 : decode cX11_paintNow 53 = .ok (.iload_n 3, 1) := by decide +kernel
theorem dX11_paintNow_54 : decode cX11_paintNow 54 = .ok (.iastore, 1) := by decide +kernel
theorem dX11_paintNow_55 : decode cX11_paintNow 55 = .ok (.aload_n 0, 1) := by decide +kernel
theorem dX11_paintNow_56 : decode cX11_paintNow 56 = .ok (.getfield 58, 3) := by decide +kernel
theorem dX11_paintNow_59 : decode cX11_paintNow 59 = .ok (.iload 4, 2) := by decide +kernel
theorem dX11_paintNow_61 : decode cX11_paintNow 61 = .ok (.iconst 3, 1) := by decide +kernel
theorem dX11_paintNow_62 : decode cX11_paintNow 62 = .ok (.iadd, 1) := by decide +kernel
theorem dX11_paintNow_63 : decode cX11_paintNow 63 = .ok (.aload_n 0, 1) := by decide +kernel
theorem dX11_paintNow_64 : decode cX11_paintNow 64 = .ok (.getfield 58, 3) := by decide +kernel
theorem dX11_paintNow_67 : decode cX11_paintNow 67 = .ok (.bipush 15, 2) := by decide +kernel
theorem dX11_paintNow_69 : decode cX11_paintNow 69 = .ok (.iaload, 1) := by decide +kernel
theorem dX11_paintNow_70 : decode cX11_paintNow 70 = .ok (.iastore, 1) := by decide +kernel
theorem dX11_paintNow_71 : decode cX11_paintNow 71 = .ok (.aload_n 0, 1) := by decide +kernel
theorem dX11_paintNow_72 : decode cX11_paintNow 72 = .ok (.getfield 58, 3) := by decide +kernel
theorem dX11_paintNow_75 : decode cX11_paintNow 75 = .ok (.bipush 16, 2) := by decide +kernel
theorem dX11_paintNow_77 : decode cX11_paintNow 77 = .ok (.dup2, 1) := by decide +kernel
theorem dX11_paintNow_78 : decode cX11_paintNow 78 = .ok (.iaload, 1) := by decide +kernel
theorem dX11_paintNow_79 : decode cX11_paintNow 79 = .ok (.iconst 1, 1) := by decide +kernel
theorem dX11_paintNow_80 : decode cX11_paintNow 80 = .ok (.iadd, 1) := by decide +kernel
theorem dX11_paintNow_81 : decode cX11_paintNow 81 = .ok (.iastore, 1) := by decide +kernel
theorem dX11_paintNow_82 : decode cX11_paintNow 82 = .ok (.aload_n 0, 1) := by decide +kernel
theorem dX11_paintNow_83 : decode cX11_paintNow 83 = .ok (.getfield 58, 3) := by decide +kernel
theorem dX11_paintNow_86 : decode cX11_paintNow 86 = .ok (.bipush 14, 2) := by decide +kernel
theorem dX11_paintNow_88 : decode cX11_paintNow 88 = .ok (.dup2, 1) := by decide +kernel
theorem dX11_paintNow_89 : decode cX11_paintNow 89 = .ok (.iaload, 1) := by decide +kernel
theorem dX11_paintNow_90 : decode cX11_paintNow 90 = .ok (.aload_n 0, 1) := by decide +kernel
theorem dX11_paintNow_91 : decode cX11_paintNow 91 = .ok (.iload_n 1, 1) := by decide +kernel
theorem dX11_paintNow_92 : decode cX11_paintNow 92 = .ok (.iconst 1, 1) := by decide +kernel
theorem dX11_paintNow_93 : decode cX11_paintNow 93 = .ok (.invokevirtual 244, 3) := by decide +kernel
theorem dX11_paintNow_96 : decode cX11_paintNow 96 = .ok (.isub, 1) := by decide +kernel
theorem dX11_paintNow_97 : decode cX11_paintNow 97 = .ok (.iastore, 1) := by decide +kernel
theorem dX11_paintNow_98 : decode cX11_paintNow 98 = .ok (.iload_n 3, 1) := by decide +kernel
theorem dX11_paintNow_99 : decode cX11_paintNow 99 = .ok (.ireturn, 1) := by decide +kernel
theorem dX11_paint_0 : decode cX11_paint 0 = .ok (.aload_n 0, 1) := by decide +kernel
theorem dX11_paint_1 : decode cX11_paint 1 = .ok (.aload_n 0, 1) := by decide +kernel
theorem dX11_paint_2 : decode cX11_paint 2 = .ok (.iload_n 1, 1) := by decide +kernel
theorem dX11_paint_3 : decode cX11_paint 3 = .ok (.iload_n 2, 1) := by decide +kernel
theorem dX11_paint_4 : decode cX11_paint 4 = .ok (.invokevirtual 286, 3) := by decide +kernel
theorem dX11_paint_7 : decode cX11_paint 7 = .ok (.ifCond .ne 7, 3) := by decide +kernel
theorem dX11_paint_10 : decode cX11_paint 10 = .ok (.iconst 0, 1) := by decide +kernel
theorem dX11_paint_11 : decode cX11_paint 11 = .ok (.goto 40, 3) := by decide +kernel
theorem dX11_paint_14 : decode cX11_paint 14 = .ok (.aload_n 0, 1) := by decide +kernel
theorem dX11_paint_15 : decode cX11_paint 15 = .ok (.getfield 58, 3) := by decide +kernel
theorem dX11_paint_18 : decode cX11_paint 18 = .ok (.bipush 14, 2) := by decide +kernel
theorem dX11_paint_20 : decode cX11_paint 20 = .ok (.iaload, 1) := by decide +kernel
theorem dX11_paint_21 : decode cX11_paint 21 = .ok (.aload_n 0, 1) := by decide +kernel
theorem dX11_paint_22 : decode cX11_paint 22 = .ok (.iload_n 1, 1) := by decide +kernel
theorem dX11_paint_23 : decode cX11_paint 23 = .ok (.iconst 1, 1) := by decide +kernel
theorem dX11_paint_24 : decode cX11_paint 24 = .ok (.invokevirtual 244, 3) := by decide +kernel
theorem dX11_paint_27 : decode cX11_paint 27 = .ok (.if_icmp .ge 7, 3) := by decide +kernel
theorem dX11_paint_30 : decode cX11_paint 30 = .ok (.iconst 2, 1) := by decide +kernel
theorem dX11_paint_31 : decode cX11_paint 31 = .ok (.goto 20, 3) := by decide +kernel
theorem dX11_paint_34 : decode cX11_paint 34 = .ok (.aload_n 0, 1) := by decide +kernel
theorem dX11_paint_35 : decode cX11_paint 35 = .ok (.getfield 58, 3) := by decide +kernel
theorem dX11_paint_38 : decode cX11_paint 38 = .ok (.bipush 16, 2) := by decide +kernel
theorem dX11_paint_40 : decode cX11_paint 40 = .ok (.iaload, 1) := by decide +kernel
theorem dX11_paint_41 : decode cX11_paint 41 = .ok (.bipush 20, 2) := by decide +kernel
theorem dX11_paint_43 : decode cX11_paint 43 = .ok (.if_icmp .ne 7, 3) := by decide +kernel
theorem dX11_paint_46 : decode cX11_paint 46 = .ok (.iconst 4, 1) := by decide +kernel
theorem dX11_paint_47 : decode cX11_paint 47 = .ok (.goto 4, 3) := by decide +kernel
theorem dX11_paint_50 : decode cX11_paint 50 = .ok (.iconst (-1), 1) := by decide +kernel
theorem dX11_paint_51 : decode cX11_paint 51 = .ok (.invokevirtual 295, 3) := by decide +kernel
theorem dX11_paint_54 : decode cX11_paint 54 = .ok (.ifCond .eq 5, 3) := by decide +kernel
theorem dX11_paint_57 : decode cX11_paint 57 = .ok (.iconst (-1), 1) := by decide +kernel
theorem dX11_paint_58 : decode cX11_paint 58 = .ok (.ireturn, 1) := by decide +kernel
theorem dX11_paint_59 : decode cX11_paint 59 = .ok (.aload_n 0, 1) := by decide +kernel
theorem dX11_paint_60 : decode cX11_paint 60 = .ok (.invokevirtual 298, 3) := by decide +kernel
theorem dX11_paint_63 : decode cX11_paint 63 = .ok (.aload_n 0, 1) := by decide +kernel
theorem dX11_paint_64 : decode cX11_paint 64 = .ok (.iload_n 1, 1) := by decide +kernel
theorem dX11_paint_65 : decode cX11_paint 65 = .ok (.iload_n 2, 1) := by decide +kernel
theorem dX11_paint_66 : decode cX11_paint 66 = .ok (.invokevirtual 301, 3) := by decide +kernel
theorem dX11_paint_69 : decode cX11_paint 69 = .ok (.ireturn, 1) := by decide +kernel
theorem dX11_pay_0 : decode cX11_pay 0 = .ok (.aload_n 0, 1) := by decide +kernel
theorem dX11_pay_1 : decode cX11_pay 1 = .ok (.aload_n 0, 1) := by decide +kernel
theorem dX11_pay_2 : decode cX11_pay 2 = .ok (.iload_n 1, 1) := by decide +kernel
theorem dX11_pay_3 : decode cX11_pay 3 = .ok (.invokevirtual 263, 3) := by decide +kernel
theorem dX11_pay_6 : decode cX11_pay 6 = .ok (.ifCond .ne 7, 3) := by decide +kernel
theorem dX11_pay_9 : decode cX11_pay 9 = .ok (.iconst 0, 1) := by decide +kernel
theorem dX11_pay_10 : decode cX11_pay 10 = .ok (.goto 42, 3) := by decide +kernel
theorem dX11_pay_13 : decode cX11_pay 13 = .ok (.iload_n 2, 1) := by decide +kernel
theorem dX11_pay_14 : decode cX11_pay 14 = .ok (.bipush (-9), 2) := by decide +kernel
theorem dX11_pay_16 : decode cX11_pay 16 = .ok (.bipush 9, 2) := by decide +kernel
theorem dX11_pay_18 : decode cX11_pay 18 = .ok (.invokestatic 198, 3) := by decide +kernel
theorem dX11_pay_21 : decode cX11_pay 21 = .ok (.ifCond .eq 26, 3) := by decide +kernel
theorem dX11_pay_24 : decode cX11_pay 24 = .ok (.iload_n 2, 1) := by decide +kernel
theorem dX11_pay_25 : decode cX11_pay 25 = .ok (.ifCond .eq 22, 3) := by decide +kernel
theorem dX11_pay_28 : decode cX11_pay 28 = .ok (.aload_n 0, 1) := by decide +kernel
theorem dX11_pay_29 : decode cX11_pay 29 = .ok (.getfield 58, 3) := by decide +kernel
theorem dX11_pay_32 : decode cX11_pay 32 = .ok (.iconst 0, 1) := by decide +kernel
theorem dX11_pay_33 : decode cX11_pay 33 = .ok (.iload_n 1, 1) := by decide +kernel
theorem dX11_pay_34 : decode cX11_pay 34 = .ok (.iadd, 1) := by decide +kernel
theorem dX11_pay_35 : decode cX11_pay 35 = .ok (.iaload, 1) := by decide +kernel
theorem dX11_pay_36 : decode cX11_pay 36 = .ok (.iload_n 2, 1) := by decide +kernel
theorem dX11_pay_37 : decode cX11_pay 37 = .ok (.iadd, 1) := by decide +kernel
theorem dX11_pay_38 : decode cX11_pay 38 = .ok (.iconst 0, 1) := by decide +kernel
theorem dX11_pay_39 : decode cX11_pay 39 = .ok (.bipush 9, 2) := by decide +kernel
theorem dX11_pay_41 : decode cX11_pay 41 = .ok (.invokestatic 198, 3) := by decide +kernel
theorem dX11_pay_44 : decode cX11_pay 44 = .ok (.ifCond .ne 7, 3) := by decide +kernel
theorem dX11_pay_47 : decode cX11_pay 47 = .ok (.iconst 1, 1) := by decide +kernel
theorem dX11_pay_48 : decode cX11_pay 48 = .ok (.goto 4, 3) := by decide +kernel
theorem dX11_pay_51 : decode cX11_pay 51 = .ok (.iconst (-1), 1) := by decide +kernel
theorem dX11_pay_52 : decode cX11_pay 52 = .ok (.invokevirtual 295, 3) := by decide +kernel
theorem dX11_pay_55 : decode cX11_pay 55 = .ok (.ifCond .eq 5, 3) := by decide +kernel
theorem dX11_pay_58 : decode cX11_pay 58 = .ok (.iconst (-1), 1) := by decide +kernel
theorem dX11_pay_59 : decode cX11_pay 59 = .ok (.ireturn, 1) := by decide +kernel
theorem dX11_pay_60 : decode cX11_pay 60 = .ok (.aload_n 0, 1) := by decide +kernel
theorem dX11_pay_61 : decode cX11_pay 61 = .ok (.invokevirtual 298, 3) := by decide +kernel
theorem dX11_pay_64 : decode cX11_pay 64 = .ok (.aload_n 0, 1) := by decide +kernel
theorem dX11_pay_65 : decode cX11_pay 65 = .ok (.getfield 58, 3) := by decide +kernel
theorem dX11_pay_68 : decode cX11_pay 68 = .ok (.iconst 0, 1) := by decide +kernel
theorem dX11_pay_69 : decode cX11_pay 69 = .ok (.iload_n 1, 1) := by decide +kernel
theorem dX11_pay_70 : decode cX11_pay 70 = .ok (.iadd, 1) := by decide +kernel
theorem dX11_pay_71 : decode cX11_pay 71 = .ok (.dup2, 1) := by decide +kernel
theorem dX11_pay_72 : decode cX11_pay 72 = .ok (.iaload, 1) := by decide +kernel
theorem dX11_pay_73 : decode cX11_pay 73 = .ok (.iload_n 2, 1) := by decide +kernel
theorem dX11_pay_74 : decode cX11_pay 74 = .ok (.iadd, 1) := by decide +kernel
theorem dX11_pay_75 : decode cX11_pay 75 = .ok (.iastore, 1) := by decide +kernel
theorem dX11_pay_76 : decode cX11_pay 76 = .ok (.aload_n 0, 1) := by decide +kernel
theorem dX11_pay_77 : decode cX11_pay 77 = .ok (.getfield 58, 3) := by decide +kernel
theorem dX11_pay_80 : decode cX11_pay 80 = .ok (.iconst 0, 1) := by decide +kernel
theorem dX11_pay_81 : decode cX11_pay 81 = .ok (.iload_n 1, 1) := by decide +kernel
theorem dX11_pay_82 : decode cX11_pay 82 = .ok (.iadd, 1) := by decide +kernel
theorem dX11_pay_83 : decode cX11_pay 83 = .ok (.iaload, 1) := by decide +kernel
theorem dX11_pay_84 : decode cX11_pay 84 = .ok (.ireturn, 1) := by decide +kernel
theorem dX11_threaten_0 : decode cX11_threaten 0 = .ok (.aload_n 0, 1) := by decide +kernel
theorem dX11_threaten_1 : decode cX11_threaten 1 = .ok (.aload_n 0, 1) := by decide +kernel
theorem dX11_threaten_2 : decode cX11_threaten 2 = .ok (.iload_n 1, 1) := by decide +kernel
theorem dX11_threaten_3 : decode cX11_threaten 3 = .ok (.invokevirtual 260, 3) := by decide +kernel
theorem dX11_threaten_6 : decode cX11_threaten 6 = .ok (.ifCond .ne 7, 3) := by decide +kernel
theorem dX11_threaten_9 : decode cX11_threaten 9 = .ok (.iconst 0, 1) := by decide +kernel
theorem dX11_threaten_10 : decode cX11_threaten 10 = .ok (.goto 22, 3) := by decide +kernel
theorem dX11_threaten_13 : decode cX11_threaten 13 = .ok (.aload_n 0, 1) := by decide +kernel
theorem dX11_threaten_14 : decode cX11_threaten 14 = .ok (.getfield 58, 3) := by decide +kernel
theorem dX11_threaten_17 : decode cX11_threaten 17 = .ok (.bipush 6, 2) := by decide +kernel
theorem dX11_threaten_19 : decode cX11_threaten 19 = .ok (.iload_n 1, 1) := by decide +kernel
theorem dX11_threaten_20 : decode cX11_threaten 20 = .ok (.iadd, 1) := by decide +kernel
theorem dX11_threaten_21 : decode cX11_threaten 21 = .ok (.iaload, 1) := by decide +kernel
theorem dX11_threaten_22 : decode cX11_threaten 22 = .ok (.bipush 9, 2) := by decide +kernel
theorem dX11_threaten_24 : decode cX11_threaten 24 = .ok (.if_icmp .ne 7, 3) := by decide +kernel
theorem dX11_threaten_27 : decode cX11_threaten 27 = .ok (.iconst 1, 1) := by decide +kernel
theorem dX11_threaten_28 : decode cX11_threaten 28 = .ok (.goto 4, 3) := by decide +kernel
theorem dX11_threaten_31 : decode cX11_threaten 31 = .ok (.iconst (-1), 1) := by decide +kernel
theorem dX11_threaten_32 : decode cX11_threaten 32 = .ok (.invokevirtual 295, 3) := by decide +kernel
theorem dX11_threaten_35 : decode cX11_threaten 35 = .ok (.ifCond .eq 5, 3) := by decide +kernel
theorem dX11_threaten_38 : decode cX11_threaten 38 = .ok (.iconst (-1), 1) := by decide +kernel
theorem dX11_threaten_39 : decode cX11_threaten 39 = .ok (.ireturn, 1) := by decide +kernel
theorem dX11_threaten_40 : decode cX11_threaten 40 = .ok (.aload_n 0, 1) := by decide +kernel
theorem dX11_threaten_41 : decode cX11_threaten 41 = .ok (.invokevirtual 298, 3) := by decide +kernel
theorem dX11_threaten_44 : decode cX11_threaten 44 = .ok (.aload_n 0, 1) := by decide +kernel
theorem dX11_threaten_45 : decode cX11_threaten 45 = .ok (.getfield 58, 3) := by decide +kernel
theorem dX11_threaten_48 : decode cX11_threaten 48 = .ok (.bipush 6, 2) := by decide +kernel
theorem dX11_threaten_50 : decode cX11_threaten 50 = .ok (.iload_n 1, 1) := by decide +kernel
theorem dX11_threaten_51 : decode cX11_threaten 51 = .ok (.iadd, 1) := by decide +kernel
theorem dX11_threaten_52 : decode cX11_threaten 52 = .ok (.dup2, 1) := by decide +kernel
theorem dX11_threaten_53 : decode cX11_threaten 53 = .ok (.iaload, 1) := by decide +kernel
theorem dX11_threaten_54 : decode cX11_threaten 54 = .ok (.iconst 1, 1) := by decide +kernel
theorem dX11_threaten_55 : decode cX11_threaten 55 = .ok (.iadd, 1) := by decide +kernel
theorem dX11_threaten_56 : decode cX11_threaten 56 = .ok (.iastore, 1) := by decide +kernel
theorem dX11_threaten_57 : decode cX11_threaten 57 = .ok (.aload_n 0, 1) := by decide +kernel
theorem dX11_threaten_58 : decode cX11_threaten 58 = .ok (.getfield 58, 3) := by decide +kernel
theorem dX11_threaten_61 : decode cX11_threaten 61 = .ok (.bipush 6, 2) := by decide +kernel
theorem dX11_threaten_63 : decode cX11_threaten 63 = .ok (.iload_n 1, 1) := by decide +kernel
theorem dX11_threaten_64 : decode cX11_threaten 64 = .ok (.iadd, 1) := by decide +kernel
theorem dX11_threaten_65 : decode cX11_threaten 65 = .ok (.iaload, 1) := by decide +kernel
theorem dX11_threaten_66 : decode cX11_threaten 66 = .ok (.ireturn, 1) := by decide +kernel
theorem dX11_isTold_0 : decode cX11_isTold 0 = .ok (.aload_n 0, 1) := by decide +kernel
theorem dX11_isTold_1 : decode cX11_isTold 1 = .ok (.aload_n 0, 1) := by decide +kernel
theorem dX11_isTold_2 : decode cX11_isTold 2 = .ok (.iload_n 2, 1) := by decide +kernel
theorem dX11_isTold_3 : decode cX11_isTold 3 = .ok (.invokevirtual 263, 3) := by decide +kernel
theorem dX11_isTold_6 : decode cX11_isTold 6 = .ok (.ifCond .ne 7, 3) := by decide +kernel
theorem dX11_isTold_9 : decode cX11_isTold 9 = .ok (.iconst 0, 1) := by decide +kernel
theorem dX11_isTold_10 : decode cX11_isTold 10 = .ok (.goto 36, 3) := by decide +kernel
theorem dX11_isTold_13 : decode cX11_isTold 13 = .ok (.aload_n 0, 1) := by decide +kernel
theorem dX11_isTold_14 : decode cX11_isTold 14 = .ok (.getfield 58, 3) := by decide +kernel
theorem dX11_isTold_17 : decode cX11_isTold 17 = .ok (.iload_n 1, 1) := by decide +kernel
theorem dX11_isTold_18 : decode cX11_isTold 18 = .ok (.iaload, 1) := by decide +kernel
theorem dX11_isTold_19 : decode cX11_isTold 19 = .ok (.iload_n 2, 1) := by decide +kernel
theorem dX11_isTold_20 : decode cX11_isTold 20 = .ok (.invokestatic 209, 3) := by decide +kernel
theorem dX11_isTold_23 : decode cX11_isTold 23 = .ok (.ifCond .eq 7, 3) := by decide +kernel
theorem dX11_isTold_26 : decode cX11_isTold 26 = .ok (.iconst 1, 1) := by decide +kernel
theorem dX11_isTold_27 : decode cX11_isTold 27 = .ok (.goto 19, 3) := by decide +kernel
theorem dX11_isTold_30 : decode cX11_isTold 30 = .ok (.aload_n 0, 1) := by decide +kernel
theorem dX11_isTold_31 : decode cX11_isTold 31 = .ok (.getfield 58, 3) := by decide +kernel
theorem dX11_isTold_34 : decode cX11_isTold 34 = .ok (.bipush 14, 2) := by decide +kernel
theorem dX11_isTold_36 : decode cX11_isTold 36 = .ok (.iaload, 1) := by decide +kernel
theorem dX11_isTold_37 : decode cX11_isTold 37 = .ok (.iload_n 3, 1) := by decide +kernel
theorem dX11_isTold_38 : decode cX11_isTold 38 = .ok (.if_icmp .ge 7, 3) := by decide +kernel
theorem dX11_isTold_41 : decode cX11_isTold 41 = .ok (.iconst 2, 1) := by decide +kernel
theorem dX11_isTold_42 : decode cX11_isTold 42 = .ok (.goto 4, 3) := by decide +kernel
theorem dX11_isTold_45 : decode cX11_isTold 45 = .ok (.iconst (-1), 1) := by decide +kernel
theorem dX11_isTold_46 : decode cX11_isTold 46 = .ok (.invokevirtual 295, 3) := by decide +kernel
theorem dX11_isTold_49 : decode cX11_isTold 49 = .ok (.ifCond .eq 5, 3) := by decide +kernel
theorem dX11_isTold_52 : decode cX11_isTold 52 = .ok (.iconst 0, 1) := by decide +kernel
theorem dX11_isTold_53 : decode cX11_isTold 53 = .ok (.ireturn, 1) := by decide +kernel
theorem dX11_isTold_54 : decode cX11_isTold 54 = .ok (.aload_n 0, 1) := by decide +kernel
theorem dX11_isTold_55 : decode cX11_isTold 55 = .ok (.invokevirtual 298, 3) := by decide +kernel
theorem dX11_isTold_58 : decode cX11_isTold 58 = .ok (.aload_n 0, 1) := by decide +kernel
theorem dX11_isTold_59 : decode cX11_isTold 59 = .ok (.getfield 58, 3) := by decide +kernel
theorem dX11_isTold_62 : decode cX11_isTold 62 = .ok (.iload_n 1, 1) := by decide +kernel
theorem dX11_isTold_63 : decode cX11_isTold 63 = .ok (.dup2, 1) := by decide +kernel
theorem dX11_isTold_64 : decode cX11_isTold 64 = .ok (.iaload, 1) := by decide +kernel
theorem dX11_isTold_65 : decode cX11_isTold 65 = .ok (.iconst 1, 1) := by decide +kernel
theorem dX11_isTold_66 : decode cX11_isTold 66 = .ok (.iload_n 2, 1) := by decide +kernel
theorem dX11_isTold_67 : decode cX11_isTold 67 = .ok (.ishl, 1) := by decide +kernel
theorem dX11_isTold_68 : decode cX11_isTold 68 = .ok (.ior, 1) := by decide +kernel
theorem dX11_isTold_69 : decode cX11_isTold 69 = .ok (.iastore, 1) := by decide +kernel
theorem dX11_isTold_70 : decode cX11_isTold 70 = .ok (.aload_n 0, 1) := by decide +kernel
theorem dX11_isTold_71 : decode cX11_isTold 71 = .ok (.getfield 58, 3) := by decide +kernel
theorem dX11_isTold_74 : decode cX11_isTold 74 = .ok (.bipush 14, 2) := by decide +kernel
theorem dX11_isTold_76 : decode cX11_isTold 76 = .ok (.dup2, 1) := by decide +kernel
theorem dX11_isTold_77 : decode cX11_isTold 77 = .ok (.iaload, 1) := by decide +kernel
theorem dX11_isTold_78 : decode cX11_isTold 78 = .ok (.iload_n 3, 1) := by decide +kernel
theorem dX11_isTold_79 : decode cX11_isTold 79 = .ok (.isub, 1) := by decide +kernel
theorem dX11_isTold_80 : decode cX11_isTold 80 = .ok (.iastore, 1) := by decide +kernel
theorem dX11_isTold_81 : decode cX11_isTold 81 = .ok (.iconst 1, 1) := by decide +kernel
theorem dX11_isTold_82 : decode cX11_isTold 82 = .ok (.ireturn, 1) := by decide +kernel
theorem dX11_letter_0 : decode cX11_letter 0 = .ok (.aload_n 0, 1) := by decide +kernel
theorem dX11_letter_1 : decode cX11_letter 1 = .ok (.bipush 11, 2) := by decide +kernel
theorem dX11_letter_3 : decode cX11_letter 3 = .ok (.iload_n 1, 1) := by decide +kernel
theorem dX11_letter_4 : decode cX11_letter 4 = .ok (.iconst 2, 1) := by decide +kernel
theorem dX11_letter_5 : decode cX11_letter 5 = .ok (.invokevirtual 304, 3) := by decide +kernel
theorem dX11_letter_8 : decode cX11_letter 8 = .ok (.ifCond .ne 7, 3) := by decide +kernel
theorem dX11_letter_11 : decode cX11_letter 11 = .ok (.iconst (-1), 1) := by decide +kernel
theorem dX11_letter_12 : decode cX11_letter 12 = .ok (.goto 18, 3) := by decide +kernel
theorem dX11_letter_15 : decode cX11_letter 15 = .ok (.aload_n 0, 1) := by decide +kernel
theorem dX11_letter_16 : decode cX11_letter 16 = .ok (.iload_n 1, 1) := by decide +kernel
theorem dX11_letter_17 : decode cX11_letter 17 = .ok (.iconst 0, 1) := by decide +kernel
theorem dX11_letter_18 : decode cX11_letter 18 = .ok (.invokevirtual 241, 3) := by decide +kernel
theorem dX11_letter_21 : decode cX11_letter 21 = .ok (.iconst 5, 1) := by decide +kernel
theorem dX11_letter_22 : decode cX11_letter 22 = .ok (.if_icmp .lt 7, 3) := by decide +kernel
theorem dX11_letter_25 : decode cX11_letter 25 = .ok (.iconst 1, 1) := by decide +kernel
theorem dX11_letter_26 : decode cX11_letter 26 = .ok (.goto 4, 3) := by decide +kernel
theorem dX11_letter_29 : decode cX11_letter 29 = .ok (.iconst 0, 1) := by decide +kernel
theorem dX11_letter_30 : decode cX11_letter 30 = .ok (.ireturn, 1) := by decide +kernel
theorem dX11_shoe_0 : decode cX11_shoe 0 = .ok (.aload_n 0, 1) := by decide +kernel
theorem dX11_shoe_1 : decode cX11_shoe 1 = .ok (.bipush 12, 2) := by decide +kernel
theorem dX11_shoe_3 : decode cX11_shoe 3 = .ok (.iload_n 1, 1) := by decide +kernel
theorem dX11_shoe_4 : decode cX11_shoe 4 = .ok (.iconst 1, 1) := by decide +kernel
theorem dX11_shoe_5 : decode cX11_shoe 5 = .ok (.invokevirtual 304, 3) := by decide +kernel
theorem dX11_shoe_8 : decode cX11_shoe 8 = .ok (.ifCond .eq 14, 3) := by decide +kernel
theorem dX11_shoe_11 : decode cX11_shoe 11 = .ok (.aload_n 0, 1) := by decide +kernel
theorem dX11_shoe_12 : decode cX11_shoe 12 = .ok (.iload_n 1, 1) := by decide +kernel
theorem dX11_shoe_13 : decode cX11_shoe 13 = .ok (.iconst 0, 1) := by decide +kernel
theorem dX11_shoe_14 : decode cX11_shoe 14 = .ok (.invokevirtual 241, 3) := by decide +kernel
theorem dX11_shoe_17 : decode cX11_shoe 17 = .ok (.iconst 2, 1) := by decide +kernel
theorem dX11_shoe_18 : decode cX11_shoe 18 = .ok (.irem, 1) := by decide +kernel
theorem dX11_shoe_19 : decode cX11_shoe 19 = .ok (.goto 4, 3) := by decide +kernel
theorem dX11_shoe_22 : decode cX11_shoe 22 = .ok (.iconst (-1), 1) := by decide +kernel
theorem dX11_shoe_23 : decode cX11_shoe 23 = .ok (.ireturn, 1) := by decide +kernel
theorem dX11_wed_0 : decode cX11_wed 0 = .ok (.aload_n 0, 1) := by decide +kernel
theorem dX11_wed_1 : decode cX11_wed 1 = .ok (.aload_n 0, 1) := by decide +kernel
theorem dX11_wed_2 : decode cX11_wed 2 = .ok (.iload_n 1, 1) := by decide +kernel
theorem dX11_wed_3 : decode cX11_wed 3 = .ok (.invokevirtual 263, 3) := by decide +kernel
theorem dX11_wed_6 : decode cX11_wed 6 = .ok (.ifCond .ne 7, 3) := by decide +kernel
theorem dX11_wed_9 : decode cX11_wed 9 = .ok (.iconst 0, 1) := by decide +kernel
theorem dX11_wed_10 : decode cX11_wed 10 = .ok (.goto 18, 3) := by decide +kernel
theorem dX11_wed_13 : decode cX11_wed 13 = .ok (.aload_n 0, 1) := by decide +kernel
theorem dX11_wed_14 : decode cX11_wed 14 = .ok (.getfield 58, 3) := by decide +kernel
theorem dX11_wed_17 : decode cX11_wed 17 = .ok (.bipush 13, 2) := by decide +kernel
theorem dX11_wed_19 : decode cX11_wed 19 = .ok (.iaload, 1) := by decide +kernel
theorem dX11_wed_20 : decode cX11_wed 20 = .ok (.ifCond .le 7, 3) := by decide +kernel
theorem dX11_wed_23 : decode cX11_wed 23 = .ok (.iconst 3, 1) := by decide +kernel
theorem dX11_wed_24 : decode cX11_wed 24 = .ok (.goto 4, 3) := by decide +kernel
theorem dX11_wed_27 : decode cX11_wed 27 = .ok (.iconst (-1), 1) := by decide +kernel
theorem dX11_wed_28 : decode cX11_wed 28 = .ok (.invokevirtual 295, 3) := by decide +kernel
theorem dX11_wed_31 : decode cX11_wed 31 = .ok (.ifCond .eq 5, 3) := by decide +kernel
theorem dX11_wed_34 : decode cX11_wed 34 = .ok (.iconst (-1), 1) := by decide +kernel
theorem dX11_wed_35 : decode cX11_wed 35 = .ok (.ireturn, 1) := by decide +kernel
theorem dX11_wed_36 : decode cX11_wed 36 = .ok (.aload_n 0, 1) := by decide +kernel
theorem dX11_wed_37 : decode cX11_wed 37 = .ok (.invokevirtual 298, 3) := by decide +kernel
theorem dX11_wed_40 : decode cX11_wed 40 = .ok (.aload_n 0, 1) := by decide +kernel
theorem dX11_wed_41 : decode cX11_wed 41 = .ok (.getfield 58, 3) := by decide +kernel
theorem dX11_wed_44 : decode cX11_wed 44 = .ok (.bipush 13, 2) := by decide +kernel
theorem dX11_wed_46 : decode cX11_wed 46 = .ok (.iload_n 1, 1) := by decide +kernel
theorem dX11_wed_47 : decode cX11_wed 47 = .ok (.iconst 1, 1) := by decide +kernel
theorem dX11_wed_48 : decode cX11_wed 48 = .ok (.iadd, 1) := by decide +kernel
theorem dX11_wed_49 : decode cX11_wed 49 = .ok (.iastore, 1) := by decide +kernel
theorem dX11_wed_50 : decode cX11_wed 50 = .ok (.aload_n 0, 1) := by decide +kernel
theorem dX11_wed_51 : decode cX11_wed 51 = .ok (.getfield 58, 3) := by decide +kernel
theorem dX11_wed_54 : decode cX11_wed 54 = .ok (.bipush 14, 2) := by decide +kernel
theorem dX11_wed_56 : decode cX11_wed 56 = .ok (.sipush 999, 3) := by decide +kernel
theorem dX11_wed_59 : decode cX11_wed 59 = .ok (.aload_n 0, 1) := by decide +kernel
theorem dX11_wed_60 : decode cX11_wed 60 = .ok (.getfield 58, 3) := by decide +kernel
theorem dX11_wed_63 : decode cX11_wed 63 = .ok (.bipush 14, 2) := by decide +kernel
theorem dX11_wed_65 : decode cX11_wed 65 = .ok (.iaload, 1) := by decide +kernel
theorem dX11_wed_66 : decode cX11_wed 66 = .ok (.aload_n 0, 1) := by decide +kernel
theorem dX11_wed_67 : decode cX11_wed 67 = .ok (.iload_n 1, 1) := by decide +kernel
theorem dX11_wed_68 : decode cX11_wed 68 = .ok (.iconst 1, 1) := by decide +kernel
theorem dX11_wed_69 : decode cX11_wed 69 = .ok (.invokevirtual 241, 3) := by decide +kernel
theorem dX11_wed_72 : decode cX11_wed 72 = .ok (.bipush 10, 2) := by decide +kernel
theorem dX11_wed_74 : decode cX11_wed 74 = .ok (.idiv, 1) := by decide +kernel
theorem dX11_wed_75 : decode cX11_wed 75 = .ok (.iadd, 1) := by decide +kernel
theorem dX11_wed_76 : decode cX11_wed 76 = .ok (.invokestatic 274, 3) := by decide +kernel
theorem dX11_wed_79 : decode cX11_wed 79 = .ok (.iastore, 1) := by decide +kernel
theorem dX11_wed_80 : decode cX11_wed 80 = .ok (.aload_n 0, 1) := by decide +kernel
theorem dX11_wed_81 : decode cX11_wed 81 = .ok (.getfield 58, 3) := by decide +kernel
theorem dX11_wed_84 : decode cX11_wed 84 = .ok (.bipush 14, 2) := by decide +kernel
theorem dX11_wed_86 : decode cX11_wed 86 = .ok (.iaload, 1) := by decide +kernel
theorem dX11_wed_87 : decode cX11_wed 87 = .ok (.ireturn, 1) := by decide +kernel
theorem dX11_seenOf_0 : decode cX11_seenOf 0 = .ok (.iconst 0, 1) := by decide +kernel
theorem dX11_seenOf_1 : decode cX11_seenOf 1 = .ok (.istore_n 2, 1) := by decide +kernel
theorem dX11_seenOf_2 : decode cX11_seenOf 2 = .ok (.iconst 0, 1) := by decide +kernel
theorem dX11_seenOf_3 : decode cX11_seenOf 3 = .ok (.istore_n 3, 1) := by decide +kernel
theorem dX11_seenOf_4 : decode cX11_seenOf 4 = .ok (.iload_n 3, 1) := by decide +kernel
theorem dX11_seenOf_5 : decode cX11_seenOf 5 = .ok (.aload_n 0, 1) := by decide +kernel
theorem dX11_seenOf_6 : decode cX11_seenOf 6 = .ok (.getfield 58, 3) := by decide +kernel
theorem dX11_seenOf_9 : decode cX11_seenOf 9 = .ok (.bipush 16, 2) := by decide +kernel
theorem dX11_seenOf_11 : decode cX11_seenOf 11 = .ok (.iaload, 1) := by decide +kernel
theorem dX11_seenOf_12 : decode cX11_seenOf 12 = .ok (.if_icmp .ge 27, 3) := by decide +kernel
theorem dX11_seenOf_15 : decode cX11_seenOf 15 = .ok (.iload_n 2, 1) := by decide +kernel
theorem dX11_seenOf_16 : decode cX11_seenOf 16 = .ok (.aload_n 0, 1) := by decide +kernel
theorem dX11_seenOf_17 : decode cX11_seenOf 17 = .ok (.iload_n 3, 1) := by decide +kernel
theorem dX11_seenOf_18 : decode cX11_seenOf 18 = .ok (.iconst 0, 1) := by decide +kernel
theorem dX11_seenOf_19 : decode cX11_seenOf 19 = .ok (.invokevirtual 276, 3) := by decide +kernel
theorem dX11_seenOf_22 : decode cX11_seenOf 22 = .ok (.iload_n 1, 1) := by decide +kernel
theorem dX11_seenOf_23 : decode cX11_seenOf 23 = .ok (.if_icmp .ne 7, 3) := by decide +kernel
theorem dX11_seenOf_26 : decode cX11_seenOf 26 = .ok (.iconst 1, 1) := by decide +kernel
theorem dX11_seenOf_27 : decode cX11_seenOf 27 = .ok (.goto 4, 3) := by decide +kernel
theorem dX11_seenOf_30 : decode cX11_seenOf 30 = .ok (.iconst 0, 1) := by decide +kernel
theorem dX11_seenOf_31 : decode cX11_seenOf 31 = .ok (.iadd, 1) := by decide +kernel
theorem dX11_seenOf_32 : decode cX11_seenOf 32 = .ok (.istore_n 2, 1) := by decide +kernel
theorem dX11_seenOf_33 : decode cX11_seenOf 33 = .ok (.iinc 3 1, 3) := by decide +kernel
theorem dX11_seenOf_36 : decode cX11_seenOf 36 = .ok (.goto (-32), 3) := by decide +kernel
theorem dX11_seenOf_39 : decode cX11_seenOf 39 = .ok (.iload_n 2, 1) := by decide +kernel
theorem dX11_seenOf_40 : decode cX11_seenOf 40 = .ok (.ireturn, 1) := by decide +kernel
theorem dX11_lookedOf_0 : decode cX11_lookedOf 0 = .ok (.iconst 0, 1) := by decide +kernel
theorem dX11_lookedOf_1 : decode cX11_lookedOf 1 = .ok (.istore_n 2, 1) := by decide +kernel
theorem dX11_lookedOf_2 : decode cX11_lookedOf 2 = .ok (.iconst 0, 1) := by decide +kernel
theorem dX11_lookedOf_3 : decode cX11_lookedOf 3 = .ok (.istore_n 3, 1) := by decide +kernel
theorem dX11_lookedOf_4 : decode cX11_lookedOf 4 = .ok (.iload_n 3, 1) := by decide +kernel
theorem dX11_lookedOf_5 : decode cX11_lookedOf 5 = .ok (.aload_n 0, 1) := by decide +kernel
theorem dX11_lookedOf_6 : decode cX11_lookedOf 6 = .ok (.getfield 58, 3) := by decide +kernel
theorem dX11_lookedOf_9 : decode cX11_lookedOf 9 = .ok (.bipush 16, 2) := by decide +kernel
theorem dX11_lookedOf_11 : decode cX11_lookedOf 11 = .ok (.iaload, 1) := by decide +kernel
theorem dX11_lookedOf_12 : decode cX11_lookedOf 12 = .ok (.if_icmp .ge 32, 3) := by decide +kernel
theorem dX11_lookedOf_15 : decode cX11_lookedOf 15 = .ok (.iload_n 2, 1) := by decide +kernel
theorem dX11_lookedOf_16 : decode cX11_lookedOf 16 = .ok (.aload_n 0, 1) := by decide +kernel
theorem dX11_lookedOf_17 : decode cX11_lookedOf 17 = .ok (.iload_n 3, 1) := by decide +kernel
theorem dX11_lookedOf_18 : decode cX11_lookedOf 18 = .ok (.iconst 0, 1) := by decide +kernel
theorem dX11_lookedOf_19 : decode cX11_lookedOf 19 = .ok (.invokevirtual 276, 3) := by decide +kernel
theorem dX11_lookedOf_22 : decode cX11_lookedOf 22 = .ok (.iload_n 1, 1) := by decide +kernel
theorem dX11_lookedOf_23 : decode cX11_lookedOf 23 = .ok (.if_icmp .ne 12, 3) := by decide +kernel
theorem dX11_lookedOf_26 : decode cX11_lookedOf 26 = .ok (.aload_n 0, 1) := by decide +kernel
theorem dX11_lookedOf_27 : decode cX11_lookedOf 27 = .ok (.iload_n 3, 1) := by decide +kernel
theorem dX11_lookedOf_28 : decode cX11_lookedOf 28 = .ok (.iconst 2, 1) := by decide +kernel
theorem dX11_lookedOf_29 : decode cX11_lookedOf 29 = .ok (.invokevirtual 276, 3) := by decide +kernel
theorem dX11_lookedOf_32 : decode cX11_lookedOf 32 = .ok (.goto 4, 3) := by decide +kernel
theorem dX11_lookedOf_35 : decode cX11_lookedOf 35 = .ok (.iconst 0, 1) := by decide +kernel
theorem dX11_lookedOf_36 : decode cX11_lookedOf 36 = .ok (.iadd, 1) := by decide +kernel
theorem dX11_lookedOf_37 : decode cX11_lookedOf 37 = .ok (.istore_n 2, 1) := by decide +kernel
theorem dX11_lookedOf_38 : decode cX11_lookedOf 38 = .ok (.iinc 3 1, 3) := by decide +kernel
theorem dX11_lookedOf_41 : decode cX11_lookedOf 41 = .ok (.goto (-37), 3) := by decide +kernel
theorem dX11_lookedOf_44 : decode cX11_lookedOf 44 = .ok (.aload_n 0, 1) := by decide +kernel
theorem dX11_lookedOf_45 : decode cX11_lookedOf 45 = .ok (.iload_n 1, 1) := by decide +kernel
theorem dX11_lookedOf_46 : decode cX11_lookedOf 46 = .ok (.invokevirtual 307, 3) := by decide +kernel
theorem dX11_lookedOf_49 : decode cX11_lookedOf 49 = .ok (.ifCond .ne 7, 3) := by decide +kernel
theorem dX11_lookedOf_52 : decode cX11_lookedOf 52 = .ok (.iconst 0, 1) := by decide +kernel
theorem dX11_lookedOf_53 : decode cX11_lookedOf 53 = .ok (.goto 10, 3) := by decide +kernel
theorem dX11_lookedOf_56 : decode cX11_lookedOf 56 = .ok (.iload_n 2, 1) := by decide +kernel
theorem dX11_lookedOf_57 : decode cX11_lookedOf 57 = .ok (.aload_n 0, 1) := by decide +kernel
theorem dX11_lookedOf_58 : decode cX11_lookedOf 58 = .ok (.iload_n 1, 1) := by decide +kernel
theorem dX11_lookedOf_59 : decode cX11_lookedOf 59 = .ok (.invokevirtual 307, 3) := by decide +kernel
theorem dX11_lookedOf_62 : decode cX11_lookedOf 62 = .ok (.idiv, 1) := by decide +kernel
theorem dX11_lookedOf_63 : decode cX11_lookedOf 63 = .ok (.ireturn, 1) := by decide +kernel
theorem dX11_annul_0 : decode cX11_annul 0 = .ok (.aload_n 0, 1) := by decide +kernel
theorem dX11_annul_1 : decode cX11_annul 1 = .ok (.getfield 235, 3) := by decide +kernel
theorem dX11_annul_4 : decode cX11_annul 4 = .ok (.ifCond .ne 7, 3) := by decide +kernel
theorem dX11_annul_7 : decode cX11_annul 7 = .ok (.iconst (-1), 1) := by decide +kernel
theorem dX11_annul_8 : decode cX11_annul 8 = .ok (.goto 12, 3) := by decide +kernel
theorem dX11_annul_11 : decode cX11_annul 11 = .ok (.aload_n 0, 1) := by decide +kernel
theorem dX11_annul_12 : decode cX11_annul 12 = .ok (.getfield 58, 3) := by decide +kernel
theorem dX11_annul_15 : decode cX11_annul 15 = .ok (.bipush 13, 2) := by decide +kernel
theorem dX11_annul_17 : decode cX11_annul 17 = .ok (.iaload, 1) := by decide +kernel
theorem dX11_annul_18 : decode cX11_annul 18 = .ok (.iconst 1, 1) := by decide +kernel
theorem dX11_annul_19 : decode cX11_annul 19 = .ok (.isub, 1) := by decide +kernel
theorem dX11_annul_20 : decode cX11_annul 20 = .ok (.istore_n 1, 1) := by decide +kernel
theorem dX11_annul_21 : decode cX11_annul 21 = .ok (.aload_n 0, 1) := by decide +kernel
theorem dX11_annul_22 : decode cX11_annul 22 = .ok (.aload_n 0, 1) := by decide +kernel
theorem dX11_annul_23 : decode cX11_annul 23 = .ok (.getfield 235, 3) := by decide +kernel
theorem dX11_annul_26 : decode cX11_annul 26 = .ok (.ifCond .ne 7, 3) := by decide +kernel
theorem dX11_annul_29 : decode cX11_annul 29 = .ok (.iconst 0, 1) := by decide +kernel
theorem dX11_annul_30 : decode cX11_annul 30 = .ok (.goto 33, 3) := by decide +kernel
theorem dX11_annul_33 : decode cX11_annul 33 = .ok (.iload_n 1, 1) := by decide +kernel
theorem dX11_annul_34 : decode cX11_annul 34 = .ok (.iconst (-1), 1) := by decide +kernel
theorem dX11_annul_35 : decode cX11_annul 35 = .ok (.if_icmp .ne 7, 3) := by decide +kernel
theorem dX11_annul_38 : decode cX11_annul 38 = .ok (.iconst 3, 1) := by decide +kernel
theorem dX11_annul_39 : decode cX11_annul 39 = .ok (.goto 24, 3) := by decide +kernel
theorem dX11_annul_42 : decode cX11_annul 42 = .ok (.aload_n 0, 1) := by decide +kernel
theorem dX11_annul_43 : decode cX11_annul 43 = .ok (.iload_n 1, 1) := by decide +kernel
theorem dX11_annul_44 : decode cX11_annul 44 = .ok (.invokevirtual 310, 3) := by decide +kernel
theorem dX11_annul_47 : decode cX11_annul 47 = .ok (.aload_n 0, 1) := by decide +kernel
theorem dX11_annul_48 : decode cX11_annul 48 = .ok (.iload_n 1, 1) := by decide +kernel
theorem dX11_annul_49 : decode cX11_annul 49 = .ok (.iconst 0, 1) := by decide +kernel
theorem dX11_annul_50 : decode cX11_annul 50 = .ok (.invokevirtual 241, 3) := by decide +kernel
theorem dX11_annul_53 : decode cX11_annul 53 = .ok (.isub, 1) := by decide +kernel
theorem dX11_annul_54 : decode cX11_annul 54 = .ok (.iconst 3, 1) := by decide +kernel
theorem dX11_annul_55 : decode cX11_annul 55 = .ok (.if_icmp .ge 7, 3) := by decide +kernel
theorem dX11_annul_58 : decode cX11_annul 58 = .ok (.iconst 4, 1) := by decide +kernel
theorem dX11_annul_59 : decode cX11_annul 59 = .ok (.goto 4, 3) := by decide +kernel
theorem dX11_annul_62 : decode cX11_annul 62 = .ok (.iconst (-1), 1) := by decide +kernel
theorem dX11_annul_63 : decode cX11_annul 63 = .ok (.invokevirtual 295, 3) := by decide +kernel
theorem dX11_annul_66 : decode cX11_annul 66 = .ok (.ifCond .eq 5, 3) := by decide +kernel
theorem dX11_annul_69 : decode cX11_annul 69 = .ok (.iconst (-1), 1) := by decide +kernel
theorem dX11_annul_70 : decode cX11_annul 70 = .ok (.ireturn, 1) := by decide +kernel
theorem dX11_annul_71 : decode cX11_annul 71 = .ok (.aload_n 0, 1) := by decide +kernel
theorem dX11_annul_72 : decode cX11_annul 72 = .ok (.invokevirtual 298, 3) := by decide +kernel
theorem dX11_annul_75 : decode cX11_annul 75 = .ok (.aload_n 0, 1) := by decide +kernel
theorem dX11_annul_76 : decode cX11_annul 76 = .ok (.getfield 58, 3) := by decide +kernel
theorem dX11_annul_79 : decode cX11_annul 79 = .ok (.bipush 13, 2) := by decide +kernel
theorem dX11_annul_81 : decode cX11_annul 81 = .ok (.iconst 0, 1) := by decide +kernel
theorem dX11_annul_82 : decode cX11_annul 82 = .ok (.iastore, 1) := by decide +kernel
theorem dX11_annul_83 : decode cX11_annul 83 = .ok (.iload_n 1, 1) := by decide +kernel
theorem dX11_annul_84 : decode cX11_annul 84 = .ok (.ireturn, 1) := by decide +kernel
theorem dX11_passMonth_0 : decode cX11_passMonth 0 = .ok (.aload_n 0, 1) := by decide +kernel
theorem dX11_passMonth_1 : decode cX11_passMonth 1 = .ok (.getfield 58, 3) := by decide +kernel
theorem dX11_passMonth_4 : decode cX11_passMonth 4 = .ok (.bipush 15, 2) := by decide +kernel
theorem dX11_passMonth_6 : decode cX11_passMonth 6 = .ok (.dup2, 1) := by decide +kernel
theorem dX11_passMonth_7 : decode cX11_passMonth 7 = .ok (.iaload, 1) := by decide +kernel
theorem dX11_passMonth_8 : decode cX11_passMonth 8 = .ok (.iconst 1, 1) := by decide +kernel
theorem dX11_passMonth_9 : decode cX11_passMonth 9 = .ok (.iadd, 1) := by decide +kernel
theorem dX11_passMonth_10 : decode cX11_passMonth 10 = .ok (.iastore, 1) := by decide +kernel
theorem dX11_passMonth_11 : decode cX11_passMonth 11 = .ok (.aload_n 0, 1) := by decide +kernel
theorem dX11_passMonth_12 : decode cX11_passMonth 12 = .ok (.getfield 58, 3) := by decide +kernel
theorem dX11_passMonth_15 : decode cX11_passMonth 15 = .ok (.bipush 14, 2) := by decide +kernel
theorem dX11_passMonth_17 : decode cX11_passMonth 17 = .ok (.sipush 999, 3) := by decide +kernel
theorem dX11_passMonth_20 : decode cX11_passMonth 20 = .ok (.aload_n 0, 1) := by decide +kernel
theorem dX11_passMonth_21 : decode cX11_passMonth 21 = .ok (.getfield 58, 3) := by decide +kernel
theorem dX11_passMonth_24 : decode cX11_passMonth 24 = .ok (.bipush 14, 2) := by decide +kernel
theorem dX11_passMonth_26 : decode cX11_passMonth 26 = .ok (.iaload, 1) := by decide +kernel
theorem dX11_passMonth_27 : decode cX11_passMonth 27 = .ok (.iconst 1, 1) := by decide +kernel
theorem dX11_passMonth_28 : decode cX11_passMonth 28 = .ok (.iadd, 1) := by decide +kernel
theorem dX11_passMonth_29 : decode cX11_passMonth 29 = .ok (.invokestatic 274, 3) := by decide +kernel
theorem dX11_passMonth_32 : decode cX11_passMonth 32 = .ok (.iastore, 1) := by decide +kernel
theorem dX11_passMonth_33 : decode cX11_passMonth 33 = .ok (.return_, 1) := by decide +kernel
theorem dX11_areMonths_0 : decode cX11_areMonths 0 = .ok (.iload_n 1, 1) := by decide +kernel
theorem dX11_areMonths_1 : decode cX11_areMonths 1 = .ok (.iconst 1, 1) := by decide +kernel
theorem dX11_areMonths_2 : decode cX11_areMonths 2 = .ok (.bipush 60, 2) := by decide +kernel
theorem dX11_areMonths_4 : decode cX11_areMonths 4 = .ok (.invokestatic 198, 3) := by decide +kernel
theorem dX11_areMonths_7 : decode cX11_areMonths 7 = .ok (.ifCond .eq 22, 3) := by decide +kernel
theorem dX11_areMonths_10 : decode cX11_areMonths 10 = .ok (.aload_n 0, 1) := by decide +kernel
theorem dX11_areMonths_11 : decode cX11_areMonths 11 = .ok (.getfield 58, 3) := by decide +kernel
theorem dX11_areMonths_14 : decode cX11_areMonths 14 = .ok (.bipush 15, 2) := by decide +kernel
theorem dX11_areMonths_16 : decode cX11_areMonths 16 = .ok (.iaload, 1) := by decide +kernel
theorem dX11_areMonths_17 : decode cX11_areMonths 17 = .ok (.iload_n 1, 1) := by decide +kernel
theorem dX11_areMonths_18 : decode cX11_areMonths 18 = .ok (.iadd, 1) := by decide +kernel
theorem dX11_areMonths_19 : decode cX11_areMonths 19 = .ok (.sipush 999, 3) := by decide +kernel
theorem dX11_areMonths_22 : decode cX11_areMonths 22 = .ok (.if_icmp .gt 7, 3) := by decide +kernel
theorem dX11_areMonths_25 : decode cX11_areMonths 25 = .ok (.iconst 1, 1) := by decide +kernel
theorem dX11_areMonths_26 : decode cX11_areMonths 26 = .ok (.goto 4, 3) := by decide +kernel
theorem dX11_areMonths_29 : decode cX11_areMonths 29 = .ok (.iconst 0, 1) := by decide +kernel
theorem dX11_areMonths_30 : decode cX11_areMonths 30 = .ok (.ireturn, 1) := by decide +kernel
theorem dX11_months_0 : decode cX11_months 0 = .ok (.aload_n 0, 1) := by decide +kernel
theorem dX11_months_1 : decode cX11_months 1 = .ok (.aload_n 0, 1) := by decide +kernel
theorem dX11_months_2 : decode cX11_months 2 = .ok (.getfield 235, 3) := by decide +kernel
theorem dX11_months_5 : decode cX11_months 5 = .ok (.ifCond .ne 7, 3) := by decide +kernel
theorem dX11_months_8 : decode cX11_months 8 = .ok (.iconst 0, 1) := by decide +kernel
theorem dX11_months_9 : decode cX11_months 9 = .ok (.goto 30, 3) := by decide +kernel
theorem dX11_months_12 : decode cX11_months 12 = .ok (.iload_n 1, 1) := by decide +kernel
theorem dX11_months_13 : decode cX11_months 13 = .ok (.iconst 1, 1) := by decide +kernel
theorem dX11_months_14 : decode cX11_months 14 = .ok (.bipush 60, 2) := by decide +kernel
theorem dX11_months_16 : decode cX11_months 16 = .ok (.invokestatic 198, 3) := by decide +kernel
theorem dX11_months_19 : decode cX11_months 19 = .ok (.ifCond .ne 7, 3) := by decide +kernel
theorem dX11_months_22 : decode cX11_months 22 = .ok (.iconst 1, 1) := by decide +kernel
theorem dX11_months_23 : decode cX11_months 23 = .ok (.goto 16, 3) := by decide +kernel
theorem dX11_months_26 : decode cX11_months 26 = .ok (.aload_n 0, 1) := by decide +kernel
theorem dX11_months_27 : decode cX11_months 27 = .ok (.iload_n 1, 1) := by decide +kernel
theorem dX11_months_28 : decode cX11_months 28 = .ok (.invokevirtual 313, 3) := by decide +kernel
theorem dX11_months_31 : decode cX11_months 31 = .ok (.ifCond .ne 7, 3) := by decide +kernel
theorem dX11_months_34 : decode cX11_months 34 = .ok (.iconst 4, 1) := by decide +kernel
theorem dX11_months_35 : decode cX11_months 35 = .ok (.goto 4, 3) := by decide +kernel
theorem dX11_months_38 : decode cX11_months 38 = .ok (.iconst (-1), 1) := by decide +kernel
theorem dX11_months_39 : decode cX11_months 39 = .ok (.invokevirtual 295, 3) := by decide +kernel
theorem dX11_months_42 : decode cX11_months 42 = .ok (.ifCond .eq 5, 3) := by decide +kernel
theorem dX11_months_45 : decode cX11_months 45 = .ok (.iconst (-1), 1) := by decide +kernel
theorem dX11_months_46 : decode cX11_months 46 = .ok (.ireturn, 1) := by decide +kernel
theorem dX11_months_47 : decode cX11_months 47 = .ok (.iconst 0, 1) := by decide +kernel
theorem dX11_months_48 : decode cX11_months 48 = .ok (.istore_n 2, 1) := by decide +kernel
theorem dX11_months_49 : decode cX11_months 49 = .ok (.iload_n 2, 1) := by decide +kernel
theorem dX11_months_50 : decode cX11_months 50 = .ok (.iload_n 1, 1) := by decide +kernel
theorem dX11_months_51 : decode cX11_months 51 = .ok (.if_icmp .ge 17, 3) := by decide +kernel
theorem dX11_months_54 : decode cX11_months 54 = .ok (.aload_n 0, 1) := by decide +kernel
theorem dX11_months_55 : decode cX11_months 55 = .ok (.invokevirtual 298, 3) := by decide +kernel
theorem dX11_months_58 : decode cX11_months 58 = .ok (.aload_n 0, 1) := by decide +kernel
theorem dX11_months_59 : decode cX11_months 59 = .ok (.invokevirtual 316, 3) := by decide +kernel
theorem dX11_months_62 : decode cX11_months 62 = .ok (.iinc 2 1, 3) := by decide +kernel
theorem dX11_months_65 : decode cX11_months 65 = .ok (.goto (-16), 3) := by decide +kernel
theorem dX11_months_68 : decode cX11_months 68 = .ok (.aload_n 0, 1) := by decide +kernel
theorem dX11_months_69 : decode cX11_months 69 = .ok (.getfield 58, 3) := by decide +kernel
theorem dX11_months_72 : decode cX11_months 72 = .ok (.bipush 15, 2) := by decide +kernel
theorem dX11_months_74 : decode cX11_months 74 = .ok (.iaload, 1) := by decide +kernel
theorem dX11_months_75 : decode cX11_months 75 = .ok (.ireturn, 1) := by decide +kernel
theorem dX11_bribes_0 : decode cX11_bribes 0 = .ok (.iload_n 1, 1) := by decide +kernel
theorem dX11_bribes_1 : decode cX11_bribes 1 = .ok (.iconst 0, 1) := by decide +kernel
theorem dX11_bribes_2 : decode cX11_bribes 2 = .ok (.bipush 9, 2) := by decide +kernel
theorem dX11_bribes_4 : decode cX11_bribes 4 = .ok (.invokestatic 198, 3) := by decide +kernel
theorem dX11_bribes_7 : decode cX11_bribes 7 = .ok (.ifCond .eq 11, 3) := by decide +kernel
theorem dX11_bribes_10 : decode cX11_bribes 10 = .ok (.iload_n 1, 1) := by decide +kernel
theorem dX11_bribes_11 : decode cX11_bribes 11 = .ok (.aload_n 0, 1) := by decide +kernel
theorem dX11_bribes_12 : decode cX11_bribes 12 = .ok (.getfield 319, 3) := by decide +kernel
theorem dX11_bribes_15 : decode cX11_bribes 15 = .ok (.if_icmp .ne 5, 3) := by decide +kernel
theorem dX11_bribes_18 : decode cX11_bribes 18 = .ok (.iconst 0, 1) := by decide +kernel
theorem dX11_bribes_19 : decode cX11_bribes 19 = .ok (.ireturn, 1) := by decide +kernel
theorem dX11_bribes_20 : decode cX11_bribes 20 = .ok (.aload_n 0, 1) := by decide +kernel
theorem dX11_bribes_21 : decode cX11_bribes 21 = .ok (.iload_n 1, 1) := by decide +kernel
theorem dX11_bribes_22 : decode cX11_bribes 22 = .ok (.putfield 319, 3) := by decide +kernel
theorem dX11_bribes_25 : decode cX11_bribes 25 = .ok (.iconst 1, 1) := by decide +kernel
theorem dX11_bribes_26 : decode cX11_bribes 26 = .ok (.ireturn, 1) := by decide +kernel
theorem dX11_draw_0 : decode cX11_draw 0 = .ok (.aload_n 0, 1) := by decide +kernel
theorem dX11_draw_1 : decode cX11_draw 1 = .ok (.aload_n 0, 1) := by decide +kernel
theorem dX11_draw_2 : decode cX11_draw 2 = .ok (.getfield 322, 3) := by decide +kernel
theorem dX11_draw_5 : decode cX11_draw 5 = .ok (.ldc2_w 326, 3) := by decide +kernel
theorem dX11_draw_8 : decode cX11_draw 8 = .ok (.lmul, 1) := by decide +kernel
theorem dX11_draw_9 : decode cX11_draw 9 = .ok (.ldc2_w 328, 3) := by decide +kernel
theorem dX11_draw_12 : decode cX11_draw 12 = .ok (.ladd, 1) := by decide +kernel
theorem dX11_draw_13 : decode cX11_draw 13 = .ok (.putfield 322, 3) := by decide +kernel
theorem dX11_draw_16 : decode cX11_draw 16 = .ok (.aload_n 0, 1) := by decide +kernel
theorem dX11_draw_17 : decode cX11_draw 17 = .ok (.getfield 322, 3) := by decide +kernel
theorem dX11_draw_20 : decode cX11_draw 20 = .ok (.bipush 33, 2) := by decide +kernel
theorem dX11_draw_22 : decode cX11_draw 22 = .ok (.lushr, 1) := by decide +kernel
theorem dX11_draw_23 : decode cX11_draw 23 = .ok (.iload_n 1, 1) := by decide +kernel
theorem dX11_draw_24 : decode cX11_draw 24 = .ok (.i2l, 1) := by decide +kernel
theorem dX11_draw_25 : decode cX11_draw 25 = .ok (.lrem, 1) := by decide +kernel
theorem dX11_draw_26 : decode cX11_draw 26 = .ok (.l2i, 1) := by decide +kernel
theorem dX11_draw_27 : decode cX11_draw 27 = .ok (.ireturn, 1) := by decide +kernel
theorem dX11_drawMonth_0 : decode cX11_drawMonth 0 = .ok (.aload_n 0, 1) := by decide +kernel
theorem dX11_drawMonth_1 : decode cX11_drawMonth 1 = .ok (.aload_n 0, 1) := by decide +kernel
theorem dX11_drawMonth_2 : decode cX11_drawMonth 2 = .ok (.getfield 238, 3) := by decide +kernel
theorem dX11_drawMonth_5 : decode cX11_drawMonth 5 = .ok (.invokevirtual 330, 3) := by decide +kernel
theorem dX11_drawMonth_8 : decode cX11_drawMonth 8 = .ok (.istore_n 1, 1) := by decide +kernel
theorem dX11_drawMonth_9 : decode cX11_drawMonth 9 = .ok (.aload_n 0, 1) := by decide +kernel
theorem dX11_drawMonth_10 : decode cX11_drawMonth 10 = .ok (.aload_n 0, 1) := by decide +kernel
theorem dX11_drawMonth_11 : decode cX11_drawMonth 11 = .ok (.getfield 235, 3) := by decide +kernel
theorem dX11_drawMonth_14 : decode cX11_drawMonth 14 = .ok (.invokevirtual 330, 3) := by decide +kernel
theorem dX11_drawMonth_17 : decode cX11_drawMonth 17 = .ok (.istore_n 2, 1) := by decide +kernel
theorem dX11_drawMonth_18 : decode cX11_drawMonth 18 = .ok (.aload_n 0, 1) := by decide +kernel
theorem dX11_drawMonth_19 : decode cX11_drawMonth 19 = .ok (.getfield 58, 3) := by decide +kernel
theorem dX11_drawMonth_22 : decode cX11_drawMonth 22 = .ok (.bipush 14, 2) := by decide +kernel
theorem dX11_drawMonth_24 : decode cX11_drawMonth 24 = .ok (.iaload, 1) := by decide +kernel
theorem dX11_drawMonth_25 : decode cX11_drawMonth 25 = .ok (.aload_n 0, 1) := by decide +kernel
theorem dX11_drawMonth_26 : decode cX11_drawMonth 26 = .ok (.iload_n 1, 1) := by decide +kernel
theorem dX11_drawMonth_27 : decode cX11_drawMonth 27 = .ok (.iconst 1, 1) := by decide +kernel
theorem dX11_drawMonth_28 : decode cX11_drawMonth 28 = .ok (.invokevirtual 244, 3) := by decide +kernel
theorem dX11_drawMonth_31 : decode cX11_drawMonth 31 = .ok (.if_icmp .lt 22, 3) := by decide +kernel
theorem dX11_drawMonth_34 : decode cX11_drawMonth 34 = .ok (.aload_n 0, 1) := by decide +kernel
theorem dX11_drawMonth_35 : decode cX11_drawMonth 35 = .ok (.getfield 58, 3) := by decide +kernel
theorem dX11_drawMonth_38 : decode cX11_drawMonth 38 = .ok (.bipush 16, 2) := by decide +kernel
theorem dX11_drawMonth_40 : decode cX11_drawMonth 40 = .ok (.iaload, 1) := by decide +kernel
theorem dX11_drawMonth_41 : decode cX11_drawMonth 41 = .ok (.bipush 20, 2) := by decide +kernel
theorem dX11_drawMonth_43 : decode cX11_drawMonth 43 = .ok (.if_icmp .ge 10, 3) := by decide +kernel
theorem dX11_drawMonth_46 : decode cX11_drawMonth 46 = .ok (.aload_n 0, 1) := by decide +kernel
theorem dX11_drawMonth_47 : decode cX11_drawMonth 47 = .ok (.iload_n 1, 1) := by decide +kernel
theorem dX11_drawMonth_48 : decode cX11_drawMonth 48 = .ok (.iload_n 2, 1) := by decide +kernel
theorem dX11_drawMonth_49 : decode cX11_drawMonth 49 = .ok (.invokevirtual 301, 3) := by decide +kernel
theorem dX11_drawMonth_52 : decode cX11_drawMonth 52 = .ok (.pop, 1) := by decide +kernel
theorem dX11_drawMonth_53 : decode cX11_drawMonth 53 = .ok (.aload_n 0, 1) := by decide +kernel
theorem dX11_drawMonth_54 : decode cX11_drawMonth 54 = .ok (.bipush 10, 2) := by decide +kernel
theorem dX11_drawMonth_56 : decode cX11_drawMonth 56 = .ok (.invokevirtual 330, 3) := by decide +kernel
theorem dX11_drawMonth_59 : decode cX11_drawMonth 59 = .ok (.aload_n 0, 1) := by decide +kernel
theorem dX11_drawMonth_60 : decode cX11_drawMonth 60 = .ok (.getfield 319, 3) := by decide +kernel
theorem dX11_drawMonth_63 : decode cX11_drawMonth 63 = .ok (.if_icmp .ge 35, 3) := by decide +kernel
theorem dX11_drawMonth_66 : decode cX11_drawMonth 66 = .ok (.aload_n 0, 1) := by decide +kernel
theorem dX11_drawMonth_67 : decode cX11_drawMonth 67 = .ok (.aload_n 0, 1) := by decide +kernel
theorem dX11_drawMonth_68 : decode cX11_drawMonth 68 = .ok (.getfield 235, 3) := by decide +kernel
theorem dX11_drawMonth_71 : decode cX11_drawMonth 71 = .ok (.invokevirtual 330, 3) := by decide +kernel
theorem dX11_drawMonth_74 : decode cX11_drawMonth 74 = .ok (.istore_n 3, 1) := by decide +kernel
theorem dX11_drawMonth_75 : decode cX11_drawMonth 75 = .ok (.aload_n 0, 1) := by decide +kernel
theorem dX11_drawMonth_76 : decode cX11_drawMonth 76 = .ok (.getfield 58, 3) := by decide +kernel
theorem dX11_drawMonth_79 : decode cX11_drawMonth 79 = .ok (.iconst 0, 1) := by decide +kernel
theorem dX11_drawMonth_80 : decode cX11_drawMonth 80 = .ok (.iload_n 3, 1) := by decide +kernel
theorem dX11_drawMonth_81 : decode cX11_drawMonth 81 = .ok (.iadd, 1) := by decide +kernel
theorem dX11_drawMonth_82 : decode cX11_drawMonth 82 = .ok (.bipush 9, 2) := by decide +kernel
theorem dX11_drawMonth_84 : decode cX11_drawMonth 84 = .ok (.aload_n 0, 1) := by decide +kernel
theorem dX11_drawMonth_85 : decode cX11_drawMonth 85 = .ok (.getfield 58, 3) := by decide +kernel
theorem dX11_drawMonth_88 : decode cX11_drawMonth 88 = .ok (.iconst 0, 1) := by decide +kernel
theorem dX11_drawMonth_89 : decode cX11_drawMonth 89 = .ok (.iload_n 3, 1) := by decide +kernel
theorem dX11_drawMonth_90 : decode cX11_drawMonth 90 = .ok (.iadd, 1) := by decide +kernel
theorem dX11_drawMonth_91 : decode cX11_drawMonth 91 = .ok (.iaload, 1) := by decide +kernel
theorem dX11_drawMonth_92 : decode cX11_drawMonth 92 = .ok (.iconst 1, 1) := by decide +kernel
theorem dX11_drawMonth_93 : decode cX11_drawMonth 93 = .ok (.iadd, 1) := by decide +kernel
theorem dX11_drawMonth_94 : decode cX11_drawMonth 94 = .ok (.invokestatic 274, 3) := by decide +kernel
theorem dX11_drawMonth_97 : decode cX11_drawMonth 97 = .ok (.iastore, 1) := by decide +kernel
theorem dX11_drawMonth_98 : decode cX11_drawMonth 98 = .ok (.return_, 1) := by decide +kernel
theorem dX11_decades_0 : decode cX11_decades 0 = .ok (.aload_n 0, 1) := by decide +kernel
theorem dX11_decades_1 : decode cX11_decades 1 = .ok (.getfield 235, 3) := by decide +kernel
theorem dX11_decades_4 : decode cX11_decades 4 = .ok (.ifCond .eq 11, 3) := by decide +kernel
theorem dX11_decades_7 : decode cX11_decades 7 = .ok (.aload_n 0, 1) := by decide +kernel
theorem dX11_decades_8 : decode cX11_decades 8 = .ok (.iload_n 1, 1) := by decide +kernel
theorem dX11_decades_9 : decode cX11_decades 9 = .ok (.invokevirtual 313, 3) := by decide +kernel
theorem dX11_decades_12 : decode cX11_decades 12 = .ok (.ifCond .ne 5, 3) := by decide +kernel
theorem dX11_decades_15 : decode cX11_decades 15 = .ok (.iconst (-1), 1) := by decide +kernel
theorem dX11_decades_16 : decode cX11_decades 16 = .ok (.ireturn, 1) := by decide +kernel
theorem dX11_decades_17 : decode cX11_decades 17 = .ok (.aload_n 0, 1) := by decide +kernel
theorem dX11_decades_18 : decode cX11_decades 18 = .ok (.lload_n 2, 1) := by decide +kernel
theorem dX11_decades_19 : decode cX11_decades 19 = .ok (.putfield 322, 3) := by decide +kernel
theorem dX11_decades_22 : decode cX11_decades 22 = .ok (.iconst 0, 1) := by decide +kernel
theorem dX11_decades_23 : decode cX11_decades 23 = .ok (.istore 4, 2) := by decide +kernel
theorem dX11_decades_25 : decode cX11_decades 25 = .ok (.iload 4, 2) := by decide +kernel
theorem dX11_decades_27 : decode cX11_decades 27 = .ok (.iload_n 1, 1) := by decide +kernel
theorem dX11_decades_28 : decode cX11_decades 28 = .ok (.if_icmp .ge 21, 3) := by decide +kernel
theorem dX11_decades_31 : decode cX11_decades 31 = .ok (.aload_n 0, 1) := by decide +kernel
theorem dX11_decades_32 : decode cX11_decades 32 = .ok (.invokevirtual 298, 3) := by decide +kernel
theorem dX11_decades_35 : decode cX11_decades 35 = .ok (.aload_n 0, 1) := by decide +kernel
theorem dX11_decades_36 : decode cX11_decades 36 = .ok (.invokevirtual 333, 3) := by decide +kernel
theorem dX11_decades_39 : decode cX11_decades 39 = .ok (.aload_n 0, 1) := by decide +kernel
theorem dX11_decades_40 : decode cX11_decades 40 = .ok (.invokevirtual 316, 3) := by decide +kernel
theorem dX11_decades_43 : decode cX11_decades 43 = .ok (.iinc 4 1, 3) := by decide +kernel
theorem dX11_decades_46 : decode cX11_decades 46 = .ok (.goto (-21), 3) := by decide +kernel
theorem dX11_decades_49 : decode cX11_decades 49 = .ok (.aload_n 0, 1) := by decide +kernel
theorem dX11_decades_50 : decode cX11_decades 50 = .ok (.getfield 58, 3) := by decide +kernel
theorem dX11_decades_53 : decode cX11_decades 53 = .ok (.bipush 15, 2) := by decide +kernel
theorem dX11_decades_55 : decode cX11_decades 55 = .ok (.iaload, 1) := by decide +kernel
theorem dX11_decades_56 : decode cX11_decades 56 = .ok (.ireturn, 1) := by decide +kernel
theorem dX11_status_0 : decode cX11_status 0 = .ok (.iload_n 1, 1) := by decide +kernel
theorem dX11_status_1 : decode cX11_status 1 = .ok (.iconst 0, 1) := by decide +kernel
theorem dX11_status_2 : decode cX11_status 2 = .ok (.iconst 4, 1) := by decide +kernel
theorem dX11_status_3 : decode cX11_status 3 = .ok (.invokestatic 198, 3) := by decide +kernel
theorem dX11_status_6 : decode cX11_status 6 = .ok (.ifCond .eq 12, 3) := by decide +kernel
theorem dX11_status_9 : decode cX11_status 9 = .ok (.aload_n 0, 1) := by decide +kernel
theorem dX11_status_10 : decode cX11_status 10 = .ok (.getfield 61, 3) := by decide +kernel
theorem dX11_status_13 : decode cX11_status 13 = .ok (.iload_n 1, 1) := by decide +kernel
theorem dX11_status_14 : decode cX11_status 14 = .ok (.iaload, 1) := by decide +kernel
theorem dX11_status_15 : decode cX11_status 15 = .ok (.goto 4, 3) := by decide +kernel
theorem dX11_status_18 : decode cX11_status 18 = .ok (.iconst (-1), 1) := by decide +kernel
theorem dX11_status_19 : decode cX11_status 19 = .ok (.ireturn, 1) := by decide +kernel
theorem dX11_undo_0 : decode cX11_undo 0 = .ok (.aload_n 0, 1) := by decide +kernel
theorem dX11_undo_1 : decode cX11_undo 1 = .ok (.getfield 247, 3) := by decide +kernel
theorem dX11_undo_4 : decode cX11_undo 4 = .ok (.ifCond .ne 5, 3) := by decide +kernel
theorem dX11_undo_7 : decode cX11_undo 7 = .ok (.iconst (-1), 1) := by decide +kernel
theorem dX11_undo_8 : decode cX11_undo 8 = .ok (.ireturn, 1) := by decide +kernel
theorem dX11_undo_9 : decode cX11_undo 9 = .ok (.aload_n 0, 1) := by decide +kernel
theorem dX11_undo_10 : decode cX11_undo 10 = .ok (.dup, 1) := by decide +kernel
theorem dX11_undo_11 : decode cX11_undo 11 = .ok (.getfield 247, 3) := by decide +kernel
theorem dX11_undo_14 : decode cX11_undo 14 = .ok (.iconst 1, 1) := by decide +kernel
theorem dX11_undo_15 : decode cX11_undo 15 = .ok (.isub, 1) := by decide +kernel
theorem dX11_undo_16 : decode cX11_undo 16 = .ok (.putfield 247, 3) := by decide +kernel
theorem dX11_undo_19 : decode cX11_undo 19 = .ok (.iconst 0, 1) := by decide +kernel
theorem dX11_undo_20 : decode cX11_undo 20 = .ok (.istore_n 1, 1) := by decide +kernel
theorem dX11_undo_21 : decode cX11_undo 21 = .ok (.iload_n 1, 1) := by decide +kernel
theorem dX11_undo_22 : decode cX11_undo 22 = .ok (.bipush 97, 2) := by decide +kernel
theorem dX11_undo_24 : decode cX11_undo 24 = .ok (.if_icmp .ge 29, 3) := by decide +kernel
theorem dX11_undo_27 : decode cX11_undo 27 = .ok (.aload_n 0, 1) := by decide +kernel
theorem dX11_undo_28 : decode cX11_undo 28 = .ok (.getfield 58, 3) := by decide +kernel
theorem dX11_undo_31 : decode cX11_undo 31 = .ok (.iload_n 1, 1) := by decide +kernel
theorem dX11_undo_32 : decode cX11_undo 32 = .ok (.aload_n 0, 1) := by decide +kernel
theorem dX11_undo_33 : decode cX11_undo 33 = .ok (.getfield 68, 3) := by decide +kernel
theorem dX11_undo_36 : decode cX11_undo 36 = .ok (.bipush 97, 2) := by decide +kernel
theorem dX11_undo_38 : decode cX11_undo 38 = .ok (.aload_n 0, 1) := by decide +kernel
theorem dX11_undo_39 : decode cX11_undo 39 = .ok (.getfield 247, 3) := by decide +kernel
theorem dX11_undo_42 : decode cX11_undo 42 = .ok (.imul, 1) := by decide +kernel
theorem dX11_undo_43 : decode cX11_undo 43 = .ok (.iload_n 1, 1) := by decide +kernel
theorem dX11_undo_44 : decode cX11_undo 44 = .ok (.iadd, 1) := by decide +kernel
theorem dX11_undo_45 : decode cX11_undo 45 = .ok (.iaload, 1) := by decide +kernel
theorem dX11_undo_46 : decode cX11_undo 46 = .ok (.iastore, 1) := by decide +kernel
theorem dX11_undo_47 : decode cX11_undo 47 = .ok (.iinc 1 1, 3) := by decide +kernel
theorem dX11_undo_50 : decode cX11_undo 50 = .ok (.goto (-29), 3) := by decide +kernel
theorem dX11_undo_53 : decode cX11_undo 53 = .ok (.aload_n 0, 1) := by decide +kernel
theorem dX11_undo_54 : decode cX11_undo 54 = .ok (.getfield 247, 3) := by decide +kernel
theorem dX11_undo_57 : decode cX11_undo 57 = .ok (.ireturn, 1) := by decide +kernel
theorem dX11_portrait_0 : decode cX11_portrait 0 = .ok (.iload_n 1, 1) := by decide +kernel
theorem dX11_portrait_1 : decode cX11_portrait 1 = .ok (.iconst 0, 1) := by decide +kernel
theorem dX11_portrait_2 : decode cX11_portrait 2 = .ok (.aload_n 0, 1) := by decide +kernel
theorem dX11_portrait_3 : decode cX11_portrait 3 = .ok (.getfield 58, 3) := by decide +kernel
theorem dX11_portrait_6 : decode cX11_portrait 6 = .ok (.bipush 16, 2) := by decide +kernel
theorem dX11_portrait_8 : decode cX11_portrait 8 = .ok (.iaload, 1) := by decide +kernel
theorem dX11_portrait_9 : decode cX11_portrait 9 = .ok (.iconst 1, 1) := by decide +kernel
theorem dX11_portrait_10 : decode cX11_portrait 10 = .ok (.isub, 1) := by decide +kernel
theorem dX11_portrait_11 : decode cX11_portrait 11 = .ok (.invokestatic 198, 3) := by decide +kernel
theorem dX11_portrait_14 : decode cX11_portrait 14 = .ok (.ifCond .eq 31, 3) := by decide +kernel
theorem dX11_portrait_17 : decode cX11_portrait 17 = .ok (.iload_n 2, 1) := by decide +kernel
theorem dX11_portrait_18 : decode cX11_portrait 18 = .ok (.iconst 0, 1) := by decide +kernel
theorem dX11_portrait_19 : decode cX11_portrait 19 = .ok (.iconst 3, 1) := by decide +kernel
theorem dX11_portrait_20 : decode cX11_portrait 20 = .ok (.invokestatic 198, 3) := by decide +kernel
theorem dX11_portrait_23 : decode cX11_portrait 23 = .ok (.ifCond .eq 22, 3) := by decide +kernel
theorem dX11_portrait_26 : decode cX11_portrait 26 = .ok (.aload_n 0, 1) := by decide +kernel
theorem dX11_portrait_27 : decode cX11_portrait 27 = .ok (.aload_n 0, 1) := by decide +kernel
theorem dX11_portrait_28 : decode cX11_portrait 28 = .ok (.getfield 58, 3) := by decide +kernel
theorem dX11_portrait_31 : decode cX11_portrait 31 = .ok (.bipush 16, 2) := by decide +kernel
theorem dX11_portrait_33 : decode cX11_portrait 33 = .ok (.iaload, 1) := by decide +kernel
theorem dX11_portrait_34 : decode cX11_portrait 34 = .ok (.iconst 1, 1) := by decide +kernel
theorem dX11_portrait_35 : decode cX11_portrait 35 = .ok (.isub, 1) := by decide +kernel
theorem dX11_portrait_36 : decode cX11_portrait 36 = .ok (.iload_n 1, 1) := by decide +kernel
theorem dX11_portrait_37 : decode cX11_portrait 37 = .ok (.isub, 1) := by decide +kernel
theorem dX11_portrait_38 : decode cX11_portrait 38 = .ok (.iload_n 2, 1) := by decide +kernel
theorem dX11_portrait_39 : decode cX11_portrait 39 = .ok (.invokevirtual 276, 3) := by decide +kernel
theorem dX11_portrait_42 : decode cX11_portrait 42 = .ok (.goto 4, 3) := by decide +kernel
theorem dX11_portrait_45 : decode cX11_portrait 45 = .ok (.iconst (-1), 1) := by decide +kernel
theorem dX11_portrait_46 : decode cX11_portrait 46 = .ok (.ireturn, 1) := by decide +kernel
theorem dX11_fitsFace_0 : decode cX11_fitsFace 0 = .ok (.aload_n 0, 1) := by decide +kernel
theorem dX11_fitsFace_1 : decode cX11_fitsFace 1 = .ok (.getfield 58, 3) := by decide +kernel
theorem dX11_fitsFace_4 : decode cX11_fitsFace 4 = .ok (.bipush 11, 2) := by decide +kernel
theorem dX11_fitsFace_6 : decode cX11_fitsFace 6 = .ok (.iaload, 1) := by decide +kernel
theorem dX11_fitsFace_7 : decode cX11_fitsFace 7 = .ok (.iload_n 1, 1) := by decide +kernel
theorem dX11_fitsFace_8 : decode cX11_fitsFace 8 = .ok (.invokestatic 209, 3) := by decide +kernel
theorem dX11_fitsFace_11 : decode cX11_fitsFace 11 = .ok (.ifCond .eq 31, 3) := by decide +kernel
theorem dX11_fitsFace_14 : decode cX11_fitsFace 14 = .ok (.iload_n 2, 1) := by decide +kernel
theorem dX11_fitsFace_15 : decode cX11_fitsFace 15 = .ok (.iconst 5, 1) := by decide +kernel
theorem dX11_fitsFace_16 : decode cX11_fitsFace 16 = .ok (.if_icmp .lt 7, 3) := by decide +kernel
theorem dX11_fitsFace_19 : decode cX11_fitsFace 19 = .ok (.iconst 1, 1) := by decide +kernel
theorem dX11_fitsFace_20 : decode cX11_fitsFace 20 = .ok (.goto 4, 3) := by decide +kernel
theorem dX11_fitsFace_23 : decode cX11_fitsFace 23 = .ok (.iconst 0, 1) := by decide +kernel
theorem dX11_fitsFace_24 : decode cX11_fitsFace 24 = .ok (.aload_n 0, 1) := by decide +kernel
theorem dX11_fitsFace_25 : decode cX11_fitsFace 25 = .ok (.iload_n 1, 1) := by decide +kernel
theorem dX11_fitsFace_26 : decode cX11_fitsFace 26 = .ok (.iconst 0, 1) := by decide +kernel
theorem dX11_fitsFace_27 : decode cX11_fitsFace 27 = .ok (.invokevirtual 241, 3) := by decide +kernel
theorem dX11_fitsFace_30 : decode cX11_fitsFace 30 = .ok (.iconst 5, 1) := by decide +kernel
theorem dX11_fitsFace_31 : decode cX11_fitsFace 31 = .ok (.if_icmp .lt 7, 3) := by decide +kernel
theorem dX11_fitsFace_34 : decode cX11_fitsFace 34 = .ok (.iconst 1, 1) := by decide +kernel
theorem dX11_fitsFace_35 : decode cX11_fitsFace 35 = .ok (.goto 4, 3) := by decide +kernel
theorem dX11_fitsFace_38 : decode cX11_fitsFace 38 = .ok (.iconst 0, 1) := by decide +kernel
theorem dX11_fitsFace_39 : decode cX11_fitsFace 39 = .ok (.if_icmp .ne 7, 3) := by decide +kernel
theorem dX11_fitsFace_42 : decode cX11_fitsFace 42 = .ok (.iconst 1, 1) := by decide +kernel
theorem dX11_fitsFace_43 : decode cX11_fitsFace 43 = .ok (.goto 4, 3) := by decide +kernel
theorem dX11_fitsFace_46 : decode cX11_fitsFace 46 = .ok (.iconst 0, 1) := by decide +kernel
theorem dX11_fitsFace_47 : decode cX11_fitsFace 47 = .ok (.istore_n 3, 1) := by decide +kernel
theorem dX11_fitsFace_48 : decode cX11_fitsFace 48 = .ok (.iload_n 3, 1) := by decide +kernel
theorem dX11_fitsFace_49 : decode cX11_fitsFace 49 = .ok (.ifCond .eq 35, 3) := by decide +kernel
theorem dX11_fitsFace_52 : decode cX11_fitsFace 52 = .ok (.aload_n 0, 1) := by decide +kernel
theorem dX11_fitsFace_53 : decode cX11_fitsFace 53 = .ok (.getfield 58, 3) := by decide +kernel
theorem dX11_fitsFace_56 : decode cX11_fitsFace 56 = .ok (.bipush 12, 2) := by decide +kernel
theorem dX11_fitsFace_58 : decode cX11_fitsFace 58 = .ok (.iaload, 1) := by decide +kernel
theorem dX11_fitsFace_59 : decode cX11_fitsFace 59 = .ok (.iload_n 1, 1) := by decide +kernel
theorem dX11_fitsFace_60 : decode cX11_fitsFace 60 = .ok (.invokestatic 209, 3) := by decide +kernel
theorem dX11_fitsFace_63 : decode cX11_fitsFace 63 = .ok (.ifCond .eq 17, 3) := by decide +kernel
theorem dX11_fitsFace_66 : decode cX11_fitsFace 66 = .ok (.iload_n 2, 1) := by decide +kernel
theorem dX11_fitsFace_67 : decode cX11_fitsFace 67 = .ok (.iconst 2, 1) := by decide +kernel
theorem dX11_fitsFace_68 : decode cX11_fitsFace 68 = .ok (.irem, 1) := by decide +kernel
theorem dX11_fitsFace_69 : decode cX11_fitsFace 69 = .ok (.aload_n 0, 1) := by decide +kernel
theorem dX11_fitsFace_70 : decode cX11_fitsFace 70 = .ok (.iload_n 1, 1) := by decide +kernel
theorem dX11_fitsFace_71 : decode cX11_fitsFace 71 = .ok (.iconst 0, 1) := by decide +kernel
theorem dX11_fitsFace_72 : decode cX11_fitsFace 72 = .ok (.invokevirtual 241, 3) := by decide +kernel
theorem dX11_fitsFace_75 : decode cX11_fitsFace 75 = .ok (.iconst 2, 1) := by decide +kernel
theorem dX11_fitsFace_76 : decode cX11_fitsFace 76 = .ok (.irem, 1) := by decide +kernel
theorem dX11_fitsFace_77 : decode cX11_fitsFace 77 = .ok (.if_icmp .ne 7, 3) := by decide +kernel
theorem dX11_fitsFace_80 : decode cX11_fitsFace 80 = .ok (.iconst 1, 1) := by decide +kernel
theorem dX11_fitsFace_81 : decode cX11_fitsFace 81 = .ok (.goto 4, 3) := by decide +kernel
theorem dX11_fitsFace_84 : decode cX11_fitsFace 84 = .ok (.iconst 0, 1) := by decide +kernel
theorem dX11_fitsFace_85 : decode cX11_fitsFace 85 = .ok (.ireturn, 1) := by decide +kernel
theorem dX11_fitsOf_0 : decode cX11_fitsOf 0 = .ok (.iconst 0, 1) := by decide +kernel
theorem dX11_fitsOf_1 : decode cX11_fitsOf 1 = .ok (.istore_n 2, 1) := by decide +kernel
theorem dX11_fitsOf_2 : decode cX11_fitsOf 2 = .ok (.iconst 0, 1) := by decide +kernel
theorem dX11_fitsOf_3 : decode cX11_fitsOf 3 = .ok (.istore_n 3, 1) := by decide +kernel
theorem dX11_fitsOf_4 : decode cX11_fitsOf 4 = .ok (.iload_n 3, 1) := by decide +kernel
theorem dX11_fitsOf_5 : decode cX11_fitsOf 5 = .ok (.bipush 10, 2) := by decide +kernel
theorem dX11_fitsOf_7 : decode cX11_fitsOf 7 = .ok (.if_icmp .ge 28, 3) := by decide +kernel
theorem dX11_fitsOf_10 : decode cX11_fitsOf 10 = .ok (.iload_n 2, 1) := by decide +kernel
theorem dX11_fitsOf_11 : decode cX11_fitsOf 11 = .ok (.aload_n 0, 1) := by decide +kernel
theorem dX11_fitsOf_12 : decode cX11_fitsOf 12 = .ok (.iload_n 1, 1) := by decide +kernel
theorem dX11_fitsOf_13 : decode cX11_fitsOf 13 = .ok (.iload_n 3, 1) := by decide +kernel
theorem dX11_fitsOf_14 : decode cX11_fitsOf 14 = .ok (.invokevirtual 336, 3) := by decide +kernel
theorem dX11_fitsOf_17 : decode cX11_fitsOf 17 = .ok (.ifCond .eq 9, 3) := by decide +kernel
theorem dX11_fitsOf_20 : decode cX11_fitsOf 20 = .ok (.iconst 1, 1) := by decide +kernel
theorem dX11_fitsOf_21 : decode cX11_fitsOf 21 = .ok (.iload_n 3, 1) := by decide +kernel
theorem dX11_fitsOf_22 : decode cX11_fitsOf 22 = .ok (.ishl, 1) := by decide +kernel
theorem dX11_fitsOf_23 : decode cX11_fitsOf 23 = .ok (.goto 4, 3) := by decide +kernel
theorem dX11_fitsOf_26 : decode cX11_fitsOf 26 = .ok (.iconst 0, 1) := by decide +kernel
theorem dX11_fitsOf_27 : decode cX11_fitsOf 27 = .ok (.ior, 1) := by decide +kernel
theorem dX11_fitsOf_28 : decode cX11_fitsOf 28 = .ok (.istore_n 2, 1) := by decide +kernel
theorem dX11_fitsOf_29 : decode cX11_fitsOf 29 = .ok (.iinc 3 1, 3) := by decide +kernel
theorem dX11_fitsOf_32 : decode cX11_fitsOf 32 = .ok (.goto (-28), 3) := by decide +kernel
theorem dX11_fitsOf_35 : decode cX11_fitsOf 35 = .ok (.iload_n 2, 1) := by decide +kernel
theorem dX11_fitsOf_36 : decode cX11_fitsOf 36 = .ok (.ireturn, 1) := by decide +kernel
theorem dX11_fits_0 : decode cX11_fits 0 = .ok (.aload_n 0, 1) := by decide +kernel
theorem dX11_fits_1 : decode cX11_fits 1 = .ok (.iload_n 1, 1) := by decide +kernel
theorem dX11_fits_2 : decode cX11_fits 2 = .ok (.invokevirtual 263, 3) := by decide +kernel
theorem dX11_fits_5 : decode cX11_fits 5 = .ok (.ifCond .eq 11, 3) := by decide +kernel
theorem dX11_fits_8 : decode cX11_fits 8 = .ok (.aload_n 0, 1) := by decide +kernel
theorem dX11_fits_9 : decode cX11_fits 9 = .ok (.iload_n 1, 1) := by decide +kernel
theorem dX11_fits_10 : decode cX11_fits 10 = .ok (.invokevirtual 339, 3) := by decide +kernel
theorem dX11_fits_13 : decode cX11_fits 13 = .ok (.goto 4, 3) := by decide +kernel
theorem dX11_fits_16 : decode cX11_fits 16 = .ok (.iconst (-1), 1) := by decide +kernel
theorem dX11_fits_17 : decode cX11_fits 17 = .ok (.ireturn, 1) := by decide +kernel
theorem dX11_weightOf_0 : decode cX11_weightOf 0 = .ok (.lconst 1, 1) := by decide +kernel
theorem dX11_weightOf_1 : decode cX11_weightOf 1 = .ok (.lstore_n 3, 1) := by decide +kernel
theorem dX11_weightOf_2 : decode cX11_weightOf 2 = .ok (.bipush 12, 2) := by decide +kernel
theorem dX11_weightOf_4 : decode cX11_weightOf 4 = .ok (.istore 5, 2) := by decide +kernel
theorem dX11_weightOf_6 : decode cX11_weightOf 6 = .ok (.aload_n 0, 1) := by decide +kernel
theorem dX11_weightOf_7 : decode cX11_weightOf 7 = .ok (.getfield 58, 3) := by decide +kernel
theorem dX11_weightOf_10 : decode cX11_weightOf 10 = .ok (.bipush 16, 2) := by decide +kernel
theorem dX11_weightOf_12 : decode cX11_weightOf 12 = .ok (.iaload, 1) := by decide +kernel
theorem dX11_weightOf_13 : decode cX11_weightOf 13 = .ok (.iconst 1, 1) := by decide +kernel
theorem dX11_weightOf_14 : decode cX11_weightOf 14 = .ok (.isub, 1) := by decide +kernel
theorem dX11_weightOf_15 : decode cX11_weightOf 15 = .ok (.istore 6, 2) := by decide +kernel
theorem dX11_weightOf_17 : decode cX11_weightOf 17 = .ok (.iload 6, 2) := by decide +kernel
theorem dX11_weightOf_19 : decode cX11_weightOf 19 = .ok (.ifCond .lt 85, 3) := by decide +kernel
theorem dX11_weightOf_22 : decode cX11_weightOf 22 = .ok (.iload 5, 2) := by decide +kernel
theorem dX11_weightOf_24 : decode cX11_weightOf 24 = .ok (.ifCond .le 80, 3) := by decide +kernel
theorem dX11_weightOf_27 : decode cX11_weightOf 27 = .ok (.aload_n 0, 1) := by decide +kernel
theorem dX11_weightOf_28 : decode cX11_weightOf 28 = .ok (.iload 6, 2) := by decide +kernel
theorem dX11_weightOf_30 : decode cX11_weightOf 30 = .ok (.iconst 1, 1) := by decide +kernel
theorem dX11_weightOf_31 : decode cX11_weightOf 31 = .ok (.invokevirtual 276, 3) := by decide +kernel
theorem dX11_weightOf_34 : decode cX11_weightOf 34 = .ok (.istore 7, 2) := by decide +kernel
theorem dX11_weightOf_36 : decode cX11_weightOf 36 = .ok (.aload_n 0, 1) := by decide +kernel
theorem dX11_weightOf_37 : decode cX11_weightOf 37 = .ok (.iload 6, 2) := by decide +kernel
theorem dX11_weightOf_39 : decode cX11_weightOf 39 = .ok (.iconst 0, 1) := by decide +kernel
theorem dX11_weightOf_40 : decode cX11_weightOf 40 = .ok (.invokevirtual 276, 3) := by decide +kernel
theorem dX11_weightOf_43 : decode cX11_weightOf 43 = .ok (.iload_n 1, 1) := by decide +kernel
theorem dX11_weightOf_44 : decode cX11_weightOf 44 = .ok (.if_icmp .ne 54, 3) := by decide +kernel
theorem dX11_weightOf_47 : decode cX11_weightOf 47 = .ok (.aload_n 0, 1) := by decide +kernel
theorem dX11_weightOf_48 : decode cX11_weightOf 48 = .ok (.iload 7, 2) := by decide +kernel
theorem dX11_weightOf_50 : decode cX11_weightOf 50 = .ok (.iconst 3, 1) := by decide +kernel
theorem dX11_weightOf_51 : decode cX11_weightOf 51 = .ok (.invokevirtual 244, 3) := by decide +kernel
theorem dX11_weightOf_54 : decode cX11_weightOf 54 = .ok (.iconst 3, 1) := by decide +kernel
theorem dX11_weightOf_55 : decode cX11_weightOf 55 = .ok (.if_icmp .eq 43, 3) := by decide +kernel
theorem dX11_weightOf_58 : decode cX11_weightOf 58 = .ok (.lload_n 3, 1) := by decide +kernel
theorem dX11_weightOf_59 : decode cX11_weightOf 59 = .ok (.iconst 1, 1) := by decide +kernel
theorem dX11_weightOf_60 : decode cX11_weightOf 60 = .ok (.iconst 1, 1) := by decide +kernel
theorem dX11_weightOf_61 : decode cX11_weightOf 61 = .ok (.aload_n 0, 1) := by decide +kernel
theorem dX11_weightOf_62 : decode cX11_weightOf 62 = .ok (.iload 7, 2) := by decide +kernel
theorem dX11_weightOf_64 : decode cX11_weightOf 64 = .ok (.iconst 0, 1) := by decide +kernel
theorem dX11_weightOf_65 : decode cX11_weightOf 65 = .ok (.invokevirtual 244, 3) := by decide +kernel
theorem dX11_weightOf_68 : decode cX11_weightOf 68 = .ok (.iadd, 1) := by decide +kernel
theorem dX11_weightOf_69 : decode cX11_weightOf 69 = .ok (.aload_n 0, 1) := by decide +kernel
theorem dX11_weightOf_70 : decode cX11_weightOf 70 = .ok (.iload 7, 2) := by decide +kernel
theorem dX11_weightOf_72 : decode cX11_weightOf 72 = .ok (.iload_n 1, 1) := by decide +kernel
theorem dX11_weightOf_73 : decode cX11_weightOf 73 = .ok (.iload_n 2, 1) := by decide +kernel
theorem dX11_weightOf_74 : decode cX11_weightOf 74 = .ok (.invokevirtual 292, 3) := by decide +kernel
theorem dX11_weightOf_77 : decode cX11_weightOf 77 = .ok (.aload_n 0, 1) := by decide +kernel
theorem dX11_weightOf_78 : decode cX11_weightOf 78 = .ok (.iload 6, 2) := by decide +kernel
theorem dX11_weightOf_80 : decode cX11_weightOf 80 = .ok (.iconst 2, 1) := by decide +kernel
theorem dX11_weightOf_81 : decode cX11_weightOf 81 = .ok (.invokevirtual 276, 3) := by decide +kernel
theorem dX11_weightOf_84 : decode cX11_weightOf 84 = .ok (.isub, 1) := by decide +kernel
theorem dX11_weightOf_85 : decode cX11_weightOf 85 = .ok (.invokestatic 342, 3) := by decide +kernel
theorem dX11_weightOf_88 : decode cX11_weightOf 88 = .ok (.isub, 1) := by decide +kernel
theorem dX11_weightOf_89 : decode cX11_weightOf 89 = .ok (.invokestatic 266, 3) := by decide +kernel
theorem dX11_weightOf_92 : decode cX11_weightOf 92 = .ok (.i2l, 1) := by decide +kernel
theorem dX11_weightOf_93 : decode cX11_weightOf 93 = .ok (.lmul, 1) := by decide +kernel
theorem dX11_weightOf_94 : decode cX11_weightOf 94 = .ok (.lstore_n 3, 1) := by decide +kernel
theorem dX11_weightOf_95 : decode cX11_weightOf 95 = .ok (.iinc 5 (-1), 3) := by decide +kernel
theorem dX11_weightOf_98 : decode cX11_weightOf 98 = .ok (.iinc 6 (-1), 3) := by decide +kernel
theorem dX11_weightOf_101 : decode cX11_weightOf 101 = .ok (.goto (-84), 3) := by decide +kernel
theorem dX11_weightOf_104 : decode cX11_weightOf 104 = .ok (.lload_n 3, 1) := by decide +kernel
theorem dX11_weightOf_105 : decode cX11_weightOf 105 = .ok (.lreturn, 1) := by decide +kernel
theorem dX11_layBeliefs_0 : decode cX11_layBeliefs 0 = .ok (.lconst 0, 1) := by decide +kernel
theorem dX11_layBeliefs_1 : decode cX11_layBeliefs 1 = .ok (.lstore_n 2, 1) := by decide +kernel
theorem dX11_layBeliefs_2 : decode cX11_layBeliefs 2 = .ok (.iconst 0, 1) := by decide +kernel
theorem dX11_layBeliefs_3 : decode cX11_layBeliefs 3 = .ok (.istore 4, 2) := by decide +kernel
theorem dX11_layBeliefs_5 : decode cX11_layBeliefs 5 = .ok (.iload 4, 2) := by decide +kernel
theorem dX11_layBeliefs_7 : decode cX11_layBeliefs 7 = .ok (.bipush 10, 2) := by decide +kernel
theorem dX11_layBeliefs_9 : decode cX11_layBeliefs 9 = .ok (.if_icmp .ge 33, 3) := by decide +kernel
theorem dX11_layBeliefs_12 : decode cX11_layBeliefs 12 = .ok (.lload_n 2, 1) := by decide +kernel
theorem dX11_layBeliefs_13 : decode cX11_layBeliefs 13 = .ok (.aload_n 0, 1) := by decide +kernel
theorem dX11_layBeliefs_14 : decode cX11_layBeliefs 14 = .ok (.iload_n 1, 1) := by decide +kernel
theorem dX11_layBeliefs_15 : decode cX11_layBeliefs 15 = .ok (.iload 4, 2) := by decide +kernel
theorem dX11_layBeliefs_17 : decode cX11_layBeliefs 17 = .ok (.invokevirtual 336, 3) := by decide +kernel
theorem dX11_layBeliefs_20 : decode cX11_layBeliefs 20 = .ok (.ifCond .eq 13, 3) := by decide +kernel
theorem dX11_layBeliefs_23 : decode cX11_layBeliefs 23 = .ok (.aload_n 0, 1) := by decide +kernel
theorem dX11_layBeliefs_24 : decode cX11_layBeliefs 24 = .ok (.iload_n 1, 1) := by decide +kernel
theorem dX11_layBeliefs_25 : decode cX11_layBeliefs 25 = .ok (.iload 4, 2) := by decide +kernel
theorem dX11_layBeliefs_27 : decode cX11_layBeliefs 27 = .ok (.invokevirtual 345, 3) := by decide +kernel
theorem dX11_layBeliefs_30 : decode cX11_layBeliefs 30 = .ok (.goto 4, 3) := by decide +kernel
theorem dX11_layBeliefs_33 : decode cX11_layBeliefs 33 = .ok (.lconst 0, 1) := by decide +kernel
theorem dX11_layBeliefs_34 : decode cX11_layBeliefs 34 = .ok (.ladd, 1) := by decide +kernel
theorem dX11_layBeliefs_35 : decode cX11_layBeliefs 35 = .ok (.lstore_n 2, 1) := by decide +kernel
theorem dX11_layBeliefs_36 : decode cX11_layBeliefs 36 = .ok (.iinc 4 1, 3) := by decide +kernel
theorem dX11_layBeliefs_39 : decode cX11_layBeliefs 39 = .ok (.goto (-34), 3) := by decide +kernel
theorem dX11_layBeliefs_42 : decode cX11_layBeliefs 42 = .ok (.iconst 0, 1) := by decide +kernel
theorem dX11_layBeliefs_43 : decode cX11_layBeliefs 43 = .ok (.istore 4, 2) := by decide +kernel
theorem dX11_layBeliefs_45 : decode cX11_layBeliefs 45 = .ok (.iload 4, 2) := by decide +kernel
theorem dX11_layBeliefs_47 : decode cX11_layBeliefs 47 = .ok (.bipush 10, 2) := by decide +kernel
theorem dX11_layBeliefs_49 : decode cX11_layBeliefs 49 = .ok (.if_icmp .ge 44, 3) := by decide +kernel
theorem dX11_layBeliefs_52 : decode cX11_layBeliefs 52 = .ok (.aload_n 0, 1) := by decide +kernel
theorem dX11_layBeliefs_53 : decode cX11_layBeliefs 53 = .ok (.getfield 71, 3) := by decide +kernel
theorem dX11_layBeliefs_56 : decode cX11_layBeliefs 56 = .ok (.iload 4, 2) := by decide +kernel
theorem dX11_layBeliefs_58 : decode cX11_layBeliefs 58 = .ok (.aload_n 0, 1) := by decide +kernel
theorem dX11_layBeliefs_59 : decode cX11_layBeliefs 59 = .ok (.iload_n 1, 1) := by decide +kernel
theorem dX11_layBeliefs_60 : decode cX11_layBeliefs 60 = .ok (.iload 4, 2) := by decide +kernel
theorem dX11_layBeliefs_62 : decode cX11_layBeliefs 62 = .ok (.invokevirtual 336, 3) := by decide +kernel
theorem dX11_layBeliefs_65 : decode cX11_layBeliefs 65 = .ok (.ifCond .eq 20, 3) := by decide +kernel
theorem dX11_layBeliefs_68 : decode cX11_layBeliefs 68 = .ok (.ldc2_w 175, 3) := by decide +kernel
theorem dX11_layBeliefs_71 : decode cX11_layBeliefs 71 = .ok (.aload_n 0, 1) := by decide +kernel
theorem dX11_layBeliefs_72 : decode cX11_layBeliefs 72 = .ok (.iload_n 1, 1) := by decide +kernel
theorem dX11_layBeliefs_73 : decode cX11_layBeliefs 73 = .ok (.iload 4, 2) := by decide +kernel
theorem dX11_layBeliefs_75 : decode cX11_layBeliefs 75 = .ok (.invokevirtual 345, 3) := by decide +kernel
theorem dX11_layBeliefs_78 : decode cX11_layBeliefs 78 = .ok (.lmul, 1) := by decide +kernel
theorem dX11_layBeliefs_79 : decode cX11_layBeliefs 79 = .ok (.lload_n 2, 1) := by decide +kernel
theorem dX11_layBeliefs_80 : decode cX11_layBeliefs 80 = .ok (.ldiv, 1) := by decide +kernel
theorem dX11_layBeliefs_81 : decode cX11_layBeliefs 81 = .ok (.l2i, 1) := by decide +kernel
theorem dX11_layBeliefs_82 : decode cX11_layBeliefs 82 = .ok (.goto 4, 3) := by decide +kernel
theorem dX11_layBeliefs_85 : decode cX11_layBeliefs 85 = .ok (.iconst 0, 1) := by decide +kernel
theorem dX11_layBeliefs_86 : decode cX11_layBeliefs 86 = .ok (.iastore, 1) := by decide +kernel
theorem dX11_layBeliefs_87 : decode cX11_layBeliefs 87 = .ok (.iinc 4 1, 3) := by decide +kernel
theorem dX11_layBeliefs_90 : decode cX11_layBeliefs 90 = .ok (.goto (-45), 3) := by decide +kernel
theorem dX11_layBeliefs_93 : decode cX11_layBeliefs 93 = .ok (.return_, 1) := by decide +kernel
theorem dX11_belief_0 : decode cX11_belief 0 = .ok (.aload_n 0, 1) := by decide +kernel
theorem dX11_belief_1 : decode cX11_belief 1 = .ok (.iload_n 1, 1) := by decide +kernel
theorem dX11_belief_2 : decode cX11_belief 2 = .ok (.invokevirtual 263, 3) := by decide +kernel
theorem dX11_belief_5 : decode cX11_belief 5 = .ok (.ifCond .eq 10, 3) := by decide +kernel
theorem dX11_belief_8 : decode cX11_belief 8 = .ok (.iload_n 2, 1) := by decide +kernel
theorem dX11_belief_9 : decode cX11_belief 9 = .ok (.invokestatic 289, 3) := by decide +kernel
theorem dX11_belief_12 : decode cX11_belief 12 = .ok (.ifCond .ne 5, 3) := by decide +kernel
theorem dX11_belief_15 : decode cX11_belief 15 = .ok (.iconst (-1), 1) := by decide +kernel
theorem dX11_belief_16 : decode cX11_belief 16 = .ok (.ireturn, 1) := by decide +kernel
theorem dX11_belief_17 : decode cX11_belief 17 = .ok (.aload_n 0, 1) := by decide +kernel
theorem dX11_belief_18 : decode cX11_belief 18 = .ok (.iload_n 1, 1) := by decide +kernel
theorem dX11_belief_19 : decode cX11_belief 19 = .ok (.invokevirtual 349, 3) := by decide +kernel
theorem dX11_belief_22 : decode cX11_belief 22 = .ok (.aload_n 0, 1) := by decide +kernel
theorem dX11_belief_23 : decode cX11_belief 23 = .ok (.getfield 71, 3) := by decide +kernel
theorem dX11_belief_26 : decode cX11_belief 26 = .ok (.iload_n 2, 1) := by decide +kernel
theorem dX11_belief_27 : decode cX11_belief 27 = .ok (.iaload, 1) := by decide +kernel
theorem dX11_belief_28 : decode cX11_belief 28 = .ok (.ireturn, 1) := by decide +kernel
theorem dX11_likelyOf_0 : decode cX11_likelyOf 0 = .ok (.aload_n 0, 1) := by decide +kernel
theorem dX11_likelyOf_1 : decode cX11_likelyOf 1 = .ok (.iload_n 1, 1) := by decide +kernel
theorem dX11_likelyOf_2 : decode cX11_likelyOf 2 = .ok (.invokevirtual 349, 3) := by decide +kernel
theorem dX11_likelyOf_5 : decode cX11_likelyOf 5 = .ok (.iconst 0, 1) := by decide +kernel
theorem dX11_likelyOf_6 : decode cX11_likelyOf 6 = .ok (.istore_n 2, 1) := by decide +kernel
theorem dX11_likelyOf_7 : decode cX11_likelyOf 7 = .ok (.iconst 1, 1) := by decide +kernel
theorem dX11_likelyOf_8 : decode cX11_likelyOf 8 = .ok (.istore_n 3, 1) := by decide +kernel
theorem dX11_likelyOf_9 : decode cX11_likelyOf 9 = .ok (.iload_n 3, 1) := by decide +kernel
theorem dX11_likelyOf_10 : decode cX11_likelyOf 10 = .ok (.bipush 10, 2) := by decide +kernel
theorem dX11_likelyOf_12 : decode cX11_likelyOf 12 = .ok (.if_icmp .ge 30, 3) := by decide +kernel
theorem dX11_likelyOf_15 : decode cX11_likelyOf 15 = .ok (.aload_n 0, 1) := by decide +kernel
theorem dX11_likelyOf_16 : decode cX11_likelyOf 16 = .ok (.getfield 71, 3) := by decide +kernel
theorem dX11_likelyOf_19 : decode cX11_likelyOf 19 = .ok (.iload_n 3, 1) := by decide +kernel
theorem dX11_likelyOf_20 : decode cX11_likelyOf 20 = .ok (.iaload, 1) := by decide +kernel
theorem dX11_likelyOf_21 : decode cX11_likelyOf 21 = .ok (.aload_n 0, 1) := by decide +kernel
theorem dX11_likelyOf_22 : decode cX11_likelyOf 22 = .ok (.getfield 71, 3) := by decide +kernel
theorem dX11_likelyOf_25 : decode cX11_likelyOf 25 = .ok (.iload_n 2, 1) := by decide +kernel
theorem dX11_likelyOf_26 : decode cX11_likelyOf 26 = .ok (.iaload, 1) := by decide +kernel
theorem dX11_likelyOf_27 : decode cX11_likelyOf 27 = .ok (.if_icmp .le 7, 3) := by decide +kernel
theorem dX11_likelyOf_30 : decode cX11_likelyOf 30 = .ok (.iload_n 3, 1) := by decide +kernel
theorem dX11_likelyOf_31 : decode cX11_likelyOf 31 = .ok (.goto 4, 3) := by decide +kernel
theorem dX11_likelyOf_34 : decode cX11_likelyOf 34 = .ok (.iload_n 2, 1) := by decide +kernel
theorem dX11_likelyOf_35 : decode cX11_likelyOf 35 = .ok (.istore_n 2, 1) := by decide +kernel
theorem dX11_likelyOf_36 : decode cX11_likelyOf 36 = .ok (.iinc 3 1, 3) := by decide +kernel
theorem dX11_likelyOf_39 : decode cX11_likelyOf 39 = .ok (.goto (-30), 3) := by decide +kernel
theorem dX11_likelyOf_42 : decode cX11_likelyOf 42 = .ok (.iload_n 2, 1) := by decide +kernel
theorem dX11_likelyOf_43 : decode cX11_likelyOf 43 = .ok (.ireturn, 1) := by decide +kernel
theorem dX11_likely_0 : decode cX11_likely 0 = .ok (.aload_n 0, 1) := by decide +kernel
theorem dX11_likely_1 : decode cX11_likely 1 = .ok (.iload_n 1, 1) := by decide +kernel
theorem dX11_likely_2 : decode cX11_likely 2 = .ok (.invokevirtual 263, 3) := by decide +kernel
theorem dX11_likely_5 : decode cX11_likely 5 = .ok (.ifCond .eq 12, 3) := by decide +kernel
theorem dX11_likely_8 : decode cX11_likely 8 = .ok (.iload_n 2, 1) := by decide +kernel
theorem dX11_likely_9 : decode cX11_likely 9 = .ok (.iconst 0, 1) := by decide +kernel
theorem dX11_likely_10 : decode cX11_likely 10 = .ok (.iconst 1, 1) := by decide +kernel
theorem dX11_likely_11 : decode cX11_likely 11 = .ok (.invokestatic 198, 3) := by decide +kernel
theorem dX11_likely_14 : decode cX11_likely 14 = .ok (.ifCond .ne 5, 3) := by decide +kernel
theorem dX11_likely_17 : decode cX11_likely 17 = .ok (.iconst (-1), 1) := by decide +kernel
theorem dX11_likely_18 : decode cX11_likely 18 = .ok (.ireturn, 1) := by decide +kernel
theorem dX11_likely_19 : decode cX11_likely 19 = .ok (.aload_n 0, 1) := by decide +kernel
theorem dX11_likely_20 : decode cX11_likely 20 = .ok (.iload_n 1, 1) := by decide +kernel
theorem dX11_likely_21 : decode cX11_likely 21 = .ok (.invokevirtual 352, 3) := by decide +kernel
theorem dX11_likely_24 : decode cX11_likely 24 = .ok (.istore_n 3, 1) := by decide +kernel
theorem dX11_likely_25 : decode cX11_likely 25 = .ok (.iload_n 2, 1) := by decide +kernel
theorem dX11_likely_26 : decode cX11_likely 26 = .ok (.ifCond .ne 7, 3) := by decide +kernel
theorem dX11_likely_29 : decode cX11_likely 29 = .ok (.iload_n 3, 1) := by decide +kernel
theorem dX11_likely_30 : decode cX11_likely 30 = .ok (.goto 9, 3) := by decide +kernel
theorem dX11_likely_33 : decode cX11_likely 33 = .ok (.aload_n 0, 1) := by decide +kernel
theorem dX11_likely_34 : decode cX11_likely 34 = .ok (.getfield 71, 3) := by decide +kernel
theorem dX11_likely_37 : decode cX11_likely 37 = .ok (.iload_n 3, 1) := by decide +kernel
theorem dX11_likely_38 : decode cX11_likely 38 = .ok (.iaload, 1) := by decide +kernel
theorem dX11_likely_39 : decode cX11_likely 39 = .ok (.ireturn, 1) := by decide +kernel
theorem dX11_sure_0 : decode cX11_sure 0 = .ok (.aload_n 0, 1) := by decide +kernel
theorem dX11_sure_1 : decode cX11_sure 1 = .ok (.iload_n 1, 1) := by decide +kernel
theorem dX11_sure_2 : decode cX11_sure 2 = .ok (.invokevirtual 263, 3) := by decide +kernel
theorem dX11_sure_5 : decode cX11_sure 5 = .ok (.ifCond .eq 14, 3) := by decide +kernel
theorem dX11_sure_8 : decode cX11_sure 8 = .ok (.iload_n 2, 1) := by decide +kernel
theorem dX11_sure_9 : decode cX11_sure 9 = .ok (.iconst 1, 1) := by decide +kernel
theorem dX11_sure_10 : decode cX11_sure 10 = .ok (.ldc_w 355, 3) := by decide +kernel
theorem dX11_sure_13 : decode cX11_sure 13 = .ok (.invokestatic 198, 3) := by decide +kernel
theorem dX11_sure_16 : decode cX11_sure 16 = .ok (.ifCond .ne 7, 3) := by decide +kernel
theorem dX11_sure_19 : decode cX11_sure 19 = .ok (.iconst (-1), 1) := by decide +kernel
theorem dX11_sure_20 : decode cX11_sure 20 = .ok (.goto 22, 3) := by decide +kernel
theorem dX11_sure_23 : decode cX11_sure 23 = .ok (.aload_n 0, 1) := by decide +kernel
theorem dX11_sure_24 : decode cX11_sure 24 = .ok (.getfield 71, 3) := by decide +kernel
theorem dX11_sure_27 : decode cX11_sure 27 = .ok (.aload_n 0, 1) := by decide +kernel
theorem dX11_sure_28 : decode cX11_sure 28 = .ok (.iload_n 1, 1) := by decide +kernel
theorem dX11_sure_29 : decode cX11_sure 29 = .ok (.invokevirtual 352, 3) := by decide +kernel
theorem dX11_sure_32 : decode cX11_sure 32 = .ok (.iaload, 1) := by decide +kernel
theorem dX11_sure_33 : decode cX11_sure 33 = .ok (.iload_n 2, 1) := by decide +kernel
theorem dX11_sure_34 : decode cX11_sure 34 = .ok (.if_icmp .lt 7, 3) := by decide +kernel
theorem dX11_sure_37 : decode cX11_sure 37 = .ok (.iconst 1, 1) := by decide +kernel
theorem dX11_sure_38 : decode cX11_sure 38 = .ok (.goto 4, 3) := by decide +kernel
theorem dX11_sure_41 : decode cX11_sure 41 = .ok (.iconst 0, 1) := by decide +kernel
theorem dX11_sure_42 : decode cX11_sure 42 = .ok (.ireturn, 1) := by decide +kernel
theorem dX11_alike_0 : decode cX11_alike 0 = .ok (.iconst 0, 1) := by decide +kernel
theorem dX11_alike_1 : decode cX11_alike 1 = .ok (.istore_n 3, 1) := by decide +kernel
theorem dX11_alike_2 : decode cX11_alike 2 = .ok (.iconst 0, 1) := by decide +kernel
theorem dX11_alike_3 : decode cX11_alike 3 = .ok (.istore 4, 2) := by decide +kernel
theorem dX11_alike_5 : decode cX11_alike 5 = .ok (.iload 4, 2) := by decide +kernel
theorem dX11_alike_7 : decode cX11_alike 7 = .ok (.bipush 9, 2) := by decide +kernel
theorem dX11_alike_9 : decode cX11_alike 9 = .ok (.if_icmp .gt 68, 3) := by decide +kernel
theorem dX11_alike_12 : decode cX11_alike 12 = .ok (.iconst 0, 1) := by decide +kernel
theorem dX11_alike_13 : decode cX11_alike 13 = .ok (.istore 5, 2) := by decide +kernel
theorem dX11_alike_15 : decode cX11_alike 15 = .ok (.iconst 0, 1) := by decide +kernel
theorem dX11_alike_16 : decode cX11_alike 16 = .ok (.istore 6, 2) := by decide +kernel
theorem dX11_alike_18 : decode cX11_alike 18 = .ok (.iload 6, 2) := by decide +kernel
theorem dX11_alike_20 : decode cX11_alike 20 = .ok (.bipush 10, 2) := by decide +kernel
theorem dX11_alike_22 : decode cX11_alike 22 = .ok (.if_icmp .ge 42, 3) := by decide +kernel
theorem dX11_alike_25 : decode cX11_alike 25 = .ok (.iload 5, 2) := by decide +kernel
theorem dX11_alike_27 : decode cX11_alike 27 = .ok (.aload_n 0, 1) := by decide +kernel
theorem dX11_alike_28 : decode cX11_alike 28 = .ok (.iload_n 2, 1) := by decide +kernel
theorem dX11_alike_29 : decode cX11_alike 29 = .ok (.iload 6, 2) := by decide +kernel
theorem dX11_alike_31 : decode cX11_alike 31 = .ok (.invokevirtual 336, 3) := by decide +kernel
theorem dX11_alike_34 : decode cX11_alike 34 = .ok (.ifCond .eq 20, 3) := by decide +kernel
theorem dX11_alike_37 : decode cX11_alike 37 = .ok (.aload_n 0, 1) := by decide +kernel
theorem dX11_alike_38 : decode cX11_alike 38 = .ok (.iload_n 1, 1) := by decide +kernel
theorem dX11_alike_39 : decode cX11_alike 39 = .ok (.iload_n 2, 1) := by decide +kernel
theorem dX11_alike_40 : decode cX11_alike 40 = .ok (.iload 6, 2) := by decide +kernel
theorem dX11_alike_42 : decode cX11_alike 42 = .ok (.invokevirtual 292, 3) := by decide +kernel
theorem dX11_alike_45 : decode cX11_alike 45 = .ok (.iload 4, 2) := by decide +kernel
theorem dX11_alike_47 : decode cX11_alike 47 = .ok (.if_icmp .ne 7, 3) := by decide +kernel
theorem dX11_alike_50 : decode cX11_alike 50 = .ok (.iconst 1, 1) := by decide +kernel
theorem dX11_alike_51 : decode cX11_alike 51 = .ok (.goto 4, 3) := by decide +kernel
theorem dX11_alike_54 : decode cX11_alike 54 = .ok (.iconst 0, 1) := by decide +kernel
theorem dX11_alike_55 : decode cX11_alike 55 = .ok (.iadd, 1) := by decide +kernel
theorem dX11_alike_56 : decode cX11_alike 56 = .ok (.istore 5, 2) := by decide +kernel
theorem dX11_alike_58 : decode cX11_alike 58 = .ok (.iinc 6 1, 3) := by decide +kernel
theorem dX11_alike_61 : decode cX11_alike 61 = .ok (.goto (-43), 3) := by decide +kernel
theorem dX11_alike_64 : decode cX11_alike 64 = .ok (.iload_n 3, 1) := by decide +kernel
theorem dX11_alike_65 : decode cX11_alike 65 = .ok (.iload 5, 2) := by decide +kernel
theorem dX11_alike_67 : decode cX11_alike 67 = .ok (.invokestatic 266, 3) := by decide +kernel
theorem dX11_alike_70 : decode cX11_alike 70 = .ok (.istore_n 3, 1) := by decide +kernel
theorem dX11_alike_71 : decode cX11_alike 71 = .ok (.iinc 4 1, 3) := by decide +kernel
theorem dX11_alike_74 : decode cX11_alike 74 = .ok (.goto (-69), 3) := by decide +kernel
theorem dX11_alike_77 : decode cX11_alike 77 = .ok (.iload_n 3, 1) := by decide +kernel
theorem dX11_alike_78 : decode cX11_alike 78 = .ok (.ireturn, 1) := by decide +kernel
theorem dX11_next_0 : decode cX11_next 0 = .ok (.iconst (-1), 1) := by decide +kernel
theorem dX11_next_1 : decode cX11_next 1 = .ok (.istore_n 2, 1) := by decide +kernel
theorem dX11_next_2 : decode cX11_next 2 = .ok (.iconst 0, 1) := by decide +kernel
theorem dX11_next_3 : decode cX11_next 3 = .ok (.istore_n 3, 1) := by decide +kernel
theorem dX11_next_4 : decode cX11_next 4 = .ok (.iconst 0, 1) := by decide +kernel
theorem dX11_next_5 : decode cX11_next 5 = .ok (.istore 4, 2) := by decide +kernel
theorem dX11_next_7 : decode cX11_next 7 = .ok (.iload 4, 2) := by decide +kernel
theorem dX11_next_9 : decode cX11_next 9 = .ok (.aload_n 0, 1) := by decide +kernel
theorem dX11_next_10 : decode cX11_next 10 = .ok (.getfield 238, 3) := by decide +kernel
theorem dX11_next_13 : decode cX11_next 13 = .ok (.if_icmp .ge 55, 3) := by decide +kernel
theorem dX11_next_16 : decode cX11_next 16 = .ok (.aload_n 0, 1) := by decide +kernel
theorem dX11_next_17 : decode cX11_next 17 = .ok (.iload_n 1, 1) := by decide +kernel
theorem dX11_next_18 : decode cX11_next 18 = .ok (.invokevirtual 263, 3) := by decide +kernel
theorem dX11_next_21 : decode cX11_next 21 = .ok (.ifCond .eq 47, 3) := by decide +kernel
theorem dX11_next_24 : decode cX11_next 24 = .ok (.aload_n 0, 1) := by decide +kernel
theorem dX11_next_25 : decode cX11_next 25 = .ok (.iload 4, 2) := by decide +kernel
theorem dX11_next_27 : decode cX11_next 27 = .ok (.iconst 3, 1) := by decide +kernel
theorem dX11_next_28 : decode cX11_next 28 = .ok (.invokevirtual 244, 3) := by decide +kernel
theorem dX11_next_31 : decode cX11_next 31 = .ok (.iconst 3, 1) := by decide +kernel
theorem dX11_next_32 : decode cX11_next 32 = .ok (.if_icmp .eq 30, 3) := by decide +kernel
theorem dX11_next_35 : decode cX11_next 35 = .ok (.iload_n 2, 1) := by decide +kernel
theorem dX11_next_36 : decode cX11_next 36 = .ok (.iconst (-1), 1) := by decide +kernel
theorem dX11_next_37 : decode cX11_next 37 = .ok (.if_icmp .eq 14, 3) := by decide +kernel
theorem dX11_next_40 : decode cX11_next 40 = .ok (.aload_n 0, 1) := by decide +kernel
theorem dX11_next_41 : decode cX11_next 41 = .ok (.iload 4, 2) := by decide +kernel
theorem dX11_next_43 : decode cX11_next 43 = .ok (.iload_n 1, 1) := by decide +kernel
theorem dX11_next_44 : decode cX11_next 44 = .ok (.invokevirtual 356, 3) := by decide +kernel
theorem dX11_next_47 : decode cX11_next 47 = .ok (.iload_n 3, 1) := by decide +kernel
theorem dX11_next_48 : decode cX11_next 48 = .ok (.if_icmp .ge 14, 3) := by decide +kernel
theorem dX11_next_51 : decode cX11_next 51 = .ok (.iload 4, 2) := by decide +kernel
theorem dX11_next_53 : decode cX11_next 53 = .ok (.istore_n 2, 1) := by decide +kernel
theorem dX11_next_54 : decode cX11_next 54 = .ok (.aload_n 0, 1) := by decide +kernel
theorem dX11_next_55 : decode cX11_next 55 = .ok (.iload 4, 2) := by decide +kernel
theorem dX11_next_57 : decode cX11_next 57 = .ok (.iload_n 1, 1) := by decide +kernel
theorem dX11_next_58 : decode cX11_next 58 = .ok (.invokevirtual 356, 3) := by decide +kernel
theorem dX11_next_61 : decode cX11_next 61 = .ok (.istore_n 3, 1) := by decide +kernel
theorem dX11_next_62 : decode cX11_next 62 = .ok (.iinc 4 1, 3) := by decide +kernel
theorem dX11_next_65 : decode cX11_next 65 = .ok (.goto (-58), 3) := by decide +kernel
theorem dX11_next_68 : decode cX11_next 68 = .ok (.iload_n 2, 1) := by decide +kernel
theorem dX11_next_69 : decode cX11_next 69 = .ok (.ireturn, 1) := by decide +kernel
theorem dX11_areTold_0 : decode cX11_areTold 0 = .ok (.iconst 0, 1) := by decide +kernel
theorem dX11_areTold_1 : decode cX11_areTold 1 = .ok (.istore 5, 2) := by decide +kernel
theorem dX11_areTold_3 : decode cX11_areTold 3 = .ok (.iload 5, 2) := by decide +kernel
theorem dX11_areTold_5 : decode cX11_areTold 5 = .ok (.aload_n 0, 1) := by decide +kernel
theorem dX11_areTold_6 : decode cX11_areTold 6 = .ok (.getfield 238, 3) := by decide +kernel
theorem dX11_areTold_9 : decode cX11_areTold 9 = .ok (.if_icmp .ge 51, 3) := by decide +kernel
theorem dX11_areTold_12 : decode cX11_areTold 12 = .ok (.iload_n 1, 1) := by decide +kernel
theorem dX11_areTold_13 : decode cX11_areTold 13 = .ok (.iload 5, 2) := by decide +kernel
theorem dX11_areTold_15 : decode cX11_areTold 15 = .ok (.invokestatic 209, 3) := by decide +kernel
theorem dX11_areTold_18 : decode cX11_areTold 18 = .ok (.ifCond .eq 36, 3) := by decide +kernel
theorem dX11_areTold_21 : decode cX11_areTold 21 = .ok (.aload_n 0, 1) := by decide +kernel
theorem dX11_areTold_22 : decode cX11_areTold 22 = .ok (.iload 5, 2) := by decide +kernel
theorem dX11_areTold_24 : decode cX11_areTold 24 = .ok (.iconst 3, 1) := by decide +kernel
theorem dX11_areTold_25 : decode cX11_areTold 25 = .ok (.invokevirtual 244, 3) := by decide +kernel
theorem dX11_areTold_28 : decode cX11_areTold 28 = .ok (.iconst 3, 1) := by decide +kernel
theorem dX11_areTold_29 : decode cX11_areTold 29 = .ok (.if_icmp .eq 25, 3) := by decide +kernel
theorem dX11_areTold_32 : decode cX11_areTold 32 = .ok (.aload_n 0, 1) := by decide +kernel
theorem dX11_areTold_33 : decode cX11_areTold 33 = .ok (.iload 5, 2) := by decide +kernel
theorem dX11_areTold_35 : decode cX11_areTold 35 = .ok (.iload_n 2, 1) := by decide +kernel
theorem dX11_areTold_36 : decode cX11_areTold 36 = .ok (.iload_n 3, 1) := by decide +kernel
theorem dX11_areTold_37 : decode cX11_areTold 37 = .ok (.invokevirtual 292, 3) := by decide +kernel
theorem dX11_areTold_40 : decode cX11_areTold 40 = .ok (.aload_n 0, 1) := by decide +kernel
theorem dX11_areTold_41 : decode cX11_areTold 41 = .ok (.iload 5, 2) := by decide +kernel
theorem dX11_areTold_43 : decode cX11_areTold 43 = .ok (.iload_n 2, 1) := by decide +kernel
theorem dX11_areTold_44 : decode cX11_areTold 44 = .ok (.iload 4, 2) := by decide +kernel
theorem dX11_areTold_46 : decode cX11_areTold 46 = .ok (.invokevirtual 292, 3) := by decide +kernel
theorem dX11_areTold_49 : decode cX11_areTold 49 = .ok (.if_icmp .eq 5, 3) := by decide +kernel
theorem dX11_areTold_52 : decode cX11_areTold 52 = .ok (.iconst 1, 1) := by decide +kernel
theorem dX11_areTold_53 : decode cX11_areTold 53 = .ok (.ireturn, 1) := by decide +kernel
theorem dX11_areTold_54 : decode cX11_areTold 54 = .ok (.iinc 5 1, 3) := by decide +kernel
theorem dX11_areTold_57 : decode cX11_areTold 57 = .ok (.goto (-54), 3) := by decide +kernel
theorem dX11_areTold_60 : decode cX11_areTold 60 = .ok (.iconst 0, 1) := by decide +kernel
theorem dX11_areTold_61 : decode cX11_areTold 61 = .ok (.ireturn, 1) := by decide +kernel
theorem dX11_isApart_0 : decode cX11_isApart 0 = .ok (.iconst 0, 1) := by decide +kernel
theorem dX11_isApart_1 : decode cX11_isApart 1 = .ok (.istore_n 3, 1) := by decide +kernel
theorem dX11_isApart_2 : decode cX11_isApart 2 = .ok (.iload_n 3, 1) := by decide +kernel
theorem dX11_isApart_3 : decode cX11_isApart 3 = .ok (.bipush 10, 2) := by decide +kernel
theorem dX11_isApart_5 : decode cX11_isApart 5 = .ok (.if_icmp .ge 57, 3) := by decide +kernel
theorem dX11_isApart_8 : decode cX11_isApart 8 = .ok (.iconst 0, 1) := by decide +kernel
theorem dX11_isApart_9 : decode cX11_isApart 9 = .ok (.istore 4, 2) := by decide +kernel
theorem dX11_isApart_11 : decode cX11_isApart 11 = .ok (.iload 4, 2) := by decide +kernel
theorem dX11_isApart_13 : decode cX11_isApart 13 = .ok (.iload_n 3, 1) := by decide +kernel
theorem dX11_isApart_14 : decode cX11_isApart 14 = .ok (.if_icmp .ge 42, 3) := by decide +kernel
theorem dX11_isApart_17 : decode cX11_isApart 17 = .ok (.aload_n 0, 1) := by decide +kernel
theorem dX11_isApart_18 : decode cX11_isApart 18 = .ok (.iload_n 2, 1) := by decide +kernel
theorem dX11_isApart_19 : decode cX11_isApart 19 = .ok (.iload_n 3, 1) := by decide +kernel
theorem dX11_isApart_20 : decode cX11_isApart 20 = .ok (.invokevirtual 336, 3) := by decide +kernel
theorem dX11_isApart_23 : decode cX11_isApart 23 = .ok (.ifCond .eq 27, 3) := by decide +kernel
theorem dX11_isApart_26 : decode cX11_isApart 26 = .ok (.aload_n 0, 1) := by decide +kernel
theorem dX11_isApart_27 : decode cX11_isApart 27 = .ok (.iload_n 2, 1) := by decide +kernel
theorem dX11_isApart_28 : decode cX11_isApart 28 = .ok (.iload 4, 2) := by decide +kernel
theorem dX11_isApart_30 : decode cX11_isApart 30 = .ok (.invokevirtual 336, 3) := by decide +kernel
theorem dX11_isApart_33 : decode cX11_isApart 33 = .ok (.ifCond .eq 17, 3) := by decide +kernel
theorem dX11_isApart_36 : decode cX11_isApart 36 = .ok (.aload_n 0, 1) := by decide +kernel
theorem dX11_isApart_37 : decode cX11_isApart 37 = .ok (.iload_n 1, 1) := by decide +kernel
theorem dX11_isApart_38 : decode cX11_isApart 38 = .ok (.iload_n 2, 1) := by decide +kernel
theorem dX11_isApart_39 : decode cX11_isApart 39 = .ok (.iload_n 3, 1) := by decide +kernel
theorem dX11_isApart_40 : decode cX11_isApart 40 = .ok (.iload 4, 2) := by decide +kernel
theorem dX11_isApart_42 : decode cX11_isApart 42 = .ok (.invokevirtual 359, 3) := by decide +kernel
theorem dX11_isApart_45 : decode cX11_isApart 45 = .ok (.ifCond .ne 5, 3) := by decide +kernel
theorem dX11_isApart_48 : decode cX11_isApart 48 = .ok (.iconst 0, 1) := by decide +kernel
theorem dX11_isApart_49 : decode cX11_isApart 49 = .ok (.ireturn, 1) := by decide +kernel
theorem dX11_isApart_50 : decode cX11_isApart 50 = .ok (.iinc 4 1, 3) := by decide +kernel
theorem dX11_isApart_53 : decode cX11_isApart 53 = .ok (.goto (-42), 3) := by decide +kernel
theorem dX11_isApart_56 : decode cX11_isApart 56 = .ok (.iinc 3 1, 3) := by decide +kernel
theorem dX11_isApart_59 : decode cX11_isApart 59 = .ok (.goto (-57), 3) := by decide +kernel
theorem dX11_isApart_62 : decode cX11_isApart 62 = .ok (.iconst 1, 1) := by decide +kernel
theorem dX11_isApart_63 : decode cX11_isApart 63 = .ok (.ireturn, 1) := by decide +kernel
theorem dX11_areReal_0 : decode cX11_areReal 0 = .ok (.iconst 0, 1) := by decide +kernel
theorem dX11_areReal_1 : decode cX11_areReal 1 = .ok (.istore_n 2, 1) := by decide +kernel
theorem dX11_areReal_2 : decode cX11_areReal 2 = .ok (.iload_n 2, 1) := by decide +kernel
theorem dX11_areReal_3 : decode cX11_areReal 3 = .ok (.aload_n 0, 1) := by decide +kernel
theorem dX11_areReal_4 : decode cX11_areReal 4 = .ok (.getfield 238, 3) := by decide +kernel
theorem dX11_areReal_7 : decode cX11_areReal 7 = .ok (.if_icmp .ge 29, 3) := by decide +kernel
theorem dX11_areReal_10 : decode cX11_areReal 10 = .ok (.iload_n 1, 1) := by decide +kernel
theorem dX11_areReal_11 : decode cX11_areReal 11 = .ok (.iload_n 2, 1) := by decide +kernel
theorem dX11_areReal_12 : decode cX11_areReal 12 = .ok (.invokestatic 209, 3) := by decide +kernel
theorem dX11_areReal_15 : decode cX11_areReal 15 = .ok (.ifCond .eq 15, 3) := by decide +kernel
theorem dX11_areReal_18 : decode cX11_areReal 18 = .ok (.aload_n 0, 1) := by decide +kernel
theorem dX11_areReal_19 : decode cX11_areReal 19 = .ok (.iload_n 2, 1) := by decide +kernel
theorem dX11_areReal_20 : decode cX11_areReal 20 = .ok (.iconst 3, 1) := by decide +kernel
theorem dX11_areReal_21 : decode cX11_areReal 21 = .ok (.invokevirtual 244, 3) := by decide +kernel
theorem dX11_areReal_24 : decode cX11_areReal 24 = .ok (.iconst 3, 1) := by decide +kernel
theorem dX11_areReal_25 : decode cX11_areReal 25 = .ok (.if_icmp .ne 5, 3) := by decide +kernel
theorem dX11_areReal_28 : decode cX11_areReal 28 = .ok (.iconst 0, 1) := by decide +kernel
theorem dX11_areReal_29 : decode cX11_areReal 29 = .ok (.ireturn, 1) := by decide +kernel
theorem dX11_areReal_30 : decode cX11_areReal 30 = .ok (.iinc 2 1, 3) := by decide +kernel
theorem dX11_areReal_33 : decode cX11_areReal 33 = .ok (.goto (-31), 3) := by decide +kernel
theorem dX11_areReal_36 : decode cX11_areReal 36 = .ok (.iconst 1, 1) := by decide +kernel
theorem dX11_areReal_37 : decode cX11_areReal 37 = .ok (.ireturn, 1) := by decide +kernel
theorem dX11_apart_0 : decode cX11_apart 0 = .ok (.iconst (-1), 1) := by decide +kernel
theorem dX11_apart_1 : decode cX11_apart 1 = .ok (.istore_n 2, 1) := by decide +kernel
theorem dX11_apart_2 : decode cX11_apart 2 = .ok (.iconst 0, 1) := by decide +kernel
theorem dX11_apart_3 : decode cX11_apart 3 = .ok (.istore_n 3, 1) := by decide +kernel
theorem dX11_apart_4 : decode cX11_apart 4 = .ok (.iload_n 3, 1) := by decide +kernel
theorem dX11_apart_5 : decode cX11_apart 5 = .ok (.iconst 1, 1) := by decide +kernel
theorem dX11_apart_6 : decode cX11_apart 6 = .ok (.aload_n 0, 1) := by decide +kernel
theorem dX11_apart_7 : decode cX11_apart 7 = .ok (.getfield 238, 3) := by decide +kernel
theorem dX11_apart_10 : decode cX11_apart 10 = .ok (.ishl, 1) := by decide +kernel
theorem dX11_apart_11 : decode cX11_apart 11 = .ok (.if_icmp .ge 68, 3) := by decide +kernel
theorem dX11_apart_14 : decode cX11_apart 14 = .ok (.aload_n 0, 1) := by decide +kernel
theorem dX11_apart_15 : decode cX11_apart 15 = .ok (.iload_n 1, 1) := by decide +kernel
theorem dX11_apart_16 : decode cX11_apart 16 = .ok (.invokevirtual 263, 3) := by decide +kernel
theorem dX11_apart_19 : decode cX11_apart 19 = .ok (.ifCond .eq 60, 3) := by decide +kernel
theorem dX11_apart_22 : decode cX11_apart 22 = .ok (.iload_n 2, 1) := by decide +kernel
theorem dX11_apart_23 : decode cX11_apart 23 = .ok (.iconst (-1), 1) := by decide +kernel
theorem dX11_apart_24 : decode cX11_apart 24 = .ok (.if_icmp .eq 14, 3) := by decide +kernel
theorem dX11_apart_27 : decode cX11_apart 27 = .ok (.iload_n 3, 1) := by decide +kernel
theorem dX11_apart_28 : decode cX11_apart 28 = .ok (.invokestatic 363, 3) := by decide +kernel
theorem dX11_apart_31 : decode cX11_apart 31 = .ok (.iload_n 2, 1) := by decide +kernel
theorem dX11_apart_32 : decode cX11_apart 32 = .ok (.invokestatic 363, 3) := by decide +kernel
theorem dX11_apart_35 : decode cX11_apart 35 = .ok (.if_icmp .ge 7, 3) := by decide +kernel
theorem dX11_apart_38 : decode cX11_apart 38 = .ok (.iconst 1, 1) := by decide +kernel
theorem dX11_apart_39 : decode cX11_apart 39 = .ok (.goto 4, 3) := by decide +kernel
theorem dX11_apart_42 : decode cX11_apart 42 = .ok (.iconst 0, 1) := by decide +kernel
theorem dX11_apart_43 : decode cX11_apart 43 = .ok (.istore 4, 2) := by decide +kernel
theorem dX11_apart_45 : decode cX11_apart 45 = .ok (.iload 4, 2) := by decide +kernel
theorem dX11_apart_47 : decode cX11_apart 47 = .ok (.ifCond .eq 24, 3) := by decide +kernel
theorem dX11_apart_50 : decode cX11_apart 50 = .ok (.aload_n 0, 1) := by decide +kernel
theorem dX11_apart_51 : decode cX11_apart 51 = .ok (.iload_n 3, 1) := by decide +kernel
theorem dX11_apart_52 : decode cX11_apart 52 = .ok (.invokevirtual 368, 3) := by decide +kernel
theorem dX11_apart_55 : decode cX11_apart 55 = .ok (.ifCond .eq 16, 3) := by decide +kernel
theorem dX11_apart_58 : decode cX11_apart 58 = .ok (.aload_n 0, 1) := by decide +kernel
theorem dX11_apart_59 : decode cX11_apart 59 = .ok (.iload_n 3, 1) := by decide +kernel
theorem dX11_apart_60 : decode cX11_apart 60 = .ok (.iload_n 1, 1) := by decide +kernel
theorem dX11_apart_61 : decode cX11_apart 61 = .ok (.invokevirtual 371, 3) := by decide +kernel
theorem dX11_apart_64 : decode cX11_apart 64 = .ok (.ifCond .eq 7, 3) := by decide +kernel
theorem dX11_apart_67 : decode cX11_apart 67 = .ok (.iload_n 3, 1) := by decide +kernel
theorem dX11_apart_68 : decode cX11_apart 68 = .ok (.goto 4, 3) := by decide +kernel
theorem dX11_apart_71 : decode cX11_apart 71 = .ok (.iload_n 2, 1) := by decide +kernel
theorem dX11_apart_72 : decode cX11_apart 72 = .ok (.istore_n 2, 1) := by decide +kernel
theorem dX11_apart_73 : decode cX11_apart 73 = .ok (.iinc 3 1, 3) := by decide +kernel
theorem dX11_apart_76 : decode cX11_apart 76 = .ok (.goto (-72), 3) := by decide +kernel
theorem dX11_apart_79 : decode cX11_apart 79 = .ok (.iload_n 2, 1) := by decide +kernel
theorem dX11_apart_80 : decode cX11_apart 80 = .ok (.ireturn, 1) := by decide +kernel
theorem dX11_worthBy_0 : decode cX11_worthBy 0 = .ok (.iload_n 2, 1) := by decide +kernel
theorem dX11_worthBy_1 : decode cX11_worthBy 1 = .ok (.aload_n 0, 1) := by decide +kernel
theorem dX11_worthBy_2 : decode cX11_worthBy 2 = .ok (.getfield 49, 3) := by decide +kernel
theorem dX11_worthBy_5 : decode cX11_worthBy 5 = .ok (.iconst 1, 1) := by decide +kernel
theorem dX11_worthBy_6 : decode cX11_worthBy 6 = .ok (.iaload, 1) := by decide +kernel
theorem dX11_worthBy_7 : decode cX11_worthBy 7 = .ok (.imul, 1) := by decide +kernel
theorem dX11_worthBy_8 : decode cX11_worthBy 8 = .ok (.aload_n 0, 1) := by decide +kernel
theorem dX11_worthBy_9 : decode cX11_worthBy 9 = .ok (.iload_n 1, 1) := by decide +kernel
theorem dX11_worthBy_10 : decode cX11_worthBy 10 = .ok (.iconst 1, 1) := by decide +kernel
theorem dX11_worthBy_11 : decode cX11_worthBy 11 = .ok (.invokevirtual 241, 3) := by decide +kernel
theorem dX11_worthBy_14 : decode cX11_worthBy 14 = .ok (.bipush 10, 2) := by decide +kernel
theorem dX11_worthBy_16 : decode cX11_worthBy 16 = .ok (.idiv, 1) := by decide +kernel
theorem dX11_worthBy_17 : decode cX11_worthBy 17 = .ok (.aload_n 0, 1) := by decide +kernel
theorem dX11_worthBy_18 : decode cX11_worthBy 18 = .ok (.getfield 49, 3) := by decide +kernel
theorem dX11_worthBy_21 : decode cX11_worthBy 21 = .ok (.iconst 2, 1) := by decide +kernel
theorem dX11_worthBy_22 : decode cX11_worthBy 22 = .ok (.iaload, 1) := by decide +kernel
theorem dX11_worthBy_23 : decode cX11_worthBy 23 = .ok (.imul, 1) := by decide +kernel
theorem dX11_worthBy_24 : decode cX11_worthBy 24 = .ok (.iadd, 1) := by decide +kernel
theorem dX11_worthBy_25 : decode cX11_worthBy 25 = .ok (.ireturn, 1) := by decide +kernel
theorem dX11_worth_0 : decode cX11_worth 0 = .ok (.aload_n 0, 1) := by decide +kernel
theorem dX11_worth_1 : decode cX11_worth 1 = .ok (.iload_n 1, 1) := by decide +kernel
theorem dX11_worth_2 : decode cX11_worth 2 = .ok (.invokevirtual 263, 3) := by decide +kernel
theorem dX11_worth_5 : decode cX11_worth 5 = .ok (.ifCond .eq 19, 3) := by decide +kernel
theorem dX11_worth_8 : decode cX11_worth 8 = .ok (.iload_n 2, 1) := by decide +kernel
theorem dX11_worth_9 : decode cX11_worth 9 = .ok (.invokestatic 289, 3) := by decide +kernel
theorem dX11_worth_12 : decode cX11_worth 12 = .ok (.ifCond .eq 12, 3) := by decide +kernel
theorem dX11_worth_15 : decode cX11_worth 15 = .ok (.aload_n 0, 1) := by decide +kernel
theorem dX11_worth_16 : decode cX11_worth 16 = .ok (.iload_n 1, 1) := by decide +kernel
theorem dX11_worth_17 : decode cX11_worth 17 = .ok (.iload_n 2, 1) := by decide +kernel
theorem dX11_worth_18 : decode cX11_worth 18 = .ok (.invokevirtual 374, 3) := by decide +kernel
theorem dX11_worth_21 : decode cX11_worth 21 = .ok (.goto 4, 3) := by decide +kernel
theorem dX11_worth_24 : decode cX11_worth 24 = .ok (.iconst (-1), 1) := by decide +kernel
theorem dX11_worth_25 : decode cX11_worth 25 = .ok (.ireturn, 1) := by decide +kernel
theorem dX11_worthAs_0 : decode cX11_worthAs 0 = .ok (.iload_n 2, 1) := by decide +kernel
theorem dX11_worthAs_1 : decode cX11_worthAs 1 = .ok (.iconst 2, 1) := by decide +kernel
theorem dX11_worthAs_2 : decode cX11_worthAs 2 = .ok (.if_icmp .ne 12, 3) := by decide +kernel
theorem dX11_worthAs_5 : decode cX11_worthAs 5 = .ok (.aload_n 0, 1) := by decide +kernel
theorem dX11_worthAs_6 : decode cX11_worthAs 6 = .ok (.iload_n 1, 1) := by decide +kernel
theorem dX11_worthAs_7 : decode cX11_worthAs 7 = .ok (.iconst 1, 1) := by decide +kernel
theorem dX11_worthAs_8 : decode cX11_worthAs 8 = .ok (.invokevirtual 241, 3) := by decide +kernel
theorem dX11_worthAs_11 : decode cX11_worthAs 11 = .ok (.goto 26, 3) := by decide +kernel
theorem dX11_worthAs_14 : decode cX11_worthAs 14 = .ok (.aload_n 0, 1) := by decide +kernel
theorem dX11_worthAs_15 : decode cX11_worthAs 15 = .ok (.iload_n 1, 1) := by decide +kernel
theorem dX11_worthAs_16 : decode cX11_worthAs 16 = .ok (.iload_n 2, 1) := by decide +kernel
theorem dX11_worthAs_17 : decode cX11_worthAs 17 = .ok (.ifCond .ne 11, 3) := by decide +kernel
theorem dX11_worthAs_20 : decode cX11_worthAs 20 = .ok (.aload_n 0, 1) := by decide +kernel
theorem dX11_worthAs_21 : decode cX11_worthAs 21 = .ok (.iload_n 1, 1) := by decide +kernel
theorem dX11_worthAs_22 : decode cX11_worthAs 22 = .ok (.invokevirtual 352, 3) := by decide +kernel
theorem dX11_worthAs_25 : decode cX11_worthAs 25 = .ok (.goto 9, 3) := by decide +kernel
theorem dX11_worthAs_28 : decode cX11_worthAs 28 = .ok (.aload_n 0, 1) := by decide +kernel
theorem dX11_worthAs_29 : decode cX11_worthAs 29 = .ok (.iload_n 1, 1) := by decide +kernel
theorem dX11_worthAs_30 : decode cX11_worthAs 30 = .ok (.iconst 0, 1) := by decide +kernel
theorem dX11_worthAs_31 : decode cX11_worthAs 31 = .ok (.invokevirtual 241, 3) := by decide +kernel
theorem dX11_worthAs_34 : decode cX11_worthAs 34 = .ok (.invokevirtual 374, 3) := by decide +kernel
theorem dX11_worthAs_37 : decode cX11_worthAs 37 = .ok (.ireturn, 1) := by decide +kernel
theorem dX11_chosen_0 : decode cX11_chosen 0 = .ok (.iconst 0, 1) := by decide +kernel
theorem dX11_chosen_1 : decode cX11_chosen 1 = .ok (.istore_n 2, 1) := by decide +kernel
theorem dX11_chosen_2 : decode cX11_chosen 2 = .ok (.iconst 1, 1) := by decide +kernel
theorem dX11_chosen_3 : decode cX11_chosen 3 = .ok (.istore_n 3, 1) := by decide +kernel
theorem dX11_chosen_4 : decode cX11_chosen 4 = .ok (.iload_n 3, 1) := by decide +kernel
theorem dX11_chosen_5 : decode cX11_chosen 5 = .ok (.aload_n 0, 1) := by decide +kernel
theorem dX11_chosen_6 : decode cX11_chosen 6 = .ok (.getfield 235, 3) := by decide +kernel
theorem dX11_chosen_9 : decode cX11_chosen 9 = .ok (.if_icmp .ge 30, 3) := by decide +kernel
theorem dX11_chosen_12 : decode cX11_chosen 12 = .ok (.aload_n 0, 1) := by decide +kernel
theorem dX11_chosen_13 : decode cX11_chosen 13 = .ok (.iload_n 3, 1) := by decide +kernel
theorem dX11_chosen_14 : decode cX11_chosen 14 = .ok (.iload_n 1, 1) := by decide +kernel
theorem dX11_chosen_15 : decode cX11_chosen 15 = .ok (.invokevirtual 377, 3) := by decide +kernel
theorem dX11_chosen_18 : decode cX11_chosen 18 = .ok (.aload_n 0, 1) := by decide +kernel
theorem dX11_chosen_19 : decode cX11_chosen 19 = .ok (.iload_n 2, 1) := by decide +kernel
theorem dX11_chosen_20 : decode cX11_chosen 20 = .ok (.iload_n 1, 1) := by decide +kernel
theorem dX11_chosen_21 : decode cX11_chosen 21 = .ok (.invokevirtual 377, 3) := by decide +kernel
theorem dX11_chosen_24 : decode cX11_chosen 24 = .ok (.if_icmp .le 7, 3) := by decide +kernel
theorem dX11_chosen_27 : decode cX11_chosen 27 = .ok (.iload_n 3, 1) := by decide +kernel
theorem dX11_chosen_28 : decode cX11_chosen 28 = .ok (.goto 4, 3) := by decide +kernel
theorem dX11_chosen_31 : decode cX11_chosen 31 = .ok (.iload_n 2, 1) := by decide +kernel
theorem dX11_chosen_32 : decode cX11_chosen 32 = .ok (.istore_n 2, 1) := by decide +kernel
theorem dX11_chosen_33 : decode cX11_chosen 33 = .ok (.iinc 3 1, 3) := by decide +kernel
theorem dX11_chosen_36 : decode cX11_chosen 36 = .ok (.goto (-32), 3) := by decide +kernel
theorem dX11_chosen_39 : decode cX11_chosen 39 = .ok (.iload_n 2, 1) := by decide +kernel
theorem dX11_chosen_40 : decode cX11_chosen 40 = .ok (.ireturn, 1) := by decide +kernel
theorem dX11_chooses_0 : decode cX11_chooses 0 = .ok (.aload_n 0, 1) := by decide +kernel
theorem dX11_chooses_1 : decode cX11_chooses 1 = .ok (.getfield 235, 3) := by decide +kernel
theorem dX11_chooses_4 : decode cX11_chooses 4 = .ok (.ifCond .eq 12, 3) := by decide +kernel
theorem dX11_chooses_7 : decode cX11_chooses 7 = .ok (.iload_n 1, 1) := by decide +kernel
theorem dX11_chooses_8 : decode cX11_chooses 8 = .ok (.iconst 0, 1) := by decide +kernel
theorem dX11_chooses_9 : decode cX11_chooses 9 = .ok (.iconst 3, 1) := by decide +kernel
theorem dX11_chooses_10 : decode cX11_chooses 10 = .ok (.invokestatic 198, 3) := by decide +kernel
theorem dX11_chooses_13 : decode cX11_chooses 13 = .ok (.ifCond .ne 5, 3) := by decide +kernel
theorem dX11_chooses_16 : decode cX11_chooses 16 = .ok (.iconst (-1), 1) := by decide +kernel
theorem dX11_chooses_17 : decode cX11_chooses 17 = .ok (.ireturn, 1) := by decide +kernel
theorem dX11_chooses_18 : decode cX11_chooses 18 = .ok (.iload_n 1, 1) := by decide +kernel
theorem dX11_chooses_19 : decode cX11_chooses 19 = .ok (.iconst 3, 1) := by decide +kernel
theorem dX11_chooses_20 : decode cX11_chooses 20 = .ok (.if_icmp .ge 11, 3) := by decide +kernel
theorem dX11_chooses_23 : decode cX11_chooses 23 = .ok (.aload_n 0, 1) := by decide +kernel
theorem dX11_chooses_24 : decode cX11_chooses 24 = .ok (.iload_n 1, 1) := by decide +kernel
theorem dX11_chooses_25 : decode cX11_chooses 25 = .ok (.invokevirtual 380, 3) := by decide +kernel
theorem dX11_chooses_28 : decode cX11_chooses 28 = .ok (.goto 24, 3) := by decide +kernel
theorem dX11_chooses_31 : decode cX11_chooses 31 = .ok (.aload_n 0, 1) := by decide +kernel
theorem dX11_chooses_32 : decode cX11_chooses 32 = .ok (.aload_n 0, 1) := by decide +kernel
theorem dX11_chooses_33 : decode cX11_chooses 33 = .ok (.iconst 1, 1) := by decide +kernel
theorem dX11_chooses_34 : decode cX11_chooses 34 = .ok (.invokevirtual 380, 3) := by decide +kernel
theorem dX11_chooses_37 : decode cX11_chooses 37 = .ok (.iconst 1, 1) := by decide +kernel
theorem dX11_chooses_38 : decode cX11_chooses 38 = .ok (.invokevirtual 377, 3) := by decide +kernel
theorem dX11_chooses_41 : decode cX11_chooses 41 = .ok (.aload_n 0, 1) := by decide +kernel
theorem dX11_chooses_42 : decode cX11_chooses 42 = .ok (.aload_n 0, 1) := by decide +kernel
theorem dX11_chooses_43 : decode cX11_chooses 43 = .ok (.iconst 0, 1) := by decide +kernel
theorem dX11_chooses_44 : decode cX11_chooses 44 = .ok (.invokevirtual 380, 3) := by decide +kernel
theorem dX11_chooses_47 : decode cX11_chooses 47 = .ok (.iconst 1, 1) := by decide +kernel
theorem dX11_chooses_48 : decode cX11_chooses 48 = .ok (.invokevirtual 377, 3) := by decide +kernel
theorem dX11_chooses_51 : decode cX11_chooses 51 = .ok (.isub, 1) := by decide +kernel
theorem dX11_chooses_52 : decode cX11_chooses 52 = .ok (.ireturn, 1) := by decide +kernel
theorem dX11_gameOf_0 : decode cX11_gameOf 0 = .ok (.aload_n 0, 1) := by decide +kernel
theorem dX11_gameOf_1 : decode cX11_gameOf 1 = .ok (.iload_n 3, 1) := by decide +kernel
theorem dX11_gameOf_2 : decode cX11_gameOf 2 = .ok (.iload_n 1, 1) := by decide +kernel
theorem dX11_gameOf_3 : decode cX11_gameOf 3 = .ok (.aload_n 0, 1) := by decide +kernel
theorem dX11_gameOf_4 : decode cX11_gameOf 4 = .ok (.iload_n 1, 1) := by decide +kernel
theorem dX11_gameOf_5 : decode cX11_gameOf 5 = .ok (.iconst 0, 1) := by decide +kernel
theorem dX11_gameOf_6 : decode cX11_gameOf 6 = .ok (.invokevirtual 241, 3) := by decide +kernel
theorem dX11_gameOf_9 : decode cX11_gameOf 9 = .ok (.iload 4, 2) := by decide +kernel
theorem dX11_gameOf_11 : decode cX11_gameOf 11 = .ok (.invokevirtual 279, 3) := by decide +kernel
theorem dX11_gameOf_14 : decode cX11_gameOf 14 = .ok (.aload_n 0, 1) := by decide +kernel
theorem dX11_gameOf_15 : decode cX11_gameOf 15 = .ok (.iload_n 3, 1) := by decide +kernel
theorem dX11_gameOf_16 : decode cX11_gameOf 16 = .ok (.iload_n 2, 1) := by decide +kernel
theorem dX11_gameOf_17 : decode cX11_gameOf 17 = .ok (.aload_n 0, 1) := by decide +kernel
theorem dX11_gameOf_18 : decode cX11_gameOf 18 = .ok (.iload_n 2, 1) := by decide +kernel
theorem dX11_gameOf_19 : decode cX11_gameOf 19 = .ok (.iconst 0, 1) := by decide +kernel
theorem dX11_gameOf_20 : decode cX11_gameOf 20 = .ok (.invokevirtual 241, 3) := by decide +kernel
theorem dX11_gameOf_23 : decode cX11_gameOf 23 = .ok (.iload 5, 2) := by decide +kernel
theorem dX11_gameOf_25 : decode cX11_gameOf 25 = .ok (.invokevirtual 279, 3) := by decide +kernel
theorem dX11_gameOf_28 : decode cX11_gameOf 28 = .ok (.isub, 1) := by decide +kernel
theorem dX11_gameOf_29 : decode cX11_gameOf 29 = .ok (.istore 6, 2) := by decide +kernel
theorem dX11_gameOf_31 : decode cX11_gameOf 31 = .ok (.iload 6, 2) := by decide +kernel
theorem dX11_gameOf_33 : decode cX11_gameOf 33 = .ok (.ifCond .le 8, 3) := by decide +kernel
theorem dX11_gameOf_36 : decode cX11_gameOf 36 = .ok (.bipush 6, 2) := by decide +kernel
theorem dX11_gameOf_38 : decode cX11_gameOf 38 = .ok (.goto 13, 3) := by decide +kernel
theorem dX11_gameOf_41 : decode cX11_gameOf 41 = .ok (.iload 6, 2) := by decide +kernel
theorem dX11_gameOf_43 : decode cX11_gameOf 43 = .ok (.ifCond .ne 7, 3) := by decide +kernel
theorem dX11_gameOf_46 : decode cX11_gameOf 46 = .ok (.iconst 3, 1) := by decide +kernel
theorem dX11_gameOf_47 : decode cX11_gameOf 47 = .ok (.goto 4, 3) := by decide +kernel
theorem dX11_gameOf_50 : decode cX11_gameOf 50 = .ok (.iconst 0, 1) := by decide +kernel
theorem dX11_gameOf_51 : decode cX11_gameOf 51 = .ok (.iload 4, 2) := by decide +kernel
theorem dX11_gameOf_53 : decode cX11_gameOf 53 = .ok (.iconst 2, 1) := by decide +kernel
theorem dX11_gameOf_54 : decode cX11_gameOf 54 = .ok (.idiv, 1) := by decide +kernel
theorem dX11_gameOf_55 : decode cX11_gameOf 55 = .ok (.isub, 1) := by decide +kernel
theorem dX11_gameOf_56 : decode cX11_gameOf 56 = .ok (.ireturn, 1) := by decide +kernel
theorem dX11_areTwo_0 : decode cX11_areTwo 0 = .ok (.aload_n 0, 1) := by decide +kernel
theorem dX11_areTwo_1 : decode cX11_areTwo 1 = .ok (.iload_n 1, 1) := by decide +kernel
theorem dX11_areTwo_2 : decode cX11_areTwo 2 = .ok (.invokevirtual 263, 3) := by decide +kernel
theorem dX11_areTwo_5 : decode cX11_areTwo 5 = .ok (.ifCond .eq 28, 3) := by decide +kernel
theorem dX11_areTwo_8 : decode cX11_areTwo 8 = .ok (.aload_n 0, 1) := by decide +kernel
theorem dX11_areTwo_9 : decode cX11_areTwo 9 = .ok (.iload_n 2, 1) := by decide +kernel
theorem dX11_areTwo_10 : decode cX11_areTwo 10 = .ok (.invokevirtual 263, 3) := by decide +kernel
theorem dX11_areTwo_13 : decode cX11_areTwo 13 = .ok (.ifCond .eq 20, 3) := by decide +kernel
theorem dX11_areTwo_16 : decode cX11_areTwo 16 = .ok (.iload_n 1, 1) := by decide +kernel
theorem dX11_areTwo_17 : decode cX11_areTwo 17 = .ok (.iload_n 2, 1) := by decide +kernel
theorem dX11_areTwo_18 : decode cX11_areTwo 18 = .ok (.if_icmp .eq 15, 3) := by decide +kernel
theorem dX11_areTwo_21 : decode cX11_areTwo 21 = .ok (.aload_n 0, 1) := by decide +kernel
theorem dX11_areTwo_22 : decode cX11_areTwo 22 = .ok (.iload_n 3, 1) := by decide +kernel
theorem dX11_areTwo_23 : decode cX11_areTwo 23 = .ok (.invokevirtual 260, 3) := by decide +kernel
theorem dX11_areTwo_26 : decode cX11_areTwo 26 = .ok (.ifCond .eq 7, 3) := by decide +kernel
theorem dX11_areTwo_29 : decode cX11_areTwo 29 = .ok (.iconst 1, 1) := by decide +kernel
theorem dX11_areTwo_30 : decode cX11_areTwo 30 = .ok (.goto 4, 3) := by decide +kernel
theorem dX11_areTwo_33 : decode cX11_areTwo 33 = .ok (.iconst 0, 1) := by decide +kernel
theorem dX11_areTwo_34 : decode cX11_areTwo 34 = .ok (.ireturn, 1) := by decide +kernel
theorem dX11_game_0 : decode cX11_game 0 = .ok (.aload_n 0, 1) := by decide +kernel
theorem dX11_game_1 : decode cX11_game 1 = .ok (.iload_n 1, 1) := by decide +kernel
theorem dX11_game_2 : decode cX11_game 2 = .ok (.iload_n 2, 1) := by decide +kernel
theorem dX11_game_3 : decode cX11_game 3 = .ok (.iload_n 3, 1) := by decide +kernel
theorem dX11_game_4 : decode cX11_game 4 = .ok (.invokevirtual 383, 3) := by decide +kernel
theorem dX11_game_7 : decode cX11_game 7 = .ok (.ifCond .eq 35, 3) := by decide +kernel
theorem dX11_game_10 : decode cX11_game 10 = .ok (.iload 4, 2) := by decide +kernel
theorem dX11_game_12 : decode cX11_game 12 = .ok (.iconst 0, 1) := by decide +kernel
theorem dX11_game_13 : decode cX11_game 13 = .ok (.bipush 9, 2) := by decide +kernel
theorem dX11_game_15 : decode cX11_game 15 = .ok (.invokestatic 198, 3) := by decide +kernel
theorem dX11_game_18 : decode cX11_game 18 = .ok (.ifCond .eq 24, 3) := by decide +kernel
theorem dX11_game_21 : decode cX11_game 21 = .ok (.iload 5, 2) := by decide +kernel
theorem dX11_game_23 : decode cX11_game 23 = .ok (.iconst 0, 1) := by decide +kernel
theorem dX11_game_24 : decode cX11_game 24 = .ok (.bipush 9, 2) := by decide +kernel
theorem dX11_game_26 : decode cX11_game 26 = .ok (.invokestatic 198, 3) := by decide +kernel
theorem dX11_game_29 : decode cX11_game 29 = .ok (.ifCond .eq 13, 3) := by decide +kernel
theorem dX11_game_32 : decode cX11_game 32 = .ok (.iload 6, 2) := by decide +kernel
theorem dX11_game_34 : decode cX11_game 34 = .ok (.iconst 0, 1) := by decide +kernel
theorem dX11_game_35 : decode cX11_game 35 = .ok (.iconst 1, 1) := by decide +kernel
theorem dX11_game_36 : decode cX11_game 36 = .ok (.invokestatic 198, 3) := by decide +kernel
theorem dX11_game_39 : decode cX11_game 39 = .ok (.ifCond .ne 7, 3) := by decide +kernel
theorem dX11_game_42 : decode cX11_game 42 = .ok (.ldc_w 386, 3) := by decide +kernel
theorem dX11_game_45 : decode cX11_game 45 = .ok (.ireturn, 1) := by decide +kernel
theorem dX11_game_46 : decode cX11_game 46 = .ok (.iload 6, 2) := by decide +kernel
theorem dX11_game_48 : decode cX11_game 48 = .ok (.ifCond .ne 17, 3) := by decide +kernel
theorem dX11_game_51 : decode cX11_game 51 = .ok (.aload_n 0, 1) := by decide +kernel
theorem dX11_game_52 : decode cX11_game 52 = .ok (.iload_n 1, 1) := by decide +kernel
theorem dX11_game_53 : decode cX11_game 53 = .ok (.iload_n 2, 1) := by decide +kernel
theorem dX11_game_54 : decode cX11_game 54 = .ok (.iload_n 3, 1) := by decide +kernel
theorem dX11_game_55 : decode cX11_game 55 = .ok (.iload 4, 2) := by decide +kernel
theorem dX11_game_57 : decode cX11_game 57 = .ok (.iload 5, 2) := by decide +kernel
theorem dX11_game_59 : decode cX11_game 59 = .ok (.invokevirtual 387, 3) := by decide +kernel
theorem dX11_game_62 : decode cX11_game 62 = .ok (.goto 14, 3) := by decide +kernel
theorem dX11_game_65 : decode cX11_game 65 = .ok (.aload_n 0, 1) := by decide +kernel
theorem dX11_game_66 : decode cX11_game 66 = .ok (.iload_n 2, 1) := by decide +kernel
theorem dX11_game_67 : decode cX11_game 67 = .ok (.iload_n 1, 1) := by decide +kernel
theorem dX11_game_68 : decode cX11_game 68 = .ok (.iload_n 3, 1) := by decide +kernel
theorem dX11_game_69 : decode cX11_game 69 = .ok (.iload 5, 2) := by decide +kernel
theorem dX11_game_71 : decode cX11_game 71 = .ok (.iload 4, 2) := by decide +kernel
theorem dX11_game_73 : decode cX11_game 73 = .ok (.invokevirtual 387, 3) := by decide +kernel
theorem dX11_game_76 : decode cX11_game 76 = .ok (.ireturn, 1) := by decide +kernel
theorem dX11_isRest_0 : decode cX11_isRest 0 = .ok (.iconst 0, 1) := by decide +kernel
theorem dX11_isRest_1 : decode cX11_isRest 1 = .ok (.istore 6, 2) := by decide +kernel
theorem dX11_isRest_3 : decode cX11_isRest 3 = .ok (.iload 6, 2) := by decide +kernel
theorem dX11_isRest_5 : decode cX11_isRest 5 = .ok (.bipush 9, 2) := by decide +kernel
theorem dX11_isRest_7 : decode cX11_isRest 7 = .ok (.if_icmp .gt 61, 3) := by decide +kernel
theorem dX11_isRest_10 : decode cX11_isRest 10 = .ok (.aload_n 0, 1) := by decide +kernel
theorem dX11_isRest_11 : decode cX11_isRest 11 = .ok (.iload_n 1, 1) := by decide +kernel
theorem dX11_isRest_12 : decode cX11_isRest 12 = .ok (.iload_n 2, 1) := by decide +kernel
theorem dX11_isRest_13 : decode cX11_isRest 13 = .ok (.iload_n 3, 1) := by decide +kernel
theorem dX11_isRest_14 : decode cX11_isRest 14 = .ok (.iload 6, 2) := by decide +kernel
theorem dX11_isRest_16 : decode cX11_isRest 16 = .ok (.iload 5, 2) := by decide +kernel
theorem dX11_isRest_18 : decode cX11_isRest 18 = .ok (.invokevirtual 387, 3) := by decide +kernel
theorem dX11_isRest_21 : decode cX11_isRest 21 = .ok (.aload_n 0, 1) := by decide +kernel
theorem dX11_isRest_22 : decode cX11_isRest 22 = .ok (.iload_n 1, 1) := by decide +kernel
theorem dX11_isRest_23 : decode cX11_isRest 23 = .ok (.iload_n 2, 1) := by decide +kernel
theorem dX11_isRest_24 : decode cX11_isRest 24 = .ok (.iload_n 3, 1) := by decide +kernel
theorem dX11_isRest_25 : decode cX11_isRest 25 = .ok (.iload 4, 2) := by decide +kernel
theorem dX11_isRest_27 : decode cX11_isRest 27 = .ok (.iload 5, 2) := by decide +kernel
theorem dX11_isRest_29 : decode cX11_isRest 29 = .ok (.invokevirtual 387, 3) := by decide +kernel
theorem dX11_isRest_32 : decode cX11_isRest 32 = .ok (.if_icmp .gt 28, 3) := by decide +kernel
theorem dX11_isRest_35 : decode cX11_isRest 35 = .ok (.aload_n 0, 1) := by decide +kernel
theorem dX11_isRest_36 : decode cX11_isRest 36 = .ok (.iload_n 2, 1) := by decide +kernel
theorem dX11_isRest_37 : decode cX11_isRest 37 = .ok (.iload_n 1, 1) := by decide +kernel
theorem dX11_isRest_38 : decode cX11_isRest 38 = .ok (.iload_n 3, 1) := by decide +kernel
theorem dX11_isRest_39 : decode cX11_isRest 39 = .ok (.iload 6, 2) := by decide +kernel
theorem dX11_isRest_41 : decode cX11_isRest 41 = .ok (.iload 4, 2) := by decide +kernel
theorem dX11_isRest_43 : decode cX11_isRest 43 = .ok (.invokevirtual 387, 3) := by decide +kernel
theorem dX11_isRest_46 : decode cX11_isRest 46 = .ok (.aload_n 0, 1) := by decide +kernel
theorem dX11_isRest_47 : decode cX11_isRest 47 = .ok (.iload_n 2, 1) := by decide +kernel
theorem dX11_isRest_48 : decode cX11_isRest 48 = .ok (.iload_n 1, 1) := by decide +kernel
theorem dX11_isRest_49 : decode cX11_isRest 49 = .ok (.iload_n 3, 1) := by decide +kernel
theorem dX11_isRest_50 : decode cX11_isRest 50 = .ok (.iload 5, 2) := by decide +kernel
theorem dX11_isRest_52 : decode cX11_isRest 52 = .ok (.iload 4, 2) := by decide +kernel
theorem dX11_isRest_54 : decode cX11_isRest 54 = .ok (.invokevirtual 387, 3) := by decide +kernel
theorem dX11_isRest_57 : decode cX11_isRest 57 = .ok (.if_icmp .le 5, 3) := by decide +kernel
theorem dX11_isRest_60 : decode cX11_isRest 60 = .ok (.iconst 0, 1) := by decide +kernel
theorem dX11_isRest_61 : decode cX11_isRest 61 = .ok (.ireturn, 1) := by decide +kernel
theorem dX11_isRest_62 : decode cX11_isRest 62 = .ok (.iinc 6 1, 3) := by decide +kernel
theorem dX11_isRest_65 : decode cX11_isRest 65 = .ok (.goto (-62), 3) := by decide +kernel
theorem dX11_isRest_68 : decode cX11_isRest 68 = .ok (.iconst 1, 1) := by decide +kernel
theorem dX11_isRest_69 : decode cX11_isRest 69 = .ok (.ireturn, 1) := by decide +kernel
theorem dX11_rests_0 : decode cX11_rests 0 = .ok (.aload_n 0, 1) := by decide +kernel
theorem dX11_rests_1 : decode cX11_rests 1 = .ok (.iload_n 1, 1) := by decide +kernel
theorem dX11_rests_2 : decode cX11_rests 2 = .ok (.iload_n 2, 1) := by decide +kernel
theorem dX11_rests_3 : decode cX11_rests 3 = .ok (.iload_n 3, 1) := by decide +kernel
theorem dX11_rests_4 : decode cX11_rests 4 = .ok (.invokevirtual 383, 3) := by decide +kernel
theorem dX11_rests_7 : decode cX11_rests 7 = .ok (.ifCond .eq 9, 3) := by decide +kernel
theorem dX11_rests_10 : decode cX11_rests 10 = .ok (.iload 4, 2) := by decide +kernel
theorem dX11_rests_12 : decode cX11_rests 12 = .ok (.iconst (-1), 1) := by decide +kernel
theorem dX11_rests_13 : decode cX11_rests 13 = .ok (.if_icmp .ge 5, 3) := by decide +kernel
theorem dX11_rests_16 : decode cX11_rests 16 = .ok (.iconst (-1), 1) := by decide +kernel
theorem dX11_rests_17 : decode cX11_rests 17 = .ok (.ireturn, 1) := by decide +kernel
theorem dX11_rests_18 : decode cX11_rests 18 = .ok (.iconst 0, 1) := by decide +kernel
theorem dX11_rests_19 : decode cX11_rests 19 = .ok (.istore 5, 2) := by decide +kernel
theorem dX11_rests_21 : decode cX11_rests 21 = .ok (.iconst 0, 1) := by decide +kernel
theorem dX11_rests_22 : decode cX11_rests 22 = .ok (.istore 6, 2) := by decide +kernel
theorem dX11_rests_24 : decode cX11_rests 24 = .ok (.iload 6, 2) := by decide +kernel
theorem dX11_rests_26 : decode cX11_rests 26 = .ok (.bipush 100, 2) := by decide +kernel
theorem dX11_rests_28 : decode cX11_rests 28 = .ok (.if_icmp .ge 42, 3) := by decide +kernel
theorem dX11_rests_31 : decode cX11_rests 31 = .ok (.aload_n 0, 1) := by decide +kernel
theorem dX11_rests_32 : decode cX11_rests 32 = .ok (.iload_n 1, 1) := by decide +kernel
theorem dX11_rests_33 : decode cX11_rests 33 = .ok (.iload_n 2, 1) := by decide +kernel
theorem dX11_rests_34 : decode cX11_rests 34 = .ok (.iload_n 3, 1) := by decide +kernel
theorem dX11_rests_35 : decode cX11_rests 35 = .ok (.iload 6, 2) := by decide +kernel
theorem dX11_rests_37 : decode cX11_rests 37 = .ok (.bipush 10, 2) := by decide +kernel
theorem dX11_rests_39 : decode cX11_rests 39 = .ok (.idiv, 1) := by decide +kernel
theorem dX11_rests_40 : decode cX11_rests 40 = .ok (.iload 6, 2) := by decide +kernel
theorem dX11_rests_42 : decode cX11_rests 42 = .ok (.bipush 10, 2) := by decide +kernel
theorem dX11_rests_44 : decode cX11_rests 44 = .ok (.irem, 1) := by decide +kernel
theorem dX11_rests_45 : decode cX11_rests 45 = .ok (.invokevirtual 391, 3) := by decide +kernel
theorem dX11_rests_48 : decode cX11_rests 48 = .ok (.ifCond .eq 16, 3) := by decide +kernel
theorem dX11_rests_51 : decode cX11_rests 51 = .ok (.iload 5, 2) := by decide +kernel
theorem dX11_rests_53 : decode cX11_rests 53 = .ok (.iload 4, 2) := by decide +kernel
theorem dX11_rests_55 : decode cX11_rests 55 = .ok (.if_icmp .ne 6, 3) := by decide +kernel
theorem dX11_rests_58 : decode cX11_rests 58 = .ok (.iload 6, 2) := by decide +kernel
theorem dX11_rests_60 : decode cX11_rests 60 = .ok (.ireturn, 1) := by decide +kernel
theorem dX11_rests_61 : decode cX11_rests 61 = .ok (.iinc 5 1, 3) := by decide +kernel
theorem dX11_rests_64 : decode cX11_rests 64 = .ok (.iinc 6 1, 3) := by decide +kernel
theorem dX11_rests_67 : decode cX11_rests 67 = .ok (.goto (-43), 3) := by decide +kernel
theorem dX11_rests_70 : decode cX11_rests 70 = .ok (.iload 4, 2) := by decide +kernel
theorem dX11_rests_72 : decode cX11_rests 72 = .ok (.iconst (-1), 1) := by decide +kernel
theorem dX11_rests_73 : decode cX11_rests 73 = .ok (.if_icmp .ne 8, 3) := by decide +kernel
theorem dX11_rests_76 : decode cX11_rests 76 = .ok (.iload 5, 2) := by decide +kernel
theorem dX11_rests_78 : decode cX11_rests 78 = .ok (.goto 4, 3) := by decide +kernel
theorem dX11_rests_81 : decode cX11_rests 81 = .ok (.iconst (-1), 1) := by decide +kernel
theorem dX11_rests_82 : decode cX11_rests 82 = .ok (.ireturn, 1) := by decide +kernel
theorem dX11_truth_0 : decode cX11_truth 0 = .ok (.aload_n 0, 1) := by decide +kernel
theorem dX11_truth_1 : decode cX11_truth 1 = .ok (.iload_n 1, 1) := by decide +kernel
theorem dX11_truth_2 : decode cX11_truth 2 = .ok (.iload_n 2, 1) := by decide +kernel
theorem dX11_truth_3 : decode cX11_truth 3 = .ok (.invokevirtual 286, 3) := by decide +kernel
theorem dX11_truth_6 : decode cX11_truth 6 = .ok (.ifCond .ne 7, 3) := by decide +kernel
theorem dX11_truth_9 : decode cX11_truth 9 = .ok (.iconst (-1), 1) := by decide +kernel
theorem dX11_truth_10 : decode cX11_truth 10 = .ok (.goto 44, 3) := by decide +kernel
theorem dX11_truth_13 : decode cX11_truth 13 = .ok (.aload_n 0, 1) := by decide +kernel
theorem dX11_truth_14 : decode cX11_truth 14 = .ok (.getfield 58, 3) := by decide +kernel
theorem dX11_truth_17 : decode cX11_truth 17 = .ok (.iconst 0, 1) := by decide +kernel
theorem dX11_truth_18 : decode cX11_truth 18 = .ok (.iload_n 2, 1) := by decide +kernel
theorem dX11_truth_19 : decode cX11_truth 19 = .ok (.iadd, 1) := by decide +kernel
theorem dX11_truth_20 : decode cX11_truth 20 = .ok (.iaload, 1) := by decide +kernel
theorem dX11_truth_21 : decode cX11_truth 21 = .ok (.aload_n 0, 1) := by decide +kernel
theorem dX11_truth_22 : decode cX11_truth 22 = .ok (.getfield 58, 3) := by decide +kernel
theorem dX11_truth_25 : decode cX11_truth 25 = .ok (.bipush 6, 2) := by decide +kernel
theorem dX11_truth_27 : decode cX11_truth 27 = .ok (.iload_n 1, 1) := by decide +kernel
theorem dX11_truth_28 : decode cX11_truth 28 = .ok (.iadd, 1) := by decide +kernel
theorem dX11_truth_29 : decode cX11_truth 29 = .ok (.iaload, 1) := by decide +kernel
theorem dX11_truth_30 : decode cX11_truth 30 = .ok (.aload_n 0, 1) := by decide +kernel
theorem dX11_truth_31 : decode cX11_truth 31 = .ok (.iload_n 1, 1) := by decide +kernel
theorem dX11_truth_32 : decode cX11_truth 32 = .ok (.aload_n 0, 1) := by decide +kernel
theorem dX11_truth_33 : decode cX11_truth 33 = .ok (.getfield 58, 3) := by decide +kernel
theorem dX11_truth_36 : decode cX11_truth 36 = .ok (.iconst 0, 1) := by decide +kernel
theorem dX11_truth_37 : decode cX11_truth 37 = .ok (.iload_n 2, 1) := by decide +kernel
theorem dX11_truth_38 : decode cX11_truth 38 = .ok (.iadd, 1) := by decide +kernel
theorem dX11_truth_39 : decode cX11_truth 39 = .ok (.iaload, 1) := by decide +kernel
theorem dX11_truth_40 : decode cX11_truth 40 = .ok (.invokevirtual 268, 3) := by decide +kernel
theorem dX11_truth_43 : decode cX11_truth 43 = .ok (.imul, 1) := by decide +kernel
theorem dX11_truth_44 : decode cX11_truth 44 = .ok (.iconst 3, 1) := by decide +kernel
theorem dX11_truth_45 : decode cX11_truth 45 = .ok (.idiv, 1) := by decide +kernel
theorem dX11_truth_46 : decode cX11_truth 46 = .ok (.if_icmp .gt 7, 3) := by decide +kernel
theorem dX11_truth_49 : decode cX11_truth 49 = .ok (.iconst 1, 1) := by decide +kernel
theorem dX11_truth_50 : decode cX11_truth 50 = .ok (.goto 4, 3) := by decide +kernel
theorem dX11_truth_53 : decode cX11_truth 53 = .ok (.iconst 0, 1) := by decide +kernel
theorem dX11_truth_54 : decode cX11_truth 54 = .ok (.ireturn, 1) := by decide +kernel
theorem dX11_trySends_0 : decode cX11_trySends 0 = .ok (.iload_n 1, 1) := by decide +kernel
theorem dX11_trySends_1 : decode cX11_trySends 1 = .ok (.aload_n 0, 1) := by decide +kernel
theorem dX11_trySends_2 : decode cX11_trySends 2 = .ok (.getfield 235, 3) := by decide +kernel
theorem dX11_trySends_5 : decode cX11_trySends 5 = .ok (.if_icmp .ne 82, 3) := by decide +kernel
theorem dX11_trySends_8 : decode cX11_trySends 8 = .ok (.aload_n 0, 1) := by decide +kernel
theorem dX11_trySends_9 : decode cX11_trySends 9 = .ok (.getfield 395, 3) := by decide +kernel
theorem dX11_trySends_12 : decode cX11_trySends 12 = .ok (.iconst (-1), 1) := by decide +kernel
theorem dX11_trySends_13 : decode cX11_trySends 13 = .ok (.if_icmp .eq 30, 3) := by decide +kernel
theorem dX11_trySends_16 : decode cX11_trySends 16 = .ok (.iload 5, 2) := by decide +kernel
theorem dX11_trySends_18 : decode cX11_trySends 18 = .ok (.aload_n 0, 1) := by decide +kernel
theorem dX11_trySends_19 : decode cX11_trySends 19 = .ok (.getfield 398, 3) := by decide +kernel
theorem dX11_trySends_22 : decode cX11_trySends 22 = .ok (.if_icmp .lt 21, 3) := by decide +kernel
theorem dX11_trySends_25 : decode cX11_trySends 25 = .ok (.iload 5, 2) := by decide +kernel
theorem dX11_trySends_27 : decode cX11_trySends 27 = .ok (.aload_n 0, 1) := by decide +kernel
theorem dX11_trySends_28 : decode cX11_trySends 28 = .ok (.getfield 398, 3) := by decide +kernel
theorem dX11_trySends_31 : decode cX11_trySends 31 = .ok (.if_icmp .ne 16, 3) := by decide +kernel
theorem dX11_trySends_34 : decode cX11_trySends 34 = .ok (.iload 4, 2) := by decide +kernel
theorem dX11_trySends_36 : decode cX11_trySends 36 = .ok (.aload_n 0, 1) := by decide +kernel
theorem dX11_trySends_37 : decode cX11_trySends 37 = .ok (.getfield 395, 3) := by decide +kernel
theorem dX11_trySends_40 : decode cX11_trySends 40 = .ok (.if_icmp .ge 7, 3) := by decide +kernel
theorem dX11_trySends_43 : decode cX11_trySends 43 = .ok (.iconst 1, 1) := by decide +kernel
theorem dX11_trySends_44 : decode cX11_trySends 44 = .ok (.goto 4, 3) := by decide +kernel
theorem dX11_trySends_47 : decode cX11_trySends 47 = .ok (.iconst 0, 1) := by decide +kernel
theorem dX11_trySends_48 : decode cX11_trySends 48 = .ok (.istore 6, 2) := by decide +kernel
theorem dX11_trySends_50 : decode cX11_trySends 50 = .ok (.aload_n 0, 1) := by decide +kernel
theorem dX11_trySends_51 : decode cX11_trySends 51 = .ok (.iload 6, 2) := by decide +kernel
theorem dX11_trySends_53 : decode cX11_trySends 53 = .ok (.ifCond .eq 8, 3) := by decide +kernel
theorem dX11_trySends_56 : decode cX11_trySends 56 = .ok (.iload 4, 2) := by decide +kernel
theorem dX11_trySends_58 : decode cX11_trySends 58 = .ok (.goto 7, 3) := by decide +kernel
theorem dX11_trySends_61 : decode cX11_trySends 61 = .ok (.aload_n 0, 1) := by decide +kernel
theorem dX11_trySends_62 : decode cX11_trySends 62 = .ok (.getfield 395, 3) := by decide +kernel
theorem dX11_trySends_65 : decode cX11_trySends 65 = .ok (.putfield 395, 3) := by decide +kernel
theorem dX11_trySends_68 : decode cX11_trySends 68 = .ok (.aload_n 0, 1) := by decide +kernel
theorem dX11_trySends_69 : decode cX11_trySends 69 = .ok (.iload 6, 2) := by decide +kernel
theorem dX11_trySends_71 : decode cX11_trySends 71 = .ok (.ifCond .eq 8, 3) := by decide +kernel
theorem dX11_trySends_74 : decode cX11_trySends 74 = .ok (.iload 5, 2) := by decide +kernel
theorem dX11_trySends_76 : decode cX11_trySends 76 = .ok (.goto 7, 3) := by decide +kernel
theorem dX11_trySends_79 : decode cX11_trySends 79 = .ok (.aload_n 0, 1) := by decide +kernel
theorem dX11_trySends_80 : decode cX11_trySends 80 = .ok (.getfield 398, 3) := by decide +kernel
theorem dX11_trySends_83 : decode cX11_trySends 83 = .ok (.putfield 398, 3) := by decide +kernel
theorem dX11_trySends_86 : decode cX11_trySends 86 = .ok (.return_, 1) := by decide +kernel
theorem dX11_trySends_87 : decode cX11_trySends 87 = .ok (.iload_n 2, 1) := by decide +kernel
theorem dX11_trySends_88 : decode cX11_trySends 88 = .ok (.iload_n 1, 1) := by decide +kernel
theorem dX11_trySends_89 : decode cX11_trySends 89 = .ok (.invokestatic 209, 3) := by decide +kernel
theorem dX11_trySends_92 : decode cX11_trySends 92 = .ok (.ifCond .ne 17, 3) := by decide +kernel
theorem dX11_trySends_95 : decode cX11_trySends 95 = .ok (.aload_n 0, 1) := by decide +kernel
theorem dX11_trySends_96 : decode cX11_trySends 96 = .ok (.iload_n 1, 1) := by decide +kernel
theorem dX11_trySends_97 : decode cX11_trySends 97 = .ok (.iconst 1, 1) := by decide +kernel
theorem dX11_trySends_98 : decode cX11_trySends 98 = .ok (.iadd, 1) := by decide +kernel
theorem dX11_trySends_99 : decode cX11_trySends 99 = .ok (.iload_n 2, 1) := by decide +kernel
theorem dX11_trySends_100 : decode cX11_trySends 100 = .ok (.iload_n 3, 1) := by decide +kernel
theorem dX11_trySends_101 : decode cX11_trySends 101 = .ok (.iload 4, 2) := by decide +kernel
theorem dX11_trySends_103 : decode cX11_trySends 103 = .ok (.iload 5, 2) := by decide +kernel
theorem dX11_trySends_105 : decode cX11_trySends 105 = .ok (.invokevirtual 401, 3) := by decide +kernel
theorem dX11_trySends_108 : decode cX11_trySends 108 = .ok (.return_, 1) := by decide +kernel
theorem dX11_trySends_109 : decode cX11_trySends 109 = .ok (.iconst 0, 1) := by decide +kernel
theorem dX11_trySends_110 : decode cX11_trySends 110 = .ok (.istore 6, 2) := by decide +kernel
theorem dX11_trySends_112 : decode cX11_trySends 112 = .ok (.iload 6, 2) := by decide +kernel
theorem dX11_trySends_114 : decode cX11_trySends 114 = .ok (.aload_n 0, 1) := by decide +kernel
theorem dX11_trySends_115 : decode cX11_trySends 115 = .ok (.getfield 238, 3) := by decide +kernel
theorem dX11_trySends_118 : decode cX11_trySends 118 = .ok (.if_icmp .ge 50, 3) := by decide +kernel
theorem dX11_trySends_121 : decode cX11_trySends 121 = .ok (.iload_n 3, 1) := by decide +kernel
theorem dX11_trySends_122 : decode cX11_trySends 122 = .ok (.iload 6, 2) := by decide +kernel
theorem dX11_trySends_124 : decode cX11_trySends 124 = .ok (.invokestatic 209, 3) := by decide +kernel
theorem dX11_trySends_127 : decode cX11_trySends 127 = .ok (.ifCond .ne 35, 3) := by decide +kernel
theorem dX11_trySends_130 : decode cX11_trySends 130 = .ok (.aload_n 0, 1) := by decide +kernel
theorem dX11_trySends_131 : decode cX11_trySends 131 = .ok (.iload_n 1, 1) := by decide +kernel
theorem dX11_trySends_132 : decode cX11_trySends 132 = .ok (.iconst 1, 1) := by decide +kernel
theorem dX11_trySends_133 : decode cX11_trySends 133 = .ok (.iadd, 1) := by decide +kernel
theorem dX11_trySends_134 : decode cX11_trySends 134 = .ok (.iload_n 2, 1) := by decide +kernel
theorem dX11_trySends_135 : decode cX11_trySends 135 = .ok (.iload_n 3, 1) := by decide +kernel
theorem dX11_trySends_136 : decode cX11_trySends 136 = .ok (.iconst 1, 1) := by decide +kernel
theorem dX11_trySends_137 : decode cX11_trySends 137 = .ok (.iload 6, 2) := by decide +kernel
theorem dX11_trySends_139 : decode cX11_trySends 139 = .ok (.ishl, 1) := by decide +kernel
theorem dX11_trySends_140 : decode cX11_trySends 140 = .ok (.ior, 1) := by decide +kernel
theorem dX11_trySends_141 : decode cX11_trySends 141 = .ok (.bipush 10, 2) := by decide +kernel
theorem dX11_trySends_143 : decode cX11_trySends 143 = .ok (.iload 4, 2) := by decide +kernel
theorem dX11_trySends_145 : decode cX11_trySends 145 = .ok (.imul, 1) := by decide +kernel
theorem dX11_trySends_146 : decode cX11_trySends 146 = .ok (.iload 6, 2) := by decide +kernel
theorem dX11_trySends_148 : decode cX11_trySends 148 = .ok (.iadd, 1) := by decide +kernel
theorem dX11_trySends_149 : decode cX11_trySends 149 = .ok (.iload 5, 2) := by decide +kernel
theorem dX11_trySends_151 : decode cX11_trySends 151 = .ok (.aload_n 0, 1) := by decide +kernel
theorem dX11_trySends_152 : decode cX11_trySends 152 = .ok (.iload 6, 2) := by decide +kernel
theorem dX11_trySends_154 : decode cX11_trySends 154 = .ok (.iconst 1, 1) := by decide +kernel
theorem dX11_trySends_155 : decode cX11_trySends 155 = .ok (.invokevirtual 244, 3) := by decide +kernel
theorem dX11_trySends_158 : decode cX11_trySends 158 = .ok (.iadd, 1) := by decide +kernel
theorem dX11_trySends_159 : decode cX11_trySends 159 = .ok (.invokevirtual 401, 3) := by decide +kernel
theorem dX11_trySends_162 : decode cX11_trySends 162 = .ok (.iinc 6 1, 3) := by decide +kernel
theorem dX11_trySends_165 : decode cX11_trySends 165 = .ok (.goto (-53), 3) := by decide +kernel
theorem dX11_trySends_168 : decode cX11_trySends 168 = .ok (.return_, 1) := by decide +kernel
theorem dX11_cheapest_0 : decode cX11_cheapest 0 = .ok (.aload_n 0, 1) := by decide +kernel
theorem dX11_cheapest_1 : decode cX11_cheapest 1 = .ok (.getfield 235, 3) := by decide +kernel
theorem dX11_cheapest_4 : decode cX11_cheapest 4 = .ok (.ifCond .eq 28, 3) := by decide +kernel
theorem dX11_cheapest_7 : decode cX11_cheapest 7 = .ok (.iload_n 1, 1) := by decide +kernel
theorem dX11_cheapest_8 : decode cX11_cheapest 8 = .ok (.iconst 1, 1) := by decide +kernel
theorem dX11_cheapest_9 : decode cX11_cheapest 9 = .ok (.iconst 1, 1) := by decide +kernel
theorem dX11_cheapest_10 : decode cX11_cheapest 10 = .ok (.aload_n 0, 1) := by decide +kernel
theorem dX11_cheapest_11 : decode cX11_cheapest 11 = .ok (.getfield 235, 3) := by decide +kernel
theorem dX11_cheapest_14 : decode cX11_cheapest 14 = .ok (.ishl, 1) := by decide +kernel
theorem dX11_cheapest_15 : decode cX11_cheapest 15 = .ok (.iconst 1, 1) := by decide +kernel
theorem dX11_cheapest_16 : decode cX11_cheapest 16 = .ok (.isub, 1) := by decide +kernel
theorem dX11_cheapest_17 : decode cX11_cheapest 17 = .ok (.invokestatic 198, 3) := by decide +kernel
theorem dX11_cheapest_20 : decode cX11_cheapest 20 = .ok (.ifCond .eq 12, 3) := by decide +kernel
theorem dX11_cheapest_23 : decode cX11_cheapest 23 = .ok (.iload_n 2, 1) := by decide +kernel
theorem dX11_cheapest_24 : decode cX11_cheapest 24 = .ok (.iconst 0, 1) := by decide +kernel
theorem dX11_cheapest_25 : decode cX11_cheapest 25 = .ok (.iconst 1, 1) := by decide +kernel
theorem dX11_cheapest_26 : decode cX11_cheapest 26 = .ok (.invokestatic 198, 3) := by decide +kernel
theorem dX11_cheapest_29 : decode cX11_cheapest 29 = .ok (.ifCond .ne 5, 3) := by decide +kernel
theorem dX11_cheapest_32 : decode cX11_cheapest 32 = .ok (.iconst (-1), 1) := by decide +kernel
theorem dX11_cheapest_33 : decode cX11_cheapest 33 = .ok (.ireturn, 1) := by decide +kernel
theorem dX11_cheapest_34 : decode cX11_cheapest 34 = .ok (.aload_n 0, 1) := by decide +kernel
theorem dX11_cheapest_35 : decode cX11_cheapest 35 = .ok (.iconst (-1), 1) := by decide +kernel
theorem dX11_cheapest_36 : decode cX11_cheapest 36 = .ok (.putfield 395, 3) := by decide +kernel
theorem dX11_cheapest_39 : decode cX11_cheapest 39 = .ok (.aload_n 0, 1) := by decide +kernel
theorem dX11_cheapest_40 : decode cX11_cheapest 40 = .ok (.iconst 0, 1) := by decide +kernel
theorem dX11_cheapest_41 : decode cX11_cheapest 41 = .ok (.iload_n 1, 1) := by decide +kernel
theorem dX11_cheapest_42 : decode cX11_cheapest 42 = .ok (.iconst 0, 1) := by decide +kernel
theorem dX11_cheapest_43 : decode cX11_cheapest 43 = .ok (.iconst 0, 1) := by decide +kernel
theorem dX11_cheapest_44 : decode cX11_cheapest 44 = .ok (.iconst 0, 1) := by decide +kernel
theorem dX11_cheapest_45 : decode cX11_cheapest 45 = .ok (.invokevirtual 401, 3) := by decide +kernel
theorem dX11_cheapest_48 : decode cX11_cheapest 48 = .ok (.aload_n 0, 1) := by decide +kernel
theorem dX11_cheapest_49 : decode cX11_cheapest 49 = .ok (.getfield 395, 3) := by decide +kernel
theorem dX11_cheapest_52 : decode cX11_cheapest 52 = .ok (.iconst (-1), 1) := by decide +kernel
theorem dX11_cheapest_53 : decode cX11_cheapest 53 = .ok (.if_icmp .eq 8, 3) := by decide +kernel
theorem dX11_cheapest_56 : decode cX11_cheapest 56 = .ok (.iload_n 2, 1) := by decide +kernel
theorem dX11_cheapest_57 : decode cX11_cheapest 57 = .ok (.iconst 1, 1) := by decide +kernel
theorem dX11_cheapest_58 : decode cX11_cheapest 58 = .ok (.if_icmp .ne 10, 3) := by decide +kernel
theorem dX11_cheapest_61 : decode cX11_cheapest 61 = .ok (.aload_n 0, 1) := by decide +kernel
theorem dX11_cheapest_62 : decode cX11_cheapest 62 = .ok (.getfield 395, 3) := by decide +kernel
theorem dX11_cheapest_65 : decode cX11_cheapest 65 = .ok (.goto 7, 3) := by decide +kernel
theorem dX11_cheapest_68 : decode cX11_cheapest 68 = .ok (.aload_n 0, 1) := by decide +kernel
theorem dX11_cheapest_69 : decode cX11_cheapest 69 = .ok (.getfield 398, 3) := by decide +kernel
theorem dX11_cheapest_72 : decode cX11_cheapest 72 = .ok (.ireturn, 1) := by decide +kernel
theorem dX11_looks_0 : decode cX11_looks 0 = .ok (.aload_n 0, 1) := by decide +kernel
theorem dX11_looks_1 : decode cX11_looks 1 = .ok (.iload_n 1, 1) := by decide +kernel
theorem dX11_looks_2 : decode cX11_looks 2 = .ok (.invokevirtual 263, 3) := by decide +kernel
theorem dX11_looks_5 : decode cX11_looks 5 = .ok (.ifCond .eq 26, 3) := by decide +kernel
theorem dX11_looks_8 : decode cX11_looks 8 = .ok (.aload_n 0, 1) := by decide +kernel
theorem dX11_looks_9 : decode cX11_looks 9 = .ok (.iload_n 1, 1) := by decide +kernel
theorem dX11_looks_10 : decode cX11_looks 10 = .ok (.invokevirtual 307, 3) := by decide +kernel
theorem dX11_looks_13 : decode cX11_looks 13 = .ok (.ifCond .le 18, 3) := by decide +kernel
theorem dX11_looks_16 : decode cX11_looks 16 = .ok (.aload_n 0, 1) := by decide +kernel
theorem dX11_looks_17 : decode cX11_looks 17 = .ok (.iload_n 1, 1) := by decide +kernel
theorem dX11_looks_18 : decode cX11_looks 18 = .ok (.invokevirtual 310, 3) := by decide +kernel
theorem dX11_looks_21 : decode cX11_looks 21 = .ok (.aload_n 0, 1) := by decide +kernel
theorem dX11_looks_22 : decode cX11_looks 22 = .ok (.iload_n 1, 1) := by decide +kernel
theorem dX11_looks_23 : decode cX11_looks 23 = .ok (.iconst 0, 1) := by decide +kernel
theorem dX11_looks_24 : decode cX11_looks 24 = .ok (.invokevirtual 241, 3) := by decide +kernel
theorem dX11_looks_27 : decode cX11_looks 27 = .ok (.isub, 1) := by decide +kernel
theorem dX11_looks_28 : decode cX11_looks 28 = .ok (.goto 6, 3) := by decide +kernel
theorem dX11_looks_31 : decode cX11_looks 31 = .ok (.ldc_w 386, 3) := by decide +kernel
theorem dX11_looks_34 : decode cX11_looks 34 = .ok (.ireturn, 1) := by decide +kernel
theorem dX11_whose_0 : decode cX11_whose 0 = .ok (.aload_n 0, 1) := by decide +kernel
theorem dX11_whose_1 : decode cX11_whose 1 = .ok (.iload_n 1, 1) := by decide +kernel
theorem dX11_whose_2 : decode cX11_whose 2 = .ok (.invokevirtual 260, 3) := by decide +kernel
theorem dX11_whose_5 : decode cX11_whose 5 = .ok (.ifCond .eq 13, 3) := by decide +kernel
theorem dX11_whose_8 : decode cX11_whose 8 = .ok (.iload_n 2, 1) := by decide +kernel
theorem dX11_whose_9 : decode cX11_whose 9 = .ok (.iconst 0, 1) := by decide +kernel
theorem dX11_whose_10 : decode cX11_whose 10 = .ok (.bipush 9, 2) := by decide +kernel
theorem dX11_whose_12 : decode cX11_whose 12 = .ok (.invokestatic 198, 3) := by decide +kernel
theorem dX11_whose_15 : decode cX11_whose 15 = .ok (.ifCond .ne 5, 3) := by decide +kernel
theorem dX11_whose_18 : decode cX11_whose 18 = .ok (.iconst (-1), 1) := by decide +kernel
theorem dX11_whose_19 : decode cX11_whose 19 = .ok (.ireturn, 1) := by decide +kernel
theorem dX11_whose_20 : decode cX11_whose 20 = .ok (.iconst 0, 1) := by decide +kernel
theorem dX11_whose_21 : decode cX11_whose 21 = .ok (.istore_n 3, 1) := by decide +kernel
theorem dX11_whose_22 : decode cX11_whose 22 = .ok (.iconst 0, 1) := by decide +kernel
theorem dX11_whose_23 : decode cX11_whose 23 = .ok (.istore 4, 2) := by decide +kernel
theorem dX11_whose_25 : decode cX11_whose 25 = .ok (.iload 4, 2) := by decide +kernel
theorem dX11_whose_27 : decode cX11_whose 27 = .ok (.aload_n 0, 1) := by decide +kernel
theorem dX11_whose_28 : decode cX11_whose 28 = .ok (.getfield 235, 3) := by decide +kernel
theorem dX11_whose_31 : decode cX11_whose 31 = .ok (.if_icmp .ge 38, 3) := by decide +kernel
theorem dX11_whose_34 : decode cX11_whose 34 = .ok (.iload_n 3, 1) := by decide +kernel
theorem dX11_whose_35 : decode cX11_whose 35 = .ok (.aload_n 0, 1) := by decide +kernel
theorem dX11_whose_36 : decode cX11_whose 36 = .ok (.iload_n 1, 1) := by decide +kernel
theorem dX11_whose_37 : decode cX11_whose 37 = .ok (.iload 4, 2) := by decide +kernel
theorem dX11_whose_39 : decode cX11_whose 39 = .ok (.aload_n 0, 1) := by decide +kernel
theorem dX11_whose_40 : decode cX11_whose 40 = .ok (.iload 4, 2) := by decide +kernel
theorem dX11_whose_42 : decode cX11_whose 42 = .ok (.iconst 0, 1) := by decide +kernel
theorem dX11_whose_43 : decode cX11_whose 43 = .ok (.invokevirtual 241, 3) := by decide +kernel
theorem dX11_whose_46 : decode cX11_whose 46 = .ok (.invokevirtual 292, 3) := by decide +kernel
theorem dX11_whose_49 : decode cX11_whose 49 = .ok (.iload_n 2, 1) := by decide +kernel
theorem dX11_whose_50 : decode cX11_whose 50 = .ok (.if_icmp .ne 10, 3) := by decide +kernel
theorem dX11_whose_53 : decode cX11_whose 53 = .ok (.iconst 1, 1) := by decide +kernel
theorem dX11_whose_54 : decode cX11_whose 54 = .ok (.iload 4, 2) := by decide +kernel
theorem dX11_whose_56 : decode cX11_whose 56 = .ok (.ishl, 1) := by decide +kernel
theorem dX11_whose_57 : decode cX11_whose 57 = .ok (.goto 4, 3) := by decide +kernel
theorem dX11_whose_60 : decode cX11_whose 60 = .ok (.iconst 0, 1) := by decide +kernel
theorem dX11_whose_61 : decode cX11_whose 61 = .ok (.ior, 1) := by decide +kernel
theorem dX11_whose_62 : decode cX11_whose 62 = .ok (.istore_n 3, 1) := by decide +kernel
theorem dX11_whose_63 : decode cX11_whose 63 = .ok (.iinc 4 1, 3) := by decide +kernel
theorem dX11_whose_66 : decode cX11_whose 66 = .ok (.goto (-41), 3) := by decide +kernel
theorem dX11_whose_69 : decode cX11_whose 69 = .ok (.iload_n 3, 1) := by decide +kernel
theorem dX11_whose_70 : decode cX11_whose 70 = .ok (.ireturn, 1) := by decide +kernel
theorem dX11_heads_0 : decode cX11_heads 0 = .ok (.aload_n 0, 1) := by decide +kernel
theorem dX11_heads_1 : decode cX11_heads 1 = .ok (.iload_n 1, 1) := by decide +kernel
theorem dX11_heads_2 : decode cX11_heads 2 = .ok (.invokevirtual 260, 3) := by decide +kernel
theorem dX11_heads_5 : decode cX11_heads 5 = .ok (.ifCond .eq 23, 3) := by decide +kernel
theorem dX11_heads_8 : decode cX11_heads 8 = .ok (.iload_n 2, 1) := by decide +kernel
theorem dX11_heads_9 : decode cX11_heads 9 = .ok (.iconst 0, 1) := by decide +kernel
theorem dX11_heads_10 : decode cX11_heads 10 = .ok (.bipush 20, 2) := by decide +kernel
theorem dX11_heads_12 : decode cX11_heads 12 = .ok (.invokestatic 198, 3) := by decide +kernel
theorem dX11_heads_15 : decode cX11_heads 15 = .ok (.ifCond .eq 13, 3) := by decide +kernel
theorem dX11_heads_18 : decode cX11_heads 18 = .ok (.iload_n 3, 1) := by decide +kernel
theorem dX11_heads_19 : decode cX11_heads 19 = .ok (.iconst 0, 1) := by decide +kernel
theorem dX11_heads_20 : decode cX11_heads 20 = .ok (.bipush 100, 2) := by decide +kernel
theorem dX11_heads_22 : decode cX11_heads 22 = .ok (.invokestatic 198, 3) := by decide +kernel
theorem dX11_heads_25 : decode cX11_heads 25 = .ok (.ifCond .ne 5, 3) := by decide +kernel
theorem dX11_heads_28 : decode cX11_heads 28 = .ok (.iconst (-1), 1) := by decide +kernel
theorem dX11_heads_29 : decode cX11_heads 29 = .ok (.ireturn, 1) := by decide +kernel
theorem dX11_heads_30 : decode cX11_heads 30 = .ok (.aload_n 0, 1) := by decide +kernel
theorem dX11_heads_31 : decode cX11_heads 31 = .ok (.getfield 58, 3) := by decide +kernel
theorem dX11_heads_34 : decode cX11_heads 34 = .ok (.bipush 6, 2) := by decide +kernel
theorem dX11_heads_36 : decode cX11_heads 36 = .ok (.iload_n 1, 1) := by decide +kernel
theorem dX11_heads_37 : decode cX11_heads 37 = .ok (.iadd, 1) := by decide +kernel
theorem dX11_heads_38 : decode cX11_heads 38 = .ok (.iaload, 1) := by decide +kernel
theorem dX11_heads_39 : decode cX11_heads 39 = .ok (.iconst 5, 1) := by decide +kernel
theorem dX11_heads_40 : decode cX11_heads 40 = .ok (.if_icmp .le 9, 3) := by decide +kernel
theorem dX11_heads_43 : decode cX11_heads 43 = .ok (.iload_n 3, 1) := by decide +kernel
theorem dX11_heads_44 : decode cX11_heads 44 = .ok (.iconst 2, 1) := by decide +kernel
theorem dX11_heads_45 : decode cX11_heads 45 = .ok (.idiv, 1) := by decide +kernel
theorem dX11_heads_46 : decode cX11_heads 46 = .ok (.goto 4, 3) := by decide +kernel
theorem dX11_heads_49 : decode cX11_heads 49 = .ok (.iload_n 3, 1) := by decide +kernel
theorem dX11_heads_50 : decode cX11_heads 50 = .ok (.istore 4, 2) := by decide +kernel
theorem dX11_heads_52 : decode cX11_heads 52 = .ok (.ldc2_w 405, 3) := by decide +kernel
theorem dX11_heads_55 : decode cX11_heads 55 = .ok (.lstore 5, 2) := by decide +kernel
theorem dX11_heads_57 : decode cX11_heads 57 = .ok (.iconst 0, 1) := by decide +kernel
theorem dX11_heads_58 : decode cX11_heads 58 = .ok (.istore 7, 2) := by decide +kernel
theorem dX11_heads_60 : decode cX11_heads 60 = .ok (.iload 7, 2) := by decide +kernel
theorem dX11_heads_62 : decode cX11_heads 62 = .ok (.iload_n 2, 1) := by decide +kernel
theorem dX11_heads_63 : decode cX11_heads 63 = .ok (.if_icmp .ge 24, 3) := by decide +kernel
theorem dX11_heads_66 : decode cX11_heads 66 = .ok (.lload 5, 2) := by decide +kernel
theorem dX11_heads_68 : decode cX11_heads 68 = .ok (.lload 5, 2) := by decide +kernel
theorem dX11_heads_70 : decode cX11_heads 70 = .ok (.iload 4, 2) := by decide +kernel
theorem dX11_heads_72 : decode cX11_heads 72 = .ok (.i2l, 1) := by decide +kernel
theorem dX11_heads_73 : decode cX11_heads 73 = .ok (.lmul, 1) := by decide +kernel
theorem dX11_heads_74 : decode cX11_heads 74 = .ok (.ldc2_w 407, 3) := by decide +kernel
theorem dX11_heads_77 : decode cX11_heads 77 = .ok (.ldiv, 1) := by decide +kernel
theorem dX11_heads_78 : decode cX11_heads 78 = .ok (.lsub, 1) := by decide +kernel
theorem dX11_heads_79 : decode cX11_heads 79 = .ok (.lstore 5, 2) := by decide +kernel
theorem dX11_heads_81 : decode cX11_heads 81 = .ok (.iinc 7 1, 3) := by decide +kernel
theorem dX11_heads_84 : decode cX11_heads 84 = .ok (.goto (-24), 3) := by decide +kernel
theorem dX11_heads_87 : decode cX11_heads 87 = .ok (.lload 5, 2) := by decide +kernel
theorem dX11_heads_89 : decode cX11_heads 89 = .ok (.l2i, 1) := by decide +kernel
theorem dX11_heads_90 : decode cX11_heads 90 = .ok (.ireturn, 1) := by decide +kernel
theorem dX11_asksNext_0 : decode cX11_asksNext 0 = .ok (.iconst (-1), 1) := by decide +kernel
theorem dX11_asksNext_1 : decode cX11_asksNext 1 = .ok (.istore_n 2, 1) := by decide +kernel
theorem dX11_asksNext_2 : decode cX11_asksNext 2 = .ok (.iconst 0, 1) := by decide +kernel
theorem dX11_asksNext_3 : decode cX11_asksNext 3 = .ok (.istore_n 3, 1) := by decide +kernel
theorem dX11_asksNext_4 : decode cX11_asksNext 4 = .ok (.iload_n 3, 1) := by decide +kernel
theorem dX11_asksNext_5 : decode cX11_asksNext 5 = .ok (.aload_n 0, 1) := by decide +kernel
theorem dX11_asksNext_6 : decode cX11_asksNext 6 = .ok (.getfield 238, 3) := by decide +kernel
theorem dX11_asksNext_9 : decode cX11_asksNext 9 = .ok (.if_icmp .ge 48, 3) := by decide +kernel
theorem dX11_asksNext_12 : decode cX11_asksNext 12 = .ok (.aload_n 0, 1) := by decide +kernel
theorem dX11_asksNext_13 : decode cX11_asksNext 13 = .ok (.getfield 74, 3) := by decide +kernel
theorem dX11_asksNext_16 : decode cX11_asksNext 16 = .ok (.iload_n 1, 1) := by decide +kernel
theorem dX11_asksNext_17 : decode cX11_asksNext 17 = .ok (.iaload, 1) := by decide +kernel
theorem dX11_asksNext_18 : decode cX11_asksNext 18 = .ok (.iload_n 3, 1) := by decide +kernel
theorem dX11_asksNext_19 : decode cX11_asksNext 19 = .ok (.invokestatic 209, 3) := by decide +kernel
theorem dX11_asksNext_22 : decode cX11_asksNext 22 = .ok (.ifCond .ne 27, 3) := by decide +kernel
theorem dX11_asksNext_25 : decode cX11_asksNext 25 = .ok (.iload_n 2, 1) := by decide +kernel
theorem dX11_asksNext_26 : decode cX11_asksNext 26 = .ok (.iconst (-1), 1) := by decide +kernel
theorem dX11_asksNext_27 : decode cX11_asksNext 27 = .ok (.if_icmp .eq 18, 3) := by decide +kernel
theorem dX11_asksNext_30 : decode cX11_asksNext 30 = .ok (.aload_n 0, 1) := by decide +kernel
theorem dX11_asksNext_31 : decode cX11_asksNext 31 = .ok (.iload_n 3, 1) := by decide +kernel
theorem dX11_asksNext_32 : decode cX11_asksNext 32 = .ok (.iconst 1, 1) := by decide +kernel
theorem dX11_asksNext_33 : decode cX11_asksNext 33 = .ok (.invokevirtual 244, 3) := by decide +kernel
theorem dX11_asksNext_36 : decode cX11_asksNext 36 = .ok (.aload_n 0, 1) := by decide +kernel
theorem dX11_asksNext_37 : decode cX11_asksNext 37 = .ok (.iload_n 2, 1) := by decide +kernel
theorem dX11_asksNext_38 : decode cX11_asksNext 38 = .ok (.iconst 1, 1) := by decide +kernel
theorem dX11_asksNext_39 : decode cX11_asksNext 39 = .ok (.invokevirtual 244, 3) := by decide +kernel
theorem dX11_asksNext_42 : decode cX11_asksNext 42 = .ok (.if_icmp .ge 7, 3) := by decide +kernel
theorem dX11_asksNext_45 : decode cX11_asksNext 45 = .ok (.iload_n 3, 1) := by decide +kernel
theorem dX11_asksNext_46 : decode cX11_asksNext 46 = .ok (.goto 4, 3) := by decide +kernel
theorem dX11_asksNext_49 : decode cX11_asksNext 49 = .ok (.iload_n 2, 1) := by decide +kernel
theorem dX11_asksNext_50 : decode cX11_asksNext 50 = .ok (.istore_n 2, 1) := by decide +kernel
theorem dX11_asksNext_51 : decode cX11_asksNext 51 = .ok (.iinc 3 1, 3) := by decide +kernel
theorem dX11_asksNext_54 : decode cX11_asksNext 54 = .ok (.goto (-50), 3) := by decide +kernel
theorem dX11_asksNext_57 : decode cX11_asksNext 57 = .ok (.iload_n 2, 1) := by decide +kernel
theorem dX11_asksNext_58 : decode cX11_asksNext 58 = .ok (.ireturn, 1) := by decide +kernel
theorem dX11_isBetter_0 : decode cX11_isBetter 0 = .ok (.aload_n 0, 1) := by decide +kernel
theorem dX11_isBetter_1 : decode cX11_isBetter 1 = .ok (.getfield 58, 3) := by decide +kernel
theorem dX11_isBetter_4 : decode cX11_isBetter 4 = .ok (.iconst 0, 1) := by decide +kernel
theorem dX11_isBetter_5 : decode cX11_isBetter 5 = .ok (.iload_n 1, 1) := by decide +kernel
theorem dX11_isBetter_6 : decode cX11_isBetter 6 = .ok (.iadd, 1) := by decide +kernel
theorem dX11_isBetter_7 : decode cX11_isBetter 7 = .ok (.iaload, 1) := by decide +kernel
theorem dX11_isBetter_8 : decode cX11_isBetter 8 = .ok (.aload_n 0, 1) := by decide +kernel
theorem dX11_isBetter_9 : decode cX11_isBetter 9 = .ok (.getfield 58, 3) := by decide +kernel
theorem dX11_isBetter_12 : decode cX11_isBetter 12 = .ok (.iconst 0, 1) := by decide +kernel
theorem dX11_isBetter_13 : decode cX11_isBetter 13 = .ok (.iload_n 2, 1) := by decide +kernel
theorem dX11_isBetter_14 : decode cX11_isBetter 14 = .ok (.iadd, 1) := by decide +kernel
theorem dX11_isBetter_15 : decode cX11_isBetter 15 = .ok (.iaload, 1) := by decide +kernel
theorem dX11_isBetter_16 : decode cX11_isBetter 16 = .ok (.if_icmp .gt 27, 3) := by decide +kernel
theorem dX11_isBetter_19 : decode cX11_isBetter 19 = .ok (.aload_n 0, 1) := by decide +kernel
theorem dX11_isBetter_20 : decode cX11_isBetter 20 = .ok (.getfield 58, 3) := by decide +kernel
theorem dX11_isBetter_23 : decode cX11_isBetter 23 = .ok (.iconst 0, 1) := by decide +kernel
theorem dX11_isBetter_24 : decode cX11_isBetter 24 = .ok (.iload_n 1, 1) := by decide +kernel
theorem dX11_isBetter_25 : decode cX11_isBetter 25 = .ok (.iadd, 1) := by decide +kernel
theorem dX11_isBetter_26 : decode cX11_isBetter 26 = .ok (.iaload, 1) := by decide +kernel
theorem dX11_isBetter_27 : decode cX11_isBetter 27 = .ok (.aload_n 0, 1) := by decide +kernel
theorem dX11_isBetter_28 : decode cX11_isBetter 28 = .ok (.getfield 58, 3) := by decide +kernel
theorem dX11_isBetter_31 : decode cX11_isBetter 31 = .ok (.iconst 0, 1) := by decide +kernel
theorem dX11_isBetter_32 : decode cX11_isBetter 32 = .ok (.iload_n 2, 1) := by decide +kernel
theorem dX11_isBetter_33 : decode cX11_isBetter 33 = .ok (.iadd, 1) := by decide +kernel
theorem dX11_isBetter_34 : decode cX11_isBetter 34 = .ok (.iaload, 1) := by decide +kernel
theorem dX11_isBetter_35 : decode cX11_isBetter 35 = .ok (.if_icmp .ne 12, 3) := by decide +kernel
theorem dX11_isBetter_38 : decode cX11_isBetter 38 = .ok (.iload_n 1, 1) := by decide +kernel
theorem dX11_isBetter_39 : decode cX11_isBetter 39 = .ok (.iload_n 2, 1) := by decide +kernel
theorem dX11_isBetter_40 : decode cX11_isBetter 40 = .ok (.if_icmp .ge 7, 3) := by decide +kernel
theorem dX11_isBetter_43 : decode cX11_isBetter 43 = .ok (.iconst 1, 1) := by decide +kernel
theorem dX11_isBetter_44 : decode cX11_isBetter 44 = .ok (.goto 4, 3) := by decide +kernel
theorem dX11_isBetter_47 : decode cX11_isBetter 47 = .ok (.iconst 0, 1) := by decide +kernel
theorem dX11_isBetter_48 : decode cX11_isBetter 48 = .ok (.ireturn, 1) := by decide +kernel
theorem dX11_layMatch_0 : decode cX11_layMatch 0 = .ok (.iconst 0, 1) := by decide +kernel
theorem dX11_layMatch_1 : decode cX11_layMatch 1 = .ok (.istore_n 1, 1) := by decide +kernel
theorem dX11_layMatch_2 : decode cX11_layMatch 2 = .ok (.iload_n 1, 1) := by decide +kernel
theorem dX11_layMatch_3 : decode cX11_layMatch 3 = .ok (.bipush 6, 2) := by decide +kernel
theorem dX11_layMatch_5 : decode cX11_layMatch 5 = .ok (.if_icmp .ge 16, 3) := by decide +kernel
theorem dX11_layMatch_8 : decode cX11_layMatch 8 = .ok (.aload_n 0, 1) := by decide +kernel
theorem dX11_layMatch_9 : decode cX11_layMatch 9 = .ok (.getfield 74, 3) := by decide +kernel
theorem dX11_layMatch_12 : decode cX11_layMatch 12 = .ok (.iload_n 1, 1) := by decide +kernel
theorem dX11_layMatch_13 : decode cX11_layMatch 13 = .ok (.iconst 0, 1) := by decide +kernel
theorem dX11_layMatch_14 : decode cX11_layMatch 14 = .ok (.iastore, 1) := by decide +kernel
theorem dX11_layMatch_15 : decode cX11_layMatch 15 = .ok (.iinc 1 1, 3) := by decide +kernel
theorem dX11_layMatch_18 : decode cX11_layMatch 18 = .ok (.goto (-16), 3) := by decide +kernel
theorem dX11_layMatch_21 : decode cX11_layMatch 21 = .ok (.iconst 0, 1) := by decide +kernel
theorem dX11_layMatch_22 : decode cX11_layMatch 22 = .ok (.istore_n 1, 1) := by decide +kernel
theorem dX11_layMatch_23 : decode cX11_layMatch 23 = .ok (.iload_n 1, 1) := by decide +kernel
theorem dX11_layMatch_24 : decode cX11_layMatch 24 = .ok (.iconst 5, 1) := by decide +kernel
theorem dX11_layMatch_25 : decode cX11_layMatch 25 = .ok (.if_icmp .ge 16, 3) := by decide +kernel
theorem dX11_layMatch_28 : decode cX11_layMatch 28 = .ok (.aload_n 0, 1) := by decide +kernel
theorem dX11_layMatch_29 : decode cX11_layMatch 29 = .ok (.getfield 77, 3) := by decide +kernel
theorem dX11_layMatch_32 : decode cX11_layMatch 32 = .ok (.iload_n 1, 1) := by decide +kernel
theorem dX11_layMatch_33 : decode cX11_layMatch 33 = .ok (.iconst (-1), 1) := by decide +kernel
theorem dX11_layMatch_34 : decode cX11_layMatch 34 = .ok (.iastore, 1) := by decide +kernel
theorem dX11_layMatch_35 : decode cX11_layMatch 35 = .ok (.iinc 1 1, 3) := by decide +kernel
theorem dX11_layMatch_38 : decode cX11_layMatch 38 = .ok (.goto (-15), 3) := by decide +kernel
theorem dX11_layMatch_41 : decode cX11_layMatch 41 = .ok (.iconst 0, 1) := by decide +kernel
theorem dX11_layMatch_42 : decode cX11_layMatch 42 = .ok (.istore_n 1, 1) := by decide +kernel
theorem dX11_layMatch_43 : decode cX11_layMatch 43 = .ok (.iload_n 1, 1) := by decide +kernel
theorem dX11_layMatch_44 : decode cX11_layMatch 44 = .ok (.aload_n 0, 1) := by decide +kernel
theorem dX11_layMatch_45 : decode cX11_layMatch 45 = .ok (.getfield 235, 3) := by decide +kernel
theorem dX11_layMatch_48 : decode cX11_layMatch 48 = .ok (.if_icmp .ge 80, 3) := by decide +kernel
theorem dX11_layMatch_51 : decode cX11_layMatch 51 = .ok (.iload_n 1, 1) := by decide +kernel
theorem dX11_layMatch_52 : decode cX11_layMatch 52 = .ok (.istore_n 2, 1) := by decide +kernel
theorem dX11_layMatch_53 : decode cX11_layMatch 53 = .ok (.iload_n 2, 1) := by decide +kernel
theorem dX11_layMatch_54 : decode cX11_layMatch 54 = .ok (.iconst (-1), 1) := by decide +kernel
theorem dX11_layMatch_55 : decode cX11_layMatch 55 = .ok (.if_icmp .eq 67, 3) := by decide +kernel
theorem dX11_layMatch_58 : decode cX11_layMatch 58 = .ok (.aload_n 0, 1) := by decide +kernel
theorem dX11_layMatch_59 : decode cX11_layMatch 59 = .ok (.iload_n 2, 1) := by decide +kernel
theorem dX11_layMatch_60 : decode cX11_layMatch 60 = .ok (.invokevirtual 409, 3) := by decide +kernel
theorem dX11_layMatch_63 : decode cX11_layMatch 63 = .ok (.iconst (-1), 1) := by decide +kernel
theorem dX11_layMatch_64 : decode cX11_layMatch 64 = .ok (.if_icmp .eq 58, 3) := by decide +kernel
theorem dX11_layMatch_67 : decode cX11_layMatch 67 = .ok (.aload_n 0, 1) := by decide +kernel
theorem dX11_layMatch_68 : decode cX11_layMatch 68 = .ok (.iload_n 2, 1) := by decide +kernel
theorem dX11_layMatch_69 : decode cX11_layMatch 69 = .ok (.invokevirtual 409, 3) := by decide +kernel
theorem dX11_layMatch_72 : decode cX11_layMatch 72 = .ok (.istore_n 3, 1) := by decide +kernel
theorem dX11_layMatch_73 : decode cX11_layMatch 73 = .ok (.aload_n 0, 1) := by decide +kernel
theorem dX11_layMatch_74 : decode cX11_layMatch 74 = .ok (.getfield 74, 3) := by decide +kernel
theorem dX11_layMatch_77 : decode cX11_layMatch 77 = .ok (.iload_n 2, 1) := by decide +kernel
theorem dX11_layMatch_78 : decode cX11_layMatch 78 = .ok (.dup2, 1) := by decide +kernel
theorem dX11_layMatch_79 : decode cX11_layMatch 79 = .ok (.iaload, 1) := by decide +kernel
theorem dX11_layMatch_80 : decode cX11_layMatch 80 = .ok (.iconst 1, 1) := by decide +kernel
theorem dX11_layMatch_81 : decode cX11_layMatch 81 = .ok (.iload_n 3, 1) := by decide +kernel
theorem dX11_layMatch_82 : decode cX11_layMatch 82 = .ok (.ishl, 1) := by decide +kernel
theorem dX11_layMatch_83 : decode cX11_layMatch 83 = .ok (.ior, 1) := by decide +kernel
theorem dX11_layMatch_84 : decode cX11_layMatch 84 = .ok (.iastore, 1) := by decide +kernel
theorem dX11_layMatch_85 : decode cX11_layMatch 85 = .ok (.aload_n 0, 1) := by decide +kernel
theorem dX11_layMatch_86 : decode cX11_layMatch 86 = .ok (.getfield 77, 3) := by decide +kernel
theorem dX11_layMatch_89 : decode cX11_layMatch 89 = .ok (.iload_n 3, 1) := by decide +kernel
theorem dX11_layMatch_90 : decode cX11_layMatch 90 = .ok (.iaload, 1) := by decide +kernel
theorem dX11_layMatch_91 : decode cX11_layMatch 91 = .ok (.istore 4, 2) := by decide +kernel
theorem dX11_layMatch_93 : decode cX11_layMatch 93 = .ok (.iload 4, 2) := by decide +kernel
theorem dX11_layMatch_95 : decode cX11_layMatch 95 = .ok (.iconst (-1), 1) := by decide +kernel
theorem dX11_layMatch_96 : decode cX11_layMatch 96 = .ok (.if_icmp .eq 13, 3) := by decide +kernel
theorem dX11_layMatch_99 : decode cX11_layMatch 99 = .ok (.aload_n 0, 1) := by decide +kernel
theorem dX11_layMatch_100 : decode cX11_layMatch 100 = .ok (.iload_n 2, 1) := by decide +kernel
theorem dX11_layMatch_101 : decode cX11_layMatch 101 = .ok (.iload 4, 2) := by decide +kernel
theorem dX11_layMatch_103 : decode cX11_layMatch 103 = .ok (.invokevirtual 412, 3) := by decide +kernel
theorem dX11_layMatch_106 : decode cX11_layMatch 106 = .ok (.ifCond .eq 13, 3) := by decide +kernel
theorem dX11_layMatch_109 : decode cX11_layMatch 109 = .ok (.aload_n 0, 1) := by decide +kernel
theorem dX11_layMatch_110 : decode cX11_layMatch 110 = .ok (.getfield 77, 3) := by decide +kernel
theorem dX11_layMatch_113 : decode cX11_layMatch 113 = .ok (.iload_n 3, 1) := by decide +kernel
theorem dX11_layMatch_114 : decode cX11_layMatch 114 = .ok (.iload_n 2, 1) := by decide +kernel
theorem dX11_layMatch_115 : decode cX11_layMatch 115 = .ok (.iastore, 1) := by decide +kernel
theorem dX11_layMatch_116 : decode cX11_layMatch 116 = .ok (.iload 4, 2) := by decide +kernel
theorem dX11_layMatch_118 : decode cX11_layMatch 118 = .ok (.istore_n 2, 1) := by decide +kernel
theorem dX11_layMatch_119 : decode cX11_layMatch 119 = .ok (.goto (-66), 3) := by decide +kernel
theorem dX11_layMatch_122 : decode cX11_layMatch 122 = .ok (.iinc 1 1, 3) := by decide +kernel
theorem dX11_layMatch_125 : decode cX11_layMatch 125 = .ok (.goto (-82), 3) := by decide +kernel
theorem dX11_layMatch_128 : decode cX11_layMatch 128 = .ok (.return_, 1) := by decide +kernel
theorem dX11_matched_0 : decode cX11_matched 0 = .ok (.aload_n 0, 1) := by decide +kernel
theorem dX11_matched_1 : decode cX11_matched 1 = .ok (.iload_n 1, 1) := by decide +kernel
theorem dX11_matched_2 : decode cX11_matched 2 = .ok (.invokevirtual 263, 3) := by decide +kernel
theorem dX11_matched_5 : decode cX11_matched 5 = .ok (.ifCond .ne 5, 3) := by decide +kernel
theorem dX11_matched_8 : decode cX11_matched 8 = .ok (.iconst (-1), 1) := by decide +kernel
theorem dX11_matched_9 : decode cX11_matched 9 = .ok (.ireturn, 1) := by decide +kernel
theorem dX11_matched_10 : decode cX11_matched 10 = .ok (.aload_n 0, 1) := by decide +kernel
theorem dX11_matched_11 : decode cX11_matched 11 = .ok (.invokevirtual 415, 3) := by decide +kernel
theorem dX11_matched_14 : decode cX11_matched 14 = .ok (.iconst (-1), 1) := by decide +kernel
theorem dX11_matched_15 : decode cX11_matched 15 = .ok (.istore_n 2, 1) := by decide +kernel
theorem dX11_matched_16 : decode cX11_matched 16 = .ok (.iconst 0, 1) := by decide +kernel
theorem dX11_matched_17 : decode cX11_matched 17 = .ok (.istore_n 3, 1) := by decide +kernel
theorem dX11_matched_18 : decode cX11_matched 18 = .ok (.iload_n 3, 1) := by decide +kernel
theorem dX11_matched_19 : decode cX11_matched 19 = .ok (.aload_n 0, 1) := by decide +kernel
theorem dX11_matched_20 : decode cX11_matched 20 = .ok (.getfield 238, 3) := by decide +kernel
theorem dX11_matched_23 : decode cX11_matched 23 = .ok (.if_icmp .ge 25, 3) := by decide +kernel
theorem dX11_matched_26 : decode cX11_matched 26 = .ok (.aload_n 0, 1) := by decide +kernel
theorem dX11_matched_27 : decode cX11_matched 27 = .ok (.getfield 77, 3) := by decide +kernel
theorem dX11_matched_30 : decode cX11_matched 30 = .ok (.iload_n 3, 1) := by decide +kernel
theorem dX11_matched_31 : decode cX11_matched 31 = .ok (.iaload, 1) := by decide +kernel
theorem dX11_matched_32 : decode cX11_matched 32 = .ok (.iload_n 1, 1) := by decide +kernel
theorem dX11_matched_33 : decode cX11_matched 33 = .ok (.if_icmp .ne 7, 3) := by decide +kernel
theorem dX11_matched_36 : decode cX11_matched 36 = .ok (.iload_n 3, 1) := by decide +kernel
theorem dX11_matched_37 : decode cX11_matched 37 = .ok (.goto 4, 3) := by decide +kernel
theorem dX11_matched_40 : decode cX11_matched 40 = .ok (.iload_n 2, 1) := by decide +kernel
theorem dX11_matched_41 : decode cX11_matched 41 = .ok (.istore_n 2, 1) := by decide +kernel
theorem dX11_matched_42 : decode cX11_matched 42 = .ok (.iinc 3 1, 3) := by decide +kernel
theorem dX11_matched_45 : decode cX11_matched 45 = .ok (.goto (-27), 3) := by decide +kernel
theorem dX11_matched_48 : decode cX11_matched 48 = .ok (.iload_n 2, 1) := by decide +kernel
theorem dX11_matched_49 : decode cX11_matched 49 = .ok (.ireturn, 1) := by decide +kernel
theorem dX11_lies_0 : decode cX11_lies 0 = .ok (.iconst 0, 1) := by decide +kernel
theorem dX11_lies_1 : decode cX11_lies 1 = .ok (.istore_n 1, 1) := by decide +kernel
theorem dX11_lies_2 : decode cX11_lies 2 = .ok (.iconst 0, 1) := by decide +kernel
theorem dX11_lies_3 : decode cX11_lies 3 = .ok (.istore_n 2, 1) := by decide +kernel
theorem dX11_lies_4 : decode cX11_lies 4 = .ok (.iload_n 2, 1) := by decide +kernel
theorem dX11_lies_5 : decode cX11_lies 5 = .ok (.aload_n 0, 1) := by decide +kernel
theorem dX11_lies_6 : decode cX11_lies 6 = .ok (.getfield 58, 3) := by decide +kernel
theorem dX11_lies_9 : decode cX11_lies 9 = .ok (.bipush 16, 2) := by decide +kernel
theorem dX11_lies_11 : decode cX11_lies 11 = .ok (.iaload, 1) := by decide +kernel
theorem dX11_lies_12 : decode cX11_lies 12 = .ok (.if_icmp .ge 33, 3) := by decide +kernel
theorem dX11_lies_15 : decode cX11_lies 15 = .ok (.iload_n 1, 1) := by decide +kernel
theorem dX11_lies_16 : decode cX11_lies 16 = .ok (.aload_n 0, 1) := by decide +kernel
theorem dX11_lies_17 : decode cX11_lies 17 = .ok (.iload_n 2, 1) := by decide +kernel
theorem dX11_lies_18 : decode cX11_lies 18 = .ok (.iconst 2, 1) := by decide +kernel
theorem dX11_lies_19 : decode cX11_lies 19 = .ok (.invokevirtual 276, 3) := by decide +kernel
theorem dX11_lies_22 : decode cX11_lies 22 = .ok (.aload_n 0, 1) := by decide +kernel
theorem dX11_lies_23 : decode cX11_lies 23 = .ok (.aload_n 0, 1) := by decide +kernel
theorem dX11_lies_24 : decode cX11_lies 24 = .ok (.iload_n 2, 1) := by decide +kernel
theorem dX11_lies_25 : decode cX11_lies 25 = .ok (.iconst 0, 1) := by decide +kernel
theorem dX11_lies_26 : decode cX11_lies 26 = .ok (.invokevirtual 276, 3) := by decide +kernel
theorem dX11_lies_29 : decode cX11_lies 29 = .ok (.iconst 0, 1) := by decide +kernel
theorem dX11_lies_30 : decode cX11_lies 30 = .ok (.invokevirtual 241, 3) := by decide +kernel
theorem dX11_lies_33 : decode cX11_lies 33 = .ok (.isub, 1) := by decide +kernel
theorem dX11_lies_34 : decode cX11_lies 34 = .ok (.invokestatic 342, 3) := by decide +kernel
theorem dX11_lies_37 : decode cX11_lies 37 = .ok (.iadd, 1) := by decide +kernel
theorem dX11_lies_38 : decode cX11_lies 38 = .ok (.istore_n 1, 1) := by decide +kernel
theorem dX11_lies_39 : decode cX11_lies 39 = .ok (.iinc 2 1, 3) := by decide +kernel
theorem dX11_lies_42 : decode cX11_lies 42 = .ok (.goto (-38), 3) := by decide +kernel
theorem dX11_lies_45 : decode cX11_lies 45 = .ok (.iload_n 1, 1) := by decide +kernel
theorem dX11_lies_46 : decode cX11_lies 46 = .ok (.ireturn, 1) := by decide +kernel
theorem dX11_mostOf_0 : decode cX11_mostOf 0 = .ok (.iconst 0, 1) := by decide +kernel
theorem dX11_mostOf_1 : decode cX11_mostOf 1 = .ok (.istore_n 2, 1) := by decide +kernel
theorem dX11_mostOf_2 : decode cX11_mostOf 2 = .ok (.iconst 1, 1) := by decide +kernel
theorem dX11_mostOf_3 : decode cX11_mostOf 3 = .ok (.istore_n 3, 1) := by decide +kernel
theorem dX11_mostOf_4 : decode cX11_mostOf 4 = .ok (.iload_n 3, 1) := by decide +kernel
theorem dX11_mostOf_5 : decode cX11_mostOf 5 = .ok (.aload_n 0, 1) := by decide +kernel
theorem dX11_mostOf_6 : decode cX11_mostOf 6 = .ok (.getfield 235, 3) := by decide +kernel
theorem dX11_mostOf_9 : decode cX11_mostOf 9 = .ok (.if_icmp .ge 30, 3) := by decide +kernel
theorem dX11_mostOf_12 : decode cX11_mostOf 12 = .ok (.aload_n 0, 1) := by decide +kernel
theorem dX11_mostOf_13 : decode cX11_mostOf 13 = .ok (.iload_n 3, 1) := by decide +kernel
theorem dX11_mostOf_14 : decode cX11_mostOf 14 = .ok (.iload_n 1, 1) := by decide +kernel
theorem dX11_mostOf_15 : decode cX11_mostOf 15 = .ok (.invokevirtual 241, 3) := by decide +kernel
theorem dX11_mostOf_18 : decode cX11_mostOf 18 = .ok (.aload_n 0, 1) := by decide +kernel
theorem dX11_mostOf_19 : decode cX11_mostOf 19 = .ok (.iload_n 2, 1) := by decide +kernel
theorem dX11_mostOf_20 : decode cX11_mostOf 20 = .ok (.iload_n 1, 1) := by decide +kernel
theorem dX11_mostOf_21 : decode cX11_mostOf 21 = .ok (.invokevirtual 241, 3) := by decide +kernel
theorem dX11_mostOf_24 : decode cX11_mostOf 24 = .ok (.if_icmp .le 7, 3) := by decide +kernel
theorem dX11_mostOf_27 : decode cX11_mostOf 27 = .ok (.iload_n 3, 1) := by decide +kernel
theorem dX11_mostOf_28 : decode cX11_mostOf 28 = .ok (.goto 4, 3) := by decide +kernel
theorem dX11_mostOf_31 : decode cX11_mostOf 31 = .ok (.iload_n 2, 1) := by decide +kernel
theorem dX11_mostOf_32 : decode cX11_mostOf 32 = .ok (.istore_n 2, 1) := by decide +kernel
theorem dX11_mostOf_33 : decode cX11_mostOf 33 = .ok (.iinc 3 1, 3) := by decide +kernel
theorem dX11_mostOf_36 : decode cX11_mostOf 36 = .ok (.goto (-32), 3) := by decide +kernel
theorem dX11_mostOf_39 : decode cX11_mostOf 39 = .ok (.iload_n 2, 1) := by decide +kernel
theorem dX11_mostOf_40 : decode cX11_mostOf 40 = .ok (.ireturn, 1) := by decide +kernel
theorem dX11_most_0 : decode cX11_most 0 = .ok (.aload_n 0, 1) := by decide +kernel
theorem dX11_most_1 : decode cX11_most 1 = .ok (.getfield 235, 3) := by decide +kernel
theorem dX11_most_4 : decode cX11_most 4 = .ok (.ifCond .eq 12, 3) := by decide +kernel
theorem dX11_most_7 : decode cX11_most 7 = .ok (.iload_n 1, 1) := by decide +kernel
theorem dX11_most_8 : decode cX11_most 8 = .ok (.iconst 0, 1) := by decide +kernel
theorem dX11_most_9 : decode cX11_most 9 = .ok (.iconst 4, 1) := by decide +kernel
theorem dX11_most_10 : decode cX11_most 10 = .ok (.invokestatic 198, 3) := by decide +kernel
theorem dX11_most_13 : decode cX11_most 13 = .ok (.ifCond .ne 5, 3) := by decide +kernel
theorem dX11_most_16 : decode cX11_most 16 = .ok (.iconst (-1), 1) := by decide +kernel
theorem dX11_most_17 : decode cX11_most 17 = .ok (.ireturn, 1) := by decide +kernel
theorem dX11_most_18 : decode cX11_most 18 = .ok (.iconst 0, 1) := by decide +kernel
theorem dX11_most_19 : decode cX11_most 19 = .ok (.istore_n 2, 1) := by decide +kernel
theorem dX11_most_20 : decode cX11_most 20 = .ok (.iconst 0, 1) := by decide +kernel
theorem dX11_most_21 : decode cX11_most 21 = .ok (.istore_n 3, 1) := by decide +kernel
theorem dX11_most_22 : decode cX11_most 22 = .ok (.iload_n 3, 1) := by decide +kernel
theorem dX11_most_23 : decode cX11_most 23 = .ok (.aload_n 0, 1) := by decide +kernel
theorem dX11_most_24 : decode cX11_most 24 = .ok (.getfield 235, 3) := by decide +kernel
theorem dX11_most_27 : decode cX11_most 27 = .ok (.if_icmp .ge 28, 3) := by decide +kernel
theorem dX11_most_30 : decode cX11_most 30 = .ok (.iload_n 2, 1) := by decide +kernel
theorem dX11_most_31 : decode cX11_most 31 = .ok (.aload_n 0, 1) := by decide +kernel
theorem dX11_most_32 : decode cX11_most 32 = .ok (.iload_n 3, 1) := by decide +kernel
theorem dX11_most_33 : decode cX11_most 33 = .ok (.invokevirtual 352, 3) := by decide +kernel
theorem dX11_most_36 : decode cX11_most 36 = .ok (.iconst 5, 1) := by decide +kernel
theorem dX11_most_37 : decode cX11_most 37 = .ok (.if_icmp .ge 9, 3) := by decide +kernel
theorem dX11_most_40 : decode cX11_most 40 = .ok (.iconst 1, 1) := by decide +kernel
theorem dX11_most_41 : decode cX11_most 41 = .ok (.iload_n 3, 1) := by decide +kernel
theorem dX11_most_42 : decode cX11_most 42 = .ok (.ishl, 1) := by decide +kernel
theorem dX11_most_43 : decode cX11_most 43 = .ok (.goto 4, 3) := by decide +kernel
theorem dX11_most_46 : decode cX11_most 46 = .ok (.iconst 0, 1) := by decide +kernel
theorem dX11_most_47 : decode cX11_most 47 = .ok (.ior, 1) := by decide +kernel
theorem dX11_most_48 : decode cX11_most 48 = .ok (.istore_n 2, 1) := by decide +kernel
theorem dX11_most_49 : decode cX11_most 49 = .ok (.iinc 3 1, 3) := by decide +kernel
theorem dX11_most_52 : decode cX11_most 52 = .ok (.goto (-30), 3) := by decide +kernel
theorem dX11_most_55 : decode cX11_most 55 = .ok (.iconst 0, 1) := by decide +kernel
theorem dX11_most_56 : decode cX11_most 56 = .ok (.istore_n 3, 1) := by decide +kernel
theorem dX11_most_57 : decode cX11_most 57 = .ok (.iconst 1, 1) := by decide +kernel
theorem dX11_most_58 : decode cX11_most 58 = .ok (.istore 4, 2) := by decide +kernel
theorem dX11_most_60 : decode cX11_most 60 = .ok (.iload 4, 2) := by decide +kernel
theorem dX11_most_62 : decode cX11_most 62 = .ok (.aload_n 0, 1) := by decide +kernel
theorem dX11_most_63 : decode cX11_most 63 = .ok (.getfield 238, 3) := by decide +kernel
theorem dX11_most_66 : decode cX11_most 66 = .ok (.if_icmp .ge 32, 3) := by decide +kernel
theorem dX11_most_69 : decode cX11_most 69 = .ok (.aload_n 0, 1) := by decide +kernel
theorem dX11_most_70 : decode cX11_most 70 = .ok (.iload 4, 2) := by decide +kernel
theorem dX11_most_72 : decode cX11_most 72 = .ok (.iconst 1, 1) := by decide +kernel
theorem dX11_most_73 : decode cX11_most 73 = .ok (.invokevirtual 244, 3) := by decide +kernel
theorem dX11_most_76 : decode cX11_most 76 = .ok (.aload_n 0, 1) := by decide +kernel
theorem dX11_most_77 : decode cX11_most 77 = .ok (.iload_n 3, 1) := by decide +kernel
theorem dX11_most_78 : decode cX11_most 78 = .ok (.iconst 1, 1) := by decide +kernel
theorem dX11_most_79 : decode cX11_most 79 = .ok (.invokevirtual 244, 3) := by decide +kernel
theorem dX11_most_82 : decode cX11_most 82 = .ok (.if_icmp .ge 8, 3) := by decide +kernel
theorem dX11_most_85 : decode cX11_most 85 = .ok (.iload 4, 2) := by decide +kernel
theorem dX11_most_87 : decode cX11_most 87 = .ok (.goto 4, 3) := by decide +kernel
theorem dX11_most_90 : decode cX11_most 90 = .ok (.iload_n 3, 1) := by decide +kernel
theorem dX11_most_91 : decode cX11_most 91 = .ok (.istore_n 3, 1) := by decide +kernel
theorem dX11_most_92 : decode cX11_most 92 = .ok (.iinc 4 1, 3) := by decide +kernel
theorem dX11_most_95 : decode cX11_most 95 = .ok (.goto (-35), 3) := by decide +kernel
theorem dX11_most_98 : decode cX11_most 98 = .ok (.iload_n 1, 1) := by decide +kernel
theorem dX11_most_99 : decode cX11_most 99 = .ok (.tableswitch 45 0 3 #[29, 31, 37, 43], 29) := by decide +kernel
theorem dX11_most_128 : decode cX11_most 128 = .ok (.iload_n 2, 1) := by decide +kernel
theorem dX11_most_129 : decode cX11_most 129 = .ok (.ireturn, 1) := by decide +kernel
theorem dX11_most_130 : decode cX11_most 130 = .ok (.aload_n 0, 1) := by decide +kernel
theorem dX11_most_131 : decode cX11_most 131 = .ok (.iconst 1, 1) := by decide +kernel
theorem dX11_most_132 : decode cX11_most 132 = .ok (.invokevirtual 418, 3) := by decide +kernel
theorem dX11_most_135 : decode cX11_most 135 = .ok (.ireturn, 1) := by decide +kernel
theorem dX11_most_136 : decode cX11_most 136 = .ok (.aload_n 0, 1) := by decide +kernel
theorem dX11_most_137 : decode cX11_most 137 = .ok (.iconst 0, 1) := by decide +kernel
theorem dX11_most_138 : decode cX11_most 138 = .ok (.invokevirtual 418, 3) := by decide +kernel
theorem dX11_most_141 : decode cX11_most 141 = .ok (.ireturn, 1) := by decide +kernel
theorem dX11_most_142 : decode cX11_most 142 = .ok (.iload_n 3, 1) := by decide +kernel
theorem dX11_most_143 : decode cX11_most 143 = .ok (.ireturn, 1) := by decide +kernel
theorem dX11_most_144 : decode cX11_most 144 = .ok (.aload_n 0, 1) := by decide +kernel
theorem dX11_most_145 : decode cX11_most 145 = .ok (.invokevirtual 421, 3) := by decide +kernel
theorem dX11_most_148 : decode cX11_most 148 = .ok (.ireturn, 1) := by decide +kernel
theorem dX11_seen_0 : decode cX11_seen 0 = .ok (.aload_n 0, 1) := by decide +kernel
theorem dX11_seen_1 : decode cX11_seen 1 = .ok (.iload_n 1, 1) := by decide +kernel
theorem dX11_seen_2 : decode cX11_seen 2 = .ok (.invokevirtual 263, 3) := by decide +kernel
theorem dX11_seen_5 : decode cX11_seen 5 = .ok (.ifCond .eq 11, 3) := by decide +kernel
theorem dX11_seen_8 : decode cX11_seen 8 = .ok (.aload_n 0, 1) := by decide +kernel
theorem dX11_seen_9 : decode cX11_seen 9 = .ok (.iload_n 1, 1) := by decide +kernel
theorem dX11_seen_10 : decode cX11_seen 10 = .ok (.invokevirtual 307, 3) := by decide +kernel
theorem dX11_seen_13 : decode cX11_seen 13 = .ok (.goto 4, 3) := by decide +kernel
theorem dX11_seen_16 : decode cX11_seen 16 = .ok (.iconst (-1), 1) := by decide +kernel
theorem dX11_seen_17 : decode cX11_seen 17 = .ok (.ireturn, 1) := by decide +kernel
theorem dX11_saves_0 : decode cX11_saves 0 = .ok (.aload_n 0, 1) := by decide +kernel
theorem dX11_saves_1 : decode cX11_saves 1 = .ok (.getfield 235, 3) := by decide +kernel
theorem dX11_saves_4 : decode cX11_saves 4 = .ok (.ifCond .le 30, 3) := by decide +kernel
theorem dX11_saves_7 : decode cX11_saves 7 = .ok (.iload_n 1, 1) := by decide +kernel
theorem dX11_saves_8 : decode cX11_saves 8 = .ok (.iconst 1, 1) := by decide +kernel
theorem dX11_saves_9 : decode cX11_saves 9 = .ok (.sipush 999, 3) := by decide +kernel
theorem dX11_saves_12 : decode cX11_saves 12 = .ok (.invokestatic 198, 3) := by decide +kernel
theorem dX11_saves_15 : decode cX11_saves 15 = .ok (.ifCond .eq 19, 3) := by decide +kernel
theorem dX11_saves_18 : decode cX11_saves 18 = .ok (.iconst 0, 1) := by decide +kernel
theorem dX11_saves_19 : decode cX11_saves 19 = .ok (.iload_n 1, 1) := by decide +kernel
theorem dX11_saves_20 : decode cX11_saves 20 = .ok (.aload_n 0, 1) := by decide +kernel
theorem dX11_saves_21 : decode cX11_saves 21 = .ok (.getfield 58, 3) := by decide +kernel
theorem dX11_saves_24 : decode cX11_saves 24 = .ok (.bipush 14, 2) := by decide +kernel
theorem dX11_saves_26 : decode cX11_saves 26 = .ok (.iaload, 1) := by decide +kernel
theorem dX11_saves_27 : decode cX11_saves 27 = .ok (.isub, 1) := by decide +kernel
theorem dX11_saves_28 : decode cX11_saves 28 = .ok (.invokestatic 266, 3) := by decide +kernel
theorem dX11_saves_31 : decode cX11_saves 31 = .ok (.goto 4, 3) := by decide +kernel
theorem dX11_saves_34 : decode cX11_saves 34 = .ok (.iconst (-1), 1) := by decide +kernel
theorem dX11_saves_35 : decode cX11_saves 35 = .ok (.ireturn, 1) := by decide +kernel
theorem dX11_rivals_0 : decode cX11_rivals 0 = .ok (.aload_n 0, 1) := by decide +kernel
theorem dX11_rivals_1 : decode cX11_rivals 1 = .ok (.iload_n 1, 1) := by decide +kernel
theorem dX11_rivals_2 : decode cX11_rivals 2 = .ok (.invokevirtual 263, 3) := by decide +kernel
theorem dX11_rivals_5 : decode cX11_rivals 5 = .ok (.ifCond .ne 5, 3) := by decide +kernel
theorem dX11_rivals_8 : decode cX11_rivals 8 = .ok (.iconst (-1), 1) := by decide +kernel
theorem dX11_rivals_9 : decode cX11_rivals 9 = .ok (.ireturn, 1) := by decide +kernel
theorem dX11_rivals_10 : decode cX11_rivals 10 = .ok (.iconst 0, 1) := by decide +kernel
theorem dX11_rivals_11 : decode cX11_rivals 11 = .ok (.istore_n 2, 1) := by decide +kernel
theorem dX11_rivals_12 : decode cX11_rivals 12 = .ok (.iconst 0, 1) := by decide +kernel
theorem dX11_rivals_13 : decode cX11_rivals 13 = .ok (.istore_n 3, 1) := by decide +kernel
theorem dX11_rivals_14 : decode cX11_rivals 14 = .ok (.iload_n 3, 1) := by decide +kernel
theorem dX11_rivals_15 : decode cX11_rivals 15 = .ok (.aload_n 0, 1) := by decide +kernel
theorem dX11_rivals_16 : decode cX11_rivals 16 = .ok (.getfield 235, 3) := by decide +kernel
theorem dX11_rivals_19 : decode cX11_rivals 19 = .ok (.if_icmp .ge 34, 3) := by decide +kernel
theorem dX11_rivals_22 : decode cX11_rivals 22 = .ok (.iload_n 2, 1) := by decide +kernel
theorem dX11_rivals_23 : decode cX11_rivals 23 = .ok (.aload_n 0, 1) := by decide +kernel
theorem dX11_rivals_24 : decode cX11_rivals 24 = .ok (.iload_n 3, 1) := by decide +kernel
theorem dX11_rivals_25 : decode cX11_rivals 25 = .ok (.iconst 1, 1) := by decide +kernel
theorem dX11_rivals_26 : decode cX11_rivals 26 = .ok (.invokevirtual 377, 3) := by decide +kernel
theorem dX11_rivals_29 : decode cX11_rivals 29 = .ok (.aload_n 0, 1) := by decide +kernel
theorem dX11_rivals_30 : decode cX11_rivals 30 = .ok (.iload_n 1, 1) := by decide +kernel
theorem dX11_rivals_31 : decode cX11_rivals 31 = .ok (.iconst 1, 1) := by decide +kernel
theorem dX11_rivals_32 : decode cX11_rivals 32 = .ok (.invokevirtual 377, 3) := by decide +kernel
theorem dX11_rivals_35 : decode cX11_rivals 35 = .ok (.if_icmp .le 9, 3) := by decide +kernel
theorem dX11_rivals_38 : decode cX11_rivals 38 = .ok (.iconst 1, 1) := by decide +kernel
theorem dX11_rivals_39 : decode cX11_rivals 39 = .ok (.iload_n 3, 1) := by decide +kernel
theorem dX11_rivals_40 : decode cX11_rivals 40 = .ok (.ishl, 1) := by decide +kernel
theorem dX11_rivals_41 : decode cX11_rivals 41 = .ok (.goto 4, 3) := by decide +kernel
theorem dX11_rivals_44 : decode cX11_rivals 44 = .ok (.iconst 0, 1) := by decide +kernel
theorem dX11_rivals_45 : decode cX11_rivals 45 = .ok (.ior, 1) := by decide +kernel
theorem dX11_rivals_46 : decode cX11_rivals 46 = .ok (.istore_n 2, 1) := by decide +kernel
theorem dX11_rivals_47 : decode cX11_rivals 47 = .ok (.iinc 3 1, 3) := by decide +kernel
theorem dX11_rivals_50 : decode cX11_rivals 50 = .ok (.goto (-36), 3) := by decide +kernel
theorem dX11_rivals_53 : decode cX11_rivals 53 = .ok (.iload_n 2, 1) := by decide +kernel
theorem dX11_rivals_54 : decode cX11_rivals 54 = .ok (.ireturn, 1) := by decide +kernel
theorem dX11_affords_0 : decode cX11_affords 0 = .ok (.aload_n 0, 1) := by decide +kernel
theorem dX11_affords_1 : decode cX11_affords 1 = .ok (.iload_n 1, 1) := by decide +kernel
theorem dX11_affords_2 : decode cX11_affords 2 = .ok (.invokevirtual 260, 3) := by decide +kernel
theorem dX11_affords_5 : decode cX11_affords 5 = .ok (.ifCond .ne 5, 3) := by decide +kernel
theorem dX11_affords_8 : decode cX11_affords 8 = .ok (.iconst (-1), 1) := by decide +kernel
theorem dX11_affords_9 : decode cX11_affords 9 = .ok (.ireturn, 1) := by decide +kernel
theorem dX11_affords_10 : decode cX11_affords 10 = .ok (.bipush 20, 2) := by decide +kernel
theorem dX11_affords_12 : decode cX11_affords 12 = .ok (.aload_n 0, 1) := by decide +kernel
theorem dX11_affords_13 : decode cX11_affords 13 = .ok (.getfield 58, 3) := by decide +kernel
theorem dX11_affords_16 : decode cX11_affords 16 = .ok (.bipush 16, 2) := by decide +kernel
theorem dX11_affords_18 : decode cX11_affords 18 = .ok (.iaload, 1) := by decide +kernel
theorem dX11_affords_19 : decode cX11_affords 19 = .ok (.isub, 1) := by decide +kernel
theorem dX11_affords_20 : decode cX11_affords 20 = .ok (.istore_n 2, 1) := by decide +kernel
theorem dX11_affords_21 : decode cX11_affords 21 = .ok (.aload_n 0, 1) := by decide +kernel
theorem dX11_affords_22 : decode cX11_affords 22 = .ok (.iload_n 1, 1) := by decide +kernel
theorem dX11_affords_23 : decode cX11_affords 23 = .ok (.iconst 1, 1) := by decide +kernel
theorem dX11_affords_24 : decode cX11_affords 24 = .ok (.invokevirtual 244, 3) := by decide +kernel
theorem dX11_affords_27 : decode cX11_affords 27 = .ok (.ifCond .ne 7, 3) := by decide +kernel
theorem dX11_affords_30 : decode cX11_affords 30 = .ok (.iload_n 2, 1) := by decide +kernel
theorem dX11_affords_31 : decode cX11_affords 31 = .ok (.goto 21, 3) := by decide +kernel
theorem dX11_affords_34 : decode cX11_affords 34 = .ok (.iload_n 2, 1) := by decide +kernel
theorem dX11_affords_35 : decode cX11_affords 35 = .ok (.aload_n 0, 1) := by decide +kernel
theorem dX11_affords_36 : decode cX11_affords 36 = .ok (.getfield 58, 3) := by decide +kernel
theorem dX11_affords_39 : decode cX11_affords 39 = .ok (.bipush 14, 2) := by decide +kernel
theorem dX11_affords_41 : decode cX11_affords 41 = .ok (.iaload, 1) := by decide +kernel
theorem dX11_affords_42 : decode cX11_affords 42 = .ok (.aload_n 0, 1) := by decide +kernel
theorem dX11_affords_43 : decode cX11_affords 43 = .ok (.iload_n 1, 1) := by decide +kernel
theorem dX11_affords_44 : decode cX11_affords 44 = .ok (.iconst 1, 1) := by decide +kernel
theorem dX11_affords_45 : decode cX11_affords 45 = .ok (.invokevirtual 244, 3) := by decide +kernel
theorem dX11_affords_48 : decode cX11_affords 48 = .ok (.idiv, 1) := by decide +kernel
theorem dX11_affords_49 : decode cX11_affords 49 = .ok (.invokestatic 274, 3) := by decide +kernel
theorem dX11_affords_52 : decode cX11_affords 52 = .ok (.ireturn, 1) := by decide +kernel
theorem dX11_told_0 : decode cX11_told 0 = .ok (.iconst 0, 1) := by decide +kernel
theorem dX11_told_1 : decode cX11_told 1 = .ok (.istore_n 2, 1) := by decide +kernel
theorem dX11_told_2 : decode cX11_told 2 = .ok (.iconst 0, 1) := by decide +kernel
theorem dX11_told_3 : decode cX11_told 3 = .ok (.istore_n 3, 1) := by decide +kernel
theorem dX11_told_4 : decode cX11_told 4 = .ok (.iconst 0, 1) := by decide +kernel
theorem dX11_told_5 : decode cX11_told 5 = .ok (.istore 4, 2) := by decide +kernel
theorem dX11_told_7 : decode cX11_told 7 = .ok (.iload 4, 2) := by decide +kernel
theorem dX11_told_9 : decode cX11_told 9 = .ok (.aload_n 0, 1) := by decide +kernel
theorem dX11_told_10 : decode cX11_told 10 = .ok (.getfield 58, 3) := by decide +kernel
theorem dX11_told_13 : decode cX11_told 13 = .ok (.bipush 16, 2) := by decide +kernel
theorem dX11_told_15 : decode cX11_told 15 = .ok (.iaload, 1) := by decide +kernel
theorem dX11_told_16 : decode cX11_told 16 = .ok (.if_icmp .ge 46, 3) := by decide +kernel
theorem dX11_told_19 : decode cX11_told 19 = .ok (.aload_n 0, 1) := by decide +kernel
theorem dX11_told_20 : decode cX11_told 20 = .ok (.iload 4, 2) := by decide +kernel
theorem dX11_told_22 : decode cX11_told 22 = .ok (.iconst 1, 1) := by decide +kernel
theorem dX11_told_23 : decode cX11_told 23 = .ok (.invokevirtual 276, 3) := by decide +kernel
theorem dX11_told_26 : decode cX11_told 26 = .ok (.iload_n 1, 1) := by decide +kernel
theorem dX11_told_27 : decode cX11_told 27 = .ok (.if_icmp .ne 29, 3) := by decide +kernel
theorem dX11_told_30 : decode cX11_told 30 = .ok (.iload_n 2, 1) := by decide +kernel
theorem dX11_told_31 : decode cX11_told 31 = .ok (.aload_n 0, 1) := by decide +kernel
theorem dX11_told_32 : decode cX11_told 32 = .ok (.iload 4, 2) := by decide +kernel
theorem dX11_told_34 : decode cX11_told 34 = .ok (.iconst 2, 1) := by decide +kernel
theorem dX11_told_35 : decode cX11_told 35 = .ok (.invokevirtual 276, 3) := by decide +kernel
theorem dX11_told_38 : decode cX11_told 38 = .ok (.aload_n 0, 1) := by decide +kernel
theorem dX11_told_39 : decode cX11_told 39 = .ok (.aload_n 0, 1) := by decide +kernel
theorem dX11_told_40 : decode cX11_told 40 = .ok (.iload 4, 2) := by decide +kernel
theorem dX11_told_42 : decode cX11_told 42 = .ok (.iconst 0, 1) := by decide +kernel
theorem dX11_told_43 : decode cX11_told 43 = .ok (.invokevirtual 276, 3) := by decide +kernel
theorem dX11_told_46 : decode cX11_told 46 = .ok (.iconst 0, 1) := by decide +kernel
theorem dX11_told_47 : decode cX11_told 47 = .ok (.invokevirtual 241, 3) := by decide +kernel
theorem dX11_told_50 : decode cX11_told 50 = .ok (.isub, 1) := by decide +kernel
theorem dX11_told_51 : decode cX11_told 51 = .ok (.iadd, 1) := by decide +kernel
theorem dX11_told_52 : decode cX11_told 52 = .ok (.istore_n 2, 1) := by decide +kernel
theorem dX11_told_53 : decode cX11_told 53 = .ok (.iinc 3 1, 3) := by decide +kernel
theorem dX11_told_56 : decode cX11_told 56 = .ok (.iinc 4 1, 3) := by decide +kernel
theorem dX11_told_59 : decode cX11_told 59 = .ok (.goto (-52), 3) := by decide +kernel
theorem dX11_told_62 : decode cX11_told 62 = .ok (.aload_n 0, 1) := by decide +kernel
theorem dX11_told_63 : decode cX11_told 63 = .ok (.iload_n 1, 1) := by decide +kernel
theorem dX11_told_64 : decode cX11_told 64 = .ok (.invokevirtual 260, 3) := by decide +kernel
theorem dX11_told_67 : decode cX11_told 67 = .ok (.ifCond .eq 7, 3) := by decide +kernel
theorem dX11_told_70 : decode cX11_told 70 = .ok (.iload_n 3, 1) := by decide +kernel
theorem dX11_told_71 : decode cX11_told 71 = .ok (.ifCond .ne 9, 3) := by decide +kernel
theorem dX11_told_74 : decode cX11_told 74 = .ok (.ldc_w 386, 3) := by decide +kernel
theorem dX11_told_77 : decode cX11_told 77 = .ok (.goto 4, 3) := by decide +kernel
theorem dX11_told_80 : decode cX11_told 80 = .ok (.iload_n 2, 1) := by decide +kernel
theorem dX11_told_81 : decode cX11_told 81 = .ok (.ireturn, 1) := by decide +kernel
theorem dX11_image_0 : decode cX11_image 0 = .ok (.aload_n 0, 1) := by decide +kernel
theorem dX11_image_1 : decode cX11_image 1 = .ok (.getfield 235, 3) := by decide +kernel
theorem dX11_image_4 : decode cX11_image 4 = .ok (.ifCond .ne 5, 3) := by decide +kernel
theorem dX11_image_7 : decode cX11_image 7 = .ok (.iconst (-1), 1) := by decide +kernel
theorem dX11_image_8 : decode cX11_image 8 = .ok (.ireturn, 1) := by decide +kernel
theorem dX11_image_9 : decode cX11_image 9 = .ok (.iconst 0, 1) := by decide +kernel
theorem dX11_image_10 : decode cX11_image 10 = .ok (.istore_n 1, 1) := by decide +kernel
theorem dX11_image_11 : decode cX11_image 11 = .ok (.iload_n 1, 1) := by decide +kernel
theorem dX11_image_12 : decode cX11_image 12 = .ok (.bipush 97, 2) := by decide +kernel
theorem dX11_image_14 : decode cX11_image 14 = .ok (.if_icmp .ge 21, 3) := by decide +kernel
theorem dX11_image_17 : decode cX11_image 17 = .ok (.aload_n 0, 1) := by decide +kernel
theorem dX11_image_18 : decode cX11_image 18 = .ok (.getfield 80, 3) := by decide +kernel
theorem dX11_image_21 : decode cX11_image 21 = .ok (.iload_n 1, 1) := by decide +kernel
theorem dX11_image_22 : decode cX11_image 22 = .ok (.aload_n 0, 1) := by decide +kernel
theorem dX11_image_23 : decode cX11_image 23 = .ok (.getfield 58, 3) := by decide +kernel
theorem dX11_image_26 : decode cX11_image 26 = .ok (.iload_n 1, 1) := by decide +kernel
theorem dX11_image_27 : decode cX11_image 27 = .ok (.iaload, 1) := by decide +kernel
theorem dX11_image_28 : decode cX11_image 28 = .ok (.iastore, 1) := by decide +kernel
theorem dX11_image_29 : decode cX11_image 29 = .ok (.iinc 1 1, 3) := by decide +kernel
theorem dX11_image_32 : decode cX11_image 32 = .ok (.goto (-21), 3) := by decide +kernel
theorem dX11_image_35 : decode cX11_image 35 = .ok (.aload_n 0, 1) := by decide +kernel
theorem dX11_image_36 : decode cX11_image 36 = .ok (.iconst 1, 1) := by decide +kernel
theorem dX11_image_37 : decode cX11_image 37 = .ok (.putfield 250, 3) := by decide +kernel
theorem dX11_image_40 : decode cX11_image 40 = .ok (.aload_n 0, 1) := by decide +kernel
theorem dX11_image_41 : decode cX11_image 41 = .ok (.getfield 58, 3) := by decide +kernel
theorem dX11_image_44 : decode cX11_image 44 = .ok (.bipush 15, 2) := by decide +kernel
theorem dX11_image_46 : decode cX11_image 46 = .ok (.iaload, 1) := by decide +kernel
theorem dX11_image_47 : decode cX11_image 47 = .ok (.ireturn, 1) := by decide +kernel
theorem dX11_back_0 : decode cX11_back 0 = .ok (.aload_n 0, 1) := by decide +kernel
theorem dX11_back_1 : decode cX11_back 1 = .ok (.getfield 250, 3) := by decide +kernel
theorem dX11_back_4 : decode cX11_back 4 = .ok (.ifCond .ne 5, 3) := by decide +kernel
theorem dX11_back_7 : decode cX11_back 7 = .ok (.iconst (-1), 1) := by decide +kernel
theorem dX11_back_8 : decode cX11_back 8 = .ok (.ireturn, 1) := by decide +kernel
theorem dX11_back_9 : decode cX11_back 9 = .ok (.iconst 0, 1) := by decide +kernel
theorem dX11_back_10 : decode cX11_back 10 = .ok (.istore_n 1, 1) := by decide +kernel
theorem dX11_back_11 : decode cX11_back 11 = .ok (.iload_n 1, 1) := by decide +kernel
theorem dX11_back_12 : decode cX11_back 12 = .ok (.bipush 97, 2) := by decide +kernel
theorem dX11_back_14 : decode cX11_back 14 = .ok (.if_icmp .ge 21, 3) := by decide +kernel
theorem dX11_back_17 : decode cX11_back 17 = .ok (.aload_n 0, 1) := by decide +kernel
theorem dX11_back_18 : decode cX11_back 18 = .ok (.getfield 58, 3) := by decide +kernel
theorem dX11_back_21 : decode cX11_back 21 = .ok (.iload_n 1, 1) := by decide +kernel
theorem dX11_back_22 : decode cX11_back 22 = .ok (.aload_n 0, 1) := by decide +kernel
theorem dX11_back_23 : decode cX11_back 23 = .ok (.getfield 80, 3) := by decide +kernel
theorem dX11_back_26 : decode cX11_back 26 = .ok (.iload_n 1, 1) := by decide +kernel
theorem dX11_back_27 : decode cX11_back 27 = .ok (.iaload, 1) := by decide +kernel
theorem dX11_back_28 : decode cX11_back 28 = .ok (.iastore, 1) := by decide +kernel
theorem dX11_back_29 : decode cX11_back 29 = .ok (.iinc 1 1, 3) := by decide +kernel
theorem dX11_back_32 : decode cX11_back 32 = .ok (.goto (-21), 3) := by decide +kernel
theorem dX11_back_35 : decode cX11_back 35 = .ok (.aload_n 0, 1) := by decide +kernel
theorem dX11_back_36 : decode cX11_back 36 = .ok (.iconst 0, 1) := by decide +kernel
theorem dX11_back_37 : decode cX11_back 37 = .ok (.putfield 247, 3) := by decide +kernel
theorem dX11_back_40 : decode cX11_back 40 = .ok (.aload_n 0, 1) := by decide +kernel
theorem dX11_back_41 : decode cX11_back 41 = .ok (.getfield 58, 3) := by decide +kernel
theorem dX11_back_44 : decode cX11_back 44 = .ok (.bipush 15, 2) := by decide +kernel
theorem dX11_back_46 : decode cX11_back 46 = .ok (.iaload, 1) := by decide +kernel
theorem dX11_back_47 : decode cX11_back 47 = .ok (.ireturn, 1) := by decide +kernel
theorem dX11_count_0 : decode cX11_count 0 = .ok (.iload_n 1, 1) := by decide +kernel
theorem dX11_count_1 : decode cX11_count 1 = .ok (.tableswitch 127 0 9 #[55, 60, 65, 70, 75, 80, 88, 109, 117, 122], 55) := by decide +kernel
theorem dX11_count_56 : decode cX11_count 56 = .ok (.aload_n 0, 1) := by decide +kernel
theorem dX11_count_57 : decode cX11_count 57 = .ok (.getfield 235, 3) := by decide +kernel
theorem dX11_count_60 : decode cX11_count 60 = .ok (.ireturn, 1) := by decide +kernel
theorem dX11_count_61 : decode cX11_count 61 = .ok (.aload_n 0, 1) := by decide +kernel
theorem dX11_count_62 : decode cX11_count 62 = .ok (.getfield 238, 3) := by decide +kernel
theorem dX11_count_65 : decode cX11_count 65 = .ok (.ireturn, 1) := by decide +kernel
theorem dX11_count_66 : decode cX11_count 66 = .ok (.aload_n 0, 1) := by decide +kernel
theorem dX11_count_67 : decode cX11_count 67 = .ok (.getfield 257, 3) := by decide +kernel
theorem dX11_count_70 : decode cX11_count 70 = .ok (.ireturn, 1) := by decide +kernel
theorem dX11_count_71 : decode cX11_count 71 = .ok (.aload_n 0, 1) := by decide +kernel
theorem dX11_count_72 : decode cX11_count 72 = .ok (.getfield 90, 3) := by decide +kernel
theorem dX11_count_75 : decode cX11_count 75 = .ok (.ireturn, 1) := by decide +kernel
theorem dX11_count_76 : decode cX11_count 76 = .ok (.aload_n 0, 1) := by decide +kernel
theorem dX11_count_77 : decode cX11_count 77 = .ok (.getfield 64, 3) := by decide +kernel
theorem dX11_count_80 : decode cX11_count 80 = .ok (.ireturn, 1) := by decide +kernel
theorem dX11_count_81 : decode cX11_count 81 = .ok (.aload_n 0, 1) := by decide +kernel
theorem dX11_count_82 : decode cX11_count 82 = .ok (.getfield 58, 3) := by decide +kernel
theorem dX11_count_85 : decode cX11_count 85 = .ok (.bipush 15, 2) := by decide +kernel
theorem dX11_count_87 : decode cX11_count 87 = .ok (.iaload, 1) := by decide +kernel
theorem dX11_count_88 : decode cX11_count 88 = .ok (.ireturn, 1) := by decide +kernel
theorem dX11_count_89 : decode cX11_count 89 = .ok (.aload_n 0, 1) := by decide +kernel
theorem dX11_count_90 : decode cX11_count 90 = .ok (.getfield 235, 3) := by decide +kernel
theorem dX11_count_93 : decode cX11_count 93 = .ok (.ifCond .ne 7, 3) := by decide +kernel
theorem dX11_count_96 : decode cX11_count 96 = .ok (.iconst (-1), 1) := by decide +kernel
theorem dX11_count_97 : decode cX11_count 97 = .ok (.goto 12, 3) := by decide +kernel
theorem dX11_count_100 : decode cX11_count 100 = .ok (.aload_n 0, 1) := by decide +kernel
theorem dX11_count_101 : decode cX11_count 101 = .ok (.getfield 58, 3) := by decide +kernel
theorem dX11_count_104 : decode cX11_count 104 = .ok (.bipush 13, 2) := by decide +kernel
theorem dX11_count_106 : decode cX11_count 106 = .ok (.iaload, 1) := by decide +kernel
theorem dX11_count_107 : decode cX11_count 107 = .ok (.iconst 1, 1) := by decide +kernel
theorem dX11_count_108 : decode cX11_count 108 = .ok (.isub, 1) := by decide +kernel
theorem dX11_count_109 : decode cX11_count 109 = .ok (.ireturn, 1) := by decide +kernel
theorem dX11_count_110 : decode cX11_count 110 = .ok (.aload_n 0, 1) := by decide +kernel
theorem dX11_count_111 : decode cX11_count 111 = .ok (.getfield 58, 3) := by decide +kernel
theorem dX11_count_114 : decode cX11_count 114 = .ok (.bipush 16, 2) := by decide +kernel
theorem dX11_count_116 : decode cX11_count 116 = .ok (.iaload, 1) := by decide +kernel
theorem dX11_count_117 : decode cX11_count 117 = .ok (.ireturn, 1) := by decide +kernel
theorem dX11_count_118 : decode cX11_count 118 = .ok (.aload_n 0, 1) := by decide +kernel
theorem dX11_count_119 : decode cX11_count 119 = .ok (.getfield 319, 3) := by decide +kernel
theorem dX11_count_122 : decode cX11_count 122 = .ok (.ireturn, 1) := by decide +kernel
theorem dX11_count_123 : decode cX11_count 123 = .ok (.aload_n 0, 1) := by decide +kernel
theorem dX11_count_124 : decode cX11_count 124 = .ok (.getfield 247, 3) := by decide +kernel
theorem dX11_count_127 : decode cX11_count 127 = .ok (.ireturn, 1) := by decide +kernel
theorem dX11_count_128 : decode cX11_count 128 = .ok (.ldc_w 386, 3) := by decide +kernel
theorem dX11_count_131 : decode cX11_count 131 = .ok (.ireturn, 1) := by decide +kernel
set_option maxRecDepth 20000 in
theorem qw33 : Cond.selects RX11 yX11_here yX11_here ∈ wA := zw 33 (by decide +kernel) (by decide +kernel)
set_option maxRecDepth 20000 in
theorem qw54 : Cond.selects RX11 yX11_of yX11_of ∈ wA := zw 54 (by decide +kernel) (by decide +kernel)
set_option maxRecDepth 20000 in
theorem qw55 : Cond.selects RX11 yX11_by yX11_by ∈ wA := zw 55 (by decide +kernel) (by decide +kernel)
set_option maxRecDepth 20000 in
theorem qw56 : Cond.selects RX11 yX11_isBride yX11_isBride ∈ wA := zw 56 (by decide +kernel) (by decide +kernel)
set_option maxRecDepth 20000 in
theorem qw57 : Cond.selects RX11 yX11_isPainter yX11_isPainter ∈ wA := zw 57 (by decide +kernel) (by decide +kernel)
set_option maxRecDepth 20000 in
theorem qw58 : Cond.selects RX11 yX11_areBoth yX11_areBoth ∈ wA := zw 58 (by decide +kernel) (by decide +kernel)
set_option maxRecDepth 20000 in
theorem qw59 : Cond.selects RX11 yX11_flatteryBy yX11_flatteryBy ∈ wA := zw 59 (by decide +kernel) (by decide +kernel)
set_option maxRecDepth 20000 in
theorem qw60 : Cond.selects RX11 yX11_shownOf yX11_shownOf ∈ wA := zw 60 (by decide +kernel) (by decide +kernel)
set_option maxRecDepth 20000 in
theorem qw61 : Cond.selects RX11 yX11_looksBy yX11_looksBy ∈ wA := zw 61 (by decide +kernel) (by decide +kernel)
set_option maxRecDepth 20000 in
theorem qw62 : Cond.selects RX11 yX11_worthOf yX11_worthOf ∈ wA := zw 62 (by decide +kernel) (by decide +kernel)
set_option maxRecDepth 20000 in
theorem qw63 : Cond.selects RX11 yX11_workOut yX11_workOut ∈ wA := zw 63 (by decide +kernel) (by decide +kernel)
set_option maxRecDepth 20000 in
theorem qw64 : Cond.selects RX11 yX11_latestOf yX11_latestOf ∈ wA := zw 64 (by decide +kernel) (by decide +kernel)
set_option maxRecDepth 20000 in
theorem qw65 : Cond.selects RX11 yX11_shot yX11_shot ∈ wA := zw 65 (by decide +kernel) (by decide +kernel)
set_option maxRecDepth 20000 in
theorem qw66 : Cond.selects RX11 yX11_isRefused yX11_isRefused ∈ wA := zw 66 (by decide +kernel) (by decide +kernel)
set_option maxRecDepth 20000 in
theorem qw67 : Cond.selects RX11 yX11_keep yX11_keep ∈ wA := zw 67 (by decide +kernel) (by decide +kernel)
set_option maxRecDepth 20000 in
theorem qw68 : Cond.selects RX11 yX11_paintNow yX11_paintNow ∈ wA := zw 68 (by decide +kernel) (by decide +kernel)
set_option maxRecDepth 20000 in
theorem qw69 : Cond.selects RX11 yX11_isTold yX11_isTold ∈ wA := zw 69 (by decide +kernel) (by decide +kernel)
set_option maxRecDepth 20000 in
theorem qw70 : Cond.selects RX11 yX11_lookedOf yX11_lookedOf ∈ wA := zw 70 (by decide +kernel) (by decide +kernel)
set_option maxRecDepth 20000 in
theorem qw71 : Cond.selects RX11 yX11_seenOf yX11_seenOf ∈ wA := zw 71 (by decide +kernel) (by decide +kernel)
set_option maxRecDepth 20000 in
theorem qw72 : Cond.selects RX11 yX11_areMonths yX11_areMonths ∈ wA := zw 72 (by decide +kernel) (by decide +kernel)
set_option maxRecDepth 20000 in
theorem qw73 : Cond.selects RX11 yX11_passMonth yX11_passMonth ∈ wA := zw 73 (by decide +kernel) (by decide +kernel)
set_option maxRecDepth 20000 in
theorem qw74 : Cond.selects RX11 yX11_drawMonth yX11_drawMonth ∈ wA := zw 74 (by decide +kernel) (by decide +kernel)
set_option maxRecDepth 20000 in
theorem qw75 : Cond.selects RX11 yX11_draw yX11_draw ∈ wA := zw 75 (by decide +kernel) (by decide +kernel)
set_option maxRecDepth 20000 in
theorem qw76 : Cond.selects RX11 yX11_fitsOf yX11_fitsOf ∈ wA := zw 76 (by decide +kernel) (by decide +kernel)
set_option maxRecDepth 20000 in
theorem qw77 : Cond.selects RX11 yX11_fitsFace yX11_fitsFace ∈ wA := zw 77 (by decide +kernel) (by decide +kernel)
set_option maxRecDepth 20000 in
theorem qw78 : Cond.selects RX11 yX11_layBeliefs yX11_layBeliefs ∈ wA := zw 78 (by decide +kernel) (by decide +kernel)
set_option maxRecDepth 20000 in
theorem qw79 : Cond.selects RX11 yX11_weightOf yX11_weightOf ∈ wA := zw 79 (by decide +kernel) (by decide +kernel)
set_option maxRecDepth 20000 in
theorem qw80 : Cond.selects RX11 yX11_likelyOf yX11_likelyOf ∈ wA := zw 80 (by decide +kernel) (by decide +kernel)
set_option maxRecDepth 20000 in
theorem qw81 : Cond.selects RX11 yX11_alike yX11_alike ∈ wA := zw 81 (by decide +kernel) (by decide +kernel)
set_option maxRecDepth 20000 in
theorem qw82 : Cond.selects RX11 yX11_areReal yX11_areReal ∈ wA := zw 82 (by decide +kernel) (by decide +kernel)
set_option maxRecDepth 20000 in
theorem qw83 : Cond.selects RX11 yX11_isApart yX11_isApart ∈ wA := zw 83 (by decide +kernel) (by decide +kernel)
set_option maxRecDepth 20000 in
theorem qw84 : Cond.selects RX11 yX11_areTold yX11_areTold ∈ wA := zw 84 (by decide +kernel) (by decide +kernel)
set_option maxRecDepth 20000 in
theorem qw85 : Cond.selects RX11 yX11_worthBy yX11_worthBy ∈ wA := zw 85 (by decide +kernel) (by decide +kernel)
set_option maxRecDepth 20000 in
theorem qw86 : Cond.selects RX11 yX11_chosen yX11_chosen ∈ wA := zw 86 (by decide +kernel) (by decide +kernel)
set_option maxRecDepth 20000 in
theorem qw87 : Cond.selects RX11 yX11_worthAs yX11_worthAs ∈ wA := zw 87 (by decide +kernel) (by decide +kernel)
set_option maxRecDepth 20000 in
theorem qw88 : Cond.selects RX11 yX11_areTwo yX11_areTwo ∈ wA := zw 88 (by decide +kernel) (by decide +kernel)
set_option maxRecDepth 20000 in
theorem qw89 : Cond.selects RX11 yX11_gameOf yX11_gameOf ∈ wA := zw 89 (by decide +kernel) (by decide +kernel)
set_option maxRecDepth 20000 in
theorem qw90 : Cond.selects RX11 yX11_isRest yX11_isRest ∈ wA := zw 90 (by decide +kernel) (by decide +kernel)
set_option maxRecDepth 20000 in
theorem qw91 : Cond.selects RX11 yX11_trySends yX11_trySends ∈ wA := zw 91 (by decide +kernel) (by decide +kernel)
set_option maxRecDepth 20000 in
theorem qw92 : Cond.selects RX11 yX11_layMatch yX11_layMatch ∈ wA := zw 92 (by decide +kernel) (by decide +kernel)
set_option maxRecDepth 20000 in
theorem qw93 : Cond.selects RX11 yX11_asksNext yX11_asksNext ∈ wA := zw 93 (by decide +kernel) (by decide +kernel)
set_option maxRecDepth 20000 in
theorem qw94 : Cond.selects RX11 yX11_isBetter yX11_isBetter ∈ wA := zw 94 (by decide +kernel) (by decide +kernel)
set_option maxRecDepth 20000 in
theorem qw95 : Cond.selects RX11 yX11_mostOf yX11_mostOf ∈ wA := zw 95 (by decide +kernel) (by decide +kernel)
set_option maxRecDepth 20000 in
theorem qw96 : Cond.selects RX11 yX11_lies yX11_lies ∈ wA := zw 96 (by decide +kernel) (by decide +kernel)
set_option maxRecDepth 20000 in
theorem qw108 : Cond.initialized RX11 ∈ wA := List.mem_filter.mpr ⟨zt1 (List.mem_of_getElem? (i := 11) rfl), (by decide +kernel)⟩
set_option maxRecDepth 20000 in
theorem qw1127 : Cond.fieldLink RX11 83 "NinePortraitsModel" "thrown" "I" ∈ wA := List.mem_filter.mpr ⟨zt5 (List.mem_of_getElem? (i := 70) rfl), (by decide +kernel)⟩
set_option maxRecDepth 20000 in
theorem qw1128 : Cond.fieldLink RX11 9 "NinePortraitsModel" "tape" "[I" ∈ wA := List.mem_filter.mpr ⟨zt5 (List.mem_of_getElem? (i := 71) rfl), (by decide +kernel)⟩
set_option maxRecDepth 20000 in
theorem qw1129 : Cond.fieldLink RX11 90 "NinePortraitsModel" "size" "I" ∈ wA := List.mem_filter.mpr ⟨zt5 (List.mem_of_getElem? (i := 72) rfl), (by decide +kernel)⟩
set_option maxRecDepth 20000 in
theorem qw1130 : Cond.fieldLink RX11 93 "NinePortraitsModel" "at" "I" ∈ wA := List.mem_filter.mpr ⟨zt5 (List.mem_of_getElem? (i := 73) rfl), (by decide +kernel)⟩
set_option maxRecDepth 20000 in
theorem qw1131 : Cond.fieldLink RX11 100 "NinePortraitsModel" "wrong" "I" ∈ wA := List.mem_filter.mpr ⟨zt5 (List.mem_of_getElem? (i := 74) rfl), (by decide +kernel)⟩
set_option maxRecDepth 20000 in
theorem qw1133 : Cond.fieldLink RX11 13 "NinePortraitsModel" "code" "[I" ∈ wA := List.mem_filter.mpr ⟨zt5 (List.mem_of_getElem? (i := 76) rfl), (by decide +kernel)⟩
set_option maxRecDepth 20000 in
theorem qw1134 : Cond.fieldLink RX11 16 "NinePortraitsModel" "value" "[I" ∈ wA := List.mem_filter.mpr ⟨zt5 (List.mem_of_getElem? (i := 77) rfl), (by decide +kernel)⟩
set_option maxRecDepth 20000 in
theorem qw1136 : Cond.fieldLink RX11 22 "NinePortraitsModel" "clauses" "[I" ∈ wA := List.mem_filter.mpr ⟨zt5 (List.mem_of_getElem? (i := 79) rfl), (by decide +kernel)⟩
set_option maxRecDepth 20000 in
theorem qw1137 : Cond.fieldLink RX11 25 "NinePortraitsModel" "testFrom" "[I" ∈ wA := List.mem_filter.mpr ⟨zt5 (List.mem_of_getElem? (i := 80) rfl), (by decide +kernel)⟩
set_option maxRecDepth 20000 in
theorem qw1138 : Cond.fieldLink RX11 28 "NinePortraitsModel" "sumFrom" "[I" ∈ wA := List.mem_filter.mpr ⟨zt5 (List.mem_of_getElem? (i := 81) rfl), (by decide +kernel)⟩
set_option maxRecDepth 20000 in
theorem qw1139 : Cond.fieldLink RX11 31 "NinePortraitsModel" "sumTo" "[I" ∈ wA := List.mem_filter.mpr ⟨zt5 (List.mem_of_getElem? (i := 82) rfl), (by decide +kernel)⟩
set_option maxRecDepth 20000 in
theorem qw1140 : Cond.fieldLink RX11 257 "NinePortraitsModel" "laws" "I" ∈ wA := List.mem_filter.mpr ⟨zt5 (List.mem_of_getElem? (i := 83) rfl), (by decide +kernel)⟩
set_option maxRecDepth 20000 in
theorem qw1142 : Cond.fieldLink RX11 34 "NinePortraitsModel" "letters" "[I" ∈ wA := List.mem_filter.mpr ⟨zt5 (List.mem_of_getElem? (i := 85) rfl), (by decide +kernel)⟩
set_option maxRecDepth 20000 in
theorem qw1143 : Cond.fieldLink RX11 37 "NinePortraitsModel" "stack" "[I" ∈ wA := List.mem_filter.mpr ⟨zt5 (List.mem_of_getElem? (i := 86) rfl), (by decide +kernel)⟩
set_option maxRecDepth 20000 in
theorem qw1149 : Cond.fieldLink RX11 49 "NinePortraitsModel" "rule" "[I" ∈ wA := List.mem_filter.mpr ⟨zt5 (List.mem_of_getElem? (i := 92) rfl), (by decide +kernel)⟩
set_option maxRecDepth 20000 in
theorem qw1150 : Cond.fieldLink RX11 52 "NinePortraitsModel" "bride" "[I" ∈ wA := List.mem_filter.mpr ⟨zt5 (List.mem_of_getElem? (i := 93) rfl), (by decide +kernel)⟩
set_option maxRecDepth 20000 in
theorem qw1151 : Cond.fieldLink RX11 55 "NinePortraitsModel" "painter" "[I" ∈ wA := List.mem_filter.mpr ⟨zt5 (List.mem_of_getElem? (i := 94) rfl), (by decide +kernel)⟩
set_option maxRecDepth 20000 in
theorem qw1152 : Cond.fieldLink RX11 235 "NinePortraitsModel" "brides" "I" ∈ wA := List.mem_filter.mpr ⟨zt5 (List.mem_of_getElem? (i := 95) rfl), (by decide +kernel)⟩
set_option maxRecDepth 20000 in
theorem qw1153 : Cond.fieldLink RX11 238 "NinePortraitsModel" "painters" "I" ∈ wA := List.mem_filter.mpr ⟨zt5 (List.mem_of_getElem? (i := 96) rfl), (by decide +kernel)⟩
set_option maxRecDepth 20000 in
theorem qw1154 : Cond.fieldLink RX11 58 "NinePortraitsModel" "now" "[I" ∈ wA := List.mem_filter.mpr ⟨zt5 (List.mem_of_getElem? (i := 97) rfl), (by decide +kernel)⟩
set_option maxRecDepth 20000 in
theorem qw1155 : Cond.fieldLink RX11 61 "NinePortraitsModel" "refused" "[I" ∈ wA := List.mem_filter.mpr ⟨zt5 (List.mem_of_getElem? (i := 98) rfl), (by decide +kernel)⟩
set_option maxRecDepth 20000 in
theorem qw1156 : Cond.fieldLink RX11 64 "NinePortraitsModel" "holding" "I" ∈ wA := List.mem_filter.mpr ⟨zt5 (List.mem_of_getElem? (i := 99) rfl), (by decide +kernel)⟩
set_option maxRecDepth 20000 in
theorem qw1157 : Cond.fieldLink RX11 319 "NinePortraitsModel" "bribes" "I" ∈ wA := List.mem_filter.mpr ⟨zt5 (List.mem_of_getElem? (i := 100) rfl), (by decide +kernel)⟩
set_option maxRecDepth 20000 in
theorem qw1158 : Cond.fieldLink RX11 68 "NinePortraitsModel" "kept" "[I" ∈ wA := List.mem_filter.mpr ⟨zt5 (List.mem_of_getElem? (i := 101) rfl), (by decide +kernel)⟩
set_option maxRecDepth 20000 in
theorem qw1159 : Cond.fieldLink RX11 247 "NinePortraitsModel" "acts" "I" ∈ wA := List.mem_filter.mpr ⟨zt5 (List.mem_of_getElem? (i := 102) rfl), (by decide +kernel)⟩
set_option maxRecDepth 20000 in
theorem qw1160 : Cond.fieldLink RX11 322 "NinePortraitsModel" "draws" "J" ∈ wA := List.mem_filter.mpr ⟨zt5 (List.mem_of_getElem? (i := 103) rfl), (by decide +kernel)⟩
set_option maxRecDepth 20000 in
theorem qw1161 : Cond.fieldLink RX11 71 "NinePortraitsModel" "beliefs" "[I" ∈ wA := List.mem_filter.mpr ⟨zt5 (List.mem_of_getElem? (i := 104) rfl), (by decide +kernel)⟩
set_option maxRecDepth 20000 in
theorem qw1162 : Cond.fieldLink RX11 395 "NinePortraitsModel" "sendRow" "I" ∈ wA := List.mem_filter.mpr ⟨zt5 (List.mem_of_getElem? (i := 105) rfl), (by decide +kernel)⟩
set_option maxRecDepth 20000 in
theorem qw1163 : Cond.fieldLink RX11 398 "NinePortraitsModel" "sendFees" "I" ∈ wA := List.mem_filter.mpr ⟨zt5 (List.mem_of_getElem? (i := 106) rfl), (by decide +kernel)⟩
set_option maxRecDepth 20000 in
theorem qw1164 : Cond.fieldLink RX11 74 "NinePortraitsModel" "askedBy" "[I" ∈ wA := List.mem_filter.mpr ⟨zt5 (List.mem_of_getElem? (i := 107) rfl), (by decide +kernel)⟩
set_option maxRecDepth 20000 in
theorem qw1165 : Cond.fieldLink RX11 77 "NinePortraitsModel" "holdsOne" "[I" ∈ wA := List.mem_filter.mpr ⟨zt5 (List.mem_of_getElem? (i := 108) rfl), (by decide +kernel)⟩
set_option maxRecDepth 20000 in
theorem qw1166 : Cond.fieldLink RX11 80 "NinePortraitsModel" "image" "[I" ∈ wA := List.mem_filter.mpr ⟨zt5 (List.mem_of_getElem? (i := 109) rfl), (by decide +kernel)⟩
set_option maxRecDepth 20000 in
theorem qw1167 : Cond.fieldLink RX11 250 "NinePortraitsModel" "hasImage" "Z" ∈ wA := List.mem_filter.mpr ⟨zt5 (List.mem_of_getElem? (i := 110) rfl), (by decide +kernel)⟩
set_option maxRecDepth 20000 in
theorem qw1255 : Cond.methodLink RX11 86 yX11_byteOf ∈ wA := List.mem_filter.mpr ⟨zt5 (List.mem_of_getElem? (i := 198) rfl), (by decide +kernel)⟩
set_option maxRecDepth 20000 in
theorem qw1256 : Cond.static yX11_byteOf ∈ wA := List.mem_filter.mpr ⟨zt5 (List.mem_of_getElem? (i := 199) rfl), (by decide +kernel)⟩
set_option maxRecDepth 20000 in
theorem qw1257 : Cond.code yX11_byteOf cX11_byteOf 7 (some .int) ∈ wA := List.mem_filter.mpr ⟨zt5 (List.mem_of_getElem? (i := 200) rfl), (by decide +kernel)⟩
set_option maxRecDepth 20000 in
theorem qw1277 : Cond.methodLink RX11 96 yX11_here ∈ wA := List.mem_filter.mpr ⟨zt5 (List.mem_of_getElem? (i := 220) rfl), (by decide +kernel)⟩
set_option maxRecDepth 20000 in
theorem qw1279 : Cond.instanceMethod yX11_here ∈ wA := List.mem_filter.mpr ⟨zt5 (List.mem_of_getElem? (i := 222) rfl), (by decide +kernel)⟩
set_option maxRecDepth 20000 in
theorem qw1280 : Cond.code yX11_here cX11_here 1 (some .int) ∈ wA := List.mem_filter.mpr ⟨zt5 (List.mem_of_getElem? (i := 223) rfl), (by decide +kernel)⟩
set_option maxRecDepth 20000 in
theorem qw1288 : Cond.methodLink RX11 209 yX11_has ∈ wA := List.mem_filter.mpr ⟨zt5 (List.mem_of_getElem? (i := 231) rfl), (by decide +kernel)⟩
set_option maxRecDepth 20000 in
theorem qw1289 : Cond.static yX11_has ∈ wA := List.mem_filter.mpr ⟨zt5 (List.mem_of_getElem? (i := 232) rfl), (by decide +kernel)⟩
set_option maxRecDepth 20000 in
theorem qw1290 : Cond.code yX11_has cX11_has 2 (some .boolean) ∈ wA := List.mem_filter.mpr ⟨zt5 (List.mem_of_getElem? (i := 233) rfl), (by decide +kernel)⟩
set_option maxRecDepth 20000 in
theorem qw1305 : Cond.methodLink RX11 198 yX11_in ∈ wA := List.mem_filter.mpr ⟨zt6 (List.mem_of_getElem? (i := 8) rfl), (by decide +kernel)⟩
set_option maxRecDepth 20000 in
theorem qw1306 : Cond.static yX11_in ∈ wA := List.mem_filter.mpr ⟨zt6 (List.mem_of_getElem? (i := 9) rfl), (by decide +kernel)⟩
set_option maxRecDepth 20000 in
theorem qw1307 : Cond.code yX11_in cX11_in 3 (some .boolean) ∈ wA := List.mem_filter.mpr ⟨zt6 (List.mem_of_getElem? (i := 10) rfl), (by decide +kernel)⟩
set_option maxRecDepth 20000 in
theorem qw1386 : Cond.methodLink RX11 241 yX11_of ∈ wA := List.mem_filter.mpr ⟨zt6 (List.mem_of_getElem? (i := 89) rfl), (by decide +kernel)⟩
set_option maxRecDepth 20000 in
theorem qw1388 : Cond.instanceMethod yX11_of ∈ wA := List.mem_filter.mpr ⟨zt6 (List.mem_of_getElem? (i := 91) rfl), (by decide +kernel)⟩
set_option maxRecDepth 20000 in
theorem qw1389 : Cond.code yX11_of cX11_of 3 (some .int) ∈ wA := List.mem_filter.mpr ⟨zt6 (List.mem_of_getElem? (i := 92) rfl), (by decide +kernel)⟩
set_option maxRecDepth 20000 in
theorem qw1390 : Cond.methodLink RX11 244 yX11_by ∈ wA := List.mem_filter.mpr ⟨zt6 (List.mem_of_getElem? (i := 93) rfl), (by decide +kernel)⟩
set_option maxRecDepth 20000 in
theorem qw1392 : Cond.instanceMethod yX11_by ∈ wA := List.mem_filter.mpr ⟨zt6 (List.mem_of_getElem? (i := 95) rfl), (by decide +kernel)⟩
set_option maxRecDepth 20000 in
theorem qw1393 : Cond.code yX11_by cX11_by 3 (some .int) ∈ wA := List.mem_filter.mpr ⟨zt6 (List.mem_of_getElem? (i := 96) rfl), (by decide +kernel)⟩
set_option maxRecDepth 20000 in
theorem qw1402 : Cond.methodLink RX11 263 yX11_isBride ∈ wA := List.mem_filter.mpr ⟨zt6 (List.mem_of_getElem? (i := 105) rfl), (by decide +kernel)⟩
set_option maxRecDepth 20000 in
theorem qw1404 : Cond.instanceMethod yX11_isBride ∈ wA := List.mem_filter.mpr ⟨zt6 (List.mem_of_getElem? (i := 107) rfl), (by decide +kernel)⟩
set_option maxRecDepth 20000 in
theorem qw1405 : Cond.code yX11_isBride cX11_isBride 2 (some .boolean) ∈ wA := List.mem_filter.mpr ⟨zt6 (List.mem_of_getElem? (i := 108) rfl), (by decide +kernel)⟩
set_option maxRecDepth 20000 in
theorem qw1410 : Cond.methodLink RX11 260 yX11_isPainter ∈ wA := List.mem_filter.mpr ⟨zt6 (List.mem_of_getElem? (i := 113) rfl), (by decide +kernel)⟩
set_option maxRecDepth 20000 in
theorem qw1412 : Cond.instanceMethod yX11_isPainter ∈ wA := List.mem_filter.mpr ⟨zt6 (List.mem_of_getElem? (i := 115) rfl), (by decide +kernel)⟩
set_option maxRecDepth 20000 in
theorem qw1413 : Cond.code yX11_isPainter cX11_isPainter 2 (some .boolean) ∈ wA := List.mem_filter.mpr ⟨zt6 (List.mem_of_getElem? (i := 116) rfl), (by decide +kernel)⟩
set_option maxRecDepth 20000 in
theorem qw1422 : Cond.methodLink RX11 286 yX11_areBoth ∈ wA := List.mem_filter.mpr ⟨zt6 (List.mem_of_getElem? (i := 125) rfl), (by decide +kernel)⟩
set_option maxRecDepth 20000 in
theorem qw1424 : Cond.instanceMethod yX11_areBoth ∈ wA := List.mem_filter.mpr ⟨zt6 (List.mem_of_getElem? (i := 127) rfl), (by decide +kernel)⟩
set_option maxRecDepth 20000 in
theorem qw1425 : Cond.code yX11_areBoth cX11_areBoth 3 (some .boolean) ∈ wA := List.mem_filter.mpr ⟨zt6 (List.mem_of_getElem? (i := 128) rfl), (by decide +kernel)⟩
set_option maxRecDepth 20000 in
theorem qw1426 : Cond.methodLink RX11 268 yX11_flatteryBy ∈ wA := List.mem_filter.mpr ⟨zt6 (List.mem_of_getElem? (i := 129) rfl), (by decide +kernel)⟩
set_option maxRecDepth 20000 in
theorem qw1428 : Cond.instanceMethod yX11_flatteryBy ∈ wA := List.mem_filter.mpr ⟨zt6 (List.mem_of_getElem? (i := 131) rfl), (by decide +kernel)⟩
set_option maxRecDepth 20000 in
theorem qw1429 : Cond.code yX11_flatteryBy cX11_flatteryBy 3 (some .int) ∈ wA := List.mem_filter.mpr ⟨zt6 (List.mem_of_getElem? (i := 132) rfl), (by decide +kernel)⟩
set_option maxRecDepth 20000 in
theorem qw1430 : Cond.methodLink RX11 266 Lib.Math.max.name ∈ wA := List.mem_filter.mpr ⟨zt6 (List.mem_of_getElem? (i := 133) rfl), (by decide +kernel)⟩
set_option maxRecDepth 20000 in
theorem qw1435 : Cond.methodLink RX11 289 yX11_isFace ∈ wA := List.mem_filter.mpr ⟨zt6 (List.mem_of_getElem? (i := 138) rfl), (by decide +kernel)⟩
set_option maxRecDepth 20000 in
theorem qw1436 : Cond.static yX11_isFace ∈ wA := List.mem_filter.mpr ⟨zt6 (List.mem_of_getElem? (i := 139) rfl), (by decide +kernel)⟩
set_option maxRecDepth 20000 in
theorem qw1437 : Cond.code yX11_isFace cX11_isFace 1 (some .boolean) ∈ wA := List.mem_filter.mpr ⟨zt6 (List.mem_of_getElem? (i := 140) rfl), (by decide +kernel)⟩
set_option maxRecDepth 20000 in
theorem qw1438 : Cond.methodLink RX11 292 yX11_shownOf ∈ wA := List.mem_filter.mpr ⟨zt6 (List.mem_of_getElem? (i := 141) rfl), (by decide +kernel)⟩
set_option maxRecDepth 20000 in
theorem qw1440 : Cond.instanceMethod yX11_shownOf ∈ wA := List.mem_filter.mpr ⟨zt6 (List.mem_of_getElem? (i := 143) rfl), (by decide +kernel)⟩
set_option maxRecDepth 20000 in
theorem qw1441 : Cond.code yX11_shownOf cX11_shownOf 5 (some .int) ∈ wA := List.mem_filter.mpr ⟨zt6 (List.mem_of_getElem? (i := 144) rfl), (by decide +kernel)⟩
set_option maxRecDepth 20000 in
theorem qw1442 : Cond.methodLink RX11 279 yX11_looksBy ∈ wA := List.mem_filter.mpr ⟨zt6 (List.mem_of_getElem? (i := 145) rfl), (by decide +kernel)⟩
set_option maxRecDepth 20000 in
theorem qw1444 : Cond.instanceMethod yX11_looksBy ∈ wA := List.mem_filter.mpr ⟨zt6 (List.mem_of_getElem? (i := 147) rfl), (by decide +kernel)⟩
set_option maxRecDepth 20000 in
theorem qw1445 : Cond.code yX11_looksBy cX11_looksBy 6 (some .int) ∈ wA := List.mem_filter.mpr ⟨zt6 (List.mem_of_getElem? (i := 148) rfl), (by decide +kernel)⟩
set_option maxRecDepth 20000 in
theorem qw1446 : Cond.methodLink RX11 271 yX11_worthOf ∈ wA := List.mem_filter.mpr ⟨zt6 (List.mem_of_getElem? (i := 149) rfl), (by decide +kernel)⟩
set_option maxRecDepth 20000 in
theorem qw1448 : Cond.instanceMethod yX11_worthOf ∈ wA := List.mem_filter.mpr ⟨zt6 (List.mem_of_getElem? (i := 151) rfl), (by decide +kernel)⟩
set_option maxRecDepth 20000 in
theorem qw1449 : Cond.code yX11_worthOf cX11_worthOf 3 (some .int) ∈ wA := List.mem_filter.mpr ⟨zt6 (List.mem_of_getElem? (i := 152) rfl), (by decide +kernel)⟩
set_option maxRecDepth 20000 in
theorem qw1450 : Cond.methodLink RX11 194 yX11_workOut ∈ wA := List.mem_filter.mpr ⟨zt6 (List.mem_of_getElem? (i := 153) rfl), (by decide +kernel)⟩
set_option maxRecDepth 20000 in
theorem qw1452 : Cond.instanceMethod yX11_workOut ∈ wA := List.mem_filter.mpr ⟨zt6 (List.mem_of_getElem? (i := 155) rfl), (by decide +kernel)⟩
set_option maxRecDepth 20000 in
theorem qw1453 : Cond.code yX11_workOut cX11_workOut 6 (some .int) ∈ wA := List.mem_filter.mpr ⟨zt6 (List.mem_of_getElem? (i := 156) rfl), (by decide +kernel)⟩
set_option maxRecDepth 20000 in
theorem qw1454 : Cond.methodLink RX11 190 yX11_worked ∈ wA := List.mem_filter.mpr ⟨zt6 (List.mem_of_getElem? (i := 157) rfl), (by decide +kernel)⟩
set_option maxRecDepth 20000 in
theorem qw1455 : Cond.static yX11_worked ∈ wA := List.mem_filter.mpr ⟨zt6 (List.mem_of_getElem? (i := 158) rfl), (by decide +kernel)⟩
set_option maxRecDepth 20000 in
theorem qw1456 : Cond.code yX11_worked cX11_worked 5 (some .int) ∈ wA := List.mem_filter.mpr ⟨zt6 (List.mem_of_getElem? (i := 159) rfl), (by decide +kernel)⟩
set_option maxRecDepth 20000 in
theorem qw1457 : Cond.methodLink RX11 186 yX11_bounded ∈ wA := List.mem_filter.mpr ⟨zt6 (List.mem_of_getElem? (i := 160) rfl), (by decide +kernel)⟩
set_option maxRecDepth 20000 in
theorem qw1458 : Cond.static yX11_bounded ∈ wA := List.mem_filter.mpr ⟨zt6 (List.mem_of_getElem? (i := 161) rfl), (by decide +kernel)⟩
set_option maxRecDepth 20000 in
theorem qw1459 : Cond.code yX11_bounded cX11_bounded 2 (some .int) ∈ wA := List.mem_filter.mpr ⟨zt6 (List.mem_of_getElem? (i := 162) rfl), (by decide +kernel)⟩
set_option maxRecDepth 20000 in
theorem qw1460 : Cond.constantLong RX11 173 (-1000000) ∈ wA := List.mem_filter.mpr ⟨zt6 (List.mem_of_getElem? (i := 163) rfl), (by decide +kernel)⟩
set_option maxRecDepth 20000 in
theorem qw1461 : Cond.constantLong RX11 175 1000000 ∈ wA := List.mem_filter.mpr ⟨zt6 (List.mem_of_getElem? (i := 164) rfl), (by decide +kernel)⟩
set_option maxRecDepth 20000 in
theorem qw1462 : Cond.methodLink RX11 177 Lib.MathLoose.min_long.x ∈ wA := List.mem_filter.mpr ⟨zt6 (List.mem_of_getElem? (i := 165) rfl), (by decide +kernel)⟩
set_option maxRecDepth 20000 in
theorem qw1463 : Cond.static Lib.MathLoose.min_long.x ∈ wA := List.mem_filter.mpr ⟨zt6 (List.mem_of_getElem? (i := 166) rfl), (by decide +kernel)⟩
set_option maxRecDepth 20000 in
theorem qw1464 : Cond.code Lib.MathLoose.min_long.x Lib.MathLoose.min_long.code 4 (some .long) ∈ wA := List.mem_filter.mpr ⟨zt6 (List.mem_of_getElem? (i := 167) rfl), (by decide +kernel)⟩
set_option maxRecDepth 20000 in
theorem qw1465 : Cond.methodLink RX11 183 Lib.MathLoose.max_long.x ∈ wA := List.mem_filter.mpr ⟨zt6 (List.mem_of_getElem? (i := 168) rfl), (by decide +kernel)⟩
set_option maxRecDepth 20000 in
theorem qw1466 : Cond.static Lib.MathLoose.max_long.x ∈ wA := List.mem_filter.mpr ⟨zt6 (List.mem_of_getElem? (i := 169) rfl), (by decide +kernel)⟩
set_option maxRecDepth 20000 in
theorem qw1467 : Cond.code Lib.MathLoose.max_long.x Lib.MathLoose.max_long.code 4 (some .long) ∈ wA := List.mem_filter.mpr ⟨zt6 (List.mem_of_getElem? (i := 170) rfl), (by decide +kernel)⟩
set_option maxRecDepth 20000 in
theorem qw1468 : Cond.methodLink RX11 274 Lib.Math.min.name ∈ wA := List.mem_filter.mpr ⟨zt6 (List.mem_of_getElem? (i := 171) rfl), (by decide +kernel)⟩
set_option maxRecDepth 20000 in
theorem qw1469 : Cond.methodLink RX11 283 yX11_latestOf ∈ wA := List.mem_filter.mpr ⟨zt6 (List.mem_of_getElem? (i := 172) rfl), (by decide +kernel)⟩
set_option maxRecDepth 20000 in
theorem qw1471 : Cond.instanceMethod yX11_latestOf ∈ wA := List.mem_filter.mpr ⟨zt6 (List.mem_of_getElem? (i := 174) rfl), (by decide +kernel)⟩
set_option maxRecDepth 20000 in
theorem qw1472 : Cond.code yX11_latestOf cX11_latestOf 3 (some .int) ∈ wA := List.mem_filter.mpr ⟨zt6 (List.mem_of_getElem? (i := 175) rfl), (by decide +kernel)⟩
set_option maxRecDepth 20000 in
theorem qw1473 : Cond.methodLink RX11 276 yX11_shot ∈ wA := List.mem_filter.mpr ⟨zt6 (List.mem_of_getElem? (i := 176) rfl), (by decide +kernel)⟩
set_option maxRecDepth 20000 in
theorem qw1475 : Cond.instanceMethod yX11_shot ∈ wA := List.mem_filter.mpr ⟨zt6 (List.mem_of_getElem? (i := 178) rfl), (by decide +kernel)⟩
set_option maxRecDepth 20000 in
theorem qw1476 : Cond.code yX11_shot cX11_shot 3 (some .int) ∈ wA := List.mem_filter.mpr ⟨zt6 (List.mem_of_getElem? (i := 179) rfl), (by decide +kernel)⟩
set_option maxRecDepth 20000 in
theorem qw1481 : Cond.methodLink RX11 295 yX11_isRefused ∈ wA := List.mem_filter.mpr ⟨zt6 (List.mem_of_getElem? (i := 184) rfl), (by decide +kernel)⟩
set_option maxRecDepth 20000 in
theorem qw1483 : Cond.instanceMethod yX11_isRefused ∈ wA := List.mem_filter.mpr ⟨zt6 (List.mem_of_getElem? (i := 186) rfl), (by decide +kernel)⟩
set_option maxRecDepth 20000 in
theorem qw1484 : Cond.code yX11_isRefused cX11_isRefused 2 (some .boolean) ∈ wA := List.mem_filter.mpr ⟨zt6 (List.mem_of_getElem? (i := 187) rfl), (by decide +kernel)⟩
set_option maxRecDepth 20000 in
theorem qw1485 : Cond.methodLink RX11 298 yX11_keep ∈ wA := List.mem_filter.mpr ⟨zt6 (List.mem_of_getElem? (i := 188) rfl), (by decide +kernel)⟩
set_option maxRecDepth 20000 in
theorem qw1487 : Cond.instanceMethod yX11_keep ∈ wA := List.mem_filter.mpr ⟨zt6 (List.mem_of_getElem? (i := 190) rfl), (by decide +kernel)⟩
set_option maxRecDepth 20000 in
theorem qw1488 : Cond.code yX11_keep cX11_keep 2 none ∈ wA := List.mem_filter.mpr ⟨zt6 (List.mem_of_getElem? (i := 191) rfl), (by decide +kernel)⟩
set_option maxRecDepth 20000 in
theorem qw1489 : Cond.methodLink RX11 301 yX11_paintNow ∈ wA := List.mem_filter.mpr ⟨zt6 (List.mem_of_getElem? (i := 192) rfl), (by decide +kernel)⟩
set_option maxRecDepth 20000 in
theorem qw1491 : Cond.instanceMethod yX11_paintNow ∈ wA := List.mem_filter.mpr ⟨zt6 (List.mem_of_getElem? (i := 194) rfl), (by decide +kernel)⟩
set_option maxRecDepth 20000 in
theorem qw1492 : Cond.code yX11_paintNow cX11_paintNow 5 (some .int) ∈ wA := List.mem_filter.mpr ⟨zt6 (List.mem_of_getElem? (i := 195) rfl), (by decide +kernel)⟩
set_option maxRecDepth 20000 in
theorem qw1505 : Cond.methodLink RX11 304 yX11_isTold ∈ wA := List.mem_filter.mpr ⟨zt6 (List.mem_of_getElem? (i := 208) rfl), (by decide +kernel)⟩
set_option maxRecDepth 20000 in
theorem qw1507 : Cond.instanceMethod yX11_isTold ∈ wA := List.mem_filter.mpr ⟨zt6 (List.mem_of_getElem? (i := 210) rfl), (by decide +kernel)⟩
set_option maxRecDepth 20000 in
theorem qw1508 : Cond.code yX11_isTold cX11_isTold 4 (some .boolean) ∈ wA := List.mem_filter.mpr ⟨zt6 (List.mem_of_getElem? (i := 211) rfl), (by decide +kernel)⟩
set_option maxRecDepth 20000 in
theorem qw1521 : Cond.methodLink RX11 310 yX11_lookedOf ∈ wA := List.mem_filter.mpr ⟨zt6 (List.mem_of_getElem? (i := 224) rfl), (by decide +kernel)⟩
set_option maxRecDepth 20000 in
theorem qw1523 : Cond.instanceMethod yX11_lookedOf ∈ wA := List.mem_filter.mpr ⟨zt6 (List.mem_of_getElem? (i := 226) rfl), (by decide +kernel)⟩
set_option maxRecDepth 20000 in
theorem qw1524 : Cond.code yX11_lookedOf cX11_lookedOf 4 (some .int) ∈ wA := List.mem_filter.mpr ⟨zt6 (List.mem_of_getElem? (i := 227) rfl), (by decide +kernel)⟩
set_option maxRecDepth 20000 in
theorem qw1525 : Cond.methodLink RX11 307 yX11_seenOf ∈ wA := List.mem_filter.mpr ⟨zt6 (List.mem_of_getElem? (i := 228) rfl), (by decide +kernel)⟩
set_option maxRecDepth 20000 in
theorem qw1527 : Cond.instanceMethod yX11_seenOf ∈ wA := List.mem_filter.mpr ⟨zt6 (List.mem_of_getElem? (i := 230) rfl), (by decide +kernel)⟩
set_option maxRecDepth 20000 in
theorem qw1528 : Cond.code yX11_seenOf cX11_seenOf 4 (some .int) ∈ wA := List.mem_filter.mpr ⟨zt6 (List.mem_of_getElem? (i := 231) rfl), (by decide +kernel)⟩
set_option maxRecDepth 20000 in
theorem qw1533 : Cond.methodLink RX11 313 yX11_areMonths ∈ wA := List.mem_filter.mpr ⟨zt6 (List.mem_of_getElem? (i := 236) rfl), (by decide +kernel)⟩
set_option maxRecDepth 20000 in
theorem qw1535 : Cond.instanceMethod yX11_areMonths ∈ wA := List.mem_filter.mpr ⟨zt6 (List.mem_of_getElem? (i := 238) rfl), (by decide +kernel)⟩
set_option maxRecDepth 20000 in
theorem qw1536 : Cond.code yX11_areMonths cX11_areMonths 2 (some .boolean) ∈ wA := List.mem_filter.mpr ⟨zt6 (List.mem_of_getElem? (i := 239) rfl), (by decide +kernel)⟩
set_option maxRecDepth 20000 in
theorem qw1537 : Cond.methodLink RX11 316 yX11_passMonth ∈ wA := List.mem_filter.mpr ⟨zt7 (List.mem_of_getElem? (i := 0) rfl), (by decide +kernel)⟩
set_option maxRecDepth 20000 in
theorem qw1539 : Cond.instanceMethod yX11_passMonth ∈ wA := List.mem_filter.mpr ⟨zt7 (List.mem_of_getElem? (i := 2) rfl), (by decide +kernel)⟩
set_option maxRecDepth 20000 in
theorem qw1540 : Cond.code yX11_passMonth cX11_passMonth 1 none ∈ wA := List.mem_filter.mpr ⟨zt7 (List.mem_of_getElem? (i := 3) rfl), (by decide +kernel)⟩
set_option maxRecDepth 20000 in
theorem qw1549 : Cond.methodLink RX11 333 yX11_drawMonth ∈ wA := List.mem_filter.mpr ⟨zt7 (List.mem_of_getElem? (i := 12) rfl), (by decide +kernel)⟩
set_option maxRecDepth 20000 in
theorem qw1551 : Cond.instanceMethod yX11_drawMonth ∈ wA := List.mem_filter.mpr ⟨zt7 (List.mem_of_getElem? (i := 14) rfl), (by decide +kernel)⟩
set_option maxRecDepth 20000 in
theorem qw1552 : Cond.code yX11_drawMonth cX11_drawMonth 4 none ∈ wA := List.mem_filter.mpr ⟨zt7 (List.mem_of_getElem? (i := 15) rfl), (by decide +kernel)⟩
set_option maxRecDepth 20000 in
theorem qw1553 : Cond.methodLink RX11 330 yX11_draw ∈ wA := List.mem_filter.mpr ⟨zt7 (List.mem_of_getElem? (i := 16) rfl), (by decide +kernel)⟩
set_option maxRecDepth 20000 in
theorem qw1555 : Cond.instanceMethod yX11_draw ∈ wA := List.mem_filter.mpr ⟨zt7 (List.mem_of_getElem? (i := 18) rfl), (by decide +kernel)⟩
set_option maxRecDepth 20000 in
theorem qw1556 : Cond.code yX11_draw cX11_draw 2 (some .int) ∈ wA := List.mem_filter.mpr ⟨zt7 (List.mem_of_getElem? (i := 19) rfl), (by decide +kernel)⟩
set_option maxRecDepth 20000 in
theorem qw1557 : Cond.constantLong RX11 326 6364136223846793005 ∈ wA := List.mem_filter.mpr ⟨zt7 (List.mem_of_getElem? (i := 20) rfl), (by decide +kernel)⟩
set_option maxRecDepth 20000 in
theorem qw1558 : Cond.constantLong RX11 328 1442695040888963407 ∈ wA := List.mem_filter.mpr ⟨zt7 (List.mem_of_getElem? (i := 21) rfl), (by decide +kernel)⟩
set_option maxRecDepth 20000 in
theorem qw1575 : Cond.methodLink RX11 339 yX11_fitsOf ∈ wA := List.mem_filter.mpr ⟨zt7 (List.mem_of_getElem? (i := 38) rfl), (by decide +kernel)⟩
set_option maxRecDepth 20000 in
theorem qw1577 : Cond.instanceMethod yX11_fitsOf ∈ wA := List.mem_filter.mpr ⟨zt7 (List.mem_of_getElem? (i := 40) rfl), (by decide +kernel)⟩
set_option maxRecDepth 20000 in
theorem qw1578 : Cond.code yX11_fitsOf cX11_fitsOf 4 (some .int) ∈ wA := List.mem_filter.mpr ⟨zt7 (List.mem_of_getElem? (i := 41) rfl), (by decide +kernel)⟩
set_option maxRecDepth 20000 in
theorem qw1579 : Cond.methodLink RX11 336 yX11_fitsFace ∈ wA := List.mem_filter.mpr ⟨zt7 (List.mem_of_getElem? (i := 42) rfl), (by decide +kernel)⟩
set_option maxRecDepth 20000 in
theorem qw1581 : Cond.instanceMethod yX11_fitsFace ∈ wA := List.mem_filter.mpr ⟨zt7 (List.mem_of_getElem? (i := 44) rfl), (by decide +kernel)⟩
set_option maxRecDepth 20000 in
theorem qw1582 : Cond.code yX11_fitsFace cX11_fitsFace 4 (some .boolean) ∈ wA := List.mem_filter.mpr ⟨zt7 (List.mem_of_getElem? (i := 45) rfl), (by decide +kernel)⟩
set_option maxRecDepth 20000 in
theorem qw1587 : Cond.methodLink RX11 349 yX11_layBeliefs ∈ wA := List.mem_filter.mpr ⟨zt7 (List.mem_of_getElem? (i := 50) rfl), (by decide +kernel)⟩
set_option maxRecDepth 20000 in
theorem qw1589 : Cond.instanceMethod yX11_layBeliefs ∈ wA := List.mem_filter.mpr ⟨zt7 (List.mem_of_getElem? (i := 52) rfl), (by decide +kernel)⟩
set_option maxRecDepth 20000 in
theorem qw1590 : Cond.code yX11_layBeliefs cX11_layBeliefs 5 none ∈ wA := List.mem_filter.mpr ⟨zt7 (List.mem_of_getElem? (i := 53) rfl), (by decide +kernel)⟩
set_option maxRecDepth 20000 in
theorem qw1591 : Cond.methodLink RX11 345 yX11_weightOf ∈ wA := List.mem_filter.mpr ⟨zt7 (List.mem_of_getElem? (i := 54) rfl), (by decide +kernel)⟩
set_option maxRecDepth 20000 in
theorem qw1593 : Cond.instanceMethod yX11_weightOf ∈ wA := List.mem_filter.mpr ⟨zt7 (List.mem_of_getElem? (i := 56) rfl), (by decide +kernel)⟩
set_option maxRecDepth 20000 in
theorem qw1594 : Cond.code yX11_weightOf cX11_weightOf 8 (some .long) ∈ wA := List.mem_filter.mpr ⟨zt7 (List.mem_of_getElem? (i := 57) rfl), (by decide +kernel)⟩
set_option maxRecDepth 20000 in
theorem qw1595 : Cond.methodLink RX11 342 Lib.Math.abs.name ∈ wA := List.mem_filter.mpr ⟨zt7 (List.mem_of_getElem? (i := 58) rfl), (by decide +kernel)⟩
set_option maxRecDepth 20000 in
theorem qw1600 : Cond.methodLink RX11 352 yX11_likelyOf ∈ wA := List.mem_filter.mpr ⟨zt7 (List.mem_of_getElem? (i := 63) rfl), (by decide +kernel)⟩
set_option maxRecDepth 20000 in
theorem qw1602 : Cond.instanceMethod yX11_likelyOf ∈ wA := List.mem_filter.mpr ⟨zt7 (List.mem_of_getElem? (i := 65) rfl), (by decide +kernel)⟩
set_option maxRecDepth 20000 in
theorem qw1603 : Cond.code yX11_likelyOf cX11_likelyOf 4 (some .int) ∈ wA := List.mem_filter.mpr ⟨zt7 (List.mem_of_getElem? (i := 66) rfl), (by decide +kernel)⟩
set_option maxRecDepth 20000 in
theorem qw1608 : Cond.constant RX11 355 1000000 ∈ wA := List.mem_filter.mpr ⟨zt7 (List.mem_of_getElem? (i := 71) rfl), (by decide +kernel)⟩
set_option maxRecDepth 20000 in
theorem qw1613 : Cond.methodLink RX11 356 yX11_alike ∈ wA := List.mem_filter.mpr ⟨zt7 (List.mem_of_getElem? (i := 76) rfl), (by decide +kernel)⟩
set_option maxRecDepth 20000 in
theorem qw1615 : Cond.instanceMethod yX11_alike ∈ wA := List.mem_filter.mpr ⟨zt7 (List.mem_of_getElem? (i := 78) rfl), (by decide +kernel)⟩
set_option maxRecDepth 20000 in
theorem qw1616 : Cond.code yX11_alike cX11_alike 7 (some .int) ∈ wA := List.mem_filter.mpr ⟨zt7 (List.mem_of_getElem? (i := 79) rfl), (by decide +kernel)⟩
set_option maxRecDepth 20000 in
theorem qw1621 : Cond.methodLink RX11 363 yJ6_bitCount_0f7a4 ∈ wA := List.mem_filter.mpr ⟨zt7 (List.mem_of_getElem? (i := 84) rfl), (by decide +kernel)⟩
set_option maxRecDepth 20000 in
theorem qw1622 : Cond.methodLink RX11 368 yX11_areReal ∈ wA := List.mem_filter.mpr ⟨zt7 (List.mem_of_getElem? (i := 85) rfl), (by decide +kernel)⟩
set_option maxRecDepth 20000 in
theorem qw1624 : Cond.instanceMethod yX11_areReal ∈ wA := List.mem_filter.mpr ⟨zt7 (List.mem_of_getElem? (i := 87) rfl), (by decide +kernel)⟩
set_option maxRecDepth 20000 in
theorem qw1625 : Cond.code yX11_areReal cX11_areReal 3 (some .boolean) ∈ wA := List.mem_filter.mpr ⟨zt7 (List.mem_of_getElem? (i := 88) rfl), (by decide +kernel)⟩
set_option maxRecDepth 20000 in
theorem qw1626 : Cond.methodLink RX11 371 yX11_isApart ∈ wA := List.mem_filter.mpr ⟨zt7 (List.mem_of_getElem? (i := 89) rfl), (by decide +kernel)⟩
set_option maxRecDepth 20000 in
theorem qw1628 : Cond.instanceMethod yX11_isApart ∈ wA := List.mem_filter.mpr ⟨zt7 (List.mem_of_getElem? (i := 91) rfl), (by decide +kernel)⟩
set_option maxRecDepth 20000 in
theorem qw1629 : Cond.code yX11_isApart cX11_isApart 5 (some .boolean) ∈ wA := List.mem_filter.mpr ⟨zt7 (List.mem_of_getElem? (i := 92) rfl), (by decide +kernel)⟩
set_option maxRecDepth 20000 in
theorem qw1630 : Cond.methodLink RX11 359 yX11_areTold ∈ wA := List.mem_filter.mpr ⟨zt7 (List.mem_of_getElem? (i := 93) rfl), (by decide +kernel)⟩
set_option maxRecDepth 20000 in
theorem qw1632 : Cond.instanceMethod yX11_areTold ∈ wA := List.mem_filter.mpr ⟨zt7 (List.mem_of_getElem? (i := 95) rfl), (by decide +kernel)⟩
set_option maxRecDepth 20000 in
theorem qw1633 : Cond.code yX11_areTold cX11_areTold 6 (some .boolean) ∈ wA := List.mem_filter.mpr ⟨zt7 (List.mem_of_getElem? (i := 96) rfl), (by decide +kernel)⟩
set_option maxRecDepth 20000 in
theorem qw1638 : Cond.methodLink RX11 374 yX11_worthBy ∈ wA := List.mem_filter.mpr ⟨zt7 (List.mem_of_getElem? (i := 101) rfl), (by decide +kernel)⟩
set_option maxRecDepth 20000 in
theorem qw1640 : Cond.instanceMethod yX11_worthBy ∈ wA := List.mem_filter.mpr ⟨zt7 (List.mem_of_getElem? (i := 103) rfl), (by decide +kernel)⟩
set_option maxRecDepth 20000 in
theorem qw1641 : Cond.code yX11_worthBy cX11_worthBy 3 (some .int) ∈ wA := List.mem_filter.mpr ⟨zt7 (List.mem_of_getElem? (i := 104) rfl), (by decide +kernel)⟩
set_option maxRecDepth 20000 in
theorem qw1646 : Cond.methodLink RX11 380 yX11_chosen ∈ wA := List.mem_filter.mpr ⟨zt7 (List.mem_of_getElem? (i := 109) rfl), (by decide +kernel)⟩
set_option maxRecDepth 20000 in
theorem qw1648 : Cond.instanceMethod yX11_chosen ∈ wA := List.mem_filter.mpr ⟨zt7 (List.mem_of_getElem? (i := 111) rfl), (by decide +kernel)⟩
set_option maxRecDepth 20000 in
theorem qw1649 : Cond.code yX11_chosen cX11_chosen 4 (some .int) ∈ wA := List.mem_filter.mpr ⟨zt7 (List.mem_of_getElem? (i := 112) rfl), (by decide +kernel)⟩
set_option maxRecDepth 20000 in
theorem qw1650 : Cond.methodLink RX11 377 yX11_worthAs ∈ wA := List.mem_filter.mpr ⟨zt7 (List.mem_of_getElem? (i := 113) rfl), (by decide +kernel)⟩
set_option maxRecDepth 20000 in
theorem qw1652 : Cond.instanceMethod yX11_worthAs ∈ wA := List.mem_filter.mpr ⟨zt7 (List.mem_of_getElem? (i := 115) rfl), (by decide +kernel)⟩
set_option maxRecDepth 20000 in
theorem qw1653 : Cond.code yX11_worthAs cX11_worthAs 3 (some .int) ∈ wA := List.mem_filter.mpr ⟨zt7 (List.mem_of_getElem? (i := 116) rfl), (by decide +kernel)⟩
set_option maxRecDepth 20000 in
theorem qw1658 : Cond.methodLink RX11 383 yX11_areTwo ∈ wA := List.mem_filter.mpr ⟨zt7 (List.mem_of_getElem? (i := 121) rfl), (by decide +kernel)⟩
set_option maxRecDepth 20000 in
theorem qw1660 : Cond.instanceMethod yX11_areTwo ∈ wA := List.mem_filter.mpr ⟨zt7 (List.mem_of_getElem? (i := 123) rfl), (by decide +kernel)⟩
set_option maxRecDepth 20000 in
theorem qw1661 : Cond.code yX11_areTwo cX11_areTwo 4 (some .boolean) ∈ wA := List.mem_filter.mpr ⟨zt7 (List.mem_of_getElem? (i := 124) rfl), (by decide +kernel)⟩
set_option maxRecDepth 20000 in
theorem qw1662 : Cond.constant RX11 386 (-1000000) ∈ wA := List.mem_filter.mpr ⟨zt7 (List.mem_of_getElem? (i := 125) rfl), (by decide +kernel)⟩
set_option maxRecDepth 20000 in
theorem qw1663 : Cond.methodLink RX11 387 yX11_gameOf ∈ wA := List.mem_filter.mpr ⟨zt7 (List.mem_of_getElem? (i := 126) rfl), (by decide +kernel)⟩
set_option maxRecDepth 20000 in
theorem qw1665 : Cond.instanceMethod yX11_gameOf ∈ wA := List.mem_filter.mpr ⟨zt7 (List.mem_of_getElem? (i := 128) rfl), (by decide +kernel)⟩
set_option maxRecDepth 20000 in
theorem qw1666 : Cond.code yX11_gameOf cX11_gameOf 7 (some .int) ∈ wA := List.mem_filter.mpr ⟨zt7 (List.mem_of_getElem? (i := 129) rfl), (by decide +kernel)⟩
set_option maxRecDepth 20000 in
theorem qw1671 : Cond.methodLink RX11 391 yX11_isRest ∈ wA := List.mem_filter.mpr ⟨zt7 (List.mem_of_getElem? (i := 134) rfl), (by decide +kernel)⟩
set_option maxRecDepth 20000 in
theorem qw1673 : Cond.instanceMethod yX11_isRest ∈ wA := List.mem_filter.mpr ⟨zt7 (List.mem_of_getElem? (i := 136) rfl), (by decide +kernel)⟩
set_option maxRecDepth 20000 in
theorem qw1674 : Cond.code yX11_isRest cX11_isRest 7 (some .boolean) ∈ wA := List.mem_filter.mpr ⟨zt7 (List.mem_of_getElem? (i := 137) rfl), (by decide +kernel)⟩
set_option maxRecDepth 20000 in
theorem qw1683 : Cond.methodLink RX11 401 yX11_trySends ∈ wA := List.mem_filter.mpr ⟨zt7 (List.mem_of_getElem? (i := 146) rfl), (by decide +kernel)⟩
set_option maxRecDepth 20000 in
theorem qw1685 : Cond.instanceMethod yX11_trySends ∈ wA := List.mem_filter.mpr ⟨zt7 (List.mem_of_getElem? (i := 148) rfl), (by decide +kernel)⟩
set_option maxRecDepth 20000 in
theorem qw1686 : Cond.code yX11_trySends cX11_trySends 7 none ∈ wA := List.mem_filter.mpr ⟨zt7 (List.mem_of_getElem? (i := 149) rfl), (by decide +kernel)⟩
set_option maxRecDepth 20000 in
theorem qw1699 : Cond.constantLong RX11 405 1000000000 ∈ wA := List.mem_filter.mpr ⟨zt7 (List.mem_of_getElem? (i := 162) rfl), (by decide +kernel)⟩
set_option maxRecDepth 20000 in
theorem qw1700 : Cond.constantLong RX11 407 100 ∈ wA := List.mem_filter.mpr ⟨zt7 (List.mem_of_getElem? (i := 163) rfl), (by decide +kernel)⟩
set_option maxRecDepth 20000 in
theorem qw1705 : Cond.methodLink RX11 415 yX11_layMatch ∈ wA := List.mem_filter.mpr ⟨zt7 (List.mem_of_getElem? (i := 168) rfl), (by decide +kernel)⟩
set_option maxRecDepth 20000 in
theorem qw1707 : Cond.instanceMethod yX11_layMatch ∈ wA := List.mem_filter.mpr ⟨zt7 (List.mem_of_getElem? (i := 170) rfl), (by decide +kernel)⟩
set_option maxRecDepth 20000 in
theorem qw1708 : Cond.code yX11_layMatch cX11_layMatch 5 none ∈ wA := List.mem_filter.mpr ⟨zt7 (List.mem_of_getElem? (i := 171) rfl), (by decide +kernel)⟩
set_option maxRecDepth 20000 in
theorem qw1709 : Cond.methodLink RX11 409 yX11_asksNext ∈ wA := List.mem_filter.mpr ⟨zt7 (List.mem_of_getElem? (i := 172) rfl), (by decide +kernel)⟩
set_option maxRecDepth 20000 in
theorem qw1711 : Cond.instanceMethod yX11_asksNext ∈ wA := List.mem_filter.mpr ⟨zt7 (List.mem_of_getElem? (i := 174) rfl), (by decide +kernel)⟩
set_option maxRecDepth 20000 in
theorem qw1712 : Cond.code yX11_asksNext cX11_asksNext 4 (some .int) ∈ wA := List.mem_filter.mpr ⟨zt7 (List.mem_of_getElem? (i := 175) rfl), (by decide +kernel)⟩
set_option maxRecDepth 20000 in
theorem qw1713 : Cond.methodLink RX11 412 yX11_isBetter ∈ wA := List.mem_filter.mpr ⟨zt7 (List.mem_of_getElem? (i := 176) rfl), (by decide +kernel)⟩
set_option maxRecDepth 20000 in
theorem qw1715 : Cond.instanceMethod yX11_isBetter ∈ wA := List.mem_filter.mpr ⟨zt7 (List.mem_of_getElem? (i := 178) rfl), (by decide +kernel)⟩
set_option maxRecDepth 20000 in
theorem qw1716 : Cond.code yX11_isBetter cX11_isBetter 3 (some .boolean) ∈ wA := List.mem_filter.mpr ⟨zt7 (List.mem_of_getElem? (i := 179) rfl), (by decide +kernel)⟩
set_option maxRecDepth 20000 in
theorem qw1721 : Cond.methodLink RX11 418 yX11_mostOf ∈ wA := List.mem_filter.mpr ⟨zt7 (List.mem_of_getElem? (i := 184) rfl), (by decide +kernel)⟩
set_option maxRecDepth 20000 in
theorem qw1723 : Cond.instanceMethod yX11_mostOf ∈ wA := List.mem_filter.mpr ⟨zt7 (List.mem_of_getElem? (i := 186) rfl), (by decide +kernel)⟩
set_option maxRecDepth 20000 in
theorem qw1724 : Cond.code yX11_mostOf cX11_mostOf 4 (some .int) ∈ wA := List.mem_filter.mpr ⟨zt7 (List.mem_of_getElem? (i := 187) rfl), (by decide +kernel)⟩
set_option maxRecDepth 20000 in
theorem qw1725 : Cond.methodLink RX11 421 yX11_lies ∈ wA := List.mem_filter.mpr ⟨zt7 (List.mem_of_getElem? (i := 188) rfl), (by decide +kernel)⟩
set_option maxRecDepth 20000 in
theorem qw1727 : Cond.instanceMethod yX11_lies ∈ wA := List.mem_filter.mpr ⟨zt7 (List.mem_of_getElem? (i := 190) rfl), (by decide +kernel)⟩
set_option maxRecDepth 20000 in
theorem qw1728 : Cond.code yX11_lies cX11_lies 3 (some .int) ∈ wA := List.mem_filter.mpr ⟨zt7 (List.mem_of_getElem? (i := 191) rfl), (by decide +kernel)⟩
theorem hd_X11_alike : yX11_alike.cls = RX11 ∧ yX11_alike.cls ≠ "java/lang/invoke/MethodHandle" ∧ yX11_alike.cls ≠ "java/lang/invoke/VarHandle" ∧ (parseMethodDescriptor yX11_alike.desc).map (fun d => d.parameters.length) = some 2 := by decide +kernel
theorem hd_X11_areBoth : yX11_areBoth.cls = RX11 ∧ yX11_areBoth.cls ≠ "java/lang/invoke/MethodHandle" ∧ yX11_areBoth.cls ≠ "java/lang/invoke/VarHandle" ∧ (parseMethodDescriptor yX11_areBoth.desc).map (fun d => d.parameters.length) = some 2 := by decide +kernel
theorem hd_X11_areMonths : yX11_areMonths.cls = RX11 ∧ yX11_areMonths.cls ≠ "java/lang/invoke/MethodHandle" ∧ yX11_areMonths.cls ≠ "java/lang/invoke/VarHandle" ∧ (parseMethodDescriptor yX11_areMonths.desc).map (fun d => d.parameters.length) = some 1 := by decide +kernel
theorem hd_X11_areReal : yX11_areReal.cls = RX11 ∧ yX11_areReal.cls ≠ "java/lang/invoke/MethodHandle" ∧ yX11_areReal.cls ≠ "java/lang/invoke/VarHandle" ∧ (parseMethodDescriptor yX11_areReal.desc).map (fun d => d.parameters.length) = some 1 := by decide +kernel
theorem hd_X11_areTold : yX11_areTold.cls = RX11 ∧ yX11_areTold.cls ≠ "java/lang/invoke/MethodHandle" ∧ yX11_areTold.cls ≠ "java/lang/invoke/VarHandle" ∧ (parseMethodDescriptor yX11_areTold.desc).map (fun d => d.parameters.length) = some 4 := by decide +kernel
theorem hd_X11_areTwo : yX11_areTwo.cls = RX11 ∧ yX11_areTwo.cls ≠ "java/lang/invoke/MethodHandle" ∧ yX11_areTwo.cls ≠ "java/lang/invoke/VarHandle" ∧ (parseMethodDescriptor yX11_areTwo.desc).map (fun d => d.parameters.length) = some 3 := by decide +kernel
theorem hd_X11_asksNext : yX11_asksNext.cls = RX11 ∧ yX11_asksNext.cls ≠ "java/lang/invoke/MethodHandle" ∧ yX11_asksNext.cls ≠ "java/lang/invoke/VarHandle" ∧ (parseMethodDescriptor yX11_asksNext.desc).map (fun d => d.parameters.length) = some 1 := by decide +kernel
theorem hd_X11_bounded : yX11_bounded.cls = RX11 ∧ yX11_bounded.cls ≠ "java/lang/invoke/MethodHandle" ∧ yX11_bounded.cls ≠ "java/lang/invoke/VarHandle" ∧ (parseMethodDescriptor yX11_bounded.desc).map (fun d => d.parameters.length) = some 1 := by decide +kernel
theorem hd_X11_by : yX11_by.cls = RX11 ∧ yX11_by.cls ≠ "java/lang/invoke/MethodHandle" ∧ yX11_by.cls ≠ "java/lang/invoke/VarHandle" ∧ (parseMethodDescriptor yX11_by.desc).map (fun d => d.parameters.length) = some 2 := by decide +kernel
theorem hd_X11_byteOf : yX11_byteOf.cls = RX11 ∧ yX11_byteOf.cls ≠ "java/lang/invoke/MethodHandle" ∧ yX11_byteOf.cls ≠ "java/lang/invoke/VarHandle" ∧ (parseMethodDescriptor yX11_byteOf.desc).map (fun d => d.parameters.length) = some 6 := by decide +kernel
theorem hd_X11_chosen : yX11_chosen.cls = RX11 ∧ yX11_chosen.cls ≠ "java/lang/invoke/MethodHandle" ∧ yX11_chosen.cls ≠ "java/lang/invoke/VarHandle" ∧ (parseMethodDescriptor yX11_chosen.desc).map (fun d => d.parameters.length) = some 1 := by decide +kernel
theorem hd_X11_draw : yX11_draw.cls = RX11 ∧ yX11_draw.cls ≠ "java/lang/invoke/MethodHandle" ∧ yX11_draw.cls ≠ "java/lang/invoke/VarHandle" ∧ (parseMethodDescriptor yX11_draw.desc).map (fun d => d.parameters.length) = some 1 := by decide +kernel
theorem hd_X11_drawMonth : yX11_drawMonth.cls = RX11 ∧ yX11_drawMonth.cls ≠ "java/lang/invoke/MethodHandle" ∧ yX11_drawMonth.cls ≠ "java/lang/invoke/VarHandle" ∧ (parseMethodDescriptor yX11_drawMonth.desc).map (fun d => d.parameters.length) = some 0 := by decide +kernel
theorem hd_X11_fitsFace : yX11_fitsFace.cls = RX11 ∧ yX11_fitsFace.cls ≠ "java/lang/invoke/MethodHandle" ∧ yX11_fitsFace.cls ≠ "java/lang/invoke/VarHandle" ∧ (parseMethodDescriptor yX11_fitsFace.desc).map (fun d => d.parameters.length) = some 2 := by decide +kernel
theorem hd_X11_fitsOf : yX11_fitsOf.cls = RX11 ∧ yX11_fitsOf.cls ≠ "java/lang/invoke/MethodHandle" ∧ yX11_fitsOf.cls ≠ "java/lang/invoke/VarHandle" ∧ (parseMethodDescriptor yX11_fitsOf.desc).map (fun d => d.parameters.length) = some 1 := by decide +kernel
theorem hd_X11_flatteryBy : yX11_flatteryBy.cls = RX11 ∧ yX11_flatteryBy.cls ≠ "java/lang/invoke/MethodHandle" ∧ yX11_flatteryBy.cls ≠ "java/lang/invoke/VarHandle" ∧ (parseMethodDescriptor yX11_flatteryBy.desc).map (fun d => d.parameters.length) = some 2 := by decide +kernel
theorem hd_X11_gameOf : yX11_gameOf.cls = RX11 ∧ yX11_gameOf.cls ≠ "java/lang/invoke/MethodHandle" ∧ yX11_gameOf.cls ≠ "java/lang/invoke/VarHandle" ∧ (parseMethodDescriptor yX11_gameOf.desc).map (fun d => d.parameters.length) = some 5 := by decide +kernel
theorem hd_X11_has : yX11_has.cls = RX11 ∧ yX11_has.cls ≠ "java/lang/invoke/MethodHandle" ∧ yX11_has.cls ≠ "java/lang/invoke/VarHandle" ∧ (parseMethodDescriptor yX11_has.desc).map (fun d => d.parameters.length) = some 2 := by decide +kernel
theorem hd_X11_here : yX11_here.cls = RX11 ∧ yX11_here.cls ≠ "java/lang/invoke/MethodHandle" ∧ yX11_here.cls ≠ "java/lang/invoke/VarHandle" ∧ (parseMethodDescriptor yX11_here.desc).map (fun d => d.parameters.length) = some 0 := by decide +kernel
theorem hd_X11_in : yX11_in.cls = RX11 ∧ yX11_in.cls ≠ "java/lang/invoke/MethodHandle" ∧ yX11_in.cls ≠ "java/lang/invoke/VarHandle" ∧ (parseMethodDescriptor yX11_in.desc).map (fun d => d.parameters.length) = some 3 := by decide +kernel
theorem hd_X11_isApart : yX11_isApart.cls = RX11 ∧ yX11_isApart.cls ≠ "java/lang/invoke/MethodHandle" ∧ yX11_isApart.cls ≠ "java/lang/invoke/VarHandle" ∧ (parseMethodDescriptor yX11_isApart.desc).map (fun d => d.parameters.length) = some 2 := by decide +kernel
theorem hd_X11_isBetter : yX11_isBetter.cls = RX11 ∧ yX11_isBetter.cls ≠ "java/lang/invoke/MethodHandle" ∧ yX11_isBetter.cls ≠ "java/lang/invoke/VarHandle" ∧ (parseMethodDescriptor yX11_isBetter.desc).map (fun d => d.parameters.length) = some 2 := by decide +kernel
theorem hd_X11_isBride : yX11_isBride.cls = RX11 ∧ yX11_isBride.cls ≠ "java/lang/invoke/MethodHandle" ∧ yX11_isBride.cls ≠ "java/lang/invoke/VarHandle" ∧ (parseMethodDescriptor yX11_isBride.desc).map (fun d => d.parameters.length) = some 1 := by decide +kernel
theorem hd_X11_isFace : yX11_isFace.cls = RX11 ∧ yX11_isFace.cls ≠ "java/lang/invoke/MethodHandle" ∧ yX11_isFace.cls ≠ "java/lang/invoke/VarHandle" ∧ (parseMethodDescriptor yX11_isFace.desc).map (fun d => d.parameters.length) = some 1 := by decide +kernel
theorem hd_X11_isPainter : yX11_isPainter.cls = RX11 ∧ yX11_isPainter.cls ≠ "java/lang/invoke/MethodHandle" ∧ yX11_isPainter.cls ≠ "java/lang/invoke/VarHandle" ∧ (parseMethodDescriptor yX11_isPainter.desc).map (fun d => d.parameters.length) = some 1 := by decide +kernel
theorem hd_X11_isRefused : yX11_isRefused.cls = RX11 ∧ yX11_isRefused.cls ≠ "java/lang/invoke/MethodHandle" ∧ yX11_isRefused.cls ≠ "java/lang/invoke/VarHandle" ∧ (parseMethodDescriptor yX11_isRefused.desc).map (fun d => d.parameters.length) = some 1 := by decide +kernel
theorem hd_X11_isRest : yX11_isRest.cls = RX11 ∧ yX11_isRest.cls ≠ "java/lang/invoke/MethodHandle" ∧ yX11_isRest.cls ≠ "java/lang/invoke/VarHandle" ∧ (parseMethodDescriptor yX11_isRest.desc).map (fun d => d.parameters.length) = some 5 := by decide +kernel
theorem hd_X11_isTold : yX11_isTold.cls = RX11 ∧ yX11_isTold.cls ≠ "java/lang/invoke/MethodHandle" ∧ yX11_isTold.cls ≠ "java/lang/invoke/VarHandle" ∧ (parseMethodDescriptor yX11_isTold.desc).map (fun d => d.parameters.length) = some 3 := by decide +kernel
theorem hd_X11_keep : yX11_keep.cls = RX11 ∧ yX11_keep.cls ≠ "java/lang/invoke/MethodHandle" ∧ yX11_keep.cls ≠ "java/lang/invoke/VarHandle" ∧ (parseMethodDescriptor yX11_keep.desc).map (fun d => d.parameters.length) = some 0 := by decide +kernel
theorem hd_X11_latestOf : yX11_latestOf.cls = RX11 ∧ yX11_latestOf.cls ≠ "java/lang/invoke/MethodHandle" ∧ yX11_latestOf.cls ≠ "java/lang/invoke/VarHandle" ∧ (parseMethodDescriptor yX11_latestOf.desc).map (fun d => d.parameters.length) = some 1 := by decide +kernel
theorem hd_X11_layBeliefs : yX11_layBeliefs.cls = RX11 ∧ yX11_layBeliefs.cls ≠ "java/lang/invoke/MethodHandle" ∧ yX11_layBeliefs.cls ≠ "java/lang/invoke/VarHandle" ∧ (parseMethodDescriptor yX11_layBeliefs.desc).map (fun d => d.parameters.length) = some 1 := by decide +kernel
theorem hd_X11_layMatch : yX11_layMatch.cls = RX11 ∧ yX11_layMatch.cls ≠ "java/lang/invoke/MethodHandle" ∧ yX11_layMatch.cls ≠ "java/lang/invoke/VarHandle" ∧ (parseMethodDescriptor yX11_layMatch.desc).map (fun d => d.parameters.length) = some 0 := by decide +kernel
theorem hd_X11_lies : yX11_lies.cls = RX11 ∧ yX11_lies.cls ≠ "java/lang/invoke/MethodHandle" ∧ yX11_lies.cls ≠ "java/lang/invoke/VarHandle" ∧ (parseMethodDescriptor yX11_lies.desc).map (fun d => d.parameters.length) = some 0 := by decide +kernel
theorem hd_X11_likelyOf : yX11_likelyOf.cls = RX11 ∧ yX11_likelyOf.cls ≠ "java/lang/invoke/MethodHandle" ∧ yX11_likelyOf.cls ≠ "java/lang/invoke/VarHandle" ∧ (parseMethodDescriptor yX11_likelyOf.desc).map (fun d => d.parameters.length) = some 1 := by decide +kernel
theorem hd_X11_lookedOf : yX11_lookedOf.cls = RX11 ∧ yX11_lookedOf.cls ≠ "java/lang/invoke/MethodHandle" ∧ yX11_lookedOf.cls ≠ "java/lang/invoke/VarHandle" ∧ (parseMethodDescriptor yX11_lookedOf.desc).map (fun d => d.parameters.length) = some 1 := by decide +kernel
theorem hd_X11_looksBy : yX11_looksBy.cls = RX11 ∧ yX11_looksBy.cls ≠ "java/lang/invoke/MethodHandle" ∧ yX11_looksBy.cls ≠ "java/lang/invoke/VarHandle" ∧ (parseMethodDescriptor yX11_looksBy.desc).map (fun d => d.parameters.length) = some 4 := by decide +kernel
theorem hd_X11_mostOf : yX11_mostOf.cls = RX11 ∧ yX11_mostOf.cls ≠ "java/lang/invoke/MethodHandle" ∧ yX11_mostOf.cls ≠ "java/lang/invoke/VarHandle" ∧ (parseMethodDescriptor yX11_mostOf.desc).map (fun d => d.parameters.length) = some 1 := by decide +kernel
theorem hd_X11_of : yX11_of.cls = RX11 ∧ yX11_of.cls ≠ "java/lang/invoke/MethodHandle" ∧ yX11_of.cls ≠ "java/lang/invoke/VarHandle" ∧ (parseMethodDescriptor yX11_of.desc).map (fun d => d.parameters.length) = some 2 := by decide +kernel
theorem hd_X11_paintNow : yX11_paintNow.cls = RX11 ∧ yX11_paintNow.cls ≠ "java/lang/invoke/MethodHandle" ∧ yX11_paintNow.cls ≠ "java/lang/invoke/VarHandle" ∧ (parseMethodDescriptor yX11_paintNow.desc).map (fun d => d.parameters.length) = some 2 := by decide +kernel
theorem hd_X11_passMonth : yX11_passMonth.cls = RX11 ∧ yX11_passMonth.cls ≠ "java/lang/invoke/MethodHandle" ∧ yX11_passMonth.cls ≠ "java/lang/invoke/VarHandle" ∧ (parseMethodDescriptor yX11_passMonth.desc).map (fun d => d.parameters.length) = some 0 := by decide +kernel
theorem hd_X11_seenOf : yX11_seenOf.cls = RX11 ∧ yX11_seenOf.cls ≠ "java/lang/invoke/MethodHandle" ∧ yX11_seenOf.cls ≠ "java/lang/invoke/VarHandle" ∧ (parseMethodDescriptor yX11_seenOf.desc).map (fun d => d.parameters.length) = some 1 := by decide +kernel
theorem hd_X11_shot : yX11_shot.cls = RX11 ∧ yX11_shot.cls ≠ "java/lang/invoke/MethodHandle" ∧ yX11_shot.cls ≠ "java/lang/invoke/VarHandle" ∧ (parseMethodDescriptor yX11_shot.desc).map (fun d => d.parameters.length) = some 2 := by decide +kernel
theorem hd_X11_shownOf : yX11_shownOf.cls = RX11 ∧ yX11_shownOf.cls ≠ "java/lang/invoke/MethodHandle" ∧ yX11_shownOf.cls ≠ "java/lang/invoke/VarHandle" ∧ (parseMethodDescriptor yX11_shownOf.desc).map (fun d => d.parameters.length) = some 3 := by decide +kernel
theorem hd_X11_trySends : yX11_trySends.cls = RX11 ∧ yX11_trySends.cls ≠ "java/lang/invoke/MethodHandle" ∧ yX11_trySends.cls ≠ "java/lang/invoke/VarHandle" ∧ (parseMethodDescriptor yX11_trySends.desc).map (fun d => d.parameters.length) = some 5 := by decide +kernel
theorem hd_X11_weightOf : yX11_weightOf.cls = RX11 ∧ yX11_weightOf.cls ≠ "java/lang/invoke/MethodHandle" ∧ yX11_weightOf.cls ≠ "java/lang/invoke/VarHandle" ∧ (parseMethodDescriptor yX11_weightOf.desc).map (fun d => d.parameters.length) = some 2 := by decide +kernel
theorem hd_X11_workOut : yX11_workOut.cls = RX11 ∧ yX11_workOut.cls ≠ "java/lang/invoke/MethodHandle" ∧ yX11_workOut.cls ≠ "java/lang/invoke/VarHandle" ∧ (parseMethodDescriptor yX11_workOut.desc).map (fun d => d.parameters.length) = some 3 := by decide +kernel
theorem hd_X11_worked : yX11_worked.cls = RX11 ∧ yX11_worked.cls ≠ "java/lang/invoke/MethodHandle" ∧ yX11_worked.cls ≠ "java/lang/invoke/VarHandle" ∧ (parseMethodDescriptor yX11_worked.desc).map (fun d => d.parameters.length) = some 3 := by decide +kernel
theorem hd_X11_worthAs : yX11_worthAs.cls = RX11 ∧ yX11_worthAs.cls ≠ "java/lang/invoke/MethodHandle" ∧ yX11_worthAs.cls ≠ "java/lang/invoke/VarHandle" ∧ (parseMethodDescriptor yX11_worthAs.desc).map (fun d => d.parameters.length) = some 2 := by decide +kernel
theorem hd_X11_worthBy : yX11_worthBy.cls = RX11 ∧ yX11_worthBy.cls ≠ "java/lang/invoke/MethodHandle" ∧ yX11_worthBy.cls ≠ "java/lang/invoke/VarHandle" ∧ (parseMethodDescriptor yX11_worthBy.desc).map (fun d => d.parameters.length) = some 2 := by decide +kernel
theorem hd_X11_worthOf : yX11_worthOf.cls = RX11 ∧ yX11_worthOf.cls ≠ "java/lang/invoke/MethodHandle" ∧ yX11_worthOf.cls ≠ "java/lang/invoke/VarHandle" ∧ (parseMethodDescriptor yX11_worthOf.desc).map (fun d => d.parameters.length) = some 1 := by decide +kernel
/-- the reference's state row: who is wed, how many portraits, and these -/
def zNw (np : Int32) (f : Nat → Int32) : Prop := (0 ≤ (f 13).toInt ∧ (f 13).toInt ≤ 6) ∧ (0 ≤ (f 16).toInt ∧ (f 16).toInt ≤ 20) ∧ ∀ i : Nat, (i : Int) < (f 16).toInt → (0 ≤ (f (17 + 4 * i)).toInt ∧ (f (17 + 4 * i)).toInt ≤ 5) ∧ (0 ≤ (f (18 + 4 * i)).toInt ∧ (f (18 + 4 * i)).toInt < np.toInt) ∧ (-1 ≤ (f (19 + 4 * i)).toInt ∧ (f (19 + 4 * i)).toInt ≤ 9)
theorem zNw_c {f : Nat → Int32} {v i : Int32} {n : Nat} (e : v = f i.toNatClampNeg) (hi : i.toNatClampNeg = n) : v.toInt = (f n).toInt := by rw [e, hi]
theorem zNw_16 {np : Int32} {f : Nat → Int32} {v : Int32} (h : zNw np f) (e : v = f (16 : Int32).toNatClampNeg) : v.toInt = (f 16).toInt ∧ 0 ≤ v.toInt ∧ v.toInt ≤ 20 := by
  have := zNw_c (n := 16) e (by decide)
  have h2 := h.2.1
  omega
theorem zNw_13 {np : Int32} {f : Nat → Int32} {v : Int32} (h : zNw np f) (e : v = f (13 : Int32).toNatClampNeg) : v.toInt = (f 13).toInt ∧ 0 ≤ v.toInt ∧ v.toInt ≤ 6 := by
  have := zNw_c (n := 13) e (by decide)
  have h2 := h.1
  omega
theorem zNw_p0 {np : Int32} {f : Nat → Int32} {v idx : Int32} {k : Int} (h : zNw np f) (e : v = f idx.toNatClampNeg) (hi : idx.toInt = 17 + 4 * k) (h0 : 0 ≤ k) (h1 : k < (f 16).toInt) : 0 ≤ v.toInt ∧ v.toInt ≤ 5 := by
  have q : idx.toNatClampNeg = 17 + 4 * k.toNat := by show idx.toInt.toNat = _; omega
  rw [e, q]
  exact (h.2.2 k.toNat (by omega)).1
theorem zNw_p1 {np : Int32} {f : Nat → Int32} {v idx : Int32} {k : Int} (h : zNw np f) (e : v = f idx.toNatClampNeg) (hi : idx.toInt = 17 + 4 * k + 1) (h0 : 0 ≤ k) (h1 : k < (f 16).toInt) (hn : np.toInt ≤ 5) : (0 ≤ v.toInt ∧ v.toInt ≤ 4) ∧ v.toInt < np.toInt := by
  have q : idx.toNatClampNeg = 18 + 4 * k.toNat := by show idx.toInt.toNat = _; omega
  rw [e, q]
  have := (h.2.2 k.toNat (by omega)).2.1
  omega
theorem zNw_p2 {np : Int32} {f : Nat → Int32} {v idx : Int32} {k : Int} (h : zNw np f) (e : v = f idx.toNatClampNeg) (hi : idx.toInt = 17 + 4 * k + 2) (h0 : 0 ≤ k) (h1 : k < (f 16).toInt) : -1 ≤ v.toInt ∧ v.toInt ≤ 9 := by
  have q : idx.toNatClampNeg = 19 + 4 * k.toNat := by show idx.toInt.toNat = _; omega
  rw [e, q]
  exact (h.2.2 k.toNat (by omega)).2.2
theorem zNw_low {np : Int32} {f g : Nat → Int32} {i x : Int32} (h : zNw np f) (e : g = upd f i.toNatClampNeg x) (h0 : 0 ≤ i.toInt) (hi : i.toInt ≤ 12 ∨ (14 ≤ i.toInt ∧ i.toInt ≤ 15)) : zNw np g ∧ g 16 = f 16 := by
  have hq : ∀ n : Nat, n = 13 ∨ 16 ≤ n → g n = f n := by
    intro n hn
    rw [e]
    exact pk_un (by show ¬ n = i.toInt.toNat; omega)
  refine ⟨⟨?_, ?_, ?_⟩, hq 16 (by omega)⟩
  · rw [hq 13 (by omega)]; exact h.1
  · rw [hq 16 (by omega)]; exact h.2.1
  · intro j hj
    rw [hq 16 (by omega)] at hj
    rw [hq _ (by omega), hq _ (by omega), hq _ (by omega)]
    exact h.2.2 j hj
theorem zNw_wed {np : Int32} {f g : Nat → Int32} {i x : Int32} (h : zNw np f) (e : g = upd f i.toNatClampNeg x) (hi : i.toInt = 13) (hx : 0 ≤ x.toInt ∧ x.toInt ≤ 6) : zNw np g ∧ g 16 = f 16 := by
  have hq : ∀ n : Nat, ¬ n = 13 → g n = f n := by
    intro n hn
    rw [e]
    exact pk_un (by show ¬ n = i.toInt.toNat; omega)
  have h13 : g 13 = x := by
    rw [e, show i.toNatClampNeg = 13 from by show i.toInt.toNat = _; omega]
    exact pk_us
  refine ⟨⟨?_, ?_, ?_⟩, hq 16 (by omega)⟩
  · rw [h13]; exact hx
  · rw [hq 16 (by omega)]; exact h.2.1
  · intro j hj
    rw [hq 16 (by omega)] at hj
    rw [hq _ (by omega), hq _ (by omega), hq _ (by omega)]
    exact h.2.2 j hj
theorem zNw_out {np : Int32} {f g : Nat → Int32} {i x : Int32} (h : zNw np f) (e : g = upd f i.toNatClampNeg x) (hi : 17 + 4 * (f 16).toInt ≤ i.toInt) : zNw np g ∧ g 16 = f 16 := by
  have hq : ∀ n : Nat, (n : Int) < 17 + 4 * (f 16).toInt → g n = f n := by
    intro n hn
    rw [e]
    exact pk_un (by show ¬ n = i.toInt.toNat; omega)
  have h2 := h.2.1
  refine ⟨⟨?_, ?_, ?_⟩, hq 16 (by omega)⟩
  · rw [hq 13 (by omega)]; exact h.1
  · rw [hq 16 (by omega)]; exact h.2.1
  · intro j hj
    rw [hq 16 (by omega)] at hj
    rw [hq _ (by omega), hq _ (by omega), hq _ (by omega)]
    exact h.2.2 j hj
theorem zNw_add {np : Int32} {f g : Nat → Int32} {i x : Int32} (h : zNw np f) (e : g = upd f i.toNatClampNeg x) (hi : i.toInt = 16) (hx : x.toInt = (f 16).toInt + 1) (hm : (f 16).toInt ≤ 19)
    (hb : 0 ≤ (f (17 + 4 * (f 16).toInt.toNat)).toInt ∧ (f (17 + 4 * (f 16).toInt.toNat)).toInt ≤ 5) (hp : 0 ≤ (f (18 + 4 * (f 16).toInt.toNat)).toInt ∧ (f (18 + 4 * (f 16).toInt.toNat)).toInt < np.toInt) (hs : -1 ≤ (f (19 + 4 * (f 16).toInt.toNat)).toInt ∧ (f (19 + 4 * (f 16).toInt.toNat)).toInt ≤ 9) : zNw np g := by
  have hq : ∀ n : Nat, ¬ n = 16 → g n = f n := by
    intro n hn
    rw [e]
    exact pk_un (by show ¬ n = i.toInt.toNat; omega)
  have h16 : g 16 = x := by
    rw [e, show i.toNatClampNeg = 16 from by show i.toInt.toNat = _; omega]
    exact pk_us
  have h2 := h.2.1
  refine ⟨?_, ?_, ?_⟩
  · rw [hq 13 (by omega)]; exact h.1
  · rw [h16]; omega
  · intro j hj
    rw [h16] at hj
    rw [hq _ (by omega), hq _ (by omega), hq _ (by omega)]
    by_cases c : (j : Int) < (f 16).toInt
    · exact h.2.2 j c
    · have : j = (f 16).toInt.toNat := by omega
      rw [this]
      exact ⟨hb, hp, hs⟩
/-- three stores of a portrait, then how many -/
theorem zNw_hang {np : Int32} {f g0 g1 g2 g3 g : Nat → Int32} {i0 i1 i2 i3 i b p v m x : Int32} (h : zNw np f) (e0 : g0 = upd f i0.toNatClampNeg b) (e1 : g1 = upd g0 i1.toNatClampNeg p) (e2 : g2 = upd g1 i2.toNatClampNeg v) (e3 : g3 = upd g2 i3.toNatClampNeg m) (e : g = upd g3 i.toNatClampNeg x)
    (h0 : i0.toInt = 17 + 4 * (f 16).toInt) (h1 : i1.toInt = 17 + 4 * (f 16).toInt + 1) (h2 : i2.toInt = 17 + 4 * (f 16).toInt + 2) (h3 : i3.toInt = 17 + 4 * (f 16).toInt + 3) (hi : i.toInt = 16) (hx : x.toInt = (f 16).toInt + 1) (hm : (f 16).toInt ≤ 19) (hb : 0 ≤ b.toInt ∧ b.toInt ≤ 5) (hp : 0 ≤ p.toInt ∧ p.toInt < np.toInt) (hv : -1 ≤ v.toInt ∧ v.toInt ≤ 9) : zNw np g := by
  have q16 := h.2.1
  obtain ⟨k0, z0⟩ := zNw_out h e0 (by omega)
  obtain ⟨k1, z1⟩ := zNw_out k0 e1 (by rw [z0]; omega)
  obtain ⟨k2, z2⟩ := zNw_out k1 e2 (by rw [z1, z0]; omega)
  obtain ⟨k3, z3⟩ := zNw_out k2 e3 (by rw [z2, z1, z0]; omega)
  have z : g3 16 = f 16 := by rw [z3, z2, z1, z0]
  have n0 : i0.toNatClampNeg = 17 + 4 * (f 16).toInt.toNat := by show i0.toInt.toNat = _; omega
  have n1 : i1.toNatClampNeg = 18 + 4 * (f 16).toInt.toNat := by show i1.toInt.toNat = _; omega
  have n2 : i2.toNatClampNeg = 19 + 4 * (f 16).toInt.toNat := by show i2.toInt.toNat = _; omega
  have n3 : i3.toNatClampNeg = 20 + 4 * (f 16).toInt.toNat := by show i3.toInt.toNat = _; omega
  refine zNw_add k3 e hi (by rw [z]; exact hx) (by rw [z]; exact hm) ?_ ?_ ?_
  · rw [z, e3, pk_un (by omega), e2, pk_un (by omega), e1, pk_un (by omega), e0, n0, pk_us]; exact hb
  · rw [z, e3, pk_un (by omega), e2, pk_un (by omega), e1, n1, pk_us]; exact hp
  · rw [z, e3, pk_un (by omega), e2, n2, pk_us]; exact hv
theorem zNw_of {np : Int32} {f g : Nat → Int32} (h : zNw np f) (hg : ∀ j : Nat, (j : Int) < 97 → g j = f j) : zNw np g := by
  refine ⟨?_, ?_, ?_⟩
  · rw [hg 13 (by omega)]; exact h.1
  · rw [hg 16 (by omega)]; exact h.2.1
  · intro j hj
    rw [hg 16 (by omega)] at hj
    have h2 := h.2.1
    rw [hg _ (by omega), hg _ (by omega), hg _ (by omega)]
    exact h.2.2 j hj
/-- the rows of what was -/
def zKp (np ac : Int32) (f : Nat → Int32) : Prop := ∀ r : Nat, (r : Int) < ac.toInt → zNw np (fun k => f (97 * r + k))
def zIm (np hi : Int32) (f : Nat → Int32) : Prop := hi.toInt = 0 ∨ zNw np f
/-- a row copied so far -/
def zEq (f g : Nat → Int32) (off : Nat) (k : Int32) : Prop := ∀ j : Nat, (j : Int) < k.toInt → f j = g (off + j)
theorem zEq_0 {f g : Nat → Int32} {off : Nat} : zEq f g off 0 := fun j hj => by rw [show (0 : Int32).toInt = 0 from by decide] at hj; omega
theorem zEq_s {f f' g : Nat → Int32} {off : Nat} {k k' i j x : Int32} (h : zEq f g off k) (hx : x = g j.toNatClampNeg) (e : f' = upd f i.toNatClampNeg x) (hk : 0 ≤ k.toInt) (hi : i.toInt = k.toInt) (hj : j.toInt = (off : Int) + k.toInt) (h' : k'.toInt = k.toInt + 1) : zEq f' g off k' := by
  intro n hn
  rw [e]
  by_cases c : n = i.toNatClampNeg
  · rw [c, pk_us, hx]
    congr 1
    show j.toInt.toNat = off + i.toInt.toNat
    omega
  · rw [pk_un c]
    refine h n ?_
    have : ¬ n = i.toInt.toNat := c
    omega
theorem zIm_new {np : Int32} {f g : Nat → Int32} {k : Int32} (h : zNw np f) (q : zEq g f 0 k) (hk : 97 ≤ k.toInt) : zNw np g := zNw_of h (fun j hj => by have := q j (by omega); simpa using this)
theorem zNw_row {np ac : Int32} {f g : Nat → Int32} {k a : Int32} (h : zKp np ac f) (q : zEq g f (97 * a.toInt.toNat) k) (hk : 97 ≤ k.toInt) (h0 : 0 ≤ a.toInt) (ha : a.toInt < ac.toInt) : zNw np g := zNw_of (h a.toInt.toNat (by omega)) (fun j hj => q j (by omega))
theorem zKp_le {np ac a : Int32} {f : Nat → Int32} (h : zKp np ac f) (ha : a.toInt ≤ ac.toInt) : zKp np a f := fun r hr => h r (by omega)
/-- the shift of all rows by one -/
def zSf (f g : Nat → Int32) (k : Int32) : Prop := (∀ j : Nat, (j : Int) + 97 < k.toInt → f j = g (j + 97)) ∧ ∀ j : Nat, k.toInt ≤ (j : Int) + 97 → f j = g j
theorem zSf_0 {g : Nat → Int32} {k : Int32} (hk : k.toInt = 97) : zSf g g k := ⟨fun j hj => by omega, fun j _ => rfl⟩
theorem zSf_s {f f' g : Nat → Int32} {k k' i j x : Int32} (h : zSf f g k) (hx : x = f j.toNatClampNeg) (e : f' = upd f i.toNatClampNeg x) (hk : 97 ≤ k.toInt) (hi : i.toInt = k.toInt - 97) (hj : j.toInt = k.toInt) (h' : k'.toInt = k.toInt + 1) : zSf f' g k' := by
  have hv : x = g j.toNatClampNeg := by
    rw [hx]
    exact h.2 _ (by show k.toInt ≤ ((j.toInt.toNat : Nat) : Int) + 97; omega)
  constructor
  · intro n hn
    rw [e]
    by_cases c : n = i.toNatClampNeg
    · rw [c, pk_us, hv]
      congr 1
      show j.toInt.toNat = i.toInt.toNat + 97
      omega
    · rw [pk_un c]
      have : ¬ n = i.toInt.toNat := c
      exact h.1 n (by omega)
  · intro n hn
    rw [e]
    have c : ¬ n = i.toNatClampNeg := by show ¬ n = i.toInt.toNat; omega
    rw [pk_un c]
    exact h.2 n (by omega)
theorem zKp_sf {np ac a : Int32} {f g : Nat → Int32} {k : Int32} (h : zKp np ac g) (q : zSf f g k) (hk : 3880 ≤ k.toInt) (ha : a.toInt = ac.toInt - 1) (hc : ac.toInt ≤ 40) : zKp np a f := by
  intro r hr
  refine zNw_of (h (r + 1) (by omega)) (fun j hj => ?_)
  show f (97 * r + j) = g (97 * (r + 1) + j)
  rw [q.1 (97 * r + j) (by omega)]
  congr 1
  omega
/-- the newest row so far -/
def zNr (np ac : Int32) (f g : Nat → Int32) (k : Int32) : Prop := zKp np ac f ∧ ∀ j : Nat, (j : Int) < k.toInt → f (97 * ac.toInt.toNat + j) = g j
theorem zNr_0 {np ac : Int32} {f g : Nat → Int32} (h : zKp np ac f) : zNr np ac f g 0 := ⟨h, fun j hj => by rw [show (0 : Int32).toInt = 0 from by decide] at hj; omega⟩
theorem zNr_s {np ac : Int32} {f f' g : Nat → Int32} {k k' i j x : Int32} (h : zNr np ac f g k) (hx : x = g j.toNatClampNeg) (e : f' = upd f i.toNatClampNeg x) (hk : 0 ≤ k.toInt) (hi : i.toInt = 97 * ac.toInt + k.toInt) (hj : j.toInt = k.toInt) (h' : k'.toInt = k.toInt + 1) (h0 : 0 ≤ ac.toInt) : zNr np ac f' g k' := by
  constructor
  · intro r hr
    refine zNw_of (h.1 r hr) (fun n hn => ?_)
    show f' (97 * r + n) = f (97 * r + n)
    rw [e]
    exact pk_un (by show ¬ 97 * r + n = i.toInt.toNat; omega)
  · intro n hn
    rw [e]
    by_cases c : 97 * ac.toInt.toNat + n = i.toNatClampNeg
    · rw [c, pk_us, hx]
      congr 1
      have : 97 * ac.toInt.toNat + n = i.toInt.toNat := c
      show j.toInt.toNat = n
      omega
    · rw [pk_un c]
      have : ¬ 97 * ac.toInt.toNat + n = i.toInt.toNat := c
      exact h.2 n (by omega)
theorem zKp_new {np ac a : Int32} {f g : Nat → Int32} {k : Int32} (h : zNr np ac f g k) (hg : zNw np g) (hk : 97 ≤ k.toInt) (h0 : 0 ≤ ac.toInt) (ha : a.toInt = ac.toInt + 1) : zKp np a f := by
  intro r hr
  by_cases c : (r : Int) < ac.toInt
  · exact h.1 r c
  · have : r = ac.toInt.toNat := by omega
    rw [this]
    exact zNw_of hg (fun j hj => h.2 j (by omega))
/-- brides' faces and painters' skills -/
def zBr (nb : Int32) (f : Nat → Int32) : Prop := ∀ i : Nat, (i : Int) < nb.toInt → 0 ≤ (f (4 * i)).toInt ∧ (f (4 * i)).toInt ≤ 9
theorem zBr_g {nb : Int32} {f : Nat → Int32} {v idx : Int32} {k : Int} (h : zBr nb f) (e : v = f idx.toNatClampNeg) (hi : idx.toInt = 4 * k) (h0 : 0 ≤ k) (h1 : k < nb.toInt) : v.toInt = (f (4 * k.toNat)).toInt ∧ 0 ≤ v.toInt ∧ v.toInt ≤ 9 := by
  have q : idx.toNatClampNeg = 4 * k.toNat := by show idx.toInt.toNat = _; omega
  have := h k.toNat (by omega)
  rw [e, q]
  omega
theorem zIx {f : Nat → Int32} {v idx : Int32} {n : Nat} (e : v = f idx.toNatClampNeg) (hi : idx.toInt = (n : Int)) : v.toInt = (f n).toInt := by
  have q : idx.toNatClampNeg = n := by show idx.toInt.toNat = _; omega
  rw [e, q]
/-- how many of the first portraits are hers -/
def zCt (f : Nat → Int32) (b : Int32) : Nat → Nat
  | 0 => 0
  | n + 1 => zCt f b n + (if (f (17 + 4 * n)).toInt = b.toInt then 1 else 0)
theorem zCt_s {f : Nat → Int32} {b i i' v r : Int32} (h0 : 0 ≤ i.toInt) (hi : i'.toInt = i.toInt + 1) (hv : v.toInt = (f (17 + 4 * i.toInt.toNat)).toInt) (hr : (v.toInt = b.toInt ∧ r.toInt = 1) ∨ (¬ v.toInt = b.toInt ∧ r.toInt = 0)) : (zCt f b i'.toInt.toNat : Int) = (zCt f b i.toInt.toNat : Int) + r.toInt := by
  have q : i'.toInt.toNat = i.toInt.toNat + 1 := by omega
  rw [q]
  show ((zCt f b i.toInt.toNat + (if (f (17 + 4 * i.toInt.toNat)).toInt = b.toInt then 1 else 0) : Nat) : Int) = _
  rcases hr with ⟨a, c⟩ | ⟨a, c⟩
  · rw [if_pos (by omega)]; omega
  · rw [if_neg (by omega)]; omega
/-- one step of a law's code: how high the stack is then -/
def zStep (c : Int32) (h : Nat) : Option Nat := if c.toInt = 0 ∨ c.toInt = 1 then (if h < 80 then some (h + 1) else none) else if c.toInt = 9 then (if 1 ≤ h then some h else none) else (if 2 ≤ h then some (h - 1) else none)
def zHt (f : Nat → Int32) : Nat → Nat → Nat → Option Nat
  | _, 0, h => some h
  | i, n + 1, h => match zStep (f i) h with
    | some h' => zHt f (i + 1) n h'
    | none => none
/-- from k to E the code leaves one -/
def zGo (f : Nat → Int32) (k E : Int) (top : Int) : Prop := 0 ≤ top ∧ top ≤ 80 ∧ zHt f k.toNat (E - k).toNat top.toNat = some 1
theorem zGo_lt {f : Nat → Int32} {k E top : Int} (h : zGo f k E top) (hk : k < E) (h0 : 0 ≤ k) : ∃ h', zStep (f k.toNat) top.toNat = some h' ∧ zHt f (k + 1).toNat (E - (k + 1)).toNat h' = some 1 := by
  have q := h.2.2
  rw [show (E - k).toNat = (E - (k + 1)).toNat + 1 by omega] at q
  unfold zHt at q
  rw [show (k + 1).toNat = k.toNat + 1 by omega]
  cases hs : zStep (f k.toNat) top.toNat with
  | none => rw [hs] at q; cases q
  | some h' => rw [hs] at q; exact ⟨h', rfl, q⟩
theorem zGo_y {f : Nat → Int32} {k E top k' t' : Int} (h : zGo f k E top) (hk : k < E) (h0 : 0 ≤ k) (hc : (f k.toNat).toInt = 0 ∨ (f k.toNat).toInt = 1) : top ≤ 79 ∧ (k' = k + 1 → t' = top + 1 → zGo f k' E t') := by
  obtain ⟨h', a, b⟩ := zGo_lt h hk h0
  unfold zStep at a
  rw [if_pos hc] at a
  by_cases c : top.toNat < 80
  · rw [if_pos c] at a
    have a := Option.some.inj a
    have := h.1
    refine ⟨by omega, fun e1 e2 => ?_⟩
    subst e1 e2
    exact ⟨by omega, by omega, by rw [show (top + 1).toNat = h' by omega]; exact b⟩
  · rw [if_neg c] at a; cases a
theorem zGo_n {f : Nat → Int32} {k E top k' t' : Int} (h : zGo f k E top) (hk : k < E) (h0 : 0 ≤ k) (hc : (f k.toNat).toInt = 9) : 1 ≤ top ∧ (k' = k + 1 → t' = top → zGo f k' E t') := by
  obtain ⟨h', a, b⟩ := zGo_lt h hk h0
  unfold zStep at a
  rw [if_neg (by omega), if_pos hc] at a
  by_cases c : 1 ≤ top.toNat
  · rw [if_pos c] at a
    have a := Option.some.inj a
    refine ⟨by omega, fun e1 e2 => ?_⟩
    subst e1 e2
    exact ⟨h.1, h.2.1, by rw [a]; exact b⟩
  · rw [if_neg c] at a; cases a
theorem zGo_o {f : Nat → Int32} {k E top k' t' : Int} (h : zGo f k E top) (hk : k < E) (h0 : 0 ≤ k) (hc : ¬ (f k.toNat).toInt = 0 ∧ ¬ (f k.toNat).toInt = 1 ∧ ¬ (f k.toNat).toInt = 9) : 2 ≤ top ∧ (k' = k + 1 → t' = top - 1 → zGo f k' E t') := by
  obtain ⟨h', a, b⟩ := zGo_lt h hk h0
  unfold zStep at a
  rw [if_neg (by omega), if_neg (by omega)] at a
  by_cases c : 2 ≤ top.toNat
  · rw [if_pos c] at a
    have a := Option.some.inj a
    have := h.2.1
    refine ⟨by omega, fun e1 e2 => ?_⟩
    subst e1 e2
    exact ⟨by omega, by omega, by rw [show (top - 1).toNat = h' by omega]; exact b⟩
  · rw [if_neg c] at a; cases a
def zOk (fC fV : Nat → Int32) (i j : Int) : Prop := zGo fC i j 0 ∧ ∀ k : Nat, i ≤ (k : Int) → (k : Int) < j → (fC k).toInt = 1 → 0 ≤ (fV k).toInt ∧ (fV k).toInt ≤ 5
def zCl (n : Int) (t s u : Int) (fC fV : Nat → Int32) : Prop := (0 ≤ t ∧ t ≤ s ∧ s ≤ u ∧ u ≤ 519) ∧ (t = s ∨ zOk fC fV (520 * n + t) (520 * n + s)) ∧ zOk fC fV (520 * n + s) (520 * n + u)
def zLw (n : Nat) (fC fV fK fT fS fU : Nat → Int32) : Prop := (0 ≤ (fK n).toInt ∧ (fK n).toInt ≤ 139) ∧ ∀ c : Nat, (c : Int) < (fK n).toInt → zCl n (fT (140 * n + c)).toInt (fS (140 * n + c)).toInt (fU (140 * n + c)).toInt fC fV
def zLs (ho : Int32) (fC fV fK fT fS fU : Nat → Int32) : Prop := (-1 ≤ ho.toInt ∧ ho.toInt ≤ 3) ∧ (0 ≤ ho.toInt → zLw ho.toInt.toNat fC fV fK fT fS fU)
theorem zCl_g {n c : Int32} {fC fV fK fT fS fU : Nat → Int32} (h : zLw n.toInt.toNat fC fV fK fT fS fU) (h0 : 0 ≤ n.toInt) (hn : n.toInt ≤ 3) {m : Int} (hm : m = (fK n.toInt.toNat).toInt) (hc : 140 * n.toInt ≤ c.toInt) (hl : c.toInt < 140 * n.toInt + m) : zCl n.toInt (fT c.toNatClampNeg).toInt (fS c.toNatClampNeg).toInt (fU c.toNatClampNeg).toInt fC fV := by
  have q := h.2 (c.toInt - 140 * n.toInt).toNat (by omega)
  have e : 140 * n.toInt.toNat + (c.toInt - 140 * n.toInt).toNat = c.toNatClampNeg := by show _ = c.toInt.toNat; omega
  rw [e] at q
  have e2 : ((n.toInt.toNat : Nat) : Int) = n.toInt := by omega
  rw [e2] at q
  exact q
/-- powers of ten -/
def zTen : Nat → Int
  | 0 => 1
  | n + 1 => 10 * zTen n
theorem zTen_le : ∀ n : Nat, n ≤ 12 → 1 ≤ zTen n ∧ zTen n ≤ 1000000000000 := by decide
theorem zlmul {v x y : Int64} {a b : Int} (e : v = x * y) (hx : x.toInt = a) (hy : y.toInt = b) (h1 : -9223372036854775808 ≤ a * b) (h2 : a * b ≤ 9223372036854775807) : v.toInt = a * b := by
  subst hx hy
  rw [e, Int64.toInt_mul]
  exact Int.bmod_eq_of_le (by omega) (by omega)
theorem zladd {v x y : Int64} {a b : Int} (e : v = x + y) (hx : x.toInt = a) (hy : y.toInt = b) (h1 : -9223372036854775808 ≤ a + b) (h2 : a + b ≤ 9223372036854775807) : v.toInt = a + b := by
  subst hx hy
  rw [e, Int64.toInt_add]
  exact Int.bmod_eq_of_le (by omega) (by omega)
theorem zwt {v x y : Int64} {m l l' : Int32} (e : v = x * y) (ey : y = m.toInt64) (h1 : 1 ≤ x.toInt) (h2 : x.toInt ≤ zTen (12 - l.toInt).toNat) (hm : 1 ≤ m.toInt) (hm2 : m.toInt ≤ 10) (hl : 1 ≤ l.toInt) (hl2 : l.toInt ≤ 12) (hl' : l'.toInt = l.toInt - 1) : 1 ≤ v.toInt ∧ v.toInt ≤ zTen (12 - l'.toInt).toNat := by
  have hy : y.toInt = m.toInt := by rw [ey]; exact Int32.toInt_toInt64 m
  have q := zTen_le (12 - l.toInt).toNat (by omega)
  have z : zTen (12 - l'.toInt).toNat = 10 * zTen (12 - l.toInt).toNat := by
    rw [show (12 - l'.toInt).toNat = (12 - l.toInt).toNat + 1 by omega]
    rfl
  have a1 : x.toInt * m.toInt ≤ x.toInt * 10 := Int.mul_le_mul_of_nonneg_left hm2 (by omega)
  have a2 : x.toInt * 1 ≤ x.toInt * m.toInt := Int.mul_le_mul_of_nonneg_left hm (by omega)
  rw [zlmul e rfl hy (by omega) (by omega), z]
  omega
theorem zlnz {x : Int64} (h : 1 ≤ x.toInt) : ¬ x = 0 := by
  intro q
  rw [q, show (0 : Int64).toInt = 0 from by decide] at h
  omega
theorem zabs {v x : Int32} (e : v = if 0 ≤ x then x else 0 - x) (h1 : -10 ≤ x.toInt) (h2 : x.toInt ≤ 10) : 0 ≤ v.toInt ∧ v.toInt ≤ 10 := by
  by_cases c : 0 ≤ x
  · rw [if_pos c] at e
    have c2 := z3 (show (0 : Int32).toInt = 0 by decide) rfl c
    rw [e]
    omega
  · rw [if_neg c] at e
    have c2 := z4 (show (0 : Int32).toInt = 0 by decide) rfl c
    have := zsub e (show (0 : Int32).toInt = 0 by decide) rfl (by omega) (by omega)
    omega
theorem zGo_eq {f : Nat → Int32} {k E t k' E' t' : Int} (h : zGo f k E t) (h1 : k' = k) (h2 : E' = E) (h3 : t' = t) : zGo f k' E' t' := by
  subst h1 h2 h3
  exact h
theorem zLt_g {fC fV : Nat → Int32} {i j : Int} {v k : Int32} (h : zOk fC fV i j) (e : v = fV k.toNatClampNeg) (h0 : 0 ≤ k.toInt) (h1 : i ≤ k.toInt) (h2 : k.toInt < j) (hc : (fC k.toInt.toNat).toInt = 1) : 0 ≤ v.toInt ∧ v.toInt ≤ 5 := by
  rw [e]
  exact h.2 k.toInt.toNat (by omega) (by omega) hc
/-- asked already -/
def zbit (a : Int32) (j : Nat) : Prop := ((a >>> (nI j &&& 31)) &&& 1).toInt = 1
theorem zbit_of {a k : Int32} {x : Int32} (e : x = (a >>> (k &&& 31)) &&& 1) (h0 : 0 ≤ k.toInt) : x.toInt = 1 ↔ zbit a k.toInt.toNat := by
  obtain ⟨j, hj, rfl⟩ := nI_of (x := k) (znn h0)
  rw [e]
  unfold zbit
  rw [nI_toInt hj]
  exact Iff.rfl
def zAk (a k best : Int32) : Prop := (best.toInt = -1 → ∀ j : Nat, (j : Int) < k.toInt → zbit a j) ∧ (0 ≤ best.toInt → best.toInt < k.toInt ∧ ¬ zbit a best.toInt.toNat)
theorem zAk_0 {a : Int32} : zAk a 0 (-1) := ⟨fun _ j hj => by rw [show (0 : Int32).toInt = 0 from by decide] at hj; omega, fun h => absurd h (by decide)⟩
theorem zAk_y {a k k' best x : Int32} (h : zAk a k best) (e : x.toInt = 1 ↔ zbit a k.toInt.toNat) (hx : x.toInt = 1) (h0 : 0 ≤ k.toInt) (hk : k'.toInt = k.toInt + 1) : zAk a k' best := by
  refine ⟨fun hb j hj => ?_, fun hb => ⟨by have := (h.2 hb).1; omega, (h.2 hb).2⟩⟩
  by_cases c : (j : Int) < k.toInt
  · exact h.1 hb j c
  · have : j = k.toInt.toNat := by omega
    rw [this]
    exact e.mp hx
theorem zAk_n {a k k' best x : Int32} (e : x.toInt = 1 ↔ zbit a k.toInt.toNat) (hx : ¬ x.toInt = 1) (h0 : 0 ≤ k.toInt) (hk : k'.toInt = k.toInt + 1) (hb : best.toInt = k.toInt) : zAk a k' best := by
  refine ⟨fun h => by omega, fun _ => ⟨by omega, ?_⟩⟩
  rw [hb]
  exact fun h => hx (e.mpr h)
theorem zAk_k {a k k' best : Int32} (h : zAk a k best) (hb : ¬ best.toInt = -1) (hk : k'.toInt = k.toInt + 1) : zAk a k' best := ⟨fun q => absurd q hb, fun q => ⟨by have := (h.2 q).1; omega, (h.2 q).2⟩⟩
theorem zAk_e {a k k' best : Int32} (h : zAk a k best) (hk : k'.toInt ≤ k.toInt) (hk2 : k.toInt ≤ k'.toInt) : zAk a k' best := ⟨fun q j hj => h.1 q j (by omega), fun q => ⟨by have := (h.2 q).1; omega, (h.2 q).2⟩⟩
theorem zAk_d {a k r1 r2 : Int32} (h1 : zAk a k r1) (h2 : zAk a k r2) (q1 : 0 ≤ r1.toInt) (q2 : -1 ≤ r2.toInt) : 0 ≤ r2.toInt := by
  by_cases c : r2.toInt = -1
  · exact absurd (h2.1 c r1.toInt.toNat (by have := (h1.2 q1).1; omega)) (h1.2 q1).2
  · omega
def zAs (f : Nat → Int32) : Prop := ∀ j : Nat, j < 6 → 0 ≤ (f j).toInt ∧ (f j).toInt ≤ 31
def zHo (f : Nat → Int32) : Prop := ∀ j : Nat, j < 5 → -1 ≤ (f j).toInt ∧ (f j).toInt ≤ 5
theorem zHo_u {f g : Nat → Int32} {i x : Int32} (h : zHo f) (e : g = upd f i.toNatClampNeg x) (hx : -1 ≤ x.toInt ∧ x.toInt ≤ 5) : zHo g := by
  intro j hj
  rw [e]
  by_cases c : j = i.toNatClampNeg
  · rw [c, pk_us]; exact hx
  · rw [pk_un c]; exact h j hj
theorem zAs_u {f g : Nat → Int32} {i x : Int32} (h : zAs f) (e : g = upd f i.toNatClampNeg x) (hx : 0 ≤ x.toInt ∧ x.toInt ≤ 31) : zAs g := by
  intro j hj
  rw [e]
  by_cases c : j = i.toNatClampNeg
  · rw [c, pk_us]; exact hx
  · rw [pk_un c]; exact h j hj
theorem zHo_g {f : Nat → Int32} {v i : Int32} (h : zHo f) (e : v = f i.toNatClampNeg) (h0 : 0 ≤ i.toInt) (h4 : i.toInt ≤ 4) : -1 ≤ v.toInt ∧ v.toInt ≤ 5 := by
  rw [e]
  exact h _ (by show i.toInt.toNat < 5; omega)
def zMs (f : Nat → Int32) : Nat := (31 - (f 0).toInt).toNat + (31 - (f 1).toInt).toNat + (31 - (f 2).toInt).toNat + (31 - (f 3).toInt).toNat + (31 - (f 4).toInt).toNat + (31 - (f 5).toInt).toNat
theorem zOr5 : ∀ a : Nat, a < 32 → ∀ p : Nat, p < 5 → ¬ ((nI a >>> (nI p &&& 31)) &&& 1).toInt = 1 → (nI a).toInt < (nI a ||| ((1 : Int32) <<< (nI p &&& 31))).toInt ∧ (nI a ||| ((1 : Int32) <<< (nI p &&& 31))).toInt ≤ 31 := by decide +kernel
theorem zMs_lt {f g : Nat → Int32} {b p old sh new k : Int32} (h : zAs f) (hk : zAk (f b.toInt.toNat) k p) (hb0 : 0 ≤ b.toInt) (hb5 : b.toInt ≤ 5) (hp0 : 0 ≤ p.toInt) (hp4 : p.toInt ≤ 4) (eo : old = f b.toNatClampNeg) (es : sh = (1 : Int32) <<< (p &&& 31)) (en : new = old ||| sh) (e : g = upd f b.toNatClampNeg new) : zAs g ∧ zMs g < zMs f := by
  have hbit := (hk.2 hp0).2
  obtain ⟨q, hq, rfl⟩ := nI_of (x := p) (znn hp0)
  rw [nI_toInt hq] at hbit hp4
  have ho := h b.toInt.toNat (by omega)
  have ho2 : old = f b.toInt.toNat := eo
  rw [← ho2] at ho hbit
  obtain ⟨a, ha, hax⟩ := nI_of (x := old) (znn ho.1)
  rw [hax, nI_toInt ha] at ho
  rw [hax] at hbit
  have key := zOr5 a (by omega) q (by omega) hbit
  rw [← hax, ← es, ← en] at key
  refine ⟨zAs_u h e ⟨by have := key.1; rw [hax, nI_toInt ha] at this; omega, key.2⟩, ?_⟩
  have hn : ∀ n : Nat, ¬ n = b.toInt.toNat → g n = f n := fun n hn => by rw [e]; exact pk_un hn
  have hy : g b.toInt.toNat = new := by rw [e]; exact pk_us
  have k1 := key.1
  rw [ho2] at k1
  have k2 := key.2
  unfold zMs
  have hcase : b.toInt.toNat = 0 ∨ b.toInt.toNat = 1 ∨ b.toInt.toNat = 2 ∨ b.toInt.toNat = 3 ∨ b.toInt.toNat = 4 ∨ b.toInt.toNat = 5 := by omega
  have a0 := h 0 (by omega)
  have a1 := h 1 (by omega)
  have a2 := h 2 (by omega)
  have a3 := h 3 (by omega)
  have a4 := h 4 (by omega)
  have a5 := h 5 (by omega)
  rcases hcase with c | c | c | c | c | c <;> rw [c] at hn hy k1
  · rw [hy, hn 1 (by decide), hn 2 (by decide), hn 3 (by decide), hn 4 (by decide), hn 5 (by decide)]; omega
  · rw [hn 0 (by decide), hy, hn 2 (by decide), hn 3 (by decide), hn 4 (by decide), hn 5 (by decide)]; omega
  · rw [hn 0 (by decide), hn 1 (by decide), hy, hn 3 (by decide), hn 4 (by decide), hn 5 (by decide)]; omega
  · rw [hn 0 (by decide), hn 1 (by decide), hn 2 (by decide), hy, hn 4 (by decide), hn 5 (by decide)]; omega
  · rw [hn 0 (by decide), hn 1 (by decide), hn 2 (by decide), hn 3 (by decide), hy, hn 5 (by decide)]; omega
  · rw [hn 0 (by decide), hn 1 (by decide), hn 2 (by decide), hn 3 (by decide), hn 4 (by decide), hy]; omega
/-- the bytes that are fed -/
def zBy (a b c d e k : Int32) : Int32 := ((if k.toInt < 4 then a else if k.toInt < 8 then b else if k.toInt < 12 then c else if k.toInt < 16 then d else e) >>> ((24 - 8 * (k - k / 4 * 4)) &&& 31)) &&& 255
def zBc (a b c d e : Int32) : Nat → Nat
  | 0 => 0
  | n + 1 => zBc a b c d e n + (if (zBy a b c d e (nI n)).toInt = 0 then 0 else 1)
theorem zBc_s {a b c d e k k' v : Int32} (hv : v = zBy a b c d e k) (h0 : 0 ≤ k.toInt) (hk : k'.toInt = k.toInt + 1) : (v.toInt = 0 → zBc a b c d e k'.toInt.toNat = zBc a b c d e k.toInt.toNat) ∧ (¬ v.toInt = 0 → zBc a b c d e k'.toInt.toNat = zBc a b c d e k.toInt.toNat + 1) := by
  obtain ⟨j, hj, rfl⟩ := nI_of (x := k) (znn h0)
  rw [nI_toInt hj] at hk ⊢
  have q : k'.toInt.toNat = j + 1 := by omega
  have q2 : ((j : Int)).toNat = j := by omega
  rw [q, q2]
  rw [hv]
  constructor
  · intro h
    show zBc a b c d e j + (if (zBy a b c d e (nI j)).toInt = 0 then 0 else 1) = _
    rw [if_pos h]; rfl
  · intro h
    show zBc a b c d e j + (if (zBy a b c d e (nI j)).toInt = 0 then 0 else 1) = _
    rw [if_neg h]
theorem zBc_le {a b c d e : Int32} {i n : Nat} (h : i ≤ n) : zBc a b c d e i ≤ zBc a b c d e n := by
  induction n with
  | zero => rw [show i = 0 by omega]; exact Nat.le_refl _
  | succ n ih =>
    by_cases c1 : i = n + 1
    · rw [c1]; exact Nat.le_refl _
    · have := ih (by omega)
      show _ ≤ zBc a b c d e n + _
      omega
