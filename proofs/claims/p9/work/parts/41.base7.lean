set_option maxRecDepth 20000 in
theorem qw97 : Cond.initialized RL ∈ wA := List.mem_filter.mpr ⟨zt1 (List.mem_of_getElem? (i := 0) rfl), (by decide +kernel)⟩
set_option maxRecDepth 20000 in
theorem qw408 : Cond.methodLink RL 19 yX10_feed ∈ wA := List.mem_filter.mpr ⟨zt2 (List.mem_of_getElem? (i := 71) rfl), (by decide +kernel)⟩
set_option maxRecDepth 20000 in
theorem qw409 : Cond.instanceMethod yX10_feed ∈ wA := List.mem_filter.mpr ⟨zt2 (List.mem_of_getElem? (i := 72) rfl), (by decide +kernel)⟩
set_option maxRecDepth 20000 in
theorem qw410 : Cond.selects RX10 yX10_feed yX10_feed ∈ wA := List.mem_filter.mpr ⟨zt2 (List.mem_of_getElem? (i := 73) rfl), (by decide +kernel)⟩
set_option maxRecDepth 20000 in
theorem qw411 : Cond.code yX10_feed cX10_feed 7 (some .int) ∈ wA := List.mem_filter.mpr ⟨zt2 (List.mem_of_getElem? (i := 74) rfl), (by decide +kernel)⟩
set_option maxRecDepth 20000 in
theorem qw416 : Cond.methodLink RL 24 yX10_end ∈ wA := List.mem_filter.mpr ⟨zt2 (List.mem_of_getElem? (i := 79) rfl), (by decide +kernel)⟩
set_option maxRecDepth 20000 in
theorem qw417 : Cond.instanceMethod yX10_end ∈ wA := List.mem_filter.mpr ⟨zt2 (List.mem_of_getElem? (i := 80) rfl), (by decide +kernel)⟩
set_option maxRecDepth 20000 in
theorem qw418 : Cond.selects RX10 yX10_end yX10_end ∈ wA := List.mem_filter.mpr ⟨zt2 (List.mem_of_getElem? (i := 81) rfl), (by decide +kernel)⟩
set_option maxRecDepth 20000 in
theorem qw419 : Cond.code yX10_end cX10_end 2 (some .boolean) ∈ wA := List.mem_filter.mpr ⟨zt2 (List.mem_of_getElem? (i := 82) rfl), (by decide +kernel)⟩
set_option maxRecDepth 20000 in
theorem qw420 : Cond.methodLink RL 29 yX10_fault ∈ wA := List.mem_filter.mpr ⟨zt2 (List.mem_of_getElem? (i := 83) rfl), (by decide +kernel)⟩
set_option maxRecDepth 20000 in
theorem qw421 : Cond.instanceMethod yX10_fault ∈ wA := List.mem_filter.mpr ⟨zt2 (List.mem_of_getElem? (i := 84) rfl), (by decide +kernel)⟩
set_option maxRecDepth 20000 in
theorem qw422 : Cond.selects RX10 yX10_fault yX10_fault ∈ wA := List.mem_filter.mpr ⟨zt2 (List.mem_of_getElem? (i := 85) rfl), (by decide +kernel)⟩
set_option maxRecDepth 20000 in
theorem qw423 : Cond.code yX10_fault cX10_fault 2 (some .int) ∈ wA := List.mem_filter.mpr ⟨zt2 (List.mem_of_getElem? (i := 86) rfl), (by decide +kernel)⟩
set_option maxRecDepth 20000 in
theorem qw515 : Cond.methodLink RL 34 yX10_text ∈ wA := List.mem_filter.mpr ⟨zt2 (List.mem_of_getElem? (i := 178) rfl), (by decide +kernel)⟩
set_option maxRecDepth 20000 in
theorem qw516 : Cond.instanceMethod yX10_text ∈ wA := List.mem_filter.mpr ⟨zt2 (List.mem_of_getElem? (i := 179) rfl), (by decide +kernel)⟩
set_option maxRecDepth 20000 in
theorem qw517 : Cond.selects RX10 yX10_text yX10_text ∈ wA := List.mem_filter.mpr ⟨zt2 (List.mem_of_getElem? (i := 180) rfl), (by decide +kernel)⟩
set_option maxRecDepth 20000 in
theorem qw518 : Cond.code yX10_text cX10_text 2 (some .int) ∈ wA := List.mem_filter.mpr ⟨zt2 (List.mem_of_getElem? (i := 181) rfl), (by decide +kernel)⟩
set_option maxRecDepth 20000 in
theorem qw580 : Cond.methodLink RL 38 yX10_rule ∈ wA := List.mem_filter.mpr ⟨zt3 (List.mem_of_getElem? (i := 3) rfl), (by decide +kernel)⟩
set_option maxRecDepth 20000 in
theorem qw581 : Cond.instanceMethod yX10_rule ∈ wA := List.mem_filter.mpr ⟨zt3 (List.mem_of_getElem? (i := 4) rfl), (by decide +kernel)⟩
set_option maxRecDepth 20000 in
theorem qw582 : Cond.selects RX10 yX10_rule yX10_rule ∈ wA := List.mem_filter.mpr ⟨zt3 (List.mem_of_getElem? (i := 5) rfl), (by decide +kernel)⟩
set_option maxRecDepth 20000 in
theorem qw583 : Cond.code yX10_rule cX10_rule 2 (some .int) ∈ wA := List.mem_filter.mpr ⟨zt3 (List.mem_of_getElem? (i := 6) rfl), (by decide +kernel)⟩
set_option maxRecDepth 20000 in
theorem qw596 : Cond.methodLink RL 48 yX10_painter ∈ wA := List.mem_filter.mpr ⟨zt3 (List.mem_of_getElem? (i := 19) rfl), (by decide +kernel)⟩
set_option maxRecDepth 20000 in
theorem qw597 : Cond.instanceMethod yX10_painter ∈ wA := List.mem_filter.mpr ⟨zt3 (List.mem_of_getElem? (i := 20) rfl), (by decide +kernel)⟩
set_option maxRecDepth 20000 in
theorem qw598 : Cond.selects RX10 yX10_painter yX10_painter ∈ wA := List.mem_filter.mpr ⟨zt3 (List.mem_of_getElem? (i := 21) rfl), (by decide +kernel)⟩
set_option maxRecDepth 20000 in
theorem qw599 : Cond.code yX10_painter cX10_painter 3 (some .int) ∈ wA := List.mem_filter.mpr ⟨zt3 (List.mem_of_getElem? (i := 22) rfl), (by decide +kernel)⟩
set_option maxRecDepth 20000 in
theorem qw617 : Cond.methodLink RL 52 yX10_law ∈ wA := List.mem_filter.mpr ⟨zt3 (List.mem_of_getElem? (i := 40) rfl), (by decide +kernel)⟩
set_option maxRecDepth 20000 in
theorem qw618 : Cond.instanceMethod yX10_law ∈ wA := List.mem_filter.mpr ⟨zt3 (List.mem_of_getElem? (i := 41) rfl), (by decide +kernel)⟩
set_option maxRecDepth 20000 in
theorem qw619 : Cond.selects RX10 yX10_law yX10_law ∈ wA := List.mem_filter.mpr ⟨zt3 (List.mem_of_getElem? (i := 42) rfl), (by decide +kernel)⟩
set_option maxRecDepth 20000 in
theorem qw620 : Cond.code yX10_law cX10_law 2 (some .boolean) ∈ wA := List.mem_filter.mpr ⟨zt3 (List.mem_of_getElem? (i := 43) rfl), (by decide +kernel)⟩
set_option maxRecDepth 20000 in
theorem qw621 : Cond.methodLink RL 56 yX10_flattery ∈ wA := List.mem_filter.mpr ⟨zt3 (List.mem_of_getElem? (i := 44) rfl), (by decide +kernel)⟩
set_option maxRecDepth 20000 in
theorem qw622 : Cond.instanceMethod yX10_flattery ∈ wA := List.mem_filter.mpr ⟨zt3 (List.mem_of_getElem? (i := 45) rfl), (by decide +kernel)⟩
set_option maxRecDepth 20000 in
theorem qw623 : Cond.selects RX10 yX10_flattery yX10_flattery ∈ wA := List.mem_filter.mpr ⟨zt3 (List.mem_of_getElem? (i := 46) rfl), (by decide +kernel)⟩
set_option maxRecDepth 20000 in
theorem qw624 : Cond.code yX10_flattery cX10_flattery 3 (some .int) ∈ wA := List.mem_filter.mpr ⟨zt3 (List.mem_of_getElem? (i := 47) rfl), (by decide +kernel)⟩
set_option maxRecDepth 20000 in
theorem qw636 : Cond.methodLink RL 60 yX10_shown ∈ wA := List.mem_filter.mpr ⟨zt3 (List.mem_of_getElem? (i := 59) rfl), (by decide +kernel)⟩
set_option maxRecDepth 20000 in
theorem qw637 : Cond.instanceMethod yX10_shown ∈ wA := List.mem_filter.mpr ⟨zt3 (List.mem_of_getElem? (i := 60) rfl), (by decide +kernel)⟩
set_option maxRecDepth 20000 in
theorem qw638 : Cond.selects RX10 yX10_shown yX10_shown ∈ wA := List.mem_filter.mpr ⟨zt3 (List.mem_of_getElem? (i := 61) rfl), (by decide +kernel)⟩
set_option maxRecDepth 20000 in
theorem qw639 : Cond.code yX10_shown cX10_shown 4 (some .int) ∈ wA := List.mem_filter.mpr ⟨zt3 (List.mem_of_getElem? (i := 62) rfl), (by decide +kernel)⟩
set_option maxRecDepth 20000 in
theorem qw680 : Cond.methodLink RL 65 yX10_paint ∈ wA := List.mem_filter.mpr ⟨zt3 (List.mem_of_getElem? (i := 103) rfl), (by decide +kernel)⟩
set_option maxRecDepth 20000 in
theorem qw681 : Cond.instanceMethod yX10_paint ∈ wA := List.mem_filter.mpr ⟨zt3 (List.mem_of_getElem? (i := 104) rfl), (by decide +kernel)⟩
set_option maxRecDepth 20000 in
theorem qw682 : Cond.selects RX10 yX10_paint yX10_paint ∈ wA := List.mem_filter.mpr ⟨zt3 (List.mem_of_getElem? (i := 105) rfl), (by decide +kernel)⟩
set_option maxRecDepth 20000 in
theorem qw683 : Cond.code yX10_paint cX10_paint 3 (some .int) ∈ wA := List.mem_filter.mpr ⟨zt3 (List.mem_of_getElem? (i := 106) rfl), (by decide +kernel)⟩
set_option maxRecDepth 20000 in
theorem qw710 : Cond.methodLink RL 69 yX10_pay ∈ wA := List.mem_filter.mpr ⟨zt3 (List.mem_of_getElem? (i := 133) rfl), (by decide +kernel)⟩
set_option maxRecDepth 20000 in
theorem qw711 : Cond.instanceMethod yX10_pay ∈ wA := List.mem_filter.mpr ⟨zt3 (List.mem_of_getElem? (i := 134) rfl), (by decide +kernel)⟩
set_option maxRecDepth 20000 in
theorem qw712 : Cond.selects RX10 yX10_pay yX10_pay ∈ wA := List.mem_filter.mpr ⟨zt3 (List.mem_of_getElem? (i := 135) rfl), (by decide +kernel)⟩
set_option maxRecDepth 20000 in
theorem qw713 : Cond.code yX10_pay cX10_pay 3 (some .int) ∈ wA := List.mem_filter.mpr ⟨zt3 (List.mem_of_getElem? (i := 136) rfl), (by decide +kernel)⟩
set_option maxRecDepth 20000 in
theorem qw717 : Cond.methodLink RL 73 yX10_threaten ∈ wA := List.mem_filter.mpr ⟨zt3 (List.mem_of_getElem? (i := 140) rfl), (by decide +kernel)⟩
set_option maxRecDepth 20000 in
theorem qw718 : Cond.instanceMethod yX10_threaten ∈ wA := List.mem_filter.mpr ⟨zt3 (List.mem_of_getElem? (i := 141) rfl), (by decide +kernel)⟩
set_option maxRecDepth 20000 in
theorem qw719 : Cond.selects RX10 yX10_threaten yX10_threaten ∈ wA := List.mem_filter.mpr ⟨zt3 (List.mem_of_getElem? (i := 142) rfl), (by decide +kernel)⟩
set_option maxRecDepth 20000 in
theorem qw720 : Cond.code yX10_threaten cX10_threaten 2 (some .int) ∈ wA := List.mem_filter.mpr ⟨zt3 (List.mem_of_getElem? (i := 143) rfl), (by decide +kernel)⟩
set_option maxRecDepth 20000 in
theorem qw721 : Cond.methodLink RL 77 yX10_letter ∈ wA := List.mem_filter.mpr ⟨zt3 (List.mem_of_getElem? (i := 144) rfl), (by decide +kernel)⟩
set_option maxRecDepth 20000 in
theorem qw722 : Cond.instanceMethod yX10_letter ∈ wA := List.mem_filter.mpr ⟨zt3 (List.mem_of_getElem? (i := 145) rfl), (by decide +kernel)⟩
set_option maxRecDepth 20000 in
theorem qw723 : Cond.selects RX10 yX10_letter yX10_letter ∈ wA := List.mem_filter.mpr ⟨zt3 (List.mem_of_getElem? (i := 146) rfl), (by decide +kernel)⟩
set_option maxRecDepth 20000 in
theorem qw724 : Cond.code yX10_letter cX10_letter 2 (some .int) ∈ wA := List.mem_filter.mpr ⟨zt3 (List.mem_of_getElem? (i := 147) rfl), (by decide +kernel)⟩
set_option maxRecDepth 20000 in
theorem qw730 : Cond.methodLink RL 81 yX10_shoe ∈ wA := List.mem_filter.mpr ⟨zt3 (List.mem_of_getElem? (i := 153) rfl), (by decide +kernel)⟩
set_option maxRecDepth 20000 in
theorem qw731 : Cond.instanceMethod yX10_shoe ∈ wA := List.mem_filter.mpr ⟨zt3 (List.mem_of_getElem? (i := 154) rfl), (by decide +kernel)⟩
set_option maxRecDepth 20000 in
theorem qw732 : Cond.selects RX10 yX10_shoe yX10_shoe ∈ wA := List.mem_filter.mpr ⟨zt3 (List.mem_of_getElem? (i := 155) rfl), (by decide +kernel)⟩
set_option maxRecDepth 20000 in
theorem qw733 : Cond.code yX10_shoe cX10_shoe 2 (some .int) ∈ wA := List.mem_filter.mpr ⟨zt3 (List.mem_of_getElem? (i := 156) rfl), (by decide +kernel)⟩
set_option maxRecDepth 20000 in
theorem qw734 : Cond.methodLink RL 85 yX10_wed ∈ wA := List.mem_filter.mpr ⟨zt3 (List.mem_of_getElem? (i := 157) rfl), (by decide +kernel)⟩
set_option maxRecDepth 20000 in
theorem qw735 : Cond.instanceMethod yX10_wed ∈ wA := List.mem_filter.mpr ⟨zt3 (List.mem_of_getElem? (i := 158) rfl), (by decide +kernel)⟩
set_option maxRecDepth 20000 in
theorem qw736 : Cond.selects RX10 yX10_wed yX10_wed ∈ wA := List.mem_filter.mpr ⟨zt3 (List.mem_of_getElem? (i := 159) rfl), (by decide +kernel)⟩
set_option maxRecDepth 20000 in
theorem qw737 : Cond.code yX10_wed cX10_wed 2 (some .int) ∈ wA := List.mem_filter.mpr ⟨zt3 (List.mem_of_getElem? (i := 160) rfl), (by decide +kernel)⟩
set_option maxRecDepth 20000 in
theorem qw743 : Cond.methodLink RL 89 yX10_annul ∈ wA := List.mem_filter.mpr ⟨zt3 (List.mem_of_getElem? (i := 166) rfl), (by decide +kernel)⟩
set_option maxRecDepth 20000 in
theorem qw744 : Cond.instanceMethod yX10_annul ∈ wA := List.mem_filter.mpr ⟨zt3 (List.mem_of_getElem? (i := 167) rfl), (by decide +kernel)⟩
set_option maxRecDepth 20000 in
theorem qw745 : Cond.selects RX10 yX10_annul yX10_annul ∈ wA := List.mem_filter.mpr ⟨zt3 (List.mem_of_getElem? (i := 168) rfl), (by decide +kernel)⟩
set_option maxRecDepth 20000 in
theorem qw746 : Cond.code yX10_annul cX10_annul 2 (some .int) ∈ wA := List.mem_filter.mpr ⟨zt3 (List.mem_of_getElem? (i := 169) rfl), (by decide +kernel)⟩
set_option maxRecDepth 20000 in
theorem qw759 : Cond.methodLink RL 94 yX10_months ∈ wA := List.mem_filter.mpr ⟨zt3 (List.mem_of_getElem? (i := 182) rfl), (by decide +kernel)⟩
set_option maxRecDepth 20000 in
theorem qw760 : Cond.instanceMethod yX10_months ∈ wA := List.mem_filter.mpr ⟨zt3 (List.mem_of_getElem? (i := 183) rfl), (by decide +kernel)⟩
set_option maxRecDepth 20000 in
theorem qw761 : Cond.selects RX10 yX10_months yX10_months ∈ wA := List.mem_filter.mpr ⟨zt3 (List.mem_of_getElem? (i := 184) rfl), (by decide +kernel)⟩
set_option maxRecDepth 20000 in
theorem qw762 : Cond.code yX10_months cX10_months 3 (some .int) ∈ wA := List.mem_filter.mpr ⟨zt3 (List.mem_of_getElem? (i := 185) rfl), (by decide +kernel)⟩
set_option maxRecDepth 20000 in
theorem qw768 : Cond.methodLink RL 98 yX10_bribes ∈ wA := List.mem_filter.mpr ⟨zt3 (List.mem_of_getElem? (i := 191) rfl), (by decide +kernel)⟩
set_option maxRecDepth 20000 in
theorem qw769 : Cond.instanceMethod yX10_bribes ∈ wA := List.mem_filter.mpr ⟨zt3 (List.mem_of_getElem? (i := 192) rfl), (by decide +kernel)⟩
set_option maxRecDepth 20000 in
theorem qw770 : Cond.selects RX10 yX10_bribes yX10_bribes ∈ wA := List.mem_filter.mpr ⟨zt3 (List.mem_of_getElem? (i := 193) rfl), (by decide +kernel)⟩
set_option maxRecDepth 20000 in
theorem qw771 : Cond.code yX10_bribes cX10_bribes 2 (some .boolean) ∈ wA := List.mem_filter.mpr ⟨zt3 (List.mem_of_getElem? (i := 194) rfl), (by decide +kernel)⟩
set_option maxRecDepth 20000 in
theorem qw772 : Cond.methodLink RL 104 yX10_decades ∈ wA := List.mem_filter.mpr ⟨zt3 (List.mem_of_getElem? (i := 195) rfl), (by decide +kernel)⟩
set_option maxRecDepth 20000 in
theorem qw773 : Cond.instanceMethod yX10_decades ∈ wA := List.mem_filter.mpr ⟨zt3 (List.mem_of_getElem? (i := 196) rfl), (by decide +kernel)⟩
set_option maxRecDepth 20000 in
theorem qw774 : Cond.selects RX10 yX10_decades yX10_decades ∈ wA := List.mem_filter.mpr ⟨zt3 (List.mem_of_getElem? (i := 197) rfl), (by decide +kernel)⟩
set_option maxRecDepth 20000 in
theorem qw775 : Cond.code yX10_decades cX10_decades 5 (some .int) ∈ wA := List.mem_filter.mpr ⟨zt3 (List.mem_of_getElem? (i := 198) rfl), (by decide +kernel)⟩
set_option maxRecDepth 20000 in
theorem qw794 : Cond.methodLink RL 109 yX10_status ∈ wA := List.mem_filter.mpr ⟨zt3 (List.mem_of_getElem? (i := 217) rfl), (by decide +kernel)⟩
set_option maxRecDepth 20000 in
theorem qw795 : Cond.instanceMethod yX10_status ∈ wA := List.mem_filter.mpr ⟨zt3 (List.mem_of_getElem? (i := 218) rfl), (by decide +kernel)⟩
set_option maxRecDepth 20000 in
theorem qw796 : Cond.selects RX10 yX10_status yX10_status ∈ wA := List.mem_filter.mpr ⟨zt3 (List.mem_of_getElem? (i := 219) rfl), (by decide +kernel)⟩
set_option maxRecDepth 20000 in
theorem qw797 : Cond.code yX10_status cX10_status 2 (some .int) ∈ wA := List.mem_filter.mpr ⟨zt3 (List.mem_of_getElem? (i := 220) rfl), (by decide +kernel)⟩
set_option maxRecDepth 20000 in
theorem qw798 : Cond.methodLink RL 113 yX10_undo ∈ wA := List.mem_filter.mpr ⟨zt3 (List.mem_of_getElem? (i := 221) rfl), (by decide +kernel)⟩
set_option maxRecDepth 20000 in
theorem qw799 : Cond.instanceMethod yX10_undo ∈ wA := List.mem_filter.mpr ⟨zt3 (List.mem_of_getElem? (i := 222) rfl), (by decide +kernel)⟩
set_option maxRecDepth 20000 in
theorem qw800 : Cond.selects RX10 yX10_undo yX10_undo ∈ wA := List.mem_filter.mpr ⟨zt3 (List.mem_of_getElem? (i := 223) rfl), (by decide +kernel)⟩
set_option maxRecDepth 20000 in
theorem qw801 : Cond.code yX10_undo cX10_undo 1 (some .int) ∈ wA := List.mem_filter.mpr ⟨zt3 (List.mem_of_getElem? (i := 224) rfl), (by decide +kernel)⟩
set_option maxRecDepth 20000 in
theorem qw810 : Cond.methodLink RL 117 yX10_portrait ∈ wA := List.mem_filter.mpr ⟨zt3 (List.mem_of_getElem? (i := 233) rfl), (by decide +kernel)⟩
set_option maxRecDepth 20000 in
theorem qw811 : Cond.instanceMethod yX10_portrait ∈ wA := List.mem_filter.mpr ⟨zt3 (List.mem_of_getElem? (i := 234) rfl), (by decide +kernel)⟩
set_option maxRecDepth 20000 in
theorem qw812 : Cond.selects RX10 yX10_portrait yX10_portrait ∈ wA := List.mem_filter.mpr ⟨zt3 (List.mem_of_getElem? (i := 235) rfl), (by decide +kernel)⟩
set_option maxRecDepth 20000 in
theorem qw813 : Cond.code yX10_portrait cX10_portrait 3 (some .int) ∈ wA := List.mem_filter.mpr ⟨zt3 (List.mem_of_getElem? (i := 236) rfl), (by decide +kernel)⟩
set_option maxRecDepth 20000 in
theorem qw815 : Cond.methodLink RL 121 yX10_fits ∈ wA := List.mem_filter.mpr ⟨zt3 (List.mem_of_getElem? (i := 238) rfl), (by decide +kernel)⟩
set_option maxRecDepth 20000 in
theorem qw816 : Cond.instanceMethod yX10_fits ∈ wA := List.mem_filter.mpr ⟨zt3 (List.mem_of_getElem? (i := 239) rfl), (by decide +kernel)⟩
set_option maxRecDepth 20000 in
theorem qw817 : Cond.selects RX10 yX10_fits yX10_fits ∈ wA := List.mem_filter.mpr ⟨zt4 (List.mem_of_getElem? (i := 0) rfl), (by decide +kernel)⟩
set_option maxRecDepth 20000 in
theorem qw818 : Cond.code yX10_fits cX10_fits 2 (some .int) ∈ wA := List.mem_filter.mpr ⟨zt4 (List.mem_of_getElem? (i := 1) rfl), (by decide +kernel)⟩
set_option maxRecDepth 20000 in
theorem qw825 : Cond.methodLink RL 125 yX10_belief ∈ wA := List.mem_filter.mpr ⟨zt4 (List.mem_of_getElem? (i := 8) rfl), (by decide +kernel)⟩
set_option maxRecDepth 20000 in
theorem qw826 : Cond.instanceMethod yX10_belief ∈ wA := List.mem_filter.mpr ⟨zt4 (List.mem_of_getElem? (i := 9) rfl), (by decide +kernel)⟩
set_option maxRecDepth 20000 in
theorem qw827 : Cond.selects RX10 yX10_belief yX10_belief ∈ wA := List.mem_filter.mpr ⟨zt4 (List.mem_of_getElem? (i := 10) rfl), (by decide +kernel)⟩
set_option maxRecDepth 20000 in
theorem qw828 : Cond.code yX10_belief cX10_belief 3 (some .int) ∈ wA := List.mem_filter.mpr ⟨zt4 (List.mem_of_getElem? (i := 11) rfl), (by decide +kernel)⟩
set_option maxRecDepth 20000 in
theorem qw856 : Cond.methodLink RL 129 yX10_likely ∈ wA := List.mem_filter.mpr ⟨zt4 (List.mem_of_getElem? (i := 39) rfl), (by decide +kernel)⟩
set_option maxRecDepth 20000 in
theorem qw857 : Cond.instanceMethod yX10_likely ∈ wA := List.mem_filter.mpr ⟨zt4 (List.mem_of_getElem? (i := 40) rfl), (by decide +kernel)⟩
set_option maxRecDepth 20000 in
theorem qw858 : Cond.selects RX10 yX10_likely yX10_likely ∈ wA := List.mem_filter.mpr ⟨zt4 (List.mem_of_getElem? (i := 41) rfl), (by decide +kernel)⟩
set_option maxRecDepth 20000 in
theorem qw859 : Cond.code yX10_likely cX10_likely 3 (some .int) ∈ wA := List.mem_filter.mpr ⟨zt4 (List.mem_of_getElem? (i := 42) rfl), (by decide +kernel)⟩
set_option maxRecDepth 20000 in
theorem qw860 : Cond.methodLink RL 133 yX10_sure ∈ wA := List.mem_filter.mpr ⟨zt4 (List.mem_of_getElem? (i := 43) rfl), (by decide +kernel)⟩
set_option maxRecDepth 20000 in
theorem qw861 : Cond.instanceMethod yX10_sure ∈ wA := List.mem_filter.mpr ⟨zt4 (List.mem_of_getElem? (i := 44) rfl), (by decide +kernel)⟩
set_option maxRecDepth 20000 in
theorem qw862 : Cond.selects RX10 yX10_sure yX10_sure ∈ wA := List.mem_filter.mpr ⟨zt4 (List.mem_of_getElem? (i := 45) rfl), (by decide +kernel)⟩
set_option maxRecDepth 20000 in
theorem qw863 : Cond.code yX10_sure cX10_sure 3 (some .int) ∈ wA := List.mem_filter.mpr ⟨zt4 (List.mem_of_getElem? (i := 46) rfl), (by decide +kernel)⟩
set_option maxRecDepth 20000 in
theorem qw865 : Cond.methodLink RL 137 yX10_next ∈ wA := List.mem_filter.mpr ⟨zt4 (List.mem_of_getElem? (i := 48) rfl), (by decide +kernel)⟩
set_option maxRecDepth 20000 in
theorem qw866 : Cond.instanceMethod yX10_next ∈ wA := List.mem_filter.mpr ⟨zt4 (List.mem_of_getElem? (i := 49) rfl), (by decide +kernel)⟩
set_option maxRecDepth 20000 in
theorem qw867 : Cond.selects RX10 yX10_next yX10_next ∈ wA := List.mem_filter.mpr ⟨zt4 (List.mem_of_getElem? (i := 50) rfl), (by decide +kernel)⟩
set_option maxRecDepth 20000 in
theorem qw868 : Cond.code yX10_next cX10_next 2 (some .int) ∈ wA := List.mem_filter.mpr ⟨zt4 (List.mem_of_getElem? (i := 51) rfl), (by decide +kernel)⟩
set_option maxRecDepth 20000 in
theorem qw880 : Cond.methodLink RL 141 yX10_apart ∈ wA := List.mem_filter.mpr ⟨zt4 (List.mem_of_getElem? (i := 63) rfl), (by decide +kernel)⟩
set_option maxRecDepth 20000 in
theorem qw881 : Cond.instanceMethod yX10_apart ∈ wA := List.mem_filter.mpr ⟨zt4 (List.mem_of_getElem? (i := 64) rfl), (by decide +kernel)⟩
set_option maxRecDepth 20000 in
theorem qw882 : Cond.selects RX10 yX10_apart yX10_apart ∈ wA := List.mem_filter.mpr ⟨zt4 (List.mem_of_getElem? (i := 65) rfl), (by decide +kernel)⟩
set_option maxRecDepth 20000 in
theorem qw883 : Cond.code yX10_apart cX10_apart 2 (some .int) ∈ wA := List.mem_filter.mpr ⟨zt4 (List.mem_of_getElem? (i := 66) rfl), (by decide +kernel)⟩
set_option maxRecDepth 20000 in
theorem qw902 : Cond.methodLink RL 145 yX10_worth ∈ wA := List.mem_filter.mpr ⟨zt4 (List.mem_of_getElem? (i := 85) rfl), (by decide +kernel)⟩
set_option maxRecDepth 20000 in
theorem qw903 : Cond.instanceMethod yX10_worth ∈ wA := List.mem_filter.mpr ⟨zt4 (List.mem_of_getElem? (i := 86) rfl), (by decide +kernel)⟩
set_option maxRecDepth 20000 in
theorem qw904 : Cond.selects RX10 yX10_worth yX10_worth ∈ wA := List.mem_filter.mpr ⟨zt4 (List.mem_of_getElem? (i := 87) rfl), (by decide +kernel)⟩
set_option maxRecDepth 20000 in
theorem qw905 : Cond.code yX10_worth cX10_worth 3 (some .int) ∈ wA := List.mem_filter.mpr ⟨zt4 (List.mem_of_getElem? (i := 88) rfl), (by decide +kernel)⟩
set_option maxRecDepth 20000 in
theorem qw913 : Cond.methodLink RL 149 yX10_chooses ∈ wA := List.mem_filter.mpr ⟨zt4 (List.mem_of_getElem? (i := 96) rfl), (by decide +kernel)⟩
set_option maxRecDepth 20000 in
theorem qw914 : Cond.instanceMethod yX10_chooses ∈ wA := List.mem_filter.mpr ⟨zt4 (List.mem_of_getElem? (i := 97) rfl), (by decide +kernel)⟩
set_option maxRecDepth 20000 in
theorem qw915 : Cond.selects RX10 yX10_chooses yX10_chooses ∈ wA := List.mem_filter.mpr ⟨zt4 (List.mem_of_getElem? (i := 98) rfl), (by decide +kernel)⟩
set_option maxRecDepth 20000 in
theorem qw916 : Cond.code yX10_chooses cX10_chooses 2 (some .int) ∈ wA := List.mem_filter.mpr ⟨zt4 (List.mem_of_getElem? (i := 99) rfl), (by decide +kernel)⟩
set_option maxRecDepth 20000 in
theorem qw927 : Cond.methodLink RL 153 yX10_game ∈ wA := List.mem_filter.mpr ⟨zt4 (List.mem_of_getElem? (i := 110) rfl), (by decide +kernel)⟩
set_option maxRecDepth 20000 in
theorem qw928 : Cond.instanceMethod yX10_game ∈ wA := List.mem_filter.mpr ⟨zt4 (List.mem_of_getElem? (i := 111) rfl), (by decide +kernel)⟩
set_option maxRecDepth 20000 in
theorem qw929 : Cond.selects RX10 yX10_game yX10_game ∈ wA := List.mem_filter.mpr ⟨zt4 (List.mem_of_getElem? (i := 112) rfl), (by decide +kernel)⟩
set_option maxRecDepth 20000 in
theorem qw930 : Cond.code yX10_game cX10_game 9 (some .int) ∈ wA := List.mem_filter.mpr ⟨zt4 (List.mem_of_getElem? (i := 113) rfl), (by decide +kernel)⟩
set_option maxRecDepth 20000 in
theorem qw940 : Cond.methodLink RL 158 yX10_rests ∈ wA := List.mem_filter.mpr ⟨zt4 (List.mem_of_getElem? (i := 123) rfl), (by decide +kernel)⟩
set_option maxRecDepth 20000 in
theorem qw941 : Cond.instanceMethod yX10_rests ∈ wA := List.mem_filter.mpr ⟨zt4 (List.mem_of_getElem? (i := 124) rfl), (by decide +kernel)⟩
set_option maxRecDepth 20000 in
theorem qw942 : Cond.selects RX10 yX10_rests yX10_rests ∈ wA := List.mem_filter.mpr ⟨zt4 (List.mem_of_getElem? (i := 125) rfl), (by decide +kernel)⟩
set_option maxRecDepth 20000 in
theorem qw943 : Cond.code yX10_rests cX10_rests 8 (some .int) ∈ wA := List.mem_filter.mpr ⟨zt4 (List.mem_of_getElem? (i := 126) rfl), (by decide +kernel)⟩
set_option maxRecDepth 20000 in
theorem qw952 : Cond.methodLink RL 163 yX10_truth ∈ wA := List.mem_filter.mpr ⟨zt4 (List.mem_of_getElem? (i := 135) rfl), (by decide +kernel)⟩
set_option maxRecDepth 20000 in
theorem qw953 : Cond.instanceMethod yX10_truth ∈ wA := List.mem_filter.mpr ⟨zt4 (List.mem_of_getElem? (i := 136) rfl), (by decide +kernel)⟩
set_option maxRecDepth 20000 in
theorem qw954 : Cond.selects RX10 yX10_truth yX10_truth ∈ wA := List.mem_filter.mpr ⟨zt4 (List.mem_of_getElem? (i := 137) rfl), (by decide +kernel)⟩
set_option maxRecDepth 20000 in
theorem qw955 : Cond.code yX10_truth cX10_truth 5 (some .int) ∈ wA := List.mem_filter.mpr ⟨zt4 (List.mem_of_getElem? (i := 138) rfl), (by decide +kernel)⟩
set_option maxRecDepth 20000 in
theorem qw956 : Cond.methodLink RL 167 yX10_cheapest ∈ wA := List.mem_filter.mpr ⟨zt4 (List.mem_of_getElem? (i := 139) rfl), (by decide +kernel)⟩
set_option maxRecDepth 20000 in
theorem qw957 : Cond.instanceMethod yX10_cheapest ∈ wA := List.mem_filter.mpr ⟨zt4 (List.mem_of_getElem? (i := 140) rfl), (by decide +kernel)⟩
set_option maxRecDepth 20000 in
theorem qw958 : Cond.selects RX10 yX10_cheapest yX10_cheapest ∈ wA := List.mem_filter.mpr ⟨zt4 (List.mem_of_getElem? (i := 141) rfl), (by decide +kernel)⟩
set_option maxRecDepth 20000 in
theorem qw959 : Cond.code yX10_cheapest cX10_cheapest 7 (some .int) ∈ wA := List.mem_filter.mpr ⟨zt4 (List.mem_of_getElem? (i := 142) rfl), (by decide +kernel)⟩
set_option maxRecDepth 20000 in
theorem qw966 : Cond.methodLink RL 171 yX10_looks ∈ wA := List.mem_filter.mpr ⟨zt4 (List.mem_of_getElem? (i := 149) rfl), (by decide +kernel)⟩
set_option maxRecDepth 20000 in
theorem qw967 : Cond.instanceMethod yX10_looks ∈ wA := List.mem_filter.mpr ⟨zt4 (List.mem_of_getElem? (i := 150) rfl), (by decide +kernel)⟩
set_option maxRecDepth 20000 in
theorem qw968 : Cond.selects RX10 yX10_looks yX10_looks ∈ wA := List.mem_filter.mpr ⟨zt4 (List.mem_of_getElem? (i := 151) rfl), (by decide +kernel)⟩
set_option maxRecDepth 20000 in
theorem qw969 : Cond.code yX10_looks cX10_looks 2 (some .int) ∈ wA := List.mem_filter.mpr ⟨zt4 (List.mem_of_getElem? (i := 152) rfl), (by decide +kernel)⟩
set_option maxRecDepth 20000 in
theorem qw970 : Cond.methodLink RL 175 yX10_whose ∈ wA := List.mem_filter.mpr ⟨zt4 (List.mem_of_getElem? (i := 153) rfl), (by decide +kernel)⟩
set_option maxRecDepth 20000 in
theorem qw971 : Cond.instanceMethod yX10_whose ∈ wA := List.mem_filter.mpr ⟨zt4 (List.mem_of_getElem? (i := 154) rfl), (by decide +kernel)⟩
set_option maxRecDepth 20000 in
theorem qw972 : Cond.selects RX10 yX10_whose yX10_whose ∈ wA := List.mem_filter.mpr ⟨zt4 (List.mem_of_getElem? (i := 155) rfl), (by decide +kernel)⟩
set_option maxRecDepth 20000 in
theorem qw973 : Cond.code yX10_whose cX10_whose 5 (some .int) ∈ wA := List.mem_filter.mpr ⟨zt4 (List.mem_of_getElem? (i := 156) rfl), (by decide +kernel)⟩
set_option maxRecDepth 20000 in
theorem qw974 : Cond.methodLink RL 179 yX10_heads ∈ wA := List.mem_filter.mpr ⟨zt4 (List.mem_of_getElem? (i := 157) rfl), (by decide +kernel)⟩
set_option maxRecDepth 20000 in
theorem qw975 : Cond.instanceMethod yX10_heads ∈ wA := List.mem_filter.mpr ⟨zt4 (List.mem_of_getElem? (i := 158) rfl), (by decide +kernel)⟩
set_option maxRecDepth 20000 in
theorem qw976 : Cond.selects RX10 yX10_heads yX10_heads ∈ wA := List.mem_filter.mpr ⟨zt4 (List.mem_of_getElem? (i := 159) rfl), (by decide +kernel)⟩
set_option maxRecDepth 20000 in
theorem qw977 : Cond.code yX10_heads cX10_heads 8 (some .int) ∈ wA := List.mem_filter.mpr ⟨zt4 (List.mem_of_getElem? (i := 160) rfl), (by decide +kernel)⟩
set_option maxRecDepth 20000 in
theorem qw980 : Cond.methodLink RL 183 yX10_matched ∈ wA := List.mem_filter.mpr ⟨zt4 (List.mem_of_getElem? (i := 163) rfl), (by decide +kernel)⟩
set_option maxRecDepth 20000 in
theorem qw981 : Cond.instanceMethod yX10_matched ∈ wA := List.mem_filter.mpr ⟨zt4 (List.mem_of_getElem? (i := 164) rfl), (by decide +kernel)⟩
set_option maxRecDepth 20000 in
theorem qw982 : Cond.selects RX10 yX10_matched yX10_matched ∈ wA := List.mem_filter.mpr ⟨zt4 (List.mem_of_getElem? (i := 165) rfl), (by decide +kernel)⟩
set_option maxRecDepth 20000 in
theorem qw983 : Cond.code yX10_matched cX10_matched 4 (some .int) ∈ wA := List.mem_filter.mpr ⟨zt4 (List.mem_of_getElem? (i := 166) rfl), (by decide +kernel)⟩
set_option maxRecDepth 20000 in
theorem qw988 : Cond.methodLink RL 187 yX10_most ∈ wA := List.mem_filter.mpr ⟨zt4 (List.mem_of_getElem? (i := 171) rfl), (by decide +kernel)⟩
set_option maxRecDepth 20000 in
theorem qw989 : Cond.instanceMethod yX10_most ∈ wA := List.mem_filter.mpr ⟨zt4 (List.mem_of_getElem? (i := 172) rfl), (by decide +kernel)⟩
set_option maxRecDepth 20000 in
theorem qw990 : Cond.selects RX10 yX10_most yX10_most ∈ wA := List.mem_filter.mpr ⟨zt4 (List.mem_of_getElem? (i := 173) rfl), (by decide +kernel)⟩
set_option maxRecDepth 20000 in
theorem qw991 : Cond.code yX10_most cX10_most 2 (some .int) ∈ wA := List.mem_filter.mpr ⟨zt4 (List.mem_of_getElem? (i := 174) rfl), (by decide +kernel)⟩
set_option maxRecDepth 20000 in
theorem qw1013 : Cond.methodLink RL 191 yX10_seen ∈ wA := List.mem_filter.mpr ⟨zt4 (List.mem_of_getElem? (i := 196) rfl), (by decide +kernel)⟩
set_option maxRecDepth 20000 in
theorem qw1014 : Cond.instanceMethod yX10_seen ∈ wA := List.mem_filter.mpr ⟨zt4 (List.mem_of_getElem? (i := 197) rfl), (by decide +kernel)⟩
set_option maxRecDepth 20000 in
theorem qw1015 : Cond.selects RX10 yX10_seen yX10_seen ∈ wA := List.mem_filter.mpr ⟨zt4 (List.mem_of_getElem? (i := 198) rfl), (by decide +kernel)⟩
set_option maxRecDepth 20000 in
theorem qw1016 : Cond.code yX10_seen cX10_seen 2 (some .int) ∈ wA := List.mem_filter.mpr ⟨zt4 (List.mem_of_getElem? (i := 199) rfl), (by decide +kernel)⟩
set_option maxRecDepth 20000 in
theorem qw1017 : Cond.methodLink RL 195 yX10_saves ∈ wA := List.mem_filter.mpr ⟨zt4 (List.mem_of_getElem? (i := 200) rfl), (by decide +kernel)⟩
set_option maxRecDepth 20000 in
theorem qw1018 : Cond.instanceMethod yX10_saves ∈ wA := List.mem_filter.mpr ⟨zt4 (List.mem_of_getElem? (i := 201) rfl), (by decide +kernel)⟩
set_option maxRecDepth 20000 in
theorem qw1019 : Cond.selects RX10 yX10_saves yX10_saves ∈ wA := List.mem_filter.mpr ⟨zt4 (List.mem_of_getElem? (i := 202) rfl), (by decide +kernel)⟩
set_option maxRecDepth 20000 in
theorem qw1020 : Cond.code yX10_saves cX10_saves 2 (some .int) ∈ wA := List.mem_filter.mpr ⟨zt4 (List.mem_of_getElem? (i := 203) rfl), (by decide +kernel)⟩
set_option maxRecDepth 20000 in
theorem qw1022 : Cond.methodLink RL 199 yX10_rivals ∈ wA := List.mem_filter.mpr ⟨zt4 (List.mem_of_getElem? (i := 205) rfl), (by decide +kernel)⟩
set_option maxRecDepth 20000 in
theorem qw1023 : Cond.instanceMethod yX10_rivals ∈ wA := List.mem_filter.mpr ⟨zt4 (List.mem_of_getElem? (i := 206) rfl), (by decide +kernel)⟩
set_option maxRecDepth 20000 in
theorem qw1024 : Cond.selects RX10 yX10_rivals yX10_rivals ∈ wA := List.mem_filter.mpr ⟨zt4 (List.mem_of_getElem? (i := 207) rfl), (by decide +kernel)⟩
set_option maxRecDepth 20000 in
theorem qw1025 : Cond.code yX10_rivals cX10_rivals 4 (some .int) ∈ wA := List.mem_filter.mpr ⟨zt4 (List.mem_of_getElem? (i := 208) rfl), (by decide +kernel)⟩
set_option maxRecDepth 20000 in
theorem qw1026 : Cond.methodLink RL 203 yX10_affords ∈ wA := List.mem_filter.mpr ⟨zt4 (List.mem_of_getElem? (i := 209) rfl), (by decide +kernel)⟩
set_option maxRecDepth 20000 in
theorem qw1027 : Cond.instanceMethod yX10_affords ∈ wA := List.mem_filter.mpr ⟨zt4 (List.mem_of_getElem? (i := 210) rfl), (by decide +kernel)⟩
set_option maxRecDepth 20000 in
theorem qw1028 : Cond.selects RX10 yX10_affords yX10_affords ∈ wA := List.mem_filter.mpr ⟨zt4 (List.mem_of_getElem? (i := 211) rfl), (by decide +kernel)⟩
set_option maxRecDepth 20000 in
theorem qw1029 : Cond.code yX10_affords cX10_affords 4 (some .int) ∈ wA := List.mem_filter.mpr ⟨zt4 (List.mem_of_getElem? (i := 212) rfl), (by decide +kernel)⟩
set_option maxRecDepth 20000 in
theorem qw1030 : Cond.methodLink RL 207 yX10_told ∈ wA := List.mem_filter.mpr ⟨zt4 (List.mem_of_getElem? (i := 213) rfl), (by decide +kernel)⟩
set_option maxRecDepth 20000 in
theorem qw1031 : Cond.instanceMethod yX10_told ∈ wA := List.mem_filter.mpr ⟨zt4 (List.mem_of_getElem? (i := 214) rfl), (by decide +kernel)⟩
set_option maxRecDepth 20000 in
theorem qw1032 : Cond.selects RX10 yX10_told yX10_told ∈ wA := List.mem_filter.mpr ⟨zt4 (List.mem_of_getElem? (i := 215) rfl), (by decide +kernel)⟩
set_option maxRecDepth 20000 in
theorem qw1033 : Cond.code yX10_told cX10_told 4 (some .int) ∈ wA := List.mem_filter.mpr ⟨zt4 (List.mem_of_getElem? (i := 216) rfl), (by decide +kernel)⟩
set_option maxRecDepth 20000 in
theorem qw1035 : Cond.methodLink RL 211 yX10_image ∈ wA := List.mem_filter.mpr ⟨zt4 (List.mem_of_getElem? (i := 218) rfl), (by decide +kernel)⟩
set_option maxRecDepth 20000 in
theorem qw1036 : Cond.instanceMethod yX10_image ∈ wA := List.mem_filter.mpr ⟨zt4 (List.mem_of_getElem? (i := 219) rfl), (by decide +kernel)⟩
set_option maxRecDepth 20000 in
theorem qw1037 : Cond.selects RX10 yX10_image yX10_image ∈ wA := List.mem_filter.mpr ⟨zt4 (List.mem_of_getElem? (i := 220) rfl), (by decide +kernel)⟩
set_option maxRecDepth 20000 in
theorem qw1038 : Cond.code yX10_image cX10_image 1 (some .int) ∈ wA := List.mem_filter.mpr ⟨zt4 (List.mem_of_getElem? (i := 221) rfl), (by decide +kernel)⟩
set_option maxRecDepth 20000 in
theorem qw1043 : Cond.methodLink RL 215 yX10_back ∈ wA := List.mem_filter.mpr ⟨zt4 (List.mem_of_getElem? (i := 226) rfl), (by decide +kernel)⟩
set_option maxRecDepth 20000 in
theorem qw1044 : Cond.instanceMethod yX10_back ∈ wA := List.mem_filter.mpr ⟨zt4 (List.mem_of_getElem? (i := 227) rfl), (by decide +kernel)⟩
set_option maxRecDepth 20000 in
theorem qw1045 : Cond.selects RX10 yX10_back yX10_back ∈ wA := List.mem_filter.mpr ⟨zt4 (List.mem_of_getElem? (i := 228) rfl), (by decide +kernel)⟩
set_option maxRecDepth 20000 in
theorem qw1046 : Cond.code yX10_back cX10_back 1 (some .int) ∈ wA := List.mem_filter.mpr ⟨zt4 (List.mem_of_getElem? (i := 229) rfl), (by decide +kernel)⟩
set_option maxRecDepth 20000 in
theorem qw1047 : Cond.methodLink RL 219 yX10_count ∈ wA := List.mem_filter.mpr ⟨zt4 (List.mem_of_getElem? (i := 230) rfl), (by decide +kernel)⟩
set_option maxRecDepth 20000 in
theorem qw1048 : Cond.instanceMethod yX10_count ∈ wA := List.mem_filter.mpr ⟨zt4 (List.mem_of_getElem? (i := 231) rfl), (by decide +kernel)⟩
set_option maxRecDepth 20000 in
theorem qw1049 : Cond.selects RX10 yX10_count yX10_count ∈ wA := List.mem_filter.mpr ⟨zt4 (List.mem_of_getElem? (i := 232) rfl), (by decide +kernel)⟩
set_option maxRecDepth 20000 in
theorem qw1050 : Cond.code yX10_count cX10_count 2 (some .int) ∈ wA := List.mem_filter.mpr ⟨zt4 (List.mem_of_getElem? (i := 233) rfl), (by decide +kernel)⟩
set_option maxRecDepth 20000 in
theorem qw1051 : Cond.methodLink RL 42 yL_bride ∈ wA := List.mem_filter.mpr ⟨zt4 (List.mem_of_getElem? (i := 234) rfl), (by decide +kernel)⟩
set_option maxRecDepth 20000 in
theorem qw1052 : Cond.static yL_bride ∈ wA := List.mem_filter.mpr ⟨zt4 (List.mem_of_getElem? (i := 235) rfl), (by decide +kernel)⟩
set_option maxRecDepth 20000 in
theorem qw1053 : Cond.codeWith yL_bride cL_bride 5 (some .int) [(0, 10, 13, 13)] ∈ wA := List.mem_filter.mpr ⟨zt4 (List.mem_of_getElem? (i := 236) rfl), (by decide +kernel)⟩
set_option maxRecDepth 20000 in
theorem qw1251 : Cond.methodLink RL 23 yX11_feed ∈ wA := List.mem_filter.mpr ⟨zt5 (List.mem_of_getElem? (i := 194) rfl), (by decide +kernel)⟩
set_option maxRecDepth 20000 in
theorem qw1252 : Cond.instanceMethod yX11_feed ∈ wA := List.mem_filter.mpr ⟨zt5 (List.mem_of_getElem? (i := 195) rfl), (by decide +kernel)⟩
set_option maxRecDepth 20000 in
theorem qw1253 : Cond.selects RX11 yX11_feed yX11_feed ∈ wA := List.mem_filter.mpr ⟨zt5 (List.mem_of_getElem? (i := 196) rfl), (by decide +kernel)⟩
set_option maxRecDepth 20000 in
theorem qw1254 : Cond.code yX11_feed cX11_feed 9 (some .int) ∈ wA := List.mem_filter.mpr ⟨zt5 (List.mem_of_getElem? (i := 197) rfl), (by decide +kernel)⟩
set_option maxRecDepth 20000 in
theorem qw1258 : Cond.methodLink RL 28 yX11_end ∈ wA := List.mem_filter.mpr ⟨zt5 (List.mem_of_getElem? (i := 201) rfl), (by decide +kernel)⟩
set_option maxRecDepth 20000 in
theorem qw1259 : Cond.instanceMethod yX11_end ∈ wA := List.mem_filter.mpr ⟨zt5 (List.mem_of_getElem? (i := 202) rfl), (by decide +kernel)⟩
set_option maxRecDepth 20000 in
theorem qw1260 : Cond.selects RX11 yX11_end yX11_end ∈ wA := List.mem_filter.mpr ⟨zt5 (List.mem_of_getElem? (i := 203) rfl), (by decide +kernel)⟩
set_option maxRecDepth 20000 in
theorem qw1261 : Cond.code yX11_end cX11_end 2 (some .boolean) ∈ wA := List.mem_filter.mpr ⟨zt5 (List.mem_of_getElem? (i := 204) rfl), (by decide +kernel)⟩
set_option maxRecDepth 20000 in
theorem qw1262 : Cond.methodLink RL 33 yX11_fault ∈ wA := List.mem_filter.mpr ⟨zt5 (List.mem_of_getElem? (i := 205) rfl), (by decide +kernel)⟩
set_option maxRecDepth 20000 in
theorem qw1263 : Cond.instanceMethod yX11_fault ∈ wA := List.mem_filter.mpr ⟨zt5 (List.mem_of_getElem? (i := 206) rfl), (by decide +kernel)⟩
set_option maxRecDepth 20000 in
theorem qw1264 : Cond.selects RX11 yX11_fault yX11_fault ∈ wA := List.mem_filter.mpr ⟨zt5 (List.mem_of_getElem? (i := 207) rfl), (by decide +kernel)⟩
set_option maxRecDepth 20000 in
theorem qw1265 : Cond.code yX11_fault cX11_fault 2 (some .int) ∈ wA := List.mem_filter.mpr ⟨zt5 (List.mem_of_getElem? (i := 208) rfl), (by decide +kernel)⟩
set_option maxRecDepth 20000 in
theorem qw1378 : Cond.methodLink RL 37 yX11_text ∈ wA := List.mem_filter.mpr ⟨zt6 (List.mem_of_getElem? (i := 81) rfl), (by decide +kernel)⟩
set_option maxRecDepth 20000 in
theorem qw1379 : Cond.instanceMethod yX11_text ∈ wA := List.mem_filter.mpr ⟨zt6 (List.mem_of_getElem? (i := 82) rfl), (by decide +kernel)⟩
set_option maxRecDepth 20000 in
theorem qw1380 : Cond.selects RX11 yX11_text yX11_text ∈ wA := List.mem_filter.mpr ⟨zt6 (List.mem_of_getElem? (i := 83) rfl), (by decide +kernel)⟩
set_option maxRecDepth 20000 in
theorem qw1381 : Cond.code yX11_text cX11_text 2 (some .int) ∈ wA := List.mem_filter.mpr ⟨zt6 (List.mem_of_getElem? (i := 84) rfl), (by decide +kernel)⟩
set_option maxRecDepth 20000 in
theorem qw1394 : Cond.methodLink RL 41 yX11_rule ∈ wA := List.mem_filter.mpr ⟨zt6 (List.mem_of_getElem? (i := 97) rfl), (by decide +kernel)⟩
set_option maxRecDepth 20000 in
theorem qw1395 : Cond.instanceMethod yX11_rule ∈ wA := List.mem_filter.mpr ⟨zt6 (List.mem_of_getElem? (i := 98) rfl), (by decide +kernel)⟩
set_option maxRecDepth 20000 in
theorem qw1396 : Cond.selects RX11 yX11_rule yX11_rule ∈ wA := List.mem_filter.mpr ⟨zt6 (List.mem_of_getElem? (i := 99) rfl), (by decide +kernel)⟩
set_option maxRecDepth 20000 in
theorem qw1397 : Cond.code yX11_rule cX11_rule 2 (some .int) ∈ wA := List.mem_filter.mpr ⟨zt6 (List.mem_of_getElem? (i := 100) rfl), (by decide +kernel)⟩
set_option maxRecDepth 20000 in
theorem qw1398 : Cond.methodLink RL 47 yX11_bride ∈ wA := List.mem_filter.mpr ⟨zt6 (List.mem_of_getElem? (i := 101) rfl), (by decide +kernel)⟩
set_option maxRecDepth 20000 in
theorem qw1399 : Cond.instanceMethod yX11_bride ∈ wA := List.mem_filter.mpr ⟨zt6 (List.mem_of_getElem? (i := 102) rfl), (by decide +kernel)⟩
set_option maxRecDepth 20000 in
theorem qw1400 : Cond.selects RX11 yX11_bride yX11_bride ∈ wA := List.mem_filter.mpr ⟨zt6 (List.mem_of_getElem? (i := 103) rfl), (by decide +kernel)⟩
set_option maxRecDepth 20000 in
theorem qw1401 : Cond.code yX11_bride cX11_bride 3 (some .int) ∈ wA := List.mem_filter.mpr ⟨zt6 (List.mem_of_getElem? (i := 104) rfl), (by decide +kernel)⟩
set_option maxRecDepth 20000 in
theorem qw1406 : Cond.methodLink RL 51 yX11_painter ∈ wA := List.mem_filter.mpr ⟨zt6 (List.mem_of_getElem? (i := 109) rfl), (by decide +kernel)⟩
set_option maxRecDepth 20000 in
theorem qw1407 : Cond.instanceMethod yX11_painter ∈ wA := List.mem_filter.mpr ⟨zt6 (List.mem_of_getElem? (i := 110) rfl), (by decide +kernel)⟩
set_option maxRecDepth 20000 in
theorem qw1408 : Cond.selects RX11 yX11_painter yX11_painter ∈ wA := List.mem_filter.mpr ⟨zt6 (List.mem_of_getElem? (i := 111) rfl), (by decide +kernel)⟩
set_option maxRecDepth 20000 in
theorem qw1409 : Cond.code yX11_painter cX11_painter 3 (some .int) ∈ wA := List.mem_filter.mpr ⟨zt6 (List.mem_of_getElem? (i := 112) rfl), (by decide +kernel)⟩
set_option maxRecDepth 20000 in
theorem qw1414 : Cond.methodLink RL 55 yX11_law ∈ wA := List.mem_filter.mpr ⟨zt6 (List.mem_of_getElem? (i := 117) rfl), (by decide +kernel)⟩
set_option maxRecDepth 20000 in
theorem qw1415 : Cond.instanceMethod yX11_law ∈ wA := List.mem_filter.mpr ⟨zt6 (List.mem_of_getElem? (i := 118) rfl), (by decide +kernel)⟩
set_option maxRecDepth 20000 in
theorem qw1416 : Cond.selects RX11 yX11_law yX11_law ∈ wA := List.mem_filter.mpr ⟨zt6 (List.mem_of_getElem? (i := 119) rfl), (by decide +kernel)⟩
set_option maxRecDepth 20000 in
theorem qw1417 : Cond.code yX11_law cX11_law 2 (some .boolean) ∈ wA := List.mem_filter.mpr ⟨zt6 (List.mem_of_getElem? (i := 120) rfl), (by decide +kernel)⟩
set_option maxRecDepth 20000 in
theorem qw1418 : Cond.methodLink RL 59 yX11_flattery ∈ wA := List.mem_filter.mpr ⟨zt6 (List.mem_of_getElem? (i := 121) rfl), (by decide +kernel)⟩
set_option maxRecDepth 20000 in
theorem qw1419 : Cond.instanceMethod yX11_flattery ∈ wA := List.mem_filter.mpr ⟨zt6 (List.mem_of_getElem? (i := 122) rfl), (by decide +kernel)⟩
set_option maxRecDepth 20000 in
theorem qw1420 : Cond.selects RX11 yX11_flattery yX11_flattery ∈ wA := List.mem_filter.mpr ⟨zt6 (List.mem_of_getElem? (i := 123) rfl), (by decide +kernel)⟩
set_option maxRecDepth 20000 in
theorem qw1421 : Cond.code yX11_flattery cX11_flattery 3 (some .int) ∈ wA := List.mem_filter.mpr ⟨zt6 (List.mem_of_getElem? (i := 124) rfl), (by decide +kernel)⟩
set_option maxRecDepth 20000 in
theorem qw1431 : Cond.methodLink RL 64 yX11_shown ∈ wA := List.mem_filter.mpr ⟨zt6 (List.mem_of_getElem? (i := 134) rfl), (by decide +kernel)⟩
set_option maxRecDepth 20000 in
theorem qw1432 : Cond.instanceMethod yX11_shown ∈ wA := List.mem_filter.mpr ⟨zt6 (List.mem_of_getElem? (i := 135) rfl), (by decide +kernel)⟩
set_option maxRecDepth 20000 in
theorem qw1433 : Cond.selects RX11 yX11_shown yX11_shown ∈ wA := List.mem_filter.mpr ⟨zt6 (List.mem_of_getElem? (i := 136) rfl), (by decide +kernel)⟩
set_option maxRecDepth 20000 in
theorem qw1434 : Cond.code yX11_shown cX11_shown 4 (some .int) ∈ wA := List.mem_filter.mpr ⟨zt6 (List.mem_of_getElem? (i := 137) rfl), (by decide +kernel)⟩
set_option maxRecDepth 20000 in
theorem qw1477 : Cond.methodLink RL 68 yX11_paint ∈ wA := List.mem_filter.mpr ⟨zt6 (List.mem_of_getElem? (i := 180) rfl), (by decide +kernel)⟩
set_option maxRecDepth 20000 in
theorem qw1478 : Cond.instanceMethod yX11_paint ∈ wA := List.mem_filter.mpr ⟨zt6 (List.mem_of_getElem? (i := 181) rfl), (by decide +kernel)⟩
set_option maxRecDepth 20000 in
theorem qw1479 : Cond.selects RX11 yX11_paint yX11_paint ∈ wA := List.mem_filter.mpr ⟨zt6 (List.mem_of_getElem? (i := 182) rfl), (by decide +kernel)⟩
set_option maxRecDepth 20000 in
theorem qw1480 : Cond.code yX11_paint cX11_paint 3 (some .int) ∈ wA := List.mem_filter.mpr ⟨zt6 (List.mem_of_getElem? (i := 183) rfl), (by decide +kernel)⟩
set_option maxRecDepth 20000 in
theorem qw1493 : Cond.methodLink RL 72 yX11_pay ∈ wA := List.mem_filter.mpr ⟨zt6 (List.mem_of_getElem? (i := 196) rfl), (by decide +kernel)⟩
set_option maxRecDepth 20000 in
theorem qw1494 : Cond.instanceMethod yX11_pay ∈ wA := List.mem_filter.mpr ⟨zt6 (List.mem_of_getElem? (i := 197) rfl), (by decide +kernel)⟩
set_option maxRecDepth 20000 in
theorem qw1495 : Cond.selects RX11 yX11_pay yX11_pay ∈ wA := List.mem_filter.mpr ⟨zt6 (List.mem_of_getElem? (i := 198) rfl), (by decide +kernel)⟩
set_option maxRecDepth 20000 in
theorem qw1496 : Cond.code yX11_pay cX11_pay 3 (some .int) ∈ wA := List.mem_filter.mpr ⟨zt6 (List.mem_of_getElem? (i := 199) rfl), (by decide +kernel)⟩
set_option maxRecDepth 20000 in
theorem qw1497 : Cond.methodLink RL 76 yX11_threaten ∈ wA := List.mem_filter.mpr ⟨zt6 (List.mem_of_getElem? (i := 200) rfl), (by decide +kernel)⟩
set_option maxRecDepth 20000 in
theorem qw1498 : Cond.instanceMethod yX11_threaten ∈ wA := List.mem_filter.mpr ⟨zt6 (List.mem_of_getElem? (i := 201) rfl), (by decide +kernel)⟩
set_option maxRecDepth 20000 in
theorem qw1499 : Cond.selects RX11 yX11_threaten yX11_threaten ∈ wA := List.mem_filter.mpr ⟨zt6 (List.mem_of_getElem? (i := 202) rfl), (by decide +kernel)⟩
set_option maxRecDepth 20000 in
theorem qw1500 : Cond.code yX11_threaten cX11_threaten 2 (some .int) ∈ wA := List.mem_filter.mpr ⟨zt6 (List.mem_of_getElem? (i := 203) rfl), (by decide +kernel)⟩
set_option maxRecDepth 20000 in
theorem qw1501 : Cond.methodLink RL 80 yX11_letter ∈ wA := List.mem_filter.mpr ⟨zt6 (List.mem_of_getElem? (i := 204) rfl), (by decide +kernel)⟩
set_option maxRecDepth 20000 in
theorem qw1502 : Cond.instanceMethod yX11_letter ∈ wA := List.mem_filter.mpr ⟨zt6 (List.mem_of_getElem? (i := 205) rfl), (by decide +kernel)⟩
set_option maxRecDepth 20000 in
theorem qw1503 : Cond.selects RX11 yX11_letter yX11_letter ∈ wA := List.mem_filter.mpr ⟨zt6 (List.mem_of_getElem? (i := 206) rfl), (by decide +kernel)⟩
set_option maxRecDepth 20000 in
theorem qw1504 : Cond.code yX11_letter cX11_letter 2 (some .int) ∈ wA := List.mem_filter.mpr ⟨zt6 (List.mem_of_getElem? (i := 207) rfl), (by decide +kernel)⟩
set_option maxRecDepth 20000 in
theorem qw1509 : Cond.methodLink RL 84 yX11_shoe ∈ wA := List.mem_filter.mpr ⟨zt6 (List.mem_of_getElem? (i := 212) rfl), (by decide +kernel)⟩
set_option maxRecDepth 20000 in
theorem qw1510 : Cond.instanceMethod yX11_shoe ∈ wA := List.mem_filter.mpr ⟨zt6 (List.mem_of_getElem? (i := 213) rfl), (by decide +kernel)⟩
set_option maxRecDepth 20000 in
theorem qw1511 : Cond.selects RX11 yX11_shoe yX11_shoe ∈ wA := List.mem_filter.mpr ⟨zt6 (List.mem_of_getElem? (i := 214) rfl), (by decide +kernel)⟩
set_option maxRecDepth 20000 in
theorem qw1512 : Cond.code yX11_shoe cX11_shoe 2 (some .int) ∈ wA := List.mem_filter.mpr ⟨zt6 (List.mem_of_getElem? (i := 215) rfl), (by decide +kernel)⟩
set_option maxRecDepth 20000 in
theorem qw1513 : Cond.methodLink RL 88 yX11_wed ∈ wA := List.mem_filter.mpr ⟨zt6 (List.mem_of_getElem? (i := 216) rfl), (by decide +kernel)⟩
set_option maxRecDepth 20000 in
theorem qw1514 : Cond.instanceMethod yX11_wed ∈ wA := List.mem_filter.mpr ⟨zt6 (List.mem_of_getElem? (i := 217) rfl), (by decide +kernel)⟩
set_option maxRecDepth 20000 in
theorem qw1515 : Cond.selects RX11 yX11_wed yX11_wed ∈ wA := List.mem_filter.mpr ⟨zt6 (List.mem_of_getElem? (i := 218) rfl), (by decide +kernel)⟩
set_option maxRecDepth 20000 in
theorem qw1516 : Cond.code yX11_wed cX11_wed 2 (some .int) ∈ wA := List.mem_filter.mpr ⟨zt6 (List.mem_of_getElem? (i := 219) rfl), (by decide +kernel)⟩
set_option maxRecDepth 20000 in
theorem qw1517 : Cond.methodLink RL 93 yX11_annul ∈ wA := List.mem_filter.mpr ⟨zt6 (List.mem_of_getElem? (i := 220) rfl), (by decide +kernel)⟩
set_option maxRecDepth 20000 in
theorem qw1518 : Cond.instanceMethod yX11_annul ∈ wA := List.mem_filter.mpr ⟨zt6 (List.mem_of_getElem? (i := 221) rfl), (by decide +kernel)⟩
set_option maxRecDepth 20000 in
theorem qw1519 : Cond.selects RX11 yX11_annul yX11_annul ∈ wA := List.mem_filter.mpr ⟨zt6 (List.mem_of_getElem? (i := 222) rfl), (by decide +kernel)⟩
set_option maxRecDepth 20000 in
theorem qw1520 : Cond.code yX11_annul cX11_annul 2 (some .int) ∈ wA := List.mem_filter.mpr ⟨zt6 (List.mem_of_getElem? (i := 223) rfl), (by decide +kernel)⟩
set_option maxRecDepth 20000 in
theorem qw1529 : Cond.methodLink RL 97 yX11_months ∈ wA := List.mem_filter.mpr ⟨zt6 (List.mem_of_getElem? (i := 232) rfl), (by decide +kernel)⟩
set_option maxRecDepth 20000 in
theorem qw1530 : Cond.instanceMethod yX11_months ∈ wA := List.mem_filter.mpr ⟨zt6 (List.mem_of_getElem? (i := 233) rfl), (by decide +kernel)⟩
set_option maxRecDepth 20000 in
theorem qw1531 : Cond.selects RX11 yX11_months yX11_months ∈ wA := List.mem_filter.mpr ⟨zt6 (List.mem_of_getElem? (i := 234) rfl), (by decide +kernel)⟩
set_option maxRecDepth 20000 in
theorem qw1532 : Cond.code yX11_months cX11_months 3 (some .int) ∈ wA := List.mem_filter.mpr ⟨zt6 (List.mem_of_getElem? (i := 235) rfl), (by decide +kernel)⟩
set_option maxRecDepth 20000 in
theorem qw1541 : Cond.methodLink RL 101 yX11_bribes ∈ wA := List.mem_filter.mpr ⟨zt7 (List.mem_of_getElem? (i := 4) rfl), (by decide +kernel)⟩
set_option maxRecDepth 20000 in
theorem qw1542 : Cond.instanceMethod yX11_bribes ∈ wA := List.mem_filter.mpr ⟨zt7 (List.mem_of_getElem? (i := 5) rfl), (by decide +kernel)⟩
set_option maxRecDepth 20000 in
theorem qw1543 : Cond.selects RX11 yX11_bribes yX11_bribes ∈ wA := List.mem_filter.mpr ⟨zt7 (List.mem_of_getElem? (i := 6) rfl), (by decide +kernel)⟩
set_option maxRecDepth 20000 in
theorem qw1544 : Cond.code yX11_bribes cX11_bribes 2 (some .boolean) ∈ wA := List.mem_filter.mpr ⟨zt7 (List.mem_of_getElem? (i := 7) rfl), (by decide +kernel)⟩
set_option maxRecDepth 20000 in
theorem qw1545 : Cond.methodLink RL 108 yX11_decades ∈ wA := List.mem_filter.mpr ⟨zt7 (List.mem_of_getElem? (i := 8) rfl), (by decide +kernel)⟩
set_option maxRecDepth 20000 in
theorem qw1546 : Cond.instanceMethod yX11_decades ∈ wA := List.mem_filter.mpr ⟨zt7 (List.mem_of_getElem? (i := 9) rfl), (by decide +kernel)⟩
set_option maxRecDepth 20000 in
theorem qw1547 : Cond.selects RX11 yX11_decades yX11_decades ∈ wA := List.mem_filter.mpr ⟨zt7 (List.mem_of_getElem? (i := 10) rfl), (by decide +kernel)⟩
set_option maxRecDepth 20000 in
theorem qw1548 : Cond.code yX11_decades cX11_decades 5 (some .int) ∈ wA := List.mem_filter.mpr ⟨zt7 (List.mem_of_getElem? (i := 11) rfl), (by decide +kernel)⟩
set_option maxRecDepth 20000 in
theorem qw1559 : Cond.methodLink RL 112 yX11_status ∈ wA := List.mem_filter.mpr ⟨zt7 (List.mem_of_getElem? (i := 22) rfl), (by decide +kernel)⟩
set_option maxRecDepth 20000 in
theorem qw1560 : Cond.instanceMethod yX11_status ∈ wA := List.mem_filter.mpr ⟨zt7 (List.mem_of_getElem? (i := 23) rfl), (by decide +kernel)⟩
set_option maxRecDepth 20000 in
theorem qw1561 : Cond.selects RX11 yX11_status yX11_status ∈ wA := List.mem_filter.mpr ⟨zt7 (List.mem_of_getElem? (i := 24) rfl), (by decide +kernel)⟩
set_option maxRecDepth 20000 in
theorem qw1562 : Cond.code yX11_status cX11_status 2 (some .int) ∈ wA := List.mem_filter.mpr ⟨zt7 (List.mem_of_getElem? (i := 25) rfl), (by decide +kernel)⟩
set_option maxRecDepth 20000 in
theorem qw1563 : Cond.methodLink RL 116 yX11_undo ∈ wA := List.mem_filter.mpr ⟨zt7 (List.mem_of_getElem? (i := 26) rfl), (by decide +kernel)⟩
set_option maxRecDepth 20000 in
theorem qw1564 : Cond.instanceMethod yX11_undo ∈ wA := List.mem_filter.mpr ⟨zt7 (List.mem_of_getElem? (i := 27) rfl), (by decide +kernel)⟩
set_option maxRecDepth 20000 in
theorem qw1565 : Cond.selects RX11 yX11_undo yX11_undo ∈ wA := List.mem_filter.mpr ⟨zt7 (List.mem_of_getElem? (i := 28) rfl), (by decide +kernel)⟩
set_option maxRecDepth 20000 in
theorem qw1566 : Cond.code yX11_undo cX11_undo 2 (some .int) ∈ wA := List.mem_filter.mpr ⟨zt7 (List.mem_of_getElem? (i := 29) rfl), (by decide +kernel)⟩
set_option maxRecDepth 20000 in
theorem qw1567 : Cond.methodLink RL 120 yX11_portrait ∈ wA := List.mem_filter.mpr ⟨zt7 (List.mem_of_getElem? (i := 30) rfl), (by decide +kernel)⟩
set_option maxRecDepth 20000 in
theorem qw1568 : Cond.instanceMethod yX11_portrait ∈ wA := List.mem_filter.mpr ⟨zt7 (List.mem_of_getElem? (i := 31) rfl), (by decide +kernel)⟩
set_option maxRecDepth 20000 in
theorem qw1569 : Cond.selects RX11 yX11_portrait yX11_portrait ∈ wA := List.mem_filter.mpr ⟨zt7 (List.mem_of_getElem? (i := 32) rfl), (by decide +kernel)⟩
set_option maxRecDepth 20000 in
theorem qw1570 : Cond.code yX11_portrait cX11_portrait 3 (some .int) ∈ wA := List.mem_filter.mpr ⟨zt7 (List.mem_of_getElem? (i := 33) rfl), (by decide +kernel)⟩
set_option maxRecDepth 20000 in
theorem qw1571 : Cond.methodLink RL 124 yX11_fits ∈ wA := List.mem_filter.mpr ⟨zt7 (List.mem_of_getElem? (i := 34) rfl), (by decide +kernel)⟩
set_option maxRecDepth 20000 in
theorem qw1572 : Cond.instanceMethod yX11_fits ∈ wA := List.mem_filter.mpr ⟨zt7 (List.mem_of_getElem? (i := 35) rfl), (by decide +kernel)⟩
set_option maxRecDepth 20000 in
theorem qw1573 : Cond.selects RX11 yX11_fits yX11_fits ∈ wA := List.mem_filter.mpr ⟨zt7 (List.mem_of_getElem? (i := 36) rfl), (by decide +kernel)⟩
set_option maxRecDepth 20000 in
theorem qw1574 : Cond.code yX11_fits cX11_fits 2 (some .int) ∈ wA := List.mem_filter.mpr ⟨zt7 (List.mem_of_getElem? (i := 37) rfl), (by decide +kernel)⟩
set_option maxRecDepth 20000 in
theorem qw1583 : Cond.methodLink RL 128 yX11_belief ∈ wA := List.mem_filter.mpr ⟨zt7 (List.mem_of_getElem? (i := 46) rfl), (by decide +kernel)⟩
set_option maxRecDepth 20000 in
theorem qw1584 : Cond.instanceMethod yX11_belief ∈ wA := List.mem_filter.mpr ⟨zt7 (List.mem_of_getElem? (i := 47) rfl), (by decide +kernel)⟩
set_option maxRecDepth 20000 in
theorem qw1585 : Cond.selects RX11 yX11_belief yX11_belief ∈ wA := List.mem_filter.mpr ⟨zt7 (List.mem_of_getElem? (i := 48) rfl), (by decide +kernel)⟩
set_option maxRecDepth 20000 in
theorem qw1586 : Cond.code yX11_belief cX11_belief 3 (some .int) ∈ wA := List.mem_filter.mpr ⟨zt7 (List.mem_of_getElem? (i := 49) rfl), (by decide +kernel)⟩
set_option maxRecDepth 20000 in
theorem qw1596 : Cond.methodLink RL 132 yX11_likely ∈ wA := List.mem_filter.mpr ⟨zt7 (List.mem_of_getElem? (i := 59) rfl), (by decide +kernel)⟩
set_option maxRecDepth 20000 in
theorem qw1597 : Cond.instanceMethod yX11_likely ∈ wA := List.mem_filter.mpr ⟨zt7 (List.mem_of_getElem? (i := 60) rfl), (by decide +kernel)⟩
set_option maxRecDepth 20000 in
theorem qw1598 : Cond.selects RX11 yX11_likely yX11_likely ∈ wA := List.mem_filter.mpr ⟨zt7 (List.mem_of_getElem? (i := 61) rfl), (by decide +kernel)⟩
set_option maxRecDepth 20000 in
theorem qw1599 : Cond.code yX11_likely cX11_likely 4 (some .int) ∈ wA := List.mem_filter.mpr ⟨zt7 (List.mem_of_getElem? (i := 62) rfl), (by decide +kernel)⟩
set_option maxRecDepth 20000 in
theorem qw1604 : Cond.methodLink RL 136 yX11_sure ∈ wA := List.mem_filter.mpr ⟨zt7 (List.mem_of_getElem? (i := 67) rfl), (by decide +kernel)⟩
set_option maxRecDepth 20000 in
theorem qw1605 : Cond.instanceMethod yX11_sure ∈ wA := List.mem_filter.mpr ⟨zt7 (List.mem_of_getElem? (i := 68) rfl), (by decide +kernel)⟩
set_option maxRecDepth 20000 in
theorem qw1606 : Cond.selects RX11 yX11_sure yX11_sure ∈ wA := List.mem_filter.mpr ⟨zt7 (List.mem_of_getElem? (i := 69) rfl), (by decide +kernel)⟩
set_option maxRecDepth 20000 in
theorem qw1607 : Cond.code yX11_sure cX11_sure 3 (some .int) ∈ wA := List.mem_filter.mpr ⟨zt7 (List.mem_of_getElem? (i := 70) rfl), (by decide +kernel)⟩
set_option maxRecDepth 20000 in
theorem qw1609 : Cond.methodLink RL 140 yX11_next ∈ wA := List.mem_filter.mpr ⟨zt7 (List.mem_of_getElem? (i := 72) rfl), (by decide +kernel)⟩
set_option maxRecDepth 20000 in
theorem qw1610 : Cond.instanceMethod yX11_next ∈ wA := List.mem_filter.mpr ⟨zt7 (List.mem_of_getElem? (i := 73) rfl), (by decide +kernel)⟩
set_option maxRecDepth 20000 in
theorem qw1611 : Cond.selects RX11 yX11_next yX11_next ∈ wA := List.mem_filter.mpr ⟨zt7 (List.mem_of_getElem? (i := 74) rfl), (by decide +kernel)⟩
set_option maxRecDepth 20000 in
theorem qw1612 : Cond.code yX11_next cX11_next 5 (some .int) ∈ wA := List.mem_filter.mpr ⟨zt7 (List.mem_of_getElem? (i := 75) rfl), (by decide +kernel)⟩
set_option maxRecDepth 20000 in
theorem qw1617 : Cond.methodLink RL 144 yX11_apart ∈ wA := List.mem_filter.mpr ⟨zt7 (List.mem_of_getElem? (i := 80) rfl), (by decide +kernel)⟩
set_option maxRecDepth 20000 in
theorem qw1618 : Cond.instanceMethod yX11_apart ∈ wA := List.mem_filter.mpr ⟨zt7 (List.mem_of_getElem? (i := 81) rfl), (by decide +kernel)⟩
set_option maxRecDepth 20000 in
theorem qw1619 : Cond.selects RX11 yX11_apart yX11_apart ∈ wA := List.mem_filter.mpr ⟨zt7 (List.mem_of_getElem? (i := 82) rfl), (by decide +kernel)⟩
set_option maxRecDepth 20000 in
theorem qw1620 : Cond.code yX11_apart cX11_apart 5 (some .int) ∈ wA := List.mem_filter.mpr ⟨zt7 (List.mem_of_getElem? (i := 83) rfl), (by decide +kernel)⟩
set_option maxRecDepth 20000 in
theorem qw1634 : Cond.methodLink RL 148 yX11_worth ∈ wA := List.mem_filter.mpr ⟨zt7 (List.mem_of_getElem? (i := 97) rfl), (by decide +kernel)⟩
set_option maxRecDepth 20000 in
theorem qw1635 : Cond.instanceMethod yX11_worth ∈ wA := List.mem_filter.mpr ⟨zt7 (List.mem_of_getElem? (i := 98) rfl), (by decide +kernel)⟩
set_option maxRecDepth 20000 in
theorem qw1636 : Cond.selects RX11 yX11_worth yX11_worth ∈ wA := List.mem_filter.mpr ⟨zt7 (List.mem_of_getElem? (i := 99) rfl), (by decide +kernel)⟩
set_option maxRecDepth 20000 in
theorem qw1637 : Cond.code yX11_worth cX11_worth 3 (some .int) ∈ wA := List.mem_filter.mpr ⟨zt7 (List.mem_of_getElem? (i := 100) rfl), (by decide +kernel)⟩
set_option maxRecDepth 20000 in
theorem qw1642 : Cond.methodLink RL 152 yX11_chooses ∈ wA := List.mem_filter.mpr ⟨zt7 (List.mem_of_getElem? (i := 105) rfl), (by decide +kernel)⟩
set_option maxRecDepth 20000 in
theorem qw1643 : Cond.instanceMethod yX11_chooses ∈ wA := List.mem_filter.mpr ⟨zt7 (List.mem_of_getElem? (i := 106) rfl), (by decide +kernel)⟩
set_option maxRecDepth 20000 in
theorem qw1644 : Cond.selects RX11 yX11_chooses yX11_chooses ∈ wA := List.mem_filter.mpr ⟨zt7 (List.mem_of_getElem? (i := 107) rfl), (by decide +kernel)⟩
set_option maxRecDepth 20000 in
theorem qw1645 : Cond.code yX11_chooses cX11_chooses 2 (some .int) ∈ wA := List.mem_filter.mpr ⟨zt7 (List.mem_of_getElem? (i := 108) rfl), (by decide +kernel)⟩
set_option maxRecDepth 20000 in
theorem qw1654 : Cond.methodLink RL 157 yX11_game ∈ wA := List.mem_filter.mpr ⟨zt7 (List.mem_of_getElem? (i := 117) rfl), (by decide +kernel)⟩
set_option maxRecDepth 20000 in
theorem qw1655 : Cond.instanceMethod yX11_game ∈ wA := List.mem_filter.mpr ⟨zt7 (List.mem_of_getElem? (i := 118) rfl), (by decide +kernel)⟩
set_option maxRecDepth 20000 in
theorem qw1656 : Cond.selects RX11 yX11_game yX11_game ∈ wA := List.mem_filter.mpr ⟨zt7 (List.mem_of_getElem? (i := 119) rfl), (by decide +kernel)⟩
set_option maxRecDepth 20000 in
theorem qw1657 : Cond.code yX11_game cX11_game 7 (some .int) ∈ wA := List.mem_filter.mpr ⟨zt7 (List.mem_of_getElem? (i := 120) rfl), (by decide +kernel)⟩
set_option maxRecDepth 20000 in
theorem qw1667 : Cond.methodLink RL 162 yX11_rests ∈ wA := List.mem_filter.mpr ⟨zt7 (List.mem_of_getElem? (i := 130) rfl), (by decide +kernel)⟩
set_option maxRecDepth 20000 in
theorem qw1668 : Cond.instanceMethod yX11_rests ∈ wA := List.mem_filter.mpr ⟨zt7 (List.mem_of_getElem? (i := 131) rfl), (by decide +kernel)⟩
set_option maxRecDepth 20000 in
theorem qw1669 : Cond.selects RX11 yX11_rests yX11_rests ∈ wA := List.mem_filter.mpr ⟨zt7 (List.mem_of_getElem? (i := 132) rfl), (by decide +kernel)⟩
set_option maxRecDepth 20000 in
theorem qw1670 : Cond.code yX11_rests cX11_rests 7 (some .int) ∈ wA := List.mem_filter.mpr ⟨zt7 (List.mem_of_getElem? (i := 133) rfl), (by decide +kernel)⟩
set_option maxRecDepth 20000 in
theorem qw1675 : Cond.methodLink RL 166 yX11_truth ∈ wA := List.mem_filter.mpr ⟨zt7 (List.mem_of_getElem? (i := 138) rfl), (by decide +kernel)⟩
set_option maxRecDepth 20000 in
theorem qw1676 : Cond.instanceMethod yX11_truth ∈ wA := List.mem_filter.mpr ⟨zt7 (List.mem_of_getElem? (i := 139) rfl), (by decide +kernel)⟩
set_option maxRecDepth 20000 in
theorem qw1677 : Cond.selects RX11 yX11_truth yX11_truth ∈ wA := List.mem_filter.mpr ⟨zt7 (List.mem_of_getElem? (i := 140) rfl), (by decide +kernel)⟩
set_option maxRecDepth 20000 in
theorem qw1678 : Cond.code yX11_truth cX11_truth 3 (some .int) ∈ wA := List.mem_filter.mpr ⟨zt7 (List.mem_of_getElem? (i := 141) rfl), (by decide +kernel)⟩
set_option maxRecDepth 20000 in
theorem qw1679 : Cond.methodLink RL 170 yX11_cheapest ∈ wA := List.mem_filter.mpr ⟨zt7 (List.mem_of_getElem? (i := 142) rfl), (by decide +kernel)⟩
set_option maxRecDepth 20000 in
theorem qw1680 : Cond.instanceMethod yX11_cheapest ∈ wA := List.mem_filter.mpr ⟨zt7 (List.mem_of_getElem? (i := 143) rfl), (by decide +kernel)⟩
set_option maxRecDepth 20000 in
theorem qw1681 : Cond.selects RX11 yX11_cheapest yX11_cheapest ∈ wA := List.mem_filter.mpr ⟨zt7 (List.mem_of_getElem? (i := 144) rfl), (by decide +kernel)⟩
set_option maxRecDepth 20000 in
theorem qw1682 : Cond.code yX11_cheapest cX11_cheapest 3 (some .int) ∈ wA := List.mem_filter.mpr ⟨zt7 (List.mem_of_getElem? (i := 145) rfl), (by decide +kernel)⟩
set_option maxRecDepth 20000 in
theorem qw1687 : Cond.methodLink RL 174 yX11_looks ∈ wA := List.mem_filter.mpr ⟨zt7 (List.mem_of_getElem? (i := 150) rfl), (by decide +kernel)⟩
set_option maxRecDepth 20000 in
theorem qw1688 : Cond.instanceMethod yX11_looks ∈ wA := List.mem_filter.mpr ⟨zt7 (List.mem_of_getElem? (i := 151) rfl), (by decide +kernel)⟩
set_option maxRecDepth 20000 in
theorem qw1689 : Cond.selects RX11 yX11_looks yX11_looks ∈ wA := List.mem_filter.mpr ⟨zt7 (List.mem_of_getElem? (i := 152) rfl), (by decide +kernel)⟩
set_option maxRecDepth 20000 in
theorem qw1690 : Cond.code yX11_looks cX11_looks 2 (some .int) ∈ wA := List.mem_filter.mpr ⟨zt7 (List.mem_of_getElem? (i := 153) rfl), (by decide +kernel)⟩
set_option maxRecDepth 20000 in
theorem qw1691 : Cond.methodLink RL 178 yX11_whose ∈ wA := List.mem_filter.mpr ⟨zt7 (List.mem_of_getElem? (i := 154) rfl), (by decide +kernel)⟩
set_option maxRecDepth 20000 in
theorem qw1692 : Cond.instanceMethod yX11_whose ∈ wA := List.mem_filter.mpr ⟨zt7 (List.mem_of_getElem? (i := 155) rfl), (by decide +kernel)⟩
set_option maxRecDepth 20000 in
theorem qw1693 : Cond.selects RX11 yX11_whose yX11_whose ∈ wA := List.mem_filter.mpr ⟨zt7 (List.mem_of_getElem? (i := 156) rfl), (by decide +kernel)⟩
set_option maxRecDepth 20000 in
theorem qw1694 : Cond.code yX11_whose cX11_whose 5 (some .int) ∈ wA := List.mem_filter.mpr ⟨zt7 (List.mem_of_getElem? (i := 157) rfl), (by decide +kernel)⟩
set_option maxRecDepth 20000 in
theorem qw1695 : Cond.methodLink RL 182 yX11_heads ∈ wA := List.mem_filter.mpr ⟨zt7 (List.mem_of_getElem? (i := 158) rfl), (by decide +kernel)⟩
set_option maxRecDepth 20000 in
theorem qw1696 : Cond.instanceMethod yX11_heads ∈ wA := List.mem_filter.mpr ⟨zt7 (List.mem_of_getElem? (i := 159) rfl), (by decide +kernel)⟩
set_option maxRecDepth 20000 in
theorem qw1697 : Cond.selects RX11 yX11_heads yX11_heads ∈ wA := List.mem_filter.mpr ⟨zt7 (List.mem_of_getElem? (i := 160) rfl), (by decide +kernel)⟩
set_option maxRecDepth 20000 in
theorem qw1698 : Cond.code yX11_heads cX11_heads 8 (some .int) ∈ wA := List.mem_filter.mpr ⟨zt7 (List.mem_of_getElem? (i := 161) rfl), (by decide +kernel)⟩
set_option maxRecDepth 20000 in
theorem qw1701 : Cond.methodLink RL 186 yX11_matched ∈ wA := List.mem_filter.mpr ⟨zt7 (List.mem_of_getElem? (i := 164) rfl), (by decide +kernel)⟩
set_option maxRecDepth 20000 in
theorem qw1702 : Cond.instanceMethod yX11_matched ∈ wA := List.mem_filter.mpr ⟨zt7 (List.mem_of_getElem? (i := 165) rfl), (by decide +kernel)⟩
set_option maxRecDepth 20000 in
theorem qw1703 : Cond.selects RX11 yX11_matched yX11_matched ∈ wA := List.mem_filter.mpr ⟨zt7 (List.mem_of_getElem? (i := 166) rfl), (by decide +kernel)⟩
set_option maxRecDepth 20000 in
theorem qw1704 : Cond.code yX11_matched cX11_matched 4 (some .int) ∈ wA := List.mem_filter.mpr ⟨zt7 (List.mem_of_getElem? (i := 167) rfl), (by decide +kernel)⟩
set_option maxRecDepth 20000 in
theorem qw1717 : Cond.methodLink RL 190 yX11_most ∈ wA := List.mem_filter.mpr ⟨zt7 (List.mem_of_getElem? (i := 180) rfl), (by decide +kernel)⟩
set_option maxRecDepth 20000 in
theorem qw1718 : Cond.instanceMethod yX11_most ∈ wA := List.mem_filter.mpr ⟨zt7 (List.mem_of_getElem? (i := 181) rfl), (by decide +kernel)⟩
set_option maxRecDepth 20000 in
theorem qw1719 : Cond.selects RX11 yX11_most yX11_most ∈ wA := List.mem_filter.mpr ⟨zt7 (List.mem_of_getElem? (i := 182) rfl), (by decide +kernel)⟩
set_option maxRecDepth 20000 in
theorem qw1720 : Cond.code yX11_most cX11_most 5 (some .int) ∈ wA := List.mem_filter.mpr ⟨zt7 (List.mem_of_getElem? (i := 183) rfl), (by decide +kernel)⟩
set_option maxRecDepth 20000 in
theorem qw1729 : Cond.methodLink RL 194 yX11_seen ∈ wA := List.mem_filter.mpr ⟨zt7 (List.mem_of_getElem? (i := 192) rfl), (by decide +kernel)⟩
set_option maxRecDepth 20000 in
theorem qw1730 : Cond.instanceMethod yX11_seen ∈ wA := List.mem_filter.mpr ⟨zt7 (List.mem_of_getElem? (i := 193) rfl), (by decide +kernel)⟩
set_option maxRecDepth 20000 in
theorem qw1731 : Cond.selects RX11 yX11_seen yX11_seen ∈ wA := List.mem_filter.mpr ⟨zt7 (List.mem_of_getElem? (i := 194) rfl), (by decide +kernel)⟩
set_option maxRecDepth 20000 in
theorem qw1732 : Cond.code yX11_seen cX11_seen 2 (some .int) ∈ wA := List.mem_filter.mpr ⟨zt7 (List.mem_of_getElem? (i := 195) rfl), (by decide +kernel)⟩
set_option maxRecDepth 20000 in
theorem qw1733 : Cond.methodLink RL 198 yX11_saves ∈ wA := List.mem_filter.mpr ⟨zt7 (List.mem_of_getElem? (i := 196) rfl), (by decide +kernel)⟩
set_option maxRecDepth 20000 in
theorem qw1734 : Cond.instanceMethod yX11_saves ∈ wA := List.mem_filter.mpr ⟨zt7 (List.mem_of_getElem? (i := 197) rfl), (by decide +kernel)⟩
set_option maxRecDepth 20000 in
theorem qw1735 : Cond.selects RX11 yX11_saves yX11_saves ∈ wA := List.mem_filter.mpr ⟨zt7 (List.mem_of_getElem? (i := 198) rfl), (by decide +kernel)⟩
set_option maxRecDepth 20000 in
theorem qw1736 : Cond.code yX11_saves cX11_saves 2 (some .int) ∈ wA := List.mem_filter.mpr ⟨zt7 (List.mem_of_getElem? (i := 199) rfl), (by decide +kernel)⟩
set_option maxRecDepth 20000 in
theorem qw1737 : Cond.methodLink RL 202 yX11_rivals ∈ wA := List.mem_filter.mpr ⟨zt7 (List.mem_of_getElem? (i := 200) rfl), (by decide +kernel)⟩
set_option maxRecDepth 20000 in
theorem qw1738 : Cond.instanceMethod yX11_rivals ∈ wA := List.mem_filter.mpr ⟨zt7 (List.mem_of_getElem? (i := 201) rfl), (by decide +kernel)⟩
set_option maxRecDepth 20000 in
theorem qw1739 : Cond.selects RX11 yX11_rivals yX11_rivals ∈ wA := List.mem_filter.mpr ⟨zt7 (List.mem_of_getElem? (i := 202) rfl), (by decide +kernel)⟩
set_option maxRecDepth 20000 in
theorem qw1740 : Cond.code yX11_rivals cX11_rivals 4 (some .int) ∈ wA := List.mem_filter.mpr ⟨zt7 (List.mem_of_getElem? (i := 203) rfl), (by decide +kernel)⟩
set_option maxRecDepth 20000 in
theorem qw1741 : Cond.methodLink RL 206 yX11_affords ∈ wA := List.mem_filter.mpr ⟨zt7 (List.mem_of_getElem? (i := 204) rfl), (by decide +kernel)⟩
set_option maxRecDepth 20000 in
theorem qw1742 : Cond.instanceMethod yX11_affords ∈ wA := List.mem_filter.mpr ⟨zt7 (List.mem_of_getElem? (i := 205) rfl), (by decide +kernel)⟩
set_option maxRecDepth 20000 in
theorem qw1743 : Cond.selects RX11 yX11_affords yX11_affords ∈ wA := List.mem_filter.mpr ⟨zt7 (List.mem_of_getElem? (i := 206) rfl), (by decide +kernel)⟩
set_option maxRecDepth 20000 in
theorem qw1744 : Cond.code yX11_affords cX11_affords 3 (some .int) ∈ wA := List.mem_filter.mpr ⟨zt7 (List.mem_of_getElem? (i := 207) rfl), (by decide +kernel)⟩
set_option maxRecDepth 20000 in
theorem qw1745 : Cond.methodLink RL 210 yX11_told ∈ wA := List.mem_filter.mpr ⟨zt7 (List.mem_of_getElem? (i := 208) rfl), (by decide +kernel)⟩
set_option maxRecDepth 20000 in
theorem qw1746 : Cond.instanceMethod yX11_told ∈ wA := List.mem_filter.mpr ⟨zt7 (List.mem_of_getElem? (i := 209) rfl), (by decide +kernel)⟩
set_option maxRecDepth 20000 in
theorem qw1747 : Cond.selects RX11 yX11_told yX11_told ∈ wA := List.mem_filter.mpr ⟨zt7 (List.mem_of_getElem? (i := 210) rfl), (by decide +kernel)⟩
set_option maxRecDepth 20000 in
theorem qw1748 : Cond.code yX11_told cX11_told 5 (some .int) ∈ wA := List.mem_filter.mpr ⟨zt7 (List.mem_of_getElem? (i := 211) rfl), (by decide +kernel)⟩
set_option maxRecDepth 20000 in
theorem qw1749 : Cond.methodLink RL 214 yX11_image ∈ wA := List.mem_filter.mpr ⟨zt7 (List.mem_of_getElem? (i := 212) rfl), (by decide +kernel)⟩
set_option maxRecDepth 20000 in
theorem qw1750 : Cond.instanceMethod yX11_image ∈ wA := List.mem_filter.mpr ⟨zt7 (List.mem_of_getElem? (i := 213) rfl), (by decide +kernel)⟩
set_option maxRecDepth 20000 in
theorem qw1751 : Cond.selects RX11 yX11_image yX11_image ∈ wA := List.mem_filter.mpr ⟨zt7 (List.mem_of_getElem? (i := 214) rfl), (by decide +kernel)⟩
set_option maxRecDepth 20000 in
theorem qw1752 : Cond.code yX11_image cX11_image 2 (some .int) ∈ wA := List.mem_filter.mpr ⟨zt7 (List.mem_of_getElem? (i := 215) rfl), (by decide +kernel)⟩
set_option maxRecDepth 20000 in
theorem qw1753 : Cond.methodLink RL 218 yX11_back ∈ wA := List.mem_filter.mpr ⟨zt7 (List.mem_of_getElem? (i := 216) rfl), (by decide +kernel)⟩
set_option maxRecDepth 20000 in
theorem qw1754 : Cond.instanceMethod yX11_back ∈ wA := List.mem_filter.mpr ⟨zt7 (List.mem_of_getElem? (i := 217) rfl), (by decide +kernel)⟩
set_option maxRecDepth 20000 in
theorem qw1755 : Cond.selects RX11 yX11_back yX11_back ∈ wA := List.mem_filter.mpr ⟨zt7 (List.mem_of_getElem? (i := 218) rfl), (by decide +kernel)⟩
set_option maxRecDepth 20000 in
theorem qw1756 : Cond.code yX11_back cX11_back 2 (some .int) ∈ wA := List.mem_filter.mpr ⟨zt7 (List.mem_of_getElem? (i := 219) rfl), (by decide +kernel)⟩
set_option maxRecDepth 20000 in
theorem qw1757 : Cond.methodLink RL 222 yX11_count ∈ wA := List.mem_filter.mpr ⟨zt7 (List.mem_of_getElem? (i := 220) rfl), (by decide +kernel)⟩
set_option maxRecDepth 20000 in
theorem qw1758 : Cond.instanceMethod yX11_count ∈ wA := List.mem_filter.mpr ⟨zt7 (List.mem_of_getElem? (i := 221) rfl), (by decide +kernel)⟩
set_option maxRecDepth 20000 in
theorem qw1759 : Cond.selects RX11 yX11_count yX11_count ∈ wA := List.mem_filter.mpr ⟨zt7 (List.mem_of_getElem? (i := 222) rfl), (by decide +kernel)⟩
set_option maxRecDepth 20000 in
theorem qw1760 : Cond.code yX11_count cX11_count 2 (some .int) ∈ wA := List.mem_filter.mpr ⟨zt7 (List.mem_of_getElem? (i := 223) rfl), (by decide +kernel)⟩
theorem hd_L_bride : yL_bride.cls = RL ∧ yL_bride.cls ≠ "java/lang/invoke/MethodHandle" ∧ yL_bride.cls ≠ "java/lang/invoke/VarHandle" ∧ (parseMethodDescriptor yL_bride.desc).map (fun d => d.parameters.length) = some 4 := by decide +kernel
theorem hd_X10_affords : yX10_affords.cls = RX10 ∧ yX10_affords.cls ≠ "java/lang/invoke/MethodHandle" ∧ yX10_affords.cls ≠ "java/lang/invoke/VarHandle" ∧ (parseMethodDescriptor yX10_affords.desc).map (fun d => d.parameters.length) = some 1 := by decide +kernel
theorem hd_X10_annul : yX10_annul.cls = RX10 ∧ yX10_annul.cls ≠ "java/lang/invoke/MethodHandle" ∧ yX10_annul.cls ≠ "java/lang/invoke/VarHandle" ∧ (parseMethodDescriptor yX10_annul.desc).map (fun d => d.parameters.length) = some 0 := by decide +kernel
theorem hd_X10_apart : yX10_apart.cls = RX10 ∧ yX10_apart.cls ≠ "java/lang/invoke/MethodHandle" ∧ yX10_apart.cls ≠ "java/lang/invoke/VarHandle" ∧ (parseMethodDescriptor yX10_apart.desc).map (fun d => d.parameters.length) = some 1 := by decide +kernel
theorem hd_X10_back : yX10_back.cls = RX10 ∧ yX10_back.cls ≠ "java/lang/invoke/MethodHandle" ∧ yX10_back.cls ≠ "java/lang/invoke/VarHandle" ∧ (parseMethodDescriptor yX10_back.desc).map (fun d => d.parameters.length) = some 0 := by decide +kernel
theorem hd_X10_belief : yX10_belief.cls = RX10 ∧ yX10_belief.cls ≠ "java/lang/invoke/MethodHandle" ∧ yX10_belief.cls ≠ "java/lang/invoke/VarHandle" ∧ (parseMethodDescriptor yX10_belief.desc).map (fun d => d.parameters.length) = some 2 := by decide +kernel
theorem hd_X10_bribes : yX10_bribes.cls = RX10 ∧ yX10_bribes.cls ≠ "java/lang/invoke/MethodHandle" ∧ yX10_bribes.cls ≠ "java/lang/invoke/VarHandle" ∧ (parseMethodDescriptor yX10_bribes.desc).map (fun d => d.parameters.length) = some 1 := by decide +kernel
theorem hd_X10_cheapest : yX10_cheapest.cls = RX10 ∧ yX10_cheapest.cls ≠ "java/lang/invoke/MethodHandle" ∧ yX10_cheapest.cls ≠ "java/lang/invoke/VarHandle" ∧ (parseMethodDescriptor yX10_cheapest.desc).map (fun d => d.parameters.length) = some 2 := by decide +kernel
theorem hd_X10_chooses : yX10_chooses.cls = RX10 ∧ yX10_chooses.cls ≠ "java/lang/invoke/MethodHandle" ∧ yX10_chooses.cls ≠ "java/lang/invoke/VarHandle" ∧ (parseMethodDescriptor yX10_chooses.desc).map (fun d => d.parameters.length) = some 1 := by decide +kernel
theorem hd_X10_count : yX10_count.cls = RX10 ∧ yX10_count.cls ≠ "java/lang/invoke/MethodHandle" ∧ yX10_count.cls ≠ "java/lang/invoke/VarHandle" ∧ (parseMethodDescriptor yX10_count.desc).map (fun d => d.parameters.length) = some 1 := by decide +kernel
theorem hd_X10_decades : yX10_decades.cls = RX10 ∧ yX10_decades.cls ≠ "java/lang/invoke/MethodHandle" ∧ yX10_decades.cls ≠ "java/lang/invoke/VarHandle" ∧ (parseMethodDescriptor yX10_decades.desc).map (fun d => d.parameters.length) = some 2 := by decide +kernel
theorem hd_X10_end : yX10_end.cls = RX10 ∧ yX10_end.cls ≠ "java/lang/invoke/MethodHandle" ∧ yX10_end.cls ≠ "java/lang/invoke/VarHandle" ∧ (parseMethodDescriptor yX10_end.desc).map (fun d => d.parameters.length) = some 1 := by decide +kernel
theorem hd_X10_fault : yX10_fault.cls = RX10 ∧ yX10_fault.cls ≠ "java/lang/invoke/MethodHandle" ∧ yX10_fault.cls ≠ "java/lang/invoke/VarHandle" ∧ (parseMethodDescriptor yX10_fault.desc).map (fun d => d.parameters.length) = some 1 := by decide +kernel
theorem hd_X10_feed : yX10_feed.cls = RX10 ∧ yX10_feed.cls ≠ "java/lang/invoke/MethodHandle" ∧ yX10_feed.cls ≠ "java/lang/invoke/VarHandle" ∧ (parseMethodDescriptor yX10_feed.desc).map (fun d => d.parameters.length) = some 5 := by decide +kernel
theorem hd_X10_fits : yX10_fits.cls = RX10 ∧ yX10_fits.cls ≠ "java/lang/invoke/MethodHandle" ∧ yX10_fits.cls ≠ "java/lang/invoke/VarHandle" ∧ (parseMethodDescriptor yX10_fits.desc).map (fun d => d.parameters.length) = some 1 := by decide +kernel
theorem hd_X10_flattery : yX10_flattery.cls = RX10 ∧ yX10_flattery.cls ≠ "java/lang/invoke/MethodHandle" ∧ yX10_flattery.cls ≠ "java/lang/invoke/VarHandle" ∧ (parseMethodDescriptor yX10_flattery.desc).map (fun d => d.parameters.length) = some 2 := by decide +kernel
theorem hd_X10_game : yX10_game.cls = RX10 ∧ yX10_game.cls ≠ "java/lang/invoke/MethodHandle" ∧ yX10_game.cls ≠ "java/lang/invoke/VarHandle" ∧ (parseMethodDescriptor yX10_game.desc).map (fun d => d.parameters.length) = some 6 := by decide +kernel
theorem hd_X10_heads : yX10_heads.cls = RX10 ∧ yX10_heads.cls ≠ "java/lang/invoke/MethodHandle" ∧ yX10_heads.cls ≠ "java/lang/invoke/VarHandle" ∧ (parseMethodDescriptor yX10_heads.desc).map (fun d => d.parameters.length) = some 3 := by decide +kernel
theorem hd_X10_image : yX10_image.cls = RX10 ∧ yX10_image.cls ≠ "java/lang/invoke/MethodHandle" ∧ yX10_image.cls ≠ "java/lang/invoke/VarHandle" ∧ (parseMethodDescriptor yX10_image.desc).map (fun d => d.parameters.length) = some 0 := by decide +kernel
theorem hd_X10_law : yX10_law.cls = RX10 ∧ yX10_law.cls ≠ "java/lang/invoke/MethodHandle" ∧ yX10_law.cls ≠ "java/lang/invoke/VarHandle" ∧ (parseMethodDescriptor yX10_law.desc).map (fun d => d.parameters.length) = some 1 := by decide +kernel
theorem hd_X10_letter : yX10_letter.cls = RX10 ∧ yX10_letter.cls ≠ "java/lang/invoke/MethodHandle" ∧ yX10_letter.cls ≠ "java/lang/invoke/VarHandle" ∧ (parseMethodDescriptor yX10_letter.desc).map (fun d => d.parameters.length) = some 1 := by decide +kernel
theorem hd_X10_likely : yX10_likely.cls = RX10 ∧ yX10_likely.cls ≠ "java/lang/invoke/MethodHandle" ∧ yX10_likely.cls ≠ "java/lang/invoke/VarHandle" ∧ (parseMethodDescriptor yX10_likely.desc).map (fun d => d.parameters.length) = some 2 := by decide +kernel
theorem hd_X10_looks : yX10_looks.cls = RX10 ∧ yX10_looks.cls ≠ "java/lang/invoke/MethodHandle" ∧ yX10_looks.cls ≠ "java/lang/invoke/VarHandle" ∧ (parseMethodDescriptor yX10_looks.desc).map (fun d => d.parameters.length) = some 1 := by decide +kernel
theorem hd_X10_matched : yX10_matched.cls = RX10 ∧ yX10_matched.cls ≠ "java/lang/invoke/MethodHandle" ∧ yX10_matched.cls ≠ "java/lang/invoke/VarHandle" ∧ (parseMethodDescriptor yX10_matched.desc).map (fun d => d.parameters.length) = some 1 := by decide +kernel
theorem hd_X10_months : yX10_months.cls = RX10 ∧ yX10_months.cls ≠ "java/lang/invoke/MethodHandle" ∧ yX10_months.cls ≠ "java/lang/invoke/VarHandle" ∧ (parseMethodDescriptor yX10_months.desc).map (fun d => d.parameters.length) = some 1 := by decide +kernel
theorem hd_X10_most : yX10_most.cls = RX10 ∧ yX10_most.cls ≠ "java/lang/invoke/MethodHandle" ∧ yX10_most.cls ≠ "java/lang/invoke/VarHandle" ∧ (parseMethodDescriptor yX10_most.desc).map (fun d => d.parameters.length) = some 1 := by decide +kernel
theorem hd_X10_next : yX10_next.cls = RX10 ∧ yX10_next.cls ≠ "java/lang/invoke/MethodHandle" ∧ yX10_next.cls ≠ "java/lang/invoke/VarHandle" ∧ (parseMethodDescriptor yX10_next.desc).map (fun d => d.parameters.length) = some 1 := by decide +kernel
theorem hd_X10_paint : yX10_paint.cls = RX10 ∧ yX10_paint.cls ≠ "java/lang/invoke/MethodHandle" ∧ yX10_paint.cls ≠ "java/lang/invoke/VarHandle" ∧ (parseMethodDescriptor yX10_paint.desc).map (fun d => d.parameters.length) = some 2 := by decide +kernel
theorem hd_X10_painter : yX10_painter.cls = RX10 ∧ yX10_painter.cls ≠ "java/lang/invoke/MethodHandle" ∧ yX10_painter.cls ≠ "java/lang/invoke/VarHandle" ∧ (parseMethodDescriptor yX10_painter.desc).map (fun d => d.parameters.length) = some 2 := by decide +kernel
theorem hd_X10_pay : yX10_pay.cls = RX10 ∧ yX10_pay.cls ≠ "java/lang/invoke/MethodHandle" ∧ yX10_pay.cls ≠ "java/lang/invoke/VarHandle" ∧ (parseMethodDescriptor yX10_pay.desc).map (fun d => d.parameters.length) = some 2 := by decide +kernel
theorem hd_X10_portrait : yX10_portrait.cls = RX10 ∧ yX10_portrait.cls ≠ "java/lang/invoke/MethodHandle" ∧ yX10_portrait.cls ≠ "java/lang/invoke/VarHandle" ∧ (parseMethodDescriptor yX10_portrait.desc).map (fun d => d.parameters.length) = some 2 := by decide +kernel
theorem hd_X10_rests : yX10_rests.cls = RX10 ∧ yX10_rests.cls ≠ "java/lang/invoke/MethodHandle" ∧ yX10_rests.cls ≠ "java/lang/invoke/VarHandle" ∧ (parseMethodDescriptor yX10_rests.desc).map (fun d => d.parameters.length) = some 4 := by decide +kernel
theorem hd_X10_rivals : yX10_rivals.cls = RX10 ∧ yX10_rivals.cls ≠ "java/lang/invoke/MethodHandle" ∧ yX10_rivals.cls ≠ "java/lang/invoke/VarHandle" ∧ (parseMethodDescriptor yX10_rivals.desc).map (fun d => d.parameters.length) = some 1 := by decide +kernel
theorem hd_X10_rule : yX10_rule.cls = RX10 ∧ yX10_rule.cls ≠ "java/lang/invoke/MethodHandle" ∧ yX10_rule.cls ≠ "java/lang/invoke/VarHandle" ∧ (parseMethodDescriptor yX10_rule.desc).map (fun d => d.parameters.length) = some 1 := by decide +kernel
theorem hd_X10_saves : yX10_saves.cls = RX10 ∧ yX10_saves.cls ≠ "java/lang/invoke/MethodHandle" ∧ yX10_saves.cls ≠ "java/lang/invoke/VarHandle" ∧ (parseMethodDescriptor yX10_saves.desc).map (fun d => d.parameters.length) = some 1 := by decide +kernel
theorem hd_X10_seen : yX10_seen.cls = RX10 ∧ yX10_seen.cls ≠ "java/lang/invoke/MethodHandle" ∧ yX10_seen.cls ≠ "java/lang/invoke/VarHandle" ∧ (parseMethodDescriptor yX10_seen.desc).map (fun d => d.parameters.length) = some 1 := by decide +kernel
theorem hd_X10_shoe : yX10_shoe.cls = RX10 ∧ yX10_shoe.cls ≠ "java/lang/invoke/MethodHandle" ∧ yX10_shoe.cls ≠ "java/lang/invoke/VarHandle" ∧ (parseMethodDescriptor yX10_shoe.desc).map (fun d => d.parameters.length) = some 1 := by decide +kernel
theorem hd_X10_shown : yX10_shown.cls = RX10 ∧ yX10_shown.cls ≠ "java/lang/invoke/MethodHandle" ∧ yX10_shown.cls ≠ "java/lang/invoke/VarHandle" ∧ (parseMethodDescriptor yX10_shown.desc).map (fun d => d.parameters.length) = some 3 := by decide +kernel
theorem hd_X10_status : yX10_status.cls = RX10 ∧ yX10_status.cls ≠ "java/lang/invoke/MethodHandle" ∧ yX10_status.cls ≠ "java/lang/invoke/VarHandle" ∧ (parseMethodDescriptor yX10_status.desc).map (fun d => d.parameters.length) = some 1 := by decide +kernel
theorem hd_X10_sure : yX10_sure.cls = RX10 ∧ yX10_sure.cls ≠ "java/lang/invoke/MethodHandle" ∧ yX10_sure.cls ≠ "java/lang/invoke/VarHandle" ∧ (parseMethodDescriptor yX10_sure.desc).map (fun d => d.parameters.length) = some 2 := by decide +kernel
theorem hd_X10_text : yX10_text.cls = RX10 ∧ yX10_text.cls ≠ "java/lang/invoke/MethodHandle" ∧ yX10_text.cls ≠ "java/lang/invoke/VarHandle" ∧ (parseMethodDescriptor yX10_text.desc).map (fun d => d.parameters.length) = some 1 := by decide +kernel
theorem hd_X10_threaten : yX10_threaten.cls = RX10 ∧ yX10_threaten.cls ≠ "java/lang/invoke/MethodHandle" ∧ yX10_threaten.cls ≠ "java/lang/invoke/VarHandle" ∧ (parseMethodDescriptor yX10_threaten.desc).map (fun d => d.parameters.length) = some 1 := by decide +kernel
theorem hd_X10_told : yX10_told.cls = RX10 ∧ yX10_told.cls ≠ "java/lang/invoke/MethodHandle" ∧ yX10_told.cls ≠ "java/lang/invoke/VarHandle" ∧ (parseMethodDescriptor yX10_told.desc).map (fun d => d.parameters.length) = some 1 := by decide +kernel
theorem hd_X10_truth : yX10_truth.cls = RX10 ∧ yX10_truth.cls ≠ "java/lang/invoke/MethodHandle" ∧ yX10_truth.cls ≠ "java/lang/invoke/VarHandle" ∧ (parseMethodDescriptor yX10_truth.desc).map (fun d => d.parameters.length) = some 2 := by decide +kernel
theorem hd_X10_undo : yX10_undo.cls = RX10 ∧ yX10_undo.cls ≠ "java/lang/invoke/MethodHandle" ∧ yX10_undo.cls ≠ "java/lang/invoke/VarHandle" ∧ (parseMethodDescriptor yX10_undo.desc).map (fun d => d.parameters.length) = some 0 := by decide +kernel
theorem hd_X10_wed : yX10_wed.cls = RX10 ∧ yX10_wed.cls ≠ "java/lang/invoke/MethodHandle" ∧ yX10_wed.cls ≠ "java/lang/invoke/VarHandle" ∧ (parseMethodDescriptor yX10_wed.desc).map (fun d => d.parameters.length) = some 1 := by decide +kernel
theorem hd_X10_whose : yX10_whose.cls = RX10 ∧ yX10_whose.cls ≠ "java/lang/invoke/MethodHandle" ∧ yX10_whose.cls ≠ "java/lang/invoke/VarHandle" ∧ (parseMethodDescriptor yX10_whose.desc).map (fun d => d.parameters.length) = some 2 := by decide +kernel
theorem hd_X10_worth : yX10_worth.cls = RX10 ∧ yX10_worth.cls ≠ "java/lang/invoke/MethodHandle" ∧ yX10_worth.cls ≠ "java/lang/invoke/VarHandle" ∧ (parseMethodDescriptor yX10_worth.desc).map (fun d => d.parameters.length) = some 2 := by decide +kernel
theorem hd_X11_affords : yX11_affords.cls = RX11 ∧ yX11_affords.cls ≠ "java/lang/invoke/MethodHandle" ∧ yX11_affords.cls ≠ "java/lang/invoke/VarHandle" ∧ (parseMethodDescriptor yX11_affords.desc).map (fun d => d.parameters.length) = some 1 := by decide +kernel
theorem hd_X11_annul : yX11_annul.cls = RX11 ∧ yX11_annul.cls ≠ "java/lang/invoke/MethodHandle" ∧ yX11_annul.cls ≠ "java/lang/invoke/VarHandle" ∧ (parseMethodDescriptor yX11_annul.desc).map (fun d => d.parameters.length) = some 0 := by decide +kernel
theorem hd_X11_apart : yX11_apart.cls = RX11 ∧ yX11_apart.cls ≠ "java/lang/invoke/MethodHandle" ∧ yX11_apart.cls ≠ "java/lang/invoke/VarHandle" ∧ (parseMethodDescriptor yX11_apart.desc).map (fun d => d.parameters.length) = some 1 := by decide +kernel
theorem hd_X11_back : yX11_back.cls = RX11 ∧ yX11_back.cls ≠ "java/lang/invoke/MethodHandle" ∧ yX11_back.cls ≠ "java/lang/invoke/VarHandle" ∧ (parseMethodDescriptor yX11_back.desc).map (fun d => d.parameters.length) = some 0 := by decide +kernel
theorem hd_X11_belief : yX11_belief.cls = RX11 ∧ yX11_belief.cls ≠ "java/lang/invoke/MethodHandle" ∧ yX11_belief.cls ≠ "java/lang/invoke/VarHandle" ∧ (parseMethodDescriptor yX11_belief.desc).map (fun d => d.parameters.length) = some 2 := by decide +kernel
theorem hd_X11_bribes : yX11_bribes.cls = RX11 ∧ yX11_bribes.cls ≠ "java/lang/invoke/MethodHandle" ∧ yX11_bribes.cls ≠ "java/lang/invoke/VarHandle" ∧ (parseMethodDescriptor yX11_bribes.desc).map (fun d => d.parameters.length) = some 1 := by decide +kernel
theorem hd_X11_bride : yX11_bride.cls = RX11 ∧ yX11_bride.cls ≠ "java/lang/invoke/MethodHandle" ∧ yX11_bride.cls ≠ "java/lang/invoke/VarHandle" ∧ (parseMethodDescriptor yX11_bride.desc).map (fun d => d.parameters.length) = some 2 := by decide +kernel
theorem hd_X11_cheapest : yX11_cheapest.cls = RX11 ∧ yX11_cheapest.cls ≠ "java/lang/invoke/MethodHandle" ∧ yX11_cheapest.cls ≠ "java/lang/invoke/VarHandle" ∧ (parseMethodDescriptor yX11_cheapest.desc).map (fun d => d.parameters.length) = some 2 := by decide +kernel
theorem hd_X11_chooses : yX11_chooses.cls = RX11 ∧ yX11_chooses.cls ≠ "java/lang/invoke/MethodHandle" ∧ yX11_chooses.cls ≠ "java/lang/invoke/VarHandle" ∧ (parseMethodDescriptor yX11_chooses.desc).map (fun d => d.parameters.length) = some 1 := by decide +kernel
theorem hd_X11_count : yX11_count.cls = RX11 ∧ yX11_count.cls ≠ "java/lang/invoke/MethodHandle" ∧ yX11_count.cls ≠ "java/lang/invoke/VarHandle" ∧ (parseMethodDescriptor yX11_count.desc).map (fun d => d.parameters.length) = some 1 := by decide +kernel
theorem hd_X11_decades : yX11_decades.cls = RX11 ∧ yX11_decades.cls ≠ "java/lang/invoke/MethodHandle" ∧ yX11_decades.cls ≠ "java/lang/invoke/VarHandle" ∧ (parseMethodDescriptor yX11_decades.desc).map (fun d => d.parameters.length) = some 2 := by decide +kernel
theorem hd_X11_end : yX11_end.cls = RX11 ∧ yX11_end.cls ≠ "java/lang/invoke/MethodHandle" ∧ yX11_end.cls ≠ "java/lang/invoke/VarHandle" ∧ (parseMethodDescriptor yX11_end.desc).map (fun d => d.parameters.length) = some 1 := by decide +kernel
theorem hd_X11_fault : yX11_fault.cls = RX11 ∧ yX11_fault.cls ≠ "java/lang/invoke/MethodHandle" ∧ yX11_fault.cls ≠ "java/lang/invoke/VarHandle" ∧ (parseMethodDescriptor yX11_fault.desc).map (fun d => d.parameters.length) = some 1 := by decide +kernel
theorem hd_X11_feed : yX11_feed.cls = RX11 ∧ yX11_feed.cls ≠ "java/lang/invoke/MethodHandle" ∧ yX11_feed.cls ≠ "java/lang/invoke/VarHandle" ∧ (parseMethodDescriptor yX11_feed.desc).map (fun d => d.parameters.length) = some 5 := by decide +kernel
theorem hd_X11_fits : yX11_fits.cls = RX11 ∧ yX11_fits.cls ≠ "java/lang/invoke/MethodHandle" ∧ yX11_fits.cls ≠ "java/lang/invoke/VarHandle" ∧ (parseMethodDescriptor yX11_fits.desc).map (fun d => d.parameters.length) = some 1 := by decide +kernel
theorem hd_X11_flattery : yX11_flattery.cls = RX11 ∧ yX11_flattery.cls ≠ "java/lang/invoke/MethodHandle" ∧ yX11_flattery.cls ≠ "java/lang/invoke/VarHandle" ∧ (parseMethodDescriptor yX11_flattery.desc).map (fun d => d.parameters.length) = some 2 := by decide +kernel
theorem hd_X11_game : yX11_game.cls = RX11 ∧ yX11_game.cls ≠ "java/lang/invoke/MethodHandle" ∧ yX11_game.cls ≠ "java/lang/invoke/VarHandle" ∧ (parseMethodDescriptor yX11_game.desc).map (fun d => d.parameters.length) = some 6 := by decide +kernel
theorem hd_X11_heads : yX11_heads.cls = RX11 ∧ yX11_heads.cls ≠ "java/lang/invoke/MethodHandle" ∧ yX11_heads.cls ≠ "java/lang/invoke/VarHandle" ∧ (parseMethodDescriptor yX11_heads.desc).map (fun d => d.parameters.length) = some 3 := by decide +kernel
theorem hd_X11_image : yX11_image.cls = RX11 ∧ yX11_image.cls ≠ "java/lang/invoke/MethodHandle" ∧ yX11_image.cls ≠ "java/lang/invoke/VarHandle" ∧ (parseMethodDescriptor yX11_image.desc).map (fun d => d.parameters.length) = some 0 := by decide +kernel
theorem hd_X11_law : yX11_law.cls = RX11 ∧ yX11_law.cls ≠ "java/lang/invoke/MethodHandle" ∧ yX11_law.cls ≠ "java/lang/invoke/VarHandle" ∧ (parseMethodDescriptor yX11_law.desc).map (fun d => d.parameters.length) = some 1 := by decide +kernel
theorem hd_X11_letter : yX11_letter.cls = RX11 ∧ yX11_letter.cls ≠ "java/lang/invoke/MethodHandle" ∧ yX11_letter.cls ≠ "java/lang/invoke/VarHandle" ∧ (parseMethodDescriptor yX11_letter.desc).map (fun d => d.parameters.length) = some 1 := by decide +kernel
theorem hd_X11_likely : yX11_likely.cls = RX11 ∧ yX11_likely.cls ≠ "java/lang/invoke/MethodHandle" ∧ yX11_likely.cls ≠ "java/lang/invoke/VarHandle" ∧ (parseMethodDescriptor yX11_likely.desc).map (fun d => d.parameters.length) = some 2 := by decide +kernel
theorem hd_X11_looks : yX11_looks.cls = RX11 ∧ yX11_looks.cls ≠ "java/lang/invoke/MethodHandle" ∧ yX11_looks.cls ≠ "java/lang/invoke/VarHandle" ∧ (parseMethodDescriptor yX11_looks.desc).map (fun d => d.parameters.length) = some 1 := by decide +kernel
theorem hd_X11_matched : yX11_matched.cls = RX11 ∧ yX11_matched.cls ≠ "java/lang/invoke/MethodHandle" ∧ yX11_matched.cls ≠ "java/lang/invoke/VarHandle" ∧ (parseMethodDescriptor yX11_matched.desc).map (fun d => d.parameters.length) = some 1 := by decide +kernel
theorem hd_X11_months : yX11_months.cls = RX11 ∧ yX11_months.cls ≠ "java/lang/invoke/MethodHandle" ∧ yX11_months.cls ≠ "java/lang/invoke/VarHandle" ∧ (parseMethodDescriptor yX11_months.desc).map (fun d => d.parameters.length) = some 1 := by decide +kernel
theorem hd_X11_most : yX11_most.cls = RX11 ∧ yX11_most.cls ≠ "java/lang/invoke/MethodHandle" ∧ yX11_most.cls ≠ "java/lang/invoke/VarHandle" ∧ (parseMethodDescriptor yX11_most.desc).map (fun d => d.parameters.length) = some 1 := by decide +kernel
theorem hd_X11_next : yX11_next.cls = RX11 ∧ yX11_next.cls ≠ "java/lang/invoke/MethodHandle" ∧ yX11_next.cls ≠ "java/lang/invoke/VarHandle" ∧ (parseMethodDescriptor yX11_next.desc).map (fun d => d.parameters.length) = some 1 := by decide +kernel
theorem hd_X11_paint : yX11_paint.cls = RX11 ∧ yX11_paint.cls ≠ "java/lang/invoke/MethodHandle" ∧ yX11_paint.cls ≠ "java/lang/invoke/VarHandle" ∧ (parseMethodDescriptor yX11_paint.desc).map (fun d => d.parameters.length) = some 2 := by decide +kernel
theorem hd_X11_painter : yX11_painter.cls = RX11 ∧ yX11_painter.cls ≠ "java/lang/invoke/MethodHandle" ∧ yX11_painter.cls ≠ "java/lang/invoke/VarHandle" ∧ (parseMethodDescriptor yX11_painter.desc).map (fun d => d.parameters.length) = some 2 := by decide +kernel
theorem hd_X11_pay : yX11_pay.cls = RX11 ∧ yX11_pay.cls ≠ "java/lang/invoke/MethodHandle" ∧ yX11_pay.cls ≠ "java/lang/invoke/VarHandle" ∧ (parseMethodDescriptor yX11_pay.desc).map (fun d => d.parameters.length) = some 2 := by decide +kernel
theorem hd_X11_portrait : yX11_portrait.cls = RX11 ∧ yX11_portrait.cls ≠ "java/lang/invoke/MethodHandle" ∧ yX11_portrait.cls ≠ "java/lang/invoke/VarHandle" ∧ (parseMethodDescriptor yX11_portrait.desc).map (fun d => d.parameters.length) = some 2 := by decide +kernel
theorem hd_X11_rests : yX11_rests.cls = RX11 ∧ yX11_rests.cls ≠ "java/lang/invoke/MethodHandle" ∧ yX11_rests.cls ≠ "java/lang/invoke/VarHandle" ∧ (parseMethodDescriptor yX11_rests.desc).map (fun d => d.parameters.length) = some 4 := by decide +kernel
theorem hd_X11_rivals : yX11_rivals.cls = RX11 ∧ yX11_rivals.cls ≠ "java/lang/invoke/MethodHandle" ∧ yX11_rivals.cls ≠ "java/lang/invoke/VarHandle" ∧ (parseMethodDescriptor yX11_rivals.desc).map (fun d => d.parameters.length) = some 1 := by decide +kernel
theorem hd_X11_rule : yX11_rule.cls = RX11 ∧ yX11_rule.cls ≠ "java/lang/invoke/MethodHandle" ∧ yX11_rule.cls ≠ "java/lang/invoke/VarHandle" ∧ (parseMethodDescriptor yX11_rule.desc).map (fun d => d.parameters.length) = some 1 := by decide +kernel
theorem hd_X11_saves : yX11_saves.cls = RX11 ∧ yX11_saves.cls ≠ "java/lang/invoke/MethodHandle" ∧ yX11_saves.cls ≠ "java/lang/invoke/VarHandle" ∧ (parseMethodDescriptor yX11_saves.desc).map (fun d => d.parameters.length) = some 1 := by decide +kernel
theorem hd_X11_seen : yX11_seen.cls = RX11 ∧ yX11_seen.cls ≠ "java/lang/invoke/MethodHandle" ∧ yX11_seen.cls ≠ "java/lang/invoke/VarHandle" ∧ (parseMethodDescriptor yX11_seen.desc).map (fun d => d.parameters.length) = some 1 := by decide +kernel
theorem hd_X11_shoe : yX11_shoe.cls = RX11 ∧ yX11_shoe.cls ≠ "java/lang/invoke/MethodHandle" ∧ yX11_shoe.cls ≠ "java/lang/invoke/VarHandle" ∧ (parseMethodDescriptor yX11_shoe.desc).map (fun d => d.parameters.length) = some 1 := by decide +kernel
theorem hd_X11_shown : yX11_shown.cls = RX11 ∧ yX11_shown.cls ≠ "java/lang/invoke/MethodHandle" ∧ yX11_shown.cls ≠ "java/lang/invoke/VarHandle" ∧ (parseMethodDescriptor yX11_shown.desc).map (fun d => d.parameters.length) = some 3 := by decide +kernel
theorem hd_X11_status : yX11_status.cls = RX11 ∧ yX11_status.cls ≠ "java/lang/invoke/MethodHandle" ∧ yX11_status.cls ≠ "java/lang/invoke/VarHandle" ∧ (parseMethodDescriptor yX11_status.desc).map (fun d => d.parameters.length) = some 1 := by decide +kernel
theorem hd_X11_sure : yX11_sure.cls = RX11 ∧ yX11_sure.cls ≠ "java/lang/invoke/MethodHandle" ∧ yX11_sure.cls ≠ "java/lang/invoke/VarHandle" ∧ (parseMethodDescriptor yX11_sure.desc).map (fun d => d.parameters.length) = some 2 := by decide +kernel
theorem hd_X11_text : yX11_text.cls = RX11 ∧ yX11_text.cls ≠ "java/lang/invoke/MethodHandle" ∧ yX11_text.cls ≠ "java/lang/invoke/VarHandle" ∧ (parseMethodDescriptor yX11_text.desc).map (fun d => d.parameters.length) = some 1 := by decide +kernel
theorem hd_X11_threaten : yX11_threaten.cls = RX11 ∧ yX11_threaten.cls ≠ "java/lang/invoke/MethodHandle" ∧ yX11_threaten.cls ≠ "java/lang/invoke/VarHandle" ∧ (parseMethodDescriptor yX11_threaten.desc).map (fun d => d.parameters.length) = some 1 := by decide +kernel
theorem hd_X11_told : yX11_told.cls = RX11 ∧ yX11_told.cls ≠ "java/lang/invoke/MethodHandle" ∧ yX11_told.cls ≠ "java/lang/invoke/VarHandle" ∧ (parseMethodDescriptor yX11_told.desc).map (fun d => d.parameters.length) = some 1 := by decide +kernel
theorem hd_X11_truth : yX11_truth.cls = RX11 ∧ yX11_truth.cls ≠ "java/lang/invoke/MethodHandle" ∧ yX11_truth.cls ≠ "java/lang/invoke/VarHandle" ∧ (parseMethodDescriptor yX11_truth.desc).map (fun d => d.parameters.length) = some 2 := by decide +kernel
theorem hd_X11_undo : yX11_undo.cls = RX11 ∧ yX11_undo.cls ≠ "java/lang/invoke/MethodHandle" ∧ yX11_undo.cls ≠ "java/lang/invoke/VarHandle" ∧ (parseMethodDescriptor yX11_undo.desc).map (fun d => d.parameters.length) = some 0 := by decide +kernel
theorem hd_X11_wed : yX11_wed.cls = RX11 ∧ yX11_wed.cls ≠ "java/lang/invoke/MethodHandle" ∧ yX11_wed.cls ≠ "java/lang/invoke/VarHandle" ∧ (parseMethodDescriptor yX11_wed.desc).map (fun d => d.parameters.length) = some 1 := by decide +kernel
theorem hd_X11_whose : yX11_whose.cls = RX11 ∧ yX11_whose.cls ≠ "java/lang/invoke/MethodHandle" ∧ yX11_whose.cls ≠ "java/lang/invoke/VarHandle" ∧ (parseMethodDescriptor yX11_whose.desc).map (fun d => d.parameters.length) = some 2 := by decide +kernel
theorem hd_X11_worth : yX11_worth.cls = RX11 ∧ yX11_worth.cls ≠ "java/lang/invoke/MethodHandle" ∧ yX11_worth.cls ≠ "java/lang/invoke/VarHandle" ∧ (parseMethodDescriptor yX11_worth.desc).map (fun d => d.parameters.length) = some 2 := by decide +kernel
abbrev zSy : Type := ((Int → Int) × Int) × Int32 × Int32 × (Int32 × Int32 × zK3) × zLh × zT × (Int32 × zS)
abbrev zVc : Type := (Nat × Nat × Nat × Nat × Nat × Nat × Nat × Nat) × (Nat × Nat × Nat × Nat × Nat × Int32 × Int32 × Int32) × (Int32 × Nat × Int32 × Int32 × (Nat → Int32) × Value × Value × Int32) × (Nat × Int32 × Value × (Nat → Int32) × Nat × Nat × Nat × Int32) × (Int32 × (Nat → Int32) × (Nat → Int32) × (Nat → Int32) × Nat × Nat × Nat × Int32) × (Int32 × (Nat → Int32) × (Nat → Int32) × (Nat → Int32) × (Nat → Option Nat) × Nat × Nat × Nat) × (Int32 × Int32 × Int32 × Int32 × Int32 × Int32 × (Nat → Int32) × (Nat → Int32)) × ((Nat → Int32) × Nat × Nat × Nat × Int32 × Int32 × Int32 × Int32) × (Int32 × Int32 × (Nat → Int32) × (Nat → Int32) × (Nat → Int32) × Nat × Int32 × Int32) × ((Nat → Int32) × Nat × Nat × Nat × Nat × Value × (Nat → Int32) × (Nat → Int32)) × ((Nat → Int32) × (Nat → Int32) × Nat × Int64 × Int32 × Nat × Nat × Nat) × ((Nat → Int64) × (Nat → Int32) × (Nat → Int32) × (Nat → Int32) × Int64 × (Nat → Int32))
abbrev zVr : Type := (Int32 × Nat × Int32 × Int32 × Int32 × Int32 × Nat × Nat) × (Nat × Nat × Nat × Nat × Nat × Int32 × Int32 × Nat) × (Nat × Nat × Nat × Nat × Int32 × Int32 × Nat × Nat) × (Nat × Int32 × Int32 × Nat × Nat × Int32 × Int32 × Nat) × (Int32 × Int64 × Nat × Int32 × Int32 × Nat × Nat × Nat) × (Int32 × (Nat → Int32) × (Nat → Int32) × (Nat → Int32) × (Nat → Int32) × (Nat → Int32) × (Nat → Int32) × (Nat → Int32)) × ((Nat → Int32) × (Nat → Int32) × (Nat → Int32) × (Nat → Int32) × (Nat → Int32) × (Nat → Int32) × (Nat → Int32) × (Nat → Int32)) × ((Nat → Int32) × (Nat → Int32) × (Nat → Int32) × (Nat → Int32) × (Nat → Int32) × (Nat → Int32) × (Nat → Int32) × (Nat → Int32))
def zOkG (sg : zSy) : Prop := zOkS sg.2.2.2.1 sg.2.2.2.2.2.1 sg.2.2.2.2.2.2 ∧ -1 ≤ sg.2.2.2.2.1.1.toInt ∧ sg.2.2.2.2.1.1.toInt < sg.2.1.toInt
def zXC (cI cJ cQ : ClassId) (h0 : Nat) (V : zVc) : va_W := [(h0, .inr (10, [.ref V.1.1, .ref V.1.2.1, .ref V.1.2.2.1, .ref V.1.2.2.2.1, .ref V.1.2.2.2.2.1, .ref V.1.2.2.2.2.2.1, .ref V.1.2.2.2.2.2.2.1, .ref V.1.2.2.2.2.2.2.2, .ref V.2.1.1, .ref V.2.1.2.1, .ref V.2.1.2.2.1, .ref V.2.1.2.2.2.1, .ref V.2.1.2.2.2.2.1, .int (V.2.1.2.2.2.2.2.1), .int (V.2.1.2.2.2.2.2.2.1), .int (V.2.1.2.2.2.2.2.2.2), .int (V.2.2.1.1)])), (V.1.1, .inr (9, [.ref V.2.2.1.2.1, .int (V.2.2.1.2.2.1), .int (V.2.2.1.2.2.2.1)])), (V.2.2.1.2.1, .inl (cI, 260, .inl (V.2.2.1.2.2.2.2.1))), (V.1.2.1, .inr (2, [V.2.2.1.2.2.2.2.2.1, V.2.2.1.2.2.2.2.2.2.1, .int (V.2.2.1.2.2.2.2.2.2.2)])), (V.1.2.2.1, .inr (5, [.ref V.2.2.2.1.1, .int (V.2.2.2.1.2.1), V.2.2.2.1.2.2.1])), (V.2.2.2.1.1, .inl (cI, 241, .inl (V.2.2.2.1.2.2.2.1))), (V.1.2.2.2.1, .inr (1, [.ref V.2.2.2.1.2.2.2.2.1, .ref V.2.2.2.1.2.2.2.2.2.1, .ref V.2.2.2.1.2.2.2.2.2.2.1, .int (V.2.2.2.1.2.2.2.2.2.2.2), .int (V.2.2.2.2.1.1)])), (V.2.2.2.1.2.2.2.2.1, .inl (cI, 3, .inl (V.2.2.2.2.1.2.1))), (V.2.2.2.1.2.2.2.2.2.1, .inl (cI, 24, .inl (V.2.2.2.2.1.2.2.1))), (V.2.2.2.1.2.2.2.2.2.2.1, .inl (cI, 20, .inl (V.2.2.2.2.1.2.2.2.1))), (V.1.2.2.2.2.1, .inr (1, [.ref V.2.2.2.2.1.2.2.2.2.1, .ref V.2.2.2.2.1.2.2.2.2.2.1, .ref V.2.2.2.2.1.2.2.2.2.2.2.1, .int (V.2.2.2.2.1.2.2.2.2.2.2.2), .int (V.2.2.2.2.2.1.1)])), (V.2.2.2.2.1.2.2.2.2.1, .inl (cI, 3, .inl (V.2.2.2.2.2.1.2.1))), (V.2.2.2.2.1.2.2.2.2.2.1, .inl (cI, 24, .inl (V.2.2.2.2.2.1.2.2.1))), (V.2.2.2.2.1.2.2.2.2.2.2.1, .inl (cI, 20, .inl (V.2.2.2.2.2.1.2.2.2.1))), (V.1.2.2.2.2.2.1, .inl (cQ, 4, .inr (.inr (.inr (.inr (V.2.2.2.2.2.1.2.2.2.2.1)))))), (V.1.2.2.2.2.2.2.1, .inr (7, [.ref V.2.2.2.2.2.1.2.2.2.2.2.1, .ref V.2.2.2.2.2.1.2.2.2.2.2.2.1, .ref V.2.2.2.2.2.1.2.2.2.2.2.2.2, .int (V.2.2.2.2.2.2.1.1), .int (V.2.2.2.2.2.2.1.2.1), .int (V.2.2.2.2.2.2.1.2.2.1), .int (V.2.2.2.2.2.2.1.2.2.2.1), .int (V.2.2.2.2.2.2.1.2.2.2.2.1), .int (V.2.2.2.2.2.2.1.2.2.2.2.2.1)])), (V.2.2.2.2.2.1.2.2.2.2.2.1, .inl (cI, 6, .inl (V.2.2.2.2.2.2.1.2.2.2.2.2.2.1))), (V.2.2.2.2.2.1.2.2.2.2.2.2.1, .inl (cI, 5, .inl (V.2.2.2.2.2.2.1.2.2.2.2.2.2.2))), (V.2.2.2.2.2.1.2.2.2.2.2.2.2, .inl (cI, 80, .inl (V.2.2.2.2.2.2.2.1.1))), (V.1.2.2.2.2.2.2.2, .inr (7, [.ref V.2.2.2.2.2.2.2.1.2.1, .ref V.2.2.2.2.2.2.2.1.2.2.1, .ref V.2.2.2.2.2.2.2.1.2.2.2.1, .int (V.2.2.2.2.2.2.2.1.2.2.2.2.1), .int (V.2.2.2.2.2.2.2.1.2.2.2.2.2.1), .int (V.2.2.2.2.2.2.2.1.2.2.2.2.2.2.1), .int (V.2.2.2.2.2.2.2.1.2.2.2.2.2.2.2), .int (V.2.2.2.2.2.2.2.2.1.1), .int (V.2.2.2.2.2.2.2.2.1.2.1)])), (V.2.2.2.2.2.2.2.1.2.1, .inl (cI, 6, .inl (V.2.2.2.2.2.2.2.2.1.2.2.1))), (V.2.2.2.2.2.2.2.1.2.2.1, .inl (cI, 5, .inl (V.2.2.2.2.2.2.2.2.1.2.2.2.1))), (V.2.2.2.2.2.2.2.1.2.2.2.1, .inl (cI, 80, .inl (V.2.2.2.2.2.2.2.2.1.2.2.2.2.1))), (V.2.1.1, .inr (0, [.ref V.2.2.2.2.2.2.2.2.1.2.2.2.2.2.1, .int (V.2.2.2.2.2.2.2.2.1.2.2.2.2.2.2.1), .int (V.2.2.2.2.2.2.2.2.1.2.2.2.2.2.2.2)])), (V.2.2.2.2.2.2.2.2.1.2.2.2.2.2.1, .inl (cI, 680, .inl (V.2.2.2.2.2.2.2.2.2.1.1))), (V.2.1.2.1, .inr (8, [.ref V.2.2.2.2.2.2.2.2.2.1.2.1, .ref V.2.2.2.2.2.2.2.2.2.1.2.2.1, .ref V.1.2.2.2.2.1, .ref V.1.2.2.2.2.2.2.1, .ref V.2.2.2.2.2.2.2.2.2.1.2.2.2.1, .ref V.2.2.2.2.2.2.2.2.2.1.2.2.2.2.1, V.2.2.2.2.2.2.2.2.2.1.2.2.2.2.2.1])), (V.2.2.2.2.2.2.2.2.2.1.2.1, .inl (cI, 10, .inl (V.2.2.2.2.2.2.2.2.2.1.2.2.2.2.2.2.1))), (V.2.2.2.2.2.2.2.2.2.1.2.2.1, .inl (cI, 10, .inl (V.2.2.2.2.2.2.2.2.2.1.2.2.2.2.2.2.2))), (V.2.2.2.2.2.2.2.2.2.1.2.2.2.1, .inl (cI, 6, .inl (V.2.2.2.2.2.2.2.2.2.2.1.1))), (V.2.2.2.2.2.2.2.2.2.1.2.2.2.2.1, .inl (cI, 32, .inl (V.2.2.2.2.2.2.2.2.2.2.1.2.1))), (V.2.1.2.2.1, .inr (6, [.ref V.1.2.2.2.2.1, .ref V.1.2.2.2.2.2.2.1, .ref V.2.1.2.1, .ref V.2.2.2.2.2.2.2.2.2.2.1.2.2.1, .long (V.2.2.2.2.2.2.2.2.2.2.1.2.2.2.1), .int (V.2.2.2.2.2.2.2.2.2.2.1.2.2.2.2.1), .ref V.2.2.2.2.2.2.2.2.2.2.1.2.2.2.2.2.1, .ref V.2.2.2.2.2.2.2.2.2.2.1.2.2.2.2.2.2.1, .ref V.2.2.2.2.2.2.2.2.2.2.1.2.2.2.2.2.2.2])), (V.2.2.2.2.2.2.2.2.2.2.1.2.2.1, .inl (cJ, 10, .inr (.inl (V.2.2.2.2.2.2.2.2.2.2.2.1)))), (V.2.2.2.2.2.2.2.2.2.2.1.2.2.2.2.2.1, .inl (cI, 10, .inl (V.2.2.2.2.2.2.2.2.2.2.2.2.1))), (V.2.2.2.2.2.2.2.2.2.2.1.2.2.2.2.2.2.1, .inl (cI, 10, .inl (V.2.2.2.2.2.2.2.2.2.2.2.2.2.1))), (V.2.2.2.2.2.2.2.2.2.2.1.2.2.2.2.2.2.2, .inl (cI, 45, .inl (V.2.2.2.2.2.2.2.2.2.2.2.2.2.2.1))), (V.2.1.2.2.2.1, .inr (3, [.long (V.2.2.2.2.2.2.2.2.2.2.2.2.2.2.2.1)])), (V.2.1.2.2.2.2.1, .inl (cI, 5, .inl (V.2.2.2.2.2.2.2.2.2.2.2.2.2.2.2.2)))]
def zXR (cI : ClassId) (h0 : Nat) (V : zVr) : va_W := [(h0, .inr (11, [.int (V.1.1), .ref V.1.2.1, .int (V.1.2.2.1), .int (V.1.2.2.2.1), .int (V.1.2.2.2.2.1), .int (V.1.2.2.2.2.2.1), .ref V.1.2.2.2.2.2.2.1, .ref V.1.2.2.2.2.2.2.2, .ref V.2.1.1, .ref V.2.1.2.1, .ref V.2.1.2.2.1, .ref V.2.1.2.2.2.1, .ref V.2.1.2.2.2.2.1, .int (V.2.1.2.2.2.2.2.1), .int (V.2.1.2.2.2.2.2.2.1), .ref V.2.1.2.2.2.2.2.2.2, .ref V.2.2.1.1, .ref V.2.2.1.2.1, .ref V.2.2.1.2.2.1, .ref V.2.2.1.2.2.2.1, .int (V.2.2.1.2.2.2.2.1), .int (V.2.2.1.2.2.2.2.2.1), .ref V.2.2.1.2.2.2.2.2.2.1, .ref V.2.2.1.2.2.2.2.2.2.2, .ref V.2.2.2.1.1, .int (V.2.2.2.1.2.1), .int (V.2.2.2.1.2.2.1), .ref V.2.2.2.1.2.2.2.1, .ref V.2.2.2.1.2.2.2.2.1, .int (V.2.2.2.1.2.2.2.2.2.1), .int (V.2.2.2.1.2.2.2.2.2.2.1), .ref V.2.2.2.1.2.2.2.2.2.2.2, .int (V.2.2.2.2.1.1), .long (V.2.2.2.2.1.2.1), .ref V.2.2.2.2.1.2.2.1, .int (V.2.2.2.2.1.2.2.2.1), .int (V.2.2.2.2.1.2.2.2.2.1), .ref V.2.2.2.2.1.2.2.2.2.2.1, .ref V.2.2.2.2.1.2.2.2.2.2.2.1, .ref V.2.2.2.2.1.2.2.2.2.2.2.2, .int (V.2.2.2.2.2.1.1)])), (V.1.2.1, .inl (cI, 240, .inl (V.2.2.2.2.2.1.2.1))), (V.1.2.2.2.2.2.2.1, .inl (cI, 2600, .inl (V.2.2.2.2.2.1.2.2.1))), (V.1.2.2.2.2.2.2.2, .inl (cI, 2600, .inl (V.2.2.2.2.2.1.2.2.2.1))), (V.2.1.1, .inl (cI, 5, .inl (V.2.2.2.2.2.1.2.2.2.2.1))), (V.2.1.2.1, .inl (cI, 5, .inl (V.2.2.2.2.2.1.2.2.2.2.2.1))), (V.2.1.2.2.1, .inl (cI, 700, .inl (V.2.2.2.2.2.1.2.2.2.2.2.2.1))), (V.2.1.2.2.2.1, .inl (cI, 700, .inl (V.2.2.2.2.2.1.2.2.2.2.2.2.2))), (V.2.1.2.2.2.2.1, .inl (cI, 700, .inl (V.2.2.2.2.2.2.1.1))), (V.2.1.2.2.2.2.2.2.2, .inl (cI, 6, .inl (V.2.2.2.2.2.2.1.2.1))), (V.2.2.1.1, .inl (cI, 80, .inl (V.2.2.2.2.2.2.1.2.2.1))), (V.2.2.1.2.1, .inl (cI, 3, .inl (V.2.2.2.2.2.2.1.2.2.2.1))), (V.2.2.1.2.2.1, .inl (cI, 24, .inl (V.2.2.2.2.2.2.1.2.2.2.2.1))), (V.2.2.1.2.2.2.1, .inl (cI, 20, .inl (V.2.2.2.2.2.2.1.2.2.2.2.2.1))), (V.2.2.1.2.2.2.2.2.2.1, .inl (cI, 3, .inl (V.2.2.2.2.2.2.1.2.2.2.2.2.2.1))), (V.2.2.1.2.2.2.2.2.2.2, .inl (cI, 24, .inl (V.2.2.2.2.2.2.1.2.2.2.2.2.2.2))), (V.2.2.2.1.1, .inl (cI, 20, .inl (V.2.2.2.2.2.2.2.1))), (V.2.2.2.1.2.2.2.1, .inl (cI, 97, .inl (V.2.2.2.2.2.2.2.2.1))), (V.2.2.2.1.2.2.2.2.1, .inl (cI, 5, .inl (V.2.2.2.2.2.2.2.2.2.1))), (V.2.2.2.1.2.2.2.2.2.2.2, .inl (cI, 3880, .inl (V.2.2.2.2.2.2.2.2.2.2.1))), (V.2.2.2.2.1.2.2.1, .inl (cI, 10, .inl (V.2.2.2.2.2.2.2.2.2.2.2.1))), (V.2.2.2.2.1.2.2.2.2.2.1, .inl (cI, 6, .inl (V.2.2.2.2.2.2.2.2.2.2.2.2.1))), (V.2.2.2.2.1.2.2.2.2.2.2.1, .inl (cI, 5, .inl (V.2.2.2.2.2.2.2.2.2.2.2.2.2.1))), (V.2.2.2.2.1.2.2.2.2.2.2.2, .inl (cI, 97, .inl (V.2.2.2.2.2.2.2.2.2.2.2.2.2.2)))]
def zBC (V : zVc) : Prop := (0 ≤ V.2.2.2.2.2.2.2.2.1.2.2.2.2.2.2.2.toInt ∧ V.2.2.2.2.2.2.2.2.1.2.2.2.2.2.2.2.toInt ≤ 40) ∧ (0 ≤ V.2.2.2.1.2.2.2.2.2.2.2.toInt ∧ V.2.2.2.1.2.2.2.2.2.2.2.toInt ≤ 6) ∧ (0 ≤ V.2.2.2.2.1.1.toInt ∧ V.2.2.2.2.1.1.toInt ≤ 5) ∧ (0 ≤ V.2.2.2.2.2.2.1.1.toInt ∧ V.2.2.2.2.2.2.1.1.toInt ≤ 20) ∧ ((-1) ≤ V.2.2.2.2.2.2.1.2.2.2.1.toInt ∧ V.2.2.2.2.2.2.1.2.2.2.1.toInt ≤ 5) ∧ (0 ≤ V.2.2.1.1.toInt ∧ V.2.2.1.1.toInt ≤ 1) ∧ (0 ≤ V.2.2.1.2.2.2.2.2.2.2.toInt ∧ V.2.2.1.2.2.2.2.2.2.2.toInt ≤ 1) ∧ (0 ≤ V.2.2.2.2.2.2.2.1.2.2.2.2.1.toInt ∧ V.2.2.2.2.2.2.2.1.2.2.2.2.1.toInt ≤ 20) ∧ ((-1) ≤ V.2.2.2.2.2.2.2.1.2.2.2.2.2.2.2.toInt ∧ V.2.2.2.2.2.2.2.1.2.2.2.2.2.2.2.toInt ≤ 5) ∧ (0 ≤ V.2.1.2.2.2.2.2.1.toInt ∧ V.2.1.2.2.2.2.2.1.toInt ≤ 4) ∧ (0 ≤ V.2.2.2.2.2.2.2.2.2.2.1.2.2.2.2.1.toInt ∧ V.2.2.2.2.2.2.2.2.2.2.1.2.2.2.2.1.toInt ≤ 9) ∧ (0 ≤ V.2.2.2.2.1.2.2.2.2.2.2.2.toInt ∧ V.2.2.2.2.1.2.2.2.2.2.2.2.toInt ≤ 6) ∧ (0 ≤ V.2.2.2.2.2.1.1.toInt ∧ V.2.2.2.2.2.1.1.toInt ≤ 5) ∧ (0 ≤ V.2.2.2.2.2.2.2.2.1.2.2.2.2.2.2.1.toInt ∧ V.2.2.2.2.2.2.2.2.1.2.2.2.2.2.2.1.toInt ≤ 39) ∧ (0 ≤ V.2.2.2.1.2.1.toInt ∧ V.2.2.2.1.2.1.toInt ≤ 241) ∧ (0 ≤ V.2.2.1.2.2.2.1.toInt ∧ V.2.2.1.2.2.2.1.toInt ≤ 240) ∧ (0 ≤ V.2.2.1.2.2.1.toInt ∧ V.2.2.1.2.2.1.toInt ≤ 240) ∧ zPo V.2.2.2.2.2.2.2.1.1 ∧ zPo V.2.2.2.2.2.2.2.2.1.2.2.2.2.1 ∧ zRw V.2.2.2.2.2.2.2.2.2.1.1 ∧ zSt V.2.2.2.1.2.2.2.1
def zBR (V : zVr) : Prop := (0 ≤ V.2.2.2.2.1.1.toInt ∧ V.2.2.2.2.1.1.toInt ≤ 40) ∧ (0 ≤ V.2.2.2.2.2.1.1.toInt ∧ V.2.2.2.2.2.1.1.toInt ≤ 1) ∧ ((-1) ≤ V.2.2.2.1.2.2.2.2.2.1.toInt ∧ V.2.2.2.1.2.2.2.2.2.1.toInt ≤ 3) ∧ (0 ≤ V.2.1.2.2.2.2.2.1.toInt ∧ V.2.1.2.2.2.2.2.1.toInt ≤ 4) ∧ (0 ≤ V.2.2.2.1.2.1.toInt ∧ V.2.2.2.1.2.1.toInt ≤ 6) ∧ (0 ≤ V.2.2.2.1.2.2.1.toInt ∧ V.2.2.2.1.2.2.1.toInt ≤ 5) ∧ (0 ≤ V.2.2.1.2.2.2.2.1.toInt ∧ V.2.2.1.2.2.2.2.1.toInt ≤ 6) ∧ (0 ≤ V.2.2.1.2.2.2.2.2.1.toInt ∧ V.2.2.1.2.2.2.2.2.1.toInt ≤ 5) ∧ (0 ≤ V.1.2.2.2.1.toInt ∧ V.1.2.2.2.1.toInt ≤ 260) ∧ (0 ≤ V.1.2.2.1.toInt ∧ V.1.2.2.1.toInt ≤ 240) ∧ ((-1) ≤ V.1.2.2.2.2.1.toInt ∧ V.1.2.2.2.2.1.toInt ≤ 260) ∧ zNw V.2.2.2.1.2.2.1 V.2.2.2.2.2.2.2.2.1 ∧ zKp V.2.2.2.1.2.2.1 V.2.2.2.2.1.1 V.2.2.2.2.2.2.2.2.2.2.1 ∧ zIm V.2.2.2.1.2.2.1 V.2.2.2.2.2.1.1 V.2.2.2.2.2.2.2.2.2.2.2.2.2.2 ∧ zBr V.2.2.2.1.2.1 V.2.2.2.2.2.2.1.2.2.2.2.2.2.2 ∧ zBr V.2.2.2.1.2.2.1 V.2.2.2.2.2.2.2.1 ∧ zAs V.2.2.2.2.2.2.2.2.2.2.2.2.1 ∧ zHo V.2.2.2.2.2.2.2.2.2.2.2.2.2.1 ∧ zAl V.2.1.2.2.2.2.2.1 V.2.2.2.2.2.1.2.2.1 V.2.2.2.2.2.1.2.2.2.1 V.2.2.2.2.2.1.2.2.2.2.2.1 V.2.2.2.2.2.1.2.2.2.2.2.2.1 V.2.2.2.2.2.1.2.2.2.2.2.2.2 V.2.2.2.2.2.2.1.1 ∧ (V.2.2.2.1.2.1.toInt = 0 ∨ 1 ≤ V.2.2.2.1.2.2.1.toInt) ∧ V.2.2.2.1.2.2.2.2.2.1.toInt < V.2.1.2.2.2.2.2.1.toInt
def zAc (V : zVc) (sg : zSy) : Prop := zGt V.2.2.1.2.2.2.2.1 V.2.2.1.2.2.1 sg.1 ∧ V.2.1.2.2.2.2.2.1 = sg.2.1 ∧ V.2.1.2.2.2.2.2.2.2 = sg.2.2.1 ∧ zGc V.2.2.2.2.1.2.2.2.2.2.2.2 V.2.2.2.2.2.1.1 V.2.2.2.2.2.1.2.1 V.2.2.2.2.2.1.2.2.1 V.2.2.2.2.2.1.2.2.2.1 sg.2.2.2.1 ∧ V.2.1.2.2.2.2.2.2.1 = sg.2.2.2.2.1.1 ∧ zTc V.2.2.2.2.1.2.2.2.2.2.2.2.toInt V.2.2.2.2.2.1.1.toInt sg.2.2.2.2.2.1 V.2.2.2.2.2.2.1.2.2.2.2.2.2.1 V.2.2.2.2.2.2.1.2.2.2.2.2.2.2 V.2.2.2.2.2.2.2.1.1 V.2.2.2.2.2.2.1.1 V.2.2.2.2.2.2.1.2.1 V.2.2.2.2.2.2.1.2.2.1 V.2.2.2.2.2.2.1.2.2.2.1 V.2.2.2.2.2.2.1.2.2.2.2.1 V.2.2.2.2.2.2.1.2.2.2.2.2.1 V.2.2.2.2.2.2.2.2.2.1.1 V.2.2.2.2.2.2.2.2.1.2.2.2.2.2.2.1 V.2.2.2.2.2.2.2.2.1.2.2.2.2.2.2.2 V.2.2.2.2.2.2.2.2.2.2.2.2.2.2.2.2 ∧ zIc V.2.2.2.2.1.2.2.2.2.2.2.2.toInt V.2.2.2.2.2.1.1.toInt sg.2.2.2.2.2.2 V.2.2.1.1 V.2.2.2.2.2.2.2.2.1.2.2.1 V.2.2.2.2.2.2.2.2.1.2.2.2.1 V.2.2.2.2.2.2.2.2.1.2.2.2.2.1 V.2.2.2.2.2.2.2.1.2.2.2.2.1 V.2.2.2.2.2.2.2.1.2.2.2.2.2.1 V.2.2.2.2.2.2.2.1.2.2.2.2.2.2.1 V.2.2.2.2.2.2.2.1.2.2.2.2.2.2.2 V.2.2.2.2.2.2.2.2.1.1 V.2.2.2.2.2.2.2.2.1.2.1
def zAr (V : zVr) (sg : zSy) : Prop := zGt V.2.2.2.2.2.1.2.1 V.1.2.2.1 sg.1 ∧ V.2.1.2.2.2.2.2.1 = sg.2.1 ∧ V.2.2.2.1.2.2.2.2.2.2.1 = sg.2.2.1 ∧ zGc V.2.2.2.1.2.1 V.2.2.2.1.2.2.1 V.2.2.2.2.2.2.1.2.2.2.2.2.2.1 V.2.2.2.2.2.2.1.2.2.2.2.2.2.2 V.2.2.2.2.2.2.2.1 sg.2.2.2.1 ∧ V.2.2.2.1.2.2.2.2.2.1 = sg.2.2.2.2.1.1 ∧ zAls V.2.1.2.2.2.2.2.1 V.2.2.2.2.2.1.2.2.1 V.2.2.2.2.2.1.2.2.2.1 V.2.2.2.2.2.1.2.2.2.2.2.1 V.2.2.2.2.2.1.2.2.2.2.2.2.1 V.2.2.2.2.2.1.2.2.2.2.2.2.2 V.2.2.2.2.2.2.1.1 sg.2.2.2.2.1.2 ∧ zTr V.2.2.2.1.2.1.toInt V.2.2.2.1.2.2.1.toInt sg.2.2.2.2.2.1 V.2.2.2.2.2.2.2.2.1 V.2.2.2.2.2.2.2.2.2.2.1 V.2.2.2.2.1.1 V.2.2.2.2.2.2.2.2.2.1 ∧ zIr V.2.2.2.1.2.1.toInt V.2.2.2.1.2.2.1.toInt sg.2.2.2.2.2.2 V.2.2.2.2.2.1.1 V.2.2.2.2.2.2.2.2.2.2.2.2.2.2
/-- a law's two cells lie in the pool -/
def zLc (cI : ClassId) (pl : va_W) (a : Nat) (t : (Int → Int) × Int) : Prop := ∃ (b n : Nat) (f : Nat → Int32), (a, .inr (4, [.ref b])) ∈ pl ∧ (b, .inl (cI, n, .inl f)) ∈ pl ∧ n ≤ 241 ∧ zSt f ∧ zLwC f n t
def zPl (cI : ClassId) (pl : va_W) (lc : Int32) (g : Nat → Option Nat) (ts : Nat → (Int → Int) × Int) : Prop := ∀ j : Nat, (j : Int) < lc.toInt → ∃ a : Nat, g j = some a ∧ zLc cI pl a (ts j)
def zHd (cI : ClassId) (pl : va_W) (v : Value) (o : Option ((Int → Int) × Int)) : Prop := (v = .null ∧ o = none) ∨ ∃ (a : Nat) (t : (Int → Int) × Int), v = .ref a ∧ o = some t ∧ zLc cI pl a t
def zCi (cI cJ cQ : ClassId) (h0 : Nat) (sg : zSy) (C : va_W) : Prop := ∃ (V : zVc) (pl : va_W), C = zXC cI cJ cQ h0 V ++ pl ∧ zBC V ∧ zPl cI pl V.2.1.2.2.2.2.2.1 V.2.2.2.2.2.1.2.2.2.2.1 sg.2.2.2.2.1.2 ∧ zHd cI pl V.2.2.2.2.2.2.2.2.2.1.2.2.2.2.2.1 (zHo1 sg.2.2.2.2.1) ∧ zAc V sg
def zRi (cI : ClassId) (h0 : Nat) (sg : zSy) (C : va_W) : Prop := ∃ V : zVr, C = zXR cI h0 V ∧ zBR V ∧ zAr V sg
theorem zLc_m {cI : ClassId} {pl pl' : va_W} {a : Nat} {t : (Int → Int) × Int} (h : zLc cI pl a t) (hm : ∀ q, q ∈ pl → q ∈ pl') : zLc cI pl' a t := by
  obtain ⟨b, n, f, h1, h2, h3⟩ := h
  exact ⟨b, n, f, hm _ h1, hm _ h2, h3⟩
theorem zPl_m {cI : ClassId} {pl pl' : va_W} {lc : Int32} {g : Nat → Option Nat} {ts : Nat → (Int → Int) × Int} (h : zPl cI pl lc g ts) (hm : ∀ q, q ∈ pl → q ∈ pl') : zPl cI pl' lc g ts := fun j hj => by
  obtain ⟨a, h1, h2⟩ := h j hj
  exact ⟨a, h1, zLc_m h2 hm⟩
theorem zHd_m {cI : ClassId} {pl pl' : va_W} {v : Value} {o : Option ((Int → Int) × Int)} (h : zHd cI pl v o) (hm : ∀ q, q ∈ pl → q ∈ pl') : zHd cI pl' v o := h.elim Or.inl (fun ⟨a, t, h1, h2, h3⟩ => Or.inr ⟨a, t, h1, h2, zLc_m h3 hm⟩)
/-- a law is taken to hold -/
def sH_law (lw p : Int32) (l : zLh) : zLh := if -1 ≤ p.toInt ∧ p.toInt < lw.toInt then (p, l.2) else l
theorem zHd_la {cI : ClassId} {pl : va_W} {o old : Value} {lc lh lh' p r : Int32} {g : Nat → Option Nat} {l : zLh} (h : zHd cI pl old (zHo1 l)) (hl : lh = l.1) (hp : zPl cI pl lc g l.2) (hf : (r.toInt = 1 ∧ -1 ≤ p.toInt ∧ p.toInt < lc.toInt ∧ lh' = p ∧ (p.toInt = -1 → o = .null) ∧ (0 ≤ p.toInt → o = va_rf (g p.toNatClampNeg))) ∨ (r.toInt = 0 ∧ ¬ (-1 ≤ p.toInt ∧ p.toInt < lc.toInt) ∧ lh' = lh ∧ o = old)) : zHd cI pl o (zHo1 (sH_law lc p l)) ∧ lh' = (sH_law lc p l).1 ∧ (sH_law lc p l).2 = l.2 := by
  unfold sH_law
  rcases hf with ⟨-, h1, h2, h3, h4, h5⟩ | ⟨-, h1, h2, h3⟩
  · rw [if_pos ⟨h1, h2⟩]
    refine ⟨?_, h3, rfl⟩
    unfold zHo1
    by_cases q : p.toInt = -1
    · rw [if_pos q]
      exact Or.inl ⟨h4 q, rfl⟩
    · rw [if_neg q]
      obtain ⟨a, h6, h7⟩ := hp p.toInt.toNat (by omega)
      refine Or.inr ⟨a, _, ?_, rfl, h7⟩
      have e : p.toNatClampNeg = p.toInt.toNat := rfl
      rw [h5 (by omega), e, h6]
      rfl
  · rw [if_neg h1, h3]
    exact ⟨h, h2.trans hl, rfl⟩
/-- a text's law is the latest -/
def sH_text (t : (Int → Int) × Int) (lw p : Int32) (l : zLh) : zLh := (l.1, if p.toInt = 1 ∧ lw.toInt < 4 ∧ sLaw t.1 t.2 = -1 then zTup l.2 lw.toInt.toNat t else l.2)
theorem sH_text_n {t : (Int → Int) × Int} {lw p : Int32} {l : zLh} (h : ¬ p.toInt = 1) : (sH_text t lw p l).2 = l.2 := if_neg (fun y => h y.1)
theorem zHo1_text {t : (Int → Int) × Int} {lw p : Int32} {l : zLh} (h : l.1.toInt < lw.toInt) (h1 : -1 ≤ l.1.toInt) : zHo1 (sH_text t lw p l) = zHo1 l := by
  unfold zHo1 sH_text
  by_cases q : l.1.toInt = -1
  · rw [if_pos q, if_pos q]
  · rw [if_neg q, if_neg q]
    by_cases c : p.toInt = 1 ∧ lw.toInt < 4 ∧ sLaw t.1 t.2 = -1
    · rw [if_pos c]
      unfold zTup
      dsimp only
      rw [if_neg (by omega)]
    · rw [if_neg c]
theorem zPl_t1 {cI : ClassId} {pl pl1 : va_W} {lc lc' p : Int32} {g g' : Nat → Option Nat} {l : zLh} {t : (Int → Int) × Int} (h : zPl cI pl lc g l.2) (ht : zT1 cI lc lc' g g' pl1 t) (h0 : 0 ≤ lc.toInt) (hl : lc' = sL_text t lc p) (h4 : lc.toInt ≤ 4) : zPl cI (pl1 ++ pl) lc' g' (sH_text t lc p l).2 := by
  unfold sL_text at hl
  unfold sH_text
  by_cases c : p.toInt = 1 ∧ lc.toInt < 4 ∧ sLaw t.1 t.2 = -1
  · rw [if_pos c] at hl ⊢
    have hl : lc'.toInt = lc.toInt + 1 := by rw [hl, Int32.toInt_ofInt_of_le (by omega) (by omega)]
    rcases ht with ⟨-, e, -⟩ | ⟨h3, -, a, b, n, f, rfl, rfl, hn, hf, hw⟩
    · rw [e] at hl
      omega
    · intro j hj
      unfold zTup
      dsimp only
      have e : lc.toNatClampNeg = lc.toInt.toNat := rfl
      by_cases q : j = lc.toInt.toNat
      · refine ⟨a, ?_, ?_⟩
        · rw [q, e]
          simp [va_up]
        · rw [if_pos q]
          exact ⟨b, n, f, List.mem_append_left _ (List.mem_cons_self ..), List.mem_append_left _ (List.mem_cons_of_mem _ (List.mem_cons_self ..)), hn, hf, hw⟩
      · obtain ⟨a', h1, h2⟩ := h j (by omega)
        refine ⟨a', ?_, by rw [if_neg q]; exact zLc_m h2 (fun q hq => List.mem_append_right _ hq)⟩
        rw [← h1]
        simp [va_up]
        exact fun z => absurd (z.trans e) q
  · rw [if_neg c] at hl ⊢
    rcases ht with ⟨rfl, -, rfl⟩ | ⟨h3, e, -⟩
    · rw [hl]
      exact h
    · rw [hl] at e
      omega
theorem sH_law_2 {lw p : Int32} {l : zLh} : (sH_law lw p l).2 = l.2 := by
  unfold sH_law
  by_cases q : -1 ≤ p.toInt ∧ p.toInt < lw.toInt
  · rw [if_pos q]
  · rw [if_neg q]
theorem sH_law_b {lw p : Int32} {l : zLh} (h : -1 ≤ l.1.toInt ∧ l.1.toInt < lw.toInt) : -1 ≤ (sH_law lw p l).1.toInt ∧ (sH_law lw p l).1.toInt < lw.toInt := by
  unfold sH_law
  by_cases q : -1 ≤ p.toInt ∧ p.toInt < lw.toInt
  · rw [if_pos q]
    exact q
  · rw [if_neg q]
    exact h
theorem zs_lawH {lw p ho ho' r : Int32} {l : zLh} (hl : ho = l.1) (h : (r.toInt = 1 ∧ -1 ≤ p.toInt ∧ p.toInt < lw.toInt ∧ ho' = p) ∨ (r.toInt = 0 ∧ ¬ (-1 ≤ p.toInt ∧ p.toInt < lw.toInt) ∧ ho' = ho)) : ho' = (sH_law lw p l).1 := by
  unfold sH_law
  rcases h with ⟨-, h1, h2, h3⟩ | ⟨-, h1, h2⟩
  · rw [if_pos ⟨h1, h2⟩]
    exact h3
  · rw [if_neg h1]
    exact h2.trans hl
theorem sL_text_b {t : (Int → Int) × Int} {lw p : Int32} {l : zLh} (h : -1 ≤ l.1.toInt ∧ l.1.toInt < lw.toInt) : -1 ≤ (sH_text t lw p l).1.toInt ∧ (sH_text t lw p l).1.toInt < (sL_text t lw p).toInt := by
  have e : (sH_text t lw p l).1 = l.1 := rfl
  rw [e]
  unfold sL_text
  by_cases c : p.toInt = 1 ∧ lw.toInt < 4 ∧ sLaw t.1 t.2 = -1
  · rw [if_pos c, Int32.toInt_ofInt_of_le (by omega) (by omega)]
    omega
  · rw [if_neg c]
    exact h
theorem zs_textT {t : (Int → Int) × Int} {T : zT} {im : Int32 × zS} {p : Int32} (h : ¬ p.toInt = 0) : sTT_text t T p = T ∧ sI_text t im p = im := by
  unfold sTT_text sI_text
  rw [if_neg (fun y => h y.1), if_neg (fun y => h y.1)]
  exact ⟨rfl, rfl⟩
theorem zs_textN {sg : zSy} {p : Int32} (h0 : ¬ p.toInt = 0) (h1 : ¬ p.toInt = 1) : (sT_text sg.1 sg.2.1 p, sL_text sg.1 sg.2.1 p, sg.2.2.1, sK_text sg.1 sg.2.2.2.1 p, sH_text sg.1 sg.2.1 p sg.2.2.2.2.1, sTT_text sg.1 sg.2.2.2.2.2.1 p, sI_text sg.1 sg.2.2.2.2.2.2 p) = sg := by
  rw [(zs_textT (im := sg.2.2.2.2.2.2) h0).1, (zs_textT (T := sg.2.2.2.2.2.1) h0).2]
  unfold sT_text sL_text sK_text sH_text
  rw [if_neg (fun z => z.elim (fun y => h0 y.1) (fun y => h1 y.1)), if_neg (fun y => h1 y.1), if_neg (fun y => h0 y.1), if_neg (fun y => h1 y.1)]
/-- the class's state behind a court's text -/
theorem zs_textS0 {f : Nat → Int32} {n p : Int32} {t : (Int → Int) × Int} {T : zT} {im : Int32 × zS} {fr fb fp fr' fb' fp' Y F P Y' F' W rf kY kF kP : Nat → Int32} {nb np nb' np' pn lt sh wd pu mo pn' lt' sh' wd' pu' mo' pl cn cn' hi hi' kpn klt ksh kwd kpu kmo : Int32} (hp : p.toInt = 0) (hg : zGt f n t) (hx : zTxC f n p fr fb fp nb np fr' fb' fp' nb' np') (h : ((sCrt (sB f n.toInt) n.toInt).1 = -1 ∧ (∀ P : Nat → Int32, zSc nb'.toInt np'.toInt (sBeg (sCrtV (sB f n.toInt) n.toInt)) Y' F' P pn' lt' sh' wd' pu' mo') ∧ cn' = 0 ∧ hi' = 0) ∨ (¬ (sCrt (sB f n.toInt) n.toInt).1 = -1 ∧ (Y', F', pn', lt', sh', wd', pu', mo', cn', hi') = (Y, F, pn, lt, sh, wd, pu, mo, cn, hi))) (hs : zTc nb.toInt np.toInt T Y F P pn lt sh wd pu mo W pl cn rf) (hi0 : zIc nb.toInt np.toInt im hi kY kF kP kpn klt ksh kwd kpu kmo) : zTc nb'.toInt np'.toInt (sTT_text t T p) Y' F' P pn' lt' sh' wd' pu' mo' W pl cn' rf ∧ zIc nb'.toInt np'.toInt (sI_text t im p) hi' kY kF kP kpn klt ksh kwd kpu kmo := by
  unfold zTxC at hx
  rw [hg.1, hg.2.1] at h hx
  unfold sTT_text sI_text
  rcases h with ⟨h1, h2, h3, h4⟩ | ⟨h1, h2⟩
  · rw [if_pos ⟨hp, h1⟩, if_pos ⟨hp, h1⟩, h3, h4]
    exact ⟨⟨h2 P, zKc_0, hs.2.2⟩, rfl, Or.inl (show (0 : Int32).toInt = 0 by decide)⟩
  · rw [if_neg (fun y => h1 y.2), if_neg (fun y => h1 y.2)]
    rcases hx with hx | hx
    · exact absurd hx.2.1 h1
    · obtain ⟨-, -, -, -, a4, a5⟩ := hx
      rw [a4, a5]
      simp only [Prod.mk.injEq] at h2
      obtain ⟨b1, b2, b3, b4, b5, b6, b7, b8, b9, b10⟩ := h2
      rw [b1, b2, b3, b4, b5, b6, b7, b8, b9, b10]
      exact ⟨hs, hi0⟩
theorem zs_textSr {f : Nat → Int32} {n p : Int32} {t : (Int → Int) × Int} {T : zT} {im : Int32 × zS} {fr fb fp fr' fb' fp' N N' fK rf I : Nat → Int32} {nb np nb' np' ac ac' hi hi' : Int32} (hg : zGt f n t) (hx : zTxC f n p fr fb fp nb np fr' fb' fp' nb' np') (h : ((p.toInt = 0 ∧ (sCrt (sB f n.toInt) n.toInt).1 = -1) ∧ zSr nb'.toInt np'.toInt (sBeg (sCrtV (sB f n.toInt) n.toInt)) N' ∧ ac' = 0 ∧ hi' = 0) ∨ (¬ (p.toInt = 0 ∧ (sCrt (sB f n.toInt) n.toInt).1 = -1) ∧ N' = N ∧ ac' = ac ∧ hi' = hi)) (hs : zTr nb.toInt np.toInt T N fK ac rf) (hi0 : zIr nb.toInt np.toInt im hi I) : zTr nb'.toInt np'.toInt (sTT_text t T p) N' fK ac' rf ∧ zIr nb'.toInt np'.toInt (sI_text t im p) hi' I := by
  unfold zTxC at hx
  rw [hg.1, hg.2.1] at h hx
  unfold sTT_text sI_text
  rcases h with ⟨h1, h2, h3, h4⟩ | ⟨h1, h2, h3, h4⟩
  · rw [if_pos h1, if_pos h1, h3, h4]
    exact ⟨⟨h2, zKr_0, hs.2.2⟩, rfl, Or.inl (show (0 : Int32).toInt = 0 by decide)⟩
  · rw [if_neg h1, if_neg h1]
    rcases hx with hx | hx
    · exact absurd ⟨hx.1, hx.2.1⟩ h1
    · obtain ⟨-, -, -, -, a4, a5⟩ := hx
      rw [a4, a5, h2, h3, h4]
      exact ⟨hs, hi0⟩
theorem zGt_e {f : Nat → Int32} {n : Int32} {t : (Int → Int) × Int} (h : zGt f n t) : (sB f n.toInt, n.toInt) = t := by
  rw [h.1, h.2.1]
theorem zRi_b {cI : ClassId} {h0 : Nat} {sg : zSy} {C : va_W} (h : zRi cI h0 sg C) : sg.2.2.2.1.1.toInt = 0 ∨ 1 ≤ sg.2.2.2.1.2.1.toInt := by
  obtain ⟨V, -, hb, ha⟩ := h
  have ct := ha.2.2.2.1
  rw [← ct.1, ← ct.2.1]
  exact hb.2.2.2.2.2.2.2.2.2.2.2.2.2.2.2.2.2.2.2.1
theorem zPermP {D : va_G} {cl : List vw_C} {w w' : va_W} {H : Heap} (hp : List.Perm w w') (h : va_P D cl w H) : va_P D cl w' H := by
  intro k q hk
  obtain ⟨i, hi⟩ := List.getElem?_of_mem (hp.mem_iff.mpr (List.mem_of_getElem? hk))
  exact h i q hi
theorem zDpw {A : Nat → Prop} {w : va_W} : va_D A w ↔ (w.Pairwise (fun p q => ¬ p.1 = q.1)) ∧ ∀ q ∈ w, A q.1 := by
  constructor
  · intro h
    refine ⟨List.pairwise_iff_getElem.mpr (fun i j hi hj hij e => ?_), fun q hq => ?_⟩
    · have := h.1 i j w[i] w[j] (List.getElem?_eq_getElem hi) (List.getElem?_eq_getElem hj) e
      omega
    · obtain ⟨i, hi⟩ := List.getElem?_of_mem hq
      exact h.2 i q hi
  · intro ⟨h1, h2⟩
    refine ⟨fun i j p q hi hj e => ?_, fun k q hk => h2 q (List.mem_of_getElem? hk)⟩
    obtain ⟨li, ei⟩ := List.getElem?_eq_some_iff.mp hi
    obtain ⟨lj, ej⟩ := List.getElem?_eq_some_iff.mp hj
    have h3 := List.pairwise_iff_getElem.mp h1
    rcases Nat.lt_trichotomy i j with c | c | c
    · exact absurd (by rw [ei, ej]; exact e) (h3 i j li lj c)
    · exact c
    · exact absurd (by rw [ei, ej]; exact e.symm) (h3 j i lj li c)
theorem zPermD {A : Nat → Prop} {w w' : va_W} (hp : List.Perm w w') (h : va_D A w) : va_D A w' := by
  obtain ⟨h1, h2⟩ := zDpw.mp h
  exact zDpw.mpr ⟨(hp.pairwise_iff (fun e => fun q => e q.symm)).mp h1, fun q hq => h2 q (hp.mem_iff.mpr hq)⟩
/-- a law is taken out of the pool -/
theorem zPick {X pl rs : va_W} {q1 q2 : Nat × va_E} (h1 : q1 ∈ pl) (h2 : q2 ∈ pl) (hne : ¬ q2 = q1) : ∃ pl' : va_W, List.Perm (X ++ (pl ++ rs)) (X ++ (q1 :: q2 :: (pl' ++ rs))) ∧ ∀ q, q ∈ pl → q ∈ q1 :: q2 :: pl' := by
  obtain ⟨s, t, rfl⟩ := List.append_of_mem h1
  have h3 : q2 ∈ s ++ t := by
    rcases List.mem_append.mp h2 with h | h
    · exact List.mem_append_left _ h
    · rcases List.mem_cons.mp h with h | h
      · exact absurd h hne
      · exact List.mem_append_right _ h
  obtain ⟨s', t', e⟩ := List.append_of_mem h3
  have p1 : List.Perm (s ++ q1 :: t) (q1 :: q2 :: (s' ++ t')) := by
    refine List.perm_middle.trans (List.Perm.cons _ ?_)
    rw [e]
    exact List.perm_middle
  refine ⟨s' ++ t', ?_, fun q hq => p1.mem_iff.mp hq⟩
  refine List.Perm.append_left X ?_
  have := List.Perm.append_right rs p1
  simpa using this
theorem zSwP {D : va_G} {cl : List vw_C} {a b : va_W} {H : Heap} (h : va_P D cl (a ++ b) H) : va_P D cl (b ++ a) H := zPermP List.perm_append_comm h
theorem zSwD {A : Nat → Prop} {a b : va_W} (h : va_D A (a ++ b)) : va_D A (b ++ a) := zPermD List.perm_append_comm h
theorem zMid {X pl rs : va_W} {o : Nat × va_E} : List.Perm ((X ++ pl) ++ (o :: rs)) ((X ++ [o]) ++ (pl ++ rs)) := by
  have h1 : List.Perm ((X ++ pl) ++ (o :: rs)) (o :: ((X ++ pl) ++ rs)) := List.perm_middle
  have h2 : List.Perm (X ++ (o :: (pl ++ rs))) (o :: (X ++ (pl ++ rs))) := List.perm_middle
  have e1 : (X ++ [o]) ++ (pl ++ rs) = X ++ (o :: (pl ++ rs)) := by simp
  rw [e1]
  refine h1.trans (List.Perm.trans ?_ h2.symm)
  rw [List.append_assoc]
theorem zOneP {D : va_G} {cl : List vw_C} {C R : va_W} {o : Nat × va_E} {H : Heap} (h : va_P D cl (C ++ (o :: R)) H) : va_P D cl [o] H := h.by (fun _ => C.length) (fun k q hk => by
  cases k with
  | zero =>
    rw [List.getElem?_append_right (Nat.le_refl _), Nat.sub_self]
    exact hk
  | succ k => simp at hk)
theorem zRotP {D : va_G} {cl : List vw_C} {C R : va_W} {o : Nat × va_E} {H : Heap} (h : va_P D cl (C ++ (o :: R)) H) : va_P D cl (R ++ (C ++ [o])) H := zPermP (by
  have e : C ++ (o :: R) = (C ++ [o]) ++ R := by simp
  rw [e]
  exact List.perm_append_comm) h
theorem zRotD {A : Nat → Prop} {C R : va_W} {o : Nat × va_E} (h : va_D A (C ++ (o :: R))) : va_D A (R ++ (C ++ [o])) := zPermD (by
  have e : C ++ (o :: R) = (C ++ [o]) ++ R := by simp
  rw [e]
  exact List.perm_append_comm) h
theorem zRotP' {D : va_G} {cl : List vw_C} {C R : va_W} {o : Nat × va_E} {H : Heap} (h : va_P D cl (R ++ (C ++ [o])) H) : va_P D cl (C ++ (o :: R)) H := zPermP (by
  have e : C ++ (o :: R) = (C ++ [o]) ++ R := by simp
  rw [e]
  exact List.perm_append_comm) h
theorem zRotD' {A : Nat → Prop} {C R : va_W} {o : Nat × va_E} (h : va_D A (R ++ (C ++ [o]))) : va_D A (C ++ (o :: R)) := zPermD (by
  have e : C ++ (o :: R) = (C ++ [o]) ++ R := by simp
  rw [e]
  exact List.perm_append_comm) h
set_option maxHeartbeats 4000000 in
set_option maxRecDepth 100000 in
theorem g_X10_flattery_v (l : Launch) (dC : Nat → ClassId) (dI : Nat → Nat → Nat) (cI cJ : ClassId) (h0 : Nat) (p0 : Int32) (p1 : Int32) (tp : Nat) (h0_courtReader : Value) (h0_lawReader : Value) (h0_draft : Value) (aC : Nat) (h0_laws : Value) (g0 : Nat) (k0 : Nat) (ac : Nat) (sd : Nat) (mi : Nat) (dw : Nat) (rf : Nat) (lc : Int32) (lh : Int32) (br : Int32) (hi : Int32) (aR : Nat) (aB : Nat) (aP : Nat) (nb : Int32) (np : Int32) (gY : Nat) (gF : Nat) (gP : Nat) (gpn : Int32) (glt : Int32) (gsh : Int32) (gwd : Int32) (gpu : Int32) (gmo : Int32) (gfY : Nat → Int32) (gfF : Nat → Int32) (w1 : Nat) (w2 : Nat) (aL : Nat) (aK : Nat) (sw : Value) (sz : Nat) (n_gpn : 0 ≤ gpn.toInt ∧ gpn.toInt ≤ 20) (n_gwd : (-1) ≤ gwd.toInt ∧ gwd.toInt ≤ 5) (n_hi : 0 ≤ hi.toInt ∧ hi.toInt ≤ 1) (n_lc : 0 ≤ lc.toInt ∧ lc.toInt ≤ 4) (n_nb : 0 ≤ nb.toInt ∧ nb.toInt ≤ 6) (n_np : 0 ≤ np.toInt ∧ np.toInt ≤ 5)    : Met l yX10_flattery (.code yX10_flattery cX10_flattery 3 (some .int) :: wA) ({ frames := 2, cells := 0, slots := 0, locals := 52 }) (zP (dC, dI) [(cI, .int), (cJ, .long)] [.ref h0, .int p0, .int p1] sz [(h0, .inr (10, [.ref tp, h0_courtReader, h0_lawReader, h0_draft, .ref aC, h0_laws, .ref g0, .ref k0, .ref ac, .ref sd, .ref mi, .ref dw, .ref rf, .int lc, .int lh, .int br, .int hi])), (aC, .inr (1, [.ref aR, .ref aB, .ref aP, .int nb, .int np])), (g0, .inr (7, [.ref gY, .ref gF, .ref gP, .int gpn, .int glt, .int gsh, .int gwd, .int gpu, .int gmo])), (gY, .inl (cI, 6, .inl gfY)), (gF, .inl (cI, 5, .inl gfF)), (sd, .inr (8, [.ref w1, .ref w2, .ref aC, .ref g0, .ref aL, .ref aK, sw]))]) (va_Qi (fun (r : Int32) (u : Unit) => ((-1) ≤ r.toInt) ∧ (∀ (kc : zK3) (kT : zT) (q_fr : Nat → Int32) (q_fb : Nat → Int32) (q_fp : Nat → Int32) (q_gfP : Nat → Int32) (q_fR : Nat → Int32) (q_pl : Int32) (q_cn : Int32) (q_frf : Nat → Int32), zCn q_fr q_fb q_fp nb.toInt np.toInt kc → zKo nb.toInt np.toInt kc kT → zTc nb.toInt np.toInt kT gfY gfF q_gfP gpn glt gsh gwd gpu gmo q_fR q_pl q_cn q_frf → r = sV_fla nb.toInt np.toInt kT.1 p0 p1)) (fun (_ : Unit) (_ : State) => True) (va_A [] sz)) 0 0 (va_A [] sz) := by
  refine Met.ofW (cc := cX10_flattery) (maxL := 3) (ret := (some .int)) (by decide) rfl ?_
  intro p e s m args below meth c s₁ B hml hv
  obtain ⟨hargs, hsz, hP, hK, hT⟩ := hv
  have hx := B.exec
  have hb := B.bytes
  have hr := B.returns
  have hts : ∀ w ∈ wA, w.before args s = true := fun w h => atoms_spec (ws := .code yX10_flattery cX10_flattery 3 (some .int) :: wA) B.pre w (List.mem_cons_of_mem _ h)
  have hown : s.vm.findClass RX10 = some m.cls := findClass_of_methodNamed B.named
  have hlocks := B.notSynchronized
  subst hsz
  have hD : va_D (va_A [] s.heap.size) [] := zD0
  generalize hAe : va_A [] s.heap.size = A at hD ⊢
  have hA : ∀ q : Nat, s.heap.size ≤ q → A q := fun q h => by rw [← hAe]; exact Or.inr h
  have hl := lv_entry ([.ref h0, .int p0, .int p1]) (n := 3) (Nat.le_of_ble_eq_true rfl)
  rw [show entryFrame m args 3 = entryFrame m ([.ref h0, .int p0, .int p1] : List Value).toArray 3 by rw [hargs], lg_entry_eq]
  generalize (lg_sl ([.ref h0, .int p0, .int p1]) ++ List.replicate (3 - (lg_sl ([.ref h0, .int p0, .int p1])).length) Slot.unset).toArray = ls at hl ⊢
  have hl : lv_has ls 3 [(0, .ref h0), (1, .int p0), (2, .int p1)] := hl
  refine zstart (fun H hH => ?_)
  rw [← hH] at hP
  have hS : va_S A s.heap H [] := by rw [hH]; exact va_S.rf
  generalize ([] : List Loc) = locs at hS ⊢
  refine zgen (fun R Q hR hQ => ?_)
  refine lv_aload_n hx hb dX10_flattery_0 rfl (lv_at hl 0 rfl) ?_
  refine lv_iload_n hx hb dX10_flattery_1 rfl (lv_at hl 1 rfl) ?_
  have hPc := hP.sub (ws' := [(h0, .inr (10, [.ref tp, h0_courtReader, h0_lawReader, h0_draft, .ref aC, h0_laws, .ref g0, .ref k0, .ref ac, .ref sd, .ref mi, .ref dw, .ref rf, .int lc, .int lh, .int br, .int hi])), (aC, .inr (1, [.ref aR, .ref aB, .ref aP, .int nb, .int np]))]) [0, 1] rfl
  have hDc := hT.sub (ws' := [(h0, .inr (10, [.ref tp, h0_courtReader, h0_lawReader, h0_draft, .ref aC, h0_laws, .ref g0, .ref k0, .ref ac, .ref sd, .ref mi, .ref dw, .ref rf, .int lc, .int lh, .int br, .int hi])), (aC, .inr (1, [.ref aR, .ref aB, .ref aP, .int nb, .int np]))]) [0, 1] (by decide) rfl
  have hFc := zfr hS hA
  refine va_calli (va_runV (As := [.int p0]) (rest := []) ⟨hx, hb, hml, hown, hts⟩ (g_X10_isPainter l dC dI cI cJ h0 p0 (.ref tp) h0_courtReader h0_lawReader h0_draft aC h0_laws (.ref g0) (.ref k0) (.ref ac) (.ref sd) (.ref mi) (.ref dw) (.ref rf) (.int lc) (.int lh) (.int br) (.int hi) aR aB aP nb np H.size n_np) (cwV 1 hts (zgV qw600 qw602 qw11 qw98 qw603) rfl rfl rfl hd_X10_isPainter ⟨by rw [hR]; exact Nat.le_of_ble_eq_true rfl, by rw [hR]; exact Nat.le_of_ble_eq_true rfl⟩) (zPV hPc hK hDc (va_recv (q := (RX10, TX10, 17)) hK hP (ci := 10) (q0 := 0) rfl rfl)) rfl rfl hl.1 rfl (lv_room (Nat.le_of_ble_eq_true rfl)) dX10_flattery_2 ⟨Nat.zero_le _, Nat.zero_le _⟩) hS (fun q _ h => hFc q h) hFc (fun v2 u2 t H locs ht hvm hw hB hz1 hk1 hS => ?_)
  have hP := zkeep hP hk1
  obtain ⟨f2_0, f2_1, f2_2, f2_3⟩ : (0 ≤ v2.toInt) ∧ (v2.toInt ≤ 1) ∧ (¬ v2.toInt = 0 → (0 ≤ p0.toInt ∧ p0.toInt < np.toInt)) ∧ (v2.toInt = 0 → ¬ (0 ≤ p0.toInt ∧ p0.toInt < np.toInt)) := hw
  refine lv_if_eq (tgt := 16) hx hb dX10_flattery_5 (by decide) (fun c5 => ?_) (fun c5 => ?_)
  · have c5 : v2.toInt = 0 := z5 rfl (by decide) c5
    refine lv_iconst (v := (-1)) hx hb dX10_flattery_16 (by decide) ?_
    have zr0 : ((-1) : Int32).toInt = (-1) := by decide
    rw [hQ]
    exact W.iret (v := ((-1))) hx hb hr (fun t ht hW => ⟨⟨(-1), (), rfl, ⟨by (try dsimp only); omega, fun kc kT q_fr q_fb q_fp q_gfP q_fR q_pl q_cn q_frf hc hb h => by unfold sV_fla; rw [if_neg (by omega)]; ⟩, trivial⟩, hS.F ht⟩) hS.2.2 dX10_flattery_17
  · have c5 : ¬ v2.toInt = 0 := z6 rfl (by decide) c5
    refine lv_aload_n hx hb dX10_flattery_8 rfl (lv_at hl 0 rfl) ?_
    refine lv_iload_n hx hb dX10_flattery_9 rfl (lv_at hl 2 rfl) ?_
    have hPc := hP.sub (ws' := [(h0, .inr (10, [.ref tp, h0_courtReader, h0_lawReader, h0_draft, .ref aC, h0_laws, .ref g0, .ref k0, .ref ac, .ref sd, .ref mi, .ref dw, .ref rf, .int lc, .int lh, .int br, .int hi])), (aC, .inr (1, [.ref aR, .ref aB, .ref aP, .int nb, .int np]))]) [0, 1] rfl
    have hDc := hT.sub (ws' := [(h0, .inr (10, [.ref tp, h0_courtReader, h0_lawReader, h0_draft, .ref aC, h0_laws, .ref g0, .ref k0, .ref ac, .ref sd, .ref mi, .ref dw, .ref rf, .int lc, .int lh, .int br, .int hi])), (aC, .inr (1, [.ref aR, .ref aB, .ref aP, .int nb, .int np]))]) [0, 1] (by decide) rfl
    have hFc := zfr hS hA
    refine va_calli (va_runV (As := [.int p1]) (rest := []) ⟨hx, hb, hml, hown, hts⟩ (g_X10_isBride l dC dI cI cJ h0 p1 (.ref tp) h0_courtReader h0_lawReader h0_draft aC h0_laws (.ref g0) (.ref k0) (.ref ac) (.ref sd) (.ref mi) (.ref dw) (.ref rf) (.int lc) (.int lh) (.int br) (.int hi) aR aB aP nb np H.size n_nb) (cwV 1 hts (zgV qw625 qw627 qw12 qw98 qw628) rfl rfl rfl hd_X10_isBride ⟨by rw [hR]; exact Nat.le_of_ble_eq_true rfl, by rw [hR]; exact Nat.le_of_ble_eq_true rfl⟩) (zPV hPc hK hDc (va_recv (q := (RX10, TX10, 17)) hK hP (ci := 10) (q0 := 0) rfl rfl)) rfl rfl hl.1 rfl (lv_room (Nat.le_of_ble_eq_true rfl)) dX10_flattery_10 ⟨Nat.zero_le _, Nat.zero_le _⟩) hS (fun q _ h => hFc q h) hFc (fun v10 u10 t H locs ht hvm hw hB hz1 hk1 hS => ?_)
    have hP := zkeep hP hk1
    obtain ⟨f10_0, f10_1, f10_2, f10_3⟩ : (0 ≤ v10.toInt) ∧ (v10.toInt ≤ 1) ∧ (¬ v10.toInt = 0 → (0 ≤ p1.toInt ∧ p1.toInt < nb.toInt)) ∧ (v10.toInt = 0 → ¬ (0 ≤ p1.toInt ∧ p1.toInt < nb.toInt)) := hw
    refine lv_if_ne (tgt := 18) hx hb dX10_flattery_13 (by decide) (fun c13 => ?_) (fun c13 => ?_)
    · have c13 : ¬ v10.toInt = 0 := z6 rfl (by decide) c13
      refine lv_aload_n hx hb dX10_flattery_18 rfl (lv_at hl 0 rfl) ?_
      refine va_get (D := (dC, dI)) (ci := 10) (v := .ref sd) (C := RX10) (T := TX10) (N := 17) hx hb hts iX10 hown hK hP 0 rfl rfl 9 (by decide) (hts _ qw365) (fun _ h9 => h9) rfl dX10_flattery_19 ?_
      refine lv_iload_n hx hb dX10_flattery_22 rfl (lv_at hl 1 rfl) ?_
      refine lv_aload_n hx hb dX10_flattery_23 rfl (lv_at hl 0 rfl) ?_
      refine va_get (D := (dC, dI)) (ci := 10) (v := .ref g0) (C := RX10) (T := TX10) (N := 17) hx hb hts iX10 hown hK hP 0 rfl rfl 6 (by decide) (hts _ qw362) (fun _ h9 => h9) rfl dX10_flattery_24 ?_
      refine va_get (D := (dC, dI)) (ci := 7) (v := .ref gY) (C := RX7) (T := TX7) (N := 9) hx hb hts iX7 hown hK hP 2 rfl rfl 0 (by decide) (hts _ qw222) (fun _ h9 => h9) rfl dX10_flattery_27 ?_
      refine lv_iload_n hx hb dX10_flattery_30 rfl (lv_at hl 2 rfl) ?_
      refine va_iald hx hb hK hP 3 0 rfl rfl (vp_in_iff.mpr ⟨by omega, by omega⟩) dX10_flattery_31 ?_
      refine lv_topi (fun v31 e31 => ?_)
      have hPc := hP.sub (ws' := [(sd, .inr (8, [.ref w1, .ref w2, .ref aC, .ref g0, .ref aL, .ref aK, sw])), (g0, .inr (7, [.ref gY, .ref gF, .ref gP, .int gpn, .int glt, .int gsh, .int gwd, .int gpu, .int gmo])), (gF, .inl (cI, 5, .inl gfF))]) [5, 2, 4] rfl
      have hDc := hT.sub (ws' := [(sd, .inr (8, [.ref w1, .ref w2, .ref aC, .ref g0, .ref aL, .ref aK, sw])), (g0, .inr (7, [.ref gY, .ref gF, .ref gP, .int gpn, .int glt, .int gsh, .int gwd, .int gpu, .int gmo])), (gF, .inl (cI, 5, .inl gfF))]) [5, 2, 4] (by decide) rfl
      have hFc := zfr hS hA
      refine va_calli (va_runV (As := [.int p0, .int v31]) (rest := []) ⟨hx, hb, hml, hown, hts⟩ (g_X8_flatteryFor l dC dI cI cJ sd p0 v31 (.ref w1) (.ref w2) (.ref aC) g0 (.ref aL) (.ref aK) sw gY gF gP gpn glt gsh gwd gpu gmo gfF H.size (by omega)) (cwV 2 hts (zgV qw629 qw630 qw631 qw105 qw632) rfl rfl rfl hd_X8_flatteryFor ⟨by rw [hR]; exact Nat.le_of_ble_eq_true rfl, by rw [hR]; exact Nat.le_of_ble_eq_true rfl⟩) (zPV hPc hK hDc (va_recv (q := (RX8, TX8, 7)) hK hP (ci := 8) (q0 := 5) rfl rfl)) rfl rfl hl.1 rfl (lv_room (Nat.le_of_ble_eq_true rfl)) dX10_flattery_32 ⟨Nat.zero_le _, Nat.zero_le _⟩) hS (fun q _ h => hFc q h) hFc (fun v32 u32 t H locs ht hvm hw hB hz1 hk1 hS => ?_)
      have hP := zkeep hP hk1
      obtain ⟨f32_0, f32_1⟩ : (0 ≤ v32.toInt) ∧ (v32 = zFl (gfF p0.toInt.toNat) v31) := hw
      have F32 := f32_1
      rw [hQ]
      exact W.iret (v := v32) hx hb hr (fun t ht hW => ⟨⟨v32, (), rfl, ⟨by (try dsimp only); omega, fun kc kT q_fr q_fb q_fp q_gfP q_fR q_pl q_cn q_frf hc hb h => by have y31 : v31 = kT.1.1 p1.toInt.toNat := (zIxN (n := p1.toInt.toNat) e31 (by omega)).trans (h.1.1 _ (by omega)); unfold sV_fla; rw [if_pos (by omega)]; rw [F32, y31, h.1.2.1 _ (by omega)]⟩, trivial⟩, hS.F ht⟩) hS.2.2 dX10_flattery_35
    · have c13 : v10.toInt = 0 := z5 rfl (by decide) c13
      refine lv_iconst (v := (-1)) hx hb dX10_flattery_16 (by decide) ?_
      have zr0 : ((-1) : Int32).toInt = (-1) := by decide
      rw [hQ]
      exact W.iret (v := ((-1))) hx hb hr (fun t ht hW => ⟨⟨(-1), (), rfl, ⟨by (try dsimp only); omega, fun kc kT q_fr q_fb q_fp q_gfP q_fR q_pl q_cn q_frf hc hb h => by unfold sV_fla; rw [if_neg (by omega)]; ⟩, trivial⟩, hS.F ht⟩) hS.2.2 dX10_flattery_17
set_option maxHeartbeats 4000000 in
set_option maxRecDepth 100000 in
theorem g_X10_truth_v (l : Launch) (dC : Nat → ClassId) (dI : Nat → Nat → Nat) (cI cJ : ClassId) (h0 : Nat) (p0 : Int32) (p1 : Int32) (tp : Nat) (h0_courtReader : Value) (h0_lawReader : Value) (h0_draft : Value) (aC : Nat) (h0_laws : Value) (g0 : Nat) (k0 : Nat) (ac : Nat) (sd : Nat) (mi : Nat) (dw : Nat) (rf : Nat) (lc : Int32) (lh : Int32) (br : Int32) (hi : Int32) (aR : Nat) (aB : Nat) (aP : Nat) (nb : Int32) (np : Int32) (gY : Nat) (gF : Nat) (gP : Nat) (gpn : Int32) (glt : Int32) (gsh : Int32) (gwd : Int32) (gpu : Int32) (gmo : Int32) (gfY : Nat → Int32) (gfF : Nat → Int32) (w1 : Nat) (w2 : Nat) (aL : Nat) (aK : Nat) (sw : Value) (sz : Nat) (n_gpn : 0 ≤ gpn.toInt ∧ gpn.toInt ≤ 20) (n_gwd : (-1) ≤ gwd.toInt ∧ gwd.toInt ≤ 5) (n_hi : 0 ≤ hi.toInt ∧ hi.toInt ≤ 1) (n_lc : 0 ≤ lc.toInt ∧ lc.toInt ≤ 4) (n_nb : 0 ≤ nb.toInt ∧ nb.toInt ≤ 6) (n_np : 0 ≤ np.toInt ∧ np.toInt ≤ 5)    : Met l yX10_truth (.code yX10_truth cX10_truth 5 (some .int) :: wA) ({ frames := 2, cells := 0, slots := 0, locals := 52 }) (zP (dC, dI) [(cI, .int), (cJ, .long)] [.ref h0, .int p0, .int p1] sz [(h0, .inr (10, [.ref tp, h0_courtReader, h0_lawReader, h0_draft, .ref aC, h0_laws, .ref g0, .ref k0, .ref ac, .ref sd, .ref mi, .ref dw, .ref rf, .int lc, .int lh, .int br, .int hi])), (aC, .inr (1, [.ref aR, .ref aB, .ref aP, .int nb, .int np])), (g0, .inr (7, [.ref gY, .ref gF, .ref gP, .int gpn, .int glt, .int gsh, .int gwd, .int gpu, .int gmo])), (gY, .inl (cI, 6, .inl gfY)), (gF, .inl (cI, 5, .inl gfF)), (sd, .inr (8, [.ref w1, .ref w2, .ref aC, .ref g0, .ref aL, .ref aK, sw]))]) (va_Qi (fun (r : Int32) (u : Unit) => ((-1) ≤ r.toInt) ∧ (r.toInt ≤ 1) ∧ (∀ (kc : zK3) (kT : zT) (q_fr : Nat → Int32) (q_fb : Nat → Int32) (q_fp : Nat → Int32) (q_gfP : Nat → Int32) (q_fR : Nat → Int32) (q_pl : Int32) (q_cn : Int32) (q_frf : Nat → Int32), zCn q_fr q_fb q_fp nb.toInt np.toInt kc → zKo nb.toInt np.toInt kc kT → zTc nb.toInt np.toInt kT gfY gfF q_gfP gpn glt gsh gwd gpu gmo q_fR q_pl q_cn q_frf → r = sV_tru nb.toInt np.toInt kT.1 p0 p1)) (fun (_ : Unit) (_ : State) => True) (va_A [] sz)) 0 0 (va_A [] sz) := by
  refine Met.ofW (cc := cX10_truth) (maxL := 5) (ret := (some .int)) (by decide) rfl ?_
  intro p e s m args below meth c s₁ B hml hv
  obtain ⟨hargs, hsz, hP, hK, hT⟩ := hv
  have hx := B.exec
  have hb := B.bytes
  have hr := B.returns
  have hts : ∀ w ∈ wA, w.before args s = true := fun w h => atoms_spec (ws := .code yX10_truth cX10_truth 5 (some .int) :: wA) B.pre w (List.mem_cons_of_mem _ h)
  have hown : s.vm.findClass RX10 = some m.cls := findClass_of_methodNamed B.named
  have hlocks := B.notSynchronized
  subst hsz
  have hD : va_D (va_A [] s.heap.size) [] := zD0
  generalize hAe : va_A [] s.heap.size = A at hD ⊢
  have hA : ∀ q : Nat, s.heap.size ≤ q → A q := fun q h => by rw [← hAe]; exact Or.inr h
  have hl := lv_entry ([.ref h0, .int p0, .int p1]) (n := 5) (Nat.le_of_ble_eq_true rfl)
  rw [show entryFrame m args 5 = entryFrame m ([.ref h0, .int p0, .int p1] : List Value).toArray 5 by rw [hargs], lg_entry_eq]
  generalize (lg_sl ([.ref h0, .int p0, .int p1]) ++ List.replicate (5 - (lg_sl ([.ref h0, .int p0, .int p1])).length) Slot.unset).toArray = ls at hl ⊢
  have hl : lv_has ls 5 [(0, .ref h0), (1, .int p0), (2, .int p1)] := hl
  refine zstart (fun H hH => ?_)
  rw [← hH] at hP
  have hS : va_S A s.heap H [] := by rw [hH]; exact va_S.rf
  generalize ([] : List Loc) = locs at hS ⊢
  refine zgen (fun R Q hR hQ => ?_)
  refine lv_aload_n hx hb dX10_truth_0 rfl (lv_at hl 0 rfl) ?_
  refine lv_iload_n hx hb dX10_truth_1 rfl (lv_at hl 1 rfl) ?_
  have hPc := hP.sub (ws' := [(h0, .inr (10, [.ref tp, h0_courtReader, h0_lawReader, h0_draft, .ref aC, h0_laws, .ref g0, .ref k0, .ref ac, .ref sd, .ref mi, .ref dw, .ref rf, .int lc, .int lh, .int br, .int hi])), (aC, .inr (1, [.ref aR, .ref aB, .ref aP, .int nb, .int np]))]) [0, 1] rfl
  have hDc := hT.sub (ws' := [(h0, .inr (10, [.ref tp, h0_courtReader, h0_lawReader, h0_draft, .ref aC, h0_laws, .ref g0, .ref k0, .ref ac, .ref sd, .ref mi, .ref dw, .ref rf, .int lc, .int lh, .int br, .int hi])), (aC, .inr (1, [.ref aR, .ref aB, .ref aP, .int nb, .int np]))]) [0, 1] (by decide) rfl
  have hFc := zfr hS hA
  refine va_calli (va_runV (As := [.int p0]) (rest := []) ⟨hx, hb, hml, hown, hts⟩ (g_X10_isPainter l dC dI cI cJ h0 p0 (.ref tp) h0_courtReader h0_lawReader h0_draft aC h0_laws (.ref g0) (.ref k0) (.ref ac) (.ref sd) (.ref mi) (.ref dw) (.ref rf) (.int lc) (.int lh) (.int br) (.int hi) aR aB aP nb np H.size n_np) (cwV 1 hts (zgV qw600 qw602 qw11 qw98 qw603) rfl rfl rfl hd_X10_isPainter ⟨by rw [hR]; exact Nat.le_of_ble_eq_true rfl, by rw [hR]; exact Nat.le_of_ble_eq_true rfl⟩) (zPV hPc hK hDc (va_recv (q := (RX10, TX10, 17)) hK hP (ci := 10) (q0 := 0) rfl rfl)) rfl rfl hl.1 rfl (lv_room (Nat.le_of_ble_eq_true rfl)) dX10_truth_2 ⟨Nat.zero_le _, Nat.zero_le _⟩) hS (fun q _ h => hFc q h) hFc (fun v2 u2 t H locs ht hvm hw hB hz1 hk1 hS => ?_)
  have hP := zkeep hP hk1
  obtain ⟨f2_0, f2_1, f2_2, f2_3⟩ : (0 ≤ v2.toInt) ∧ (v2.toInt ≤ 1) ∧ (¬ v2.toInt = 0 → (0 ≤ p0.toInt ∧ p0.toInt < np.toInt)) ∧ (v2.toInt = 0 → ¬ (0 ≤ p0.toInt ∧ p0.toInt < np.toInt)) := hw
  refine lv_if_eq (tgt := 16) hx hb dX10_truth_5 (by decide) (fun c5 => ?_) (fun c5 => ?_)
  · have c5 : v2.toInt = 0 := z5 rfl (by decide) c5
    refine lv_iconst (v := (-1)) hx hb dX10_truth_16 (by decide) ?_
    have zr0 : ((-1) : Int32).toInt = (-1) := by decide
    rw [hQ]
    exact W.iret (v := ((-1))) hx hb hr (fun t ht hW => ⟨⟨(-1), (), rfl, ⟨by (try dsimp only); omega, by (try dsimp only); omega, fun kc kT q_fr q_fb q_fp q_gfP q_fR q_pl q_cn q_frf hc hb h => by unfold sV_tru; rw [if_neg (by omega)]; ⟩, trivial⟩, hS.F ht⟩) hS.2.2 dX10_truth_17
  · have c5 : ¬ v2.toInt = 0 := z6 rfl (by decide) c5
    refine lv_aload_n hx hb dX10_truth_8 rfl (lv_at hl 0 rfl) ?_
    refine lv_iload_n hx hb dX10_truth_9 rfl (lv_at hl 2 rfl) ?_
    have hPc := hP.sub (ws' := [(h0, .inr (10, [.ref tp, h0_courtReader, h0_lawReader, h0_draft, .ref aC, h0_laws, .ref g0, .ref k0, .ref ac, .ref sd, .ref mi, .ref dw, .ref rf, .int lc, .int lh, .int br, .int hi])), (aC, .inr (1, [.ref aR, .ref aB, .ref aP, .int nb, .int np]))]) [0, 1] rfl
    have hDc := hT.sub (ws' := [(h0, .inr (10, [.ref tp, h0_courtReader, h0_lawReader, h0_draft, .ref aC, h0_laws, .ref g0, .ref k0, .ref ac, .ref sd, .ref mi, .ref dw, .ref rf, .int lc, .int lh, .int br, .int hi])), (aC, .inr (1, [.ref aR, .ref aB, .ref aP, .int nb, .int np]))]) [0, 1] (by decide) rfl
    have hFc := zfr hS hA
    refine va_calli (va_runV (As := [.int p1]) (rest := []) ⟨hx, hb, hml, hown, hts⟩ (g_X10_isBride l dC dI cI cJ h0 p1 (.ref tp) h0_courtReader h0_lawReader h0_draft aC h0_laws (.ref g0) (.ref k0) (.ref ac) (.ref sd) (.ref mi) (.ref dw) (.ref rf) (.int lc) (.int lh) (.int br) (.int hi) aR aB aP nb np H.size n_nb) (cwV 1 hts (zgV qw625 qw627 qw12 qw98 qw628) rfl rfl rfl hd_X10_isBride ⟨by rw [hR]; exact Nat.le_of_ble_eq_true rfl, by rw [hR]; exact Nat.le_of_ble_eq_true rfl⟩) (zPV hPc hK hDc (va_recv (q := (RX10, TX10, 17)) hK hP (ci := 10) (q0 := 0) rfl rfl)) rfl rfl hl.1 rfl (lv_room (Nat.le_of_ble_eq_true rfl)) dX10_truth_10 ⟨Nat.zero_le _, Nat.zero_le _⟩) hS (fun q _ h => hFc q h) hFc (fun v10 u10 t H locs ht hvm hw hB hz1 hk1 hS => ?_)
    have hP := zkeep hP hk1
    obtain ⟨f10_0, f10_1, f10_2, f10_3⟩ : (0 ≤ v10.toInt) ∧ (v10.toInt ≤ 1) ∧ (¬ v10.toInt = 0 → (0 ≤ p1.toInt ∧ p1.toInt < nb.toInt)) ∧ (v10.toInt = 0 → ¬ (0 ≤ p1.toInt ∧ p1.toInt < nb.toInt)) := hw
    refine lv_if_ne (tgt := 18) hx hb dX10_truth_13 (by decide) (fun c13 => ?_) (fun c13 => ?_)
    · have c13 : ¬ v10.toInt = 0 := z6 rfl (by decide) c13
      refine lv_aload_n hx hb dX10_truth_18 rfl (lv_at hl 0 rfl) ?_
      refine va_get (D := (dC, dI)) (ci := 10) (v := .ref g0) (C := RX10) (T := TX10) (N := 17) hx hb hts iX10 hown hK hP 0 rfl rfl 6 (by decide) (hts _ qw362) (fun _ h9 => h9) rfl dX10_truth_19 ?_
      refine va_get (D := (dC, dI)) (ci := 7) (v := .ref gY) (C := RX7) (T := TX7) (N := 9) hx hb hts iX7 hown hK hP 2 rfl rfl 0 (by decide) (hts _ qw222) (fun _ h9 => h9) rfl dX10_truth_22 ?_
      refine lv_iload_n hx hb dX10_truth_25 rfl (lv_at hl 2 rfl) ?_
      refine va_iald hx hb hK hP 3 0 rfl rfl (vp_in_iff.mpr ⟨by omega, by omega⟩) dX10_truth_26 ?_
      refine lv_topi (fun v26 e26 => ?_)
      refine lv_istore_n (lv' := [(3, .int v26), (0, .ref h0), (1, .int p0), (2, .int p1)]) hx hb dX10_truth_27 rfl hl (by decide) rfl (fun ls hl => ?_)
      refine lv_aload_n hx hb dX10_truth_28 rfl (lv_at hl 1 rfl) ?_
      refine va_get (D := (dC, dI)) (ci := 10) (v := .ref g0) (C := RX10) (T := TX10) (N := 17) hx hb hts iX10 hown hK hP 0 rfl rfl 6 (by decide) (hts _ qw362) (fun _ h9 => h9) rfl dX10_truth_29 ?_
      refine va_get (D := (dC, dI)) (ci := 7) (v := .ref gF) (C := RX7) (T := TX7) (N := 9) hx hb hts iX7 hown hK hP 2 rfl rfl 1 (by decide) (hts _ qw225) (fun _ h9 => h9) rfl dX10_truth_32 ?_
      refine lv_iload_n hx hb dX10_truth_35 rfl (lv_at hl 2 rfl) ?_
      refine va_iald hx hb hK hP 4 0 rfl rfl (vp_in_iff.mpr ⟨by omega, by omega⟩) dX10_truth_36 ?_
      refine lv_topi (fun v36 e36 => ?_)
      refine lv_aload_n hx hb dX10_truth_37 rfl (lv_at hl 1 rfl) ?_
      refine va_get (D := (dC, dI)) (ci := 10) (v := .ref sd) (C := RX10) (T := TX10) (N := 17) hx hb hts iX10 hown hK hP 0 rfl rfl 9 (by decide) (hts _ qw365) (fun _ h9 => h9) rfl dX10_truth_38 ?_
      refine lv_iload_n hx hb dX10_truth_41 rfl (lv_at hl 2 rfl) ?_
      refine lv_iload_n hx hb dX10_truth_42 rfl (lv_at hl 0 rfl) ?_
      have hPc := hP.sub (ws' := [(sd, .inr (8, [.ref w1, .ref w2, .ref aC, .ref g0, .ref aL, .ref aK, sw])), (g0, .inr (7, [.ref gY, .ref gF, .ref gP, .int gpn, .int glt, .int gsh, .int gwd, .int gpu, .int gmo])), (gF, .inl (cI, 5, .inl gfF))]) [5, 2, 4] rfl
      have hDc := hT.sub (ws' := [(sd, .inr (8, [.ref w1, .ref w2, .ref aC, .ref g0, .ref aL, .ref aK, sw])), (g0, .inr (7, [.ref gY, .ref gF, .ref gP, .int gpn, .int glt, .int gsh, .int gwd, .int gpu, .int gmo])), (gF, .inl (cI, 5, .inl gfF))]) [5, 2, 4] (by decide) rfl
      have hFc := zfr hS hA
      refine va_calli (va_runV (As := [.int p0, .int v26]) (rest := [.int v36]) ⟨hx, hb, hml, hown, hts⟩ (g_X8_flatteryFor l dC dI cI cJ sd p0 v26 (.ref w1) (.ref w2) (.ref aC) g0 (.ref aL) (.ref aK) sw gY gF gP gpn glt gsh gwd gpu gmo gfF H.size (by omega)) (cwV 2 hts (zgV qw629 qw630 qw631 qw105 qw632) rfl rfl rfl hd_X8_flatteryFor ⟨by rw [hR]; exact Nat.le_of_ble_eq_true rfl, by rw [hR]; exact Nat.le_of_ble_eq_true rfl⟩) (zPV hPc hK hDc (va_recv (q := (RX8, TX8, 7)) hK hP (ci := 8) (q0 := 5) rfl rfl)) rfl rfl hl.1 rfl (lv_room (Nat.le_of_ble_eq_true rfl)) dX10_truth_43 ⟨Nat.zero_le _, Nat.zero_le _⟩) hS (fun q _ h => hFc q h) hFc (fun v43 u43 t H locs ht hvm hw hB hz1 hk1 hS => ?_)
      have hP := zkeep hP hk1
      obtain ⟨f43_0, f43_1⟩ : (0 ≤ v43.toInt) ∧ (v43 = zFl (gfF p0.toInt.toNat) v26) := hw
      have F43 := f43_1
      refine lv_imul hx hb dX10_truth_46 ?_
      refine lv_topi (fun v46 e46 => ?_)
      refine lv_iconst (v := 3) hx hb dX10_truth_47 (by decide) ?_
      refine lv_idiv hx hb dX10_truth_48 (by decide) ?_
      refine lv_topi (fun v48 e48 => ?_)
      refine lv_istore (lv' := [(4, .int v48), (3, .int v26), (0, .ref h0), (1, .int p0), (2, .int p1)]) hx hb dX10_truth_49 hl (by decide) rfl (fun ls hl => ?_)
      refine lv_iload_n hx hb dX10_truth_51 rfl (lv_at hl 1 rfl) ?_
      refine lv_iload hx hb dX10_truth_52 (lv_at hl 0 rfl) ?_
      refine lv_icmp_gt (tgt := 61) hx hb dX10_truth_54 (by decide) (fun c54 => ?_) (fun c54 => ?_)
      · have c54 : v48.toInt < v26.toInt := z1 rfl rfl c54
        refine lv_iconst (v := 0) hx hb dX10_truth_61 (by decide) ?_
        have zr0 : (0 : Int32).toInt = 0 := by decide
        rw [hQ]
        exact W.iret (v := 0) hx hb hr (fun t ht hW => ⟨⟨0, (), rfl, ⟨by (try dsimp only); omega, by (try dsimp only); omega, fun kc kT q_fr q_fb q_fp q_gfP q_fR q_pl q_cn q_frf hc hb h => by have y26 : v26 = kT.1.1 p1.toInt.toNat := (zIxN (n := p1.toInt.toNat) e26 (by omega)).trans (h.1.1 _ (by omega)); have y36 : v36 = kT.1.2.1 p0.toInt.toNat := (zIxN (n := p0.toInt.toNat) e36 (by omega)).trans (h.1.2.1 _ (by omega)); have y43 : v43 = zFl (kT.1.2.1 p0.toInt.toNat) (kT.1.1 p1.toInt.toNat) := (by rw [F43, y26, h.1.2.1 _ (by omega)]); have y48 : kT.1.2.1 p0.toInt.toNat * zFl (kT.1.2.1 p0.toInt.toNat) (kT.1.1 p1.toInt.toNat) / 3 = v48 := (by rw [e48, e46, y36, y43]); have z48 := congrArg Int32.toInt y48; have z26 := congrArg Int32.toInt y26; unfold sV_tru; rw [if_pos (by omega)]; exact (if_neg (by omega)).symm⟩, trivial⟩, hS.F ht⟩) hS.2.2 dX10_truth_62
      · have c54 : v26.toInt ≤ v48.toInt := z2 rfl rfl c54
        refine lv_iconst (v := 1) hx hb dX10_truth_57 (by decide) ?_
        refine lv_goto (tgt := 62) hx hb dX10_truth_58 (by decide) ?_
        have zr0 : (1 : Int32).toInt = 1 := by decide
        rw [hQ]
        exact W.iret (v := 1) hx hb hr (fun t ht hW => ⟨⟨1, (), rfl, ⟨by (try dsimp only); omega, by (try dsimp only); omega, fun kc kT q_fr q_fb q_fp q_gfP q_fR q_pl q_cn q_frf hc hb h => by have y26 : v26 = kT.1.1 p1.toInt.toNat := (zIxN (n := p1.toInt.toNat) e26 (by omega)).trans (h.1.1 _ (by omega)); have y36 : v36 = kT.1.2.1 p0.toInt.toNat := (zIxN (n := p0.toInt.toNat) e36 (by omega)).trans (h.1.2.1 _ (by omega)); have y43 : v43 = zFl (kT.1.2.1 p0.toInt.toNat) (kT.1.1 p1.toInt.toNat) := (by rw [F43, y26, h.1.2.1 _ (by omega)]); have y48 : kT.1.2.1 p0.toInt.toNat * zFl (kT.1.2.1 p0.toInt.toNat) (kT.1.1 p1.toInt.toNat) / 3 = v48 := (by rw [e48, e46, y36, y43]); have z48 := congrArg Int32.toInt y48; have z26 := congrArg Int32.toInt y26; unfold sV_tru; rw [if_pos (by omega)]; exact (if_pos (by omega)).symm⟩, trivial⟩, hS.F ht⟩) hS.2.2 dX10_truth_62
    · have c13 : v10.toInt = 0 := z5 rfl (by decide) c13
      refine lv_iconst (v := (-1)) hx hb dX10_truth_16 (by decide) ?_
      have zr0 : ((-1) : Int32).toInt = (-1) := by decide
      rw [hQ]
      exact W.iret (v := ((-1))) hx hb hr (fun t ht hW => ⟨⟨(-1), (), rfl, ⟨by (try dsimp only); omega, by (try dsimp only); omega, fun kc kT q_fr q_fb q_fp q_gfP q_fR q_pl q_cn q_frf hc hb h => by unfold sV_tru; rw [if_neg (by omega)]; ⟩, trivial⟩, hS.F ht⟩) hS.2.2 dX10_truth_17
