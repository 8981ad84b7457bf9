-- ===== PART A: goes FIRST, ahead of the names: the tables' words, and 'selects' of the private methods out of them =====
/-- a private method of a class that the tables say can be made, by its rows of tables_1 -/
def lw_okq (q : MethodName × Nat) : Prop := (q.1.cls ≠ "java/lang/invoke/MethodHandle" ∧ q.1.cls ≠ "java/lang/invoke/VarHandle") ∧ Cond.instantiable q.1.cls q.2 ∈ tables_1 ∧ Cond.privateMethod q.1 ∈ tables_1 ∧ Cond.instanceMethod q.1 ∈ tables_1
theorem zlw1 {w : Cond} (h : w ∈ tables_1_1) : w ∈ tables_1 := show w ∈ tables_1 from List.mem_append_left _ h
theorem zlw2 {w : Cond} (h : w ∈ tables_1_2) : w ∈ tables_1 := show w ∈ tables_1 from List.mem_append_right _ (List.mem_append_left _ h)
theorem zlw3 {w : Cond} (h : w ∈ tables_1_3) : w ∈ tables_1 := show w ∈ tables_1 from List.mem_append_right _ (List.mem_append_right _ (List.mem_append_left _ h))
theorem zlw4 {w : Cond} (h : w ∈ tables_1_4) : w ∈ tables_1 := show w ∈ tables_1 from List.mem_append_right _ (List.mem_append_right _ (List.mem_append_right _ (List.mem_append_left _ h)))
theorem zlw5 {w : Cond} (h : w ∈ tables_1_5) : w ∈ tables_1 := show w ∈ tables_1 from List.mem_append_right _ (List.mem_append_right _ (List.mem_append_right _ (List.mem_append_right _ (List.mem_append_left _ h))))
theorem zlw6 {w : Cond} (h : w ∈ tables_1_6) : w ∈ tables_1 := show w ∈ tables_1 from List.mem_append_right _ (List.mem_append_right _ (List.mem_append_right _ (List.mem_append_right _ (List.mem_append_right _ (List.mem_append_left _ h)))))
theorem zlw7 {w : Cond} (h : w ∈ tables_1_7) : w ∈ tables_1 := show w ∈ tables_1 from List.mem_append_right _ (List.mem_append_right _ (List.mem_append_right _ (List.mem_append_right _ (List.mem_append_right _ (List.mem_append_right _ (List.mem_append_left _ h))))))
theorem zlw8 {w : Cond} (h : w ∈ tables_1_8) : w ∈ tables_1 := show w ∈ tables_1 from List.mem_append_right _ (List.mem_append_right _ (List.mem_append_right _ (List.mem_append_right _ (List.mem_append_right _ (List.mem_append_right _ (List.mem_append_right _ (h)))))))
theorem zlq0 : ("NinePortraits$CourtReader" : String) ≠ "java/lang/invoke/MethodHandle" ∧ ("NinePortraits$CourtReader" : String) ≠ "java/lang/invoke/VarHandle" := ⟨by decide +kernel, by decide +kernel⟩
theorem zlq1 : ("NinePortraits$LawReader" : String) ≠ "java/lang/invoke/MethodHandle" ∧ ("NinePortraits$LawReader" : String) ≠ "java/lang/invoke/VarHandle" := ⟨by decide +kernel, by decide +kernel⟩
theorem zlq2 : ("NinePortraits" : String) ≠ "java/lang/invoke/MethodHandle" ∧ ("NinePortraits" : String) ≠ "java/lang/invoke/VarHandle" := ⟨by decide +kernel, by decide +kernel⟩
theorem zlq3 : ("NinePortraits$Mind" : String) ≠ "java/lang/invoke/MethodHandle" ∧ ("NinePortraits$Mind" : String) ≠ "java/lang/invoke/VarHandle" := ⟨by decide +kernel, by decide +kernel⟩
theorem zlq4 : ("java/lang/Throwable" : String) ≠ "java/lang/invoke/MethodHandle" ∧ ("java/lang/Throwable" : String) ≠ "java/lang/invoke/VarHandle" := ⟨by decide +kernel, by decide +kernel⟩
theorem zlq5 : ("NinePortraitsModel" : String) ≠ "java/lang/invoke/MethodHandle" ∧ ("NinePortraitsModel" : String) ≠ "java/lang/invoke/VarHandle" := ⟨by decide +kernel, by decide +kernel⟩
set_option maxRecDepth 100000 in
theorem lw_p0 : lw_okq (⟨"NinePortraits$CourtReader", "clause", "()Z"⟩, 3) := ⟨zlq0, zlw1 (List.mem_of_getElem? (i := 52) rfl), zlw2 (List.mem_of_getElem? (i := 97) rfl), zlw2 (List.mem_of_getElem? (i := 98) rfl)⟩
set_option maxRecDepth 100000 in
theorem lw_p1 : lw_okq (⟨"NinePortraits$CourtReader", "items", "([C[I[II)Z"⟩, 3) := ⟨zlq0, zlw1 (List.mem_of_getElem? (i := 52) rfl), zlw2 (List.mem_of_getElem? (i := 109) rfl), zlw2 (List.mem_of_getElem? (i := 110) rfl)⟩
set_option maxRecDepth 100000 in
theorem lw_p2 : lw_okq (⟨"NinePortraits$LawReader", "clause", "()Z"⟩, 3) := ⟨zlq1, zlw1 (List.mem_of_getElem? (i := 68) rfl), zlw2 (List.mem_of_getElem? (i := 144) rfl), zlw2 (List.mem_of_getElem? (i := 145) rfl)⟩
set_option maxRecDepth 100000 in
theorem lw_p3 : lw_okq (⟨"NinePortraits$LawReader", "sum", "(I)Z"⟩, 3) := ⟨zlq1, zlw1 (List.mem_of_getElem? (i := 68) rfl), zlw2 (List.mem_of_getElem? (i := 150) rfl), zlw2 (List.mem_of_getElem? (i := 151) rfl)⟩
set_option maxRecDepth 100000 in
theorem lw_p4 : lw_okq (⟨"NinePortraits$LawReader", "atom", "(I)Z"⟩, 3) := ⟨zlq1, zlw1 (List.mem_of_getElem? (i := 68) rfl), zlw2 (List.mem_of_getElem? (i := 154) rfl), zlw2 (List.mem_of_getElem? (i := 155) rfl)⟩
set_option maxRecDepth 100000 in
theorem lw_p5 : lw_okq (⟨"NinePortraits$LawReader", "put", "(II)V"⟩, 3) := ⟨zlq1, zlw1 (List.mem_of_getElem? (i := 68) rfl), zlw2 (List.mem_of_getElem? (i := 160) rfl), zlw2 (List.mem_of_getElem? (i := 161) rfl)⟩
set_option maxRecDepth 100000 in
theorem lw_p6 : lw_okq (⟨"NinePortraits$LawReader", "condition", "(IZ)Z"⟩, 3) := ⟨zlq1, zlw1 (List.mem_of_getElem? (i := 68) rfl), zlw2 (List.mem_of_getElem? (i := 171) rfl), zlw2 (List.mem_of_getElem? (i := 172) rfl)⟩
set_option maxRecDepth 100000 in
theorem lw_p7 : lw_okq (⟨"NinePortraits$LawReader", "unit", "(IZ)Z"⟩, 3) := ⟨zlq1, zlw1 (List.mem_of_getElem? (i := 68) rfl), zlw2 (List.mem_of_getElem? (i := 175) rfl), zlw2 (List.mem_of_getElem? (i := 176) rfl)⟩
set_option maxRecDepth 100000 in
theorem lw_p8 : lw_okq (⟨"NinePortraits", "takeCourt", "()I"⟩, 17) := ⟨zlq2, zlw1 (List.mem_of_getElem? (i := 22) rfl), zlw2 (List.mem_of_getElem? (i := 183) rfl), zlw2 (List.mem_of_getElem? (i := 184) rfl)⟩
set_option maxRecDepth 100000 in
theorem lw_p9 : lw_okq (⟨"NinePortraits", "takeLaw", "()I"⟩, 17) := ⟨zlq2, zlw1 (List.mem_of_getElem? (i := 22) rfl), zlw2 (List.mem_of_getElem? (i := 212) rfl), zlw2 (List.mem_of_getElem? (i := 213) rfl)⟩
set_option maxRecDepth 100000 in
theorem lw_p10 : lw_okq (⟨"NinePortraits", "hasCourt", "()Z"⟩, 17) := ⟨zlq2, zlw1 (List.mem_of_getElem? (i := 22) rfl), zlw3 (List.mem_of_getElem? (i := 8) rfl), zlw3 (List.mem_of_getElem? (i := 9) rfl)⟩
set_option maxRecDepth 100000 in
theorem lw_p11 : lw_okq (⟨"NinePortraits", "isPainter", "(I)Z"⟩, 17) := ⟨zlq2, zlw1 (List.mem_of_getElem? (i := 22) rfl), zlw3 (List.mem_of_getElem? (i := 24) rfl), zlw3 (List.mem_of_getElem? (i := 25) rfl)⟩
set_option maxRecDepth 100000 in
theorem lw_p12 : lw_okq (⟨"NinePortraits", "isBride", "(I)Z"⟩, 17) := ⟨zlq2, zlw1 (List.mem_of_getElem? (i := 22) rfl), zlw3 (List.mem_of_getElem? (i := 49) rfl), zlw3 (List.mem_of_getElem? (i := 50) rfl)⟩
set_option maxRecDepth 100000 in
theorem lw_p13 : lw_okq (⟨"NinePortraits", "refuse", "(I)I"⟩, 17) := ⟨zlq2, zlw1 (List.mem_of_getElem? (i := 22) rfl), zlw3 (List.mem_of_getElem? (i := 108) rfl), zlw3 (List.mem_of_getElem? (i := 109) rfl)⟩
set_option maxRecDepth 100000 in
theorem lw_p14 : lw_okq (⟨"NinePortraits", "paintNow", "(II)I"⟩, 17) := ⟨zlq2, zlw1 (List.mem_of_getElem? (i := 22) rfl), zlw3 (List.mem_of_getElem? (i := 122) rfl), zlw3 (List.mem_of_getElem? (i := 123) rfl)⟩
set_option maxRecDepth 100000 in
theorem lw_p15 : lw_okq (⟨"NinePortraits", "paysToHear", "(III)Z"⟩, 17) := ⟨zlq2, zlw1 (List.mem_of_getElem? (i := 22) rfl), zlw3 (List.mem_of_getElem? (i := 149) rfl), zlw3 (List.mem_of_getElem? (i := 150) rfl)⟩
def lw_privs_1 : List (MethodName × Nat) := [(⟨"NinePortraits$CourtReader", "clause", "()Z"⟩, 3), (⟨"NinePortraits$CourtReader", "items", "([C[I[II)Z"⟩, 3), (⟨"NinePortraits$LawReader", "clause", "()Z"⟩, 3), (⟨"NinePortraits$LawReader", "sum", "(I)Z"⟩, 3), (⟨"NinePortraits$LawReader", "atom", "(I)Z"⟩, 3), (⟨"NinePortraits$LawReader", "put", "(II)V"⟩, 3), (⟨"NinePortraits$LawReader", "condition", "(IZ)Z"⟩, 3), (⟨"NinePortraits$LawReader", "unit", "(IZ)Z"⟩, 3), (⟨"NinePortraits", "takeCourt", "()I"⟩, 17), (⟨"NinePortraits", "takeLaw", "()I"⟩, 17), (⟨"NinePortraits", "hasCourt", "()Z"⟩, 17), (⟨"NinePortraits", "isPainter", "(I)Z"⟩, 17), (⟨"NinePortraits", "isBride", "(I)Z"⟩, 17), (⟨"NinePortraits", "refuse", "(I)I"⟩, 17), (⟨"NinePortraits", "paintNow", "(II)I"⟩, 17), (⟨"NinePortraits", "paysToHear", "(III)Z"⟩, 17)]
theorem lw_r1 : ∀ q ∈ lw_privs_1, lw_okq q := List.forall_mem_cons.mpr ⟨lw_p0, List.forall_mem_cons.mpr ⟨lw_p1, List.forall_mem_cons.mpr ⟨lw_p2, List.forall_mem_cons.mpr ⟨lw_p3, List.forall_mem_cons.mpr ⟨lw_p4, List.forall_mem_cons.mpr ⟨lw_p5, List.forall_mem_cons.mpr ⟨lw_p6, List.forall_mem_cons.mpr ⟨lw_p7, List.forall_mem_cons.mpr ⟨lw_p8, List.forall_mem_cons.mpr ⟨lw_p9, List.forall_mem_cons.mpr ⟨lw_p10, List.forall_mem_cons.mpr ⟨lw_p11, List.forall_mem_cons.mpr ⟨lw_p12, List.forall_mem_cons.mpr ⟨lw_p13, List.forall_mem_cons.mpr ⟨lw_p14, List.forall_mem_cons.mpr ⟨lw_p15, fun _ h => absurd h List.not_mem_nil⟩⟩⟩⟩⟩⟩⟩⟩⟩⟩⟩⟩⟩⟩⟩⟩
set_option maxRecDepth 100000 in
theorem lw_p16 : lw_okq (⟨"NinePortraits", "looked", "(I)I"⟩, 17) := ⟨zlq2, zlw1 (List.mem_of_getElem? (i := 22) rfl), zlw3 (List.mem_of_getElem? (i := 171) rfl), zlw3 (List.mem_of_getElem? (i := 172) rfl)⟩
set_option maxRecDepth 100000 in
theorem lw_p17 : lw_okq (⟨"NinePortraits", "paintByDraws", "()V"⟩, 17) := ⟨zlq2, zlw1 (List.mem_of_getElem? (i := 22) rfl), zlw3 (List.mem_of_getElem? (i := 204) rfl), zlw3 (List.mem_of_getElem? (i := 205) rfl)⟩
set_option maxRecDepth 100000 in
theorem lw_p18 : lw_okq (⟨"NinePortraits", "payByDraws", "()V"⟩, 17) := ⟨zlq2, zlw1 (List.mem_of_getElem? (i := 22) rfl), zlw3 (List.mem_of_getElem? (i := 214) rfl), zlw3 (List.mem_of_getElem? (i := 215) rfl)⟩
set_option maxRecDepth 100000 in
theorem lw_p19 : lw_okq (⟨"NinePortraits$Mind", "sketches", "(I)Z"⟩, 9) := ⟨zlq3, zlw1 (List.mem_of_getElem? (i := 214) rfl), zlw4 (List.mem_of_getElem? (i := 19) rfl), zlw4 (List.mem_of_getElem? (i := 20) rfl)⟩
set_option maxRecDepth 100000 in
theorem lw_p20 : lw_okq (⟨"NinePortraits$Mind", "weighBy", "(II)V"⟩, 9) := ⟨zlq3, zlw1 (List.mem_of_getElem? (i := 214) rfl), zlw4 (List.mem_of_getElem? (i := 24) rfl), zlw4 (List.mem_of_getElem? (i := 25) rfl)⟩
set_option maxRecDepth 100000 in
theorem lw_p21 : lw_okq (⟨"NinePortraits$Mind", "mostAlike", "(III)I"⟩, 9) := ⟨zlq3, zlw1 (List.mem_of_getElem? (i := 214) rfl), zlw4 (List.mem_of_getElem? (i := 57) rfl), zlw4 (List.mem_of_getElem? (i := 58) rfl)⟩
set_option maxRecDepth 100000 in
theorem lw_p22 : lw_okq (⟨"NinePortraits$Mind", "addTeller", "(III)I"⟩, 9) := ⟨zlq3, zlw1 (List.mem_of_getElem? (i := 214) rfl), zlw4 (List.mem_of_getElem? (i := 72) rfl), zlw4 (List.mem_of_getElem? (i := 73) rfl)⟩
set_option maxRecDepth 100000 in
theorem lw_p23 : lw_okq (⟨"NinePortraits$Mind", "tellsAll", "(II)Z"⟩, 9) := ⟨zlq3, zlw1 (List.mem_of_getElem? (i := 214) rfl), zlw4 (List.mem_of_getElem? (i := 82) rfl), zlw4 (List.mem_of_getElem? (i := 83) rfl)⟩
set_option maxRecDepth 100000 in
theorem lw_p24 : lw_okq (⟨"NinePortraits", "choice", "(I)I"⟩, 17) := ⟨zlq2, zlw1 (List.mem_of_getElem? (i := 22) rfl), zlw4 (List.mem_of_getElem? (i := 101) rfl), zlw4 (List.mem_of_getElem? (i := 102) rfl)⟩
set_option maxRecDepth 100000 in
theorem lw_p25 : lw_okq (⟨"NinePortraits", "canPlay", "(III)Z"⟩, 17) := ⟨zlq2, zlw1 (List.mem_of_getElem? (i := 22) rfl), zlw4 (List.mem_of_getElem? (i := 115) rfl), zlw4 (List.mem_of_getElem? (i := 116) rfl)⟩
set_option maxRecDepth 100000 in
theorem lw_p26 : lw_okq (⟨"NinePortraits", "rankByPay", "(I)I"⟩, 17) := ⟨zlq2, zlw1 (List.mem_of_getElem? (i := 22) rfl), zlw4 (List.mem_of_getElem? (i := 168) rfl), zlw4 (List.mem_of_getElem? (i := 169) rfl)⟩
set_option maxRecDepth 100000 in
theorem lw_p27 : lw_okq (⟨"NinePortraits", "plainBrides", "()I"⟩, 17) := ⟨zlq2, zlw1 (List.mem_of_getElem? (i := 22) rfl), zlw4 (List.mem_of_getElem? (i := 176) rfl), zlw4 (List.mem_of_getElem? (i := 177) rfl)⟩
set_option maxRecDepth 100000 in
theorem lw_p28 : lw_okq (⟨"NinePortraits", "lies", "()I"⟩, 17) := ⟨zlq2, zlw1 (List.mem_of_getElem? (i := 22) rfl), zlw4 (List.mem_of_getElem? (i := 188) rfl), zlw4 (List.mem_of_getElem? (i := 189) rfl)⟩
set_option maxRecDepth 100000 in
theorem lw_p29 : lw_okq (⟨"NinePortraits", "above", "(I)I"⟩, 17) := ⟨zlq2, zlw1 (List.mem_of_getElem? (i := 22) rfl), zlw4 (List.mem_of_getElem? (i := 192) rfl), zlw4 (List.mem_of_getElem? (i := 193) rfl)⟩
set_option maxRecDepth 100000 in
theorem lw_p30 : lw_okq (⟨"java/lang/Throwable", "fillInStackTrace", "(I)Ljava/lang/Throwable;"⟩, 6) := ⟨zlq4, zlw5 (List.mem_of_getElem? (i := 39) rfl), zlw5 (List.mem_of_getElem? (i := 37) rfl), zlw5 (List.mem_of_getElem? (i := 38) rfl)⟩
set_option maxRecDepth 100000 in
theorem lw_p31 : lw_okq (⟨"NinePortraitsModel", "readCourt", "()I"⟩, 41) := ⟨zlq5, zlw5 (List.mem_of_getElem? (i := 65) rfl), zlw5 (List.mem_of_getElem? (i := 210) rfl), zlw5 (List.mem_of_getElem? (i := 211) rfl)⟩
def lw_privs_2 : List (MethodName × Nat) := [(⟨"NinePortraits", "looked", "(I)I"⟩, 17), (⟨"NinePortraits", "paintByDraws", "()V"⟩, 17), (⟨"NinePortraits", "payByDraws", "()V"⟩, 17), (⟨"NinePortraits$Mind", "sketches", "(I)Z"⟩, 9), (⟨"NinePortraits$Mind", "weighBy", "(II)V"⟩, 9), (⟨"NinePortraits$Mind", "mostAlike", "(III)I"⟩, 9), (⟨"NinePortraits$Mind", "addTeller", "(III)I"⟩, 9), (⟨"NinePortraits$Mind", "tellsAll", "(II)Z"⟩, 9), (⟨"NinePortraits", "choice", "(I)I"⟩, 17), (⟨"NinePortraits", "canPlay", "(III)Z"⟩, 17), (⟨"NinePortraits", "rankByPay", "(I)I"⟩, 17), (⟨"NinePortraits", "plainBrides", "()I"⟩, 17), (⟨"NinePortraits", "lies", "()I"⟩, 17), (⟨"NinePortraits", "above", "(I)I"⟩, 17), (⟨"java/lang/Throwable", "fillInStackTrace", "(I)Ljava/lang/Throwable;"⟩, 6), (⟨"NinePortraitsModel", "readCourt", "()I"⟩, 41)]
theorem lw_r2 : ∀ q ∈ lw_privs_2, lw_okq q := List.forall_mem_cons.mpr ⟨lw_p16, List.forall_mem_cons.mpr ⟨lw_p17, List.forall_mem_cons.mpr ⟨lw_p18, List.forall_mem_cons.mpr ⟨lw_p19, List.forall_mem_cons.mpr ⟨lw_p20, List.forall_mem_cons.mpr ⟨lw_p21, List.forall_mem_cons.mpr ⟨lw_p22, List.forall_mem_cons.mpr ⟨lw_p23, List.forall_mem_cons.mpr ⟨lw_p24, List.forall_mem_cons.mpr ⟨lw_p25, List.forall_mem_cons.mpr ⟨lw_p26, List.forall_mem_cons.mpr ⟨lw_p27, List.forall_mem_cons.mpr ⟨lw_p28, List.forall_mem_cons.mpr ⟨lw_p29, List.forall_mem_cons.mpr ⟨lw_p30, List.forall_mem_cons.mpr ⟨lw_p31, fun _ h => absurd h List.not_mem_nil⟩⟩⟩⟩⟩⟩⟩⟩⟩⟩⟩⟩⟩⟩⟩⟩
set_option maxRecDepth 100000 in
theorem lw_p32 : lw_okq (⟨"NinePortraitsModel", "look", "()I"⟩, 41) := ⟨zlq5, zlw5 (List.mem_of_getElem? (i := 65) rfl), zlw5 (List.mem_of_getElem? (i := 217) rfl), zlw5 (List.mem_of_getElem? (i := 218) rfl)⟩
set_option maxRecDepth 100000 in
theorem lw_p33 : lw_okq (⟨"NinePortraitsModel", "here", "()I"⟩, 41) := ⟨zlq5, zlw5 (List.mem_of_getElem? (i := 65) rfl), zlw5 (List.mem_of_getElem? (i := 221) rfl), zlw5 (List.mem_of_getElem? (i := 222) rfl)⟩
set_option maxRecDepth 100000 in
theorem lw_p34 : lw_okq (⟨"NinePortraitsModel", "items", "(I[III)V"⟩, 41) := ⟨zlq5, zlw5 (List.mem_of_getElem? (i := 65) rfl), zlw5 (List.mem_of_getElem? (i := 225) rfl), zlw5 (List.mem_of_getElem? (i := 226) rfl)⟩
set_option maxRecDepth 100000 in
theorem lw_p35 : lw_okq (⟨"NinePortraitsModel", "number", "(II)I"⟩, 41) := ⟨zlq5, zlw5 (List.mem_of_getElem? (i := 65) rfl), zlw5 (List.mem_of_getElem? (i := 238) rfl), zlw5 (List.mem_of_getElem? (i := 239) rfl)⟩
set_option maxRecDepth 100000 in
theorem lw_p36 : lw_okq (⟨"NinePortraitsModel", "bad", "()V"⟩, 41) := ⟨zlq5, zlw5 (List.mem_of_getElem? (i := 65) rfl), zlw6 (List.mem_of_getElem? (i := 5) rfl), zlw6 (List.mem_of_getElem? (i := 6) rfl)⟩
set_option maxRecDepth 100000 in
theorem lw_p37 : lw_okq (⟨"NinePortraitsModel", "readLaw", "(I)I"⟩, 41) := ⟨zlq5, zlw5 (List.mem_of_getElem? (i := 65) rfl), zlw6 (List.mem_of_getElem? (i := 12) rfl), zlw6 (List.mem_of_getElem? (i := 13) rfl)⟩
set_option maxRecDepth 100000 in
theorem lw_p38 : lw_okq (⟨"NinePortraitsModel", "open", "(I)V"⟩, 41) := ⟨zlq5, zlw5 (List.mem_of_getElem? (i := 65) rfl), zlw6 (List.mem_of_getElem? (i := 16) rfl), zlw6 (List.mem_of_getElem? (i := 17) rfl)⟩
set_option maxRecDepth 100000 in
theorem lw_p39 : lw_okq (⟨"NinePortraitsModel", "clause", "()V"⟩, 41) := ⟨zlq5, zlw5 (List.mem_of_getElem? (i := 65) rfl), zlw6 (List.mem_of_getElem? (i := 20) rfl), zlw6 (List.mem_of_getElem? (i := 21) rfl)⟩
set_option maxRecDepth 100000 in
theorem lw_p40 : lw_okq (⟨"NinePortraitsModel", "condition", "()V"⟩, 41) := ⟨zlq5, zlw5 (List.mem_of_getElem? (i := 65) rfl), zlw6 (List.mem_of_getElem? (i := 24) rfl), zlw6 (List.mem_of_getElem? (i := 25) rfl)⟩
set_option maxRecDepth 100000 in
theorem lw_p41 : lw_okq (⟨"NinePortraitsModel", "unit", "()V"⟩, 41) := ⟨zlq5, zlw5 (List.mem_of_getElem? (i := 65) rfl), zlw6 (List.mem_of_getElem? (i := 28) rfl), zlw6 (List.mem_of_getElem? (i := 29) rfl)⟩
set_option maxRecDepth 100000 in
theorem lw_p42 : lw_okq (⟨"NinePortraitsModel", "opens", "()V"⟩, 41) := ⟨zlq5, zlw5 (List.mem_of_getElem? (i := 65) rfl), zlw6 (List.mem_of_getElem? (i := 32) rfl), zlw6 (List.mem_of_getElem? (i := 33) rfl)⟩
set_option maxRecDepth 100000 in
theorem lw_p43 : lw_okq (⟨"NinePortraitsModel", "put", "(II)V"⟩, 41) := ⟨zlq5, zlw5 (List.mem_of_getElem? (i := 65) rfl), zlw6 (List.mem_of_getElem? (i := 36) rfl), zlw6 (List.mem_of_getElem? (i := 37) rfl)⟩
set_option maxRecDepth 100000 in
theorem lw_p44 : lw_okq (⟨"NinePortraitsModel", "closes", "(I)V"⟩, 41) := ⟨zlq5, zlw5 (List.mem_of_getElem? (i := 65) rfl), zlw6 (List.mem_of_getElem? (i := 40) rfl), zlw6 (List.mem_of_getElem? (i := 41) rfl)⟩
set_option maxRecDepth 100000 in
theorem lw_p45 : lw_okq (⟨"NinePortraitsModel", "sum", "()V"⟩, 41) := ⟨zlq5, zlw5 (List.mem_of_getElem? (i := 65) rfl), zlw6 (List.mem_of_getElem? (i := 44) rfl), zlw6 (List.mem_of_getElem? (i := 45) rfl)⟩
set_option maxRecDepth 100000 in
theorem lw_p46 : lw_okq (⟨"NinePortraitsModel", "term", "()V"⟩, 41) := ⟨zlq5, zlw5 (List.mem_of_getElem? (i := 65) rfl), zlw6 (List.mem_of_getElem? (i := 48) rfl), zlw6 (List.mem_of_getElem? (i := 49) rfl)⟩
set_option maxRecDepth 100000 in
theorem lw_p47 : lw_okq (⟨"NinePortraitsModel", "atom", "()V"⟩, 41) := ⟨zlq5, zlw5 (List.mem_of_getElem? (i := 65) rfl), zlw6 (List.mem_of_getElem? (i := 52) rfl), zlw6 (List.mem_of_getElem? (i := 53) rfl)⟩
def lw_privs_3 : List (MethodName × Nat) := [(⟨"NinePortraitsModel", "look", "()I"⟩, 41), (⟨"NinePortraitsModel", "here", "()I"⟩, 41), (⟨"NinePortraitsModel", "items", "(I[III)V"⟩, 41), (⟨"NinePortraitsModel", "number", "(II)I"⟩, 41), (⟨"NinePortraitsModel", "bad", "()V"⟩, 41), (⟨"NinePortraitsModel", "readLaw", "(I)I"⟩, 41), (⟨"NinePortraitsModel", "open", "(I)V"⟩, 41), (⟨"NinePortraitsModel", "clause", "()V"⟩, 41), (⟨"NinePortraitsModel", "condition", "()V"⟩, 41), (⟨"NinePortraitsModel", "unit", "()V"⟩, 41), (⟨"NinePortraitsModel", "opens", "()V"⟩, 41), (⟨"NinePortraitsModel", "put", "(II)V"⟩, 41), (⟨"NinePortraitsModel", "closes", "(I)V"⟩, 41), (⟨"NinePortraitsModel", "sum", "()V"⟩, 41), (⟨"NinePortraitsModel", "term", "()V"⟩, 41), (⟨"NinePortraitsModel", "atom", "()V"⟩, 41)]
theorem lw_r3 : ∀ q ∈ lw_privs_3, lw_okq q := List.forall_mem_cons.mpr ⟨lw_p32, List.forall_mem_cons.mpr ⟨lw_p33, List.forall_mem_cons.mpr ⟨lw_p34, List.forall_mem_cons.mpr ⟨lw_p35, List.forall_mem_cons.mpr ⟨lw_p36, List.forall_mem_cons.mpr ⟨lw_p37, List.forall_mem_cons.mpr ⟨lw_p38, List.forall_mem_cons.mpr ⟨lw_p39, List.forall_mem_cons.mpr ⟨lw_p40, List.forall_mem_cons.mpr ⟨lw_p41, List.forall_mem_cons.mpr ⟨lw_p42, List.forall_mem_cons.mpr ⟨lw_p43, List.forall_mem_cons.mpr ⟨lw_p44, List.forall_mem_cons.mpr ⟨lw_p45, List.forall_mem_cons.mpr ⟨lw_p46, List.forall_mem_cons.mpr ⟨lw_p47, fun _ h => absurd h List.not_mem_nil⟩⟩⟩⟩⟩⟩⟩⟩⟩⟩⟩⟩⟩⟩⟩⟩
set_option maxRecDepth 100000 in
theorem lw_p48 : lw_okq (⟨"NinePortraitsModel", "plainNumber", "()I"⟩, 41) := ⟨zlq5, zlw5 (List.mem_of_getElem? (i := 65) rfl), zlw6 (List.mem_of_getElem? (i := 56) rfl), zlw6 (List.mem_of_getElem? (i := 57) rfl)⟩
set_option maxRecDepth 100000 in
theorem lw_p49 : lw_okq (⟨"NinePortraitsModel", "compare", "()V"⟩, 41) := ⟨zlq5, zlw5 (List.mem_of_getElem? (i := 65) rfl), zlw6 (List.mem_of_getElem? (i := 63) rfl), zlw6 (List.mem_of_getElem? (i := 64) rfl)⟩
set_option maxRecDepth 100000 in
theorem lw_p50 : lw_okq (⟨"NinePortraitsModel", "goOnAnd", "()V"⟩, 41) := ⟨zlq5, zlw5 (List.mem_of_getElem? (i := 65) rfl), zlw6 (List.mem_of_getElem? (i := 70) rfl), zlw6 (List.mem_of_getElem? (i := 71) rfl)⟩
set_option maxRecDepth 100000 in
theorem lw_p51 : lw_okq (⟨"NinePortraitsModel", "goOnOr", "()V"⟩, 41) := ⟨zlq5, zlw5 (List.mem_of_getElem? (i := 65) rfl), zlw6 (List.mem_of_getElem? (i := 74) rfl), zlw6 (List.mem_of_getElem? (i := 75) rfl)⟩
set_option maxRecDepth 100000 in
theorem lw_p52 : lw_okq (⟨"NinePortraitsModel", "atEnd", "()I"⟩, 41) := ⟨zlq5, zlw5 (List.mem_of_getElem? (i := 65) rfl), zlw6 (List.mem_of_getElem? (i := 78) rfl), zlw6 (List.mem_of_getElem? (i := 79) rfl)⟩
set_option maxRecDepth 100000 in
theorem lw_p53 : lw_okq (⟨"NinePortraitsModel", "takeCourt", "()I"⟩, 41) := ⟨zlq5, zlw5 (List.mem_of_getElem? (i := 65) rfl), zlw6 (List.mem_of_getElem? (i := 86) rfl), zlw6 (List.mem_of_getElem? (i := 87) rfl)⟩
set_option maxRecDepth 100000 in
theorem lw_p54 : lw_okq (⟨"NinePortraitsModel", "of", "(II)I"⟩, 41) := ⟨zlq5, zlw5 (List.mem_of_getElem? (i := 65) rfl), zlw6 (List.mem_of_getElem? (i := 90) rfl), zlw6 (List.mem_of_getElem? (i := 91) rfl)⟩
set_option maxRecDepth 100000 in
theorem lw_p55 : lw_okq (⟨"NinePortraitsModel", "by", "(II)I"⟩, 41) := ⟨zlq5, zlw5 (List.mem_of_getElem? (i := 65) rfl), zlw6 (List.mem_of_getElem? (i := 94) rfl), zlw6 (List.mem_of_getElem? (i := 95) rfl)⟩
set_option maxRecDepth 100000 in
theorem lw_p56 : lw_okq (⟨"NinePortraitsModel", "isBride", "(I)Z"⟩, 41) := ⟨zlq5, zlw5 (List.mem_of_getElem? (i := 65) rfl), zlw6 (List.mem_of_getElem? (i := 106) rfl), zlw6 (List.mem_of_getElem? (i := 107) rfl)⟩
set_option maxRecDepth 100000 in
theorem lw_p57 : lw_okq (⟨"NinePortraitsModel", "isPainter", "(I)Z"⟩, 41) := ⟨zlq5, zlw5 (List.mem_of_getElem? (i := 65) rfl), zlw6 (List.mem_of_getElem? (i := 114) rfl), zlw6 (List.mem_of_getElem? (i := 115) rfl)⟩
set_option maxRecDepth 100000 in
theorem lw_p58 : lw_okq (⟨"NinePortraitsModel", "areBoth", "(II)Z"⟩, 41) := ⟨zlq5, zlw5 (List.mem_of_getElem? (i := 65) rfl), zlw6 (List.mem_of_getElem? (i := 126) rfl), zlw6 (List.mem_of_getElem? (i := 127) rfl)⟩
set_option maxRecDepth 100000 in
theorem lw_p59 : lw_okq (⟨"NinePortraitsModel", "flatteryBy", "(II)I"⟩, 41) := ⟨zlq5, zlw5 (List.mem_of_getElem? (i := 65) rfl), zlw6 (List.mem_of_getElem? (i := 130) rfl), zlw6 (List.mem_of_getElem? (i := 131) rfl)⟩
set_option maxRecDepth 100000 in
theorem lw_p60 : lw_okq (⟨"NinePortraitsModel", "shownOf", "(III)I"⟩, 41) := ⟨zlq5, zlw5 (List.mem_of_getElem? (i := 65) rfl), zlw6 (List.mem_of_getElem? (i := 142) rfl), zlw6 (List.mem_of_getElem? (i := 143) rfl)⟩
set_option maxRecDepth 100000 in
theorem lw_p61 : lw_okq (⟨"NinePortraitsModel", "looksBy", "(IIII)I"⟩, 41) := ⟨zlq5, zlw5 (List.mem_of_getElem? (i := 65) rfl), zlw6 (List.mem_of_getElem? (i := 146) rfl), zlw6 (List.mem_of_getElem? (i := 147) rfl)⟩
set_option maxRecDepth 100000 in
theorem lw_p62 : lw_okq (⟨"NinePortraitsModel", "worthOf", "(I)I"⟩, 41) := ⟨zlq5, zlw5 (List.mem_of_getElem? (i := 65) rfl), zlw6 (List.mem_of_getElem? (i := 150) rfl), zlw6 (List.mem_of_getElem? (i := 151) rfl)⟩
set_option maxRecDepth 100000 in
theorem lw_p63 : lw_okq (⟨"NinePortraitsModel", "workOut", "(III)I"⟩, 41) := ⟨zlq5, zlw5 (List.mem_of_getElem? (i := 65) rfl), zlw6 (List.mem_of_getElem? (i := 154) rfl), zlw6 (List.mem_of_getElem? (i := 155) rfl)⟩
def lw_privs_4 : List (MethodName × Nat) := [(⟨"NinePortraitsModel", "plainNumber", "()I"⟩, 41), (⟨"NinePortraitsModel", "compare", "()V"⟩, 41), (⟨"NinePortraitsModel", "goOnAnd", "()V"⟩, 41), (⟨"NinePortraitsModel", "goOnOr", "()V"⟩, 41), (⟨"NinePortraitsModel", "atEnd", "()I"⟩, 41), (⟨"NinePortraitsModel", "takeCourt", "()I"⟩, 41), (⟨"NinePortraitsModel", "of", "(II)I"⟩, 41), (⟨"NinePortraitsModel", "by", "(II)I"⟩, 41), (⟨"NinePortraitsModel", "isBride", "(I)Z"⟩, 41), (⟨"NinePortraitsModel", "isPainter", "(I)Z"⟩, 41), (⟨"NinePortraitsModel", "areBoth", "(II)Z"⟩, 41), (⟨"NinePortraitsModel", "flatteryBy", "(II)I"⟩, 41), (⟨"NinePortraitsModel", "shownOf", "(III)I"⟩, 41), (⟨"NinePortraitsModel", "looksBy", "(IIII)I"⟩, 41), (⟨"NinePortraitsModel", "worthOf", "(I)I"⟩, 41), (⟨"NinePortraitsModel", "workOut", "(III)I"⟩, 41)]
theorem lw_r4 : ∀ q ∈ lw_privs_4, lw_okq q := List.forall_mem_cons.mpr ⟨lw_p48, List.forall_mem_cons.mpr ⟨lw_p49, List.forall_mem_cons.mpr ⟨lw_p50, List.forall_mem_cons.mpr ⟨lw_p51, List.forall_mem_cons.mpr ⟨lw_p52, List.forall_mem_cons.mpr ⟨lw_p53, List.forall_mem_cons.mpr ⟨lw_p54, List.forall_mem_cons.mpr ⟨lw_p55, List.forall_mem_cons.mpr ⟨lw_p56, List.forall_mem_cons.mpr ⟨lw_p57, List.forall_mem_cons.mpr ⟨lw_p58, List.forall_mem_cons.mpr ⟨lw_p59, List.forall_mem_cons.mpr ⟨lw_p60, List.forall_mem_cons.mpr ⟨lw_p61, List.forall_mem_cons.mpr ⟨lw_p62, List.forall_mem_cons.mpr ⟨lw_p63, fun _ h => absurd h List.not_mem_nil⟩⟩⟩⟩⟩⟩⟩⟩⟩⟩⟩⟩⟩⟩⟩⟩
set_option maxRecDepth 100000 in
theorem lw_p64 : lw_okq (⟨"NinePortraitsModel", "latestOf", "(I)I"⟩, 41) := ⟨zlq5, zlw5 (List.mem_of_getElem? (i := 65) rfl), zlw6 (List.mem_of_getElem? (i := 173) rfl), zlw6 (List.mem_of_getElem? (i := 174) rfl)⟩
set_option maxRecDepth 100000 in
theorem lw_p65 : lw_okq (⟨"NinePortraitsModel", "shot", "(II)I"⟩, 41) := ⟨zlq5, zlw5 (List.mem_of_getElem? (i := 65) rfl), zlw6 (List.mem_of_getElem? (i := 177) rfl), zlw6 (List.mem_of_getElem? (i := 178) rfl)⟩
set_option maxRecDepth 100000 in
theorem lw_p66 : lw_okq (⟨"NinePortraitsModel", "isRefused", "(I)Z"⟩, 41) := ⟨zlq5, zlw5 (List.mem_of_getElem? (i := 65) rfl), zlw6 (List.mem_of_getElem? (i := 185) rfl), zlw6 (List.mem_of_getElem? (i := 186) rfl)⟩
set_option maxRecDepth 100000 in
theorem lw_p67 : lw_okq (⟨"NinePortraitsModel", "keep", "()V"⟩, 41) := ⟨zlq5, zlw5 (List.mem_of_getElem? (i := 65) rfl), zlw6 (List.mem_of_getElem? (i := 189) rfl), zlw6 (List.mem_of_getElem? (i := 190) rfl)⟩
set_option maxRecDepth 100000 in
theorem lw_p68 : lw_okq (⟨"NinePortraitsModel", "paintNow", "(II)I"⟩, 41) := ⟨zlq5, zlw5 (List.mem_of_getElem? (i := 65) rfl), zlw6 (List.mem_of_getElem? (i := 193) rfl), zlw6 (List.mem_of_getElem? (i := 194) rfl)⟩
set_option maxRecDepth 100000 in
theorem lw_p69 : lw_okq (⟨"NinePortraitsModel", "isTold", "(III)Z"⟩, 41) := ⟨zlq5, zlw5 (List.mem_of_getElem? (i := 65) rfl), zlw6 (List.mem_of_getElem? (i := 209) rfl), zlw6 (List.mem_of_getElem? (i := 210) rfl)⟩
set_option maxRecDepth 100000 in
theorem lw_p70 : lw_okq (⟨"NinePortraitsModel", "lookedOf", "(I)I"⟩, 41) := ⟨zlq5, zlw5 (List.mem_of_getElem? (i := 65) rfl), zlw6 (List.mem_of_getElem? (i := 225) rfl), zlw6 (List.mem_of_getElem? (i := 226) rfl)⟩
set_option maxRecDepth 100000 in
theorem lw_p71 : lw_okq (⟨"NinePortraitsModel", "seenOf", "(I)I"⟩, 41) := ⟨zlq5, zlw5 (List.mem_of_getElem? (i := 65) rfl), zlw6 (List.mem_of_getElem? (i := 229) rfl), zlw6 (List.mem_of_getElem? (i := 230) rfl)⟩
set_option maxRecDepth 100000 in
theorem lw_p72 : lw_okq (⟨"NinePortraitsModel", "areMonths", "(I)Z"⟩, 41) := ⟨zlq5, zlw5 (List.mem_of_getElem? (i := 65) rfl), zlw6 (List.mem_of_getElem? (i := 237) rfl), zlw6 (List.mem_of_getElem? (i := 238) rfl)⟩
set_option maxRecDepth 100000 in
theorem lw_p73 : lw_okq (⟨"NinePortraitsModel", "passMonth", "()V"⟩, 41) := ⟨zlq5, zlw5 (List.mem_of_getElem? (i := 65) rfl), zlw7 (List.mem_of_getElem? (i := 1) rfl), zlw7 (List.mem_of_getElem? (i := 2) rfl)⟩
set_option maxRecDepth 100000 in
theorem lw_p74 : lw_okq (⟨"NinePortraitsModel", "drawMonth", "()V"⟩, 41) := ⟨zlq5, zlw5 (List.mem_of_getElem? (i := 65) rfl), zlw7 (List.mem_of_getElem? (i := 13) rfl), zlw7 (List.mem_of_getElem? (i := 14) rfl)⟩
set_option maxRecDepth 100000 in
theorem lw_p75 : lw_okq (⟨"NinePortraitsModel", "draw", "(I)I"⟩, 41) := ⟨zlq5, zlw5 (List.mem_of_getElem? (i := 65) rfl), zlw7 (List.mem_of_getElem? (i := 17) rfl), zlw7 (List.mem_of_getElem? (i := 18) rfl)⟩
set_option maxRecDepth 100000 in
theorem lw_p76 : lw_okq (⟨"NinePortraitsModel", "fitsOf", "(I)I"⟩, 41) := ⟨zlq5, zlw5 (List.mem_of_getElem? (i := 65) rfl), zlw7 (List.mem_of_getElem? (i := 39) rfl), zlw7 (List.mem_of_getElem? (i := 40) rfl)⟩
set_option maxRecDepth 100000 in
theorem lw_p77 : lw_okq (⟨"NinePortraitsModel", "fitsFace", "(II)Z"⟩, 41) := ⟨zlq5, zlw5 (List.mem_of_getElem? (i := 65) rfl), zlw7 (List.mem_of_getElem? (i := 43) rfl), zlw7 (List.mem_of_getElem? (i := 44) rfl)⟩
set_option maxRecDepth 100000 in
theorem lw_p78 : lw_okq (⟨"NinePortraitsModel", "layBeliefs", "(I)V"⟩, 41) := ⟨zlq5, zlw5 (List.mem_of_getElem? (i := 65) rfl), zlw7 (List.mem_of_getElem? (i := 51) rfl), zlw7 (List.mem_of_getElem? (i := 52) rfl)⟩
set_option maxRecDepth 100000 in
theorem lw_p79 : lw_okq (⟨"NinePortraitsModel", "weightOf", "(II)J"⟩, 41) := ⟨zlq5, zlw5 (List.mem_of_getElem? (i := 65) rfl), zlw7 (List.mem_of_getElem? (i := 55) rfl), zlw7 (List.mem_of_getElem? (i := 56) rfl)⟩
def lw_privs_5 : List (MethodName × Nat) := [(⟨"NinePortraitsModel", "latestOf", "(I)I"⟩, 41), (⟨"NinePortraitsModel", "shot", "(II)I"⟩, 41), (⟨"NinePortraitsModel", "isRefused", "(I)Z"⟩, 41), (⟨"NinePortraitsModel", "keep", "()V"⟩, 41), (⟨"NinePortraitsModel", "paintNow", "(II)I"⟩, 41), (⟨"NinePortraitsModel", "isTold", "(III)Z"⟩, 41), (⟨"NinePortraitsModel", "lookedOf", "(I)I"⟩, 41), (⟨"NinePortraitsModel", "seenOf", "(I)I"⟩, 41), (⟨"NinePortraitsModel", "areMonths", "(I)Z"⟩, 41), (⟨"NinePortraitsModel", "passMonth", "()V"⟩, 41), (⟨"NinePortraitsModel", "drawMonth", "()V"⟩, 41), (⟨"NinePortraitsModel", "draw", "(I)I"⟩, 41), (⟨"NinePortraitsModel", "fitsOf", "(I)I"⟩, 41), (⟨"NinePortraitsModel", "fitsFace", "(II)Z"⟩, 41), (⟨"NinePortraitsModel", "layBeliefs", "(I)V"⟩, 41), (⟨"NinePortraitsModel", "weightOf", "(II)J"⟩, 41)]
theorem lw_r5 : ∀ q ∈ lw_privs_5, lw_okq q := List.forall_mem_cons.mpr ⟨lw_p64, List.forall_mem_cons.mpr ⟨lw_p65, List.forall_mem_cons.mpr ⟨lw_p66, List.forall_mem_cons.mpr ⟨lw_p67, List.forall_mem_cons.mpr ⟨lw_p68, List.forall_mem_cons.mpr ⟨lw_p69, List.forall_mem_cons.mpr ⟨lw_p70, List.forall_mem_cons.mpr ⟨lw_p71, List.forall_mem_cons.mpr ⟨lw_p72, List.forall_mem_cons.mpr ⟨lw_p73, List.forall_mem_cons.mpr ⟨lw_p74, List.forall_mem_cons.mpr ⟨lw_p75, List.forall_mem_cons.mpr ⟨lw_p76, List.forall_mem_cons.mpr ⟨lw_p77, List.forall_mem_cons.mpr ⟨lw_p78, List.forall_mem_cons.mpr ⟨lw_p79, fun _ h => absurd h List.not_mem_nil⟩⟩⟩⟩⟩⟩⟩⟩⟩⟩⟩⟩⟩⟩⟩⟩
set_option maxRecDepth 100000 in
theorem lw_p80 : lw_okq (⟨"NinePortraitsModel", "likelyOf", "(I)I"⟩, 41) := ⟨zlq5, zlw5 (List.mem_of_getElem? (i := 65) rfl), zlw7 (List.mem_of_getElem? (i := 64) rfl), zlw7 (List.mem_of_getElem? (i := 65) rfl)⟩
set_option maxRecDepth 100000 in
theorem lw_p81 : lw_okq (⟨"NinePortraitsModel", "alike", "(II)I"⟩, 41) := ⟨zlq5, zlw5 (List.mem_of_getElem? (i := 65) rfl), zlw7 (List.mem_of_getElem? (i := 77) rfl), zlw7 (List.mem_of_getElem? (i := 78) rfl)⟩
set_option maxRecDepth 100000 in
theorem lw_p82 : lw_okq (⟨"NinePortraitsModel", "areReal", "(I)Z"⟩, 41) := ⟨zlq5, zlw5 (List.mem_of_getElem? (i := 65) rfl), zlw7 (List.mem_of_getElem? (i := 86) rfl), zlw7 (List.mem_of_getElem? (i := 87) rfl)⟩
set_option maxRecDepth 100000 in
theorem lw_p83 : lw_okq (⟨"NinePortraitsModel", "isApart", "(II)Z"⟩, 41) := ⟨zlq5, zlw5 (List.mem_of_getElem? (i := 65) rfl), zlw7 (List.mem_of_getElem? (i := 90) rfl), zlw7 (List.mem_of_getElem? (i := 91) rfl)⟩
set_option maxRecDepth 100000 in
theorem lw_p84 : lw_okq (⟨"NinePortraitsModel", "areTold", "(IIII)Z"⟩, 41) := ⟨zlq5, zlw5 (List.mem_of_getElem? (i := 65) rfl), zlw7 (List.mem_of_getElem? (i := 94) rfl), zlw7 (List.mem_of_getElem? (i := 95) rfl)⟩
set_option maxRecDepth 100000 in
theorem lw_p85 : lw_okq (⟨"NinePortraitsModel", "worthBy", "(II)I"⟩, 41) := ⟨zlq5, zlw5 (List.mem_of_getElem? (i := 65) rfl), zlw7 (List.mem_of_getElem? (i := 102) rfl), zlw7 (List.mem_of_getElem? (i := 103) rfl)⟩
set_option maxRecDepth 100000 in
theorem lw_p86 : lw_okq (⟨"NinePortraitsModel", "chosen", "(I)I"⟩, 41) := ⟨zlq5, zlw5 (List.mem_of_getElem? (i := 65) rfl), zlw7 (List.mem_of_getElem? (i := 110) rfl), zlw7 (List.mem_of_getElem? (i := 111) rfl)⟩
set_option maxRecDepth 100000 in
theorem lw_p87 : lw_okq (⟨"NinePortraitsModel", "worthAs", "(II)I"⟩, 41) := ⟨zlq5, zlw5 (List.mem_of_getElem? (i := 65) rfl), zlw7 (List.mem_of_getElem? (i := 114) rfl), zlw7 (List.mem_of_getElem? (i := 115) rfl)⟩
set_option maxRecDepth 100000 in
theorem lw_p88 : lw_okq (⟨"NinePortraitsModel", "areTwo", "(III)Z"⟩, 41) := ⟨zlq5, zlw5 (List.mem_of_getElem? (i := 65) rfl), zlw7 (List.mem_of_getElem? (i := 122) rfl), zlw7 (List.mem_of_getElem? (i := 123) rfl)⟩
set_option maxRecDepth 100000 in
theorem lw_p89 : lw_okq (⟨"NinePortraitsModel", "gameOf", "(IIIII)I"⟩, 41) := ⟨zlq5, zlw5 (List.mem_of_getElem? (i := 65) rfl), zlw7 (List.mem_of_getElem? (i := 127) rfl), zlw7 (List.mem_of_getElem? (i := 128) rfl)⟩
set_option maxRecDepth 100000 in
theorem lw_p90 : lw_okq (⟨"NinePortraitsModel", "isRest", "(IIIII)Z"⟩, 41) := ⟨zlq5, zlw5 (List.mem_of_getElem? (i := 65) rfl), zlw7 (List.mem_of_getElem? (i := 135) rfl), zlw7 (List.mem_of_getElem? (i := 136) rfl)⟩
set_option maxRecDepth 100000 in
theorem lw_p91 : lw_okq (⟨"NinePortraitsModel", "trySends", "(IIIII)V"⟩, 41) := ⟨zlq5, zlw5 (List.mem_of_getElem? (i := 65) rfl), zlw7 (List.mem_of_getElem? (i := 147) rfl), zlw7 (List.mem_of_getElem? (i := 148) rfl)⟩
set_option maxRecDepth 100000 in
theorem lw_p92 : lw_okq (⟨"NinePortraitsModel", "layMatch", "()V"⟩, 41) := ⟨zlq5, zlw5 (List.mem_of_getElem? (i := 65) rfl), zlw7 (List.mem_of_getElem? (i := 169) rfl), zlw7 (List.mem_of_getElem? (i := 170) rfl)⟩
set_option maxRecDepth 100000 in
theorem lw_p93 : lw_okq (⟨"NinePortraitsModel", "asksNext", "(I)I"⟩, 41) := ⟨zlq5, zlw5 (List.mem_of_getElem? (i := 65) rfl), zlw7 (List.mem_of_getElem? (i := 173) rfl), zlw7 (List.mem_of_getElem? (i := 174) rfl)⟩
set_option maxRecDepth 100000 in
theorem lw_p94 : lw_okq (⟨"NinePortraitsModel", "isBetter", "(II)Z"⟩, 41) := ⟨zlq5, zlw5 (List.mem_of_getElem? (i := 65) rfl), zlw7 (List.mem_of_getElem? (i := 177) rfl), zlw7 (List.mem_of_getElem? (i := 178) rfl)⟩
set_option maxRecDepth 100000 in
theorem lw_p95 : lw_okq (⟨"NinePortraitsModel", "mostOf", "(I)I"⟩, 41) := ⟨zlq5, zlw5 (List.mem_of_getElem? (i := 65) rfl), zlw7 (List.mem_of_getElem? (i := 185) rfl), zlw7 (List.mem_of_getElem? (i := 186) rfl)⟩
def lw_privs_6 : List (MethodName × Nat) := [(⟨"NinePortraitsModel", "likelyOf", "(I)I"⟩, 41), (⟨"NinePortraitsModel", "alike", "(II)I"⟩, 41), (⟨"NinePortraitsModel", "areReal", "(I)Z"⟩, 41), (⟨"NinePortraitsModel", "isApart", "(II)Z"⟩, 41), (⟨"NinePortraitsModel", "areTold", "(IIII)Z"⟩, 41), (⟨"NinePortraitsModel", "worthBy", "(II)I"⟩, 41), (⟨"NinePortraitsModel", "chosen", "(I)I"⟩, 41), (⟨"NinePortraitsModel", "worthAs", "(II)I"⟩, 41), (⟨"NinePortraitsModel", "areTwo", "(III)Z"⟩, 41), (⟨"NinePortraitsModel", "gameOf", "(IIIII)I"⟩, 41), (⟨"NinePortraitsModel", "isRest", "(IIIII)Z"⟩, 41), (⟨"NinePortraitsModel", "trySends", "(IIIII)V"⟩, 41), (⟨"NinePortraitsModel", "layMatch", "()V"⟩, 41), (⟨"NinePortraitsModel", "asksNext", "(I)I"⟩, 41), (⟨"NinePortraitsModel", "isBetter", "(II)Z"⟩, 41), (⟨"NinePortraitsModel", "mostOf", "(I)I"⟩, 41)]
theorem lw_r6 : ∀ q ∈ lw_privs_6, lw_okq q := List.forall_mem_cons.mpr ⟨lw_p80, List.forall_mem_cons.mpr ⟨lw_p81, List.forall_mem_cons.mpr ⟨lw_p82, List.forall_mem_cons.mpr ⟨lw_p83, List.forall_mem_cons.mpr ⟨lw_p84, List.forall_mem_cons.mpr ⟨lw_p85, List.forall_mem_cons.mpr ⟨lw_p86, List.forall_mem_cons.mpr ⟨lw_p87, List.forall_mem_cons.mpr ⟨lw_p88, List.forall_mem_cons.mpr ⟨lw_p89, List.forall_mem_cons.mpr ⟨lw_p90, List.forall_mem_cons.mpr ⟨lw_p91, List.forall_mem_cons.mpr ⟨lw_p92, List.forall_mem_cons.mpr ⟨lw_p93, List.forall_mem_cons.mpr ⟨lw_p94, List.forall_mem_cons.mpr ⟨lw_p95, fun _ h => absurd h List.not_mem_nil⟩⟩⟩⟩⟩⟩⟩⟩⟩⟩⟩⟩⟩⟩⟩⟩
set_option maxRecDepth 100000 in
theorem lw_p96 : lw_okq (⟨"NinePortraitsModel", "lies", "()I"⟩, 41) := ⟨zlq5, zlw5 (List.mem_of_getElem? (i := 65) rfl), zlw7 (List.mem_of_getElem? (i := 189) rfl), zlw7 (List.mem_of_getElem? (i := 190) rfl)⟩
def lw_privs_7 : List (MethodName × Nat) := [(⟨"NinePortraitsModel", "lies", "()I"⟩, 41)]
theorem lw_r7 : ∀ q ∈ lw_privs_7, lw_okq q := List.forall_mem_cons.mpr ⟨lw_p96, fun _ h => absurd h List.not_mem_nil⟩
def lw_privs : List (MethodName × Nat) := lw_privs_1 ++ (lw_privs_2 ++ (lw_privs_3 ++ (lw_privs_4 ++ (lw_privs_5 ++ (lw_privs_6 ++ (lw_privs_7))))))
def lw_tbl : List Cond := k2_sels lw_privs ++ tables_1
theorem lw_privs_ok : ∀ q ∈ lw_privs, lw_okq q := by
  show ∀ q ∈ lw_privs_1 ++ (lw_privs_2 ++ (lw_privs_3 ++ (lw_privs_4 ++ (lw_privs_5 ++ (lw_privs_6 ++ (lw_privs_7)))))), lw_okq q
  exact List.forall_mem_append.mpr ⟨lw_r1, List.forall_mem_append.mpr ⟨lw_r2, List.forall_mem_append.mpr ⟨lw_r3, List.forall_mem_append.mpr ⟨lw_r4, List.forall_mem_append.mpr ⟨lw_r5, List.forall_mem_append.mpr ⟨lw_r6, lw_r7⟩⟩⟩⟩⟩⟩
def RX0 : String := "NinePortraits$Acts"
def TX0 : u_T := fun k => match k with
  | 0 => ("NinePortraits$Acts", "rows", "[I", true)
  | 1 => ("NinePortraits$Acts", "place", "I", false)
  | _ => ("NinePortraits$Acts", "count", "I", false)
def tyX0 : Nat → FieldType := fun k => match k with
  | 0 => .array .int
  | 1 => .int
  | _ => .int
theorem nmX0 : ∀ a, a < 3 → ∀ b, b < 3 → a ≠ b → (TX0 a).2.1 ≠ (TX0 b).2.1 := by decide +kernel
theorem tyX0_ok : ∀ k, k < 3 → parseFieldDescriptor (TX0 k).2.2.1 = some (tyX0 k) := by decide +kernel
abbrev cX0_keep : ByteArray := prog_2_method_2_code
def yX0_keep : MethodName := ⟨RX0, "keep", "(LNinePortraits$State;)V"⟩
abbrev cX0_takeBack : ByteArray := prog_2_method_3_code
def yX0_takeBack : MethodName := ⟨RX0, "takeBack", "(LNinePortraits$State;)Z"⟩
abbrev cX0_forget : ByteArray := prog_2_method_4_code
def yX0_forget : MethodName := ⟨RX0, "forget", "()V"⟩
def RX1 : String := "NinePortraits$Court"
def TX1 : u_T := fun k => match k with
  | 0 => ("NinePortraits$Court", "rules", "[I", true)
  | 1 => ("NinePortraits$Court", "brideParts", "[I", true)
  | 2 => ("NinePortraits$Court", "painterParts", "[I", true)
  | 3 => ("NinePortraits$Court", "brides", "I", false)
  | _ => ("NinePortraits$Court", "painters", "I", false)
def tyX1 : Nat → FieldType := fun k => match k with
  | 0 => .array .int
  | 1 => .array .int
  | 2 => .array .int
  | 3 => .int
  | _ => .int
theorem nmX1 : ∀ a, a < 5 → ∀ b, b < 5 → a ≠ b → (TX1 a).2.1 ≠ (TX1 b).2.1 := by decide +kernel
theorem tyX1_ok : ∀ k, k < 5 → parseFieldDescriptor (TX1 k).2.2.1 = some (tyX1 k) := by decide +kernel
abbrev cX1_firstPurse : ByteArray := prog_3_method_3_code
def yX1_firstPurse : MethodName := ⟨RX1, "firstPurse", "()I"⟩
abbrev cX1_wantOfFace : ByteArray := prog_3_method_4_code
def yX1_wantOfFace : MethodName := ⟨RX1, "wantOfFace", "()I"⟩
abbrev cX1_wantOfDowry : ByteArray := prog_3_method_5_code
def yX1_wantOfDowry : MethodName := ⟨RX1, "wantOfDowry", "()I"⟩
abbrev cX1_ofBride : ByteArray := prog_3_method_6_code
def yX1_ofBride : MethodName := ⟨RX1, "ofBride", "(II)I"⟩
abbrev cX1_ofPainter : ByteArray := prog_3_method_7_code
def yX1_ofPainter : MethodName := ⟨RX1, "ofPainter", "(II)I"⟩
abbrev cX1_faceOf : ByteArray := prog_3_method_8_code
def yX1_faceOf : MethodName := ⟨RX1, "faceOf", "(I)I"⟩
abbrev cX1_dowryOf : ByteArray := prog_3_method_9_code
def yX1_dowryOf : MethodName := ⟨RX1, "dowryOf", "(I)I"⟩
abbrev cX1_wartsOf : ByteArray := prog_3_method_10_code
def yX1_wartsOf : MethodName := ⟨RX1, "wartsOf", "(I)I"⟩
abbrev cX1_skillOf : ByteArray := prog_3_method_11_code
def yX1_skillOf : MethodName := ⟨RX1, "skillOf", "(I)I"⟩
abbrev cX1_feeOf : ByteArray := prog_3_method_12_code
def yX1_feeOf : MethodName := ⟨RX1, "feeOf", "(I)I"⟩
abbrev cX1_kindOf : ByteArray := prog_3_method_13_code
def yX1_kindOf : MethodName := ⟨RX1, "kindOf", "(I)I"⟩
abbrev cX1_worthWith : ByteArray := prog_3_method_14_code
def yX1_worthWith : MethodName := ⟨RX1, "worthWith", "(II)I"⟩
abbrev cX1_trueWorth : ByteArray := prog_3_method_15_code
def yX1_trueWorth : MethodName := ⟨RX1, "trueWorth", "(I)I"⟩
abbrev cX1_topBride : ByteArray := prog_3_method_16_code
def yX1_topBride : MethodName := ⟨RX1, "topBride", "(I)I"⟩
abbrev cX1_cheapPainter : ByteArray := prog_3_method_17_code
def yX1_cheapPainter : MethodName := ⟨RX1, "cheapPainter", "()I"⟩
abbrev cX1_rankByFee : ByteArray := prog_3_method_18_code
def yX1_rankByFee : MethodName := ⟨RX1, "rankByFee", "(I)I"⟩
def RX2 : String := "NinePortraits$CourtReader"
def TX2 : u_T := fun k => match k with
  | 0 => ("NinePortraits$CourtReader", "tape", "LNinePortraits$Tape;", false)
  | 1 => ("NinePortraits$CourtReader", "court", "LNinePortraits$Court;", false)
  | _ => ("NinePortraits$CourtReader", "hasRules", "Z", false)
def tyX2 : Nat → FieldType := fun k => match k with
  | 0 => .object "NinePortraits$Tape"
  | 1 => .object "NinePortraits$Court"
  | _ => .boolean
theorem nmX2 : ∀ a, a < 3 → ∀ b, b < 3 → a ≠ b → (TX2 a).2.1 ≠ (TX2 b).2.1 := by decide +kernel
theorem tyX2_ok : ∀ k, k < 3 → parseFieldDescriptor (TX2 k).2.2.1 = some (tyX2 k) := by decide +kernel
def RX3 : String := "NinePortraits$Draws"
def TX3 : u_T := fun k => match k with
  | _ => ("NinePortraits$Draws", "x", "J", false)
def tyX3 : Nat → FieldType := fun k => match k with
  | _ => .long
theorem nmX3 : ∀ a, a < 1 → ∀ b, b < 1 → a ≠ b → (TX3 a).2.1 ≠ (TX3 b).2.1 := by decide +kernel
theorem tyX3_ok : ∀ k, k < 1 → parseFieldDescriptor (TX3 k).2.2.1 = some (tyX3 k) := by decide +kernel
abbrev cX3_begin : ByteArray := prog_5_method_2_code
def yX3_begin : MethodName := ⟨RX3, "begin", "(J)V"⟩
abbrev cX3_below : ByteArray := prog_5_method_3_code
def yX3_below : MethodName := ⟨RX3, "below", "(I)I"⟩
def RX4 : String := "NinePortraits$Law"
def TX4 : u_T := fun k => match k with
  | _ => ("NinePortraits$Law", "steps", "[I", true)
def tyX4 : Nat → FieldType := fun k => match k with
  | _ => .array .int
theorem nmX4 : ∀ a, a < 1 → ∀ b, b < 1 → a ≠ b → (TX4 a).2.1 ≠ (TX4 b).2.1 := by decide +kernel
theorem tyX4_ok : ∀ k, k < 1 → parseFieldDescriptor (TX4 k).2.2.1 = some (tyX4 k) := by decide +kernel
abbrev cX4_answer : ByteArray := prog_6_method_2_code
def yX4_answer : MethodName := ⟨RX4, "answer", "([I[I)I"⟩
abbrev cX4_joined : ByteArray := prog_6_method_3_code
def yX4_joined : MethodName := ⟨RX4, "joined", "(III)I"⟩
def RX5 : String := "NinePortraits$LawReader"
def TX5 : u_T := fun k => match k with
  | 0 => ("NinePortraits$LawReader", "steps", "[I", true)
  | 1 => ("NinePortraits$LawReader", "size", "I", false)
  | _ => ("NinePortraits$LawReader", "tape", "LNinePortraits$Tape;", false)
def tyX5 : Nat → FieldType := fun k => match k with
  | 0 => .array .int
  | 1 => .int
  | _ => .object "NinePortraits$Tape"
theorem nmX5 : ∀ a, a < 3 → ∀ b, b < 3 → a ≠ b → (TX5 a).2.1 ≠ (TX5 b).2.1 := by decide +kernel
theorem tyX5_ok : ∀ k, k < 3 → parseFieldDescriptor (TX5 k).2.2.1 = some (tyX5 k) := by decide +kernel
def RX6 : String := "NinePortraits$Mind"
def TX6 : u_T := fun k => match k with
  | 0 => ("NinePortraits$Mind", "court", "LNinePortraits$Court;", true)
  | 1 => ("NinePortraits$Mind", "state", "LNinePortraits$State;", true)
  | 2 => ("NinePortraits$Mind", "studio", "LNinePortraits$Studio;", true)
  | 3 => ("NinePortraits$Mind", "weights", "[J", true)
  | 4 => ("NinePortraits$Mind", "total", "J", false)
  | 5 => ("NinePortraits$Mind", "likelyFace", "I", false)
  | 6 => ("NinePortraits$Mind", "views", "[I", true)
  | 7 => ("NinePortraits$Mind", "alike", "[I", true)
  | _ => ("NinePortraits$Mind", "tellers", "[I", true)
def tyX6 : Nat → FieldType := fun k => match k with
  | 0 => .object "NinePortraits$Court"
  | 1 => .object "NinePortraits$State"
  | 2 => .object "NinePortraits$Studio"
  | 3 => .array .long
  | 4 => .long
  | 5 => .int
  | 6 => .array .int
  | 7 => .array .int
  | _ => .array .int
theorem nmX6 : ∀ a, a < 9 → ∀ b, b < 9 → a ≠ b → (TX6 a).2.1 ≠ (TX6 b).2.1 := by decide +kernel
theorem tyX6_ok : ∀ k, k < 9 → parseFieldDescriptor (TX6 k).2.2.1 = some (tyX6 k) := by decide +kernel
abbrev cX6_fitting : ByteArray := prog_8_method_2_code
def yX6_fitting : MethodName := ⟨RX6, "fitting", "(I)I"⟩
abbrev cX6_weigh : ByteArray := prog_8_method_3_code
def yX6_weigh : MethodName := ⟨RX6, "weigh", "(I)V"⟩
abbrev cX6_weighBy : ByteArray := prog_8_method_4_code
def yX6_weighBy : MethodName := ⟨RX6, "weighBy", "(II)V"⟩
abbrev cX6_share : ByteArray := prog_8_method_5_code
def yX6_share : MethodName := ⟨RX6, "share", "(I)I"⟩
abbrev cX6_sketches : ByteArray := prog_8_method_6_code
def yX6_sketches : MethodName := ⟨RX6, "sketches", "(I)Z"⟩
abbrev cX6_bestSketcher : ByteArray := prog_8_method_7_code
def yX6_bestSketcher : MethodName := ⟨RX6, "bestSketcher", "(I)I"⟩
abbrev cX6_mostAlike : ByteArray := prog_8_method_8_code
def yX6_mostAlike : MethodName := ⟨RX6, "mostAlike", "(III)I"⟩
abbrev cX6_fewestSketchers : ByteArray := prog_8_method_9_code
def yX6_fewestSketchers : MethodName := ⟨RX6, "fewestSketchers", "(I)I"⟩
abbrev cX6_addTeller : ByteArray := prog_8_method_10_code
def yX6_addTeller : MethodName := ⟨RX6, "addTeller", "(III)I"⟩
abbrev cX6_tellsAll : ByteArray := prog_8_method_11_code
def yX6_tellsAll : MethodName := ⟨RX6, "tellsAll", "(II)Z"⟩
def RX7 : String := "NinePortraits$State"
def TX7 : u_T := fun k => match k with
  | 0 => ("NinePortraits$State", "pays", "[I", true)
  | 1 => ("NinePortraits$State", "fears", "[I", true)
  | 2 => ("NinePortraits$State", "portraits", "[I", true)
  | 3 => ("NinePortraits$State", "painted", "I", false)
  | 4 => ("NinePortraits$State", "letters", "I", false)
  | 5 => ("NinePortraits$State", "shoes", "I", false)
  | 6 => ("NinePortraits$State", "wed", "I", false)
  | 7 => ("NinePortraits$State", "purse", "I", false)
  | _ => ("NinePortraits$State", "month", "I", false)
def tyX7 : Nat → FieldType := fun k => match k with
  | 0 => .array .int
  | 1 => .array .int
  | 2 => .array .int
  | 3 => .int
  | 4 => .int
  | 5 => .int
  | 6 => .int
  | 7 => .int
  | _ => .int
theorem nmX7 : ∀ a, a < 9 → ∀ b, b < 9 → a ≠ b → (TX7 a).2.1 ≠ (TX7 b).2.1 := by decide +kernel
theorem tyX7_ok : ∀ k, k < 9 → parseFieldDescriptor (TX7 k).2.2.1 = some (tyX7 k) := by decide +kernel
abbrev cX7_begin : ByteArray := prog_9_method_2_code
def yX7_begin : MethodName := ⟨RX7, "begin", "(LNinePortraits$Court;)V"⟩
abbrev cX7_become : ByteArray := prog_9_method_3_code
def yX7_become : MethodName := ⟨RX7, "become", "(LNinePortraits$State;)V"⟩
abbrev cX7_writeRow : ByteArray := prog_9_method_4_code
def yX7_writeRow : MethodName := ⟨RX7, "writeRow", "([II)V"⟩
abbrev cX7_readRow : ByteArray := prog_9_method_5_code
def yX7_readRow : MethodName := ⟨RX7, "readRow", "([II)V"⟩
abbrev cX7_passMonth : ByteArray := prog_9_method_6_code
def yX7_passMonth : MethodName := ⟨RX7, "passMonth", "()V"⟩
abbrev cX7_hang : ByteArray := prog_9_method_7_code
def yX7_hang : MethodName := ⟨RX7, "hang", "(III)V"⟩
abbrev cX7_ofPortrait : ByteArray := prog_9_method_8_code
def yX7_ofPortrait : MethodName := ⟨RX7, "ofPortrait", "(II)I"⟩
abbrev cX7_latestBy : ByteArray := prog_9_method_9_code
def yX7_latestBy : MethodName := ⟨RX7, "latestBy", "(I)I"⟩
abbrev cX7_portraitsOf : ByteArray := prog_9_method_10_code
def yX7_portraitsOf : MethodName := ⟨RX7, "portraitsOf", "(I)I"⟩
abbrev cX7_shownTogether : ByteArray := prog_9_method_11_code
def yX7_shownTogether : MethodName := ⟨RX7, "shownTogether", "(I)I"⟩
def RX8 : String := "NinePortraits$Studio"
def TX8 : u_T := fun k => match k with
  | 0 => ("NinePortraits$Studio", "oneLooks", "[I", true)
  | 1 => ("NinePortraits$Studio", "otherLooks", "[I", true)
  | 2 => ("NinePortraits$Studio", "court", "LNinePortraits$Court;", true)
  | 3 => ("NinePortraits$Studio", "state", "LNinePortraits$State;", true)
  | 4 => ("NinePortraits$Studio", "letters", "[I", true)
  | 5 => ("NinePortraits$Studio", "stack", "[I", true)
  | _ => ("NinePortraits$Studio", "law", "LNinePortraits$Law;", false)
def tyX8 : Nat → FieldType := fun k => match k with
  | 0 => .array .int
  | 1 => .array .int
  | 2 => .object "NinePortraits$Court"
  | 3 => .object "NinePortraits$State"
  | 4 => .array .int
  | 5 => .array .int
  | _ => .object "NinePortraits$Law"
theorem nmX8 : ∀ a, a < 7 → ∀ b, b < 7 → a ≠ b → (TX8 a).2.1 ≠ (TX8 b).2.1 := by decide +kernel
theorem tyX8_ok : ∀ k, k < 7 → parseFieldDescriptor (TX8 k).2.2.1 = some (tyX8 k) := by decide +kernel
abbrev cX8_flatteryFor : ByteArray := prog_10_method_2_code
def yX8_flatteryFor : MethodName := ⟨RX8, "flatteryFor", "(II)I"⟩
abbrev cX8_lookOf : ByteArray := prog_10_method_3_code
def yX8_lookOf : MethodName := ⟨RX8, "lookOf", "(IIII)I"⟩
abbrev cX8_showOf : ByteArray := prog_10_method_4_code
def yX8_showOf : MethodName := ⟨RX8, "showOf", "(III)I"⟩
abbrev cX8_fillLooks : ByteArray := prog_10_method_5_code
def yX8_fillLooks : MethodName := ⟨RX8, "fillLooks", "(II[I)V"⟩
def RX9 : String := "NinePortraits$Tape"
def TX9 : u_T := fun k => match k with
  | 0 => ("NinePortraits$Tape", "bytes", "[I", true)
  | 1 => ("NinePortraits$Tape", "length", "I", false)
  | _ => ("NinePortraits$Tape", "at", "I", false)
def tyX9 : Nat → FieldType := fun k => match k with
  | 0 => .array .int
  | 1 => .int
  | _ => .int
theorem nmX9 : ∀ a, a < 3 → ∀ b, b < 3 → a ≠ b → (TX9 a).2.1 ≠ (TX9 b).2.1 := by decide +kernel
theorem tyX9_ok : ∀ k, k < 3 → parseFieldDescriptor (TX9 k).2.2.1 = some (tyX9 k) := by decide +kernel
abbrev cX9_add : ByteArray := prog_11_method_2_code
def yX9_add : MethodName := ⟨RX9, "add", "(I)V"⟩
abbrev cX9_peek : ByteArray := prog_11_method_3_code
def yX9_peek : MethodName := ⟨RX9, "peek", "()I"⟩
abbrev cX9_takes : ByteArray := prog_11_method_4_code
def yX9_takes : MethodName := ⟨RX9, "takes", "(I)Z"⟩
abbrev cX9_number : ByteArray := prog_11_method_5_code
def yX9_number : MethodName := ⟨RX9, "number", "(II)I"⟩
def RX10 : String := "NinePortraits"
def TX10 : u_T := fun k => match k with
  | 0 => ("NinePortraits", "tape", "LNinePortraits$Tape;", true)
  | 1 => ("NinePortraits", "courtReader", "LNinePortraits$CourtReader;", true)
  | 2 => ("NinePortraits", "lawReader", "LNinePortraits$LawReader;", true)
  | 3 => ("NinePortraits", "draft", "LNinePortraits$Court;", true)
  | 4 => ("NinePortraits", "court", "LNinePortraits$Court;", true)
  | 5 => ("NinePortraits", "laws", "[LNinePortraits$Law;", true)
  | 6 => ("NinePortraits", "state", "LNinePortraits$State;", true)
  | 7 => ("NinePortraits", "kept", "LNinePortraits$State;", true)
  | 8 => ("NinePortraits", "acts", "LNinePortraits$Acts;", true)
  | 9 => ("NinePortraits", "studio", "LNinePortraits$Studio;", true)
  | 10 => ("NinePortraits", "mind", "LNinePortraits$Mind;", true)
  | 11 => ("NinePortraits", "draws", "LNinePortraits$Draws;", true)
  | 12 => ("NinePortraits", "refused", "[I", true)
  | 13 => ("NinePortraits", "lawCount", "I", false)
  | 14 => ("NinePortraits", "lawThatHolds", "I", false)
  | 15 => ("NinePortraits", "bribery", "I", false)
  | _ => ("NinePortraits", "hasImage", "Z", false)
def tyX10 : Nat → FieldType := fun k => match k with
  | 0 => .object "NinePortraits$Tape"
  | 1 => .object "NinePortraits$CourtReader"
  | 2 => .object "NinePortraits$LawReader"
  | 3 => .object "NinePortraits$Court"
  | 4 => .object "NinePortraits$Court"
  | 5 => .array (.object "NinePortraits$Law")
  | 6 => .object "NinePortraits$State"
  | 7 => .object "NinePortraits$State"
  | 8 => .object "NinePortraits$Acts"
  | 9 => .object "NinePortraits$Studio"
  | 10 => .object "NinePortraits$Mind"
  | 11 => .object "NinePortraits$Draws"
  | 12 => .array .int
  | 13 => .int
  | 14 => .int
  | 15 => .int
  | _ => .boolean
theorem nmX10 : ∀ a, a < 17 → ∀ b, b < 17 → a ≠ b → (TX10 a).2.1 ≠ (TX10 b).2.1 := by decide +kernel
theorem tyX10_ok : ∀ k, k < 17 → parseFieldDescriptor (TX10 k).2.2.1 = some (tyX10 k) := by decide +kernel
abbrev cX10_feed : ByteArray := prog_1_method_2_code
def yX10_feed : MethodName := ⟨RX10, "feed", "(IIIII)I"⟩
abbrev cX10_end : ByteArray := prog_1_method_3_code
def yX10_end : MethodName := ⟨RX10, "end", "(I)Z"⟩
abbrev cX10_rule : ByteArray := prog_1_method_8_code
def yX10_rule : MethodName := ⟨RX10, "rule", "(I)I"⟩
abbrev cX10_painter : ByteArray := prog_1_method_10_code
def yX10_painter : MethodName := ⟨RX10, "painter", "(II)I"⟩
abbrev cX10_flattery : ByteArray := prog_1_method_12_code
def yX10_flattery : MethodName := ⟨RX10, "flattery", "(II)I"⟩
abbrev cX10_shown : ByteArray := prog_1_method_13_code
def yX10_shown : MethodName := ⟨RX10, "shown", "(III)I"⟩
abbrev cX10_paint : ByteArray := prog_1_method_14_code
def yX10_paint : MethodName := ⟨RX10, "paint", "(II)I"⟩
abbrev cX10_paintNow : ByteArray := prog_1_method_15_code
def yX10_paintNow : MethodName := ⟨RX10, "paintNow", "(II)I"⟩
abbrev cX10_pay : ByteArray := prog_1_method_16_code
def yX10_pay : MethodName := ⟨RX10, "pay", "(II)I"⟩
abbrev cX10_threaten : ByteArray := prog_1_method_17_code
def yX10_threaten : MethodName := ⟨RX10, "threaten", "(I)I"⟩
abbrev cX10_letter : ByteArray := prog_1_method_18_code
def yX10_letter : MethodName := ⟨RX10, "letter", "(I)I"⟩
abbrev cX10_shoe : ByteArray := prog_1_method_19_code
def yX10_shoe : MethodName := ⟨RX10, "shoe", "(I)I"⟩
abbrev cX10_paysToHear : ByteArray := prog_1_method_20_code
def yX10_paysToHear : MethodName := ⟨RX10, "paysToHear", "(III)Z"⟩
abbrev cX10_wed : ByteArray := prog_1_method_21_code
def yX10_wed : MethodName := ⟨RX10, "wed", "(I)I"⟩
abbrev cX10_annul : ByteArray := prog_1_method_22_code
def yX10_annul : MethodName := ⟨RX10, "annul", "()I"⟩
abbrev cX10_months : ByteArray := prog_1_method_23_code
def yX10_months : MethodName := ⟨RX10, "months", "(I)I"⟩
abbrev cX10_bribes : ByteArray := prog_1_method_24_code
def yX10_bribes : MethodName := ⟨RX10, "bribes", "(I)Z"⟩
abbrev cX10_decades : ByteArray := prog_1_method_25_code
def yX10_decades : MethodName := ⟨RX10, "decades", "(IJ)I"⟩
abbrev cX10_paintByDraws : ByteArray := prog_1_method_26_code
def yX10_paintByDraws : MethodName := ⟨RX10, "paintByDraws", "()V"⟩
abbrev cX10_payByDraws : ByteArray := prog_1_method_27_code
def yX10_payByDraws : MethodName := ⟨RX10, "payByDraws", "()V"⟩
abbrev cX10_status : ByteArray := prog_1_method_28_code
def yX10_status : MethodName := ⟨RX10, "status", "(I)I"⟩
abbrev cX10_undo : ByteArray := prog_1_method_29_code
def yX10_undo : MethodName := ⟨RX10, "undo", "()I"⟩
abbrev cX10_portrait : ByteArray := prog_1_method_30_code
def yX10_portrait : MethodName := ⟨RX10, "portrait", "(II)I"⟩
abbrev cX10_fits : ByteArray := prog_1_method_31_code
def yX10_fits : MethodName := ⟨RX10, "fits", "(I)I"⟩
abbrev cX10_belief : ByteArray := prog_1_method_32_code
def yX10_belief : MethodName := ⟨RX10, "belief", "(II)I"⟩
abbrev cX10_likely : ByteArray := prog_1_method_33_code
def yX10_likely : MethodName := ⟨RX10, "likely", "(II)I"⟩
abbrev cX10_sure : ByteArray := prog_1_method_34_code
def yX10_sure : MethodName := ⟨RX10, "sure", "(II)I"⟩
abbrev cX10_next : ByteArray := prog_1_method_35_code
def yX10_next : MethodName := ⟨RX10, "next", "(I)I"⟩
abbrev cX10_apart : ByteArray := prog_1_method_36_code
def yX10_apart : MethodName := ⟨RX10, "apart", "(I)I"⟩
abbrev cX10_worth : ByteArray := prog_1_method_37_code
def yX10_worth : MethodName := ⟨RX10, "worth", "(II)I"⟩
abbrev cX10_chooses : ByteArray := prog_1_method_38_code
def yX10_chooses : MethodName := ⟨RX10, "chooses", "(I)I"⟩
abbrev cX10_choice : ByteArray := prog_1_method_39_code
def yX10_choice : MethodName := ⟨RX10, "choice", "(I)I"⟩
abbrev cX10_game : ByteArray := prog_1_method_40_code
def yX10_game : MethodName := ⟨RX10, "game", "(IIIIII)I"⟩
abbrev cX10_gain : ByteArray := prog_1_method_41_code
def yX10_gain : MethodName := ⟨RX10, "gain", "(III)I"⟩
abbrev cX10_rests : ByteArray := prog_1_method_42_code
def yX10_rests : MethodName := ⟨RX10, "rests", "(IIII)I"⟩
abbrev cX10_bestAgainst : ByteArray := prog_1_method_43_code
def yX10_bestAgainst : MethodName := ⟨RX10, "bestAgainst", "([III)Z"⟩
abbrev cX10_truth : ByteArray := prog_1_method_44_code
def yX10_truth : MethodName := ⟨RX10, "truth", "(II)I"⟩
abbrev cX10_cheapest : ByteArray := prog_1_method_45_code
def yX10_cheapest : MethodName := ⟨RX10, "cheapest", "(II)I"⟩
abbrev cX10_looks : ByteArray := prog_1_method_46_code
def yX10_looks : MethodName := ⟨RX10, "looks", "(I)I"⟩
abbrev cX10_whose : ByteArray := prog_1_method_47_code
def yX10_whose : MethodName := ⟨RX10, "whose", "(II)I"⟩
abbrev cX10_heads : ByteArray := prog_1_method_48_code
def yX10_heads : MethodName := ⟨RX10, "heads", "(III)I"⟩
abbrev cX10_matched : ByteArray := prog_1_method_49_code
def yX10_matched : MethodName := ⟨RX10, "matched", "(I)I"⟩
abbrev cX10_rankByPay : ByteArray := prog_1_method_50_code
def yX10_rankByPay : MethodName := ⟨RX10, "rankByPay", "(I)I"⟩
abbrev cX10_most : ByteArray := prog_1_method_51_code
def yX10_most : MethodName := ⟨RX10, "most", "(I)I"⟩
abbrev cX10_plainBrides : ByteArray := prog_1_method_52_code
def yX10_plainBrides : MethodName := ⟨RX10, "plainBrides", "()I"⟩
abbrev cX10_lies : ByteArray := prog_1_method_53_code
def yX10_lies : MethodName := ⟨RX10, "lies", "()I"⟩
abbrev cX10_above : ByteArray := prog_1_method_54_code
def yX10_above : MethodName := ⟨RX10, "above", "(I)I"⟩
abbrev cX10_seen : ByteArray := prog_1_method_55_code
def yX10_seen : MethodName := ⟨RX10, "seen", "(I)I"⟩
abbrev cX10_saves : ByteArray := prog_1_method_56_code
def yX10_saves : MethodName := ⟨RX10, "saves", "(I)I"⟩
abbrev cX10_rivals : ByteArray := prog_1_method_57_code
def yX10_rivals : MethodName := ⟨RX10, "rivals", "(I)I"⟩
abbrev cX10_affords : ByteArray := prog_1_method_58_code
def yX10_affords : MethodName := ⟨RX10, "affords", "(I)I"⟩
abbrev cX10_told : ByteArray := prog_1_method_59_code
def yX10_told : MethodName := ⟨RX10, "told", "(I)I"⟩
abbrev cX10_image : ByteArray := prog_1_method_60_code
def yX10_image : MethodName := ⟨RX10, "image", "()I"⟩
abbrev cX10_back : ByteArray := prog_1_method_61_code
def yX10_back : MethodName := ⟨RX10, "back", "()I"⟩
abbrev cX10_count : ByteArray := prog_1_method_62_code
def yX10_count : MethodName := ⟨RX10, "count", "(I)I"⟩
abbrev cX10_refuse : ByteArray := prog_1_method_63_code
def yX10_refuse : MethodName := ⟨RX10, "refuse", "(I)I"⟩
abbrev cX10_hasCourt : ByteArray := prog_1_method_64_code
def yX10_hasCourt : MethodName := ⟨RX10, "hasCourt", "()Z"⟩
abbrev cX10_isBride : ByteArray := prog_1_method_65_code
def yX10_isBride : MethodName := ⟨RX10, "isBride", "(I)Z"⟩
abbrev cX10_isPainter : ByteArray := prog_1_method_66_code
def yX10_isPainter : MethodName := ⟨RX10, "isPainter", "(I)Z"⟩
abbrev cX10_canPlay : ByteArray := prog_1_method_67_code
def yX10_canPlay : MethodName := ⟨RX10, "canPlay", "(III)Z"⟩
abbrev cX10_looked : ByteArray := prog_1_method_68_code
def yX10_looked : MethodName := ⟨RX10, "looked", "(I)I"⟩
abbrev cX10_isFace : ByteArray := prog_1_method_69_code
def yX10_isFace : MethodName := ⟨RX10, "isFace", "(I)Z"⟩
abbrev cX10_isDigit : ByteArray := prog_1_method_70_code
def yX10_isDigit : MethodName := ⟨RX10, "isDigit", "(I)Z"⟩
abbrev cX10_bit : ByteArray := prog_1_method_71_code
def yX10_bit : MethodName := ⟨RX10, "bit", "(II)I"⟩
def RX11 : String := "NinePortraitsModel"
def TX11 : u_T := fun k => match k with
  | 0 => ("NinePortraitsModel", "thrown", "I", false)
  | 1 => ("NinePortraitsModel", "tape", "[I", true)
  | 2 => ("NinePortraitsModel", "size", "I", false)
  | 3 => ("NinePortraitsModel", "at", "I", false)
  | 4 => ("NinePortraitsModel", "wrong", "I", false)
  | 5 => ("NinePortraitsModel", "deep", "I", false)
  | 6 => ("NinePortraitsModel", "code", "[I", true)
  | 7 => ("NinePortraitsModel", "value", "[I", true)
  | 8 => ("NinePortraitsModel", "codes", "[I", true)
  | 9 => ("NinePortraitsModel", "clauses", "[I", true)
  | 10 => ("NinePortraitsModel", "testFrom", "[I", true)
  | 11 => ("NinePortraitsModel", "sumFrom", "[I", true)
  | 12 => ("NinePortraitsModel", "sumTo", "[I", true)
  | 13 => ("NinePortraitsModel", "laws", "I", false)
  | 14 => ("NinePortraitsModel", "text", "I", false)
  | 15 => ("NinePortraitsModel", "letters", "[I", true)
  | 16 => ("NinePortraitsModel", "stack", "[I", true)
  | 17 => ("NinePortraitsModel", "readRule", "[I", true)
  | 18 => ("NinePortraitsModel", "readBride", "[I", true)
  | 19 => ("NinePortraitsModel", "readPainter", "[I", true)
  | 20 => ("NinePortraitsModel", "readBrides", "I", false)
  | 21 => ("NinePortraitsModel", "readPainters", "I", false)
  | 22 => ("NinePortraitsModel", "rule", "[I", true)
  | 23 => ("NinePortraitsModel", "bride", "[I", true)
  | 24 => ("NinePortraitsModel", "painter", "[I", true)
  | 25 => ("NinePortraitsModel", "brides", "I", false)
  | 26 => ("NinePortraitsModel", "painters", "I", false)
  | 27 => ("NinePortraitsModel", "now", "[I", true)
  | 28 => ("NinePortraitsModel", "refused", "[I", true)
  | 29 => ("NinePortraitsModel", "holding", "I", false)
  | 30 => ("NinePortraitsModel", "bribes", "I", false)
  | 31 => ("NinePortraitsModel", "kept", "[I", true)
  | 32 => ("NinePortraitsModel", "acts", "I", false)
  | 33 => ("NinePortraitsModel", "draws", "J", false)
  | 34 => ("NinePortraitsModel", "beliefs", "[I", true)
  | 35 => ("NinePortraitsModel", "sendRow", "I", false)
  | 36 => ("NinePortraitsModel", "sendFees", "I", false)
  | 37 => ("NinePortraitsModel", "askedBy", "[I", true)
  | 38 => ("NinePortraitsModel", "holdsOne", "[I", true)
  | 39 => ("NinePortraitsModel", "image", "[I", true)
  | _ => ("NinePortraitsModel", "hasImage", "Z", false)
def tyX11 : Nat → FieldType := fun k => match k with
  | 0 => .int
  | 1 => .array .int
  | 2 => .int
  | 3 => .int
  | 4 => .int
  | 5 => .int
  | 6 => .array .int
  | 7 => .array .int
  | 8 => .array .int
  | 9 => .array .int
  | 10 => .array .int
  | 11 => .array .int
  | 12 => .array .int
  | 13 => .int
  | 14 => .int
  | 15 => .array .int
  | 16 => .array .int
  | 17 => .array .int
  | 18 => .array .int
  | 19 => .array .int
  | 20 => .int
  | 21 => .int
  | 22 => .array .int
  | 23 => .array .int
  | 24 => .array .int
  | 25 => .int
  | 26 => .int
  | 27 => .array .int
  | 28 => .array .int
  | 29 => .int
  | 30 => .int
  | 31 => .array .int
  | 32 => .int
  | 33 => .long
  | 34 => .array .int
  | 35 => .int
  | 36 => .int
  | 37 => .array .int
  | 38 => .array .int
  | 39 => .array .int
  | _ => .boolean
theorem nmX11 : ∀ a, a < 41 → ∀ b, b < 41 → a ≠ b → (TX11 a).2.1 ≠ (TX11 b).2.1 := by decide +kernel
theorem tyX11_ok : ∀ k, k < 41 → parseFieldDescriptor (TX11 k).2.2.1 = some (tyX11 k) := by decide +kernel
def RJ6 : String := "java/lang/Integer"
abbrev cJ6_bitCount_0f7a4 : ByteArray := prog_17_method_49_code
def yJ6_bitCount_0f7a4 : MethodName := ⟨RJ6, "bitCount", "(I)I"⟩
def RJ9 : String := "java/lang/Math"
abbrev cJ9_abs_0f7a4 : ByteArray := prog_18_method_59_code
def yJ9_abs_0f7a4 : MethodName := ⟨RJ9, "abs", "(I)I"⟩
abbrev cJ9_max_7cf53 : ByteArray := prog_18_method_65_code
def yJ9_max_7cf53 : MethodName := ⟨RJ9, "max", "(II)I"⟩
abbrev cJ9_min_7cf53 : ByteArray := prog_18_method_69_code
def yJ9_min_7cf53 : MethodName := ⟨RJ9, "min", "(II)I"⟩
def RJ10 : String := "java/lang/System"
def RJ7 : String := "java/util/Arrays"
abbrev cJ7_fill_53178 : ByteArray := prog_22_method_103_code
def yJ7_fill_53178 : MethodName := ⟨RJ7, "fill", "([II)V"⟩
def RL : String := "NinePortraitsLaw"
abbrev vwCl : List vw_C := [(RX0, TX0, 3), (RX1, TX1, 5), (RX2, TX2, 3), (RX3, TX3, 1), (RX4, TX4, 1), (RX5, TX5, 3), (RX6, TX6, 9), (RX7, TX7, 9), (RX8, TX8, 7), (RX9, TX9, 3), (RX10, TX10, 17), (RX11, TX11, 41)]
